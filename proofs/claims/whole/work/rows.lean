section
-- ===== PART A: goes FIRST, ahead of the names: the tables' words, and 'selects' of the private methods out of them =====
/-- a private method of a class that the tables say can be made, by its rows of tables_1 -/
def lw_okq (q : MethodName × Nat) : Prop := (q.1.cls ≠ "java/lang/invoke/MethodHandle" ∧ q.1.cls ≠ "java/lang/invoke/VarHandle") ∧ Cond.instantiable q.1.cls q.2 ∈ tables_1 ∧ Cond.privateMethod q.1 ∈ tables_1 ∧ Cond.instanceMethod q.1 ∈ tables_1
theorem lw_p0 : lw_okq (⟨"SledgeStove", "fail", "(I)I"⟩, 11) := ⟨⟨by decide +kernel, by decide +kernel⟩, List.mem_of_getElem? (i := 19) (by decide +kernel), List.mem_of_getElem? (i := 212) (by decide +kernel), List.mem_of_getElem? (i := 213) (by decide +kernel)⟩
theorem lw_p1 : lw_okq (⟨"SledgeStove", "endsTooLate", "(I)Z"⟩, 11) := ⟨⟨by decide +kernel, by decide +kernel⟩, List.mem_of_getElem? (i := 19) (by decide +kernel), List.mem_of_getElem? (i := 316) (by decide +kernel), List.mem_of_getElem? (i := 317) (by decide +kernel)⟩
theorem lw_p2 : lw_okq (⟨"SledgeStove", "trial", "()LSledgeStove$Village;"⟩, 11) := ⟨⟨by decide +kernel, by decide +kernel⟩, List.mem_of_getElem? (i := 19) (by decide +kernel), List.mem_of_getElem? (i := 382) (by decide +kernel), List.mem_of_getElem? (i := 383) (by decide +kernel)⟩
theorem lw_p3 : lw_okq (⟨"SledgeStove", "cannotStart", "(I)Z"⟩, 11) := ⟨⟨by decide +kernel, by decide +kernel⟩, List.mem_of_getElem? (i := 19) (by decide +kernel), List.mem_of_getElem? (i := 411) (by decide +kernel), List.mem_of_getElem? (i := 412) (by decide +kernel)⟩
theorem lw_p4 : lw_okq (⟨"SledgeStove", "sentTo", "(II)LSledgeStove$Village;"⟩, 11) := ⟨⟨by decide +kernel, by decide +kernel⟩, List.mem_of_getElem? (i := 19) (by decide +kernel), List.mem_of_getElem? (i := 419) (by decide +kernel), List.mem_of_getElem? (i := 420) (by decide +kernel)⟩
theorem lw_p5 : lw_okq (⟨"SledgeStove", "leastValue", "(III)I"⟩, 11) := ⟨⟨by decide +kernel, by decide +kernel⟩, List.mem_of_getElem? (i := 19) (by decide +kernel), List.mem_of_getElem? (i := 435) (by decide +kernel), List.mem_of_getElem? (i := 436) (by decide +kernel)⟩
theorem lw_p6 : lw_okq (⟨"SledgeStove", "changed", "(IIII)LSledgeStove$House;"⟩, 11) := ⟨⟨by decide +kernel, by decide +kernel⟩, List.mem_of_getElem? (i := 19) (by decide +kernel), List.mem_of_getElem? (i := 439) (by decide +kernel), List.mem_of_getElem? (i := 440) (by decide +kernel)⟩
theorem lw_p7 : lw_okq (⟨"SledgeStove", "roundFinding", "(I)I"⟩, 11) := ⟨⟨by decide +kernel, by decide +kernel⟩, List.mem_of_getElem? (i := 19) (by decide +kernel), List.mem_of_getElem? (i := 461) (by decide +kernel), List.mem_of_getElem? (i := 462) (by decide +kernel)⟩
theorem lw_p8 : lw_okq (⟨"SledgeStove", "wholeRound", "(I)LSledgeStove$Village;"⟩, 11) := ⟨⟨by decide +kernel, by decide +kernel⟩, List.mem_of_getElem? (i := 19) (by decide +kernel), List.mem_of_getElem? (i := 465) (by decide +kernel), List.mem_of_getElem? (i := 466) (by decide +kernel)⟩
theorem lw_p9 : lw_okq (⟨"SledgeStove", "tryThrees", "(ILSledgeStove$Wish;)V"⟩, 11) := ⟨⟨by decide +kernel, by decide +kernel⟩, List.mem_of_getElem? (i := 19) (by decide +kernel), List.mem_of_getElem? (i := 509) (by decide +kernel), List.mem_of_getElem? (i := 510) (by decide +kernel)⟩
theorem lw_p10 : lw_okq (⟨"SledgeStove", "sheetAt", "(I)LSledgeStove$Sheet;"⟩, 11) := ⟨⟨by decide +kernel, by decide +kernel⟩, List.mem_of_getElem? (i := 19) (by decide +kernel), List.mem_of_getElem? (i := 749) (by decide +kernel), List.mem_of_getElem? (i := 750) (by decide +kernel)⟩
theorem lw_p11 : lw_okq (⟨"SledgeStove", "tellsHouses", "(LSledgeStove$Sheet;)Z"⟩, 11) := ⟨⟨by decide +kernel, by decide +kernel⟩, List.mem_of_getElem? (i := 19) (by decide +kernel), List.mem_of_getElem? (i := 790) (by decide +kernel), List.mem_of_getElem? (i := 791) (by decide +kernel)⟩
theorem lw_p12 : lw_okq (⟨"SledgeStoveModel", "finds", "(I)I"⟩, 26) := ⟨⟨by decide +kernel, by decide +kernel⟩, List.mem_of_getElem? (i := 840) (by decide +kernel), List.mem_of_getElem? (i := 934) (by decide +kernel), List.mem_of_getElem? (i := 935) (by decide +kernel)⟩
theorem lw_p13 : lw_okq (⟨"SledgeStoveModel", "newHouse", "(IIIII)I"⟩, 26) := ⟨⟨by decide +kernel, by decide +kernel⟩, List.mem_of_getElem? (i := 840) (by decide +kernel), List.mem_of_getElem? (i := 939) (by decide +kernel), List.mem_of_getElem? (i := 940) (by decide +kernel)⟩
theorem lw_p14 : lw_okq (⟨"SledgeStoveModel", "isHouse", "(I)Z"⟩, 26) := ⟨⟨by decide +kernel, by decide +kernel⟩, List.mem_of_getElem? (i := 840) (by decide +kernel), List.mem_of_getElem? (i := 950) (by decide +kernel), List.mem_of_getElem? (i := 951) (by decide +kernel)⟩
theorem lw_p15 : lw_okq (⟨"SledgeStoveModel", "its", "(II)I"⟩, 26) := ⟨⟨by decide +kernel, by decide +kernel⟩, List.mem_of_getElem? (i := 840) (by decide +kernel), List.mem_of_getElem? (i := 955) (by decide +kernel), List.mem_of_getElem? (i := 956) (by decide +kernel)⟩
def lw_privs_1 : List (MethodName × Nat) := [(⟨"SledgeStove", "fail", "(I)I"⟩, 11), (⟨"SledgeStove", "endsTooLate", "(I)Z"⟩, 11), (⟨"SledgeStove", "trial", "()LSledgeStove$Village;"⟩, 11), (⟨"SledgeStove", "cannotStart", "(I)Z"⟩, 11), (⟨"SledgeStove", "sentTo", "(II)LSledgeStove$Village;"⟩, 11), (⟨"SledgeStove", "leastValue", "(III)I"⟩, 11), (⟨"SledgeStove", "changed", "(IIII)LSledgeStove$House;"⟩, 11), (⟨"SledgeStove", "roundFinding", "(I)I"⟩, 11), (⟨"SledgeStove", "wholeRound", "(I)LSledgeStove$Village;"⟩, 11), (⟨"SledgeStove", "tryThrees", "(ILSledgeStove$Wish;)V"⟩, 11), (⟨"SledgeStove", "sheetAt", "(I)LSledgeStove$Sheet;"⟩, 11), (⟨"SledgeStove", "tellsHouses", "(LSledgeStove$Sheet;)Z"⟩, 11), (⟨"SledgeStoveModel", "finds", "(I)I"⟩, 26), (⟨"SledgeStoveModel", "newHouse", "(IIIII)I"⟩, 26), (⟨"SledgeStoveModel", "isHouse", "(I)Z"⟩, 26), (⟨"SledgeStoveModel", "its", "(II)I"⟩, 26)]
theorem lw_r1 : ∀ q ∈ lw_privs_1, lw_okq q := List.forall_mem_cons.mpr ⟨lw_p0, List.forall_mem_cons.mpr ⟨lw_p1, List.forall_mem_cons.mpr ⟨lw_p2, List.forall_mem_cons.mpr ⟨lw_p3, List.forall_mem_cons.mpr ⟨lw_p4, List.forall_mem_cons.mpr ⟨lw_p5, List.forall_mem_cons.mpr ⟨lw_p6, List.forall_mem_cons.mpr ⟨lw_p7, List.forall_mem_cons.mpr ⟨lw_p8, List.forall_mem_cons.mpr ⟨lw_p9, List.forall_mem_cons.mpr ⟨lw_p10, List.forall_mem_cons.mpr ⟨lw_p11, List.forall_mem_cons.mpr ⟨lw_p12, List.forall_mem_cons.mpr ⟨lw_p13, List.forall_mem_cons.mpr ⟨lw_p14, List.forall_mem_cons.mpr ⟨lw_p15, fun _ h => absurd h List.not_mem_nil⟩⟩⟩⟩⟩⟩⟩⟩⟩⟩⟩⟩⟩⟩⟩⟩
theorem lw_p16 : lw_okq (⟨"SledgeStoveModel", "heats", "(I)I"⟩, 26) := ⟨⟨by decide +kernel, by decide +kernel⟩, List.mem_of_getElem? (i := 840) (by decide +kernel), List.mem_of_getElem? (i := 959) (by decide +kernel), List.mem_of_getElem? (i := 960) (by decide +kernel)⟩
theorem lw_p17 : lw_okq (⟨"SledgeStoveModel", "loses", "(I)I"⟩, 26) := ⟨⟨by decide +kernel, by decide +kernel⟩, List.mem_of_getElem? (i := 840) (by decide +kernel), List.mem_of_getElem? (i := 963) (by decide +kernel), List.mem_of_getElem? (i := 964) (by decide +kernel)⟩
theorem lw_p18 : lw_okq (⟨"SledgeStoveModel", "burns", "(I)I"⟩, 26) := ⟨⟨by decide +kernel, by decide +kernel⟩, List.mem_of_getElem? (i := 840) (by decide +kernel), List.mem_of_getElem? (i := 967) (by decide +kernel), List.mem_of_getElem? (i := 968) (by decide +kernel)⟩
theorem lw_p19 : lw_okq (⟨"SledgeStoveModel", "wayOf", "(II)I"⟩, 26) := ⟨⟨by decide +kernel, by decide +kernel⟩, List.mem_of_getElem? (i := 840) (by decide +kernel), List.mem_of_getElem? (i := 1000) (by decide +kernel), List.mem_of_getElem? (i := 1001) (by decide +kernel)⟩
theorem lw_p20 : lw_okq (⟨"SledgeStoveModel", "isGoing", "()Z"⟩, 26) := ⟨⟨by decide +kernel, by decide +kernel⟩, List.mem_of_getElem? (i := 840) (by decide +kernel), List.mem_of_getElem? (i := 1008) (by decide +kernel), List.mem_of_getElem? (i := 1009) (by decide +kernel)⟩
theorem lw_p21 : lw_okq (⟨"SledgeStoveModel", "sends", "(I)V"⟩, 26) := ⟨⟨by decide +kernel, by decide +kernel⟩, List.mem_of_getElem? (i := 840) (by decide +kernel), List.mem_of_getElem? (i := 1012) (by decide +kernel), List.mem_of_getElem? (i := 1013) (by decide +kernel)⟩
theorem lw_p22 : lw_okq (⟨"SledgeStoveModel", "isTooLate", "(I)Z"⟩, 26) := ⟨⟨by decide +kernel, by decide +kernel⟩, List.mem_of_getElem? (i := 840) (by decide +kernel), List.mem_of_getElem? (i := 1021) (by decide +kernel), List.mem_of_getElem? (i := 1022) (by decide +kernel)⟩
theorem lw_p23 : lw_okq (⟨"SledgeStoveModel", "sumOf", "(I)I"⟩, 26) := ⟨⟨by decide +kernel, by decide +kernel⟩, List.mem_of_getElem? (i := 840) (by decide +kernel), List.mem_of_getElem? (i := 1025) (by decide +kernel), List.mem_of_getElem? (i := 1026) (by decide +kernel)⟩
theorem lw_p24 : lw_okq (⟨"SledgeStoveModel", "quartersGo", "(I)V"⟩, 26) := ⟨⟨by decide +kernel, by decide +kernel⟩, List.mem_of_getElem? (i := 840) (by decide +kernel), List.mem_of_getElem? (i := 1029) (by decide +kernel), List.mem_of_getElem? (i := 1030) (by decide +kernel)⟩
theorem lw_p25 : lw_okq (⟨"SledgeStoveModel", "quarter", "()V"⟩, 26) := ⟨⟨by decide +kernel, by decide +kernel⟩, List.mem_of_getElem? (i := 840) (by decide +kernel), List.mem_of_getElem? (i := 1033) (by decide +kernel), List.mem_of_getElem? (i := 1034) (by decide +kernel)⟩
theorem lw_p26 : lw_okq (⟨"SledgeStoveModel", "warms", "(II)V"⟩, 26) := ⟨⟨by decide +kernel, by decide +kernel⟩, List.mem_of_getElem? (i := 840) (by decide +kernel), List.mem_of_getElem? (i := 1037) (by decide +kernel), List.mem_of_getElem? (i := 1038) (by decide +kernel)⟩
theorem lw_p27 : lw_okq (⟨"SledgeStoveModel", "getsOf", "(II)V"⟩, 26) := ⟨⟨by decide +kernel, by decide +kernel⟩, List.mem_of_getElem? (i := 840) (by decide +kernel), List.mem_of_getElem? (i := 1041) (by decide +kernel), List.mem_of_getElem? (i := 1042) (by decide +kernel)⟩
theorem lw_p28 : lw_okq (⟨"SledgeStoveModel", "coldSet", "()I"⟩, 26) := ⟨⟨by decide +kernel, by decide +kernel⟩, List.mem_of_getElem? (i := 840) (by decide +kernel), List.mem_of_getElem? (i := 1049) (by decide +kernel), List.mem_of_getElem? (i := 1050) (by decide +kernel)⟩
theorem lw_p29 : lw_okq (⟨"SledgeStoveModel", "isCold", "(I)Z"⟩, 26) := ⟨⟨by decide +kernel, by decide +kernel⟩, List.mem_of_getElem? (i := 840) (by decide +kernel), List.mem_of_getElem? (i := 1053) (by decide +kernel), List.mem_of_getElem? (i := 1054) (by decide +kernel)⟩
theorem lw_p30 : lw_okq (⟨"SledgeStoveModel", "saves", "()V"⟩, 26) := ⟨⟨by decide +kernel, by decide +kernel⟩, List.mem_of_getElem? (i := 840) (by decide +kernel), List.mem_of_getElem? (i := 1061) (by decide +kernel), List.mem_of_getElem? (i := 1062) (by decide +kernel)⟩
theorem lw_p31 : lw_okq (⟨"SledgeStoveModel", "leastWarmth", "()I"⟩, 26) := ⟨⟨by decide +kernel, by decide +kernel⟩, List.mem_of_getElem? (i := 840) (by decide +kernel), List.mem_of_getElem? (i := 1065) (by decide +kernel), List.mem_of_getElem? (i := 1066) (by decide +kernel)⟩
def lw_privs_2 : List (MethodName × Nat) := [(⟨"SledgeStoveModel", "heats", "(I)I"⟩, 26), (⟨"SledgeStoveModel", "loses", "(I)I"⟩, 26), (⟨"SledgeStoveModel", "burns", "(I)I"⟩, 26), (⟨"SledgeStoveModel", "wayOf", "(II)I"⟩, 26), (⟨"SledgeStoveModel", "isGoing", "()Z"⟩, 26), (⟨"SledgeStoveModel", "sends", "(I)V"⟩, 26), (⟨"SledgeStoveModel", "isTooLate", "(I)Z"⟩, 26), (⟨"SledgeStoveModel", "sumOf", "(I)I"⟩, 26), (⟨"SledgeStoveModel", "quartersGo", "(I)V"⟩, 26), (⟨"SledgeStoveModel", "quarter", "()V"⟩, 26), (⟨"SledgeStoveModel", "warms", "(II)V"⟩, 26), (⟨"SledgeStoveModel", "getsOf", "(II)V"⟩, 26), (⟨"SledgeStoveModel", "coldSet", "()I"⟩, 26), (⟨"SledgeStoveModel", "isCold", "(I)Z"⟩, 26), (⟨"SledgeStoveModel", "saves", "()V"⟩, 26), (⟨"SledgeStoveModel", "leastWarmth", "()I"⟩, 26)]
theorem lw_r2 : ∀ q ∈ lw_privs_2, lw_okq q := List.forall_mem_cons.mpr ⟨lw_p16, List.forall_mem_cons.mpr ⟨lw_p17, List.forall_mem_cons.mpr ⟨lw_p18, List.forall_mem_cons.mpr ⟨lw_p19, List.forall_mem_cons.mpr ⟨lw_p20, List.forall_mem_cons.mpr ⟨lw_p21, List.forall_mem_cons.mpr ⟨lw_p22, List.forall_mem_cons.mpr ⟨lw_p23, List.forall_mem_cons.mpr ⟨lw_p24, List.forall_mem_cons.mpr ⟨lw_p25, List.forall_mem_cons.mpr ⟨lw_p26, List.forall_mem_cons.mpr ⟨lw_p27, List.forall_mem_cons.mpr ⟨lw_p28, List.forall_mem_cons.mpr ⟨lw_p29, List.forall_mem_cons.mpr ⟨lw_p30, List.forall_mem_cons.mpr ⟨lw_p31, fun _ h => absurd h List.not_mem_nil⟩⟩⟩⟩⟩⟩⟩⟩⟩⟩⟩⟩⟩⟩⟩⟩
theorem lw_p32 : lw_okq (⟨"SledgeStoveModel", "putsBack", "()V"⟩, 26) := ⟨⟨by decide +kernel, by decide +kernel⟩, List.mem_of_getElem? (i := 840) (by decide +kernel), List.mem_of_getElem? (i := 1069) (by decide +kernel), List.mem_of_getElem? (i := 1070) (by decide +kernel)⟩
theorem lw_p33 : lw_okq (⟨"SledgeStoveModel", "isFixed", "(I)Z"⟩, 26) := ⟨⟨by decide +kernel, by decide +kernel⟩, List.mem_of_getElem? (i := 840) (by decide +kernel), List.mem_of_getElem? (i := 1089) (by decide +kernel), List.mem_of_getElem? (i := 1090) (by decide +kernel)⟩
theorem lw_p34 : lw_okq (⟨"SledgeStoveModel", "isAbove", "(I)Z"⟩, 26) := ⟨⟨by decide +kernel, by decide +kernel⟩, List.mem_of_getElem? (i := 840) (by decide +kernel), List.mem_of_getElem? (i := 1101) (by decide +kernel), List.mem_of_getElem? (i := 1102) (by decide +kernel)⟩
theorem lw_p35 : lw_okq (⟨"SledgeStoveModel", "leastPart", "(IIIII)I"⟩, 26) := ⟨⟨by decide +kernel, by decide +kernel⟩, List.mem_of_getElem? (i := 840) (by decide +kernel), List.mem_of_getElem? (i := 1109) (by decide +kernel), List.mem_of_getElem? (i := 1110) (by decide +kernel)⟩
theorem lw_p36 : lw_okq (⟨"SledgeStoveModel", "isBarred", "()Z"⟩, 26) := ⟨⟨by decide +kernel, by decide +kernel⟩, List.mem_of_getElem? (i := 840) (by decide +kernel), List.mem_of_getElem? (i := 1133) (by decide +kernel), List.mem_of_getElem? (i := 1134) (by decide +kernel)⟩
theorem lw_p37 : lw_okq (⟨"SledgeStoveModel", "leastRound", "(I)I"⟩, 26) := ⟨⟨by decide +kernel, by decide +kernel⟩, List.mem_of_getElem? (i := 840) (by decide +kernel), List.mem_of_getElem? (i := 1137) (by decide +kernel), List.mem_of_getElem? (i := 1138) (by decide +kernel)⟩
theorem lw_p38 : lw_okq (⟨"SledgeStoveModel", "goesRound", "(I)V"⟩, 26) := ⟨⟨by decide +kernel, by decide +kernel⟩, List.mem_of_getElem? (i := 840) (by decide +kernel), List.mem_of_getElem? (i := 1141) (by decide +kernel), List.mem_of_getElem? (i := 1142) (by decide +kernel)⟩
theorem lw_p39 : lw_okq (⟨"SledgeStoveModel", "begins", "()V"⟩, 26) := ⟨⟨by decide +kernel, by decide +kernel⟩, List.mem_of_getElem? (i := 840) (by decide +kernel), List.mem_of_getElem? (i := 1145) (by decide +kernel), List.mem_of_getElem? (i := 1146) (by decide +kernel)⟩
theorem lw_p40 : lw_okq (⟨"SledgeStoveModel", "visits", "(II)V"⟩, 26) := ⟨⟨by decide +kernel, by decide +kernel⟩, List.mem_of_getElem? (i := 840) (by decide +kernel), List.mem_of_getElem? (i := 1149) (by decide +kernel), List.mem_of_getElem? (i := 1150) (by decide +kernel)⟩
theorem lw_p41 : lw_okq (⟨"SledgeStoveModel", "watches", "(I)V"⟩, 26) := ⟨⟨by decide +kernel, by decide +kernel⟩, List.mem_of_getElem? (i := 840) (by decide +kernel), List.mem_of_getElem? (i := 1153) (by decide +kernel), List.mem_of_getElem? (i := 1154) (by decide +kernel)⟩
theorem lw_p42 : lw_okq (⟨"SledgeStoveModel", "isDone", "()Z"⟩, 26) := ⟨⟨by decide +kernel, by decide +kernel⟩, List.mem_of_getElem? (i := 840) (by decide +kernel), List.mem_of_getElem? (i := 1157) (by decide +kernel), List.mem_of_getElem? (i := 1158) (by decide +kernel)⟩
theorem lw_p43 : lw_okq (⟨"SledgeStoveModel", "threes", "(III)V"⟩, 26) := ⟨⟨by decide +kernel, by decide +kernel⟩, List.mem_of_getElem? (i := 840) (by decide +kernel), List.mem_of_getElem? (i := 1169) (by decide +kernel), List.mem_of_getElem? (i := 1170) (by decide +kernel)⟩
theorem lw_p44 : lw_okq (⟨"SledgeStoveModel", "seconds", "(IIII)V"⟩, 26) := ⟨⟨by decide +kernel, by decide +kernel⟩, List.mem_of_getElem? (i := 840) (by decide +kernel), List.mem_of_getElem? (i := 1173) (by decide +kernel), List.mem_of_getElem? (i := 1174) (by decide +kernel)⟩
theorem lw_p45 : lw_okq (⟨"SledgeStoveModel", "stands", "(I)V"⟩, 26) := ⟨⟨by decide +kernel, by decide +kernel⟩, List.mem_of_getElem? (i := 840) (by decide +kernel), List.mem_of_getElem? (i := 1177) (by decide +kernel), List.mem_of_getElem? (i := 1178) (by decide +kernel)⟩
theorem lw_p46 : lw_okq (⟨"SledgeStoveModel", "thirds", "(IIII)V"⟩, 26) := ⟨⟨by decide +kernel, by decide +kernel⟩, List.mem_of_getElem? (i := 840) (by decide +kernel), List.mem_of_getElem? (i := 1181) (by decide +kernel), List.mem_of_getElem? (i := 1182) (by decide +kernel)⟩
theorem lw_p47 : lw_okq (⟨"SledgeStoveModel", "ended", "(III)V"⟩, 26) := ⟨⟨by decide +kernel, by decide +kernel⟩, List.mem_of_getElem? (i := 840) (by decide +kernel), List.mem_of_getElem? (i := 1185) (by decide +kernel), List.mem_of_getElem? (i := 1186) (by decide +kernel)⟩
def lw_privs_3 : List (MethodName × Nat) := [(⟨"SledgeStoveModel", "putsBack", "()V"⟩, 26), (⟨"SledgeStoveModel", "isFixed", "(I)Z"⟩, 26), (⟨"SledgeStoveModel", "isAbove", "(I)Z"⟩, 26), (⟨"SledgeStoveModel", "leastPart", "(IIIII)I"⟩, 26), (⟨"SledgeStoveModel", "isBarred", "()Z"⟩, 26), (⟨"SledgeStoveModel", "leastRound", "(I)I"⟩, 26), (⟨"SledgeStoveModel", "goesRound", "(I)V"⟩, 26), (⟨"SledgeStoveModel", "begins", "()V"⟩, 26), (⟨"SledgeStoveModel", "visits", "(II)V"⟩, 26), (⟨"SledgeStoveModel", "watches", "(I)V"⟩, 26), (⟨"SledgeStoveModel", "isDone", "()Z"⟩, 26), (⟨"SledgeStoveModel", "threes", "(III)V"⟩, 26), (⟨"SledgeStoveModel", "seconds", "(IIII)V"⟩, 26), (⟨"SledgeStoveModel", "stands", "(I)V"⟩, 26), (⟨"SledgeStoveModel", "thirds", "(IIII)V"⟩, 26), (⟨"SledgeStoveModel", "ended", "(III)V"⟩, 26)]
theorem lw_r3 : ∀ q ∈ lw_privs_3, lw_okq q := List.forall_mem_cons.mpr ⟨lw_p32, List.forall_mem_cons.mpr ⟨lw_p33, List.forall_mem_cons.mpr ⟨lw_p34, List.forall_mem_cons.mpr ⟨lw_p35, List.forall_mem_cons.mpr ⟨lw_p36, List.forall_mem_cons.mpr ⟨lw_p37, List.forall_mem_cons.mpr ⟨lw_p38, List.forall_mem_cons.mpr ⟨lw_p39, List.forall_mem_cons.mpr ⟨lw_p40, List.forall_mem_cons.mpr ⟨lw_p41, List.forall_mem_cons.mpr ⟨lw_p42, List.forall_mem_cons.mpr ⟨lw_p43, List.forall_mem_cons.mpr ⟨lw_p44, List.forall_mem_cons.mpr ⟨lw_p45, List.forall_mem_cons.mpr ⟨lw_p46, List.forall_mem_cons.mpr ⟨lw_p47, fun _ h => absurd h List.not_mem_nil⟩⟩⟩⟩⟩⟩⟩⟩⟩⟩⟩⟩⟩⟩⟩⟩
theorem lw_p48 : lw_okq (⟨"SledgeStoveModel", "standsAgain", "(I)V"⟩, 26) := ⟨⟨by decide +kernel, by decide +kernel⟩, List.mem_of_getElem? (i := 840) (by decide +kernel), List.mem_of_getElem? (i := 1189) (by decide +kernel), List.mem_of_getElem? (i := 1190) (by decide +kernel)⟩
theorem lw_p49 : lw_okq (⟨"SledgeStoveModel", "draw", "()I"⟩, 26) := ⟨⟨by decide +kernel, by decide +kernel⟩, List.mem_of_getElem? (i := 840) (by decide +kernel), List.mem_of_getElem? (i := 1213) (by decide +kernel), List.mem_of_getElem? (i := 1214) (by decide +kernel)⟩
theorem lw_p50 : lw_okq (⟨"SledgeStoveModel", "token", "()V"⟩, 26) := ⟨⟨by decide +kernel, by decide +kernel⟩, List.mem_of_getElem? (i := 840) (by decide +kernel), List.mem_of_getElem? (i := 1238) (by decide +kernel), List.mem_of_getElem? (i := 1239) (by decide +kernel)⟩
theorem lw_p51 : lw_okq (⟨"SledgeStoveModel", "byteAt", "(I)I"⟩, 26) := ⟨⟨by decide +kernel, by decide +kernel⟩, List.mem_of_getElem? (i := 840) (by decide +kernel), List.mem_of_getElem? (i := 1242) (by decide +kernel), List.mem_of_getElem? (i := 1243) (by decide +kernel)⟩
theorem lw_p52 : lw_okq (⟨"SledgeStoveModel", "item", "()V"⟩, 26) := ⟨⟨by decide +kernel, by decide +kernel⟩, List.mem_of_getElem? (i := 840) (by decide +kernel), List.mem_of_getElem? (i := 1256) (by decide +kernel), List.mem_of_getElem? (i := 1257) (by decide +kernel)⟩
theorem lw_p53 : lw_okq (⟨"SledgeStoveModel", "kindHere", "()I"⟩, 26) := ⟨⟨by decide +kernel, by decide +kernel⟩, List.mem_of_getElem? (i := 840) (by decide +kernel), List.mem_of_getElem? (i := 1260) (by decide +kernel), List.mem_of_getElem? (i := 1261) (by decide +kernel)⟩
theorem lw_p54 : lw_okq (⟨"SledgeStoveModel", "word", "()J"⟩, 26) := ⟨⟨by decide +kernel, by decide +kernel⟩, List.mem_of_getElem? (i := 840) (by decide +kernel), List.mem_of_getElem? (i := 1264) (by decide +kernel), List.mem_of_getElem? (i := 1265) (by decide +kernel)⟩
theorem lw_p55 : lw_okq (⟨"SledgeStoveModel", "houseItem", "(I)V"⟩, 26) := ⟨⟨by decide +kernel, by decide +kernel⟩, List.mem_of_getElem? (i := 840) (by decide +kernel), List.mem_of_getElem? (i := 1277) (by decide +kernel), List.mem_of_getElem? (i := 1278) (by decide +kernel)⟩
theorem lw_p56 : lw_okq (⟨"SledgeStoveModel", "needs", "(Z)V"⟩, 26) := ⟨⟨by decide +kernel, by decide +kernel⟩, List.mem_of_getElem? (i := 840) (by decide +kernel), List.mem_of_getElem? (i := 1281) (by decide +kernel), List.mem_of_getElem? (i := 1282) (by decide +kernel)⟩
theorem lw_p57 : lw_okq (⟨"SledgeStoveModel", "perhaps", "(ZIII)I"⟩, 26) := ⟨⟨by decide +kernel, by decide +kernel⟩, List.mem_of_getElem? (i := 840) (by decide +kernel), List.mem_of_getElem? (i := 1286) (by decide +kernel), List.mem_of_getElem? (i := 1287) (by decide +kernel)⟩
theorem lw_p58 : lw_okq (⟨"SledgeStoveModel", "number", "(II)V"⟩, 26) := ⟨⟨by decide +kernel, by decide +kernel⟩, List.mem_of_getElem? (i := 840) (by decide +kernel), List.mem_of_getElem? (i := 1290) (by decide +kernel), List.mem_of_getElem? (i := 1291) (by decide +kernel)⟩
theorem lw_p59 : lw_okq (⟨"SledgeStoveModel", "steepItem", "()V"⟩, 26) := ⟨⟨by decide +kernel, by decide +kernel⟩, List.mem_of_getElem? (i := 840) (by decide +kernel), List.mem_of_getElem? (i := 1298) (by decide +kernel), List.mem_of_getElem? (i := 1299) (by decide +kernel)⟩
theorem lw_p60 : lw_okq (⟨"SledgeStoveModel", "wrong", "(I)I"⟩, 26) := ⟨⟨by decide +kernel, by decide +kernel⟩, List.mem_of_getElem? (i := 840) (by decide +kernel), List.mem_of_getElem? (i := 1328) (by decide +kernel), List.mem_of_getElem? (i := 1329) (by decide +kernel)⟩
theorem lw_p61 : lw_okq (⟨"SledgeStoveModel", "held", "()I"⟩, 26) := ⟨⟨by decide +kernel, by decide +kernel⟩, List.mem_of_getElem? (i := 840) (by decide +kernel), List.mem_of_getElem? (i := 1371) (by decide +kernel), List.mem_of_getElem? (i := 1372) (by decide +kernel)⟩
def lw_privs_4 : List (MethodName × Nat) := [(⟨"SledgeStoveModel", "standsAgain", "(I)V"⟩, 26), (⟨"SledgeStoveModel", "draw", "()I"⟩, 26), (⟨"SledgeStoveModel", "token", "()V"⟩, 26), (⟨"SledgeStoveModel", "byteAt", "(I)I"⟩, 26), (⟨"SledgeStoveModel", "item", "()V"⟩, 26), (⟨"SledgeStoveModel", "kindHere", "()I"⟩, 26), (⟨"SledgeStoveModel", "word", "()J"⟩, 26), (⟨"SledgeStoveModel", "houseItem", "(I)V"⟩, 26), (⟨"SledgeStoveModel", "needs", "(Z)V"⟩, 26), (⟨"SledgeStoveModel", "perhaps", "(ZIII)I"⟩, 26), (⟨"SledgeStoveModel", "number", "(II)V"⟩, 26), (⟨"SledgeStoveModel", "steepItem", "()V"⟩, 26), (⟨"SledgeStoveModel", "wrong", "(I)I"⟩, 26), (⟨"SledgeStoveModel", "held", "()I"⟩, 26)]
theorem lw_r4 : ∀ q ∈ lw_privs_4, lw_okq q := List.forall_mem_cons.mpr ⟨lw_p48, List.forall_mem_cons.mpr ⟨lw_p49, List.forall_mem_cons.mpr ⟨lw_p50, List.forall_mem_cons.mpr ⟨lw_p51, List.forall_mem_cons.mpr ⟨lw_p52, List.forall_mem_cons.mpr ⟨lw_p53, List.forall_mem_cons.mpr ⟨lw_p54, List.forall_mem_cons.mpr ⟨lw_p55, List.forall_mem_cons.mpr ⟨lw_p56, List.forall_mem_cons.mpr ⟨lw_p57, List.forall_mem_cons.mpr ⟨lw_p58, List.forall_mem_cons.mpr ⟨lw_p59, List.forall_mem_cons.mpr ⟨lw_p60, List.forall_mem_cons.mpr ⟨lw_p61, fun _ h => absurd h List.not_mem_nil⟩⟩⟩⟩⟩⟩⟩⟩⟩⟩⟩⟩⟩⟩
def lw_privs : List (MethodName × Nat) := lw_privs_1 ++ (lw_privs_2 ++ (lw_privs_3 ++ (lw_privs_4)))
def lw_tbl : List Cond := k2_sels lw_privs ++ tables_1
theorem lw_privs_ok : ∀ q ∈ lw_privs, lw_okq q := by
  show ∀ q ∈ lw_privs_1 ++ (lw_privs_2 ++ (lw_privs_3 ++ (lw_privs_4))), lw_okq q
  exact List.forall_mem_append.mpr ⟨lw_r1, List.forall_mem_append.mpr ⟨lw_r2, List.forall_mem_append.mpr ⟨lw_r3, lw_r4⟩⟩⟩
/-! names of classes, fields, methods (by program out of the claim) -/
def RX0 : String := "SledgeStove$Diary"
def TX0 : u_T := fun k => match k with
  | 0 => ("SledgeStove$Diary", "sheet", "LSledgeStove$Sheet;", true)
  | _ => ("SledgeStove$Diary", "fitting", "I", false)
def tyX0 : Nat → FieldType := fun k => match k with
  | 0 => .object "SledgeStove$Sheet"
  | _ => .int
abbrev wsX00 : List Cond := u_ws RX0 TX0 2
theorem nmX0 : ∀ a, a < 2 → ∀ b, b < 2 → a ≠ b → (TX0 a).2.1 ≠ (TX0 b).2.1 := by decide +kernel
theorem tyX0_ok : ∀ k, k < 2 → parseFieldDescriptor (TX0 k).2.2.1 = some (tyX0 k) := by decide +kernel
abbrev cX0_init : ByteArray := prog_2_method_1_code
def yX0_init : MethodName := ⟨RX0, "<init>", "(LSledgeStove$Sheet;)V"⟩
abbrev cX0_givesUp : ByteArray := prog_2_method_2_code
def yX0_givesUp : MethodName := ⟨RX0, "givesUp", "(LSledgeStove$Village;)Z"⟩
abbrev cX0_look : ByteArray := prog_2_method_3_code
def yX0_look : MethodName := ⟨RX0, "look", "(LSledgeStove$Village;I)V"⟩
def RX1 : String := "SledgeStove$House"
def TX1 : u_T := fun k => match k with
  | 0 => ("SledgeStove$House", "kind", "I", false)
  | 1 => ("SledgeStove$House", "warmth", "I", false)
  | 2 => ("SledgeStove$House", "wall", "I", false)
  | 3 => ("SledgeStove$House", "logs", "I", false)
  | 4 => ("SledgeStove$House", "bound", "I", false)
  | _ => ("SledgeStove$House", "bread", "I", false)
def tyX1 : Nat → FieldType := fun k => match k with
  | 0 => .int
  | 1 => .int
  | 2 => .int
  | 3 => .int
  | 4 => .int
  | _ => .int
abbrev wsX10 : List Cond := u_ws RX1 TX1 6
theorem nmX1 : ∀ a, a < 6 → ∀ b, b < 6 → a ≠ b → (TX1 a).2.1 ≠ (TX1 b).2.1 := by decide +kernel
theorem tyX1_ok : ∀ k, k < 6 → parseFieldDescriptor (TX1 k).2.2.1 = some (tyX1 k) := by decide +kernel
abbrev cX1_init : ByteArray := prog_3_method_1_code
def yX1_init : MethodName := ⟨RX1, "<init>", "()V"⟩
abbrev cX1_begin : ByteArray := prog_3_method_2_code
def yX1_begin : MethodName := ⟨RX1, "begin", "(I)V"⟩
abbrev cX1_be : ByteArray := prog_3_method_3_code
def yX1_be : MethodName := ⟨RX1, "be", "(LSledgeStove$House;)V"⟩
abbrev cX1_told : ByteArray := prog_3_method_4_code
def yX1_told : MethodName := ⟨RX1, "told", "(I)I"⟩
abbrev cX1_put : ByteArray := prog_3_method_5_code
def yX1_put : MethodName := ⟨RX1, "put", "(II)V"⟩
abbrev cX1_isA : ByteArray := prog_3_method_6_code
def yX1_isA : MethodName := ⟨RX1, "isA", "(I)Z"⟩
abbrev cX1_heats : ByteArray := prog_3_method_7_code
def yX1_heats : MethodName := ⟨RX1, "heats", "()I"⟩
abbrev cX1_loses : ByteArray := prog_3_method_8_code
def yX1_loses : MethodName := ⟨RX1, "loses", "(I)I"⟩
abbrev cX1_burns : ByteArray := prog_3_method_9_code
def yX1_burns : MethodName := ⟨RX1, "burns", "()I"⟩
abbrev cX1_needs : ByteArray := prog_3_method_10_code
def yX1_needs : MethodName := ⟨RX1, "needs", "()Z"⟩
abbrev cX1_gets : ByteArray := prog_3_method_11_code
def yX1_gets : MethodName := ⟨RX1, "gets", "(I)I"⟩
abbrev cX1_isCold : ByteArray := prog_3_method_12_code
def yX1_isCold : MethodName := ⟨RX1, "isCold", "()Z"⟩
abbrev cX1_warmBy : ByteArray := prog_3_method_13_code
def yX1_warmBy : MethodName := ⟨RX1, "warmBy", "(I)V"⟩
abbrev cX1_cool : ByteArray := prog_3_method_14_code
def yX1_cool : MethodName := ⟨RX1, "cool", "(I)V"⟩
def RX2 : String := "SledgeStove$Reader"
def TX2 : u_T := fun k => match k with
  | 0 => ("SledgeStove$Reader", "bytes", "[I", true)
  | 1 => ("SledgeStove$Reader", "village", "LSledgeStove$Village;", true)
  | 2 => ("SledgeStove$Reader", "length", "I", false)
  | 3 => ("SledgeStove$Reader", "pos", "I", false)
  | 4 => ("SledgeStove$Reader", "start", "I", false)
  | 5 => ("SledgeStove$Reader", "token", "I", false)
  | _ => ("SledgeStove$Reader", "value", "I", false)
def tyX2 : Nat → FieldType := fun k => match k with
  | 0 => .array .int
  | 1 => .object "SledgeStove$Village"
  | 2 => .int
  | 3 => .int
  | 4 => .int
  | 5 => .int
  | _ => .int
abbrev wsX20 : List Cond := u_ws RX2 TX2 7
theorem nmX2 : ∀ a, a < 7 → ∀ b, b < 7 → a ≠ b → (TX2 a).2.1 ≠ (TX2 b).2.1 := by decide +kernel
theorem tyX2_ok : ∀ k, k < 7 → parseFieldDescriptor (TX2 k).2.2.1 = some (tyX2 k) := by decide +kernel
abbrev cX2_init : ByteArray := prog_4_method_1_code
def yX2_init : MethodName := ⟨RX2, "<init>", "([ILSledgeStove$Village;)V"⟩
abbrev cX2_readAll : ByteArray := prog_4_method_2_code
def yX2_readAll : MethodName := ⟨RX2, "readAll", "(I)I"⟩
abbrev cX2_readItem : ByteArray := prog_4_method_3_code
def yX2_readItem : MethodName := ⟨RX2, "readItem", "()Z"⟩
abbrev cX2_kindTold : ByteArray := prog_4_method_4_code
def yX2_kindTold : MethodName := ⟨RX2, "kindTold", "()I"⟩
abbrev cX2_readHouse : ByteArray := prog_4_method_5_code
def yX2_readHouse : MethodName := ⟨RX2, "readHouse", "(I)Z"⟩
abbrev cX2_readPart : ByteArray := prog_4_method_6_code
def yX2_readPart : MethodName := ⟨RX2, "readPart", "(LSledgeStove$House;Ljava/lang/String;I)Z"⟩
abbrev cX2_readSteep : ByteArray := prog_4_method_7_code
def yX2_readSteep : MethodName := ⟨RX2, "readSteep", "()Z"⟩
abbrev cX2_readOut : ByteArray := prog_4_method_8_code
def yX2_readOut : MethodName := ⟨RX2, "readOut", "()Z"⟩
abbrev cX2_isNumber : ByteArray := prog_4_method_9_code
def yX2_isNumber : MethodName := ⟨RX2, "isNumber", "(II)Z"⟩
abbrev cX2_isWord : ByteArray := prog_4_method_10_code
def yX2_isWord : MethodName := ⟨RX2, "isWord", "(Ljava/lang/String;)Z"⟩
abbrev cX2_byteAt : ByteArray := prog_4_method_11_code
def yX2_byteAt : MethodName := ⟨RX2, "byteAt", "(I)I"⟩
abbrev cX2_isLetter : ByteArray := prog_4_method_12_code
def yX2_isLetter : MethodName := ⟨RX2, "isLetter", "(I)Z"⟩
abbrev cX2_isDigit : ByteArray := prog_4_method_13_code
def yX2_isDigit : MethodName := ⟨RX2, "isDigit", "(I)Z"⟩
abbrev cX2_next : ByteArray := prog_4_method_14_code
def yX2_next : MethodName := ⟨RX2, "next", "()V"⟩
def RX3 : String := "SledgeStove$Sheet"
def TX3 : u_T := fun k => match k with
  | 0 => ("SledgeStove$Sheet", "numbers", "[I", true)
  | 1 => ("SledgeStove$Sheet", "bits", "I", false)
  | _ => ("SledgeStove$Sheet", "length", "I", false)
def tyX3 : Nat → FieldType := fun k => match k with
  | 0 => .array .int
  | 1 => .int
  | _ => .int
abbrev wsX30 : List Cond := u_ws RX3 TX3 3
theorem nmX3 : ∀ a, a < 3 → ∀ b, b < 3 → a ≠ b → (TX3 a).2.1 ≠ (TX3 b).2.1 := by decide +kernel
theorem tyX3_ok : ∀ k, k < 3 → parseFieldDescriptor (TX3 k).2.2.1 = some (tyX3 k) := by decide +kernel
abbrev cX3_init : ByteArray := prog_5_method_1_code
def yX3_init : MethodName := ⟨RX3, "<init>", "()V"⟩
abbrev cX3_begin : ByteArray := prog_5_method_2_code
def yX3_begin : MethodName := ⟨RX3, "begin", "(II)V"⟩
abbrev cX3_isMissing : ByteArray := prog_5_method_3_code
def yX3_isMissing : MethodName := ⟨RX3, "isMissing", "()Z"⟩
abbrev cX3_has : ByteArray := prog_5_method_4_code
def yX3_has : MethodName := ⟨RX3, "has", "(II)Z"⟩
abbrev cX3_get : ByteArray := prog_5_method_5_code
def yX3_get : MethodName := ⟨RX3, "get", "(I)I"⟩
abbrev cX3_put : ByteArray := prog_5_method_6_code
def yX3_put : MethodName := ⟨RX3, "put", "(II)V"⟩
abbrev cX3_cut : ByteArray := prog_5_method_7_code
def yX3_cut : MethodName := ⟨RX3, "cut", "(I)I"⟩
def RX4 : String := "SledgeStove$Thriftiest"
def TX4 : u_T := fun k => match k with
  | 0 => ("SledgeStove$Thriftiest", "burnt", "I", false)
  | _ => ("SledgeStove$Thriftiest", "code", "I", false)
def tyX4 : Nat → FieldType := fun k => match k with
  | 0 => .int
  | _ => .int
abbrev wsX40 : List Cond := u_ws RX4 TX4 2
theorem nmX4 : ∀ a, a < 2 → ∀ b, b < 2 → a ≠ b → (TX4 a).2.1 ≠ (TX4 b).2.1 := by decide +kernel
theorem tyX4_ok : ∀ k, k < 2 → parseFieldDescriptor (TX4 k).2.2.1 = some (tyX4 k) := by decide +kernel
abbrev cX4_init : ByteArray := prog_6_method_1_code
def yX4_init : MethodName := ⟨RX4, "<init>", "()V"⟩
abbrev cX4_givesUp : ByteArray := prog_6_method_2_code
def yX4_givesUp : MethodName := ⟨RX4, "givesUp", "(LSledgeStove$Village;)Z"⟩
abbrev cX4_look : ByteArray := prog_6_method_3_code
def yX4_look : MethodName := ⟨RX4, "look", "(LSledgeStove$Village;I)V"⟩
def RX5 : String := "SledgeStove$Village"
def TX5 : u_T := fun k => match k with
  | 0 => ("SledgeStove$Village", "lane", "[LSledgeStove$House;", true)
  | 1 => ("SledgeStove$Village", "steeps", "[I", true)
  | 2 => ("SledgeStove$Village", "spots", "[I", true)
  | 3 => ("SledgeStove$Village", "houses", "I", false)
  | 4 => ("SledgeStove$Village", "ice", "I", false)
  | 5 => ("SledgeStove$Village", "out", "I", false)
  | 6 => ("SledgeStove$Village", "at", "I", false)
  | 7 => ("SledgeStove$Village", "left", "I", false)
  | 8 => ("SledgeStove$Village", "quarter", "I", false)
  | 9 => ("SledgeStove$Village", "burnt", "I", false)
  | 10 => ("SledgeStove$Village", "z", "I", false)
  | 11 => ("SledgeStove$Village", "least", "I", false)
  | _ => ("SledgeStove$Village", "chilled", "Z", false)
def tyX5 : Nat → FieldType := fun k => match k with
  | 0 => .array (.object "SledgeStove$House")
  | 1 => .array .int
  | 2 => .array .int
  | 3 => .int
  | 4 => .int
  | 5 => .int
  | 6 => .int
  | 7 => .int
  | 8 => .int
  | 9 => .int
  | 10 => .int
  | 11 => .int
  | _ => .boolean
abbrev wsX50 : List Cond := u_ws RX5 TX5 13
theorem nmX5 : ∀ a, a < 13 → ∀ b, b < 13 → a ≠ b → (TX5 a).2.1 ≠ (TX5 b).2.1 := by decide +kernel
theorem tyX5_ok : ∀ k, k < 13 → parseFieldDescriptor (TX5 k).2.2.1 = some (tyX5 k) := by decide +kernel
abbrev cX5_init : ByteArray := prog_7_method_1_code
def yX5_init : MethodName := ⟨RX5, "<init>", "()V"⟩
abbrev cX5_be : ByteArray := prog_7_method_2_code
def yX5_be : MethodName := ⟨RX5, "be", "(LSledgeStove$Village;)V"⟩
abbrev cX5_get : ByteArray := prog_7_method_3_code
def yX5_get : MethodName := ⟨RX5, "get", "(I)LSledgeStove$House;"⟩
abbrev cX5_build : ByteArray := prog_7_method_4_code
def yX5_build : MethodName := ⟨RX5, "build", "(I)LSledgeStove$House;"⟩
abbrev cX5_steepAt : ByteArray := prog_7_method_5_code
def yX5_steepAt : MethodName := ⟨RX5, "steepAt", "(I)I"⟩
abbrev cX5_putSteep : ByteArray := prog_7_method_6_code
def yX5_putSteep : MethodName := ⟨RX5, "putSteep", "(II)V"⟩
abbrev cX5_spotAt : ByteArray := prog_7_method_7_code
def yX5_spotAt : MethodName := ⟨RX5, "spotAt", "(I)I"⟩
abbrev cX5_putSpot : ByteArray := prog_7_method_8_code
def yX5_putSpot : MethodName := ⟨RX5, "putSpot", "(II)V"⟩
abbrev cX5_spotsHeld : ByteArray := prog_7_method_9_code
def yX5_spotsHeld : MethodName := ⟨RX5, "spotsHeld", "()I"⟩
abbrev cX5_between : ByteArray := prog_7_method_10_code
def yX5_between : MethodName := ⟨RX5, "between", "(II)I"⟩
abbrev cX5_go : ByteArray := prog_7_method_11_code
def yX5_go : MethodName := ⟨RX5, "go", "(I)I"⟩
abbrev cX5_pass : ByteArray := prog_7_method_12_code
def yX5_pass : MethodName := ⟨RX5, "pass", "(I)V"⟩
abbrev cX5_passOne : ByteArray := prog_7_method_13_code
def yX5_passOne : MethodName := ⟨RX5, "passOne", "()V"⟩
abbrev cX5_stoveHouse : ByteArray := prog_7_method_14_code
def yX5_stoveHouse : MethodName := ⟨RX5, "stoveHouse", "()LSledgeStove$House;"⟩
abbrev cX5_burnAt : ByteArray := prog_7_method_15_code
def yX5_burnAt : MethodName := ⟨RX5, "burnAt", "(LSledgeStove$House;)V"⟩
abbrev cX5_isCold : ByteArray := prog_7_method_16_code
def yX5_isCold : MethodName := ⟨RX5, "isCold", "(I)Z"⟩
abbrev cX5_coldSet : ByteArray := prog_7_method_17_code
def yX5_coldSet : MethodName := ⟨RX5, "coldSet", "()I"⟩
abbrev cX5_leastWarmth : ByteArray := prog_7_method_18_code
def yX5_leastWarmth : MethodName := ⟨RX5, "leastWarmth", "()I"⟩
abbrev cX5_sum : ByteArray := prog_7_method_19_code
def yX5_sum : MethodName := ⟨RX5, "sum", "(I)I"⟩
abbrev cX5_beginRound : ByteArray := prog_7_method_20_code
def yX5_beginRound : MethodName := ⟨RX5, "beginRound", "(LSledgeStove$Village;)V"⟩
abbrev cX5_leg : ByteArray := prog_7_method_21_code
def yX5_leg : MethodName := ⟨RX5, "leg", "(II)V"⟩
abbrev cX5_watch : ByteArray := prog_7_method_22_code
def yX5_watch : MethodName := ⟨RX5, "watch", "()V"⟩
abbrev cX5_draw : ByteArray := prog_7_method_23_code
def yX5_draw : MethodName := ⟨RX5, "draw", "()I"⟩
def RX6 : String := "SledgeStove$Warmest"
def TX6 : u_T := fun k => match k with
  | 0 => ("SledgeStove$Warmest", "least", "I", false)
  | _ => ("SledgeStove$Warmest", "code", "I", false)
def tyX6 : Nat → FieldType := fun k => match k with
  | 0 => .int
  | _ => .int
abbrev wsX60 : List Cond := u_ws RX6 TX6 2
theorem nmX6 : ∀ a, a < 2 → ∀ b, b < 2 → a ≠ b → (TX6 a).2.1 ≠ (TX6 b).2.1 := by decide +kernel
theorem tyX6_ok : ∀ k, k < 2 → parseFieldDescriptor (TX6 k).2.2.1 = some (tyX6 k) := by decide +kernel
abbrev cX6_init : ByteArray := prog_8_method_1_code
def yX6_init : MethodName := ⟨RX6, "<init>", "()V"⟩
abbrev cX6_givesUp : ByteArray := prog_8_method_2_code
def yX6_givesUp : MethodName := ⟨RX6, "givesUp", "(LSledgeStove$Village;)Z"⟩
abbrev cX6_look : ByteArray := prog_8_method_3_code
def yX6_look : MethodName := ⟨RX6, "look", "(LSledgeStove$Village;I)V"⟩
def RX7 : String := "SledgeStove$Wish"
def TX7 : u_T := fun k => match k with
  | _ => ("", "", "", false)
def tyX7 : Nat → FieldType := fun k => match k with
  | _ => .int
abbrev wsX70 : List Cond := u_ws RX7 TX7 0
theorem nmX7 : ∀ a, a < 0 → ∀ b, b < 0 → a ≠ b → (TX7 a).2.1 ≠ (TX7 b).2.1 := by decide +kernel
theorem tyX7_ok : ∀ k, k < 0 → parseFieldDescriptor (TX7 k).2.2.1 = some (tyX7 k) := by decide +kernel
abbrev cX7_init : ByteArray := prog_9_method_1_code
def yX7_init : MethodName := ⟨RX7, "<init>", "()V"⟩
def RX8 : String := "SledgeStove"
def TX8 : u_T := fun k => match k with
  | 0 => ("SledgeStove", "live", "LSledgeStove$Village;", true)
  | 1 => ("SledgeStove", "kept", "LSledgeStove$Village;", true)
  | 2 => ("SledgeStove", "first", "LSledgeStove$Village;", true)
  | 3 => ("SledgeStove", "second", "LSledgeStove$Village;", true)
  | 4 => ("SledgeStove", "third", "LSledgeStove$Village;", true)
  | 5 => ("SledgeStove", "sheets", "[LSledgeStove$Sheet;", true)
  | 6 => ("SledgeStove", "told", "[I", true)
  | 7 => ("SledgeStove", "tape", "[I", true)
  | 8 => ("SledgeStove", "reader", "LSledgeStove$Reader;", true)
  | 9 => ("SledgeStove", "tapeLength", "I", false)
  | _ => ("SledgeStove", "isKept", "Z", false)
def tyX8 : Nat → FieldType := fun k => match k with
  | 0 => .object "SledgeStove$Village"
  | 1 => .object "SledgeStove$Village"
  | 2 => .object "SledgeStove$Village"
  | 3 => .object "SledgeStove$Village"
  | 4 => .object "SledgeStove$Village"
  | 5 => .array (.object "SledgeStove$Sheet")
  | 6 => .array .int
  | 7 => .array .int
  | 8 => .object "SledgeStove$Reader"
  | 9 => .int
  | _ => .boolean
abbrev wsX80 : List Cond := u_ws RX8 TX8 11
theorem nmX8 : ∀ a, a < 11 → ∀ b, b < 11 → a ≠ b → (TX8 a).2.1 ≠ (TX8 b).2.1 := by decide +kernel
theorem tyX8_ok : ∀ k, k < 11 → parseFieldDescriptor (TX8 k).2.2.1 = some (tyX8 k) := by decide +kernel
abbrev cX8_init : ByteArray := prog_1_method_1_code
def yX8_init : MethodName := ⟨RX8, "<init>", "()V"⟩
abbrev cX8_house : ByteArray := prog_1_method_2_code
def yX8_house : MethodName := ⟨RX8, "house", "(I)I"⟩
abbrev cX8_of : ByteArray := prog_1_method_3_code
def yX8_of : MethodName := ⟨RX8, "of", "(II)I"⟩
abbrev cX8_change : ByteArray := prog_1_method_4_code
def yX8_change : MethodName := ⟨RX8, "change", "(III)I"⟩
abbrev cX8_steep : ByteArray := prog_1_method_5_code
def yX8_steep : MethodName := ⟨RX8, "steep", "(II)I"⟩
abbrev cX8_weather : ByteArray := prog_1_method_6_code
def yX8_weather : MethodName := ⟨RX8, "weather", "(II)I"⟩
abbrev cX8_lend : ByteArray := prog_1_method_7_code
def yX8_lend : MethodName := ⟨RX8, "lend", "(III)I"⟩
abbrev cX8_way : ByteArray := prog_1_method_8_code
def yX8_way : MethodName := ⟨RX8, "way", "(II)I"⟩
abbrev cX8_send : ByteArray := prog_1_method_9_code
def yX8_send : MethodName := ⟨RX8, "send", "(I)I"⟩
abbrev cX8_quarters : ByteArray := prog_1_method_10_code
def yX8_quarters : MethodName := ⟨RX8, "quarters", "(I)I"⟩
abbrev cX8_now : ByteArray := prog_1_method_11_code
def yX8_now : MethodName := ⟨RX8, "now", "(I)I"⟩
abbrev cX8_ahead : ByteArray := prog_1_method_12_code
def yX8_ahead : MethodName := ⟨RX8, "ahead", "(II)I"⟩
abbrev cX8_cold : ByteArray := prog_1_method_13_code
def yX8_cold : MethodName := ⟨RX8, "cold", "(I)I"⟩
abbrev cX8_bake : ByteArray := prog_1_method_14_code
def yX8_bake : MethodName := ⟨RX8, "bake", "(I)I"⟩
abbrev cX8_best : ByteArray := prog_1_method_15_code
def yX8_best : MethodName := ⟨RX8, "best", "(I)I"⟩
abbrev cX8_lost : ByteArray := prog_1_method_16_code
def yX8_lost : MethodName := ⟨RX8, "lost", "(I)I"⟩
abbrev cX8_stay : ByteArray := prog_1_method_17_code
def yX8_stay : MethodName := ⟨RX8, "stay", "(II)I"⟩
abbrev cX8_logs : ByteArray := prog_1_method_18_code
def yX8_logs : MethodName := ⟨RX8, "logs", "(II)I"⟩
abbrev cX8_wall : ByteArray := prog_1_method_19_code
def yX8_wall : MethodName := ⟨RX8, "wall", "(II)I"⟩
abbrev cX8_straw : ByteArray := prog_1_method_20_code
def yX8_straw : MethodName := ⟨RX8, "straw", "(I)I"⟩
abbrev cX8_kindFor : ByteArray := prog_1_method_21_code
def yX8_kindFor : MethodName := ⟨RX8, "kindFor", "(II)I"⟩
abbrev cX8_round : ByteArray := prog_1_method_22_code
def yX8_round : MethodName := ⟨RX8, "round", "(I)I"⟩
abbrev cX8_takes : ByteArray := prog_1_method_23_code
def yX8_takes : MethodName := ⟨RX8, "takes", "(I)I"⟩
abbrev cX8_three : ByteArray := prog_1_method_24_code
def yX8_three : MethodName := ⟨RX8, "three", "(I)I"⟩
abbrev cX8_least : ByteArray := prog_1_method_25_code
def yX8_least : MethodName := ⟨RX8, "least", "(I)I"⟩
abbrev cX8_pace : ByteArray := prog_1_method_26_code
def yX8_pace : MethodName := ⟨RX8, "pace", "()I"⟩
abbrev cX8_thrift : ByteArray := prog_1_method_27_code
def yX8_thrift : MethodName := ⟨RX8, "thrift", "(I)I"⟩
abbrev cX8_middle : ByteArray := prog_1_method_28_code
def yX8_middle : MethodName := ⟨RX8, "middle", "()I"⟩
abbrev cX8_calls : ByteArray := prog_1_method_29_code
def yX8_calls : MethodName := ⟨RX8, "calls", "(I)I"⟩
abbrev cX8_seed : ByteArray := prog_1_method_30_code
def yX8_seed : MethodName := ⟨RX8, "seed", "(I)I"⟩
abbrev cX8_feed : ByteArray := prog_1_method_31_code
def yX8_feed : MethodName := ⟨RX8, "feed", "(II)I"⟩
abbrev cX8_wipe : ByteArray := prog_1_method_32_code
def yX8_wipe : MethodName := ⟨RX8, "wipe", "()I"⟩
abbrev cX8_text : ByteArray := prog_1_method_33_code
def yX8_text : MethodName := ⟨RX8, "text", "()I"⟩
abbrev cX8_hold : ByteArray := prog_1_method_34_code
def yX8_hold : MethodName := ⟨RX8, "hold", "(II)I"⟩
abbrev cX8_as : ByteArray := prog_1_method_35_code
def yX8_as : MethodName := ⟨RX8, "as", "(II)I"⟩
abbrev cX8_sheet : ByteArray := prog_1_method_36_code
def yX8_sheet : MethodName := ⟨RX8, "sheet", "(III)I"⟩
abbrev cX8_write : ByteArray := prog_1_method_37_code
def yX8_write : MethodName := ⟨RX8, "write", "(III)I"⟩
abbrev cX8_copy : ByteArray := prog_1_method_38_code
def yX8_copy : MethodName := ⟨RX8, "copy", "(IIIII)I"⟩
abbrev cX8_load : ByteArray := prog_1_method_39_code
def yX8_load : MethodName := ⟨RX8, "load", "(I)I"⟩
abbrev cX8_rounds : ByteArray := prog_1_method_40_code
def yX8_rounds : MethodName := ⟨RX8, "rounds", "(II)I"⟩
abbrev cX8_diary : ByteArray := prog_1_method_41_code
def yX8_diary : MethodName := ⟨RX8, "diary", "(II)I"⟩
abbrev cX8_judge : ByteArray := prog_1_method_42_code
def yX8_judge : MethodName := ⟨RX8, "judge", "(II)I"⟩
abbrev cX8_image : ByteArray := prog_1_method_43_code
def yX8_image : MethodName := ⟨RX8, "image", "()I"⟩
abbrev cX8_undo : ByteArray := prog_1_method_44_code
def yX8_undo : MethodName := ⟨RX8, "undo", "()I"⟩
abbrev cX8_tear : ByteArray := prog_1_method_45_code
def yX8_tear : MethodName := ⟨RX8, "tear", "()I"⟩
abbrev cX8_count : ByteArray := prog_1_method_46_code
def yX8_count : MethodName := ⟨RX8, "count", "(I)I"⟩
abbrev cX8_status : ByteArray := prog_1_method_47_code
def yX8_status : MethodName := ⟨RX8, "status", "(I)I"⟩
abbrev cX8_within : ByteArray := prog_1_method_48_code
def yX8_within : MethodName := ⟨RX8, "within", "(III)Z"⟩
abbrev cX8_lowest : ByteArray := prog_1_method_49_code
def yX8_lowest : MethodName := ⟨RX8, "lowest", "(I)I"⟩
abbrev cX8_highest : ByteArray := prog_1_method_50_code
def yX8_highest : MethodName := ⟨RX8, "highest", "(I)I"⟩
abbrev cX8_fail : ByteArray := prog_1_method_51_code
def yX8_fail : MethodName := ⟨RX8, "fail", "(I)I"⟩
abbrev cX8_endsTooLate : ByteArray := prog_1_method_52_code
def yX8_endsTooLate : MethodName := ⟨RX8, "endsTooLate", "(I)Z"⟩
abbrev cX8_cannotStart : ByteArray := prog_1_method_53_code
def yX8_cannotStart : MethodName := ⟨RX8, "cannotStart", "(I)Z"⟩
abbrev cX8_roundFinding : ByteArray := prog_1_method_54_code
def yX8_roundFinding : MethodName := ⟨RX8, "roundFinding", "(I)I"⟩
abbrev cX8_trial : ByteArray := prog_1_method_55_code
def yX8_trial : MethodName := ⟨RX8, "trial", "()LSledgeStove$Village;"⟩
abbrev cX8_sentTo : ByteArray := prog_1_method_56_code
def yX8_sentTo : MethodName := ⟨RX8, "sentTo", "(II)LSledgeStove$Village;"⟩
abbrev cX8_changed : ByteArray := prog_1_method_57_code
def yX8_changed : MethodName := ⟨RX8, "changed", "(IIII)LSledgeStove$House;"⟩
abbrev cX8_leastValue : ByteArray := prog_1_method_58_code
def yX8_leastValue : MethodName := ⟨RX8, "leastValue", "(III)I"⟩
abbrev cX8_wholeRound : ByteArray := prog_1_method_59_code
def yX8_wholeRound : MethodName := ⟨RX8, "wholeRound", "(I)LSledgeStove$Village;"⟩
abbrev cX8_tryThrees : ByteArray := prog_1_method_60_code
def yX8_tryThrees : MethodName := ⟨RX8, "tryThrees", "(ILSledgeStove$Wish;)V"⟩
abbrev cX8_sheetAt : ByteArray := prog_1_method_61_code
def yX8_sheetAt : MethodName := ⟨RX8, "sheetAt", "(I)LSledgeStove$Sheet;"⟩
abbrev cX8_tellsHouses : ByteArray := prog_1_method_62_code
def yX8_tellsHouses : MethodName := ⟨RX8, "tellsHouses", "(LSledgeStove$Sheet;)Z"⟩
def RX9 : String := "SledgeStoveModel"
def TX9 : u_T := fun k => match k with
  | 0 => ("SledgeStoveModel", "s", "[I", true)
  | 1 => ("SledgeStoveModel", "keptS", "[I", true)
  | 2 => ("SledgeStoveModel", "other", "[I", true)
  | 3 => ("SledgeStoveModel", "statuses", "[I", true)
  | 4 => ("SledgeStoveModel", "isKept", "Z", false)
  | 5 => ("SledgeStoveModel", "isAway", "Z", false)
  | 6 => ("SledgeStoveModel", "leastSeen", "I", false)
  | 7 => ("SledgeStoveModel", "isColdSeen", "Z", false)
  | 8 => ("SledgeStoveModel", "floor", "I", false)
  | 9 => ("SledgeStoveModel", "isWarmAsked", "Z", false)
  | 10 => ("SledgeStoveModel", "stood", "[I", true)
  | 11 => ("SledgeStoveModel", "leastStood", "[I", true)
  | 12 => ("SledgeStoveModel", "bestTold", "I", false)
  | 13 => ("SledgeStoveModel", "bestLeast", "I", false)
  | 14 => ("SledgeStoveModel", "fewestBurnt", "I", false)
  | 15 => ("SledgeStoveModel", "manyTold", "I", false)
  | 16 => ("SledgeStoveModel", "tape", "[I", true)
  | 17 => ("SledgeStoveModel", "taped", "I", false)
  | 18 => ("SledgeStoveModel", "from", "I", false)
  | 19 => ("SledgeStoveModel", "to", "I", false)
  | 20 => ("SledgeStoveModel", "value", "I", false)
  | 21 => ("SledgeStoveModel", "isWrong", "Z", false)
  | 22 => ("SledgeStoveModel", "bitsOf", "[I", true)
  | 23 => ("SledgeStoveModel", "sizeOf", "[I", true)
  | 24 => ("SledgeStoveModel", "number", "[I", true)
  | _ => ("SledgeStoveModel", "moved", "[I", true)
def tyX9 : Nat → FieldType := fun k => match k with
  | 0 => .array .int
  | 1 => .array .int
  | 2 => .array .int
  | 3 => .array .int
  | 4 => .boolean
  | 5 => .boolean
  | 6 => .int
  | 7 => .boolean
  | 8 => .int
  | 9 => .boolean
  | 10 => .array .int
  | 11 => .array .int
  | 12 => .int
  | 13 => .int
  | 14 => .int
  | 15 => .int
  | 16 => .array .int
  | 17 => .int
  | 18 => .int
  | 19 => .int
  | 20 => .int
  | 21 => .boolean
  | 22 => .array .int
  | 23 => .array .int
  | 24 => .array .int
  | _ => .array .int
abbrev wsX90 : List Cond := u_ws RX9 TX9 26
theorem nmX9 : ∀ a, a < 26 → ∀ b, b < 26 → a ≠ b → (TX9 a).2.1 ≠ (TX9 b).2.1 := by decide +kernel
theorem tyX9_ok : ∀ k, k < 26 → parseFieldDescriptor (TX9 k).2.2.1 = some (tyX9 k) := by decide +kernel
abbrev cX9_init : ByteArray := prog_11_method_1_code
def yX9_init : MethodName := ⟨RX9, "<init>", "()V"⟩
abbrev cX9_in : ByteArray := prog_11_method_2_code
def yX9_in : MethodName := ⟨RX9, "in", "(JJJ)Z"⟩
abbrev cX9_finds : ByteArray := prog_11_method_3_code
def yX9_finds : MethodName := ⟨RX9, "finds", "(I)I"⟩
abbrev cX9_isHouse : ByteArray := prog_11_method_4_code
def yX9_isHouse : MethodName := ⟨RX9, "isHouse", "(I)Z"⟩
abbrev cX9_draw : ByteArray := prog_11_method_5_code
def yX9_draw : MethodName := ⟨RX9, "draw", "()I"⟩
abbrev cX9_saves : ByteArray := prog_11_method_6_code
def yX9_saves : MethodName := ⟨RX9, "saves", "()V"⟩
abbrev cX9_putsBack : ByteArray := prog_11_method_7_code
def yX9_putsBack : MethodName := ⟨RX9, "putsBack", "()V"⟩
abbrev cX9_at : ByteArray := prog_11_method_8_code
def yX9_at : MethodName := ⟨RX9, "at", "(II)I"⟩
abbrev cX9_its : ByteArray := prog_11_method_9_code
def yX9_its : MethodName := ⟨RX9, "its", "(II)I"⟩
abbrev cX9_newHouse : ByteArray := prog_11_method_10_code
def yX9_newHouse : MethodName := ⟨RX9, "newHouse", "(IIIII)I"⟩
abbrev cX9_house : ByteArray := prog_11_method_11_code
def yX9_house : MethodName := ⟨RX9, "house", "(I)I"⟩
abbrev cX9_heats : ByteArray := prog_11_method_12_code
def yX9_heats : MethodName := ⟨RX9, "heats", "(I)I"⟩
abbrev cX9_loses : ByteArray := prog_11_method_13_code
def yX9_loses : MethodName := ⟨RX9, "loses", "(I)I"⟩
abbrev cX9_burns : ByteArray := prog_11_method_14_code
def yX9_burns : MethodName := ⟨RX9, "burns", "(I)I"⟩
abbrev cX9_of : ByteArray := prog_11_method_15_code
def yX9_of : MethodName := ⟨RX9, "of", "(II)I"⟩
abbrev cX9_isPart : ByteArray := prog_11_method_16_code
def yX9_isPart : MethodName := ⟨RX9, "isPart", "(II)Z"⟩
abbrev cX9_change : ByteArray := prog_11_method_17_code
def yX9_change : MethodName := ⟨RX9, "change", "(III)I"⟩
abbrev cX9_steep : ByteArray := prog_11_method_18_code
def yX9_steep : MethodName := ⟨RX9, "steep", "(II)I"⟩
abbrev cX9_weather : ByteArray := prog_11_method_19_code
def yX9_weather : MethodName := ⟨RX9, "weather", "(II)I"⟩
abbrev cX9_lend : ByteArray := prog_11_method_20_code
def yX9_lend : MethodName := ⟨RX9, "lend", "(III)I"⟩
abbrev cX9_wayOf : ByteArray := prog_11_method_21_code
def yX9_wayOf : MethodName := ⟨RX9, "wayOf", "(II)I"⟩
abbrev cX9_way : ByteArray := prog_11_method_22_code
def yX9_way : MethodName := ⟨RX9, "way", "(II)I"⟩
abbrev cX9_sends : ByteArray := prog_11_method_23_code
def yX9_sends : MethodName := ⟨RX9, "sends", "(I)V"⟩
abbrev cX9_isGoing : ByteArray := prog_11_method_24_code
def yX9_isGoing : MethodName := ⟨RX9, "isGoing", "()Z"⟩
abbrev cX9_send : ByteArray := prog_11_method_25_code
def yX9_send : MethodName := ⟨RX9, "send", "(I)I"⟩
abbrev cX9_warms : ByteArray := prog_11_method_26_code
def yX9_warms : MethodName := ⟨RX9, "warms", "(II)V"⟩
abbrev cX9_getsOf : ByteArray := prog_11_method_27_code
def yX9_getsOf : MethodName := ⟨RX9, "getsOf", "(II)V"⟩
abbrev cX9_quarter : ByteArray := prog_11_method_28_code
def yX9_quarter : MethodName := ⟨RX9, "quarter", "()V"⟩
abbrev cX9_quartersGo : ByteArray := prog_11_method_29_code
def yX9_quartersGo : MethodName := ⟨RX9, "quartersGo", "(I)V"⟩
abbrev cX9_isAbove : ByteArray := prog_11_method_30_code
def yX9_isAbove : MethodName := ⟨RX9, "isAbove", "(I)Z"⟩
abbrev cX9_isTooLate : ByteArray := prog_11_method_31_code
def yX9_isTooLate : MethodName := ⟨RX9, "isTooLate", "(I)Z"⟩
abbrev cX9_sumOf : ByteArray := prog_11_method_32_code
def yX9_sumOf : MethodName := ⟨RX9, "sumOf", "(I)I"⟩
abbrev cX9_quarters : ByteArray := prog_11_method_33_code
def yX9_quarters : MethodName := ⟨RX9, "quarters", "(I)I"⟩
abbrev cX9_isCold : ByteArray := prog_11_method_34_code
def yX9_isCold : MethodName := ⟨RX9, "isCold", "(I)Z"⟩
abbrev cX9_coldSet : ByteArray := prog_11_method_35_code
def yX9_coldSet : MethodName := ⟨RX9, "coldSet", "()I"⟩
abbrev cX9_now : ByteArray := prog_11_method_36_code
def yX9_now : MethodName := ⟨RX9, "now", "(I)I"⟩
abbrev cX9_leastWarmth : ByteArray := prog_11_method_37_code
def yX9_leastWarmth : MethodName := ⟨RX9, "leastWarmth", "()I"⟩
abbrev cX9_ahead : ByteArray := prog_11_method_38_code
def yX9_ahead : MethodName := ⟨RX9, "ahead", "(II)I"⟩
abbrev cX9_cold : ByteArray := prog_11_method_39_code
def yX9_cold : MethodName := ⟨RX9, "cold", "(I)I"⟩
abbrev cX9_bake : ByteArray := prog_11_method_40_code
def yX9_bake : MethodName := ⟨RX9, "bake", "(I)I"⟩
abbrev cX9_isSpan : ByteArray := prog_11_method_41_code
def yX9_isSpan : MethodName := ⟨RX9, "isSpan", "(I)Z"⟩
abbrev cX9_isFixed : ByteArray := prog_11_method_42_code
def yX9_isFixed : MethodName := ⟨RX9, "isFixed", "(I)Z"⟩
abbrev cX9_best : ByteArray := prog_11_method_43_code
def yX9_best : MethodName := ⟨RX9, "best", "(I)I"⟩
abbrev cX9_lost : ByteArray := prog_11_method_44_code
def yX9_lost : MethodName := ⟨RX9, "lost", "(I)I"⟩
abbrev cX9_stay : ByteArray := prog_11_method_45_code
def yX9_stay : MethodName := ⟨RX9, "stay", "(II)I"⟩
abbrev cX9_leastPart : ByteArray := prog_11_method_46_code
def yX9_leastPart : MethodName := ⟨RX9, "leastPart", "(IIIII)I"⟩
abbrev cX9_logs : ByteArray := prog_11_method_47_code
def yX9_logs : MethodName := ⟨RX9, "logs", "(II)I"⟩
abbrev cX9_wall : ByteArray := prog_11_method_48_code
def yX9_wall : MethodName := ⟨RX9, "wall", "(II)I"⟩
abbrev cX9_straw : ByteArray := prog_11_method_49_code
def yX9_straw : MethodName := ⟨RX9, "straw", "(I)I"⟩
abbrev cX9_kindFor : ByteArray := prog_11_method_50_code
def yX9_kindFor : MethodName := ⟨RX9, "kindFor", "(II)I"⟩
abbrev cX9_begins : ByteArray := prog_11_method_51_code
def yX9_begins : MethodName := ⟨RX9, "begins", "()V"⟩
abbrev cX9_isDone : ByteArray := prog_11_method_52_code
def yX9_isDone : MethodName := ⟨RX9, "isDone", "()Z"⟩
abbrev cX9_watches : ByteArray := prog_11_method_53_code
def yX9_watches : MethodName := ⟨RX9, "watches", "(I)V"⟩
abbrev cX9_stands : ByteArray := prog_11_method_54_code
def yX9_stands : MethodName := ⟨RX9, "stands", "(I)V"⟩
abbrev cX9_standsAgain : ByteArray := prog_11_method_55_code
def yX9_standsAgain : MethodName := ⟨RX9, "standsAgain", "(I)V"⟩
abbrev cX9_visits : ByteArray := prog_11_method_56_code
def yX9_visits : MethodName := ⟨RX9, "visits", "(II)V"⟩
abbrev cX9_goesRound : ByteArray := prog_11_method_57_code
def yX9_goesRound : MethodName := ⟨RX9, "goesRound", "(I)V"⟩
abbrev cX9_ended : ByteArray := prog_11_method_58_code
def yX9_ended : MethodName := ⟨RX9, "ended", "(III)V"⟩
abbrev cX9_thirds : ByteArray := prog_11_method_59_code
def yX9_thirds : MethodName := ⟨RX9, "thirds", "(IIII)V"⟩
abbrev cX9_seconds : ByteArray := prog_11_method_60_code
def yX9_seconds : MethodName := ⟨RX9, "seconds", "(IIII)V"⟩
abbrev cX9_threes : ByteArray := prog_11_method_61_code
def yX9_threes : MethodName := ⟨RX9, "threes", "(III)V"⟩
abbrev cX9_isStay : ByteArray := prog_11_method_62_code
def yX9_isStay : MethodName := ⟨RX9, "isStay", "(I)Z"⟩
abbrev cX9_isBarred : ByteArray := prog_11_method_63_code
def yX9_isBarred : MethodName := ⟨RX9, "isBarred", "()Z"⟩
abbrev cX9_leastRound : ByteArray := prog_11_method_64_code
def yX9_leastRound : MethodName := ⟨RX9, "leastRound", "(I)I"⟩
abbrev cX9_round : ByteArray := prog_11_method_65_code
def yX9_round : MethodName := ⟨RX9, "round", "(I)I"⟩
abbrev cX9_takes : ByteArray := prog_11_method_66_code
def yX9_takes : MethodName := ⟨RX9, "takes", "(I)I"⟩
abbrev cX9_three : ByteArray := prog_11_method_67_code
def yX9_three : MethodName := ⟨RX9, "three", "(I)I"⟩
abbrev cX9_least : ByteArray := prog_11_method_68_code
def yX9_least : MethodName := ⟨RX9, "least", "(I)I"⟩
abbrev cX9_pace : ByteArray := prog_11_method_69_code
def yX9_pace : MethodName := ⟨RX9, "pace", "()I"⟩
abbrev cX9_thrift : ByteArray := prog_11_method_70_code
def yX9_thrift : MethodName := ⟨RX9, "thrift", "(I)I"⟩
abbrev cX9_middle : ByteArray := prog_11_method_71_code
def yX9_middle : MethodName := ⟨RX9, "middle", "()I"⟩
abbrev cX9_ones : ByteArray := prog_11_method_72_code
def yX9_ones : MethodName := ⟨RX9, "ones", "(I)I"⟩
abbrev cX9_calls : ByteArray := prog_11_method_73_code
def yX9_calls : MethodName := ⟨RX9, "calls", "(I)I"⟩
abbrev cX9_seed : ByteArray := prog_11_method_74_code
def yX9_seed : MethodName := ⟨RX9, "seed", "(I)I"⟩
abbrev cX9_feed : ByteArray := prog_11_method_75_code
def yX9_feed : MethodName := ⟨RX9, "feed", "(II)I"⟩
abbrev cX9_wipe : ByteArray := prog_11_method_76_code
def yX9_wipe : MethodName := ⟨RX9, "wipe", "()I"⟩
abbrev cX9_byteAt : ByteArray := prog_11_method_77_code
def yX9_byteAt : MethodName := ⟨RX9, "byteAt", "(I)I"⟩
abbrev cX9_isLetter : ByteArray := prog_11_method_78_code
def yX9_isLetter : MethodName := ⟨RX9, "isLetter", "(I)Z"⟩
abbrev cX9_isDigit : ByteArray := prog_11_method_79_code
def yX9_isDigit : MethodName := ⟨RX9, "isDigit", "(I)Z"⟩
abbrev cX9_token : ByteArray := prog_11_method_80_code
def yX9_token : MethodName := ⟨RX9, "token", "()V"⟩
abbrev cX9_needs : ByteArray := prog_11_method_81_code
def yX9_needs : MethodName := ⟨RX9, "needs", "(Z)V"⟩
abbrev cX9_word : ByteArray := prog_11_method_82_code
def yX9_word : MethodName := ⟨RX9, "word", "()J"⟩
abbrev cX9_number : ByteArray := prog_11_method_83_code
def yX9_number : MethodName := ⟨RX9, "number", "(II)V"⟩
abbrev cX9_kindHere : ByteArray := prog_11_method_84_code
def yX9_kindHere : MethodName := ⟨RX9, "kindHere", "()I"⟩
abbrev cX9_perhaps : ByteArray := prog_11_method_85_code
def yX9_perhaps : MethodName := ⟨RX9, "perhaps", "(ZIII)I"⟩
abbrev cX9_houseItem : ByteArray := prog_11_method_86_code
def yX9_houseItem : MethodName := ⟨RX9, "houseItem", "(I)V"⟩
abbrev cX9_steepItem : ByteArray := prog_11_method_87_code
def yX9_steepItem : MethodName := ⟨RX9, "steepItem", "()V"⟩
abbrev cX9_item : ByteArray := prog_11_method_88_code
def yX9_item : MethodName := ⟨RX9, "item", "()V"⟩
abbrev cX9_text : ByteArray := prog_11_method_89_code
def yX9_text : MethodName := ⟨RX9, "text", "()I"⟩
abbrev cX9_hold : ByteArray := prog_11_method_90_code
def yX9_hold : MethodName := ⟨RX9, "hold", "(II)I"⟩
abbrev cX9_as : ByteArray := prog_11_method_91_code
def yX9_as : MethodName := ⟨RX9, "as", "(II)I"⟩
abbrev cX9_isOne : ByteArray := prog_11_method_92_code
def yX9_isOne : MethodName := ⟨RX9, "isOne", "(I)Z"⟩
abbrev cX9_sheet : ByteArray := prog_11_method_93_code
def yX9_sheet : MethodName := ⟨RX9, "sheet", "(III)I"⟩
abbrev cX9_narrowed : ByteArray := prog_11_method_94_code
def yX9_narrowed : MethodName := ⟨RX9, "narrowed", "(II)I"⟩
abbrev cX9_wrong : ByteArray := prog_11_method_95_code
def yX9_wrong : MethodName := ⟨RX9, "wrong", "(I)I"⟩
abbrev cX9_write : ByteArray := prog_11_method_96_code
def yX9_write : MethodName := ⟨RX9, "write", "(III)I"⟩
abbrev cX9_copy : ByteArray := prog_11_method_97_code
def yX9_copy : MethodName := ⟨RX9, "copy", "(IIIII)I"⟩
abbrev cX9_load : ByteArray := prog_11_method_98_code
def yX9_load : MethodName := ⟨RX9, "load", "(I)I"⟩
abbrev cX9_rounds : ByteArray := prog_11_method_99_code
def yX9_rounds : MethodName := ⟨RX9, "rounds", "(II)I"⟩
abbrev cX9_diary : ByteArray := prog_11_method_100_code
def yX9_diary : MethodName := ⟨RX9, "diary", "(II)I"⟩
abbrev cX9_judge : ByteArray := prog_11_method_101_code
def yX9_judge : MethodName := ⟨RX9, "judge", "(II)I"⟩
abbrev cX9_image : ByteArray := prog_11_method_102_code
def yX9_image : MethodName := ⟨RX9, "image", "()I"⟩
abbrev cX9_undo : ByteArray := prog_11_method_103_code
def yX9_undo : MethodName := ⟨RX9, "undo", "()I"⟩
abbrev cX9_tear : ByteArray := prog_11_method_104_code
def yX9_tear : MethodName := ⟨RX9, "tear", "()I"⟩
abbrev cX9_held : ByteArray := prog_11_method_105_code
def yX9_held : MethodName := ⟨RX9, "held", "()I"⟩
abbrev cX9_count : ByteArray := prog_11_method_106_code
def yX9_count : MethodName := ⟨RX9, "count", "(I)I"⟩
abbrev cX9_status : ByteArray := prog_11_method_107_code
def yX9_status : MethodName := ⟨RX9, "status", "(I)I"⟩
def RJ6 : String := "java/lang/Integer"
abbrev cJ6_bitCount_0f7a4 : ByteArray := prog_12_method_49_code
def yJ6_bitCount_0f7a4 : MethodName := ⟨RJ6, "bitCount", "(I)I"⟩
def RJ9 : String := "java/lang/Math"
abbrev cJ9_max_7cf53 : ByteArray := prog_13_method_65_code
def yJ9_max_7cf53 : MethodName := ⟨RJ9, "max", "(II)I"⟩
abbrev cJ9_min_7cf53 : ByteArray := prog_13_method_69_code
def yJ9_min_7cf53 : MethodName := ⟨RJ9, "min", "(II)I"⟩
def RJ0 : String := "java/lang/String"
abbrev cJ0_length_8abf5 : ByteArray := prog_14_method_54_code
def yJ0_length_8abf5 : MethodName := ⟨RJ0, "length", "()I"⟩
abbrev cJ0_charAt_5068e : ByteArray := prog_14_method_56_code
def yJ0_charAt_5068e : MethodName := ⟨RJ0, "charAt", "(I)C"⟩
abbrev cJ0_coder_7d493 : ByteArray := prog_14_method_152_code
def yJ0_coder_7d493 : MethodName := ⟨RJ0, "coder", "()B"⟩
abbrev cJ0_isLatin1_aae02 : ByteArray := prog_14_method_154_code
def yJ0_isLatin1_aae02 : MethodName := ⟨RJ0, "isLatin1", "()Z"⟩
abbrev cJ0_checkIndex_df160 : ByteArray := prog_14_method_155_code
def yJ0_checkIndex_df160 : MethodName := ⟨RJ0, "checkIndex", "(II)V"⟩
def RJ1 : String := "java/lang/StringLatin1"
abbrev cJ1_charAt_3b067 : ByteArray := prog_15_method_2_code
def yJ1_charAt_3b067 : MethodName := ⟨RJ1, "charAt", "([BI)C"⟩
def RJ2 : String := "java/lang/StringUTF16"
abbrev cJ2_getChar_3b067 : ByteArray := prog_16_method_5_code
def yJ2_getChar_3b067 : MethodName := ⟨RJ2, "getChar", "([BI)C"⟩
abbrev cJ2_length_9d52b : ByteArray := prog_16_method_6_code
def yJ2_length_9d52b : MethodName := ⟨RJ2, "length", "([B)I"⟩
abbrev cJ2_charAt_3b067 : ByteArray := prog_16_method_83_code
def yJ2_charAt_3b067 : MethodName := ⟨RJ2, "charAt", "([BI)C"⟩
abbrev cJ2_checkIndex_2214a : ByteArray := prog_16_method_91_code
def yJ2_checkIndex_2214a : MethodName := ⟨RJ2, "checkIndex", "(I[B)V"⟩
def RJ10 : String := "java/lang/System"
def RJ3 : String := "jdk/internal/util/Preconditions"
abbrev cJ3_checkIndex_8e157 : ByteArray := prog_18_method_11_code
def yJ3_checkIndex_8e157 : MethodName := ⟨RJ3, "checkIndex", "(IILjava/util/function/BiFunction;)I"⟩
def RL : String := "SledgeStoveLaw"
/-- an instruction at its place, and the next place -/
def D1 (cc : ByteArray) (pc : Nat) (i : Instr) (n pc' : Nat) : Prop := decode cc pc = .ok (i, n) ∧ pc + n = pc'
/-- a jump at its place, the next place and the target -/
def DJ (cc : ByteArray) (pc : Nat) (i : Int → Instr) (pc' tgt : Nat) : Prop := ∃ off : Int, decode cc pc = .ok (i off, 3) ∧ pc + 3 = pc' ∧ (pc : Int) + off = (tgt : Int)
/-- the words that every method takes with it -/
def lw_gd : List Cond := lw_tbl.filter goodWord
theorem lw_gd_ok : GoodIn lw_gd lw_gd := fun w hw => ⟨hw, good_of_word (List.mem_filter.mp hw).2⟩
theorem lw_gd_sub : ∀ w ∈ lw_gd, w ∈ lw_tbl := fun w hw => (List.mem_filter.mp hw).1
theorem gd {w : Cond} (i : Nat) (h : (match lw_tbl[i]? with | some v => decide (v = w) | none => false) = true) (g : goodWord w = true) : w ∈ lw_gd := by
  refine List.mem_filter.mpr ⟨List.mem_of_getElem? (i := i) ?_, g⟩
  cases e : lw_tbl[i]? with
  | none => rw [e] at h; cases h
  | some v => rw [e] at h; rw [of_decide_eq_true h]
end
section
theorem dX0_init_0 : D1 cX0_init 0 (.aload_n 0) 1 1 := ⟨by decide +kernel, rfl⟩
theorem dX0_init_1 : D1 cX0_init 1 (.invokespecial 1) 3 4 := ⟨by decide +kernel, rfl⟩
theorem dX0_init_4 : D1 cX0_init 4 (.aload_n 0) 1 5 := ⟨by decide +kernel, rfl⟩
theorem dX0_init_5 : D1 cX0_init 5 (.aload_n 1) 1 6 := ⟨by decide +kernel, rfl⟩
theorem dX0_init_6 : D1 cX0_init 6 (.putfield 7) 3 9 := ⟨by decide +kernel, rfl⟩
theorem dX0_init_9 : D1 cX0_init 9 (.return_) 1 10 := ⟨by decide +kernel, rfl⟩
theorem dX0_givesUp_0 : D1 cX0_givesUp 0 (.iconst 0) 1 1 := ⟨by decide +kernel, rfl⟩
theorem dX0_givesUp_1 : D1 cX0_givesUp 1 (.ireturn) 1 2 := ⟨by decide +kernel, rfl⟩
theorem dX0_look_0 : D1 cX0_look 0 (.aload_n 0) 1 1 := ⟨by decide +kernel, rfl⟩
theorem dX0_look_1 : D1 cX0_look 1 (.getfield 7) 3 4 := ⟨by decide +kernel, rfl⟩
theorem dX0_look_4 : D1 cX0_look 4 (.getfield 13) 3 7 := ⟨by decide +kernel, rfl⟩
theorem dX0_look_7 : D1 cX0_look 7 (.aload_n 1) 1 8 := ⟨by decide +kernel, rfl⟩
theorem dX0_look_8 : D1 cX0_look 8 (.getfield 19) 3 11 := ⟨by decide +kernel, rfl⟩
theorem dX0_look_11 : D1 cX0_look 11 (.invokestatic 24) 3 14 := ⟨by decide +kernel, rfl⟩
theorem dX0_look_14 : D1 cX0_look 14 (.istore_n 3) 1 15 := ⟨by decide +kernel, rfl⟩
theorem dX0_look_15 : D1 cX0_look 15 (.iconst 0) 1 16 := ⟨by decide +kernel, rfl⟩
theorem dX0_look_16 : D1 cX0_look 16 (.istore 4) 2 18 := ⟨by decide +kernel, rfl⟩
theorem dX0_look_18 : D1 cX0_look 18 (.iload 4) 2 20 := ⟨by decide +kernel, rfl⟩
theorem dX0_look_20 : D1 cX0_look 20 (.iload_n 3) 1 21 := ⟨by decide +kernel, rfl⟩
theorem dX0_look_21 : DJ cX0_look 21 (.if_icmp .ge) 24 61 := ⟨40, by decide +kernel, rfl, by decide⟩
theorem dX0_look_24 : D1 cX0_look 24 (.aload_n 1) 1 25 := ⟨by decide +kernel, rfl⟩
theorem dX0_look_25 : D1 cX0_look 25 (.iload 4) 2 27 := ⟨by decide +kernel, rfl⟩
theorem dX0_look_27 : D1 cX0_look 27 (.invokevirtual 30) 3 30 := ⟨by decide +kernel, rfl⟩
theorem dX0_look_30 : D1 cX0_look 30 (.astore 5) 2 32 := ⟨by decide +kernel, rfl⟩
theorem dX0_look_32 : D1 cX0_look 32 (.aload 5) 2 34 := ⟨by decide +kernel, rfl⟩
theorem dX0_look_34 : DJ cX0_look 34 .ifnull 37 54 := ⟨20, by decide +kernel, rfl, by decide⟩
theorem dX0_look_37 : D1 cX0_look 37 (.aload 5) 2 39 := ⟨by decide +kernel, rfl⟩
theorem dX0_look_39 : D1 cX0_look 39 (.getfield 34) 3 42 := ⟨by decide +kernel, rfl⟩
theorem dX0_look_42 : D1 cX0_look 42 (.aload_n 0) 1 43 := ⟨by decide +kernel, rfl⟩
theorem dX0_look_43 : D1 cX0_look 43 (.getfield 7) 3 46 := ⟨by decide +kernel, rfl⟩
theorem dX0_look_46 : D1 cX0_look 46 (.iload 4) 2 48 := ⟨by decide +kernel, rfl⟩
theorem dX0_look_48 : D1 cX0_look 48 (.invokevirtual 39) 3 51 := ⟨by decide +kernel, rfl⟩
theorem dX0_look_51 : DJ cX0_look 51 (.if_icmp .eq) 54 55 := ⟨4, by decide +kernel, rfl, by decide⟩
theorem dX0_look_54 : D1 cX0_look 54 (.return_) 1 55 := ⟨by decide +kernel, rfl⟩
theorem dX0_look_55 : D1 cX0_look 55 (.iinc 4 1) 3 58 := ⟨by decide +kernel, rfl⟩
theorem dX0_look_58 : DJ cX0_look 58 .goto 61 18 := ⟨(-40), by decide +kernel, rfl, by decide⟩
theorem dX0_look_61 : D1 cX0_look 61 (.aload_n 0) 1 62 := ⟨by decide +kernel, rfl⟩
theorem dX0_look_62 : D1 cX0_look 62 (.dup) 1 63 := ⟨by decide +kernel, rfl⟩
theorem dX0_look_63 : D1 cX0_look 63 (.getfield 42) 3 66 := ⟨by decide +kernel, rfl⟩
theorem dX0_look_66 : D1 cX0_look 66 (.iconst 1) 1 67 := ⟨by decide +kernel, rfl⟩
theorem dX0_look_67 : D1 cX0_look 67 (.iadd) 1 68 := ⟨by decide +kernel, rfl⟩
theorem dX0_look_68 : D1 cX0_look 68 (.putfield 42) 3 71 := ⟨by decide +kernel, rfl⟩
theorem dX0_look_71 : D1 cX0_look 71 (.return_) 1 72 := ⟨by decide +kernel, rfl⟩
theorem dX1_init_0 : D1 cX1_init 0 (.aload_n 0) 1 1 := ⟨by decide +kernel, rfl⟩
theorem dX1_init_1 : D1 cX1_init 1 (.invokespecial 3) 3 4 := ⟨by decide +kernel, rfl⟩
theorem dX1_init_4 : D1 cX1_init 4 (.return_) 1 5 := ⟨by decide +kernel, rfl⟩
theorem dX1_begin_0 : D1 cX1_begin 0 (.aload_n 0) 1 1 := ⟨by decide +kernel, rfl⟩
theorem dX1_begin_1 : D1 cX1_begin 1 (.iload_n 1) 1 2 := ⟨by decide +kernel, rfl⟩
theorem dX1_begin_2 : D1 cX1_begin 2 (.putfield 9) 3 5 := ⟨by decide +kernel, rfl⟩
theorem dX1_begin_5 : D1 cX1_begin 5 (.aload_n 0) 1 6 := ⟨by decide +kernel, rfl⟩
theorem dX1_begin_6 : D1 cX1_begin 6 (.bipush 100) 2 8 := ⟨by decide +kernel, rfl⟩
theorem dX1_begin_8 : D1 cX1_begin 8 (.putfield 15) 3 11 := ⟨by decide +kernel, rfl⟩
theorem dX1_begin_11 : D1 cX1_begin 11 (.aload_n 0) 1 12 := ⟨by decide +kernel, rfl⟩
theorem dX1_begin_12 : D1 cX1_begin 12 (.bipush 10) 2 14 := ⟨by decide +kernel, rfl⟩
theorem dX1_begin_14 : D1 cX1_begin 14 (.putfield 18) 3 17 := ⟨by decide +kernel, rfl⟩
theorem dX1_begin_17 : D1 cX1_begin 17 (.aload_n 0) 1 18 := ⟨by decide +kernel, rfl⟩
theorem dX1_begin_18 : D1 cX1_begin 18 (.bipush 8) 2 20 := ⟨by decide +kernel, rfl⟩
theorem dX1_begin_20 : D1 cX1_begin 20 (.putfield 21) 3 23 := ⟨by decide +kernel, rfl⟩
theorem dX1_begin_23 : D1 cX1_begin 23 (.aload_n 0) 1 24 := ⟨by decide +kernel, rfl⟩
theorem dX1_begin_24 : D1 cX1_begin 24 (.bipush 60) 2 26 := ⟨by decide +kernel, rfl⟩
theorem dX1_begin_26 : D1 cX1_begin 26 (.putfield 24) 3 29 := ⟨by decide +kernel, rfl⟩
theorem dX1_begin_29 : D1 cX1_begin 29 (.aload_n 0) 1 30 := ⟨by decide +kernel, rfl⟩
theorem dX1_begin_30 : D1 cX1_begin 30 (.iconst 0) 1 31 := ⟨by decide +kernel, rfl⟩
theorem dX1_begin_31 : D1 cX1_begin 31 (.putfield 27) 3 34 := ⟨by decide +kernel, rfl⟩
theorem dX1_begin_34 : D1 cX1_begin 34 (.return_) 1 35 := ⟨by decide +kernel, rfl⟩
theorem dX1_be_0 : D1 cX1_be 0 (.aload_n 0) 1 1 := ⟨by decide +kernel, rfl⟩
theorem dX1_be_1 : D1 cX1_be 1 (.aload_n 1) 1 2 := ⟨by decide +kernel, rfl⟩
theorem dX1_be_2 : D1 cX1_be 2 (.getfield 9) 3 5 := ⟨by decide +kernel, rfl⟩
theorem dX1_be_5 : D1 cX1_be 5 (.putfield 9) 3 8 := ⟨by decide +kernel, rfl⟩
theorem dX1_be_8 : D1 cX1_be 8 (.aload_n 0) 1 9 := ⟨by decide +kernel, rfl⟩
theorem dX1_be_9 : D1 cX1_be 9 (.aload_n 1) 1 10 := ⟨by decide +kernel, rfl⟩
theorem dX1_be_10 : D1 cX1_be 10 (.getfield 15) 3 13 := ⟨by decide +kernel, rfl⟩
theorem dX1_be_13 : D1 cX1_be 13 (.putfield 15) 3 16 := ⟨by decide +kernel, rfl⟩
theorem dX1_be_16 : D1 cX1_be 16 (.aload_n 0) 1 17 := ⟨by decide +kernel, rfl⟩
theorem dX1_be_17 : D1 cX1_be 17 (.aload_n 1) 1 18 := ⟨by decide +kernel, rfl⟩
theorem dX1_be_18 : D1 cX1_be 18 (.getfield 18) 3 21 := ⟨by decide +kernel, rfl⟩
theorem dX1_be_21 : D1 cX1_be 21 (.putfield 18) 3 24 := ⟨by decide +kernel, rfl⟩
theorem dX1_be_24 : D1 cX1_be 24 (.aload_n 0) 1 25 := ⟨by decide +kernel, rfl⟩
theorem dX1_be_25 : D1 cX1_be 25 (.aload_n 1) 1 26 := ⟨by decide +kernel, rfl⟩
theorem dX1_be_26 : D1 cX1_be 26 (.getfield 21) 3 29 := ⟨by decide +kernel, rfl⟩
theorem dX1_be_29 : D1 cX1_be 29 (.putfield 21) 3 32 := ⟨by decide +kernel, rfl⟩
theorem dX1_be_32 : D1 cX1_be 32 (.aload_n 0) 1 33 := ⟨by decide +kernel, rfl⟩
theorem dX1_be_33 : D1 cX1_be 33 (.aload_n 1) 1 34 := ⟨by decide +kernel, rfl⟩
theorem dX1_be_34 : D1 cX1_be 34 (.getfield 24) 3 37 := ⟨by decide +kernel, rfl⟩
theorem dX1_be_37 : D1 cX1_be 37 (.putfield 24) 3 40 := ⟨by decide +kernel, rfl⟩
theorem dX1_be_40 : D1 cX1_be 40 (.aload_n 0) 1 41 := ⟨by decide +kernel, rfl⟩
theorem dX1_be_41 : D1 cX1_be 41 (.aload_n 1) 1 42 := ⟨by decide +kernel, rfl⟩
theorem dX1_be_42 : D1 cX1_be 42 (.getfield 27) 3 45 := ⟨by decide +kernel, rfl⟩
theorem dX1_be_45 : D1 cX1_be 45 (.putfield 27) 3 48 := ⟨by decide +kernel, rfl⟩
theorem dX1_be_48 : D1 cX1_be 48 (.return_) 1 49 := ⟨by decide +kernel, rfl⟩
theorem dX1_told_0 : D1 cX1_told 0 (.iload_n 1) 1 1 := ⟨by decide +kernel, rfl⟩
theorem dX1_told_1 : decode cX1_told 1 = .ok (.tableswitch 60 0 4 #[35, 40, 45, 50, 55], 35) := by decide +kernel
theorem dX1_told_36 : D1 cX1_told 36 (.aload_n 0) 1 37 := ⟨by decide +kernel, rfl⟩
theorem dX1_told_37 : D1 cX1_told 37 (.getfield 9) 3 40 := ⟨by decide +kernel, rfl⟩
theorem dX1_told_40 : D1 cX1_told 40 (.ireturn) 1 41 := ⟨by decide +kernel, rfl⟩
theorem dX1_told_41 : D1 cX1_told 41 (.aload_n 0) 1 42 := ⟨by decide +kernel, rfl⟩
theorem dX1_told_42 : D1 cX1_told 42 (.getfield 15) 3 45 := ⟨by decide +kernel, rfl⟩
theorem dX1_told_45 : D1 cX1_told 45 (.ireturn) 1 46 := ⟨by decide +kernel, rfl⟩
theorem dX1_told_46 : D1 cX1_told 46 (.aload_n 0) 1 47 := ⟨by decide +kernel, rfl⟩
theorem dX1_told_47 : D1 cX1_told 47 (.getfield 18) 3 50 := ⟨by decide +kernel, rfl⟩
theorem dX1_told_50 : D1 cX1_told 50 (.ireturn) 1 51 := ⟨by decide +kernel, rfl⟩
theorem dX1_told_51 : D1 cX1_told 51 (.aload_n 0) 1 52 := ⟨by decide +kernel, rfl⟩
theorem dX1_told_52 : D1 cX1_told 52 (.getfield 21) 3 55 := ⟨by decide +kernel, rfl⟩
theorem dX1_told_55 : D1 cX1_told 55 (.ireturn) 1 56 := ⟨by decide +kernel, rfl⟩
theorem dX1_told_56 : D1 cX1_told 56 (.aload_n 0) 1 57 := ⟨by decide +kernel, rfl⟩
theorem dX1_told_57 : D1 cX1_told 57 (.getfield 24) 3 60 := ⟨by decide +kernel, rfl⟩
theorem dX1_told_60 : D1 cX1_told 60 (.ireturn) 1 61 := ⟨by decide +kernel, rfl⟩
theorem dX1_told_61 : D1 cX1_told 61 (.aload_n 0) 1 62 := ⟨by decide +kernel, rfl⟩
theorem dX1_told_62 : D1 cX1_told 62 (.getfield 27) 3 65 := ⟨by decide +kernel, rfl⟩
theorem dX1_told_65 : D1 cX1_told 65 (.ireturn) 1 66 := ⟨by decide +kernel, rfl⟩
theorem dX1_put_0 : D1 cX1_put 0 (.iload_n 1) 1 1 := ⟨by decide +kernel, rfl⟩
theorem dX1_put_1 : decode cX1_put 1 = .ok (.tableswitch 75 0 4 #[35, 43, 51, 59, 67], 35) := by decide +kernel
theorem dX1_put_36 : D1 cX1_put 36 (.aload_n 0) 1 37 := ⟨by decide +kernel, rfl⟩
theorem dX1_put_37 : D1 cX1_put 37 (.iload_n 2) 1 38 := ⟨by decide +kernel, rfl⟩
theorem dX1_put_38 : D1 cX1_put 38 (.putfield 9) 3 41 := ⟨by decide +kernel, rfl⟩
theorem dX1_put_41 : DJ cX1_put 41 .goto 44 76 := ⟨35, by decide +kernel, rfl, by decide⟩
theorem dX1_put_44 : D1 cX1_put 44 (.aload_n 0) 1 45 := ⟨by decide +kernel, rfl⟩
theorem dX1_put_45 : D1 cX1_put 45 (.iload_n 2) 1 46 := ⟨by decide +kernel, rfl⟩
theorem dX1_put_46 : D1 cX1_put 46 (.putfield 15) 3 49 := ⟨by decide +kernel, rfl⟩
theorem dX1_put_49 : DJ cX1_put 49 .goto 52 76 := ⟨27, by decide +kernel, rfl, by decide⟩
theorem dX1_put_52 : D1 cX1_put 52 (.aload_n 0) 1 53 := ⟨by decide +kernel, rfl⟩
theorem dX1_put_53 : D1 cX1_put 53 (.iload_n 2) 1 54 := ⟨by decide +kernel, rfl⟩
theorem dX1_put_54 : D1 cX1_put 54 (.putfield 18) 3 57 := ⟨by decide +kernel, rfl⟩
theorem dX1_put_57 : DJ cX1_put 57 .goto 60 76 := ⟨19, by decide +kernel, rfl, by decide⟩
theorem dX1_put_60 : D1 cX1_put 60 (.aload_n 0) 1 61 := ⟨by decide +kernel, rfl⟩
theorem dX1_put_61 : D1 cX1_put 61 (.iload_n 2) 1 62 := ⟨by decide +kernel, rfl⟩
theorem dX1_put_62 : D1 cX1_put 62 (.putfield 21) 3 65 := ⟨by decide +kernel, rfl⟩
theorem dX1_put_65 : DJ cX1_put 65 .goto 68 76 := ⟨11, by decide +kernel, rfl, by decide⟩
theorem dX1_put_68 : D1 cX1_put 68 (.aload_n 0) 1 69 := ⟨by decide +kernel, rfl⟩
theorem dX1_put_69 : D1 cX1_put 69 (.iload_n 2) 1 70 := ⟨by decide +kernel, rfl⟩
theorem dX1_put_70 : D1 cX1_put 70 (.putfield 24) 3 73 := ⟨by decide +kernel, rfl⟩
theorem dX1_put_73 : DJ cX1_put 73 .goto 76 76 := ⟨3, by decide +kernel, rfl, by decide⟩
theorem dX1_put_76 : D1 cX1_put 76 (.return_) 1 77 := ⟨by decide +kernel, rfl⟩
theorem dX1_isA_0 : D1 cX1_isA 0 (.iload_n 1) 1 1 := ⟨by decide +kernel, rfl⟩
theorem dX1_isA_1 : decode cX1_isA 1 = .ok (.tableswitch 108 0 5 #[39, 41, 63, 108, 108, 85], 39) := by decide +kernel
theorem dX1_isA_40 : D1 cX1_isA 40 (.iconst 1) 1 41 := ⟨by decide +kernel, rfl⟩
theorem dX1_isA_41 : D1 cX1_isA 41 (.ireturn) 1 42 := ⟨by decide +kernel, rfl⟩
theorem dX1_isA_42 : D1 cX1_isA 42 (.aload_n 0) 1 43 := ⟨by decide +kernel, rfl⟩
theorem dX1_isA_43 : D1 cX1_isA 43 (.getfield 9) 3 46 := ⟨by decide +kernel, rfl⟩
theorem dX1_isA_46 : D1 cX1_isA 46 (.iconst 1) 1 47 := ⟨by decide +kernel, rfl⟩
theorem dX1_isA_47 : DJ cX1_isA 47 (.if_icmp .eq) 50 58 := ⟨11, by decide +kernel, rfl, by decide⟩
theorem dX1_isA_50 : D1 cX1_isA 50 (.aload_n 0) 1 51 := ⟨by decide +kernel, rfl⟩
theorem dX1_isA_51 : D1 cX1_isA 51 (.getfield 9) 3 54 := ⟨by decide +kernel, rfl⟩
theorem dX1_isA_54 : D1 cX1_isA 54 (.iconst 3) 1 55 := ⟨by decide +kernel, rfl⟩
theorem dX1_isA_55 : DJ cX1_isA 55 (.if_icmp .ne) 58 62 := ⟨7, by decide +kernel, rfl, by decide⟩
theorem dX1_isA_58 : D1 cX1_isA 58 (.iconst 1) 1 59 := ⟨by decide +kernel, rfl⟩
theorem dX1_isA_59 : DJ cX1_isA 59 .goto 62 63 := ⟨4, by decide +kernel, rfl, by decide⟩
theorem dX1_isA_62 : D1 cX1_isA 62 (.iconst 0) 1 63 := ⟨by decide +kernel, rfl⟩
theorem dX1_isA_63 : D1 cX1_isA 63 (.ireturn) 1 64 := ⟨by decide +kernel, rfl⟩
theorem dX1_isA_64 : D1 cX1_isA 64 (.aload_n 0) 1 65 := ⟨by decide +kernel, rfl⟩
theorem dX1_isA_65 : D1 cX1_isA 65 (.getfield 9) 3 68 := ⟨by decide +kernel, rfl⟩
theorem dX1_isA_68 : D1 cX1_isA 68 (.iconst 2) 1 69 := ⟨by decide +kernel, rfl⟩
theorem dX1_isA_69 : DJ cX1_isA 69 (.if_icmp .eq) 72 80 := ⟨11, by decide +kernel, rfl, by decide⟩
theorem dX1_isA_72 : D1 cX1_isA 72 (.aload_n 0) 1 73 := ⟨by decide +kernel, rfl⟩
theorem dX1_isA_73 : D1 cX1_isA 73 (.getfield 9) 3 76 := ⟨by decide +kernel, rfl⟩
theorem dX1_isA_76 : D1 cX1_isA 76 (.iconst 4) 1 77 := ⟨by decide +kernel, rfl⟩
theorem dX1_isA_77 : DJ cX1_isA 77 (.if_icmp .ne) 80 84 := ⟨7, by decide +kernel, rfl, by decide⟩
theorem dX1_isA_80 : D1 cX1_isA 80 (.iconst 1) 1 81 := ⟨by decide +kernel, rfl⟩
theorem dX1_isA_81 : DJ cX1_isA 81 .goto 84 85 := ⟨4, by decide +kernel, rfl, by decide⟩
theorem dX1_isA_84 : D1 cX1_isA 84 (.iconst 0) 1 85 := ⟨by decide +kernel, rfl⟩
theorem dX1_isA_85 : D1 cX1_isA 85 (.ireturn) 1 86 := ⟨by decide +kernel, rfl⟩
theorem dX1_isA_86 : D1 cX1_isA 86 (.aload_n 0) 1 87 := ⟨by decide +kernel, rfl⟩
theorem dX1_isA_87 : D1 cX1_isA 87 (.getfield 9) 3 90 := ⟨by decide +kernel, rfl⟩
theorem dX1_isA_90 : D1 cX1_isA 90 (.iconst 5) 1 91 := ⟨by decide +kernel, rfl⟩
theorem dX1_isA_91 : DJ cX1_isA 91 (.if_icmp .eq) 94 103 := ⟨12, by decide +kernel, rfl, by decide⟩
theorem dX1_isA_94 : D1 cX1_isA 94 (.aload_n 0) 1 95 := ⟨by decide +kernel, rfl⟩
theorem dX1_isA_95 : D1 cX1_isA 95 (.getfield 9) 3 98 := ⟨by decide +kernel, rfl⟩
theorem dX1_isA_98 : D1 cX1_isA 98 (.bipush 6) 2 100 := ⟨by decide +kernel, rfl⟩
theorem dX1_isA_100 : DJ cX1_isA 100 (.if_icmp .ne) 103 107 := ⟨7, by decide +kernel, rfl, by decide⟩
theorem dX1_isA_103 : D1 cX1_isA 103 (.iconst 1) 1 104 := ⟨by decide +kernel, rfl⟩
theorem dX1_isA_104 : DJ cX1_isA 104 .goto 107 108 := ⟨4, by decide +kernel, rfl, by decide⟩
theorem dX1_isA_107 : D1 cX1_isA 107 (.iconst 0) 1 108 := ⟨by decide +kernel, rfl⟩
theorem dX1_isA_108 : D1 cX1_isA 108 (.ireturn) 1 109 := ⟨by decide +kernel, rfl⟩
theorem dX1_isA_109 : D1 cX1_isA 109 (.aload_n 0) 1 110 := ⟨by decide +kernel, rfl⟩
theorem dX1_isA_110 : D1 cX1_isA 110 (.getfield 9) 3 113 := ⟨by decide +kernel, rfl⟩
theorem dX1_isA_113 : D1 cX1_isA 113 (.iload_n 1) 1 114 := ⟨by decide +kernel, rfl⟩
theorem dX1_isA_114 : DJ cX1_isA 114 (.if_icmp .ne) 117 121 := ⟨7, by decide +kernel, rfl, by decide⟩
theorem dX1_isA_117 : D1 cX1_isA 117 (.iconst 1) 1 118 := ⟨by decide +kernel, rfl⟩
theorem dX1_isA_118 : DJ cX1_isA 118 .goto 121 122 := ⟨4, by decide +kernel, rfl, by decide⟩
theorem dX1_isA_121 : D1 cX1_isA 121 (.iconst 0) 1 122 := ⟨by decide +kernel, rfl⟩
theorem dX1_isA_122 : D1 cX1_isA 122 (.ireturn) 1 123 := ⟨by decide +kernel, rfl⟩
theorem dX1_heats_0 : D1 cX1_heats 0 (.aload_n 0) 1 1 := ⟨by decide +kernel, rfl⟩
theorem dX1_heats_1 : D1 cX1_heats 1 (.iconst 5) 1 2 := ⟨by decide +kernel, rfl⟩
theorem dX1_heats_2 : D1 cX1_heats 2 (.invokevirtual 30) 3 5 := ⟨by decide +kernel, rfl⟩
theorem dX1_heats_5 : DJ cX1_heats 5 (.ifCond .eq) 8 22 := ⟨17, by decide +kernel, rfl, by decide⟩
theorem dX1_heats_8 : D1 cX1_heats 8 (.aload_n 0) 1 9 := ⟨by decide +kernel, rfl⟩
theorem dX1_heats_9 : D1 cX1_heats 9 (.getfield 15) 3 12 := ⟨by decide +kernel, rfl⟩
theorem dX1_heats_12 : D1 cX1_heats 12 (.sipush 200) 3 15 := ⟨by decide +kernel, rfl⟩
theorem dX1_heats_15 : DJ cX1_heats 15 (.if_icmp .lt) 18 22 := ⟨7, by decide +kernel, rfl, by decide⟩
theorem dX1_heats_18 : D1 cX1_heats 18 (.iconst 0) 1 19 := ⟨by decide +kernel, rfl⟩
theorem dX1_heats_19 : DJ cX1_heats 19 .goto 22 24 := ⟨5, by decide +kernel, rfl, by decide⟩
theorem dX1_heats_22 : D1 cX1_heats 22 (.bipush 40) 2 24 := ⟨by decide +kernel, rfl⟩
theorem dX1_heats_24 : D1 cX1_heats 24 (.istore_n 1) 1 25 := ⟨by decide +kernel, rfl⟩
theorem dX1_heats_25 : D1 cX1_heats 25 (.aload_n 0) 1 26 := ⟨by decide +kernel, rfl⟩
theorem dX1_heats_26 : D1 cX1_heats 26 (.getfield 9) 3 29 := ⟨by decide +kernel, rfl⟩
theorem dX1_heats_29 : D1 cX1_heats 29 (.iconst 3) 1 30 := ⟨by decide +kernel, rfl⟩
theorem dX1_heats_30 : DJ cX1_heats 30 (.if_icmp .ne) 33 38 := ⟨8, by decide +kernel, rfl, by decide⟩
theorem dX1_heats_33 : D1 cX1_heats 33 (.iload_n 1) 1 34 := ⟨by decide +kernel, rfl⟩
theorem dX1_heats_34 : D1 cX1_heats 34 (.bipush 10) 2 36 := ⟨by decide +kernel, rfl⟩
theorem dX1_heats_36 : D1 cX1_heats 36 (.isub) 1 37 := ⟨by decide +kernel, rfl⟩
theorem dX1_heats_37 : D1 cX1_heats 37 (.ireturn) 1 38 := ⟨by decide +kernel, rfl⟩
theorem dX1_heats_38 : D1 cX1_heats 38 (.aload_n 0) 1 39 := ⟨by decide +kernel, rfl⟩
theorem dX1_heats_39 : D1 cX1_heats 39 (.getfield 9) 3 42 := ⟨by decide +kernel, rfl⟩
theorem dX1_heats_42 : D1 cX1_heats 42 (.bipush 6) 2 44 := ⟨by decide +kernel, rfl⟩
theorem dX1_heats_44 : DJ cX1_heats 44 (.if_icmp .ne) 47 54 := ⟨10, by decide +kernel, rfl, by decide⟩
theorem dX1_heats_47 : D1 cX1_heats 47 (.iload_n 1) 1 48 := ⟨by decide +kernel, rfl⟩
theorem dX1_heats_48 : D1 cX1_heats 48 (.bipush 20) 2 50 := ⟨by decide +kernel, rfl⟩
theorem dX1_heats_50 : D1 cX1_heats 50 (.iadd) 1 51 := ⟨by decide +kernel, rfl⟩
theorem dX1_heats_51 : DJ cX1_heats 51 .goto 54 55 := ⟨4, by decide +kernel, rfl, by decide⟩
theorem dX1_heats_54 : D1 cX1_heats 54 (.iload_n 1) 1 55 := ⟨by decide +kernel, rfl⟩
theorem dX1_heats_55 : D1 cX1_heats 55 (.ireturn) 1 56 := ⟨by decide +kernel, rfl⟩
theorem dX1_loses_0 : D1 cX1_loses 0 (.aload_n 0) 1 1 := ⟨by decide +kernel, rfl⟩
theorem dX1_loses_1 : D1 cX1_loses 1 (.getfield 18) 3 4 := ⟨by decide +kernel, rfl⟩
theorem dX1_loses_4 : DJ cX1_loses 4 (.ifCond .le) 7 29 := ⟨25, by decide +kernel, rfl, by decide⟩
theorem dX1_loses_7 : D1 cX1_loses 7 (.aload_n 0) 1 8 := ⟨by decide +kernel, rfl⟩
theorem dX1_loses_8 : D1 cX1_loses 8 (.getfield 15) 3 11 := ⟨by decide +kernel, rfl⟩
theorem dX1_loses_11 : D1 cX1_loses 11 (.iload_n 1) 1 12 := ⟨by decide +kernel, rfl⟩
theorem dX1_loses_12 : DJ cX1_loses 12 (.if_icmp .le) 15 29 := ⟨17, by decide +kernel, rfl, by decide⟩
theorem dX1_loses_15 : D1 cX1_loses 15 (.aload_n 0) 1 16 := ⟨by decide +kernel, rfl⟩
theorem dX1_loses_16 : D1 cX1_loses 16 (.getfield 15) 3 19 := ⟨by decide +kernel, rfl⟩
theorem dX1_loses_19 : D1 cX1_loses 19 (.iload_n 1) 1 20 := ⟨by decide +kernel, rfl⟩
theorem dX1_loses_20 : D1 cX1_loses 20 (.isub) 1 21 := ⟨by decide +kernel, rfl⟩
theorem dX1_loses_21 : D1 cX1_loses 21 (.aload_n 0) 1 22 := ⟨by decide +kernel, rfl⟩
theorem dX1_loses_22 : D1 cX1_loses 22 (.getfield 18) 3 25 := ⟨by decide +kernel, rfl⟩
theorem dX1_loses_25 : D1 cX1_loses 25 (.idiv) 1 26 := ⟨by decide +kernel, rfl⟩
theorem dX1_loses_26 : DJ cX1_loses 26 .goto 29 30 := ⟨4, by decide +kernel, rfl, by decide⟩
theorem dX1_loses_29 : D1 cX1_loses 29 (.iconst 0) 1 30 := ⟨by decide +kernel, rfl⟩
theorem dX1_loses_30 : D1 cX1_loses 30 (.istore_n 2) 1 31 := ⟨by decide +kernel, rfl⟩
theorem dX1_loses_31 : D1 cX1_loses 31 (.aload_n 0) 1 32 := ⟨by decide +kernel, rfl⟩
theorem dX1_loses_32 : D1 cX1_loses 32 (.iconst 2) 1 33 := ⟨by decide +kernel, rfl⟩
theorem dX1_loses_33 : D1 cX1_loses 33 (.invokevirtual 30) 3 36 := ⟨by decide +kernel, rfl⟩
theorem dX1_loses_36 : DJ cX1_loses 36 (.ifCond .eq) 39 43 := ⟨7, by decide +kernel, rfl, by decide⟩
theorem dX1_loses_39 : D1 cX1_loses 39 (.iconst 2) 1 40 := ⟨by decide +kernel, rfl⟩
theorem dX1_loses_40 : D1 cX1_loses 40 (.iload_n 2) 1 41 := ⟨by decide +kernel, rfl⟩
theorem dX1_loses_41 : D1 cX1_loses 41 (.imul) 1 42 := ⟨by decide +kernel, rfl⟩
theorem dX1_loses_42 : D1 cX1_loses 42 (.ireturn) 1 43 := ⟨by decide +kernel, rfl⟩
theorem dX1_loses_43 : D1 cX1_loses 43 (.aload_n 0) 1 44 := ⟨by decide +kernel, rfl⟩
theorem dX1_loses_44 : D1 cX1_loses 44 (.getfield 9) 3 47 := ⟨by decide +kernel, rfl⟩
theorem dX1_loses_47 : D1 cX1_loses 47 (.iconst 3) 1 48 := ⟨by decide +kernel, rfl⟩
theorem dX1_loses_48 : DJ cX1_loses 48 (.if_icmp .ne) 51 57 := ⟨9, by decide +kernel, rfl, by decide⟩
theorem dX1_loses_51 : D1 cX1_loses 51 (.iload_n 2) 1 52 := ⟨by decide +kernel, rfl⟩
theorem dX1_loses_52 : D1 cX1_loses 52 (.iconst 2) 1 53 := ⟨by decide +kernel, rfl⟩
theorem dX1_loses_53 : D1 cX1_loses 53 (.idiv) 1 54 := ⟨by decide +kernel, rfl⟩
theorem dX1_loses_54 : DJ cX1_loses 54 .goto 57 58 := ⟨4, by decide +kernel, rfl, by decide⟩
theorem dX1_loses_57 : D1 cX1_loses 57 (.iload_n 2) 1 58 := ⟨by decide +kernel, rfl⟩
theorem dX1_loses_58 : D1 cX1_loses 58 (.ireturn) 1 59 := ⟨by decide +kernel, rfl⟩
theorem dX1_burns_0 : D1 cX1_burns 0 (.aload_n 0) 1 1 := ⟨by decide +kernel, rfl⟩
theorem dX1_burns_1 : D1 cX1_burns 1 (.getfield 9) 3 4 := ⟨by decide +kernel, rfl⟩
theorem dX1_burns_4 : D1 cX1_burns 4 (.iconst 4) 1 5 := ⟨by decide +kernel, rfl⟩
theorem dX1_burns_5 : DJ cX1_burns 5 (.if_icmp .ne) 8 10 := ⟨5, by decide +kernel, rfl, by decide⟩
theorem dX1_burns_8 : D1 cX1_burns 8 (.iconst 0) 1 9 := ⟨by decide +kernel, rfl⟩
theorem dX1_burns_9 : D1 cX1_burns 9 (.ireturn) 1 10 := ⟨by decide +kernel, rfl⟩
theorem dX1_burns_10 : D1 cX1_burns 10 (.aload_n 0) 1 11 := ⟨by decide +kernel, rfl⟩
theorem dX1_burns_11 : D1 cX1_burns 11 (.getfield 9) 3 14 := ⟨by decide +kernel, rfl⟩
theorem dX1_burns_14 : D1 cX1_burns 14 (.bipush 6) 2 16 := ⟨by decide +kernel, rfl⟩
theorem dX1_burns_16 : DJ cX1_burns 16 (.if_icmp .ne) 19 23 := ⟨7, by decide +kernel, rfl, by decide⟩
theorem dX1_burns_19 : D1 cX1_burns 19 (.iconst 2) 1 20 := ⟨by decide +kernel, rfl⟩
theorem dX1_burns_20 : DJ cX1_burns 20 .goto 23 24 := ⟨4, by decide +kernel, rfl, by decide⟩
theorem dX1_burns_23 : D1 cX1_burns 23 (.iconst 1) 1 24 := ⟨by decide +kernel, rfl⟩
theorem dX1_burns_24 : D1 cX1_burns 24 (.ireturn) 1 25 := ⟨by decide +kernel, rfl⟩
theorem dX1_needs_0 : D1 cX1_needs 0 (.aload_n 0) 1 1 := ⟨by decide +kernel, rfl⟩
theorem dX1_needs_1 : D1 cX1_needs 1 (.getfield 9) 3 4 := ⟨by decide +kernel, rfl⟩
theorem dX1_needs_4 : D1 cX1_needs 4 (.iconst 4) 1 5 := ⟨by decide +kernel, rfl⟩
theorem dX1_needs_5 : DJ cX1_needs 5 (.if_icmp .eq) 8 12 := ⟨7, by decide +kernel, rfl, by decide⟩
theorem dX1_needs_8 : D1 cX1_needs 8 (.iconst 1) 1 9 := ⟨by decide +kernel, rfl⟩
theorem dX1_needs_9 : DJ cX1_needs 9 .goto 12 13 := ⟨4, by decide +kernel, rfl, by decide⟩
theorem dX1_needs_12 : D1 cX1_needs 12 (.iconst 0) 1 13 := ⟨by decide +kernel, rfl⟩
theorem dX1_needs_13 : D1 cX1_needs 13 (.ireturn) 1 14 := ⟨by decide +kernel, rfl⟩
theorem dX1_gets_0 : D1 cX1_gets 0 (.aload_n 0) 1 1 := ⟨by decide +kernel, rfl⟩
theorem dX1_gets_1 : D1 cX1_gets 1 (.iconst 1) 1 2 := ⟨by decide +kernel, rfl⟩
theorem dX1_gets_2 : D1 cX1_gets 2 (.invokevirtual 30) 3 5 := ⟨by decide +kernel, rfl⟩
theorem dX1_gets_5 : DJ cX1_gets 5 (.ifCond .eq) 8 14 := ⟨9, by decide +kernel, rfl, by decide⟩
theorem dX1_gets_8 : D1 cX1_gets 8 (.iload_n 1) 1 9 := ⟨by decide +kernel, rfl⟩
theorem dX1_gets_9 : D1 cX1_gets 9 (.iconst 4) 1 10 := ⟨by decide +kernel, rfl⟩
theorem dX1_gets_10 : D1 cX1_gets 10 (.idiv) 1 11 := ⟨by decide +kernel, rfl⟩
theorem dX1_gets_11 : DJ cX1_gets 11 .goto 14 15 := ⟨4, by decide +kernel, rfl, by decide⟩
theorem dX1_gets_14 : D1 cX1_gets 14 (.iconst 0) 1 15 := ⟨by decide +kernel, rfl⟩
theorem dX1_gets_15 : D1 cX1_gets 15 (.ireturn) 1 16 := ⟨by decide +kernel, rfl⟩
theorem dX1_isCold_0 : D1 cX1_isCold 0 (.aload_n 0) 1 1 := ⟨by decide +kernel, rfl⟩
theorem dX1_isCold_1 : D1 cX1_isCold 1 (.invokevirtual 34) 3 4 := ⟨by decide +kernel, rfl⟩
theorem dX1_isCold_4 : DJ cX1_isCold 4 (.ifCond .eq) 7 22 := ⟨18, by decide +kernel, rfl, by decide⟩
theorem dX1_isCold_7 : D1 cX1_isCold 7 (.aload_n 0) 1 8 := ⟨by decide +kernel, rfl⟩
theorem dX1_isCold_8 : D1 cX1_isCold 8 (.getfield 15) 3 11 := ⟨by decide +kernel, rfl⟩
theorem dX1_isCold_11 : D1 cX1_isCold 11 (.aload_n 0) 1 12 := ⟨by decide +kernel, rfl⟩
theorem dX1_isCold_12 : D1 cX1_isCold 12 (.getfield 24) 3 15 := ⟨by decide +kernel, rfl⟩
theorem dX1_isCold_15 : DJ cX1_isCold 15 (.if_icmp .ge) 18 22 := ⟨7, by decide +kernel, rfl, by decide⟩
theorem dX1_isCold_18 : D1 cX1_isCold 18 (.iconst 1) 1 19 := ⟨by decide +kernel, rfl⟩
theorem dX1_isCold_19 : DJ cX1_isCold 19 .goto 22 23 := ⟨4, by decide +kernel, rfl, by decide⟩
theorem dX1_isCold_22 : D1 cX1_isCold 22 (.iconst 0) 1 23 := ⟨by decide +kernel, rfl⟩
theorem dX1_isCold_23 : D1 cX1_isCold 23 (.ireturn) 1 24 := ⟨by decide +kernel, rfl⟩
theorem dX1_warmBy_0 : D1 cX1_warmBy 0 (.aload_n 0) 1 1 := ⟨by decide +kernel, rfl⟩
theorem dX1_warmBy_1 : D1 cX1_warmBy 1 (.sipush 400) 3 4 := ⟨by decide +kernel, rfl⟩
theorem dX1_warmBy_4 : D1 cX1_warmBy 4 (.aload_n 0) 1 5 := ⟨by decide +kernel, rfl⟩
theorem dX1_warmBy_5 : D1 cX1_warmBy 5 (.getfield 15) 3 8 := ⟨by decide +kernel, rfl⟩
theorem dX1_warmBy_8 : D1 cX1_warmBy 8 (.iload_n 1) 1 9 := ⟨by decide +kernel, rfl⟩
theorem dX1_warmBy_9 : D1 cX1_warmBy 9 (.iadd) 1 10 := ⟨by decide +kernel, rfl⟩
theorem dX1_warmBy_10 : D1 cX1_warmBy 10 (.invokestatic 38) 3 13 := ⟨by decide +kernel, rfl⟩
theorem dX1_warmBy_13 : D1 cX1_warmBy 13 (.putfield 15) 3 16 := ⟨by decide +kernel, rfl⟩
theorem dX1_warmBy_16 : D1 cX1_warmBy 16 (.return_) 1 17 := ⟨by decide +kernel, rfl⟩
theorem dX1_cool_0 : D1 cX1_cool 0 (.aload_n 0) 1 1 := ⟨by decide +kernel, rfl⟩
theorem dX1_cool_1 : D1 cX1_cool 1 (.iconst 0) 1 2 := ⟨by decide +kernel, rfl⟩
theorem dX1_cool_2 : D1 cX1_cool 2 (.aload_n 0) 1 3 := ⟨by decide +kernel, rfl⟩
theorem dX1_cool_3 : D1 cX1_cool 3 (.getfield 15) 3 6 := ⟨by decide +kernel, rfl⟩
theorem dX1_cool_6 : D1 cX1_cool 6 (.aload_n 0) 1 7 := ⟨by decide +kernel, rfl⟩
theorem dX1_cool_7 : D1 cX1_cool 7 (.iload_n 1) 1 8 := ⟨by decide +kernel, rfl⟩
theorem dX1_cool_8 : D1 cX1_cool 8 (.invokevirtual 44) 3 11 := ⟨by decide +kernel, rfl⟩
theorem dX1_cool_11 : D1 cX1_cool 11 (.isub) 1 12 := ⟨by decide +kernel, rfl⟩
theorem dX1_cool_12 : D1 cX1_cool 12 (.invokestatic 48) 3 15 := ⟨by decide +kernel, rfl⟩
theorem dX1_cool_15 : D1 cX1_cool 15 (.putfield 15) 3 18 := ⟨by decide +kernel, rfl⟩
theorem dX1_cool_18 : D1 cX1_cool 18 (.return_) 1 19 := ⟨by decide +kernel, rfl⟩
theorem dX2_init_0 : D1 cX2_init 0 (.aload_n 0) 1 1 := ⟨by decide +kernel, rfl⟩
theorem dX2_init_1 : D1 cX2_init 1 (.invokespecial 3) 3 4 := ⟨by decide +kernel, rfl⟩
theorem dX2_init_4 : D1 cX2_init 4 (.aload_n 0) 1 5 := ⟨by decide +kernel, rfl⟩
theorem dX2_init_5 : D1 cX2_init 5 (.aload_n 1) 1 6 := ⟨by decide +kernel, rfl⟩
theorem dX2_init_6 : D1 cX2_init 6 (.putfield 9) 3 9 := ⟨by decide +kernel, rfl⟩
theorem dX2_init_9 : D1 cX2_init 9 (.aload_n 0) 1 10 := ⟨by decide +kernel, rfl⟩
theorem dX2_init_10 : D1 cX2_init 10 (.aload_n 2) 1 11 := ⟨by decide +kernel, rfl⟩
theorem dX2_init_11 : D1 cX2_init 11 (.putfield 15) 3 14 := ⟨by decide +kernel, rfl⟩
theorem dX2_init_14 : D1 cX2_init 14 (.return_) 1 15 := ⟨by decide +kernel, rfl⟩
theorem dX2_readAll_0 : D1 cX2_readAll 0 (.aload_n 0) 1 1 := ⟨by decide +kernel, rfl⟩
theorem dX2_readAll_1 : D1 cX2_readAll 1 (.iload_n 1) 1 2 := ⟨by decide +kernel, rfl⟩
theorem dX2_readAll_2 : D1 cX2_readAll 2 (.putfield 19) 3 5 := ⟨by decide +kernel, rfl⟩
theorem dX2_readAll_5 : D1 cX2_readAll 5 (.aload_n 0) 1 6 := ⟨by decide +kernel, rfl⟩
theorem dX2_readAll_6 : D1 cX2_readAll 6 (.iconst 0) 1 7 := ⟨by decide +kernel, rfl⟩
theorem dX2_readAll_7 : D1 cX2_readAll 7 (.putfield 23) 3 10 := ⟨by decide +kernel, rfl⟩
theorem dX2_readAll_10 : D1 cX2_readAll 10 (.iconst 1) 1 11 := ⟨by decide +kernel, rfl⟩
theorem dX2_readAll_11 : D1 cX2_readAll 11 (.istore_n 2) 1 12 := ⟨by decide +kernel, rfl⟩
theorem dX2_readAll_12 : D1 cX2_readAll 12 (.iload_n 2) 1 13 := ⟨by decide +kernel, rfl⟩
theorem dX2_readAll_13 : D1 cX2_readAll 13 (.bipush 120) 2 15 := ⟨by decide +kernel, rfl⟩
theorem dX2_readAll_15 : DJ cX2_readAll 15 (.if_icmp .gt) 18 66 := ⟨51, by decide +kernel, rfl, by decide⟩
theorem dX2_readAll_18 : D1 cX2_readAll 18 (.aload_n 0) 1 19 := ⟨by decide +kernel, rfl⟩
theorem dX2_readAll_19 : D1 cX2_readAll 19 (.invokevirtual 26) 3 22 := ⟨by decide +kernel, rfl⟩
theorem dX2_readAll_22 : D1 cX2_readAll 22 (.aload_n 0) 1 23 := ⟨by decide +kernel, rfl⟩
theorem dX2_readAll_23 : D1 cX2_readAll 23 (.invokevirtual 29) 3 26 := ⟨by decide +kernel, rfl⟩
theorem dX2_readAll_26 : DJ cX2_readAll 26 (.ifCond .ne) 29 36 := ⟨10, by decide +kernel, rfl, by decide⟩
theorem dX2_readAll_29 : D1 cX2_readAll 29 (.iconst (-1)) 1 30 := ⟨by decide +kernel, rfl⟩
theorem dX2_readAll_30 : D1 cX2_readAll 30 (.aload_n 0) 1 31 := ⟨by decide +kernel, rfl⟩
theorem dX2_readAll_31 : D1 cX2_readAll 31 (.getfield 33) 3 34 := ⟨by decide +kernel, rfl⟩
theorem dX2_readAll_34 : D1 cX2_readAll 34 (.isub) 1 35 := ⟨by decide +kernel, rfl⟩
theorem dX2_readAll_35 : D1 cX2_readAll 35 (.ireturn) 1 36 := ⟨by decide +kernel, rfl⟩
theorem dX2_readAll_36 : D1 cX2_readAll 36 (.aload_n 0) 1 37 := ⟨by decide +kernel, rfl⟩
theorem dX2_readAll_37 : D1 cX2_readAll 37 (.getfield 36) 3 40 := ⟨by decide +kernel, rfl⟩
theorem dX2_readAll_40 : DJ cX2_readAll 40 (.ifCond .ne) 43 45 := ⟨5, by decide +kernel, rfl, by decide⟩
theorem dX2_readAll_43 : D1 cX2_readAll 43 (.iload_n 2) 1 44 := ⟨by decide +kernel, rfl⟩
theorem dX2_readAll_44 : D1 cX2_readAll 44 (.ireturn) 1 45 := ⟨by decide +kernel, rfl⟩
theorem dX2_readAll_45 : D1 cX2_readAll 45 (.aload_n 0) 1 46 := ⟨by decide +kernel, rfl⟩
theorem dX2_readAll_46 : D1 cX2_readAll 46 (.getfield 36) 3 49 := ⟨by decide +kernel, rfl⟩
theorem dX2_readAll_49 : D1 cX2_readAll 49 (.iconst 3) 1 50 := ⟨by decide +kernel, rfl⟩
theorem dX2_readAll_50 : DJ cX2_readAll 50 (.if_icmp .eq) 53 60 := ⟨10, by decide +kernel, rfl, by decide⟩
theorem dX2_readAll_53 : D1 cX2_readAll 53 (.iconst (-1)) 1 54 := ⟨by decide +kernel, rfl⟩
theorem dX2_readAll_54 : D1 cX2_readAll 54 (.aload_n 0) 1 55 := ⟨by decide +kernel, rfl⟩
theorem dX2_readAll_55 : D1 cX2_readAll 55 (.getfield 33) 3 58 := ⟨by decide +kernel, rfl⟩
theorem dX2_readAll_58 : D1 cX2_readAll 58 (.isub) 1 59 := ⟨by decide +kernel, rfl⟩
theorem dX2_readAll_59 : D1 cX2_readAll 59 (.ireturn) 1 60 := ⟨by decide +kernel, rfl⟩
theorem dX2_readAll_60 : D1 cX2_readAll 60 (.iinc 2 1) 3 63 := ⟨by decide +kernel, rfl⟩
theorem dX2_readAll_63 : DJ cX2_readAll 63 .goto 66 12 := ⟨(-51), by decide +kernel, rfl, by decide⟩
theorem dX2_readAll_66 : D1 cX2_readAll 66 (.iconst (-1)) 1 67 := ⟨by decide +kernel, rfl⟩
theorem dX2_readAll_67 : D1 cX2_readAll 67 (.aload_n 0) 1 68 := ⟨by decide +kernel, rfl⟩
theorem dX2_readAll_68 : D1 cX2_readAll 68 (.getfield 33) 3 71 := ⟨by decide +kernel, rfl⟩
theorem dX2_readAll_71 : D1 cX2_readAll 71 (.isub) 1 72 := ⟨by decide +kernel, rfl⟩
theorem dX2_readAll_72 : D1 cX2_readAll 72 (.ireturn) 1 73 := ⟨by decide +kernel, rfl⟩
theorem dX2_readItem_0 : D1 cX2_readItem 0 (.aload_n 0) 1 1 := ⟨by decide +kernel, rfl⟩
theorem dX2_readItem_1 : D1 cX2_readItem 1 (.invokevirtual 39) 3 4 := ⟨by decide +kernel, rfl⟩
theorem dX2_readItem_4 : D1 cX2_readItem 4 (.istore_n 1) 1 5 := ⟨by decide +kernel, rfl⟩
theorem dX2_readItem_5 : D1 cX2_readItem 5 (.iload_n 1) 1 6 := ⟨by decide +kernel, rfl⟩
theorem dX2_readItem_6 : DJ cX2_readItem 6 (.ifCond .lt) 9 15 := ⟨9, by decide +kernel, rfl, by decide⟩
theorem dX2_readItem_9 : D1 cX2_readItem 9 (.aload_n 0) 1 10 := ⟨by decide +kernel, rfl⟩
theorem dX2_readItem_10 : D1 cX2_readItem 10 (.iload_n 1) 1 11 := ⟨by decide +kernel, rfl⟩
theorem dX2_readItem_11 : D1 cX2_readItem 11 (.invokevirtual 43) 3 14 := ⟨by decide +kernel, rfl⟩
theorem dX2_readItem_14 : D1 cX2_readItem 14 (.ireturn) 1 15 := ⟨by decide +kernel, rfl⟩
theorem dX2_readItem_15 : D1 cX2_readItem 15 (.aload_n 0) 1 16 := ⟨by decide +kernel, rfl⟩
theorem dX2_readItem_16 : D1 cX2_readItem 16 (.ldc 47) 2 18 := ⟨by decide +kernel, rfl⟩
theorem dX2_readItem_18 : D1 cX2_readItem 18 (.invokevirtual 49) 3 21 := ⟨by decide +kernel, rfl⟩
theorem dX2_readItem_21 : DJ cX2_readItem 21 (.ifCond .eq) 24 29 := ⟨8, by decide +kernel, rfl, by decide⟩
theorem dX2_readItem_24 : D1 cX2_readItem 24 (.aload_n 0) 1 25 := ⟨by decide +kernel, rfl⟩
theorem dX2_readItem_25 : D1 cX2_readItem 25 (.invokevirtual 53) 3 28 := ⟨by decide +kernel, rfl⟩
theorem dX2_readItem_28 : D1 cX2_readItem 28 (.ireturn) 1 29 := ⟨by decide +kernel, rfl⟩
theorem dX2_readItem_29 : D1 cX2_readItem 29 (.aload_n 0) 1 30 := ⟨by decide +kernel, rfl⟩
theorem dX2_readItem_30 : D1 cX2_readItem 30 (.ldc 56) 2 32 := ⟨by decide +kernel, rfl⟩
theorem dX2_readItem_32 : D1 cX2_readItem 32 (.invokevirtual 49) 3 35 := ⟨by decide +kernel, rfl⟩
theorem dX2_readItem_35 : DJ cX2_readItem 35 (.ifCond .eq) 38 47 := ⟨12, by decide +kernel, rfl, by decide⟩
theorem dX2_readItem_38 : D1 cX2_readItem 38 (.aload_n 0) 1 39 := ⟨by decide +kernel, rfl⟩
theorem dX2_readItem_39 : D1 cX2_readItem 39 (.invokevirtual 26) 3 42 := ⟨by decide +kernel, rfl⟩
theorem dX2_readItem_42 : D1 cX2_readItem 42 (.aload_n 0) 1 43 := ⟨by decide +kernel, rfl⟩
theorem dX2_readItem_43 : D1 cX2_readItem 43 (.invokevirtual 58) 3 46 := ⟨by decide +kernel, rfl⟩
theorem dX2_readItem_46 : D1 cX2_readItem 46 (.ireturn) 1 47 := ⟨by decide +kernel, rfl⟩
theorem dX2_readItem_47 : D1 cX2_readItem 47 (.aload_n 0) 1 48 := ⟨by decide +kernel, rfl⟩
theorem dX2_readItem_48 : D1 cX2_readItem 48 (.ldc 61) 2 50 := ⟨by decide +kernel, rfl⟩
theorem dX2_readItem_50 : D1 cX2_readItem 50 (.invokevirtual 49) 3 53 := ⟨by decide +kernel, rfl⟩
theorem dX2_readItem_53 : DJ cX2_readItem 53 (.ifCond .ne) 56 65 := ⟨12, by decide +kernel, rfl, by decide⟩
theorem dX2_readItem_56 : D1 cX2_readItem 56 (.aload_n 0) 1 57 := ⟨by decide +kernel, rfl⟩
theorem dX2_readItem_57 : D1 cX2_readItem 57 (.ldc 63) 2 59 := ⟨by decide +kernel, rfl⟩
theorem dX2_readItem_59 : D1 cX2_readItem 59 (.invokevirtual 49) 3 62 := ⟨by decide +kernel, rfl⟩
theorem dX2_readItem_62 : DJ cX2_readItem 62 (.ifCond .eq) 65 92 := ⟨30, by decide +kernel, rfl, by decide⟩
theorem dX2_readItem_65 : D1 cX2_readItem 65 (.aload_n 0) 1 66 := ⟨by decide +kernel, rfl⟩
theorem dX2_readItem_66 : D1 cX2_readItem 66 (.getfield 15) 3 69 := ⟨by decide +kernel, rfl⟩
theorem dX2_readItem_69 : D1 cX2_readItem 69 (.aload_n 0) 1 70 := ⟨by decide +kernel, rfl⟩
theorem dX2_readItem_70 : D1 cX2_readItem 70 (.ldc 61) 2 72 := ⟨by decide +kernel, rfl⟩
theorem dX2_readItem_72 : D1 cX2_readItem 72 (.invokevirtual 49) 3 75 := ⟨by decide +kernel, rfl⟩
theorem dX2_readItem_75 : DJ cX2_readItem 75 (.ifCond .eq) 78 82 := ⟨7, by decide +kernel, rfl, by decide⟩
theorem dX2_readItem_78 : D1 cX2_readItem 78 (.iconst 1) 1 79 := ⟨by decide +kernel, rfl⟩
theorem dX2_readItem_79 : DJ cX2_readItem 79 .goto 82 83 := ⟨4, by decide +kernel, rfl, by decide⟩
theorem dX2_readItem_82 : D1 cX2_readItem 82 (.iconst 0) 1 83 := ⟨by decide +kernel, rfl⟩
theorem dX2_readItem_83 : D1 cX2_readItem 83 (.putfield 65) 3 86 := ⟨by decide +kernel, rfl⟩
theorem dX2_readItem_86 : D1 cX2_readItem 86 (.aload_n 0) 1 87 := ⟨by decide +kernel, rfl⟩
theorem dX2_readItem_87 : D1 cX2_readItem 87 (.invokevirtual 26) 3 90 := ⟨by decide +kernel, rfl⟩
theorem dX2_readItem_90 : D1 cX2_readItem 90 (.iconst 1) 1 91 := ⟨by decide +kernel, rfl⟩
theorem dX2_readItem_91 : D1 cX2_readItem 91 (.ireturn) 1 92 := ⟨by decide +kernel, rfl⟩
theorem dX2_readItem_92 : D1 cX2_readItem 92 (.iconst 0) 1 93 := ⟨by decide +kernel, rfl⟩
theorem dX2_readItem_93 : D1 cX2_readItem 93 (.ireturn) 1 94 := ⟨by decide +kernel, rfl⟩
theorem dX2_kindTold_0 : D1 cX2_kindTold 0 (.aload_n 0) 1 1 := ⟨by decide +kernel, rfl⟩
theorem dX2_kindTold_1 : D1 cX2_kindTold 1 (.ldc 69) 2 3 := ⟨by decide +kernel, rfl⟩
theorem dX2_kindTold_3 : D1 cX2_kindTold 3 (.invokevirtual 49) 3 6 := ⟨by decide +kernel, rfl⟩
theorem dX2_kindTold_6 : DJ cX2_kindTold 6 (.ifCond .eq) 9 11 := ⟨5, by decide +kernel, rfl, by decide⟩
theorem dX2_kindTold_9 : D1 cX2_kindTold 9 (.iconst 0) 1 10 := ⟨by decide +kernel, rfl⟩
theorem dX2_kindTold_10 : D1 cX2_kindTold 10 (.ireturn) 1 11 := ⟨by decide +kernel, rfl⟩
theorem dX2_kindTold_11 : D1 cX2_kindTold 11 (.aload_n 0) 1 12 := ⟨by decide +kernel, rfl⟩
theorem dX2_kindTold_12 : D1 cX2_kindTold 12 (.ldc 71) 2 14 := ⟨by decide +kernel, rfl⟩
theorem dX2_kindTold_14 : D1 cX2_kindTold 14 (.invokevirtual 49) 3 17 := ⟨by decide +kernel, rfl⟩
theorem dX2_kindTold_17 : DJ cX2_kindTold 17 (.ifCond .eq) 20 22 := ⟨5, by decide +kernel, rfl, by decide⟩
theorem dX2_kindTold_20 : D1 cX2_kindTold 20 (.iconst 1) 1 21 := ⟨by decide +kernel, rfl⟩
theorem dX2_kindTold_21 : D1 cX2_kindTold 21 (.ireturn) 1 22 := ⟨by decide +kernel, rfl⟩
theorem dX2_kindTold_22 : D1 cX2_kindTold 22 (.aload_n 0) 1 23 := ⟨by decide +kernel, rfl⟩
theorem dX2_kindTold_23 : D1 cX2_kindTold 23 (.ldc 73) 2 25 := ⟨by decide +kernel, rfl⟩
theorem dX2_kindTold_25 : D1 cX2_kindTold 25 (.invokevirtual 49) 3 28 := ⟨by decide +kernel, rfl⟩
theorem dX2_kindTold_28 : DJ cX2_kindTold 28 (.ifCond .eq) 31 33 := ⟨5, by decide +kernel, rfl, by decide⟩
theorem dX2_kindTold_31 : D1 cX2_kindTold 31 (.iconst 2) 1 32 := ⟨by decide +kernel, rfl⟩
theorem dX2_kindTold_32 : D1 cX2_kindTold 32 (.ireturn) 1 33 := ⟨by decide +kernel, rfl⟩
theorem dX2_kindTold_33 : D1 cX2_kindTold 33 (.aload_n 0) 1 34 := ⟨by decide +kernel, rfl⟩
theorem dX2_kindTold_34 : D1 cX2_kindTold 34 (.ldc 75) 2 36 := ⟨by decide +kernel, rfl⟩
theorem dX2_kindTold_36 : D1 cX2_kindTold 36 (.invokevirtual 49) 3 39 := ⟨by decide +kernel, rfl⟩
theorem dX2_kindTold_39 : DJ cX2_kindTold 39 (.ifCond .eq) 42 44 := ⟨5, by decide +kernel, rfl, by decide⟩
theorem dX2_kindTold_42 : D1 cX2_kindTold 42 (.iconst 3) 1 43 := ⟨by decide +kernel, rfl⟩
theorem dX2_kindTold_43 : D1 cX2_kindTold 43 (.ireturn) 1 44 := ⟨by decide +kernel, rfl⟩
theorem dX2_kindTold_44 : D1 cX2_kindTold 44 (.aload_n 0) 1 45 := ⟨by decide +kernel, rfl⟩
theorem dX2_kindTold_45 : D1 cX2_kindTold 45 (.ldc 77) 2 47 := ⟨by decide +kernel, rfl⟩
theorem dX2_kindTold_47 : D1 cX2_kindTold 47 (.invokevirtual 49) 3 50 := ⟨by decide +kernel, rfl⟩
theorem dX2_kindTold_50 : DJ cX2_kindTold 50 (.ifCond .eq) 53 55 := ⟨5, by decide +kernel, rfl, by decide⟩
theorem dX2_kindTold_53 : D1 cX2_kindTold 53 (.iconst 4) 1 54 := ⟨by decide +kernel, rfl⟩
theorem dX2_kindTold_54 : D1 cX2_kindTold 54 (.ireturn) 1 55 := ⟨by decide +kernel, rfl⟩
theorem dX2_kindTold_55 : D1 cX2_kindTold 55 (.aload_n 0) 1 56 := ⟨by decide +kernel, rfl⟩
theorem dX2_kindTold_56 : D1 cX2_kindTold 56 (.ldc 79) 2 58 := ⟨by decide +kernel, rfl⟩
theorem dX2_kindTold_58 : D1 cX2_kindTold 58 (.invokevirtual 49) 3 61 := ⟨by decide +kernel, rfl⟩
theorem dX2_kindTold_61 : DJ cX2_kindTold 61 (.ifCond .eq) 64 66 := ⟨5, by decide +kernel, rfl, by decide⟩
theorem dX2_kindTold_64 : D1 cX2_kindTold 64 (.iconst 5) 1 65 := ⟨by decide +kernel, rfl⟩
theorem dX2_kindTold_65 : D1 cX2_kindTold 65 (.ireturn) 1 66 := ⟨by decide +kernel, rfl⟩
theorem dX2_kindTold_66 : D1 cX2_kindTold 66 (.aload_n 0) 1 67 := ⟨by decide +kernel, rfl⟩
theorem dX2_kindTold_67 : D1 cX2_kindTold 67 (.ldc 81) 2 69 := ⟨by decide +kernel, rfl⟩
theorem dX2_kindTold_69 : D1 cX2_kindTold 69 (.invokevirtual 49) 3 72 := ⟨by decide +kernel, rfl⟩
theorem dX2_kindTold_72 : DJ cX2_kindTold 72 (.ifCond .eq) 75 80 := ⟨8, by decide +kernel, rfl, by decide⟩
theorem dX2_kindTold_75 : D1 cX2_kindTold 75 (.bipush 6) 2 77 := ⟨by decide +kernel, rfl⟩
theorem dX2_kindTold_77 : DJ cX2_kindTold 77 .goto 80 81 := ⟨4, by decide +kernel, rfl, by decide⟩
theorem dX2_kindTold_80 : D1 cX2_kindTold 80 (.iconst (-1)) 1 81 := ⟨by decide +kernel, rfl⟩
theorem dX2_kindTold_81 : D1 cX2_kindTold 81 (.ireturn) 1 82 := ⟨by decide +kernel, rfl⟩
theorem dX2_readHouse_0 : D1 cX2_readHouse 0 (.aload_n 0) 1 1 := ⟨by decide +kernel, rfl⟩
theorem dX2_readHouse_1 : D1 cX2_readHouse 1 (.getfield 15) 3 4 := ⟨by decide +kernel, rfl⟩
theorem dX2_readHouse_4 : D1 cX2_readHouse 4 (.iload_n 1) 1 5 := ⟨by decide +kernel, rfl⟩
theorem dX2_readHouse_5 : D1 cX2_readHouse 5 (.invokevirtual 83) 3 8 := ⟨by decide +kernel, rfl⟩
theorem dX2_readHouse_8 : D1 cX2_readHouse 8 (.astore_n 2) 1 9 := ⟨by decide +kernel, rfl⟩
theorem dX2_readHouse_9 : D1 cX2_readHouse 9 (.aload_n 2) 1 10 := ⟨by decide +kernel, rfl⟩
theorem dX2_readHouse_10 : DJ cX2_readHouse 10 .ifnonnull 13 15 := ⟨5, by decide +kernel, rfl, by decide⟩
theorem dX2_readHouse_13 : D1 cX2_readHouse 13 (.iconst 0) 1 14 := ⟨by decide +kernel, rfl⟩
theorem dX2_readHouse_14 : D1 cX2_readHouse 14 (.ireturn) 1 15 := ⟨by decide +kernel, rfl⟩
theorem dX2_readHouse_15 : D1 cX2_readHouse 15 (.aload_n 0) 1 16 := ⟨by decide +kernel, rfl⟩
theorem dX2_readHouse_16 : D1 cX2_readHouse 16 (.invokevirtual 26) 3 19 := ⟨by decide +kernel, rfl⟩
theorem dX2_readHouse_19 : D1 cX2_readHouse 19 (.aload_n 0) 1 20 := ⟨by decide +kernel, rfl⟩
theorem dX2_readHouse_20 : D1 cX2_readHouse 20 (.aload_n 2) 1 21 := ⟨by decide +kernel, rfl⟩
theorem dX2_readHouse_21 : D1 cX2_readHouse 21 (.ldc 87) 2 23 := ⟨by decide +kernel, rfl⟩
theorem dX2_readHouse_23 : D1 cX2_readHouse 23 (.iconst 1) 1 24 := ⟨by decide +kernel, rfl⟩
theorem dX2_readHouse_24 : D1 cX2_readHouse 24 (.invokevirtual 89) 3 27 := ⟨by decide +kernel, rfl⟩
theorem dX2_readHouse_27 : DJ cX2_readHouse 27 (.ifCond .eq) 30 67 := ⟨40, by decide +kernel, rfl, by decide⟩
theorem dX2_readHouse_30 : D1 cX2_readHouse 30 (.aload_n 0) 1 31 := ⟨by decide +kernel, rfl⟩
theorem dX2_readHouse_31 : D1 cX2_readHouse 31 (.aload_n 2) 1 32 := ⟨by decide +kernel, rfl⟩
theorem dX2_readHouse_32 : D1 cX2_readHouse 32 (.ldc 93) 2 34 := ⟨by decide +kernel, rfl⟩
theorem dX2_readHouse_34 : D1 cX2_readHouse 34 (.iconst 2) 1 35 := ⟨by decide +kernel, rfl⟩
theorem dX2_readHouse_35 : D1 cX2_readHouse 35 (.invokevirtual 89) 3 38 := ⟨by decide +kernel, rfl⟩
theorem dX2_readHouse_38 : DJ cX2_readHouse 38 (.ifCond .eq) 41 67 := ⟨29, by decide +kernel, rfl, by decide⟩
theorem dX2_readHouse_41 : D1 cX2_readHouse 41 (.aload_n 0) 1 42 := ⟨by decide +kernel, rfl⟩
theorem dX2_readHouse_42 : D1 cX2_readHouse 42 (.aload_n 2) 1 43 := ⟨by decide +kernel, rfl⟩
theorem dX2_readHouse_43 : D1 cX2_readHouse 43 (.ldc 95) 2 45 := ⟨by decide +kernel, rfl⟩
theorem dX2_readHouse_45 : D1 cX2_readHouse 45 (.iconst 3) 1 46 := ⟨by decide +kernel, rfl⟩
theorem dX2_readHouse_46 : D1 cX2_readHouse 46 (.invokevirtual 89) 3 49 := ⟨by decide +kernel, rfl⟩
theorem dX2_readHouse_49 : DJ cX2_readHouse 49 (.ifCond .eq) 52 67 := ⟨18, by decide +kernel, rfl, by decide⟩
theorem dX2_readHouse_52 : D1 cX2_readHouse 52 (.aload_n 0) 1 53 := ⟨by decide +kernel, rfl⟩
theorem dX2_readHouse_53 : D1 cX2_readHouse 53 (.aload_n 2) 1 54 := ⟨by decide +kernel, rfl⟩
theorem dX2_readHouse_54 : D1 cX2_readHouse 54 (.ldc 97) 2 56 := ⟨by decide +kernel, rfl⟩
theorem dX2_readHouse_56 : D1 cX2_readHouse 56 (.iconst 4) 1 57 := ⟨by decide +kernel, rfl⟩
theorem dX2_readHouse_57 : D1 cX2_readHouse 57 (.invokevirtual 89) 3 60 := ⟨by decide +kernel, rfl⟩
theorem dX2_readHouse_60 : DJ cX2_readHouse 60 (.ifCond .eq) 63 67 := ⟨7, by decide +kernel, rfl, by decide⟩
theorem dX2_readHouse_63 : D1 cX2_readHouse 63 (.iconst 1) 1 64 := ⟨by decide +kernel, rfl⟩
theorem dX2_readHouse_64 : DJ cX2_readHouse 64 .goto 67 68 := ⟨4, by decide +kernel, rfl, by decide⟩
theorem dX2_readHouse_67 : D1 cX2_readHouse 67 (.iconst 0) 1 68 := ⟨by decide +kernel, rfl⟩
theorem dX2_readHouse_68 : D1 cX2_readHouse 68 (.ireturn) 1 69 := ⟨by decide +kernel, rfl⟩
theorem dX2_readPart_0 : D1 cX2_readPart 0 (.aload_n 0) 1 1 := ⟨by decide +kernel, rfl⟩
theorem dX2_readPart_1 : D1 cX2_readPart 1 (.aload_n 2) 1 2 := ⟨by decide +kernel, rfl⟩
theorem dX2_readPart_2 : D1 cX2_readPart 2 (.invokevirtual 49) 3 5 := ⟨by decide +kernel, rfl⟩
theorem dX2_readPart_5 : DJ cX2_readPart 5 (.ifCond .ne) 8 10 := ⟨5, by decide +kernel, rfl, by decide⟩
theorem dX2_readPart_8 : D1 cX2_readPart 8 (.iconst 1) 1 9 := ⟨by decide +kernel, rfl⟩
theorem dX2_readPart_9 : D1 cX2_readPart 9 (.ireturn) 1 10 := ⟨by decide +kernel, rfl⟩
theorem dX2_readPart_10 : D1 cX2_readPart 10 (.aload_n 0) 1 11 := ⟨by decide +kernel, rfl⟩
theorem dX2_readPart_11 : D1 cX2_readPart 11 (.invokevirtual 26) 3 14 := ⟨by decide +kernel, rfl⟩
theorem dX2_readPart_14 : D1 cX2_readPart 14 (.aload_n 0) 1 15 := ⟨by decide +kernel, rfl⟩
theorem dX2_readPart_15 : D1 cX2_readPart 15 (.iload_n 3) 1 16 := ⟨by decide +kernel, rfl⟩
theorem dX2_readPart_16 : D1 cX2_readPart 16 (.invokestatic 99) 3 19 := ⟨by decide +kernel, rfl⟩
theorem dX2_readPart_19 : D1 cX2_readPart 19 (.iload_n 3) 1 20 := ⟨by decide +kernel, rfl⟩
theorem dX2_readPart_20 : D1 cX2_readPart 20 (.invokestatic 103) 3 23 := ⟨by decide +kernel, rfl⟩
theorem dX2_readPart_23 : D1 cX2_readPart 23 (.invokevirtual 106) 3 26 := ⟨by decide +kernel, rfl⟩
theorem dX2_readPart_26 : DJ cX2_readPart 26 (.ifCond .ne) 29 31 := ⟨5, by decide +kernel, rfl, by decide⟩
theorem dX2_readPart_29 : D1 cX2_readPart 29 (.iconst 0) 1 30 := ⟨by decide +kernel, rfl⟩
theorem dX2_readPart_30 : D1 cX2_readPart 30 (.ireturn) 1 31 := ⟨by decide +kernel, rfl⟩
theorem dX2_readPart_31 : D1 cX2_readPart 31 (.aload_n 1) 1 32 := ⟨by decide +kernel, rfl⟩
theorem dX2_readPart_32 : D1 cX2_readPart 32 (.iload_n 3) 1 33 := ⟨by decide +kernel, rfl⟩
theorem dX2_readPart_33 : D1 cX2_readPart 33 (.aload_n 0) 1 34 := ⟨by decide +kernel, rfl⟩
theorem dX2_readPart_34 : D1 cX2_readPart 34 (.getfield 110) 3 37 := ⟨by decide +kernel, rfl⟩
theorem dX2_readPart_37 : D1 cX2_readPart 37 (.invokevirtual 113) 3 40 := ⟨by decide +kernel, rfl⟩
theorem dX2_readPart_40 : D1 cX2_readPart 40 (.aload_n 0) 1 41 := ⟨by decide +kernel, rfl⟩
theorem dX2_readPart_41 : D1 cX2_readPart 41 (.invokevirtual 26) 3 44 := ⟨by decide +kernel, rfl⟩
theorem dX2_readPart_44 : D1 cX2_readPart 44 (.iconst 1) 1 45 := ⟨by decide +kernel, rfl⟩
theorem dX2_readPart_45 : D1 cX2_readPart 45 (.ireturn) 1 46 := ⟨by decide +kernel, rfl⟩
theorem dX2_readSteep_0 : D1 cX2_readSteep 0 (.aload_n 0) 1 1 := ⟨by decide +kernel, rfl⟩
theorem dX2_readSteep_1 : D1 cX2_readSteep 1 (.invokevirtual 26) 3 4 := ⟨by decide +kernel, rfl⟩
theorem dX2_readSteep_4 : D1 cX2_readSteep 4 (.aload_n 0) 1 5 := ⟨by decide +kernel, rfl⟩
theorem dX2_readSteep_5 : D1 cX2_readSteep 5 (.iconst 0) 1 6 := ⟨by decide +kernel, rfl⟩
theorem dX2_readSteep_6 : D1 cX2_readSteep 6 (.bipush 6) 2 8 := ⟨by decide +kernel, rfl⟩
theorem dX2_readSteep_8 : D1 cX2_readSteep 8 (.invokevirtual 106) 3 11 := ⟨by decide +kernel, rfl⟩
theorem dX2_readSteep_11 : DJ cX2_readSteep 11 (.ifCond .ne) 14 16 := ⟨5, by decide +kernel, rfl, by decide⟩
theorem dX2_readSteep_14 : D1 cX2_readSteep 14 (.iconst 0) 1 15 := ⟨by decide +kernel, rfl⟩
theorem dX2_readSteep_15 : D1 cX2_readSteep 15 (.ireturn) 1 16 := ⟨by decide +kernel, rfl⟩
theorem dX2_readSteep_16 : D1 cX2_readSteep 16 (.aload_n 0) 1 17 := ⟨by decide +kernel, rfl⟩
theorem dX2_readSteep_17 : D1 cX2_readSteep 17 (.getfield 110) 3 20 := ⟨by decide +kernel, rfl⟩
theorem dX2_readSteep_20 : D1 cX2_readSteep 20 (.istore_n 1) 1 21 := ⟨by decide +kernel, rfl⟩
theorem dX2_readSteep_21 : D1 cX2_readSteep 21 (.aload_n 0) 1 22 := ⟨by decide +kernel, rfl⟩
theorem dX2_readSteep_22 : D1 cX2_readSteep 22 (.invokevirtual 26) 3 25 := ⟨by decide +kernel, rfl⟩
theorem dX2_readSteep_25 : D1 cX2_readSteep 25 (.aload_n 0) 1 26 := ⟨by decide +kernel, rfl⟩
theorem dX2_readSteep_26 : D1 cX2_readSteep 26 (.iconst 0) 1 27 := ⟨by decide +kernel, rfl⟩
theorem dX2_readSteep_27 : D1 cX2_readSteep 27 (.bipush 9) 2 29 := ⟨by decide +kernel, rfl⟩
theorem dX2_readSteep_29 : D1 cX2_readSteep 29 (.invokevirtual 106) 3 32 := ⟨by decide +kernel, rfl⟩
theorem dX2_readSteep_32 : DJ cX2_readSteep 32 (.ifCond .ne) 35 37 := ⟨5, by decide +kernel, rfl, by decide⟩
theorem dX2_readSteep_35 : D1 cX2_readSteep 35 (.iconst 0) 1 36 := ⟨by decide +kernel, rfl⟩
theorem dX2_readSteep_36 : D1 cX2_readSteep 36 (.ireturn) 1 37 := ⟨by decide +kernel, rfl⟩
theorem dX2_readSteep_37 : D1 cX2_readSteep 37 (.aload_n 0) 1 38 := ⟨by decide +kernel, rfl⟩
theorem dX2_readSteep_38 : D1 cX2_readSteep 38 (.getfield 15) 3 41 := ⟨by decide +kernel, rfl⟩
theorem dX2_readSteep_41 : D1 cX2_readSteep 41 (.iload_n 1) 1 42 := ⟨by decide +kernel, rfl⟩
theorem dX2_readSteep_42 : D1 cX2_readSteep 42 (.aload_n 0) 1 43 := ⟨by decide +kernel, rfl⟩
theorem dX2_readSteep_43 : D1 cX2_readSteep 43 (.getfield 110) 3 46 := ⟨by decide +kernel, rfl⟩
theorem dX2_readSteep_46 : D1 cX2_readSteep 46 (.invokevirtual 119) 3 49 := ⟨by decide +kernel, rfl⟩
theorem dX2_readSteep_49 : D1 cX2_readSteep 49 (.aload_n 0) 1 50 := ⟨by decide +kernel, rfl⟩
theorem dX2_readSteep_50 : D1 cX2_readSteep 50 (.invokevirtual 26) 3 53 := ⟨by decide +kernel, rfl⟩
theorem dX2_readSteep_53 : D1 cX2_readSteep 53 (.iconst 1) 1 54 := ⟨by decide +kernel, rfl⟩
theorem dX2_readSteep_54 : D1 cX2_readSteep 54 (.ireturn) 1 55 := ⟨by decide +kernel, rfl⟩
theorem dX2_readOut_0 : D1 cX2_readOut 0 (.aload_n 0) 1 1 := ⟨by decide +kernel, rfl⟩
theorem dX2_readOut_1 : D1 cX2_readOut 1 (.iconst 0) 1 2 := ⟨by decide +kernel, rfl⟩
theorem dX2_readOut_2 : D1 cX2_readOut 2 (.bipush 100) 2 4 := ⟨by decide +kernel, rfl⟩
theorem dX2_readOut_4 : D1 cX2_readOut 4 (.invokevirtual 106) 3 7 := ⟨by decide +kernel, rfl⟩
theorem dX2_readOut_7 : DJ cX2_readOut 7 (.ifCond .ne) 10 12 := ⟨5, by decide +kernel, rfl, by decide⟩
theorem dX2_readOut_10 : D1 cX2_readOut 10 (.iconst 0) 1 11 := ⟨by decide +kernel, rfl⟩
theorem dX2_readOut_11 : D1 cX2_readOut 11 (.ireturn) 1 12 := ⟨by decide +kernel, rfl⟩
theorem dX2_readOut_12 : D1 cX2_readOut 12 (.aload_n 0) 1 13 := ⟨by decide +kernel, rfl⟩
theorem dX2_readOut_13 : D1 cX2_readOut 13 (.getfield 15) 3 16 := ⟨by decide +kernel, rfl⟩
theorem dX2_readOut_16 : D1 cX2_readOut 16 (.aload_n 0) 1 17 := ⟨by decide +kernel, rfl⟩
theorem dX2_readOut_17 : D1 cX2_readOut 17 (.getfield 110) 3 20 := ⟨by decide +kernel, rfl⟩
theorem dX2_readOut_20 : D1 cX2_readOut 20 (.putfield 122) 3 23 := ⟨by decide +kernel, rfl⟩
theorem dX2_readOut_23 : D1 cX2_readOut 23 (.aload_n 0) 1 24 := ⟨by decide +kernel, rfl⟩
theorem dX2_readOut_24 : D1 cX2_readOut 24 (.invokevirtual 26) 3 27 := ⟨by decide +kernel, rfl⟩
theorem dX2_readOut_27 : D1 cX2_readOut 27 (.iconst 1) 1 28 := ⟨by decide +kernel, rfl⟩
theorem dX2_readOut_28 : D1 cX2_readOut 28 (.ireturn) 1 29 := ⟨by decide +kernel, rfl⟩
theorem dX2_isNumber_0 : D1 cX2_isNumber 0 (.aload_n 0) 1 1 := ⟨by decide +kernel, rfl⟩
theorem dX2_isNumber_1 : D1 cX2_isNumber 1 (.getfield 36) 3 4 := ⟨by decide +kernel, rfl⟩
theorem dX2_isNumber_4 : D1 cX2_isNumber 4 (.iconst 2) 1 5 := ⟨by decide +kernel, rfl⟩
theorem dX2_isNumber_5 : DJ cX2_isNumber 5 (.if_icmp .ne) 8 28 := ⟨23, by decide +kernel, rfl, by decide⟩
theorem dX2_isNumber_8 : D1 cX2_isNumber 8 (.aload_n 0) 1 9 := ⟨by decide +kernel, rfl⟩
theorem dX2_isNumber_9 : D1 cX2_isNumber 9 (.getfield 110) 3 12 := ⟨by decide +kernel, rfl⟩
theorem dX2_isNumber_12 : D1 cX2_isNumber 12 (.iload_n 1) 1 13 := ⟨by decide +kernel, rfl⟩
theorem dX2_isNumber_13 : DJ cX2_isNumber 13 (.if_icmp .lt) 16 28 := ⟨15, by decide +kernel, rfl, by decide⟩
theorem dX2_isNumber_16 : D1 cX2_isNumber 16 (.aload_n 0) 1 17 := ⟨by decide +kernel, rfl⟩
theorem dX2_isNumber_17 : D1 cX2_isNumber 17 (.getfield 110) 3 20 := ⟨by decide +kernel, rfl⟩
theorem dX2_isNumber_20 : D1 cX2_isNumber 20 (.iload_n 2) 1 21 := ⟨by decide +kernel, rfl⟩
theorem dX2_isNumber_21 : DJ cX2_isNumber 21 (.if_icmp .gt) 24 28 := ⟨7, by decide +kernel, rfl, by decide⟩
theorem dX2_isNumber_24 : D1 cX2_isNumber 24 (.iconst 1) 1 25 := ⟨by decide +kernel, rfl⟩
theorem dX2_isNumber_25 : DJ cX2_isNumber 25 .goto 28 29 := ⟨4, by decide +kernel, rfl, by decide⟩
theorem dX2_isNumber_28 : D1 cX2_isNumber 28 (.iconst 0) 1 29 := ⟨by decide +kernel, rfl⟩
theorem dX2_isNumber_29 : D1 cX2_isNumber 29 (.ireturn) 1 30 := ⟨by decide +kernel, rfl⟩
theorem dX2_isWord_0 : D1 cX2_isWord 0 (.aload_n 0) 1 1 := ⟨by decide +kernel, rfl⟩
theorem dX2_isWord_1 : D1 cX2_isWord 1 (.getfield 36) 3 4 := ⟨by decide +kernel, rfl⟩
theorem dX2_isWord_4 : D1 cX2_isWord 4 (.iconst 1) 1 5 := ⟨by decide +kernel, rfl⟩
theorem dX2_isWord_5 : DJ cX2_isWord 5 (.if_icmp .ne) 8 24 := ⟨19, by decide +kernel, rfl, by decide⟩
theorem dX2_isWord_8 : D1 cX2_isWord 8 (.aload_n 0) 1 9 := ⟨by decide +kernel, rfl⟩
theorem dX2_isWord_9 : D1 cX2_isWord 9 (.getfield 23) 3 12 := ⟨by decide +kernel, rfl⟩
theorem dX2_isWord_12 : D1 cX2_isWord 12 (.aload_n 0) 1 13 := ⟨by decide +kernel, rfl⟩
theorem dX2_isWord_13 : D1 cX2_isWord 13 (.getfield 33) 3 16 := ⟨by decide +kernel, rfl⟩
theorem dX2_isWord_16 : D1 cX2_isWord 16 (.isub) 1 17 := ⟨by decide +kernel, rfl⟩
theorem dX2_isWord_17 : D1 cX2_isWord 17 (.aload_n 1) 1 18 := ⟨by decide +kernel, rfl⟩
theorem dX2_isWord_18 : D1 cX2_isWord 18 (.invokevirtual 124) 3 21 := ⟨by decide +kernel, rfl⟩
theorem dX2_isWord_21 : DJ cX2_isWord 21 (.if_icmp .eq) 24 26 := ⟨5, by decide +kernel, rfl, by decide⟩
theorem dX2_isWord_24 : D1 cX2_isWord 24 (.iconst 0) 1 25 := ⟨by decide +kernel, rfl⟩
theorem dX2_isWord_25 : D1 cX2_isWord 25 (.ireturn) 1 26 := ⟨by decide +kernel, rfl⟩
theorem dX2_isWord_26 : D1 cX2_isWord 26 (.iconst 0) 1 27 := ⟨by decide +kernel, rfl⟩
theorem dX2_isWord_27 : D1 cX2_isWord 27 (.istore_n 2) 1 28 := ⟨by decide +kernel, rfl⟩
theorem dX2_isWord_28 : D1 cX2_isWord 28 (.iload_n 2) 1 29 := ⟨by decide +kernel, rfl⟩
theorem dX2_isWord_29 : D1 cX2_isWord 29 (.aload_n 1) 1 30 := ⟨by decide +kernel, rfl⟩
theorem dX2_isWord_30 : D1 cX2_isWord 30 (.invokevirtual 124) 3 33 := ⟨by decide +kernel, rfl⟩
theorem dX2_isWord_33 : DJ cX2_isWord 33 (.if_icmp .ge) 36 62 := ⟨29, by decide +kernel, rfl, by decide⟩
theorem dX2_isWord_36 : D1 cX2_isWord 36 (.aload_n 0) 1 37 := ⟨by decide +kernel, rfl⟩
theorem dX2_isWord_37 : D1 cX2_isWord 37 (.aload_n 0) 1 38 := ⟨by decide +kernel, rfl⟩
theorem dX2_isWord_38 : D1 cX2_isWord 38 (.getfield 33) 3 41 := ⟨by decide +kernel, rfl⟩
theorem dX2_isWord_41 : D1 cX2_isWord 41 (.iload_n 2) 1 42 := ⟨by decide +kernel, rfl⟩
theorem dX2_isWord_42 : D1 cX2_isWord 42 (.iadd) 1 43 := ⟨by decide +kernel, rfl⟩
theorem dX2_isWord_43 : D1 cX2_isWord 43 (.invokevirtual 128) 3 46 := ⟨by decide +kernel, rfl⟩
theorem dX2_isWord_46 : D1 cX2_isWord 46 (.aload_n 1) 1 47 := ⟨by decide +kernel, rfl⟩
theorem dX2_isWord_47 : D1 cX2_isWord 47 (.iload_n 2) 1 48 := ⟨by decide +kernel, rfl⟩
theorem dX2_isWord_48 : D1 cX2_isWord 48 (.invokevirtual 131) 3 51 := ⟨by decide +kernel, rfl⟩
theorem dX2_isWord_51 : DJ cX2_isWord 51 (.if_icmp .eq) 54 56 := ⟨5, by decide +kernel, rfl, by decide⟩
theorem dX2_isWord_54 : D1 cX2_isWord 54 (.iconst 0) 1 55 := ⟨by decide +kernel, rfl⟩
theorem dX2_isWord_55 : D1 cX2_isWord 55 (.ireturn) 1 56 := ⟨by decide +kernel, rfl⟩
theorem dX2_isWord_56 : D1 cX2_isWord 56 (.iinc 2 1) 3 59 := ⟨by decide +kernel, rfl⟩
theorem dX2_isWord_59 : DJ cX2_isWord 59 .goto 62 28 := ⟨(-31), by decide +kernel, rfl, by decide⟩
theorem dX2_isWord_62 : D1 cX2_isWord 62 (.iconst 1) 1 63 := ⟨by decide +kernel, rfl⟩
theorem dX2_isWord_63 : D1 cX2_isWord 63 (.ireturn) 1 64 := ⟨by decide +kernel, rfl⟩
theorem dX2_byteAt_0 : D1 cX2_byteAt 0 (.iload_n 1) 1 1 := ⟨by decide +kernel, rfl⟩
theorem dX2_byteAt_1 : DJ cX2_byteAt 1 (.ifCond .lt) 4 30 := ⟨29, by decide +kernel, rfl, by decide⟩
theorem dX2_byteAt_4 : D1 cX2_byteAt 4 (.iload_n 1) 1 5 := ⟨by decide +kernel, rfl⟩
theorem dX2_byteAt_5 : D1 cX2_byteAt 5 (.aload_n 0) 1 6 := ⟨by decide +kernel, rfl⟩
theorem dX2_byteAt_6 : D1 cX2_byteAt 6 (.getfield 19) 3 9 := ⟨by decide +kernel, rfl⟩
theorem dX2_byteAt_9 : DJ cX2_byteAt 9 (.if_icmp .ge) 12 30 := ⟨21, by decide +kernel, rfl, by decide⟩
theorem dX2_byteAt_12 : D1 cX2_byteAt 12 (.iload_n 1) 1 13 := ⟨by decide +kernel, rfl⟩
theorem dX2_byteAt_13 : D1 cX2_byteAt 13 (.aload_n 0) 1 14 := ⟨by decide +kernel, rfl⟩
theorem dX2_byteAt_14 : D1 cX2_byteAt 14 (.getfield 9) 3 17 := ⟨by decide +kernel, rfl⟩
theorem dX2_byteAt_17 : D1 cX2_byteAt 17 (.arraylength) 1 18 := ⟨by decide +kernel, rfl⟩
theorem dX2_byteAt_18 : DJ cX2_byteAt 18 (.if_icmp .ge) 21 30 := ⟨12, by decide +kernel, rfl, by decide⟩
theorem dX2_byteAt_21 : D1 cX2_byteAt 21 (.aload_n 0) 1 22 := ⟨by decide +kernel, rfl⟩
theorem dX2_byteAt_22 : D1 cX2_byteAt 22 (.getfield 9) 3 25 := ⟨by decide +kernel, rfl⟩
theorem dX2_byteAt_25 : D1 cX2_byteAt 25 (.iload_n 1) 1 26 := ⟨by decide +kernel, rfl⟩
theorem dX2_byteAt_26 : D1 cX2_byteAt 26 (.iaload) 1 27 := ⟨by decide +kernel, rfl⟩
theorem dX2_byteAt_27 : DJ cX2_byteAt 27 .goto 30 31 := ⟨4, by decide +kernel, rfl, by decide⟩
theorem dX2_byteAt_30 : D1 cX2_byteAt 30 (.iconst (-1)) 1 31 := ⟨by decide +kernel, rfl⟩
theorem dX2_byteAt_31 : D1 cX2_byteAt 31 (.ireturn) 1 32 := ⟨by decide +kernel, rfl⟩
theorem dX2_isLetter_0 : D1 cX2_isLetter 0 (.iload_n 1) 1 1 := ⟨by decide +kernel, rfl⟩
theorem dX2_isLetter_1 : D1 cX2_isLetter 1 (.bipush 97) 2 3 := ⟨by decide +kernel, rfl⟩
theorem dX2_isLetter_3 : DJ cX2_isLetter 3 (.if_icmp .lt) 6 16 := ⟨13, by decide +kernel, rfl, by decide⟩
theorem dX2_isLetter_6 : D1 cX2_isLetter 6 (.iload_n 1) 1 7 := ⟨by decide +kernel, rfl⟩
theorem dX2_isLetter_7 : D1 cX2_isLetter 7 (.bipush 122) 2 9 := ⟨by decide +kernel, rfl⟩
theorem dX2_isLetter_9 : DJ cX2_isLetter 9 (.if_icmp .gt) 12 16 := ⟨7, by decide +kernel, rfl, by decide⟩
theorem dX2_isLetter_12 : D1 cX2_isLetter 12 (.iconst 1) 1 13 := ⟨by decide +kernel, rfl⟩
theorem dX2_isLetter_13 : DJ cX2_isLetter 13 .goto 16 17 := ⟨4, by decide +kernel, rfl, by decide⟩
theorem dX2_isLetter_16 : D1 cX2_isLetter 16 (.iconst 0) 1 17 := ⟨by decide +kernel, rfl⟩
theorem dX2_isLetter_17 : D1 cX2_isLetter 17 (.ireturn) 1 18 := ⟨by decide +kernel, rfl⟩
theorem dX2_isDigit_0 : D1 cX2_isDigit 0 (.iload_n 1) 1 1 := ⟨by decide +kernel, rfl⟩
theorem dX2_isDigit_1 : D1 cX2_isDigit 1 (.bipush 48) 2 3 := ⟨by decide +kernel, rfl⟩
theorem dX2_isDigit_3 : DJ cX2_isDigit 3 (.if_icmp .lt) 6 16 := ⟨13, by decide +kernel, rfl, by decide⟩
theorem dX2_isDigit_6 : D1 cX2_isDigit 6 (.iload_n 1) 1 7 := ⟨by decide +kernel, rfl⟩
theorem dX2_isDigit_7 : D1 cX2_isDigit 7 (.bipush 57) 2 9 := ⟨by decide +kernel, rfl⟩
theorem dX2_isDigit_9 : DJ cX2_isDigit 9 (.if_icmp .gt) 12 16 := ⟨7, by decide +kernel, rfl, by decide⟩
theorem dX2_isDigit_12 : D1 cX2_isDigit 12 (.iconst 1) 1 13 := ⟨by decide +kernel, rfl⟩
theorem dX2_isDigit_13 : DJ cX2_isDigit 13 .goto 16 17 := ⟨4, by decide +kernel, rfl, by decide⟩
theorem dX2_isDigit_16 : D1 cX2_isDigit 16 (.iconst 0) 1 17 := ⟨by decide +kernel, rfl⟩
theorem dX2_isDigit_17 : D1 cX2_isDigit 17 (.ireturn) 1 18 := ⟨by decide +kernel, rfl⟩
theorem dX2_next_0 : D1 cX2_next 0 (.aload_n 0) 1 1 := ⟨by decide +kernel, rfl⟩
theorem dX2_next_1 : D1 cX2_next 1 (.getfield 23) 3 4 := ⟨by decide +kernel, rfl⟩
theorem dX2_next_4 : D1 cX2_next 4 (.aload_n 0) 1 5 := ⟨by decide +kernel, rfl⟩
theorem dX2_next_5 : D1 cX2_next 5 (.getfield 19) 3 8 := ⟨by decide +kernel, rfl⟩
theorem dX2_next_8 : DJ cX2_next 8 (.if_icmp .ge) 11 37 := ⟨29, by decide +kernel, rfl, by decide⟩
theorem dX2_next_11 : D1 cX2_next 11 (.aload_n 0) 1 12 := ⟨by decide +kernel, rfl⟩
theorem dX2_next_12 : D1 cX2_next 12 (.aload_n 0) 1 13 := ⟨by decide +kernel, rfl⟩
theorem dX2_next_13 : D1 cX2_next 13 (.getfield 23) 3 16 := ⟨by decide +kernel, rfl⟩
theorem dX2_next_16 : D1 cX2_next 16 (.invokevirtual 128) 3 19 := ⟨by decide +kernel, rfl⟩
theorem dX2_next_19 : D1 cX2_next 19 (.bipush 32) 2 21 := ⟨by decide +kernel, rfl⟩
theorem dX2_next_21 : DJ cX2_next 21 (.if_icmp .ne) 24 37 := ⟨16, by decide +kernel, rfl, by decide⟩
theorem dX2_next_24 : D1 cX2_next 24 (.aload_n 0) 1 25 := ⟨by decide +kernel, rfl⟩
theorem dX2_next_25 : D1 cX2_next 25 (.dup) 1 26 := ⟨by decide +kernel, rfl⟩
theorem dX2_next_26 : D1 cX2_next 26 (.getfield 23) 3 29 := ⟨by decide +kernel, rfl⟩
theorem dX2_next_29 : D1 cX2_next 29 (.iconst 1) 1 30 := ⟨by decide +kernel, rfl⟩
theorem dX2_next_30 : D1 cX2_next 30 (.iadd) 1 31 := ⟨by decide +kernel, rfl⟩
theorem dX2_next_31 : D1 cX2_next 31 (.putfield 23) 3 34 := ⟨by decide +kernel, rfl⟩
theorem dX2_next_34 : DJ cX2_next 34 .goto 37 0 := ⟨(-34), by decide +kernel, rfl, by decide⟩
theorem dX2_next_37 : D1 cX2_next 37 (.aload_n 0) 1 38 := ⟨by decide +kernel, rfl⟩
theorem dX2_next_38 : D1 cX2_next 38 (.aload_n 0) 1 39 := ⟨by decide +kernel, rfl⟩
theorem dX2_next_39 : D1 cX2_next 39 (.getfield 23) 3 42 := ⟨by decide +kernel, rfl⟩
theorem dX2_next_42 : D1 cX2_next 42 (.putfield 33) 3 45 := ⟨by decide +kernel, rfl⟩
theorem dX2_next_45 : D1 cX2_next 45 (.aload_n 0) 1 46 := ⟨by decide +kernel, rfl⟩
theorem dX2_next_46 : D1 cX2_next 46 (.iconst 0) 1 47 := ⟨by decide +kernel, rfl⟩
theorem dX2_next_47 : D1 cX2_next 47 (.putfield 110) 3 50 := ⟨by decide +kernel, rfl⟩
theorem dX2_next_50 : D1 cX2_next 50 (.aload_n 0) 1 51 := ⟨by decide +kernel, rfl⟩
theorem dX2_next_51 : D1 cX2_next 51 (.getfield 23) 3 54 := ⟨by decide +kernel, rfl⟩
theorem dX2_next_54 : D1 cX2_next 54 (.aload_n 0) 1 55 := ⟨by decide +kernel, rfl⟩
theorem dX2_next_55 : D1 cX2_next 55 (.getfield 19) 3 58 := ⟨by decide +kernel, rfl⟩
theorem dX2_next_58 : DJ cX2_next 58 (.if_icmp .lt) 61 69 := ⟨11, by decide +kernel, rfl, by decide⟩
theorem dX2_next_61 : D1 cX2_next 61 (.aload_n 0) 1 62 := ⟨by decide +kernel, rfl⟩
theorem dX2_next_62 : D1 cX2_next 62 (.iconst 0) 1 63 := ⟨by decide +kernel, rfl⟩
theorem dX2_next_63 : D1 cX2_next 63 (.putfield 36) 3 66 := ⟨by decide +kernel, rfl⟩
theorem dX2_next_66 : DJ cX2_next 66 .goto 69 248 := ⟨182, by decide +kernel, rfl, by decide⟩
theorem dX2_next_69 : D1 cX2_next 69 (.aload_n 0) 1 70 := ⟨by decide +kernel, rfl⟩
theorem dX2_next_70 : D1 cX2_next 70 (.aload_n 0) 1 71 := ⟨by decide +kernel, rfl⟩
theorem dX2_next_71 : D1 cX2_next 71 (.aload_n 0) 1 72 := ⟨by decide +kernel, rfl⟩
theorem dX2_next_72 : D1 cX2_next 72 (.getfield 23) 3 75 := ⟨by decide +kernel, rfl⟩
theorem dX2_next_75 : D1 cX2_next 75 (.invokevirtual 128) 3 78 := ⟨by decide +kernel, rfl⟩
theorem dX2_next_78 : D1 cX2_next 78 (.invokevirtual 135) 3 81 := ⟨by decide +kernel, rfl⟩
theorem dX2_next_81 : DJ cX2_next 81 (.ifCond .eq) 84 128 := ⟨47, by decide +kernel, rfl, by decide⟩
theorem dX2_next_84 : D1 cX2_next 84 (.aload_n 0) 1 85 := ⟨by decide +kernel, rfl⟩
theorem dX2_next_85 : D1 cX2_next 85 (.iconst 1) 1 86 := ⟨by decide +kernel, rfl⟩
theorem dX2_next_86 : D1 cX2_next 86 (.putfield 36) 3 89 := ⟨by decide +kernel, rfl⟩
theorem dX2_next_89 : D1 cX2_next 89 (.aload_n 0) 1 90 := ⟨by decide +kernel, rfl⟩
theorem dX2_next_90 : D1 cX2_next 90 (.getfield 23) 3 93 := ⟨by decide +kernel, rfl⟩
theorem dX2_next_93 : D1 cX2_next 93 (.aload_n 0) 1 94 := ⟨by decide +kernel, rfl⟩
theorem dX2_next_94 : D1 cX2_next 94 (.getfield 19) 3 97 := ⟨by decide +kernel, rfl⟩
theorem dX2_next_97 : DJ cX2_next 97 (.if_icmp .ge) 100 248 := ⟨151, by decide +kernel, rfl, by decide⟩
theorem dX2_next_100 : D1 cX2_next 100 (.aload_n 0) 1 101 := ⟨by decide +kernel, rfl⟩
theorem dX2_next_101 : D1 cX2_next 101 (.aload_n 0) 1 102 := ⟨by decide +kernel, rfl⟩
theorem dX2_next_102 : D1 cX2_next 102 (.aload_n 0) 1 103 := ⟨by decide +kernel, rfl⟩
theorem dX2_next_103 : D1 cX2_next 103 (.getfield 23) 3 106 := ⟨by decide +kernel, rfl⟩
theorem dX2_next_106 : D1 cX2_next 106 (.invokevirtual 128) 3 109 := ⟨by decide +kernel, rfl⟩
theorem dX2_next_109 : D1 cX2_next 109 (.invokevirtual 135) 3 112 := ⟨by decide +kernel, rfl⟩
theorem dX2_next_112 : DJ cX2_next 112 (.ifCond .eq) 115 248 := ⟨136, by decide +kernel, rfl, by decide⟩
theorem dX2_next_115 : D1 cX2_next 115 (.aload_n 0) 1 116 := ⟨by decide +kernel, rfl⟩
theorem dX2_next_116 : D1 cX2_next 116 (.dup) 1 117 := ⟨by decide +kernel, rfl⟩
theorem dX2_next_117 : D1 cX2_next 117 (.getfield 23) 3 120 := ⟨by decide +kernel, rfl⟩
theorem dX2_next_120 : D1 cX2_next 120 (.iconst 1) 1 121 := ⟨by decide +kernel, rfl⟩
theorem dX2_next_121 : D1 cX2_next 121 (.iadd) 1 122 := ⟨by decide +kernel, rfl⟩
theorem dX2_next_122 : D1 cX2_next 122 (.putfield 23) 3 125 := ⟨by decide +kernel, rfl⟩
theorem dX2_next_125 : DJ cX2_next 125 .goto 128 89 := ⟨(-36), by decide +kernel, rfl, by decide⟩
theorem dX2_next_128 : D1 cX2_next 128 (.aload_n 0) 1 129 := ⟨by decide +kernel, rfl⟩
theorem dX2_next_129 : D1 cX2_next 129 (.aload_n 0) 1 130 := ⟨by decide +kernel, rfl⟩
theorem dX2_next_130 : D1 cX2_next 130 (.aload_n 0) 1 131 := ⟨by decide +kernel, rfl⟩
theorem dX2_next_131 : D1 cX2_next 131 (.getfield 23) 3 134 := ⟨by decide +kernel, rfl⟩
theorem dX2_next_134 : D1 cX2_next 134 (.invokevirtual 128) 3 137 := ⟨by decide +kernel, rfl⟩
theorem dX2_next_137 : D1 cX2_next 137 (.invokevirtual 138) 3 140 := ⟨by decide +kernel, rfl⟩
theorem dX2_next_140 : DJ cX2_next 140 (.ifCond .eq) 143 216 := ⟨76, by decide +kernel, rfl, by decide⟩
theorem dX2_next_143 : D1 cX2_next 143 (.aload_n 0) 1 144 := ⟨by decide +kernel, rfl⟩
theorem dX2_next_144 : D1 cX2_next 144 (.iconst 2) 1 145 := ⟨by decide +kernel, rfl⟩
theorem dX2_next_145 : D1 cX2_next 145 (.putfield 36) 3 148 := ⟨by decide +kernel, rfl⟩
theorem dX2_next_148 : D1 cX2_next 148 (.aload_n 0) 1 149 := ⟨by decide +kernel, rfl⟩
theorem dX2_next_149 : D1 cX2_next 149 (.getfield 23) 3 152 := ⟨by decide +kernel, rfl⟩
theorem dX2_next_152 : D1 cX2_next 152 (.aload_n 0) 1 153 := ⟨by decide +kernel, rfl⟩
theorem dX2_next_153 : D1 cX2_next 153 (.getfield 19) 3 156 := ⟨by decide +kernel, rfl⟩
theorem dX2_next_156 : DJ cX2_next 156 (.if_icmp .ge) 159 248 := ⟨92, by decide +kernel, rfl, by decide⟩
theorem dX2_next_159 : D1 cX2_next 159 (.aload_n 0) 1 160 := ⟨by decide +kernel, rfl⟩
theorem dX2_next_160 : D1 cX2_next 160 (.aload_n 0) 1 161 := ⟨by decide +kernel, rfl⟩
theorem dX2_next_161 : D1 cX2_next 161 (.aload_n 0) 1 162 := ⟨by decide +kernel, rfl⟩
theorem dX2_next_162 : D1 cX2_next 162 (.getfield 23) 3 165 := ⟨by decide +kernel, rfl⟩
theorem dX2_next_165 : D1 cX2_next 165 (.invokevirtual 128) 3 168 := ⟨by decide +kernel, rfl⟩
theorem dX2_next_168 : D1 cX2_next 168 (.invokevirtual 138) 3 171 := ⟨by decide +kernel, rfl⟩
theorem dX2_next_171 : DJ cX2_next 171 (.ifCond .eq) 174 248 := ⟨77, by decide +kernel, rfl, by decide⟩
theorem dX2_next_174 : D1 cX2_next 174 (.aload_n 0) 1 175 := ⟨by decide +kernel, rfl⟩
theorem dX2_next_175 : D1 cX2_next 175 (.sipush 1000) 3 178 := ⟨by decide +kernel, rfl⟩
theorem dX2_next_178 : D1 cX2_next 178 (.bipush 10) 2 180 := ⟨by decide +kernel, rfl⟩
theorem dX2_next_180 : D1 cX2_next 180 (.aload_n 0) 1 181 := ⟨by decide +kernel, rfl⟩
theorem dX2_next_181 : D1 cX2_next 181 (.getfield 110) 3 184 := ⟨by decide +kernel, rfl⟩
theorem dX2_next_184 : D1 cX2_next 184 (.imul) 1 185 := ⟨by decide +kernel, rfl⟩
theorem dX2_next_185 : D1 cX2_next 185 (.aload_n 0) 1 186 := ⟨by decide +kernel, rfl⟩
theorem dX2_next_186 : D1 cX2_next 186 (.aload_n 0) 1 187 := ⟨by decide +kernel, rfl⟩
theorem dX2_next_187 : D1 cX2_next 187 (.getfield 23) 3 190 := ⟨by decide +kernel, rfl⟩
theorem dX2_next_190 : D1 cX2_next 190 (.invokevirtual 128) 3 193 := ⟨by decide +kernel, rfl⟩
theorem dX2_next_193 : D1 cX2_next 193 (.iadd) 1 194 := ⟨by decide +kernel, rfl⟩
theorem dX2_next_194 : D1 cX2_next 194 (.bipush 48) 2 196 := ⟨by decide +kernel, rfl⟩
theorem dX2_next_196 : D1 cX2_next 196 (.isub) 1 197 := ⟨by decide +kernel, rfl⟩
theorem dX2_next_197 : D1 cX2_next 197 (.invokestatic 141) 3 200 := ⟨by decide +kernel, rfl⟩
theorem dX2_next_200 : D1 cX2_next 200 (.putfield 110) 3 203 := ⟨by decide +kernel, rfl⟩
theorem dX2_next_203 : D1 cX2_next 203 (.aload_n 0) 1 204 := ⟨by decide +kernel, rfl⟩
theorem dX2_next_204 : D1 cX2_next 204 (.dup) 1 205 := ⟨by decide +kernel, rfl⟩
theorem dX2_next_205 : D1 cX2_next 205 (.getfield 23) 3 208 := ⟨by decide +kernel, rfl⟩
theorem dX2_next_208 : D1 cX2_next 208 (.iconst 1) 1 209 := ⟨by decide +kernel, rfl⟩
theorem dX2_next_209 : D1 cX2_next 209 (.iadd) 1 210 := ⟨by decide +kernel, rfl⟩
theorem dX2_next_210 : D1 cX2_next 210 (.putfield 23) 3 213 := ⟨by decide +kernel, rfl⟩
theorem dX2_next_213 : DJ cX2_next 213 .goto 216 148 := ⟨(-65), by decide +kernel, rfl, by decide⟩
theorem dX2_next_216 : D1 cX2_next 216 (.aload_n 0) 1 217 := ⟨by decide +kernel, rfl⟩
theorem dX2_next_217 : D1 cX2_next 217 (.aload_n 0) 1 218 := ⟨by decide +kernel, rfl⟩
theorem dX2_next_218 : D1 cX2_next 218 (.aload_n 0) 1 219 := ⟨by decide +kernel, rfl⟩
theorem dX2_next_219 : D1 cX2_next 219 (.getfield 23) 3 222 := ⟨by decide +kernel, rfl⟩
theorem dX2_next_222 : D1 cX2_next 222 (.invokevirtual 128) 3 225 := ⟨by decide +kernel, rfl⟩
theorem dX2_next_225 : D1 cX2_next 225 (.bipush 59) 2 227 := ⟨by decide +kernel, rfl⟩
theorem dX2_next_227 : DJ cX2_next 227 (.if_icmp .ne) 230 234 := ⟨7, by decide +kernel, rfl, by decide⟩
theorem dX2_next_230 : D1 cX2_next 230 (.iconst 3) 1 231 := ⟨by decide +kernel, rfl⟩
theorem dX2_next_231 : DJ cX2_next 231 .goto 234 235 := ⟨4, by decide +kernel, rfl, by decide⟩
theorem dX2_next_234 : D1 cX2_next 234 (.iconst 4) 1 235 := ⟨by decide +kernel, rfl⟩
theorem dX2_next_235 : D1 cX2_next 235 (.putfield 36) 3 238 := ⟨by decide +kernel, rfl⟩
theorem dX2_next_238 : D1 cX2_next 238 (.aload_n 0) 1 239 := ⟨by decide +kernel, rfl⟩
theorem dX2_next_239 : D1 cX2_next 239 (.dup) 1 240 := ⟨by decide +kernel, rfl⟩
theorem dX2_next_240 : D1 cX2_next 240 (.getfield 23) 3 243 := ⟨by decide +kernel, rfl⟩
theorem dX2_next_243 : D1 cX2_next 243 (.iconst 1) 1 244 := ⟨by decide +kernel, rfl⟩
theorem dX2_next_244 : D1 cX2_next 244 (.iadd) 1 245 := ⟨by decide +kernel, rfl⟩
theorem dX2_next_245 : D1 cX2_next 245 (.putfield 23) 3 248 := ⟨by decide +kernel, rfl⟩
theorem dX2_next_248 : D1 cX2_next 248 (.return_) 1 249 := ⟨by decide +kernel, rfl⟩
theorem dX3_init_0 : D1 cX3_init 0 (.aload_n 0) 1 1 := ⟨by decide +kernel, rfl⟩
theorem dX3_init_1 : D1 cX3_init 1 (.invokespecial 3) 3 4 := ⟨by decide +kernel, rfl⟩
theorem dX3_init_4 : D1 cX3_init 4 (.aload_n 0) 1 5 := ⟨by decide +kernel, rfl⟩
theorem dX3_init_5 : D1 cX3_init 5 (.bipush 40) 2 7 := ⟨by decide +kernel, rfl⟩
theorem dX3_init_7 : D1 cX3_init 7 (.newarray .int) 2 9 := ⟨by decide +kernel, rfl⟩
theorem dX3_init_9 : D1 cX3_init 9 (.putfield 9) 3 12 := ⟨by decide +kernel, rfl⟩
theorem dX3_init_12 : D1 cX3_init 12 (.return_) 1 13 := ⟨by decide +kernel, rfl⟩
theorem dX3_begin_0 : D1 cX3_begin 0 (.aload_n 0) 1 1 := ⟨by decide +kernel, rfl⟩
theorem dX3_begin_1 : D1 cX3_begin 1 (.iload_n 1) 1 2 := ⟨by decide +kernel, rfl⟩
theorem dX3_begin_2 : D1 cX3_begin 2 (.putfield 15) 3 5 := ⟨by decide +kernel, rfl⟩
theorem dX3_begin_5 : D1 cX3_begin 5 (.aload_n 0) 1 6 := ⟨by decide +kernel, rfl⟩
theorem dX3_begin_6 : D1 cX3_begin 6 (.iload_n 2) 1 7 := ⟨by decide +kernel, rfl⟩
theorem dX3_begin_7 : D1 cX3_begin 7 (.putfield 19) 3 10 := ⟨by decide +kernel, rfl⟩
theorem dX3_begin_10 : D1 cX3_begin 10 (.iconst 0) 1 11 := ⟨by decide +kernel, rfl⟩
theorem dX3_begin_11 : D1 cX3_begin 11 (.istore_n 3) 1 12 := ⟨by decide +kernel, rfl⟩
theorem dX3_begin_12 : D1 cX3_begin 12 (.iload_n 3) 1 13 := ⟨by decide +kernel, rfl⟩
theorem dX3_begin_13 : D1 cX3_begin 13 (.aload_n 0) 1 14 := ⟨by decide +kernel, rfl⟩
theorem dX3_begin_14 : D1 cX3_begin 14 (.getfield 9) 3 17 := ⟨by decide +kernel, rfl⟩
theorem dX3_begin_17 : D1 cX3_begin 17 (.arraylength) 1 18 := ⟨by decide +kernel, rfl⟩
theorem dX3_begin_18 : DJ cX3_begin 18 (.if_icmp .ge) 21 34 := ⟨16, by decide +kernel, rfl, by decide⟩
theorem dX3_begin_21 : D1 cX3_begin 21 (.aload_n 0) 1 22 := ⟨by decide +kernel, rfl⟩
theorem dX3_begin_22 : D1 cX3_begin 22 (.getfield 9) 3 25 := ⟨by decide +kernel, rfl⟩
theorem dX3_begin_25 : D1 cX3_begin 25 (.iload_n 3) 1 26 := ⟨by decide +kernel, rfl⟩
theorem dX3_begin_26 : D1 cX3_begin 26 (.iconst 0) 1 27 := ⟨by decide +kernel, rfl⟩
theorem dX3_begin_27 : D1 cX3_begin 27 (.iastore) 1 28 := ⟨by decide +kernel, rfl⟩
theorem dX3_begin_28 : D1 cX3_begin 28 (.iinc 3 1) 3 31 := ⟨by decide +kernel, rfl⟩
theorem dX3_begin_31 : DJ cX3_begin 31 .goto 34 12 := ⟨(-19), by decide +kernel, rfl, by decide⟩
theorem dX3_begin_34 : D1 cX3_begin 34 (.return_) 1 35 := ⟨by decide +kernel, rfl⟩
theorem dX3_isMissing_0 : D1 cX3_isMissing 0 (.aload_n 0) 1 1 := ⟨by decide +kernel, rfl⟩
theorem dX3_isMissing_1 : D1 cX3_isMissing 1 (.getfield 15) 3 4 := ⟨by decide +kernel, rfl⟩
theorem dX3_isMissing_4 : DJ cX3_isMissing 4 (.ifCond .ne) 7 11 := ⟨7, by decide +kernel, rfl, by decide⟩
theorem dX3_isMissing_7 : D1 cX3_isMissing 7 (.iconst 1) 1 8 := ⟨by decide +kernel, rfl⟩
theorem dX3_isMissing_8 : DJ cX3_isMissing 8 .goto 11 12 := ⟨4, by decide +kernel, rfl, by decide⟩
theorem dX3_isMissing_11 : D1 cX3_isMissing 11 (.iconst 0) 1 12 := ⟨by decide +kernel, rfl⟩
theorem dX3_isMissing_12 : D1 cX3_isMissing 12 (.ireturn) 1 13 := ⟨by decide +kernel, rfl⟩
theorem dX3_has_0 : D1 cX3_has 0 (.iload_n 1) 1 1 := ⟨by decide +kernel, rfl⟩
theorem dX3_has_1 : DJ cX3_has 1 (.ifCond .lt) 4 30 := ⟨29, by decide +kernel, rfl, by decide⟩
theorem dX3_has_4 : D1 cX3_has 4 (.iload_n 2) 1 5 := ⟨by decide +kernel, rfl⟩
theorem dX3_has_5 : DJ cX3_has 5 (.ifCond .lt) 8 30 := ⟨25, by decide +kernel, rfl, by decide⟩
theorem dX3_has_8 : D1 cX3_has 8 (.iload_n 2) 1 9 := ⟨by decide +kernel, rfl⟩
theorem dX3_has_9 : D1 cX3_has 9 (.aload_n 0) 1 10 := ⟨by decide +kernel, rfl⟩
theorem dX3_has_10 : D1 cX3_has 10 (.getfield 19) 3 13 := ⟨by decide +kernel, rfl⟩
theorem dX3_has_13 : DJ cX3_has 13 (.if_icmp .gt) 16 30 := ⟨17, by decide +kernel, rfl, by decide⟩
theorem dX3_has_16 : D1 cX3_has 16 (.iload_n 1) 1 17 := ⟨by decide +kernel, rfl⟩
theorem dX3_has_17 : D1 cX3_has 17 (.aload_n 0) 1 18 := ⟨by decide +kernel, rfl⟩
theorem dX3_has_18 : D1 cX3_has 18 (.getfield 19) 3 21 := ⟨by decide +kernel, rfl⟩
theorem dX3_has_21 : D1 cX3_has 21 (.iload_n 2) 1 22 := ⟨by decide +kernel, rfl⟩
theorem dX3_has_22 : D1 cX3_has 22 (.isub) 1 23 := ⟨by decide +kernel, rfl⟩
theorem dX3_has_23 : DJ cX3_has 23 (.if_icmp .gt) 26 30 := ⟨7, by decide +kernel, rfl, by decide⟩
theorem dX3_has_26 : D1 cX3_has 26 (.iconst 1) 1 27 := ⟨by decide +kernel, rfl⟩
theorem dX3_has_27 : DJ cX3_has 27 .goto 30 31 := ⟨4, by decide +kernel, rfl, by decide⟩
theorem dX3_has_30 : D1 cX3_has 30 (.iconst 0) 1 31 := ⟨by decide +kernel, rfl⟩
theorem dX3_has_31 : D1 cX3_has 31 (.ireturn) 1 32 := ⟨by decide +kernel, rfl⟩
theorem dX3_get_0 : D1 cX3_get 0 (.iload_n 1) 1 1 := ⟨by decide +kernel, rfl⟩
theorem dX3_get_1 : DJ cX3_get 1 (.ifCond .lt) 4 22 := ⟨21, by decide +kernel, rfl, by decide⟩
theorem dX3_get_4 : D1 cX3_get 4 (.iload_n 1) 1 5 := ⟨by decide +kernel, rfl⟩
theorem dX3_get_5 : D1 cX3_get 5 (.aload_n 0) 1 6 := ⟨by decide +kernel, rfl⟩
theorem dX3_get_6 : D1 cX3_get 6 (.getfield 9) 3 9 := ⟨by decide +kernel, rfl⟩
theorem dX3_get_9 : D1 cX3_get 9 (.arraylength) 1 10 := ⟨by decide +kernel, rfl⟩
theorem dX3_get_10 : DJ cX3_get 10 (.if_icmp .ge) 13 22 := ⟨12, by decide +kernel, rfl, by decide⟩
theorem dX3_get_13 : D1 cX3_get 13 (.aload_n 0) 1 14 := ⟨by decide +kernel, rfl⟩
theorem dX3_get_14 : D1 cX3_get 14 (.getfield 9) 3 17 := ⟨by decide +kernel, rfl⟩
theorem dX3_get_17 : D1 cX3_get 17 (.iload_n 1) 1 18 := ⟨by decide +kernel, rfl⟩
theorem dX3_get_18 : D1 cX3_get 18 (.iaload) 1 19 := ⟨by decide +kernel, rfl⟩
theorem dX3_get_19 : DJ cX3_get 19 .goto 22 23 := ⟨4, by decide +kernel, rfl, by decide⟩
theorem dX3_get_22 : D1 cX3_get 22 (.iconst 0) 1 23 := ⟨by decide +kernel, rfl⟩
theorem dX3_get_23 : D1 cX3_get 23 (.ireturn) 1 24 := ⟨by decide +kernel, rfl⟩
theorem dX3_put_0 : D1 cX3_put 0 (.iload_n 1) 1 1 := ⟨by decide +kernel, rfl⟩
theorem dX3_put_1 : DJ cX3_put 1 (.ifCond .lt) 4 24 := ⟨23, by decide +kernel, rfl, by decide⟩
theorem dX3_put_4 : D1 cX3_put 4 (.iload_n 1) 1 5 := ⟨by decide +kernel, rfl⟩
theorem dX3_put_5 : D1 cX3_put 5 (.aload_n 0) 1 6 := ⟨by decide +kernel, rfl⟩
theorem dX3_put_6 : D1 cX3_put 6 (.getfield 9) 3 9 := ⟨by decide +kernel, rfl⟩
theorem dX3_put_9 : D1 cX3_put 9 (.arraylength) 1 10 := ⟨by decide +kernel, rfl⟩
theorem dX3_put_10 : DJ cX3_put 10 (.if_icmp .ge) 13 24 := ⟨14, by decide +kernel, rfl, by decide⟩
theorem dX3_put_13 : D1 cX3_put 13 (.aload_n 0) 1 14 := ⟨by decide +kernel, rfl⟩
theorem dX3_put_14 : D1 cX3_put 14 (.getfield 9) 3 17 := ⟨by decide +kernel, rfl⟩
theorem dX3_put_17 : D1 cX3_put 17 (.iload_n 1) 1 18 := ⟨by decide +kernel, rfl⟩
theorem dX3_put_18 : D1 cX3_put 18 (.aload_n 0) 1 19 := ⟨by decide +kernel, rfl⟩
theorem dX3_put_19 : D1 cX3_put 19 (.iload_n 2) 1 20 := ⟨by decide +kernel, rfl⟩
theorem dX3_put_20 : D1 cX3_put 20 (.invokevirtual 22) 3 23 := ⟨by decide +kernel, rfl⟩
theorem dX3_put_23 : D1 cX3_put 23 (.iastore) 1 24 := ⟨by decide +kernel, rfl⟩
theorem dX3_put_24 : D1 cX3_put 24 (.return_) 1 25 := ⟨by decide +kernel, rfl⟩
theorem dX3_cut_0 : D1 cX3_cut 0 (.aload_n 0) 1 1 := ⟨by decide +kernel, rfl⟩
theorem dX3_cut_1 : D1 cX3_cut 1 (.getfield 15) 3 4 := ⟨by decide +kernel, rfl⟩
theorem dX3_cut_4 : D1 cX3_cut 4 (.bipush 8) 2 6 := ⟨by decide +kernel, rfl⟩
theorem dX3_cut_6 : DJ cX3_cut 6 (.if_icmp .ne) 9 12 := ⟨6, by decide +kernel, rfl, by decide⟩
theorem dX3_cut_9 : D1 cX3_cut 9 (.iload_n 1) 1 10 := ⟨by decide +kernel, rfl⟩
theorem dX3_cut_10 : D1 cX3_cut 10 (.i2b) 1 11 := ⟨by decide +kernel, rfl⟩
theorem dX3_cut_11 : D1 cX3_cut 11 (.ireturn) 1 12 := ⟨by decide +kernel, rfl⟩
theorem dX3_cut_12 : D1 cX3_cut 12 (.aload_n 0) 1 13 := ⟨by decide +kernel, rfl⟩
theorem dX3_cut_13 : D1 cX3_cut 13 (.getfield 15) 3 16 := ⟨by decide +kernel, rfl⟩
theorem dX3_cut_16 : D1 cX3_cut 16 (.bipush 16) 2 18 := ⟨by decide +kernel, rfl⟩
theorem dX3_cut_18 : DJ cX3_cut 18 (.if_icmp .ne) 21 26 := ⟨8, by decide +kernel, rfl, by decide⟩
theorem dX3_cut_21 : D1 cX3_cut 21 (.iload_n 1) 1 22 := ⟨by decide +kernel, rfl⟩
theorem dX3_cut_22 : D1 cX3_cut 22 (.i2s) 1 23 := ⟨by decide +kernel, rfl⟩
theorem dX3_cut_23 : DJ cX3_cut 23 .goto 26 27 := ⟨4, by decide +kernel, rfl, by decide⟩
theorem dX3_cut_26 : D1 cX3_cut 26 (.iload_n 1) 1 27 := ⟨by decide +kernel, rfl⟩
theorem dX3_cut_27 : D1 cX3_cut 27 (.ireturn) 1 28 := ⟨by decide +kernel, rfl⟩
theorem dX4_init_0 : D1 cX4_init 0 (.aload_n 0) 1 1 := ⟨by decide +kernel, rfl⟩
theorem dX4_init_1 : D1 cX4_init 1 (.invokespecial 1) 3 4 := ⟨by decide +kernel, rfl⟩
theorem dX4_init_4 : D1 cX4_init 4 (.aload_n 0) 1 5 := ⟨by decide +kernel, rfl⟩
theorem dX4_init_5 : D1 cX4_init 5 (.iconst (-1)) 1 6 := ⟨by decide +kernel, rfl⟩
theorem dX4_init_6 : D1 cX4_init 6 (.putfield 7) 3 9 := ⟨by decide +kernel, rfl⟩
theorem dX4_init_9 : D1 cX4_init 9 (.return_) 1 10 := ⟨by decide +kernel, rfl⟩
theorem dX4_givesUp_0 : D1 cX4_givesUp 0 (.aload_n 1) 1 1 := ⟨by decide +kernel, rfl⟩
theorem dX4_givesUp_1 : D1 cX4_givesUp 1 (.getfield 13) 3 4 := ⟨by decide +kernel, rfl⟩
theorem dX4_givesUp_4 : DJ cX4_givesUp 4 (.ifCond .ne) 7 25 := ⟨21, by decide +kernel, rfl, by decide⟩
theorem dX4_givesUp_7 : D1 cX4_givesUp 7 (.aload_n 0) 1 8 := ⟨by decide +kernel, rfl⟩
theorem dX4_givesUp_8 : D1 cX4_givesUp 8 (.getfield 7) 3 11 := ⟨by decide +kernel, rfl⟩
theorem dX4_givesUp_11 : DJ cX4_givesUp 11 (.ifCond .lt) 14 29 := ⟨18, by decide +kernel, rfl, by decide⟩
theorem dX4_givesUp_14 : D1 cX4_givesUp 14 (.aload_n 1) 1 15 := ⟨by decide +kernel, rfl⟩
theorem dX4_givesUp_15 : D1 cX4_givesUp 15 (.getfield 19) 3 18 := ⟨by decide +kernel, rfl⟩
theorem dX4_givesUp_18 : D1 cX4_givesUp 18 (.aload_n 0) 1 19 := ⟨by decide +kernel, rfl⟩
theorem dX4_givesUp_19 : D1 cX4_givesUp 19 (.getfield 22) 3 22 := ⟨by decide +kernel, rfl⟩
theorem dX4_givesUp_22 : DJ cX4_givesUp 22 (.if_icmp .lt) 25 29 := ⟨7, by decide +kernel, rfl, by decide⟩
theorem dX4_givesUp_25 : D1 cX4_givesUp 25 (.iconst 1) 1 26 := ⟨by decide +kernel, rfl⟩
theorem dX4_givesUp_26 : DJ cX4_givesUp 26 .goto 29 30 := ⟨4, by decide +kernel, rfl, by decide⟩
theorem dX4_givesUp_29 : D1 cX4_givesUp 29 (.iconst 0) 1 30 := ⟨by decide +kernel, rfl⟩
theorem dX4_givesUp_30 : D1 cX4_givesUp 30 (.ireturn) 1 31 := ⟨by decide +kernel, rfl⟩
theorem dX4_look_0 : D1 cX4_look 0 (.aload_n 0) 1 1 := ⟨by decide +kernel, rfl⟩
theorem dX4_look_1 : D1 cX4_look 1 (.aload_n 1) 1 2 := ⟨by decide +kernel, rfl⟩
theorem dX4_look_2 : D1 cX4_look 2 (.invokevirtual 23) 3 5 := ⟨by decide +kernel, rfl⟩
theorem dX4_look_5 : DJ cX4_look 5 (.ifCond .ne) 8 21 := ⟨16, by decide +kernel, rfl, by decide⟩
theorem dX4_look_8 : D1 cX4_look 8 (.aload_n 0) 1 9 := ⟨by decide +kernel, rfl⟩
theorem dX4_look_9 : D1 cX4_look 9 (.aload_n 1) 1 10 := ⟨by decide +kernel, rfl⟩
theorem dX4_look_10 : D1 cX4_look 10 (.getfield 19) 3 13 := ⟨by decide +kernel, rfl⟩
theorem dX4_look_13 : D1 cX4_look 13 (.putfield 22) 3 16 := ⟨by decide +kernel, rfl⟩
theorem dX4_look_16 : D1 cX4_look 16 (.aload_n 0) 1 17 := ⟨by decide +kernel, rfl⟩
theorem dX4_look_17 : D1 cX4_look 17 (.iload_n 2) 1 18 := ⟨by decide +kernel, rfl⟩
theorem dX4_look_18 : D1 cX4_look 18 (.putfield 7) 3 21 := ⟨by decide +kernel, rfl⟩
theorem dX4_look_21 : D1 cX4_look 21 (.return_) 1 22 := ⟨by decide +kernel, rfl⟩
theorem dX5_init_0 : D1 cX5_init 0 (.aload_n 0) 1 1 := ⟨by decide +kernel, rfl⟩
theorem dX5_init_1 : D1 cX5_init 1 (.invokespecial 3) 3 4 := ⟨by decide +kernel, rfl⟩
theorem dX5_init_4 : D1 cX5_init 4 (.aload_n 0) 1 5 := ⟨by decide +kernel, rfl⟩
theorem dX5_init_5 : D1 cX5_init 5 (.bipush 8) 2 7 := ⟨by decide +kernel, rfl⟩
theorem dX5_init_7 : D1 cX5_init 7 (.anewarray 9) 3 10 := ⟨by decide +kernel, rfl⟩
theorem dX5_init_10 : D1 cX5_init 10 (.putfield 11) 3 13 := ⟨by decide +kernel, rfl⟩
theorem dX5_init_13 : D1 cX5_init 13 (.aload_n 0) 1 14 := ⟨by decide +kernel, rfl⟩
theorem dX5_init_14 : D1 cX5_init 14 (.bipush 7) 2 16 := ⟨by decide +kernel, rfl⟩
theorem dX5_init_16 : D1 cX5_init 16 (.newarray .int) 2 18 := ⟨by decide +kernel, rfl⟩
theorem dX5_init_18 : D1 cX5_init 18 (.putfield 17) 3 21 := ⟨by decide +kernel, rfl⟩
theorem dX5_init_21 : D1 cX5_init 21 (.aload_n 0) 1 22 := ⟨by decide +kernel, rfl⟩
theorem dX5_init_22 : D1 cX5_init 22 (.bipush 10) 2 24 := ⟨by decide +kernel, rfl⟩
theorem dX5_init_24 : D1 cX5_init 24 (.newarray .int) 2 26 := ⟨by decide +kernel, rfl⟩
theorem dX5_init_26 : D1 cX5_init 26 (.putfield 21) 3 29 := ⟨by decide +kernel, rfl⟩
theorem dX5_init_29 : D1 cX5_init 29 (.aload_n 0) 1 30 := ⟨by decide +kernel, rfl⟩
theorem dX5_init_30 : D1 cX5_init 30 (.bipush 20) 2 32 := ⟨by decide +kernel, rfl⟩
theorem dX5_init_32 : D1 cX5_init 32 (.putfield 24) 3 35 := ⟨by decide +kernel, rfl⟩
theorem dX5_init_35 : D1 cX5_init 35 (.aload_n 0) 1 36 := ⟨by decide +kernel, rfl⟩
theorem dX5_init_36 : D1 cX5_init 36 (.iconst 1) 1 37 := ⟨by decide +kernel, rfl⟩
theorem dX5_init_37 : D1 cX5_init 37 (.putfield 28) 3 40 := ⟨by decide +kernel, rfl⟩
theorem dX5_init_40 : D1 cX5_init 40 (.aload_n 0) 1 41 := ⟨by decide +kernel, rfl⟩
theorem dX5_init_41 : D1 cX5_init 41 (.sipush 400) 3 44 := ⟨by decide +kernel, rfl⟩
theorem dX5_init_44 : D1 cX5_init 44 (.putfield 31) 3 47 := ⟨by decide +kernel, rfl⟩
theorem dX5_init_47 : D1 cX5_init 47 (.iconst 0) 1 48 := ⟨by decide +kernel, rfl⟩
theorem dX5_init_48 : D1 cX5_init 48 (.istore_n 1) 1 49 := ⟨by decide +kernel, rfl⟩
theorem dX5_init_49 : D1 cX5_init 49 (.iload_n 1) 1 50 := ⟨by decide +kernel, rfl⟩
theorem dX5_init_50 : D1 cX5_init 50 (.aload_n 0) 1 51 := ⟨by decide +kernel, rfl⟩
theorem dX5_init_51 : D1 cX5_init 51 (.getfield 11) 3 54 := ⟨by decide +kernel, rfl⟩
theorem dX5_init_54 : D1 cX5_init 54 (.arraylength) 1 55 := ⟨by decide +kernel, rfl⟩
theorem dX5_init_55 : DJ cX5_init 55 (.if_icmp .ge) 58 77 := ⟨22, by decide +kernel, rfl, by decide⟩
theorem dX5_init_58 : D1 cX5_init 58 (.aload_n 0) 1 59 := ⟨by decide +kernel, rfl⟩
theorem dX5_init_59 : D1 cX5_init 59 (.getfield 11) 3 62 := ⟨by decide +kernel, rfl⟩
theorem dX5_init_62 : D1 cX5_init 62 (.iload_n 1) 1 63 := ⟨by decide +kernel, rfl⟩
theorem dX5_init_63 : D1 cX5_init 63 (.new 9) 3 66 := ⟨by decide +kernel, rfl⟩
theorem dX5_init_66 : D1 cX5_init 66 (.dup) 1 67 := ⟨by decide +kernel, rfl⟩
theorem dX5_init_67 : D1 cX5_init 67 (.invokespecial 34) 3 70 := ⟨by decide +kernel, rfl⟩
theorem dX5_init_70 : D1 cX5_init 70 (.aastore) 1 71 := ⟨by decide +kernel, rfl⟩
theorem dX5_init_71 : D1 cX5_init 71 (.iinc 1 1) 3 74 := ⟨by decide +kernel, rfl⟩
theorem dX5_init_74 : DJ cX5_init 74 .goto 77 49 := ⟨(-25), by decide +kernel, rfl, by decide⟩
theorem dX5_init_77 : D1 cX5_init 77 (.iconst 0) 1 78 := ⟨by decide +kernel, rfl⟩
theorem dX5_init_78 : D1 cX5_init 78 (.istore_n 1) 1 79 := ⟨by decide +kernel, rfl⟩
theorem dX5_init_79 : D1 cX5_init 79 (.iload_n 1) 1 80 := ⟨by decide +kernel, rfl⟩
theorem dX5_init_80 : D1 cX5_init 80 (.aload_n 0) 1 81 := ⟨by decide +kernel, rfl⟩
theorem dX5_init_81 : D1 cX5_init 81 (.getfield 17) 3 84 := ⟨by decide +kernel, rfl⟩
theorem dX5_init_84 : D1 cX5_init 84 (.arraylength) 1 85 := ⟨by decide +kernel, rfl⟩
theorem dX5_init_85 : DJ cX5_init 85 (.if_icmp .ge) 88 101 := ⟨16, by decide +kernel, rfl, by decide⟩
theorem dX5_init_88 : D1 cX5_init 88 (.aload_n 0) 1 89 := ⟨by decide +kernel, rfl⟩
theorem dX5_init_89 : D1 cX5_init 89 (.getfield 17) 3 92 := ⟨by decide +kernel, rfl⟩
theorem dX5_init_92 : D1 cX5_init 92 (.iload_n 1) 1 93 := ⟨by decide +kernel, rfl⟩
theorem dX5_init_93 : D1 cX5_init 93 (.iconst 1) 1 94 := ⟨by decide +kernel, rfl⟩
theorem dX5_init_94 : D1 cX5_init 94 (.iastore) 1 95 := ⟨by decide +kernel, rfl⟩
theorem dX5_init_95 : D1 cX5_init 95 (.iinc 1 1) 3 98 := ⟨by decide +kernel, rfl⟩
theorem dX5_init_98 : DJ cX5_init 98 .goto 101 79 := ⟨(-19), by decide +kernel, rfl, by decide⟩
theorem dX5_init_101 : D1 cX5_init 101 (.iconst 0) 1 102 := ⟨by decide +kernel, rfl⟩
theorem dX5_init_102 : D1 cX5_init 102 (.istore_n 1) 1 103 := ⟨by decide +kernel, rfl⟩
theorem dX5_init_103 : D1 cX5_init 103 (.iload_n 1) 1 104 := ⟨by decide +kernel, rfl⟩
theorem dX5_init_104 : D1 cX5_init 104 (.aload_n 0) 1 105 := ⟨by decide +kernel, rfl⟩
theorem dX5_init_105 : D1 cX5_init 105 (.getfield 21) 3 108 := ⟨by decide +kernel, rfl⟩
theorem dX5_init_108 : D1 cX5_init 108 (.arraylength) 1 109 := ⟨by decide +kernel, rfl⟩
theorem dX5_init_109 : DJ cX5_init 109 (.if_icmp .ge) 112 125 := ⟨16, by decide +kernel, rfl, by decide⟩
theorem dX5_init_112 : D1 cX5_init 112 (.aload_n 0) 1 113 := ⟨by decide +kernel, rfl⟩
theorem dX5_init_113 : D1 cX5_init 113 (.getfield 21) 3 116 := ⟨by decide +kernel, rfl⟩
theorem dX5_init_116 : D1 cX5_init 116 (.iload_n 1) 1 117 := ⟨by decide +kernel, rfl⟩
theorem dX5_init_117 : D1 cX5_init 117 (.iconst (-1)) 1 118 := ⟨by decide +kernel, rfl⟩
theorem dX5_init_118 : D1 cX5_init 118 (.iastore) 1 119 := ⟨by decide +kernel, rfl⟩
theorem dX5_init_119 : D1 cX5_init 119 (.iinc 1 1) 3 122 := ⟨by decide +kernel, rfl⟩
theorem dX5_init_122 : DJ cX5_init 122 .goto 125 103 := ⟨(-19), by decide +kernel, rfl, by decide⟩
theorem dX5_init_125 : D1 cX5_init 125 (.return_) 1 126 := ⟨by decide +kernel, rfl⟩
theorem dX5_be_0 : D1 cX5_be 0 (.aload_n 0) 1 1 := ⟨by decide +kernel, rfl⟩
theorem dX5_be_1 : D1 cX5_be 1 (.aload_n 1) 1 2 := ⟨by decide +kernel, rfl⟩
theorem dX5_be_2 : D1 cX5_be 2 (.getfield 35) 3 5 := ⟨by decide +kernel, rfl⟩
theorem dX5_be_5 : D1 cX5_be 5 (.putfield 35) 3 8 := ⟨by decide +kernel, rfl⟩
theorem dX5_be_8 : D1 cX5_be 8 (.iconst 0) 1 9 := ⟨by decide +kernel, rfl⟩
theorem dX5_be_9 : D1 cX5_be 9 (.istore_n 2) 1 10 := ⟨by decide +kernel, rfl⟩
theorem dX5_be_10 : D1 cX5_be 10 (.iload_n 2) 1 11 := ⟨by decide +kernel, rfl⟩
theorem dX5_be_11 : D1 cX5_be 11 (.aload_n 0) 1 12 := ⟨by decide +kernel, rfl⟩
theorem dX5_be_12 : D1 cX5_be 12 (.getfield 35) 3 15 := ⟨by decide +kernel, rfl⟩
theorem dX5_be_15 : DJ cX5_be 15 (.if_icmp .ge) 18 52 := ⟨37, by decide +kernel, rfl, by decide⟩
theorem dX5_be_18 : D1 cX5_be 18 (.aload_n 0) 1 19 := ⟨by decide +kernel, rfl⟩
theorem dX5_be_19 : D1 cX5_be 19 (.iload_n 2) 1 20 := ⟨by decide +kernel, rfl⟩
theorem dX5_be_20 : D1 cX5_be 20 (.invokevirtual 38) 3 23 := ⟨by decide +kernel, rfl⟩
theorem dX5_be_23 : D1 cX5_be 23 (.astore_n 3) 1 24 := ⟨by decide +kernel, rfl⟩
theorem dX5_be_24 : D1 cX5_be 24 (.aload_n 1) 1 25 := ⟨by decide +kernel, rfl⟩
theorem dX5_be_25 : D1 cX5_be 25 (.iload_n 2) 1 26 := ⟨by decide +kernel, rfl⟩
theorem dX5_be_26 : D1 cX5_be 26 (.invokevirtual 38) 3 29 := ⟨by decide +kernel, rfl⟩
theorem dX5_be_29 : D1 cX5_be 29 (.astore 4) 2 31 := ⟨by decide +kernel, rfl⟩
theorem dX5_be_31 : D1 cX5_be 31 (.aload_n 3) 1 32 := ⟨by decide +kernel, rfl⟩
theorem dX5_be_32 : DJ cX5_be 32 .ifnull 35 46 := ⟨14, by decide +kernel, rfl, by decide⟩
theorem dX5_be_35 : D1 cX5_be 35 (.aload 4) 2 37 := ⟨by decide +kernel, rfl⟩
theorem dX5_be_37 : DJ cX5_be 37 .ifnull 40 46 := ⟨9, by decide +kernel, rfl, by decide⟩
theorem dX5_be_40 : D1 cX5_be 40 (.aload_n 3) 1 41 := ⟨by decide +kernel, rfl⟩
theorem dX5_be_41 : D1 cX5_be 41 (.aload 4) 2 43 := ⟨by decide +kernel, rfl⟩
theorem dX5_be_43 : D1 cX5_be 43 (.invokevirtual 42) 3 46 := ⟨by decide +kernel, rfl⟩
theorem dX5_be_46 : D1 cX5_be 46 (.iinc 2 1) 3 49 := ⟨by decide +kernel, rfl⟩
theorem dX5_be_49 : DJ cX5_be 49 .goto 52 10 := ⟨(-39), by decide +kernel, rfl, by decide⟩
theorem dX5_be_52 : D1 cX5_be 52 (.aload_n 1) 1 53 := ⟨by decide +kernel, rfl⟩
theorem dX5_be_53 : D1 cX5_be 53 (.getfield 17) 3 56 := ⟨by decide +kernel, rfl⟩
theorem dX5_be_56 : D1 cX5_be 56 (.iconst 0) 1 57 := ⟨by decide +kernel, rfl⟩
theorem dX5_be_57 : D1 cX5_be 57 (.aload_n 0) 1 58 := ⟨by decide +kernel, rfl⟩
theorem dX5_be_58 : D1 cX5_be 58 (.getfield 17) 3 61 := ⟨by decide +kernel, rfl⟩
theorem dX5_be_61 : D1 cX5_be 61 (.iconst 0) 1 62 := ⟨by decide +kernel, rfl⟩
theorem dX5_be_62 : D1 cX5_be 62 (.bipush 7) 2 64 := ⟨by decide +kernel, rfl⟩
theorem dX5_be_64 : D1 cX5_be 64 (.invokestatic 46) 3 67 := ⟨by decide +kernel, rfl⟩
theorem dX5_be_67 : D1 cX5_be 67 (.aload_n 1) 1 68 := ⟨by decide +kernel, rfl⟩
theorem dX5_be_68 : D1 cX5_be 68 (.getfield 21) 3 71 := ⟨by decide +kernel, rfl⟩
theorem dX5_be_71 : D1 cX5_be 71 (.iconst 0) 1 72 := ⟨by decide +kernel, rfl⟩
theorem dX5_be_72 : D1 cX5_be 72 (.aload_n 0) 1 73 := ⟨by decide +kernel, rfl⟩
theorem dX5_be_73 : D1 cX5_be 73 (.getfield 21) 3 76 := ⟨by decide +kernel, rfl⟩
theorem dX5_be_76 : D1 cX5_be 76 (.iconst 0) 1 77 := ⟨by decide +kernel, rfl⟩
theorem dX5_be_77 : D1 cX5_be 77 (.bipush 10) 2 79 := ⟨by decide +kernel, rfl⟩
theorem dX5_be_79 : D1 cX5_be 79 (.invokestatic 46) 3 82 := ⟨by decide +kernel, rfl⟩
theorem dX5_be_82 : D1 cX5_be 82 (.aload_n 0) 1 83 := ⟨by decide +kernel, rfl⟩
theorem dX5_be_83 : D1 cX5_be 83 (.aload_n 1) 1 84 := ⟨by decide +kernel, rfl⟩
theorem dX5_be_84 : D1 cX5_be 84 (.getfield 52) 3 87 := ⟨by decide +kernel, rfl⟩
theorem dX5_be_87 : D1 cX5_be 87 (.putfield 52) 3 90 := ⟨by decide +kernel, rfl⟩
theorem dX5_be_90 : D1 cX5_be 90 (.aload_n 0) 1 91 := ⟨by decide +kernel, rfl⟩
theorem dX5_be_91 : D1 cX5_be 91 (.aload_n 1) 1 92 := ⟨by decide +kernel, rfl⟩
theorem dX5_be_92 : D1 cX5_be 92 (.getfield 24) 3 95 := ⟨by decide +kernel, rfl⟩
theorem dX5_be_95 : D1 cX5_be 95 (.putfield 24) 3 98 := ⟨by decide +kernel, rfl⟩
theorem dX5_be_98 : D1 cX5_be 98 (.aload_n 0) 1 99 := ⟨by decide +kernel, rfl⟩
theorem dX5_be_99 : D1 cX5_be 99 (.aload_n 1) 1 100 := ⟨by decide +kernel, rfl⟩
theorem dX5_be_100 : D1 cX5_be 100 (.getfield 55) 3 103 := ⟨by decide +kernel, rfl⟩
theorem dX5_be_103 : D1 cX5_be 103 (.putfield 55) 3 106 := ⟨by decide +kernel, rfl⟩
theorem dX5_be_106 : D1 cX5_be 106 (.aload_n 0) 1 107 := ⟨by decide +kernel, rfl⟩
theorem dX5_be_107 : D1 cX5_be 107 (.aload_n 1) 1 108 := ⟨by decide +kernel, rfl⟩
theorem dX5_be_108 : D1 cX5_be 108 (.getfield 58) 3 111 := ⟨by decide +kernel, rfl⟩
theorem dX5_be_111 : D1 cX5_be 111 (.putfield 58) 3 114 := ⟨by decide +kernel, rfl⟩
theorem dX5_be_114 : D1 cX5_be 114 (.aload_n 0) 1 115 := ⟨by decide +kernel, rfl⟩
theorem dX5_be_115 : D1 cX5_be 115 (.aload_n 1) 1 116 := ⟨by decide +kernel, rfl⟩
theorem dX5_be_116 : D1 cX5_be 116 (.getfield 61) 3 119 := ⟨by decide +kernel, rfl⟩
theorem dX5_be_119 : D1 cX5_be 119 (.putfield 61) 3 122 := ⟨by decide +kernel, rfl⟩
theorem dX5_be_122 : D1 cX5_be 122 (.aload_n 0) 1 123 := ⟨by decide +kernel, rfl⟩
theorem dX5_be_123 : D1 cX5_be 123 (.aload_n 1) 1 124 := ⟨by decide +kernel, rfl⟩
theorem dX5_be_124 : D1 cX5_be 124 (.getfield 64) 3 127 := ⟨by decide +kernel, rfl⟩
theorem dX5_be_127 : D1 cX5_be 127 (.putfield 64) 3 130 := ⟨by decide +kernel, rfl⟩
theorem dX5_be_130 : D1 cX5_be 130 (.aload_n 0) 1 131 := ⟨by decide +kernel, rfl⟩
theorem dX5_be_131 : D1 cX5_be 131 (.aload_n 1) 1 132 := ⟨by decide +kernel, rfl⟩
theorem dX5_be_132 : D1 cX5_be 132 (.getfield 28) 3 135 := ⟨by decide +kernel, rfl⟩
theorem dX5_be_135 : D1 cX5_be 135 (.putfield 28) 3 138 := ⟨by decide +kernel, rfl⟩
theorem dX5_be_138 : D1 cX5_be 138 (.aload_n 0) 1 139 := ⟨by decide +kernel, rfl⟩
theorem dX5_be_139 : D1 cX5_be 139 (.aload_n 1) 1 140 := ⟨by decide +kernel, rfl⟩
theorem dX5_be_140 : D1 cX5_be 140 (.getfield 31) 3 143 := ⟨by decide +kernel, rfl⟩
theorem dX5_be_143 : D1 cX5_be 143 (.putfield 31) 3 146 := ⟨by decide +kernel, rfl⟩
theorem dX5_be_146 : D1 cX5_be 146 (.aload_n 0) 1 147 := ⟨by decide +kernel, rfl⟩
theorem dX5_be_147 : D1 cX5_be 147 (.aload_n 1) 1 148 := ⟨by decide +kernel, rfl⟩
theorem dX5_be_148 : D1 cX5_be 148 (.getfield 67) 3 151 := ⟨by decide +kernel, rfl⟩
theorem dX5_be_151 : D1 cX5_be 151 (.putfield 67) 3 154 := ⟨by decide +kernel, rfl⟩
theorem dX5_be_154 : D1 cX5_be 154 (.return_) 1 155 := ⟨by decide +kernel, rfl⟩
theorem dX5_get_0 : D1 cX5_get 0 (.iload_n 1) 1 1 := ⟨by decide +kernel, rfl⟩
theorem dX5_get_1 : DJ cX5_get 1 (.ifCond .lt) 4 30 := ⟨29, by decide +kernel, rfl, by decide⟩
theorem dX5_get_4 : D1 cX5_get 4 (.iload_n 1) 1 5 := ⟨by decide +kernel, rfl⟩
theorem dX5_get_5 : D1 cX5_get 5 (.aload_n 0) 1 6 := ⟨by decide +kernel, rfl⟩
theorem dX5_get_6 : D1 cX5_get 6 (.getfield 35) 3 9 := ⟨by decide +kernel, rfl⟩
theorem dX5_get_9 : DJ cX5_get 9 (.if_icmp .ge) 12 30 := ⟨21, by decide +kernel, rfl, by decide⟩
theorem dX5_get_12 : D1 cX5_get 12 (.iload_n 1) 1 13 := ⟨by decide +kernel, rfl⟩
theorem dX5_get_13 : D1 cX5_get 13 (.aload_n 0) 1 14 := ⟨by decide +kernel, rfl⟩
theorem dX5_get_14 : D1 cX5_get 14 (.getfield 11) 3 17 := ⟨by decide +kernel, rfl⟩
theorem dX5_get_17 : D1 cX5_get 17 (.arraylength) 1 18 := ⟨by decide +kernel, rfl⟩
theorem dX5_get_18 : DJ cX5_get 18 (.if_icmp .ge) 21 30 := ⟨12, by decide +kernel, rfl, by decide⟩
theorem dX5_get_21 : D1 cX5_get 21 (.aload_n 0) 1 22 := ⟨by decide +kernel, rfl⟩
theorem dX5_get_22 : D1 cX5_get 22 (.getfield 11) 3 25 := ⟨by decide +kernel, rfl⟩
theorem dX5_get_25 : D1 cX5_get 25 (.iload_n 1) 1 26 := ⟨by decide +kernel, rfl⟩
theorem dX5_get_26 : D1 cX5_get 26 (.aaload) 1 27 := ⟨by decide +kernel, rfl⟩
theorem dX5_get_27 : DJ cX5_get 27 .goto 30 31 := ⟨4, by decide +kernel, rfl, by decide⟩
theorem dX5_get_30 : D1 cX5_get 30 (.aconst_null) 1 31 := ⟨by decide +kernel, rfl⟩
theorem dX5_get_31 : D1 cX5_get 31 (.areturn) 1 32 := ⟨by decide +kernel, rfl⟩
theorem dX5_build_0 : D1 cX5_build 0 (.aload_n 0) 1 1 := ⟨by decide +kernel, rfl⟩
theorem dX5_build_1 : D1 cX5_build 1 (.getfield 35) 3 4 := ⟨by decide +kernel, rfl⟩
theorem dX5_build_4 : D1 cX5_build 4 (.aload_n 0) 1 5 := ⟨by decide +kernel, rfl⟩
theorem dX5_build_5 : D1 cX5_build 5 (.getfield 11) 3 8 := ⟨by decide +kernel, rfl⟩
theorem dX5_build_8 : D1 cX5_build 8 (.arraylength) 1 9 := ⟨by decide +kernel, rfl⟩
theorem dX5_build_9 : DJ cX5_build 9 (.if_icmp .lt) 12 14 := ⟨5, by decide +kernel, rfl, by decide⟩
theorem dX5_build_12 : D1 cX5_build 12 (.aconst_null) 1 13 := ⟨by decide +kernel, rfl⟩
theorem dX5_build_13 : D1 cX5_build 13 (.areturn) 1 14 := ⟨by decide +kernel, rfl⟩
theorem dX5_build_14 : D1 cX5_build 14 (.aload_n 0) 1 15 := ⟨by decide +kernel, rfl⟩
theorem dX5_build_15 : D1 cX5_build 15 (.dup) 1 16 := ⟨by decide +kernel, rfl⟩
theorem dX5_build_16 : D1 cX5_build 16 (.getfield 35) 3 19 := ⟨by decide +kernel, rfl⟩
theorem dX5_build_19 : D1 cX5_build 19 (.iconst 1) 1 20 := ⟨by decide +kernel, rfl⟩
theorem dX5_build_20 : D1 cX5_build 20 (.iadd) 1 21 := ⟨by decide +kernel, rfl⟩
theorem dX5_build_21 : D1 cX5_build 21 (.putfield 35) 3 24 := ⟨by decide +kernel, rfl⟩
theorem dX5_build_24 : D1 cX5_build 24 (.aload_n 0) 1 25 := ⟨by decide +kernel, rfl⟩
theorem dX5_build_25 : D1 cX5_build 25 (.aload_n 0) 1 26 := ⟨by decide +kernel, rfl⟩
theorem dX5_build_26 : D1 cX5_build 26 (.getfield 35) 3 29 := ⟨by decide +kernel, rfl⟩
theorem dX5_build_29 : D1 cX5_build 29 (.iconst 1) 1 30 := ⟨by decide +kernel, rfl⟩
theorem dX5_build_30 : D1 cX5_build 30 (.isub) 1 31 := ⟨by decide +kernel, rfl⟩
theorem dX5_build_31 : D1 cX5_build 31 (.invokevirtual 38) 3 34 := ⟨by decide +kernel, rfl⟩
theorem dX5_build_34 : D1 cX5_build 34 (.astore_n 2) 1 35 := ⟨by decide +kernel, rfl⟩
theorem dX5_build_35 : D1 cX5_build 35 (.aload_n 2) 1 36 := ⟨by decide +kernel, rfl⟩
theorem dX5_build_36 : DJ cX5_build 36 .ifnull 39 44 := ⟨8, by decide +kernel, rfl, by decide⟩
theorem dX5_build_39 : D1 cX5_build 39 (.aload_n 2) 1 40 := ⟨by decide +kernel, rfl⟩
theorem dX5_build_40 : D1 cX5_build 40 (.iload_n 1) 1 41 := ⟨by decide +kernel, rfl⟩
theorem dX5_build_41 : D1 cX5_build 41 (.invokevirtual 71) 3 44 := ⟨by decide +kernel, rfl⟩
theorem dX5_build_44 : D1 cX5_build 44 (.aload_n 2) 1 45 := ⟨by decide +kernel, rfl⟩
theorem dX5_build_45 : D1 cX5_build 45 (.areturn) 1 46 := ⟨by decide +kernel, rfl⟩
theorem dX5_steepAt_0 : D1 cX5_steepAt 0 (.iload_n 1) 1 1 := ⟨by decide +kernel, rfl⟩
theorem dX5_steepAt_1 : DJ cX5_steepAt 1 (.ifCond .lt) 4 22 := ⟨21, by decide +kernel, rfl, by decide⟩
theorem dX5_steepAt_4 : D1 cX5_steepAt 4 (.iload_n 1) 1 5 := ⟨by decide +kernel, rfl⟩
theorem dX5_steepAt_5 : D1 cX5_steepAt 5 (.aload_n 0) 1 6 := ⟨by decide +kernel, rfl⟩
theorem dX5_steepAt_6 : D1 cX5_steepAt 6 (.getfield 17) 3 9 := ⟨by decide +kernel, rfl⟩
theorem dX5_steepAt_9 : D1 cX5_steepAt 9 (.arraylength) 1 10 := ⟨by decide +kernel, rfl⟩
theorem dX5_steepAt_10 : DJ cX5_steepAt 10 (.if_icmp .ge) 13 22 := ⟨12, by decide +kernel, rfl, by decide⟩
theorem dX5_steepAt_13 : D1 cX5_steepAt 13 (.aload_n 0) 1 14 := ⟨by decide +kernel, rfl⟩
theorem dX5_steepAt_14 : D1 cX5_steepAt 14 (.getfield 17) 3 17 := ⟨by decide +kernel, rfl⟩
theorem dX5_steepAt_17 : D1 cX5_steepAt 17 (.iload_n 1) 1 18 := ⟨by decide +kernel, rfl⟩
theorem dX5_steepAt_18 : D1 cX5_steepAt 18 (.iaload) 1 19 := ⟨by decide +kernel, rfl⟩
theorem dX5_steepAt_19 : DJ cX5_steepAt 19 .goto 22 23 := ⟨4, by decide +kernel, rfl, by decide⟩
theorem dX5_steepAt_22 : D1 cX5_steepAt 22 (.iconst 0) 1 23 := ⟨by decide +kernel, rfl⟩
theorem dX5_steepAt_23 : D1 cX5_steepAt 23 (.ireturn) 1 24 := ⟨by decide +kernel, rfl⟩
theorem dX5_putSteep_0 : D1 cX5_putSteep 0 (.iload_n 1) 1 1 := ⟨by decide +kernel, rfl⟩
theorem dX5_putSteep_1 : DJ cX5_putSteep 1 (.ifCond .lt) 4 20 := ⟨19, by decide +kernel, rfl, by decide⟩
theorem dX5_putSteep_4 : D1 cX5_putSteep 4 (.iload_n 1) 1 5 := ⟨by decide +kernel, rfl⟩
theorem dX5_putSteep_5 : D1 cX5_putSteep 5 (.aload_n 0) 1 6 := ⟨by decide +kernel, rfl⟩
theorem dX5_putSteep_6 : D1 cX5_putSteep 6 (.getfield 17) 3 9 := ⟨by decide +kernel, rfl⟩
theorem dX5_putSteep_9 : D1 cX5_putSteep 9 (.arraylength) 1 10 := ⟨by decide +kernel, rfl⟩
theorem dX5_putSteep_10 : DJ cX5_putSteep 10 (.if_icmp .ge) 13 20 := ⟨10, by decide +kernel, rfl, by decide⟩
theorem dX5_putSteep_13 : D1 cX5_putSteep 13 (.aload_n 0) 1 14 := ⟨by decide +kernel, rfl⟩
theorem dX5_putSteep_14 : D1 cX5_putSteep 14 (.getfield 17) 3 17 := ⟨by decide +kernel, rfl⟩
theorem dX5_putSteep_17 : D1 cX5_putSteep 17 (.iload_n 1) 1 18 := ⟨by decide +kernel, rfl⟩
theorem dX5_putSteep_18 : D1 cX5_putSteep 18 (.iload_n 2) 1 19 := ⟨by decide +kernel, rfl⟩
theorem dX5_putSteep_19 : D1 cX5_putSteep 19 (.iastore) 1 20 := ⟨by decide +kernel, rfl⟩
theorem dX5_putSteep_20 : D1 cX5_putSteep 20 (.return_) 1 21 := ⟨by decide +kernel, rfl⟩
theorem dX5_spotAt_0 : D1 cX5_spotAt 0 (.iload_n 1) 1 1 := ⟨by decide +kernel, rfl⟩
theorem dX5_spotAt_1 : DJ cX5_spotAt 1 (.ifCond .lt) 4 22 := ⟨21, by decide +kernel, rfl, by decide⟩
theorem dX5_spotAt_4 : D1 cX5_spotAt 4 (.iload_n 1) 1 5 := ⟨by decide +kernel, rfl⟩
theorem dX5_spotAt_5 : D1 cX5_spotAt 5 (.aload_n 0) 1 6 := ⟨by decide +kernel, rfl⟩
theorem dX5_spotAt_6 : D1 cX5_spotAt 6 (.getfield 21) 3 9 := ⟨by decide +kernel, rfl⟩
theorem dX5_spotAt_9 : D1 cX5_spotAt 9 (.arraylength) 1 10 := ⟨by decide +kernel, rfl⟩
theorem dX5_spotAt_10 : DJ cX5_spotAt 10 (.if_icmp .ge) 13 22 := ⟨12, by decide +kernel, rfl, by decide⟩
theorem dX5_spotAt_13 : D1 cX5_spotAt 13 (.aload_n 0) 1 14 := ⟨by decide +kernel, rfl⟩
theorem dX5_spotAt_14 : D1 cX5_spotAt 14 (.getfield 21) 3 17 := ⟨by decide +kernel, rfl⟩
theorem dX5_spotAt_17 : D1 cX5_spotAt 17 (.iload_n 1) 1 18 := ⟨by decide +kernel, rfl⟩
theorem dX5_spotAt_18 : D1 cX5_spotAt 18 (.iaload) 1 19 := ⟨by decide +kernel, rfl⟩
theorem dX5_spotAt_19 : DJ cX5_spotAt 19 .goto 22 23 := ⟨4, by decide +kernel, rfl, by decide⟩
theorem dX5_spotAt_22 : D1 cX5_spotAt 22 (.iconst (-1)) 1 23 := ⟨by decide +kernel, rfl⟩
theorem dX5_spotAt_23 : D1 cX5_spotAt 23 (.ireturn) 1 24 := ⟨by decide +kernel, rfl⟩
theorem dX5_putSpot_0 : D1 cX5_putSpot 0 (.iload_n 1) 1 1 := ⟨by decide +kernel, rfl⟩
theorem dX5_putSpot_1 : DJ cX5_putSpot 1 (.ifCond .lt) 4 20 := ⟨19, by decide +kernel, rfl, by decide⟩
theorem dX5_putSpot_4 : D1 cX5_putSpot 4 (.iload_n 1) 1 5 := ⟨by decide +kernel, rfl⟩
theorem dX5_putSpot_5 : D1 cX5_putSpot 5 (.aload_n 0) 1 6 := ⟨by decide +kernel, rfl⟩
theorem dX5_putSpot_6 : D1 cX5_putSpot 6 (.getfield 21) 3 9 := ⟨by decide +kernel, rfl⟩
theorem dX5_putSpot_9 : D1 cX5_putSpot 9 (.arraylength) 1 10 := ⟨by decide +kernel, rfl⟩
theorem dX5_putSpot_10 : DJ cX5_putSpot 10 (.if_icmp .ge) 13 20 := ⟨10, by decide +kernel, rfl, by decide⟩
theorem dX5_putSpot_13 : D1 cX5_putSpot 13 (.aload_n 0) 1 14 := ⟨by decide +kernel, rfl⟩
theorem dX5_putSpot_14 : D1 cX5_putSpot 14 (.getfield 21) 3 17 := ⟨by decide +kernel, rfl⟩
theorem dX5_putSpot_17 : D1 cX5_putSpot 17 (.iload_n 1) 1 18 := ⟨by decide +kernel, rfl⟩
theorem dX5_putSpot_18 : D1 cX5_putSpot 18 (.iload_n 2) 1 19 := ⟨by decide +kernel, rfl⟩
theorem dX5_putSpot_19 : D1 cX5_putSpot 19 (.iastore) 1 20 := ⟨by decide +kernel, rfl⟩
theorem dX5_putSpot_20 : D1 cX5_putSpot 20 (.return_) 1 21 := ⟨by decide +kernel, rfl⟩
theorem dX5_spotsHeld_0 : D1 cX5_spotsHeld 0 (.iconst 0) 1 1 := ⟨by decide +kernel, rfl⟩
theorem dX5_spotsHeld_1 : D1 cX5_spotsHeld 1 (.istore_n 1) 1 2 := ⟨by decide +kernel, rfl⟩
theorem dX5_spotsHeld_2 : D1 cX5_spotsHeld 2 (.iconst 0) 1 3 := ⟨by decide +kernel, rfl⟩
theorem dX5_spotsHeld_3 : D1 cX5_spotsHeld 3 (.istore_n 2) 1 4 := ⟨by decide +kernel, rfl⟩
theorem dX5_spotsHeld_4 : D1 cX5_spotsHeld 4 (.iload_n 2) 1 5 := ⟨by decide +kernel, rfl⟩
theorem dX5_spotsHeld_5 : D1 cX5_spotsHeld 5 (.aload_n 0) 1 6 := ⟨by decide +kernel, rfl⟩
theorem dX5_spotsHeld_6 : D1 cX5_spotsHeld 6 (.getfield 21) 3 9 := ⟨by decide +kernel, rfl⟩
theorem dX5_spotsHeld_9 : D1 cX5_spotsHeld 9 (.arraylength) 1 10 := ⟨by decide +kernel, rfl⟩
theorem dX5_spotsHeld_10 : DJ cX5_spotsHeld 10 (.if_icmp .ge) 13 32 := ⟨22, by decide +kernel, rfl, by decide⟩
theorem dX5_spotsHeld_13 : D1 cX5_spotsHeld 13 (.aload_n 0) 1 14 := ⟨by decide +kernel, rfl⟩
theorem dX5_spotsHeld_14 : D1 cX5_spotsHeld 14 (.getfield 21) 3 17 := ⟨by decide +kernel, rfl⟩
theorem dX5_spotsHeld_17 : D1 cX5_spotsHeld 17 (.iload_n 2) 1 18 := ⟨by decide +kernel, rfl⟩
theorem dX5_spotsHeld_18 : D1 cX5_spotsHeld 18 (.iaload) 1 19 := ⟨by decide +kernel, rfl⟩
theorem dX5_spotsHeld_19 : D1 cX5_spotsHeld 19 (.iconst (-1)) 1 20 := ⟨by decide +kernel, rfl⟩
theorem dX5_spotsHeld_20 : DJ cX5_spotsHeld 20 (.if_icmp .eq) 23 26 := ⟨6, by decide +kernel, rfl, by decide⟩
theorem dX5_spotsHeld_23 : D1 cX5_spotsHeld 23 (.iinc 1 1) 3 26 := ⟨by decide +kernel, rfl⟩
theorem dX5_spotsHeld_26 : D1 cX5_spotsHeld 26 (.iinc 2 1) 3 29 := ⟨by decide +kernel, rfl⟩
theorem dX5_spotsHeld_29 : DJ cX5_spotsHeld 29 .goto 32 4 := ⟨(-25), by decide +kernel, rfl, by decide⟩
theorem dX5_spotsHeld_32 : D1 cX5_spotsHeld 32 (.iload_n 1) 1 33 := ⟨by decide +kernel, rfl⟩
theorem dX5_spotsHeld_33 : D1 cX5_spotsHeld 33 (.ireturn) 1 34 := ⟨by decide +kernel, rfl⟩
theorem dX5_between_0 : D1 cX5_between 0 (.iconst 0) 1 1 := ⟨by decide +kernel, rfl⟩
theorem dX5_between_1 : D1 cX5_between 1 (.istore_n 3) 1 2 := ⟨by decide +kernel, rfl⟩
theorem dX5_between_2 : D1 cX5_between 2 (.iload_n 1) 1 3 := ⟨by decide +kernel, rfl⟩
theorem dX5_between_3 : D1 cX5_between 3 (.iload_n 2) 1 4 := ⟨by decide +kernel, rfl⟩
theorem dX5_between_4 : D1 cX5_between 4 (.invokestatic 75) 3 7 := ⟨by decide +kernel, rfl⟩
theorem dX5_between_7 : D1 cX5_between 7 (.istore 4) 2 9 := ⟨by decide +kernel, rfl⟩
theorem dX5_between_9 : D1 cX5_between 9 (.iload_n 1) 1 10 := ⟨by decide +kernel, rfl⟩
theorem dX5_between_10 : D1 cX5_between 10 (.iload_n 2) 1 11 := ⟨by decide +kernel, rfl⟩
theorem dX5_between_11 : D1 cX5_between 11 (.invokestatic 81) 3 14 := ⟨by decide +kernel, rfl⟩
theorem dX5_between_14 : D1 cX5_between 14 (.istore 5) 2 16 := ⟨by decide +kernel, rfl⟩
theorem dX5_between_16 : D1 cX5_between 16 (.iload 5) 2 18 := ⟨by decide +kernel, rfl⟩
theorem dX5_between_18 : D1 cX5_between 18 (.iload 4) 2 20 := ⟨by decide +kernel, rfl⟩
theorem dX5_between_20 : DJ cX5_between 20 (.if_icmp .ge) 23 43 := ⟨23, by decide +kernel, rfl, by decide⟩
theorem dX5_between_23 : D1 cX5_between 23 (.iload_n 3) 1 24 := ⟨by decide +kernel, rfl⟩
theorem dX5_between_24 : D1 cX5_between 24 (.aload_n 0) 1 25 := ⟨by decide +kernel, rfl⟩
theorem dX5_between_25 : D1 cX5_between 25 (.iload 5) 2 27 := ⟨by decide +kernel, rfl⟩
theorem dX5_between_27 : D1 cX5_between 27 (.invokevirtual 84) 3 30 := ⟨by decide +kernel, rfl⟩
theorem dX5_between_30 : D1 cX5_between 30 (.aload_n 0) 1 31 := ⟨by decide +kernel, rfl⟩
theorem dX5_between_31 : D1 cX5_between 31 (.getfield 52) 3 34 := ⟨by decide +kernel, rfl⟩
theorem dX5_between_34 : D1 cX5_between 34 (.iadd) 1 35 := ⟨by decide +kernel, rfl⟩
theorem dX5_between_35 : D1 cX5_between 35 (.iadd) 1 36 := ⟨by decide +kernel, rfl⟩
theorem dX5_between_36 : D1 cX5_between 36 (.istore_n 3) 1 37 := ⟨by decide +kernel, rfl⟩
theorem dX5_between_37 : D1 cX5_between 37 (.iinc 5 1) 3 40 := ⟨by decide +kernel, rfl⟩
theorem dX5_between_40 : DJ cX5_between 40 .goto 43 16 := ⟨(-24), by decide +kernel, rfl, by decide⟩
theorem dX5_between_43 : D1 cX5_between 43 (.iload_n 3) 1 44 := ⟨by decide +kernel, rfl⟩
theorem dX5_between_44 : D1 cX5_between 44 (.ireturn) 1 45 := ⟨by decide +kernel, rfl⟩
theorem dX5_go_0 : D1 cX5_go 0 (.aload_n 0) 1 1 := ⟨by decide +kernel, rfl⟩
theorem dX5_go_1 : D1 cX5_go 1 (.aload_n 0) 1 2 := ⟨by decide +kernel, rfl⟩
theorem dX5_go_2 : D1 cX5_go 2 (.aload_n 0) 1 3 := ⟨by decide +kernel, rfl⟩
theorem dX5_go_3 : D1 cX5_go 3 (.getfield 55) 3 6 := ⟨by decide +kernel, rfl⟩
theorem dX5_go_6 : D1 cX5_go 6 (.iload_n 1) 1 7 := ⟨by decide +kernel, rfl⟩
theorem dX5_go_7 : D1 cX5_go 7 (.invokevirtual 88) 3 10 := ⟨by decide +kernel, rfl⟩
theorem dX5_go_10 : D1 cX5_go 10 (.putfield 58) 3 13 := ⟨by decide +kernel, rfl⟩
theorem dX5_go_13 : D1 cX5_go 13 (.aload_n 0) 1 14 := ⟨by decide +kernel, rfl⟩
theorem dX5_go_14 : D1 cX5_go 14 (.iload_n 1) 1 15 := ⟨by decide +kernel, rfl⟩
theorem dX5_go_15 : D1 cX5_go 15 (.putfield 55) 3 18 := ⟨by decide +kernel, rfl⟩
theorem dX5_go_18 : D1 cX5_go 18 (.aload_n 0) 1 19 := ⟨by decide +kernel, rfl⟩
theorem dX5_go_19 : D1 cX5_go 19 (.getfield 58) 3 22 := ⟨by decide +kernel, rfl⟩
theorem dX5_go_22 : D1 cX5_go 22 (.ireturn) 1 23 := ⟨by decide +kernel, rfl⟩
theorem dX5_pass_0 : D1 cX5_pass 0 (.iconst 0) 1 1 := ⟨by decide +kernel, rfl⟩
theorem dX5_pass_1 : D1 cX5_pass 1 (.istore_n 2) 1 2 := ⟨by decide +kernel, rfl⟩
theorem dX5_pass_2 : D1 cX5_pass 2 (.iload_n 2) 1 3 := ⟨by decide +kernel, rfl⟩
theorem dX5_pass_3 : D1 cX5_pass 3 (.iload_n 1) 1 4 := ⟨by decide +kernel, rfl⟩
theorem dX5_pass_4 : DJ cX5_pass 4 (.if_icmp .ge) 7 17 := ⟨13, by decide +kernel, rfl, by decide⟩
theorem dX5_pass_7 : D1 cX5_pass 7 (.aload_n 0) 1 8 := ⟨by decide +kernel, rfl⟩
theorem dX5_pass_8 : D1 cX5_pass 8 (.invokevirtual 91) 3 11 := ⟨by decide +kernel, rfl⟩
theorem dX5_pass_11 : D1 cX5_pass 11 (.iinc 2 1) 3 14 := ⟨by decide +kernel, rfl⟩
theorem dX5_pass_14 : DJ cX5_pass 14 .goto 17 2 := ⟨(-12), by decide +kernel, rfl, by decide⟩
theorem dX5_pass_17 : D1 cX5_pass 17 (.return_) 1 18 := ⟨by decide +kernel, rfl⟩
theorem dX5_passOne_0 : D1 cX5_passOne 0 (.aload_n 0) 1 1 := ⟨by decide +kernel, rfl⟩
theorem dX5_passOne_1 : D1 cX5_passOne 1 (.invokevirtual 94) 3 4 := ⟨by decide +kernel, rfl⟩
theorem dX5_passOne_4 : D1 cX5_passOne 4 (.astore_n 1) 1 5 := ⟨by decide +kernel, rfl⟩
theorem dX5_passOne_5 : D1 cX5_passOne 5 (.aload_n 1) 1 6 := ⟨by decide +kernel, rfl⟩
theorem dX5_passOne_6 : DJ cX5_passOne 6 .ifnull 9 14 := ⟨8, by decide +kernel, rfl, by decide⟩
theorem dX5_passOne_9 : D1 cX5_passOne 9 (.aload_n 0) 1 10 := ⟨by decide +kernel, rfl⟩
theorem dX5_passOne_10 : D1 cX5_passOne 10 (.aload_n 1) 1 11 := ⟨by decide +kernel, rfl⟩
theorem dX5_passOne_11 : D1 cX5_passOne 11 (.invokevirtual 98) 3 14 := ⟨by decide +kernel, rfl⟩
theorem dX5_passOne_14 : D1 cX5_passOne 14 (.iconst 0) 1 15 := ⟨by decide +kernel, rfl⟩
theorem dX5_passOne_15 : D1 cX5_passOne 15 (.istore_n 2) 1 16 := ⟨by decide +kernel, rfl⟩
theorem dX5_passOne_16 : D1 cX5_passOne 16 (.iload_n 2) 1 17 := ⟨by decide +kernel, rfl⟩
theorem dX5_passOne_17 : D1 cX5_passOne 17 (.aload_n 0) 1 18 := ⟨by decide +kernel, rfl⟩
theorem dX5_passOne_18 : D1 cX5_passOne 18 (.getfield 35) 3 21 := ⟨by decide +kernel, rfl⟩
theorem dX5_passOne_21 : DJ cX5_passOne 21 (.if_icmp .ge) 24 48 := ⟨27, by decide +kernel, rfl, by decide⟩
theorem dX5_passOne_24 : D1 cX5_passOne 24 (.aload_n 0) 1 25 := ⟨by decide +kernel, rfl⟩
theorem dX5_passOne_25 : D1 cX5_passOne 25 (.iload_n 2) 1 26 := ⟨by decide +kernel, rfl⟩
theorem dX5_passOne_26 : D1 cX5_passOne 26 (.invokevirtual 38) 3 29 := ⟨by decide +kernel, rfl⟩
theorem dX5_passOne_29 : D1 cX5_passOne 29 (.astore_n 3) 1 30 := ⟨by decide +kernel, rfl⟩
theorem dX5_passOne_30 : D1 cX5_passOne 30 (.aload_n 3) 1 31 := ⟨by decide +kernel, rfl⟩
theorem dX5_passOne_31 : DJ cX5_passOne 31 .ifnull 34 42 := ⟨11, by decide +kernel, rfl, by decide⟩
theorem dX5_passOne_34 : D1 cX5_passOne 34 (.aload_n 3) 1 35 := ⟨by decide +kernel, rfl⟩
theorem dX5_passOne_35 : D1 cX5_passOne 35 (.aload_n 0) 1 36 := ⟨by decide +kernel, rfl⟩
theorem dX5_passOne_36 : D1 cX5_passOne 36 (.getfield 24) 3 39 := ⟨by decide +kernel, rfl⟩
theorem dX5_passOne_39 : D1 cX5_passOne 39 (.invokevirtual 101) 3 42 := ⟨by decide +kernel, rfl⟩
theorem dX5_passOne_42 : D1 cX5_passOne 42 (.iinc 2 1) 3 45 := ⟨by decide +kernel, rfl⟩
theorem dX5_passOne_45 : DJ cX5_passOne 45 .goto 48 16 := ⟨(-29), by decide +kernel, rfl, by decide⟩
theorem dX5_passOne_48 : D1 cX5_passOne 48 (.aload_n 1) 1 49 := ⟨by decide +kernel, rfl⟩
theorem dX5_passOne_49 : DJ cX5_passOne 49 .ifnull 52 72 := ⟨23, by decide +kernel, rfl, by decide⟩
theorem dX5_passOne_52 : D1 cX5_passOne 52 (.aload_n 1) 1 53 := ⟨by decide +kernel, rfl⟩
theorem dX5_passOne_53 : D1 cX5_passOne 53 (.getfield 104) 3 56 := ⟨by decide +kernel, rfl⟩
theorem dX5_passOne_56 : D1 cX5_passOne 56 (.sipush 180) 3 59 := ⟨by decide +kernel, rfl⟩
theorem dX5_passOne_59 : DJ cX5_passOne 59 (.if_icmp .lt) 62 72 := ⟨13, by decide +kernel, rfl, by decide⟩
theorem dX5_passOne_62 : D1 cX5_passOne 62 (.aload_n 1) 1 63 := ⟨by decide +kernel, rfl⟩
theorem dX5_passOne_63 : D1 cX5_passOne 63 (.dup) 1 64 := ⟨by decide +kernel, rfl⟩
theorem dX5_passOne_64 : D1 cX5_passOne 64 (.getfield 107) 3 67 := ⟨by decide +kernel, rfl⟩
theorem dX5_passOne_67 : D1 cX5_passOne 67 (.iconst 1) 1 68 := ⟨by decide +kernel, rfl⟩
theorem dX5_passOne_68 : D1 cX5_passOne 68 (.iadd) 1 69 := ⟨by decide +kernel, rfl⟩
theorem dX5_passOne_69 : D1 cX5_passOne 69 (.putfield 107) 3 72 := ⟨by decide +kernel, rfl⟩
theorem dX5_passOne_72 : D1 cX5_passOne 72 (.aload_n 0) 1 73 := ⟨by decide +kernel, rfl⟩
theorem dX5_passOne_73 : D1 cX5_passOne 73 (.getfield 58) 3 76 := ⟨by decide +kernel, rfl⟩
theorem dX5_passOne_76 : DJ cX5_passOne 76 (.ifCond .le) 79 89 := ⟨13, by decide +kernel, rfl, by decide⟩
theorem dX5_passOne_79 : D1 cX5_passOne 79 (.aload_n 0) 1 80 := ⟨by decide +kernel, rfl⟩
theorem dX5_passOne_80 : D1 cX5_passOne 80 (.dup) 1 81 := ⟨by decide +kernel, rfl⟩
theorem dX5_passOne_81 : D1 cX5_passOne 81 (.getfield 58) 3 84 := ⟨by decide +kernel, rfl⟩
theorem dX5_passOne_84 : D1 cX5_passOne 84 (.iconst 1) 1 85 := ⟨by decide +kernel, rfl⟩
theorem dX5_passOne_85 : D1 cX5_passOne 85 (.isub) 1 86 := ⟨by decide +kernel, rfl⟩
theorem dX5_passOne_86 : D1 cX5_passOne 86 (.putfield 58) 3 89 := ⟨by decide +kernel, rfl⟩
theorem dX5_passOne_89 : D1 cX5_passOne 89 (.aload_n 0) 1 90 := ⟨by decide +kernel, rfl⟩
theorem dX5_passOne_90 : D1 cX5_passOne 90 (.dup) 1 91 := ⟨by decide +kernel, rfl⟩
theorem dX5_passOne_91 : D1 cX5_passOne 91 (.getfield 61) 3 94 := ⟨by decide +kernel, rfl⟩
theorem dX5_passOne_94 : D1 cX5_passOne 94 (.iconst 1) 1 95 := ⟨by decide +kernel, rfl⟩
theorem dX5_passOne_95 : D1 cX5_passOne 95 (.iadd) 1 96 := ⟨by decide +kernel, rfl⟩
theorem dX5_passOne_96 : D1 cX5_passOne 96 (.putfield 61) 3 99 := ⟨by decide +kernel, rfl⟩
theorem dX5_passOne_99 : D1 cX5_passOne 99 (.return_) 1 100 := ⟨by decide +kernel, rfl⟩
theorem dX5_stoveHouse_0 : D1 cX5_stoveHouse 0 (.aload_n 0) 1 1 := ⟨by decide +kernel, rfl⟩
theorem dX5_stoveHouse_1 : D1 cX5_stoveHouse 1 (.getfield 58) 3 4 := ⟨by decide +kernel, rfl⟩
theorem dX5_stoveHouse_4 : DJ cX5_stoveHouse 4 (.ifCond .ne) 7 18 := ⟨14, by decide +kernel, rfl, by decide⟩
theorem dX5_stoveHouse_7 : D1 cX5_stoveHouse 7 (.aload_n 0) 1 8 := ⟨by decide +kernel, rfl⟩
theorem dX5_stoveHouse_8 : D1 cX5_stoveHouse 8 (.aload_n 0) 1 9 := ⟨by decide +kernel, rfl⟩
theorem dX5_stoveHouse_9 : D1 cX5_stoveHouse 9 (.getfield 55) 3 12 := ⟨by decide +kernel, rfl⟩
theorem dX5_stoveHouse_12 : D1 cX5_stoveHouse 12 (.invokevirtual 38) 3 15 := ⟨by decide +kernel, rfl⟩
theorem dX5_stoveHouse_15 : DJ cX5_stoveHouse 15 .goto 18 19 := ⟨4, by decide +kernel, rfl, by decide⟩
theorem dX5_stoveHouse_18 : D1 cX5_stoveHouse 18 (.aconst_null) 1 19 := ⟨by decide +kernel, rfl⟩
theorem dX5_stoveHouse_19 : D1 cX5_stoveHouse 19 (.astore_n 1) 1 20 := ⟨by decide +kernel, rfl⟩
theorem dX5_stoveHouse_20 : D1 cX5_stoveHouse 20 (.aload_n 1) 1 21 := ⟨by decide +kernel, rfl⟩
theorem dX5_stoveHouse_21 : DJ cX5_stoveHouse 21 .ifnull 24 39 := ⟨18, by decide +kernel, rfl, by decide⟩
theorem dX5_stoveHouse_24 : D1 cX5_stoveHouse 24 (.aload_n 1) 1 25 := ⟨by decide +kernel, rfl⟩
theorem dX5_stoveHouse_25 : D1 cX5_stoveHouse 25 (.getfield 110) 3 28 := ⟨by decide +kernel, rfl⟩
theorem dX5_stoveHouse_28 : D1 cX5_stoveHouse 28 (.aload_n 1) 1 29 := ⟨by decide +kernel, rfl⟩
theorem dX5_stoveHouse_29 : D1 cX5_stoveHouse 29 (.invokevirtual 113) 3 32 := ⟨by decide +kernel, rfl⟩
theorem dX5_stoveHouse_32 : DJ cX5_stoveHouse 32 (.if_icmp .lt) 35 39 := ⟨7, by decide +kernel, rfl, by decide⟩
theorem dX5_stoveHouse_35 : D1 cX5_stoveHouse 35 (.aload_n 1) 1 36 := ⟨by decide +kernel, rfl⟩
theorem dX5_stoveHouse_36 : DJ cX5_stoveHouse 36 .goto 39 40 := ⟨4, by decide +kernel, rfl, by decide⟩
theorem dX5_stoveHouse_39 : D1 cX5_stoveHouse 39 (.aconst_null) 1 40 := ⟨by decide +kernel, rfl⟩
theorem dX5_stoveHouse_40 : D1 cX5_stoveHouse 40 (.areturn) 1 41 := ⟨by decide +kernel, rfl⟩
theorem dX5_burnAt_0 : D1 cX5_burnAt 0 (.aload_n 1) 1 1 := ⟨by decide +kernel, rfl⟩
theorem dX5_burnAt_1 : D1 cX5_burnAt 1 (.invokevirtual 117) 3 4 := ⟨by decide +kernel, rfl⟩
theorem dX5_burnAt_4 : D1 cX5_burnAt 4 (.istore_n 2) 1 5 := ⟨by decide +kernel, rfl⟩
theorem dX5_burnAt_5 : D1 cX5_burnAt 5 (.aload_n 1) 1 6 := ⟨by decide +kernel, rfl⟩
theorem dX5_burnAt_6 : D1 cX5_burnAt 6 (.dup) 1 7 := ⟨by decide +kernel, rfl⟩
theorem dX5_burnAt_7 : D1 cX5_burnAt 7 (.getfield 110) 3 10 := ⟨by decide +kernel, rfl⟩
theorem dX5_burnAt_10 : D1 cX5_burnAt 10 (.aload_n 1) 1 11 := ⟨by decide +kernel, rfl⟩
theorem dX5_burnAt_11 : D1 cX5_burnAt 11 (.invokevirtual 113) 3 14 := ⟨by decide +kernel, rfl⟩
theorem dX5_burnAt_14 : D1 cX5_burnAt 14 (.isub) 1 15 := ⟨by decide +kernel, rfl⟩
theorem dX5_burnAt_15 : D1 cX5_burnAt 15 (.putfield 110) 3 18 := ⟨by decide +kernel, rfl⟩
theorem dX5_burnAt_18 : D1 cX5_burnAt 18 (.aload_n 0) 1 19 := ⟨by decide +kernel, rfl⟩
theorem dX5_burnAt_19 : D1 cX5_burnAt 19 (.dup) 1 20 := ⟨by decide +kernel, rfl⟩
theorem dX5_burnAt_20 : D1 cX5_burnAt 20 (.getfield 64) 3 23 := ⟨by decide +kernel, rfl⟩
theorem dX5_burnAt_23 : D1 cX5_burnAt 23 (.aload_n 1) 1 24 := ⟨by decide +kernel, rfl⟩
theorem dX5_burnAt_24 : D1 cX5_burnAt 24 (.invokevirtual 113) 3 27 := ⟨by decide +kernel, rfl⟩
theorem dX5_burnAt_27 : D1 cX5_burnAt 27 (.iadd) 1 28 := ⟨by decide +kernel, rfl⟩
theorem dX5_burnAt_28 : D1 cX5_burnAt 28 (.putfield 64) 3 31 := ⟨by decide +kernel, rfl⟩
theorem dX5_burnAt_31 : D1 cX5_burnAt 31 (.aload_n 1) 1 32 := ⟨by decide +kernel, rfl⟩
theorem dX5_burnAt_32 : D1 cX5_burnAt 32 (.iload_n 2) 1 33 := ⟨by decide +kernel, rfl⟩
theorem dX5_burnAt_33 : D1 cX5_burnAt 33 (.invokevirtual 120) 3 36 := ⟨by decide +kernel, rfl⟩
theorem dX5_burnAt_36 : D1 cX5_burnAt 36 (.aload_n 0) 1 37 := ⟨by decide +kernel, rfl⟩
theorem dX5_burnAt_37 : D1 cX5_burnAt 37 (.aload_n 0) 1 38 := ⟨by decide +kernel, rfl⟩
theorem dX5_burnAt_38 : D1 cX5_burnAt 38 (.getfield 55) 3 41 := ⟨by decide +kernel, rfl⟩
theorem dX5_burnAt_41 : D1 cX5_burnAt 41 (.iconst 1) 1 42 := ⟨by decide +kernel, rfl⟩
theorem dX5_burnAt_42 : D1 cX5_burnAt 42 (.isub) 1 43 := ⟨by decide +kernel, rfl⟩
theorem dX5_burnAt_43 : D1 cX5_burnAt 43 (.invokevirtual 38) 3 46 := ⟨by decide +kernel, rfl⟩
theorem dX5_burnAt_46 : D1 cX5_burnAt 46 (.astore_n 3) 1 47 := ⟨by decide +kernel, rfl⟩
theorem dX5_burnAt_47 : D1 cX5_burnAt 47 (.aload_n 3) 1 48 := ⟨by decide +kernel, rfl⟩
theorem dX5_burnAt_48 : DJ cX5_burnAt 48 .ifnull 51 60 := ⟨12, by decide +kernel, rfl, by decide⟩
theorem dX5_burnAt_51 : D1 cX5_burnAt 51 (.aload_n 3) 1 52 := ⟨by decide +kernel, rfl⟩
theorem dX5_burnAt_52 : D1 cX5_burnAt 52 (.aload_n 3) 1 53 := ⟨by decide +kernel, rfl⟩
theorem dX5_burnAt_53 : D1 cX5_burnAt 53 (.iload_n 2) 1 54 := ⟨by decide +kernel, rfl⟩
theorem dX5_burnAt_54 : D1 cX5_burnAt 54 (.invokevirtual 123) 3 57 := ⟨by decide +kernel, rfl⟩
theorem dX5_burnAt_57 : D1 cX5_burnAt 57 (.invokevirtual 120) 3 60 := ⟨by decide +kernel, rfl⟩
theorem dX5_burnAt_60 : D1 cX5_burnAt 60 (.aload_n 0) 1 61 := ⟨by decide +kernel, rfl⟩
theorem dX5_burnAt_61 : D1 cX5_burnAt 61 (.aload_n 0) 1 62 := ⟨by decide +kernel, rfl⟩
theorem dX5_burnAt_62 : D1 cX5_burnAt 62 (.getfield 55) 3 65 := ⟨by decide +kernel, rfl⟩
theorem dX5_burnAt_65 : D1 cX5_burnAt 65 (.iconst 1) 1 66 := ⟨by decide +kernel, rfl⟩
theorem dX5_burnAt_66 : D1 cX5_burnAt 66 (.iadd) 1 67 := ⟨by decide +kernel, rfl⟩
theorem dX5_burnAt_67 : D1 cX5_burnAt 67 (.invokevirtual 38) 3 70 := ⟨by decide +kernel, rfl⟩
theorem dX5_burnAt_70 : D1 cX5_burnAt 70 (.astore 4) 2 72 := ⟨by decide +kernel, rfl⟩
theorem dX5_burnAt_72 : D1 cX5_burnAt 72 (.aload 4) 2 74 := ⟨by decide +kernel, rfl⟩
theorem dX5_burnAt_74 : DJ cX5_burnAt 74 .ifnull 77 88 := ⟨14, by decide +kernel, rfl, by decide⟩
theorem dX5_burnAt_77 : D1 cX5_burnAt 77 (.aload 4) 2 79 := ⟨by decide +kernel, rfl⟩
theorem dX5_burnAt_79 : D1 cX5_burnAt 79 (.aload 4) 2 81 := ⟨by decide +kernel, rfl⟩
theorem dX5_burnAt_81 : D1 cX5_burnAt 81 (.iload_n 2) 1 82 := ⟨by decide +kernel, rfl⟩
theorem dX5_burnAt_82 : D1 cX5_burnAt 82 (.invokevirtual 123) 3 85 := ⟨by decide +kernel, rfl⟩
theorem dX5_burnAt_85 : D1 cX5_burnAt 85 (.invokevirtual 120) 3 88 := ⟨by decide +kernel, rfl⟩
theorem dX5_burnAt_88 : D1 cX5_burnAt 88 (.return_) 1 89 := ⟨by decide +kernel, rfl⟩
theorem dX5_isCold_0 : D1 cX5_isCold 0 (.aload_n 0) 1 1 := ⟨by decide +kernel, rfl⟩
theorem dX5_isCold_1 : D1 cX5_isCold 1 (.iload_n 1) 1 2 := ⟨by decide +kernel, rfl⟩
theorem dX5_isCold_2 : D1 cX5_isCold 2 (.invokevirtual 38) 3 5 := ⟨by decide +kernel, rfl⟩
theorem dX5_isCold_5 : D1 cX5_isCold 5 (.astore_n 2) 1 6 := ⟨by decide +kernel, rfl⟩
theorem dX5_isCold_6 : D1 cX5_isCold 6 (.aload_n 2) 1 7 := ⟨by decide +kernel, rfl⟩
theorem dX5_isCold_7 : DJ cX5_isCold 7 .ifnull 10 21 := ⟨14, by decide +kernel, rfl, by decide⟩
theorem dX5_isCold_10 : D1 cX5_isCold 10 (.aload_n 2) 1 11 := ⟨by decide +kernel, rfl⟩
theorem dX5_isCold_11 : D1 cX5_isCold 11 (.invokevirtual 126) 3 14 := ⟨by decide +kernel, rfl⟩
theorem dX5_isCold_14 : DJ cX5_isCold 14 (.ifCond .eq) 17 21 := ⟨7, by decide +kernel, rfl, by decide⟩
theorem dX5_isCold_17 : D1 cX5_isCold 17 (.iconst 1) 1 18 := ⟨by decide +kernel, rfl⟩
theorem dX5_isCold_18 : DJ cX5_isCold 18 .goto 21 22 := ⟨4, by decide +kernel, rfl, by decide⟩
theorem dX5_isCold_21 : D1 cX5_isCold 21 (.iconst 0) 1 22 := ⟨by decide +kernel, rfl⟩
theorem dX5_isCold_22 : D1 cX5_isCold 22 (.ireturn) 1 23 := ⟨by decide +kernel, rfl⟩
theorem dX5_coldSet_0 : D1 cX5_coldSet 0 (.iconst 0) 1 1 := ⟨by decide +kernel, rfl⟩
theorem dX5_coldSet_1 : D1 cX5_coldSet 1 (.istore_n 1) 1 2 := ⟨by decide +kernel, rfl⟩
theorem dX5_coldSet_2 : D1 cX5_coldSet 2 (.iconst 0) 1 3 := ⟨by decide +kernel, rfl⟩
theorem dX5_coldSet_3 : D1 cX5_coldSet 3 (.istore_n 2) 1 4 := ⟨by decide +kernel, rfl⟩
theorem dX5_coldSet_4 : D1 cX5_coldSet 4 (.iload_n 2) 1 5 := ⟨by decide +kernel, rfl⟩
theorem dX5_coldSet_5 : D1 cX5_coldSet 5 (.aload_n 0) 1 6 := ⟨by decide +kernel, rfl⟩
theorem dX5_coldSet_6 : D1 cX5_coldSet 6 (.getfield 35) 3 9 := ⟨by decide +kernel, rfl⟩
theorem dX5_coldSet_9 : DJ cX5_coldSet 9 (.if_icmp .ge) 12 32 := ⟨23, by decide +kernel, rfl, by decide⟩
theorem dX5_coldSet_12 : D1 cX5_coldSet 12 (.aload_n 0) 1 13 := ⟨by decide +kernel, rfl⟩
theorem dX5_coldSet_13 : D1 cX5_coldSet 13 (.iload_n 2) 1 14 := ⟨by decide +kernel, rfl⟩
theorem dX5_coldSet_14 : D1 cX5_coldSet 14 (.invokevirtual 130) 3 17 := ⟨by decide +kernel, rfl⟩
theorem dX5_coldSet_17 : DJ cX5_coldSet 17 (.ifCond .eq) 20 26 := ⟨9, by decide +kernel, rfl, by decide⟩
theorem dX5_coldSet_20 : D1 cX5_coldSet 20 (.iload_n 1) 1 21 := ⟨by decide +kernel, rfl⟩
theorem dX5_coldSet_21 : D1 cX5_coldSet 21 (.iconst 1) 1 22 := ⟨by decide +kernel, rfl⟩
theorem dX5_coldSet_22 : D1 cX5_coldSet 22 (.iload_n 2) 1 23 := ⟨by decide +kernel, rfl⟩
theorem dX5_coldSet_23 : D1 cX5_coldSet 23 (.ishl) 1 24 := ⟨by decide +kernel, rfl⟩
theorem dX5_coldSet_24 : D1 cX5_coldSet 24 (.ior) 1 25 := ⟨by decide +kernel, rfl⟩
theorem dX5_coldSet_25 : D1 cX5_coldSet 25 (.istore_n 1) 1 26 := ⟨by decide +kernel, rfl⟩
theorem dX5_coldSet_26 : D1 cX5_coldSet 26 (.iinc 2 1) 3 29 := ⟨by decide +kernel, rfl⟩
theorem dX5_coldSet_29 : DJ cX5_coldSet 29 .goto 32 4 := ⟨(-25), by decide +kernel, rfl, by decide⟩
theorem dX5_coldSet_32 : D1 cX5_coldSet 32 (.iload_n 1) 1 33 := ⟨by decide +kernel, rfl⟩
theorem dX5_coldSet_33 : D1 cX5_coldSet 33 (.ireturn) 1 34 := ⟨by decide +kernel, rfl⟩
theorem dX5_leastWarmth_0 : D1 cX5_leastWarmth 0 (.sipush 400) 3 3 := ⟨by decide +kernel, rfl⟩
theorem dX5_leastWarmth_3 : D1 cX5_leastWarmth 3 (.istore_n 1) 1 4 := ⟨by decide +kernel, rfl⟩
theorem dX5_leastWarmth_4 : D1 cX5_leastWarmth 4 (.iconst 0) 1 5 := ⟨by decide +kernel, rfl⟩
theorem dX5_leastWarmth_5 : D1 cX5_leastWarmth 5 (.istore_n 2) 1 6 := ⟨by decide +kernel, rfl⟩
theorem dX5_leastWarmth_6 : D1 cX5_leastWarmth 6 (.iload_n 2) 1 7 := ⟨by decide +kernel, rfl⟩
theorem dX5_leastWarmth_7 : D1 cX5_leastWarmth 7 (.aload_n 0) 1 8 := ⟨by decide +kernel, rfl⟩
theorem dX5_leastWarmth_8 : D1 cX5_leastWarmth 8 (.getfield 35) 3 11 := ⟨by decide +kernel, rfl⟩
theorem dX5_leastWarmth_11 : DJ cX5_leastWarmth 11 (.if_icmp .ge) 14 46 := ⟨35, by decide +kernel, rfl, by decide⟩
theorem dX5_leastWarmth_14 : D1 cX5_leastWarmth 14 (.aload_n 0) 1 15 := ⟨by decide +kernel, rfl⟩
theorem dX5_leastWarmth_15 : D1 cX5_leastWarmth 15 (.iload_n 2) 1 16 := ⟨by decide +kernel, rfl⟩
theorem dX5_leastWarmth_16 : D1 cX5_leastWarmth 16 (.invokevirtual 38) 3 19 := ⟨by decide +kernel, rfl⟩
theorem dX5_leastWarmth_19 : D1 cX5_leastWarmth 19 (.astore_n 3) 1 20 := ⟨by decide +kernel, rfl⟩
theorem dX5_leastWarmth_20 : D1 cX5_leastWarmth 20 (.aload_n 3) 1 21 := ⟨by decide +kernel, rfl⟩
theorem dX5_leastWarmth_21 : DJ cX5_leastWarmth 21 .ifnull 24 40 := ⟨19, by decide +kernel, rfl, by decide⟩
theorem dX5_leastWarmth_24 : D1 cX5_leastWarmth 24 (.aload_n 3) 1 25 := ⟨by decide +kernel, rfl⟩
theorem dX5_leastWarmth_25 : D1 cX5_leastWarmth 25 (.invokevirtual 133) 3 28 := ⟨by decide +kernel, rfl⟩
theorem dX5_leastWarmth_28 : DJ cX5_leastWarmth 28 (.ifCond .eq) 31 40 := ⟨12, by decide +kernel, rfl, by decide⟩
theorem dX5_leastWarmth_31 : D1 cX5_leastWarmth 31 (.iload_n 1) 1 32 := ⟨by decide +kernel, rfl⟩
theorem dX5_leastWarmth_32 : D1 cX5_leastWarmth 32 (.aload_n 3) 1 33 := ⟨by decide +kernel, rfl⟩
theorem dX5_leastWarmth_33 : D1 cX5_leastWarmth 33 (.getfield 104) 3 36 := ⟨by decide +kernel, rfl⟩
theorem dX5_leastWarmth_36 : D1 cX5_leastWarmth 36 (.invokestatic 81) 3 39 := ⟨by decide +kernel, rfl⟩
theorem dX5_leastWarmth_39 : D1 cX5_leastWarmth 39 (.istore_n 1) 1 40 := ⟨by decide +kernel, rfl⟩
theorem dX5_leastWarmth_40 : D1 cX5_leastWarmth 40 (.iinc 2 1) 3 43 := ⟨by decide +kernel, rfl⟩
theorem dX5_leastWarmth_43 : DJ cX5_leastWarmth 43 .goto 46 6 := ⟨(-37), by decide +kernel, rfl, by decide⟩
theorem dX5_leastWarmth_46 : D1 cX5_leastWarmth 46 (.iload_n 1) 1 47 := ⟨by decide +kernel, rfl⟩
theorem dX5_leastWarmth_47 : D1 cX5_leastWarmth 47 (.ireturn) 1 48 := ⟨by decide +kernel, rfl⟩
theorem dX5_sum_0 : D1 cX5_sum 0 (.iconst 0) 1 1 := ⟨by decide +kernel, rfl⟩
theorem dX5_sum_1 : D1 cX5_sum 1 (.istore_n 2) 1 2 := ⟨by decide +kernel, rfl⟩
theorem dX5_sum_2 : D1 cX5_sum 2 (.iconst 0) 1 3 := ⟨by decide +kernel, rfl⟩
theorem dX5_sum_3 : D1 cX5_sum 3 (.istore_n 3) 1 4 := ⟨by decide +kernel, rfl⟩
theorem dX5_sum_4 : D1 cX5_sum 4 (.iload_n 3) 1 5 := ⟨by decide +kernel, rfl⟩
theorem dX5_sum_5 : D1 cX5_sum 5 (.aload_n 0) 1 6 := ⟨by decide +kernel, rfl⟩
theorem dX5_sum_6 : D1 cX5_sum 6 (.getfield 35) 3 9 := ⟨by decide +kernel, rfl⟩
theorem dX5_sum_9 : DJ cX5_sum 9 (.if_icmp .ge) 12 39 := ⟨30, by decide +kernel, rfl, by decide⟩
theorem dX5_sum_12 : D1 cX5_sum 12 (.aload_n 0) 1 13 := ⟨by decide +kernel, rfl⟩
theorem dX5_sum_13 : D1 cX5_sum 13 (.iload_n 3) 1 14 := ⟨by decide +kernel, rfl⟩
theorem dX5_sum_14 : D1 cX5_sum 14 (.invokevirtual 38) 3 17 := ⟨by decide +kernel, rfl⟩
theorem dX5_sum_17 : D1 cX5_sum 17 (.astore 4) 2 19 := ⟨by decide +kernel, rfl⟩
theorem dX5_sum_19 : D1 cX5_sum 19 (.aload 4) 2 21 := ⟨by decide +kernel, rfl⟩
theorem dX5_sum_21 : DJ cX5_sum 21 .ifnull 24 33 := ⟨12, by decide +kernel, rfl, by decide⟩
theorem dX5_sum_24 : D1 cX5_sum 24 (.iload_n 2) 1 25 := ⟨by decide +kernel, rfl⟩
theorem dX5_sum_25 : D1 cX5_sum 25 (.aload 4) 2 27 := ⟨by decide +kernel, rfl⟩
theorem dX5_sum_27 : D1 cX5_sum 27 (.iload_n 1) 1 28 := ⟨by decide +kernel, rfl⟩
theorem dX5_sum_28 : D1 cX5_sum 28 (.invokevirtual 136) 3 31 := ⟨by decide +kernel, rfl⟩
theorem dX5_sum_31 : D1 cX5_sum 31 (.iadd) 1 32 := ⟨by decide +kernel, rfl⟩
theorem dX5_sum_32 : D1 cX5_sum 32 (.istore_n 2) 1 33 := ⟨by decide +kernel, rfl⟩
theorem dX5_sum_33 : D1 cX5_sum 33 (.iinc 3 1) 3 36 := ⟨by decide +kernel, rfl⟩
theorem dX5_sum_36 : DJ cX5_sum 36 .goto 39 4 := ⟨(-32), by decide +kernel, rfl, by decide⟩
theorem dX5_sum_39 : D1 cX5_sum 39 (.iload_n 2) 1 40 := ⟨by decide +kernel, rfl⟩
theorem dX5_sum_40 : D1 cX5_sum 40 (.ireturn) 1 41 := ⟨by decide +kernel, rfl⟩
theorem dX5_beginRound_0 : D1 cX5_beginRound 0 (.aload_n 0) 1 1 := ⟨by decide +kernel, rfl⟩
theorem dX5_beginRound_1 : D1 cX5_beginRound 1 (.aload_n 1) 1 2 := ⟨by decide +kernel, rfl⟩
theorem dX5_beginRound_2 : D1 cX5_beginRound 2 (.invokevirtual 139) 3 5 := ⟨by decide +kernel, rfl⟩
theorem dX5_beginRound_5 : D1 cX5_beginRound 5 (.aload_n 0) 1 6 := ⟨by decide +kernel, rfl⟩
theorem dX5_beginRound_6 : D1 cX5_beginRound 6 (.sipush 400) 3 9 := ⟨by decide +kernel, rfl⟩
theorem dX5_beginRound_9 : D1 cX5_beginRound 9 (.putfield 31) 3 12 := ⟨by decide +kernel, rfl⟩
theorem dX5_beginRound_12 : D1 cX5_beginRound 12 (.aload_n 0) 1 13 := ⟨by decide +kernel, rfl⟩
theorem dX5_beginRound_13 : D1 cX5_beginRound 13 (.iconst 0) 1 14 := ⟨by decide +kernel, rfl⟩
theorem dX5_beginRound_14 : D1 cX5_beginRound 14 (.putfield 67) 3 17 := ⟨by decide +kernel, rfl⟩
theorem dX5_beginRound_17 : D1 cX5_beginRound 17 (.return_) 1 18 := ⟨by decide +kernel, rfl⟩
theorem dX5_leg_0 : D1 cX5_leg 0 (.aload_n 0) 1 1 := ⟨by decide +kernel, rfl⟩
theorem dX5_leg_1 : D1 cX5_leg 1 (.iload_n 1) 1 2 := ⟨by decide +kernel, rfl⟩
theorem dX5_leg_2 : D1 cX5_leg 2 (.invokevirtual 142) 3 5 := ⟨by decide +kernel, rfl⟩
theorem dX5_leg_5 : D1 cX5_leg 5 (.iload_n 2) 1 6 := ⟨by decide +kernel, rfl⟩
theorem dX5_leg_6 : D1 cX5_leg 6 (.iadd) 1 7 := ⟨by decide +kernel, rfl⟩
theorem dX5_leg_7 : D1 cX5_leg 7 (.istore_n 3) 1 8 := ⟨by decide +kernel, rfl⟩
theorem dX5_leg_8 : D1 cX5_leg 8 (.iconst 0) 1 9 := ⟨by decide +kernel, rfl⟩
theorem dX5_leg_9 : D1 cX5_leg 9 (.istore 4) 2 11 := ⟨by decide +kernel, rfl⟩
theorem dX5_leg_11 : D1 cX5_leg 11 (.iload 4) 2 13 := ⟨by decide +kernel, rfl⟩
theorem dX5_leg_13 : D1 cX5_leg 13 (.iload_n 3) 1 14 := ⟨by decide +kernel, rfl⟩
theorem dX5_leg_14 : DJ cX5_leg 14 (.if_icmp .ge) 17 31 := ⟨17, by decide +kernel, rfl, by decide⟩
theorem dX5_leg_17 : D1 cX5_leg 17 (.aload_n 0) 1 18 := ⟨by decide +kernel, rfl⟩
theorem dX5_leg_18 : D1 cX5_leg 18 (.invokevirtual 91) 3 21 := ⟨by decide +kernel, rfl⟩
theorem dX5_leg_21 : D1 cX5_leg 21 (.aload_n 0) 1 22 := ⟨by decide +kernel, rfl⟩
theorem dX5_leg_22 : D1 cX5_leg 22 (.invokevirtual 145) 3 25 := ⟨by decide +kernel, rfl⟩
theorem dX5_leg_25 : D1 cX5_leg 25 (.iinc 4 1) 3 28 := ⟨by decide +kernel, rfl⟩
theorem dX5_leg_28 : DJ cX5_leg 28 .goto 31 11 := ⟨(-17), by decide +kernel, rfl, by decide⟩
theorem dX5_leg_31 : D1 cX5_leg 31 (.return_) 1 32 := ⟨by decide +kernel, rfl⟩
theorem dX5_watch_0 : D1 cX5_watch 0 (.iconst 0) 1 1 := ⟨by decide +kernel, rfl⟩
theorem dX5_watch_1 : D1 cX5_watch 1 (.istore_n 1) 1 2 := ⟨by decide +kernel, rfl⟩
theorem dX5_watch_2 : D1 cX5_watch 2 (.iload_n 1) 1 3 := ⟨by decide +kernel, rfl⟩
theorem dX5_watch_3 : D1 cX5_watch 3 (.aload_n 0) 1 4 := ⟨by decide +kernel, rfl⟩
theorem dX5_watch_4 : D1 cX5_watch 4 (.getfield 35) 3 7 := ⟨by decide +kernel, rfl⟩
theorem dX5_watch_7 : DJ cX5_watch 7 (.if_icmp .ge) 10 71 := ⟨64, by decide +kernel, rfl, by decide⟩
theorem dX5_watch_10 : D1 cX5_watch 10 (.aload_n 0) 1 11 := ⟨by decide +kernel, rfl⟩
theorem dX5_watch_11 : D1 cX5_watch 11 (.iload_n 1) 1 12 := ⟨by decide +kernel, rfl⟩
theorem dX5_watch_12 : D1 cX5_watch 12 (.invokevirtual 38) 3 15 := ⟨by decide +kernel, rfl⟩
theorem dX5_watch_15 : D1 cX5_watch 15 (.astore_n 2) 1 16 := ⟨by decide +kernel, rfl⟩
theorem dX5_watch_16 : D1 cX5_watch 16 (.aload_n 2) 1 17 := ⟨by decide +kernel, rfl⟩
theorem dX5_watch_17 : DJ cX5_watch 17 .ifnull 20 65 := ⟨48, by decide +kernel, rfl, by decide⟩
theorem dX5_watch_20 : D1 cX5_watch 20 (.aload_n 2) 1 21 := ⟨by decide +kernel, rfl⟩
theorem dX5_watch_21 : D1 cX5_watch 21 (.invokevirtual 133) 3 24 := ⟨by decide +kernel, rfl⟩
theorem dX5_watch_24 : DJ cX5_watch 24 (.ifCond .eq) 27 65 := ⟨41, by decide +kernel, rfl, by decide⟩
theorem dX5_watch_27 : D1 cX5_watch 27 (.aload_n 0) 1 28 := ⟨by decide +kernel, rfl⟩
theorem dX5_watch_28 : D1 cX5_watch 28 (.aload_n 0) 1 29 := ⟨by decide +kernel, rfl⟩
theorem dX5_watch_29 : D1 cX5_watch 29 (.getfield 31) 3 32 := ⟨by decide +kernel, rfl⟩
theorem dX5_watch_32 : D1 cX5_watch 32 (.aload_n 2) 1 33 := ⟨by decide +kernel, rfl⟩
theorem dX5_watch_33 : D1 cX5_watch 33 (.getfield 104) 3 36 := ⟨by decide +kernel, rfl⟩
theorem dX5_watch_36 : D1 cX5_watch 36 (.invokestatic 81) 3 39 := ⟨by decide +kernel, rfl⟩
theorem dX5_watch_39 : D1 cX5_watch 39 (.putfield 31) 3 42 := ⟨by decide +kernel, rfl⟩
theorem dX5_watch_42 : D1 cX5_watch 42 (.aload_n 0) 1 43 := ⟨by decide +kernel, rfl⟩
theorem dX5_watch_43 : D1 cX5_watch 43 (.aload_n 0) 1 44 := ⟨by decide +kernel, rfl⟩
theorem dX5_watch_44 : D1 cX5_watch 44 (.getfield 67) 3 47 := ⟨by decide +kernel, rfl⟩
theorem dX5_watch_47 : DJ cX5_watch 47 (.ifCond .ne) 50 57 := ⟨10, by decide +kernel, rfl, by decide⟩
theorem dX5_watch_50 : D1 cX5_watch 50 (.aload_n 2) 1 51 := ⟨by decide +kernel, rfl⟩
theorem dX5_watch_51 : D1 cX5_watch 51 (.invokevirtual 126) 3 54 := ⟨by decide +kernel, rfl⟩
theorem dX5_watch_54 : DJ cX5_watch 54 (.ifCond .eq) 57 61 := ⟨7, by decide +kernel, rfl, by decide⟩
theorem dX5_watch_57 : D1 cX5_watch 57 (.iconst 1) 1 58 := ⟨by decide +kernel, rfl⟩
theorem dX5_watch_58 : DJ cX5_watch 58 .goto 61 62 := ⟨4, by decide +kernel, rfl, by decide⟩
theorem dX5_watch_61 : D1 cX5_watch 61 (.iconst 0) 1 62 := ⟨by decide +kernel, rfl⟩
theorem dX5_watch_62 : D1 cX5_watch 62 (.putfield 67) 3 65 := ⟨by decide +kernel, rfl⟩
theorem dX5_watch_65 : D1 cX5_watch 65 (.iinc 1 1) 3 68 := ⟨by decide +kernel, rfl⟩
theorem dX5_watch_68 : DJ cX5_watch 68 .goto 71 2 := ⟨(-66), by decide +kernel, rfl, by decide⟩
theorem dX5_watch_71 : D1 cX5_watch 71 (.return_) 1 72 := ⟨by decide +kernel, rfl⟩
theorem dX5_draw_0 : D1 cX5_draw 0 (.aload_n 0) 1 1 := ⟨by decide +kernel, rfl⟩
theorem dX5_draw_1 : D1 cX5_draw 1 (.aload_n 0) 1 2 := ⟨by decide +kernel, rfl⟩
theorem dX5_draw_2 : D1 cX5_draw 2 (.getfield 28) 3 5 := ⟨by decide +kernel, rfl⟩
theorem dX5_draw_5 : D1 cX5_draw 5 (.ldc 148) 2 7 := ⟨by decide +kernel, rfl⟩
theorem dX5_draw_7 : D1 cX5_draw 7 (.imul) 1 8 := ⟨by decide +kernel, rfl⟩
theorem dX5_draw_8 : D1 cX5_draw 8 (.sipush 12345) 3 11 := ⟨by decide +kernel, rfl⟩
theorem dX5_draw_11 : D1 cX5_draw 11 (.iadd) 1 12 := ⟨by decide +kernel, rfl⟩
theorem dX5_draw_12 : D1 cX5_draw 12 (.putfield 28) 3 15 := ⟨by decide +kernel, rfl⟩
theorem dX5_draw_15 : D1 cX5_draw 15 (.aload_n 0) 1 16 := ⟨by decide +kernel, rfl⟩
theorem dX5_draw_16 : D1 cX5_draw 16 (.getfield 28) 3 19 := ⟨by decide +kernel, rfl⟩
theorem dX5_draw_19 : D1 cX5_draw 19 (.bipush 8) 2 21 := ⟨by decide +kernel, rfl⟩
theorem dX5_draw_21 : D1 cX5_draw 21 (.iushr) 1 22 := ⟨by decide +kernel, rfl⟩
theorem dX5_draw_22 : D1 cX5_draw 22 (.ireturn) 1 23 := ⟨by decide +kernel, rfl⟩
theorem dX6_init_0 : D1 cX6_init 0 (.aload_n 0) 1 1 := ⟨by decide +kernel, rfl⟩
theorem dX6_init_1 : D1 cX6_init 1 (.invokespecial 1) 3 4 := ⟨by decide +kernel, rfl⟩
theorem dX6_init_4 : D1 cX6_init 4 (.aload_n 0) 1 5 := ⟨by decide +kernel, rfl⟩
theorem dX6_init_5 : D1 cX6_init 5 (.iconst (-1)) 1 6 := ⟨by decide +kernel, rfl⟩
theorem dX6_init_6 : D1 cX6_init 6 (.putfield 7) 3 9 := ⟨by decide +kernel, rfl⟩
theorem dX6_init_9 : D1 cX6_init 9 (.return_) 1 10 := ⟨by decide +kernel, rfl⟩
theorem dX6_givesUp_0 : D1 cX6_givesUp 0 (.aload_n 1) 1 1 := ⟨by decide +kernel, rfl⟩
theorem dX6_givesUp_1 : D1 cX6_givesUp 1 (.getfield 13) 3 4 := ⟨by decide +kernel, rfl⟩
theorem dX6_givesUp_4 : D1 cX6_givesUp 4 (.aload_n 0) 1 5 := ⟨by decide +kernel, rfl⟩
theorem dX6_givesUp_5 : D1 cX6_givesUp 5 (.getfield 7) 3 8 := ⟨by decide +kernel, rfl⟩
theorem dX6_givesUp_8 : DJ cX6_givesUp 8 (.if_icmp .gt) 11 15 := ⟨7, by decide +kernel, rfl, by decide⟩
theorem dX6_givesUp_11 : D1 cX6_givesUp 11 (.iconst 1) 1 12 := ⟨by decide +kernel, rfl⟩
theorem dX6_givesUp_12 : DJ cX6_givesUp 12 .goto 15 16 := ⟨4, by decide +kernel, rfl, by decide⟩
theorem dX6_givesUp_15 : D1 cX6_givesUp 15 (.iconst 0) 1 16 := ⟨by decide +kernel, rfl⟩
theorem dX6_givesUp_16 : D1 cX6_givesUp 16 (.ireturn) 1 17 := ⟨by decide +kernel, rfl⟩
theorem dX6_look_0 : D1 cX6_look 0 (.aload_n 1) 1 1 := ⟨by decide +kernel, rfl⟩
theorem dX6_look_1 : D1 cX6_look 1 (.getfield 13) 3 4 := ⟨by decide +kernel, rfl⟩
theorem dX6_look_4 : D1 cX6_look 4 (.aload_n 0) 1 5 := ⟨by decide +kernel, rfl⟩
theorem dX6_look_5 : D1 cX6_look 5 (.getfield 7) 3 8 := ⟨by decide +kernel, rfl⟩
theorem dX6_look_8 : DJ cX6_look 8 (.if_icmp .le) 11 24 := ⟨16, by decide +kernel, rfl, by decide⟩
theorem dX6_look_11 : D1 cX6_look 11 (.aload_n 0) 1 12 := ⟨by decide +kernel, rfl⟩
theorem dX6_look_12 : D1 cX6_look 12 (.aload_n 1) 1 13 := ⟨by decide +kernel, rfl⟩
theorem dX6_look_13 : D1 cX6_look 13 (.getfield 13) 3 16 := ⟨by decide +kernel, rfl⟩
theorem dX6_look_16 : D1 cX6_look 16 (.putfield 7) 3 19 := ⟨by decide +kernel, rfl⟩
theorem dX6_look_19 : D1 cX6_look 19 (.aload_n 0) 1 20 := ⟨by decide +kernel, rfl⟩
theorem dX6_look_20 : D1 cX6_look 20 (.iload_n 2) 1 21 := ⟨by decide +kernel, rfl⟩
theorem dX6_look_21 : D1 cX6_look 21 (.putfield 16) 3 24 := ⟨by decide +kernel, rfl⟩
theorem dX6_look_24 : D1 cX6_look 24 (.return_) 1 25 := ⟨by decide +kernel, rfl⟩
theorem dX7_init_0 : D1 cX7_init 0 (.aload_n 0) 1 1 := ⟨by decide +kernel, rfl⟩
theorem dX7_init_1 : D1 cX7_init 1 (.invokespecial 1) 3 4 := ⟨by decide +kernel, rfl⟩
theorem dX7_init_4 : D1 cX7_init 4 (.return_) 1 5 := ⟨by decide +kernel, rfl⟩
theorem dJ6_bitCount_0f7a4_0 : D1 cJ6_bitCount_0f7a4 0 (.iload_n 0) 1 1 := ⟨by decide +kernel, rfl⟩
theorem dJ6_bitCount_0f7a4_1 : D1 cJ6_bitCount_0f7a4 1 (.iload_n 0) 1 2 := ⟨by decide +kernel, rfl⟩
theorem dJ6_bitCount_0f7a4_2 : D1 cJ6_bitCount_0f7a4 2 (.iconst 1) 1 3 := ⟨by decide +kernel, rfl⟩
theorem dJ6_bitCount_0f7a4_3 : D1 cJ6_bitCount_0f7a4 3 (.iushr) 1 4 := ⟨by decide +kernel, rfl⟩
theorem dJ6_bitCount_0f7a4_4 : D1 cJ6_bitCount_0f7a4 4 (.ldc_w 265) 3 7 := ⟨by decide +kernel, rfl⟩
theorem dJ6_bitCount_0f7a4_7 : D1 cJ6_bitCount_0f7a4 7 (.iand) 1 8 := ⟨by decide +kernel, rfl⟩
theorem dJ6_bitCount_0f7a4_8 : D1 cJ6_bitCount_0f7a4 8 (.isub) 1 9 := ⟨by decide +kernel, rfl⟩
theorem dJ6_bitCount_0f7a4_9 : D1 cJ6_bitCount_0f7a4 9 (.istore_n 0) 1 10 := ⟨by decide +kernel, rfl⟩
theorem dJ6_bitCount_0f7a4_10 : D1 cJ6_bitCount_0f7a4 10 (.iload_n 0) 1 11 := ⟨by decide +kernel, rfl⟩
theorem dJ6_bitCount_0f7a4_11 : D1 cJ6_bitCount_0f7a4 11 (.ldc_w 266) 3 14 := ⟨by decide +kernel, rfl⟩
theorem dJ6_bitCount_0f7a4_14 : D1 cJ6_bitCount_0f7a4 14 (.iand) 1 15 := ⟨by decide +kernel, rfl⟩
theorem dJ6_bitCount_0f7a4_15 : D1 cJ6_bitCount_0f7a4 15 (.iload_n 0) 1 16 := ⟨by decide +kernel, rfl⟩
theorem dJ6_bitCount_0f7a4_16 : D1 cJ6_bitCount_0f7a4 16 (.iconst 2) 1 17 := ⟨by decide +kernel, rfl⟩
theorem dJ6_bitCount_0f7a4_17 : D1 cJ6_bitCount_0f7a4 17 (.iushr) 1 18 := ⟨by decide +kernel, rfl⟩
theorem dJ6_bitCount_0f7a4_18 : D1 cJ6_bitCount_0f7a4 18 (.ldc_w 266) 3 21 := ⟨by decide +kernel, rfl⟩
theorem dJ6_bitCount_0f7a4_21 : D1 cJ6_bitCount_0f7a4 21 (.iand) 1 22 := ⟨by decide +kernel, rfl⟩
theorem dJ6_bitCount_0f7a4_22 : D1 cJ6_bitCount_0f7a4 22 (.iadd) 1 23 := ⟨by decide +kernel, rfl⟩
theorem dJ6_bitCount_0f7a4_23 : D1 cJ6_bitCount_0f7a4 23 (.istore_n 0) 1 24 := ⟨by decide +kernel, rfl⟩
theorem dJ6_bitCount_0f7a4_24 : D1 cJ6_bitCount_0f7a4 24 (.iload_n 0) 1 25 := ⟨by decide +kernel, rfl⟩
theorem dJ6_bitCount_0f7a4_25 : D1 cJ6_bitCount_0f7a4 25 (.iload_n 0) 1 26 := ⟨by decide +kernel, rfl⟩
theorem dJ6_bitCount_0f7a4_26 : D1 cJ6_bitCount_0f7a4 26 (.iconst 4) 1 27 := ⟨by decide +kernel, rfl⟩
theorem dJ6_bitCount_0f7a4_27 : D1 cJ6_bitCount_0f7a4 27 (.iushr) 1 28 := ⟨by decide +kernel, rfl⟩
theorem dJ6_bitCount_0f7a4_28 : D1 cJ6_bitCount_0f7a4 28 (.iadd) 1 29 := ⟨by decide +kernel, rfl⟩
theorem dJ6_bitCount_0f7a4_29 : D1 cJ6_bitCount_0f7a4 29 (.ldc_w 267) 3 32 := ⟨by decide +kernel, rfl⟩
theorem dJ6_bitCount_0f7a4_32 : D1 cJ6_bitCount_0f7a4 32 (.iand) 1 33 := ⟨by decide +kernel, rfl⟩
theorem dJ6_bitCount_0f7a4_33 : D1 cJ6_bitCount_0f7a4 33 (.istore_n 0) 1 34 := ⟨by decide +kernel, rfl⟩
theorem dJ6_bitCount_0f7a4_34 : D1 cJ6_bitCount_0f7a4 34 (.iload_n 0) 1 35 := ⟨by decide +kernel, rfl⟩
theorem dJ6_bitCount_0f7a4_35 : D1 cJ6_bitCount_0f7a4 35 (.iload_n 0) 1 36 := ⟨by decide +kernel, rfl⟩
theorem dJ6_bitCount_0f7a4_36 : D1 cJ6_bitCount_0f7a4 36 (.bipush 8) 2 38 := ⟨by decide +kernel, rfl⟩
theorem dJ6_bitCount_0f7a4_38 : D1 cJ6_bitCount_0f7a4 38 (.iushr) 1 39 := ⟨by decide +kernel, rfl⟩
theorem dJ6_bitCount_0f7a4_39 : D1 cJ6_bitCount_0f7a4 39 (.iadd) 1 40 := ⟨by decide +kernel, rfl⟩
theorem dJ6_bitCount_0f7a4_40 : D1 cJ6_bitCount_0f7a4 40 (.istore_n 0) 1 41 := ⟨by decide +kernel, rfl⟩
theorem dJ6_bitCount_0f7a4_41 : D1 cJ6_bitCount_0f7a4 41 (.iload_n 0) 1 42 := ⟨by decide +kernel, rfl⟩
theorem dJ6_bitCount_0f7a4_42 : D1 cJ6_bitCount_0f7a4 42 (.iload_n 0) 1 43 := ⟨by decide +kernel, rfl⟩
theorem dJ6_bitCount_0f7a4_43 : D1 cJ6_bitCount_0f7a4 43 (.bipush 16) 2 45 := ⟨by decide +kernel, rfl⟩
theorem dJ6_bitCount_0f7a4_45 : D1 cJ6_bitCount_0f7a4 45 (.iushr) 1 46 := ⟨by decide +kernel, rfl⟩
theorem dJ6_bitCount_0f7a4_46 : D1 cJ6_bitCount_0f7a4 46 (.iadd) 1 47 := ⟨by decide +kernel, rfl⟩
theorem dJ6_bitCount_0f7a4_47 : D1 cJ6_bitCount_0f7a4 47 (.istore_n 0) 1 48 := ⟨by decide +kernel, rfl⟩
theorem dJ6_bitCount_0f7a4_48 : D1 cJ6_bitCount_0f7a4 48 (.iload_n 0) 1 49 := ⟨by decide +kernel, rfl⟩
theorem dJ6_bitCount_0f7a4_49 : D1 cJ6_bitCount_0f7a4 49 (.bipush 63) 2 51 := ⟨by decide +kernel, rfl⟩
theorem dJ6_bitCount_0f7a4_51 : D1 cJ6_bitCount_0f7a4 51 (.iand) 1 52 := ⟨by decide +kernel, rfl⟩
theorem dJ6_bitCount_0f7a4_52 : D1 cJ6_bitCount_0f7a4 52 (.ireturn) 1 53 := ⟨by decide +kernel, rfl⟩
theorem dJ9_max_7cf53_0 : D1 cJ9_max_7cf53 0 (.iload_n 0) 1 1 := ⟨by decide +kernel, rfl⟩
theorem dJ9_max_7cf53_1 : D1 cJ9_max_7cf53 1 (.iload_n 1) 1 2 := ⟨by decide +kernel, rfl⟩
theorem dJ9_max_7cf53_2 : DJ cJ9_max_7cf53 2 (.if_icmp .lt) 5 9 := ⟨7, by decide +kernel, rfl, by decide⟩
theorem dJ9_max_7cf53_5 : D1 cJ9_max_7cf53 5 (.iload_n 0) 1 6 := ⟨by decide +kernel, rfl⟩
theorem dJ9_max_7cf53_6 : DJ cJ9_max_7cf53 6 .goto 9 10 := ⟨4, by decide +kernel, rfl, by decide⟩
theorem dJ9_max_7cf53_9 : D1 cJ9_max_7cf53 9 (.iload_n 1) 1 10 := ⟨by decide +kernel, rfl⟩
theorem dJ9_max_7cf53_10 : D1 cJ9_max_7cf53 10 (.ireturn) 1 11 := ⟨by decide +kernel, rfl⟩
theorem dJ9_min_7cf53_0 : D1 cJ9_min_7cf53 0 (.iload_n 0) 1 1 := ⟨by decide +kernel, rfl⟩
theorem dJ9_min_7cf53_1 : D1 cJ9_min_7cf53 1 (.iload_n 1) 1 2 := ⟨by decide +kernel, rfl⟩
theorem dJ9_min_7cf53_2 : DJ cJ9_min_7cf53 2 (.if_icmp .gt) 5 9 := ⟨7, by decide +kernel, rfl, by decide⟩
theorem dJ9_min_7cf53_5 : D1 cJ9_min_7cf53 5 (.iload_n 0) 1 6 := ⟨by decide +kernel, rfl⟩
theorem dJ9_min_7cf53_6 : DJ cJ9_min_7cf53 6 .goto 9 10 := ⟨4, by decide +kernel, rfl, by decide⟩
theorem dJ9_min_7cf53_9 : D1 cJ9_min_7cf53 9 (.iload_n 1) 1 10 := ⟨by decide +kernel, rfl⟩
theorem dJ9_min_7cf53_10 : D1 cJ9_min_7cf53 10 (.ireturn) 1 11 := ⟨by decide +kernel, rfl⟩
theorem dJ0_length_8abf5_0 : D1 cJ0_length_8abf5 0 (.aload_n 0) 1 1 := ⟨by decide +kernel, rfl⟩
theorem dJ0_length_8abf5_1 : D1 cJ0_length_8abf5 1 (.getfield 9) 3 4 := ⟨by decide +kernel, rfl⟩
theorem dJ0_length_8abf5_4 : D1 cJ0_length_8abf5 4 (.arraylength) 1 5 := ⟨by decide +kernel, rfl⟩
theorem dJ0_length_8abf5_5 : D1 cJ0_length_8abf5 5 (.aload_n 0) 1 6 := ⟨by decide +kernel, rfl⟩
theorem dJ0_length_8abf5_6 : D1 cJ0_length_8abf5 6 (.invokevirtual 335) 3 9 := ⟨by decide +kernel, rfl⟩
theorem dJ0_length_8abf5_9 : D1 cJ0_length_8abf5 9 (.ishr) 1 10 := ⟨by decide +kernel, rfl⟩
theorem dJ0_length_8abf5_10 : D1 cJ0_length_8abf5 10 (.ireturn) 1 11 := ⟨by decide +kernel, rfl⟩
theorem dJ0_charAt_5068e_0 : D1 cJ0_charAt_5068e 0 (.aload_n 0) 1 1 := ⟨by decide +kernel, rfl⟩
theorem dJ0_charAt_5068e_1 : D1 cJ0_charAt_5068e 1 (.invokevirtual 492) 3 4 := ⟨by decide +kernel, rfl⟩
theorem dJ0_charAt_5068e_4 : DJ cJ0_charAt_5068e 4 (.ifCond .eq) 7 16 := ⟨12, by decide +kernel, rfl, by decide⟩
theorem dJ0_charAt_5068e_7 : D1 cJ0_charAt_5068e 7 (.aload_n 0) 1 8 := ⟨by decide +kernel, rfl⟩
theorem dJ0_charAt_5068e_8 : D1 cJ0_charAt_5068e 8 (.getfield 9) 3 11 := ⟨by decide +kernel, rfl⟩
theorem dJ0_charAt_5068e_11 : D1 cJ0_charAt_5068e 11 (.iload_n 1) 1 12 := ⟨by decide +kernel, rfl⟩
theorem dJ0_charAt_5068e_12 : D1 cJ0_charAt_5068e 12 (.invokestatic 495) 3 15 := ⟨by decide +kernel, rfl⟩
theorem dJ0_charAt_5068e_15 : D1 cJ0_charAt_5068e 15 (.ireturn) 1 16 := ⟨by decide +kernel, rfl⟩
theorem dJ0_charAt_5068e_16 : D1 cJ0_charAt_5068e 16 (.aload_n 0) 1 17 := ⟨by decide +kernel, rfl⟩
theorem dJ0_charAt_5068e_17 : D1 cJ0_charAt_5068e 17 (.getfield 9) 3 20 := ⟨by decide +kernel, rfl⟩
theorem dJ0_charAt_5068e_20 : D1 cJ0_charAt_5068e 20 (.iload_n 1) 1 21 := ⟨by decide +kernel, rfl⟩
theorem dJ0_charAt_5068e_21 : D1 cJ0_charAt_5068e 21 (.invokestatic 498) 3 24 := ⟨by decide +kernel, rfl⟩
theorem dJ0_charAt_5068e_24 : D1 cJ0_charAt_5068e 24 (.ireturn) 1 25 := ⟨by decide +kernel, rfl⟩
theorem dJ0_coder_7d493_0 : D1 cJ0_coder_7d493 0 (.getstatic 38) 3 3 := ⟨by decide +kernel, rfl⟩
theorem dJ0_coder_7d493_3 : DJ cJ0_coder_7d493 3 (.ifCond .eq) 6 13 := ⟨10, by decide +kernel, rfl, by decide⟩
theorem dJ0_coder_7d493_6 : D1 cJ0_coder_7d493 6 (.aload_n 0) 1 7 := ⟨by decide +kernel, rfl⟩
theorem dJ0_coder_7d493_7 : D1 cJ0_coder_7d493 7 (.getfield 15) 3 10 := ⟨by decide +kernel, rfl⟩
theorem dJ0_coder_7d493_10 : DJ cJ0_coder_7d493 10 .goto 13 14 := ⟨4, by decide +kernel, rfl, by decide⟩
theorem dJ0_coder_7d493_13 : D1 cJ0_coder_7d493 13 (.iconst 1) 1 14 := ⟨by decide +kernel, rfl⟩
theorem dJ0_coder_7d493_14 : D1 cJ0_coder_7d493 14 (.ireturn) 1 15 := ⟨by decide +kernel, rfl⟩
theorem dJ0_isLatin1_aae02_0 : D1 cJ0_isLatin1_aae02 0 (.getstatic 38) 3 3 := ⟨by decide +kernel, rfl⟩
theorem dJ0_isLatin1_aae02_3 : DJ cJ0_isLatin1_aae02 3 (.ifCond .eq) 6 17 := ⟨14, by decide +kernel, rfl, by decide⟩
theorem dJ0_isLatin1_aae02_6 : D1 cJ0_isLatin1_aae02 6 (.aload_n 0) 1 7 := ⟨by decide +kernel, rfl⟩
theorem dJ0_isLatin1_aae02_7 : D1 cJ0_isLatin1_aae02 7 (.getfield 15) 3 10 := ⟨by decide +kernel, rfl⟩
theorem dJ0_isLatin1_aae02_10 : DJ cJ0_isLatin1_aae02 10 (.ifCond .ne) 13 17 := ⟨7, by decide +kernel, rfl, by decide⟩
theorem dJ0_isLatin1_aae02_13 : D1 cJ0_isLatin1_aae02 13 (.iconst 1) 1 14 := ⟨by decide +kernel, rfl⟩
theorem dJ0_isLatin1_aae02_14 : DJ cJ0_isLatin1_aae02 14 .goto 17 18 := ⟨4, by decide +kernel, rfl, by decide⟩
theorem dJ0_isLatin1_aae02_17 : D1 cJ0_isLatin1_aae02 17 (.iconst 0) 1 18 := ⟨by decide +kernel, rfl⟩
theorem dJ0_isLatin1_aae02_18 : D1 cJ0_isLatin1_aae02 18 (.ireturn) 1 19 := ⟨by decide +kernel, rfl⟩
theorem dJ0_checkIndex_df160_0 : D1 cJ0_checkIndex_df160 0 (.iload_n 0) 1 1 := ⟨by decide +kernel, rfl⟩
theorem dJ0_checkIndex_df160_1 : D1 cJ0_checkIndex_df160 1 (.iload_n 1) 1 2 := ⟨by decide +kernel, rfl⟩
theorem dJ0_checkIndex_df160_2 : D1 cJ0_checkIndex_df160 2 (.getstatic 1053) 3 5 := ⟨by decide +kernel, rfl⟩
theorem dJ0_checkIndex_df160_5 : D1 cJ0_checkIndex_df160 5 (.invokestatic 1059) 3 8 := ⟨by decide +kernel, rfl⟩
theorem dJ0_checkIndex_df160_8 : D1 cJ0_checkIndex_df160 8 (.pop) 1 9 := ⟨by decide +kernel, rfl⟩
theorem dJ0_checkIndex_df160_9 : D1 cJ0_checkIndex_df160 9 (.return_) 1 10 := ⟨by decide +kernel, rfl⟩
theorem dJ1_charAt_3b067_0 : D1 cJ1_charAt_3b067 0 (.iload_n 1) 1 1 := ⟨by decide +kernel, rfl⟩
theorem dJ1_charAt_3b067_1 : D1 cJ1_charAt_3b067 1 (.aload_n 0) 1 2 := ⟨by decide +kernel, rfl⟩
theorem dJ1_charAt_3b067_2 : D1 cJ1_charAt_3b067 2 (.arraylength) 1 3 := ⟨by decide +kernel, rfl⟩
theorem dJ1_charAt_3b067_3 : D1 cJ1_charAt_3b067 3 (.invokestatic 9) 3 6 := ⟨by decide +kernel, rfl⟩
theorem dJ1_charAt_3b067_6 : D1 cJ1_charAt_3b067 6 (.aload_n 0) 1 7 := ⟨by decide +kernel, rfl⟩
theorem dJ1_charAt_3b067_7 : D1 cJ1_charAt_3b067 7 (.iload_n 1) 1 8 := ⟨by decide +kernel, rfl⟩
theorem dJ1_charAt_3b067_8 : D1 cJ1_charAt_3b067 8 (.baload) 1 9 := ⟨by decide +kernel, rfl⟩
theorem dJ1_charAt_3b067_9 : D1 cJ1_charAt_3b067 9 (.sipush 255) 3 12 := ⟨by decide +kernel, rfl⟩
theorem dJ1_charAt_3b067_12 : D1 cJ1_charAt_3b067 12 (.iand) 1 13 := ⟨by decide +kernel, rfl⟩
theorem dJ1_charAt_3b067_13 : D1 cJ1_charAt_3b067 13 (.i2c) 1 14 := ⟨by decide +kernel, rfl⟩
theorem dJ1_charAt_3b067_14 : D1 cJ1_charAt_3b067 14 (.ireturn) 1 15 := ⟨by decide +kernel, rfl⟩
theorem dJ2_getChar_3b067_0 : D1 cJ2_getChar_3b067 0 (.getstatic 44) 3 3 := ⟨by decide +kernel, rfl⟩
theorem dJ2_getChar_3b067_3 : DJ cJ2_getChar_3b067 3 (.ifCond .ne) 6 28 := ⟨25, by decide +kernel, rfl, by decide⟩
theorem dJ2_getChar_3b067_6 : D1 cJ2_getChar_3b067 6 (.iload_n 1) 1 7 := ⟨by decide +kernel, rfl⟩
theorem dJ2_getChar_3b067_7 : DJ cJ2_getChar_3b067 7 (.ifCond .lt) 10 18 := ⟨11, by decide +kernel, rfl, by decide⟩
theorem dJ2_getChar_3b067_10 : D1 cJ2_getChar_3b067 10 (.iload_n 1) 1 11 := ⟨by decide +kernel, rfl⟩
theorem dJ2_getChar_3b067_11 : D1 cJ2_getChar_3b067 11 (.aload_n 0) 1 12 := ⟨by decide +kernel, rfl⟩
theorem dJ2_getChar_3b067_12 : D1 cJ2_getChar_3b067 12 (.invokestatic 48) 3 15 := ⟨by decide +kernel, rfl⟩
theorem dJ2_getChar_3b067_15 : DJ cJ2_getChar_3b067 15 (.if_icmp .lt) 18 28 := ⟨13, by decide +kernel, rfl, by decide⟩
theorem dJ2_getChar_3b067_18 : D1 cJ2_getChar_3b067 18 (.new 52) 3 21 := ⟨by decide +kernel, rfl⟩
theorem dJ2_getChar_3b067_21 : D1 cJ2_getChar_3b067 21 (.dup) 1 22 := ⟨by decide +kernel, rfl⟩
theorem dJ2_getChar_3b067_22 : D1 cJ2_getChar_3b067 22 (.ldc 54) 2 24 := ⟨by decide +kernel, rfl⟩
theorem dJ2_getChar_3b067_24 : D1 cJ2_getChar_3b067 24 (.invokespecial 56) 3 27 := ⟨by decide +kernel, rfl⟩
theorem dJ2_getChar_3b067_27 : D1 cJ2_getChar_3b067 27 (.athrow) 1 28 := ⟨by decide +kernel, rfl⟩
theorem dJ2_getChar_3b067_28 : D1 cJ2_getChar_3b067 28 (.iload_n 1) 1 29 := ⟨by decide +kernel, rfl⟩
theorem dJ2_getChar_3b067_29 : D1 cJ2_getChar_3b067 29 (.iconst 1) 1 30 := ⟨by decide +kernel, rfl⟩
theorem dJ2_getChar_3b067_30 : D1 cJ2_getChar_3b067 30 (.ishl) 1 31 := ⟨by decide +kernel, rfl⟩
theorem dJ2_getChar_3b067_31 : D1 cJ2_getChar_3b067 31 (.istore_n 1) 1 32 := ⟨by decide +kernel, rfl⟩
theorem dJ2_getChar_3b067_32 : D1 cJ2_getChar_3b067 32 (.aload_n 0) 1 33 := ⟨by decide +kernel, rfl⟩
theorem dJ2_getChar_3b067_33 : D1 cJ2_getChar_3b067 33 (.iload_n 1) 1 34 := ⟨by decide +kernel, rfl⟩
theorem dJ2_getChar_3b067_34 : D1 cJ2_getChar_3b067 34 (.iinc 1 1) 3 37 := ⟨by decide +kernel, rfl⟩
theorem dJ2_getChar_3b067_37 : D1 cJ2_getChar_3b067 37 (.baload) 1 38 := ⟨by decide +kernel, rfl⟩
theorem dJ2_getChar_3b067_38 : D1 cJ2_getChar_3b067 38 (.sipush 255) 3 41 := ⟨by decide +kernel, rfl⟩
theorem dJ2_getChar_3b067_41 : D1 cJ2_getChar_3b067 41 (.iand) 1 42 := ⟨by decide +kernel, rfl⟩
theorem dJ2_getChar_3b067_42 : D1 cJ2_getChar_3b067 42 (.getstatic 59) 3 45 := ⟨by decide +kernel, rfl⟩
theorem dJ2_getChar_3b067_45 : D1 cJ2_getChar_3b067 45 (.ishl) 1 46 := ⟨by decide +kernel, rfl⟩
theorem dJ2_getChar_3b067_46 : D1 cJ2_getChar_3b067 46 (.aload_n 0) 1 47 := ⟨by decide +kernel, rfl⟩
theorem dJ2_getChar_3b067_47 : D1 cJ2_getChar_3b067 47 (.iload_n 1) 1 48 := ⟨by decide +kernel, rfl⟩
theorem dJ2_getChar_3b067_48 : D1 cJ2_getChar_3b067 48 (.baload) 1 49 := ⟨by decide +kernel, rfl⟩
theorem dJ2_getChar_3b067_49 : D1 cJ2_getChar_3b067 49 (.sipush 255) 3 52 := ⟨by decide +kernel, rfl⟩
theorem dJ2_getChar_3b067_52 : D1 cJ2_getChar_3b067 52 (.iand) 1 53 := ⟨by decide +kernel, rfl⟩
theorem dJ2_getChar_3b067_53 : D1 cJ2_getChar_3b067 53 (.getstatic 63) 3 56 := ⟨by decide +kernel, rfl⟩
theorem dJ2_getChar_3b067_56 : D1 cJ2_getChar_3b067 56 (.ishl) 1 57 := ⟨by decide +kernel, rfl⟩
theorem dJ2_getChar_3b067_57 : D1 cJ2_getChar_3b067 57 (.ior) 1 58 := ⟨by decide +kernel, rfl⟩
theorem dJ2_getChar_3b067_58 : D1 cJ2_getChar_3b067 58 (.i2c) 1 59 := ⟨by decide +kernel, rfl⟩
theorem dJ2_getChar_3b067_59 : D1 cJ2_getChar_3b067 59 (.ireturn) 1 60 := ⟨by decide +kernel, rfl⟩
theorem dJ2_length_9d52b_0 : D1 cJ2_length_9d52b 0 (.aload_n 0) 1 1 := ⟨by decide +kernel, rfl⟩
theorem dJ2_length_9d52b_1 : D1 cJ2_length_9d52b 1 (.arraylength) 1 2 := ⟨by decide +kernel, rfl⟩
theorem dJ2_length_9d52b_2 : D1 cJ2_length_9d52b 2 (.iconst 1) 1 3 := ⟨by decide +kernel, rfl⟩
theorem dJ2_length_9d52b_3 : D1 cJ2_length_9d52b 3 (.ishr) 1 4 := ⟨by decide +kernel, rfl⟩
theorem dJ2_length_9d52b_4 : D1 cJ2_length_9d52b 4 (.ireturn) 1 5 := ⟨by decide +kernel, rfl⟩
theorem dJ2_charAt_3b067_0 : D1 cJ2_charAt_3b067 0 (.iload_n 1) 1 1 := ⟨by decide +kernel, rfl⟩
theorem dJ2_charAt_3b067_1 : D1 cJ2_charAt_3b067 1 (.aload_n 0) 1 2 := ⟨by decide +kernel, rfl⟩
theorem dJ2_charAt_3b067_2 : D1 cJ2_charAt_3b067 2 (.invokestatic 67) 3 5 := ⟨by decide +kernel, rfl⟩
theorem dJ2_charAt_3b067_5 : D1 cJ2_charAt_3b067 5 (.aload_n 0) 1 6 := ⟨by decide +kernel, rfl⟩
theorem dJ2_charAt_3b067_6 : D1 cJ2_charAt_3b067 6 (.iload_n 1) 1 7 := ⟨by decide +kernel, rfl⟩
theorem dJ2_charAt_3b067_7 : D1 cJ2_charAt_3b067 7 (.invokestatic 71) 3 10 := ⟨by decide +kernel, rfl⟩
theorem dJ2_charAt_3b067_10 : D1 cJ2_charAt_3b067 10 (.ireturn) 1 11 := ⟨by decide +kernel, rfl⟩
theorem dJ2_checkIndex_2214a_0 : D1 cJ2_checkIndex_2214a 0 (.iload_n 0) 1 1 := ⟨by decide +kernel, rfl⟩
theorem dJ2_checkIndex_2214a_1 : D1 cJ2_checkIndex_2214a 1 (.aload_n 1) 1 2 := ⟨by decide +kernel, rfl⟩
theorem dJ2_checkIndex_2214a_2 : D1 cJ2_checkIndex_2214a 2 (.invokestatic 48) 3 5 := ⟨by decide +kernel, rfl⟩
theorem dJ2_checkIndex_2214a_5 : D1 cJ2_checkIndex_2214a 5 (.invokestatic 414) 3 8 := ⟨by decide +kernel, rfl⟩
theorem dJ2_checkIndex_2214a_8 : D1 cJ2_checkIndex_2214a 8 (.return_) 1 9 := ⟨by decide +kernel, rfl⟩
theorem dJ3_checkIndex_8e157_0 : D1 cJ3_checkIndex_8e157 0 (.iload_n 0) 1 1 := ⟨by decide +kernel, rfl⟩
theorem dJ3_checkIndex_8e157_1 : DJ cJ3_checkIndex_8e157 1 (.ifCond .lt) 4 9 := ⟨8, by decide +kernel, rfl, by decide⟩
theorem dJ3_checkIndex_8e157_4 : D1 cJ3_checkIndex_8e157 4 (.iload_n 0) 1 5 := ⟨by decide +kernel, rfl⟩
theorem dJ3_checkIndex_8e157_5 : D1 cJ3_checkIndex_8e157 5 (.iload_n 1) 1 6 := ⟨by decide +kernel, rfl⟩
theorem dJ3_checkIndex_8e157_6 : DJ cJ3_checkIndex_8e157 6 (.if_icmp .lt) 9 16 := ⟨10, by decide +kernel, rfl, by decide⟩
theorem dJ3_checkIndex_8e157_9 : D1 cJ3_checkIndex_8e157 9 (.aload_n 2) 1 10 := ⟨by decide +kernel, rfl⟩
theorem dJ3_checkIndex_8e157_10 : D1 cJ3_checkIndex_8e157 10 (.iload_n 0) 1 11 := ⟨by decide +kernel, rfl⟩
theorem dJ3_checkIndex_8e157_11 : D1 cJ3_checkIndex_8e157 11 (.iload_n 1) 1 12 := ⟨by decide +kernel, rfl⟩
theorem dJ3_checkIndex_8e157_12 : D1 cJ3_checkIndex_8e157 12 (.invokestatic 95) 3 15 := ⟨by decide +kernel, rfl⟩
theorem dJ3_checkIndex_8e157_15 : D1 cJ3_checkIndex_8e157 15 (.athrow) 1 16 := ⟨by decide +kernel, rfl⟩
theorem dJ3_checkIndex_8e157_16 : D1 cJ3_checkIndex_8e157 16 (.iload_n 0) 1 17 := ⟨by decide +kernel, rfl⟩
theorem dJ3_checkIndex_8e157_17 : D1 cJ3_checkIndex_8e157 17 (.ireturn) 1 18 := ⟨by decide +kernel, rfl⟩
end
section
theorem dX8_init_0 : D1 cX8_init 0 (.aload_n 0) 1 1 := ⟨by decide +kernel, rfl⟩
theorem dX8_init_1 : D1 cX8_init 1 (.invokespecial 1) 3 4 := ⟨by decide +kernel, rfl⟩
theorem dX8_init_4 : D1 cX8_init 4 (.aload_n 0) 1 5 := ⟨by decide +kernel, rfl⟩
theorem dX8_init_5 : D1 cX8_init 5 (.new 7) 3 8 := ⟨by decide +kernel, rfl⟩
theorem dX8_init_8 : D1 cX8_init 8 (.dup) 1 9 := ⟨by decide +kernel, rfl⟩
theorem dX8_init_9 : D1 cX8_init 9 (.invokespecial 9) 3 12 := ⟨by decide +kernel, rfl⟩
theorem dX8_init_12 : D1 cX8_init 12 (.putfield 10) 3 15 := ⟨by decide +kernel, rfl⟩
theorem dX8_init_15 : D1 cX8_init 15 (.aload_n 0) 1 16 := ⟨by decide +kernel, rfl⟩
theorem dX8_init_16 : D1 cX8_init 16 (.new 7) 3 19 := ⟨by decide +kernel, rfl⟩
theorem dX8_init_19 : D1 cX8_init 19 (.dup) 1 20 := ⟨by decide +kernel, rfl⟩
theorem dX8_init_20 : D1 cX8_init 20 (.invokespecial 9) 3 23 := ⟨by decide +kernel, rfl⟩
theorem dX8_init_23 : D1 cX8_init 23 (.putfield 16) 3 26 := ⟨by decide +kernel, rfl⟩
theorem dX8_init_26 : D1 cX8_init 26 (.aload_n 0) 1 27 := ⟨by decide +kernel, rfl⟩
theorem dX8_init_27 : D1 cX8_init 27 (.new 7) 3 30 := ⟨by decide +kernel, rfl⟩
theorem dX8_init_30 : D1 cX8_init 30 (.dup) 1 31 := ⟨by decide +kernel, rfl⟩
theorem dX8_init_31 : D1 cX8_init 31 (.invokespecial 9) 3 34 := ⟨by decide +kernel, rfl⟩
theorem dX8_init_34 : D1 cX8_init 34 (.putfield 19) 3 37 := ⟨by decide +kernel, rfl⟩
theorem dX8_init_37 : D1 cX8_init 37 (.aload_n 0) 1 38 := ⟨by decide +kernel, rfl⟩
theorem dX8_init_38 : D1 cX8_init 38 (.new 7) 3 41 := ⟨by decide +kernel, rfl⟩
theorem dX8_init_41 : D1 cX8_init 41 (.dup) 1 42 := ⟨by decide +kernel, rfl⟩
theorem dX8_init_42 : D1 cX8_init 42 (.invokespecial 9) 3 45 := ⟨by decide +kernel, rfl⟩
theorem dX8_init_45 : D1 cX8_init 45 (.putfield 22) 3 48 := ⟨by decide +kernel, rfl⟩
theorem dX8_init_48 : D1 cX8_init 48 (.aload_n 0) 1 49 := ⟨by decide +kernel, rfl⟩
theorem dX8_init_49 : D1 cX8_init 49 (.new 7) 3 52 := ⟨by decide +kernel, rfl⟩
theorem dX8_init_52 : D1 cX8_init 52 (.dup) 1 53 := ⟨by decide +kernel, rfl⟩
theorem dX8_init_53 : D1 cX8_init 53 (.invokespecial 9) 3 56 := ⟨by decide +kernel, rfl⟩
theorem dX8_init_56 : D1 cX8_init 56 (.putfield 25) 3 59 := ⟨by decide +kernel, rfl⟩
theorem dX8_init_59 : D1 cX8_init 59 (.aload_n 0) 1 60 := ⟨by decide +kernel, rfl⟩
theorem dX8_init_60 : D1 cX8_init 60 (.iconst 4) 1 61 := ⟨by decide +kernel, rfl⟩
theorem dX8_init_61 : D1 cX8_init 61 (.anewarray 28) 3 64 := ⟨by decide +kernel, rfl⟩
theorem dX8_init_64 : D1 cX8_init 64 (.putfield 30) 3 67 := ⟨by decide +kernel, rfl⟩
theorem dX8_init_67 : D1 cX8_init 67 (.aload_n 0) 1 68 := ⟨by decide +kernel, rfl⟩
theorem dX8_init_68 : D1 cX8_init 68 (.bipush 7) 2 70 := ⟨by decide +kernel, rfl⟩
theorem dX8_init_70 : D1 cX8_init 70 (.newarray .int) 2 72 := ⟨by decide +kernel, rfl⟩
theorem dX8_init_72 : D1 cX8_init 72 (.putfield 34) 3 75 := ⟨by decide +kernel, rfl⟩
theorem dX8_init_75 : D1 cX8_init 75 (.aload_n 0) 1 76 := ⟨by decide +kernel, rfl⟩
theorem dX8_init_76 : D1 cX8_init 76 (.bipush 120) 2 78 := ⟨by decide +kernel, rfl⟩
theorem dX8_init_78 : D1 cX8_init 78 (.newarray .int) 2 80 := ⟨by decide +kernel, rfl⟩
theorem dX8_init_80 : D1 cX8_init 80 (.putfield 38) 3 83 := ⟨by decide +kernel, rfl⟩
theorem dX8_init_83 : D1 cX8_init 83 (.aload_n 0) 1 84 := ⟨by decide +kernel, rfl⟩
theorem dX8_init_84 : D1 cX8_init 84 (.new 41) 3 87 := ⟨by decide +kernel, rfl⟩
theorem dX8_init_87 : D1 cX8_init 87 (.dup) 1 88 := ⟨by decide +kernel, rfl⟩
theorem dX8_init_88 : D1 cX8_init 88 (.aload_n 0) 1 89 := ⟨by decide +kernel, rfl⟩
theorem dX8_init_89 : D1 cX8_init 89 (.getfield 38) 3 92 := ⟨by decide +kernel, rfl⟩
theorem dX8_init_92 : D1 cX8_init 92 (.aload_n 0) 1 93 := ⟨by decide +kernel, rfl⟩
theorem dX8_init_93 : D1 cX8_init 93 (.getfield 19) 3 96 := ⟨by decide +kernel, rfl⟩
theorem dX8_init_96 : D1 cX8_init 96 (.invokespecial 43) 3 99 := ⟨by decide +kernel, rfl⟩
theorem dX8_init_99 : D1 cX8_init 99 (.putfield 46) 3 102 := ⟨by decide +kernel, rfl⟩
theorem dX8_init_102 : D1 cX8_init 102 (.iconst 0) 1 103 := ⟨by decide +kernel, rfl⟩
theorem dX8_init_103 : D1 cX8_init 103 (.istore_n 1) 1 104 := ⟨by decide +kernel, rfl⟩
theorem dX8_init_104 : D1 cX8_init 104 (.iload_n 1) 1 105 := ⟨by decide +kernel, rfl⟩
theorem dX8_init_105 : D1 cX8_init 105 (.aload_n 0) 1 106 := ⟨by decide +kernel, rfl⟩
theorem dX8_init_106 : D1 cX8_init 106 (.getfield 30) 3 109 := ⟨by decide +kernel, rfl⟩
theorem dX8_init_109 : D1 cX8_init 109 (.arraylength) 1 110 := ⟨by decide +kernel, rfl⟩
theorem dX8_init_110 : DJ cX8_init 110 (.if_icmp .ge) 113 132 := ⟨22, by decide +kernel, rfl, by decide⟩
theorem dX8_init_113 : D1 cX8_init 113 (.aload_n 0) 1 114 := ⟨by decide +kernel, rfl⟩
theorem dX8_init_114 : D1 cX8_init 114 (.getfield 30) 3 117 := ⟨by decide +kernel, rfl⟩
theorem dX8_init_117 : D1 cX8_init 117 (.iload_n 1) 1 118 := ⟨by decide +kernel, rfl⟩
theorem dX8_init_118 : D1 cX8_init 118 (.new 28) 3 121 := ⟨by decide +kernel, rfl⟩
theorem dX8_init_121 : D1 cX8_init 121 (.dup) 1 122 := ⟨by decide +kernel, rfl⟩
theorem dX8_init_122 : D1 cX8_init 122 (.invokespecial 50) 3 125 := ⟨by decide +kernel, rfl⟩
theorem dX8_init_125 : D1 cX8_init 125 (.aastore) 1 126 := ⟨by decide +kernel, rfl⟩
theorem dX8_init_126 : D1 cX8_init 126 (.iinc 1 1) 3 129 := ⟨by decide +kernel, rfl⟩
theorem dX8_init_129 : DJ cX8_init 129 .goto 132 104 := ⟨(-25), by decide +kernel, rfl, by decide⟩
theorem dX8_init_132 : D1 cX8_init 132 (.return_) 1 133 := ⟨by decide +kernel, rfl⟩
theorem dX8_house_0 : D1 cX8_house 0 (.iload_n 1) 1 1 := ⟨by decide +kernel, rfl⟩
theorem dX8_house_1 : D1 cX8_house 1 (.iconst 0) 1 2 := ⟨by decide +kernel, rfl⟩
theorem dX8_house_2 : D1 cX8_house 2 (.bipush 6) 2 4 := ⟨by decide +kernel, rfl⟩
theorem dX8_house_4 : D1 cX8_house 4 (.invokestatic 51) 3 7 := ⟨by decide +kernel, rfl⟩
theorem dX8_house_7 : DJ cX8_house 7 (.ifCond .ne) 10 16 := ⟨9, by decide +kernel, rfl, by decide⟩
theorem dX8_house_10 : D1 cX8_house 10 (.aload_n 0) 1 11 := ⟨by decide +kernel, rfl⟩
theorem dX8_house_11 : D1 cX8_house 11 (.iconst 0) 1 12 := ⟨by decide +kernel, rfl⟩
theorem dX8_house_12 : D1 cX8_house 12 (.invokevirtual 55) 3 15 := ⟨by decide +kernel, rfl⟩
theorem dX8_house_15 : D1 cX8_house 15 (.ireturn) 1 16 := ⟨by decide +kernel, rfl⟩
theorem dX8_house_16 : D1 cX8_house 16 (.aload_n 0) 1 17 := ⟨by decide +kernel, rfl⟩
theorem dX8_house_17 : D1 cX8_house 17 (.getfield 10) 3 20 := ⟨by decide +kernel, rfl⟩
theorem dX8_house_20 : D1 cX8_house 20 (.getfield 59) 3 23 := ⟨by decide +kernel, rfl⟩
theorem dX8_house_23 : D1 cX8_house 23 (.bipush 8) 2 25 := ⟨by decide +kernel, rfl⟩
theorem dX8_house_25 : DJ cX8_house 25 (.if_icmp .lt) 28 34 := ⟨9, by decide +kernel, rfl, by decide⟩
theorem dX8_house_28 : D1 cX8_house 28 (.aload_n 0) 1 29 := ⟨by decide +kernel, rfl⟩
theorem dX8_house_29 : D1 cX8_house 29 (.iconst 1) 1 30 := ⟨by decide +kernel, rfl⟩
theorem dX8_house_30 : D1 cX8_house 30 (.invokevirtual 55) 3 33 := ⟨by decide +kernel, rfl⟩
theorem dX8_house_33 : D1 cX8_house 33 (.ireturn) 1 34 := ⟨by decide +kernel, rfl⟩
theorem dX8_house_34 : D1 cX8_house 34 (.aload_n 0) 1 35 := ⟨by decide +kernel, rfl⟩
theorem dX8_house_35 : D1 cX8_house 35 (.getfield 10) 3 38 := ⟨by decide +kernel, rfl⟩
theorem dX8_house_38 : D1 cX8_house 38 (.iload_n 1) 1 39 := ⟨by decide +kernel, rfl⟩
theorem dX8_house_39 : D1 cX8_house 39 (.invokevirtual 63) 3 42 := ⟨by decide +kernel, rfl⟩
theorem dX8_house_42 : D1 cX8_house 42 (.pop) 1 43 := ⟨by decide +kernel, rfl⟩
theorem dX8_house_43 : D1 cX8_house 43 (.aload_n 0) 1 44 := ⟨by decide +kernel, rfl⟩
theorem dX8_house_44 : D1 cX8_house 44 (.getfield 10) 3 47 := ⟨by decide +kernel, rfl⟩
theorem dX8_house_47 : D1 cX8_house 47 (.getfield 59) 3 50 := ⟨by decide +kernel, rfl⟩
theorem dX8_house_50 : D1 cX8_house 50 (.iconst 1) 1 51 := ⟨by decide +kernel, rfl⟩
theorem dX8_house_51 : D1 cX8_house 51 (.isub) 1 52 := ⟨by decide +kernel, rfl⟩
theorem dX8_house_52 : D1 cX8_house 52 (.ireturn) 1 53 := ⟨by decide +kernel, rfl⟩
theorem dX8_of_0 : D1 cX8_of 0 (.aload_n 0) 1 1 := ⟨by decide +kernel, rfl⟩
theorem dX8_of_1 : D1 cX8_of 1 (.getfield 10) 3 4 := ⟨by decide +kernel, rfl⟩
theorem dX8_of_4 : D1 cX8_of 4 (.iload_n 1) 1 5 := ⟨by decide +kernel, rfl⟩
theorem dX8_of_5 : D1 cX8_of 5 (.invokevirtual 67) 3 8 := ⟨by decide +kernel, rfl⟩
theorem dX8_of_8 : D1 cX8_of 8 (.astore_n 3) 1 9 := ⟨by decide +kernel, rfl⟩
theorem dX8_of_9 : D1 cX8_of 9 (.aload_n 3) 1 10 := ⟨by decide +kernel, rfl⟩
theorem dX8_of_10 : DJ cX8_of 10 .ifnull 13 23 := ⟨13, by decide +kernel, rfl, by decide⟩
theorem dX8_of_13 : D1 cX8_of 13 (.iload_n 2) 1 14 := ⟨by decide +kernel, rfl⟩
theorem dX8_of_14 : D1 cX8_of 14 (.iconst 0) 1 15 := ⟨by decide +kernel, rfl⟩
theorem dX8_of_15 : D1 cX8_of 15 (.bipush 8) 2 17 := ⟨by decide +kernel, rfl⟩
theorem dX8_of_17 : D1 cX8_of 17 (.invokestatic 51) 3 20 := ⟨by decide +kernel, rfl⟩
theorem dX8_of_20 : DJ cX8_of 20 (.ifCond .ne) 23 29 := ⟨9, by decide +kernel, rfl, by decide⟩
theorem dX8_of_23 : D1 cX8_of 23 (.aload_n 0) 1 24 := ⟨by decide +kernel, rfl⟩
theorem dX8_of_24 : D1 cX8_of 24 (.iconst 0) 1 25 := ⟨by decide +kernel, rfl⟩
theorem dX8_of_25 : D1 cX8_of 25 (.invokevirtual 55) 3 28 := ⟨by decide +kernel, rfl⟩
theorem dX8_of_28 : D1 cX8_of 28 (.ireturn) 1 29 := ⟨by decide +kernel, rfl⟩
theorem dX8_of_29 : D1 cX8_of 29 (.iload_n 2) 1 30 := ⟨by decide +kernel, rfl⟩
theorem dX8_of_30 : decode cX8_of 30 = .ok (.tableswitch 57 5 8 #[30, 35, 40, 52], 30) := by decide +kernel
theorem dX8_of_60 : D1 cX8_of 60 (.aload_n 3) 1 61 := ⟨by decide +kernel, rfl⟩
theorem dX8_of_61 : D1 cX8_of 61 (.getfield 70) 3 64 := ⟨by decide +kernel, rfl⟩
theorem dX8_of_64 : D1 cX8_of 64 (.ireturn) 1 65 := ⟨by decide +kernel, rfl⟩
theorem dX8_of_65 : D1 cX8_of 65 (.aload_n 3) 1 66 := ⟨by decide +kernel, rfl⟩
theorem dX8_of_66 : D1 cX8_of 66 (.invokevirtual 75) 3 69 := ⟨by decide +kernel, rfl⟩
theorem dX8_of_69 : D1 cX8_of 69 (.ireturn) 1 70 := ⟨by decide +kernel, rfl⟩
theorem dX8_of_70 : D1 cX8_of 70 (.aload_n 3) 1 71 := ⟨by decide +kernel, rfl⟩
theorem dX8_of_71 : D1 cX8_of 71 (.aload_n 0) 1 72 := ⟨by decide +kernel, rfl⟩
theorem dX8_of_72 : D1 cX8_of 72 (.getfield 10) 3 75 := ⟨by decide +kernel, rfl⟩
theorem dX8_of_75 : D1 cX8_of 75 (.getfield 79) 3 78 := ⟨by decide +kernel, rfl⟩
theorem dX8_of_78 : D1 cX8_of 78 (.invokevirtual 82) 3 81 := ⟨by decide +kernel, rfl⟩
theorem dX8_of_81 : D1 cX8_of 81 (.ireturn) 1 82 := ⟨by decide +kernel, rfl⟩
theorem dX8_of_82 : D1 cX8_of 82 (.aload_n 3) 1 83 := ⟨by decide +kernel, rfl⟩
theorem dX8_of_83 : D1 cX8_of 83 (.invokevirtual 85) 3 86 := ⟨by decide +kernel, rfl⟩
theorem dX8_of_86 : D1 cX8_of 86 (.ireturn) 1 87 := ⟨by decide +kernel, rfl⟩
theorem dX8_of_87 : D1 cX8_of 87 (.aload_n 3) 1 88 := ⟨by decide +kernel, rfl⟩
theorem dX8_of_88 : D1 cX8_of 88 (.iload_n 2) 1 89 := ⟨by decide +kernel, rfl⟩
theorem dX8_of_89 : D1 cX8_of 89 (.invokevirtual 88) 3 92 := ⟨by decide +kernel, rfl⟩
theorem dX8_of_92 : D1 cX8_of 92 (.ireturn) 1 93 := ⟨by decide +kernel, rfl⟩
theorem dX8_change_0 : D1 cX8_change 0 (.aload_n 0) 1 1 := ⟨by decide +kernel, rfl⟩
theorem dX8_change_1 : D1 cX8_change 1 (.getfield 10) 3 4 := ⟨by decide +kernel, rfl⟩
theorem dX8_change_4 : D1 cX8_change 4 (.iload_n 1) 1 5 := ⟨by decide +kernel, rfl⟩
theorem dX8_change_5 : D1 cX8_change 5 (.invokevirtual 67) 3 8 := ⟨by decide +kernel, rfl⟩
theorem dX8_change_8 : D1 cX8_change 8 (.astore 4) 2 10 := ⟨by decide +kernel, rfl⟩
theorem dX8_change_10 : D1 cX8_change 10 (.aload 4) 2 12 := ⟨by decide +kernel, rfl⟩
theorem dX8_change_12 : DJ cX8_change 12 .ifnull 15 39 := ⟨27, by decide +kernel, rfl, by decide⟩
theorem dX8_change_15 : D1 cX8_change 15 (.iload_n 2) 1 16 := ⟨by decide +kernel, rfl⟩
theorem dX8_change_16 : D1 cX8_change 16 (.iconst 0) 1 17 := ⟨by decide +kernel, rfl⟩
theorem dX8_change_17 : D1 cX8_change 17 (.iconst 4) 1 18 := ⟨by decide +kernel, rfl⟩
theorem dX8_change_18 : D1 cX8_change 18 (.invokestatic 51) 3 21 := ⟨by decide +kernel, rfl⟩
theorem dX8_change_21 : DJ cX8_change 21 (.ifCond .eq) 24 39 := ⟨18, by decide +kernel, rfl, by decide⟩
theorem dX8_change_24 : D1 cX8_change 24 (.iload_n 3) 1 25 := ⟨by decide +kernel, rfl⟩
theorem dX8_change_25 : D1 cX8_change 25 (.iload_n 2) 1 26 := ⟨by decide +kernel, rfl⟩
theorem dX8_change_26 : D1 cX8_change 26 (.invokestatic 90) 3 29 := ⟨by decide +kernel, rfl⟩
theorem dX8_change_29 : D1 cX8_change 29 (.iload_n 2) 1 30 := ⟨by decide +kernel, rfl⟩
theorem dX8_change_30 : D1 cX8_change 30 (.invokestatic 93) 3 33 := ⟨by decide +kernel, rfl⟩
theorem dX8_change_33 : D1 cX8_change 33 (.invokestatic 51) 3 36 := ⟨by decide +kernel, rfl⟩
theorem dX8_change_36 : DJ cX8_change 36 (.ifCond .ne) 39 45 := ⟨9, by decide +kernel, rfl, by decide⟩
theorem dX8_change_39 : D1 cX8_change 39 (.aload_n 0) 1 40 := ⟨by decide +kernel, rfl⟩
theorem dX8_change_40 : D1 cX8_change 40 (.iconst 0) 1 41 := ⟨by decide +kernel, rfl⟩
theorem dX8_change_41 : D1 cX8_change 41 (.invokevirtual 55) 3 44 := ⟨by decide +kernel, rfl⟩
theorem dX8_change_44 : D1 cX8_change 44 (.ireturn) 1 45 := ⟨by decide +kernel, rfl⟩
theorem dX8_change_45 : D1 cX8_change 45 (.aload 4) 2 47 := ⟨by decide +kernel, rfl⟩
theorem dX8_change_47 : D1 cX8_change 47 (.iload_n 2) 1 48 := ⟨by decide +kernel, rfl⟩
theorem dX8_change_48 : D1 cX8_change 48 (.invokevirtual 88) 3 51 := ⟨by decide +kernel, rfl⟩
theorem dX8_change_51 : D1 cX8_change 51 (.istore 5) 2 53 := ⟨by decide +kernel, rfl⟩
theorem dX8_change_53 : D1 cX8_change 53 (.aload 4) 2 55 := ⟨by decide +kernel, rfl⟩
theorem dX8_change_55 : D1 cX8_change 55 (.iload_n 2) 1 56 := ⟨by decide +kernel, rfl⟩
theorem dX8_change_56 : D1 cX8_change 56 (.iload_n 3) 1 57 := ⟨by decide +kernel, rfl⟩
theorem dX8_change_57 : D1 cX8_change 57 (.invokevirtual 96) 3 60 := ⟨by decide +kernel, rfl⟩
theorem dX8_change_60 : D1 cX8_change 60 (.iload 5) 2 62 := ⟨by decide +kernel, rfl⟩
theorem dX8_change_62 : D1 cX8_change 62 (.ireturn) 1 63 := ⟨by decide +kernel, rfl⟩
theorem dX8_steep_0 : D1 cX8_steep 0 (.iload_n 1) 1 1 := ⟨by decide +kernel, rfl⟩
theorem dX8_steep_1 : D1 cX8_steep 1 (.iconst 0) 1 2 := ⟨by decide +kernel, rfl⟩
theorem dX8_steep_2 : D1 cX8_steep 2 (.bipush 6) 2 4 := ⟨by decide +kernel, rfl⟩
theorem dX8_steep_4 : D1 cX8_steep 4 (.invokestatic 51) 3 7 := ⟨by decide +kernel, rfl⟩
theorem dX8_steep_7 : DJ cX8_steep 7 (.ifCond .eq) 10 20 := ⟨13, by decide +kernel, rfl, by decide⟩
theorem dX8_steep_10 : D1 cX8_steep 10 (.iload_n 2) 1 11 := ⟨by decide +kernel, rfl⟩
theorem dX8_steep_11 : D1 cX8_steep 11 (.iconst 0) 1 12 := ⟨by decide +kernel, rfl⟩
theorem dX8_steep_12 : D1 cX8_steep 12 (.bipush 9) 2 14 := ⟨by decide +kernel, rfl⟩
theorem dX8_steep_14 : D1 cX8_steep 14 (.invokestatic 51) 3 17 := ⟨by decide +kernel, rfl⟩
theorem dX8_steep_17 : DJ cX8_steep 17 (.ifCond .ne) 20 26 := ⟨9, by decide +kernel, rfl, by decide⟩
theorem dX8_steep_20 : D1 cX8_steep 20 (.aload_n 0) 1 21 := ⟨by decide +kernel, rfl⟩
theorem dX8_steep_21 : D1 cX8_steep 21 (.iconst 0) 1 22 := ⟨by decide +kernel, rfl⟩
theorem dX8_steep_22 : D1 cX8_steep 22 (.invokevirtual 55) 3 25 := ⟨by decide +kernel, rfl⟩
theorem dX8_steep_25 : D1 cX8_steep 25 (.ireturn) 1 26 := ⟨by decide +kernel, rfl⟩
theorem dX8_steep_26 : D1 cX8_steep 26 (.aload_n 0) 1 27 := ⟨by decide +kernel, rfl⟩
theorem dX8_steep_27 : D1 cX8_steep 27 (.getfield 10) 3 30 := ⟨by decide +kernel, rfl⟩
theorem dX8_steep_30 : D1 cX8_steep 30 (.iload_n 1) 1 31 := ⟨by decide +kernel, rfl⟩
theorem dX8_steep_31 : D1 cX8_steep 31 (.invokevirtual 100) 3 34 := ⟨by decide +kernel, rfl⟩
theorem dX8_steep_34 : D1 cX8_steep 34 (.istore_n 3) 1 35 := ⟨by decide +kernel, rfl⟩
theorem dX8_steep_35 : D1 cX8_steep 35 (.aload_n 0) 1 36 := ⟨by decide +kernel, rfl⟩
theorem dX8_steep_36 : D1 cX8_steep 36 (.getfield 10) 3 39 := ⟨by decide +kernel, rfl⟩
theorem dX8_steep_39 : D1 cX8_steep 39 (.iload_n 1) 1 40 := ⟨by decide +kernel, rfl⟩
theorem dX8_steep_40 : D1 cX8_steep 40 (.iload_n 2) 1 41 := ⟨by decide +kernel, rfl⟩
theorem dX8_steep_41 : D1 cX8_steep 41 (.invokevirtual 103) 3 44 := ⟨by decide +kernel, rfl⟩
theorem dX8_steep_44 : D1 cX8_steep 44 (.iload_n 3) 1 45 := ⟨by decide +kernel, rfl⟩
theorem dX8_steep_45 : D1 cX8_steep 45 (.ireturn) 1 46 := ⟨by decide +kernel, rfl⟩
theorem dX8_weather_0 : D1 cX8_weather 0 (.iload_n 1) 1 1 := ⟨by decide +kernel, rfl⟩
theorem dX8_weather_1 : DJ cX8_weather 1 (.ifCond .ne) 4 31 := ⟨30, by decide +kernel, rfl, by decide⟩
theorem dX8_weather_4 : D1 cX8_weather 4 (.iload_n 2) 1 5 := ⟨by decide +kernel, rfl⟩
theorem dX8_weather_5 : D1 cX8_weather 5 (.iconst 0) 1 6 := ⟨by decide +kernel, rfl⟩
theorem dX8_weather_6 : D1 cX8_weather 6 (.iconst 1) 1 7 := ⟨by decide +kernel, rfl⟩
theorem dX8_weather_7 : D1 cX8_weather 7 (.invokestatic 51) 3 10 := ⟨by decide +kernel, rfl⟩
theorem dX8_weather_10 : DJ cX8_weather 10 (.ifCond .eq) 13 31 := ⟨21, by decide +kernel, rfl, by decide⟩
theorem dX8_weather_13 : D1 cX8_weather 13 (.aload_n 0) 1 14 := ⟨by decide +kernel, rfl⟩
theorem dX8_weather_14 : D1 cX8_weather 14 (.getfield 10) 3 17 := ⟨by decide +kernel, rfl⟩
theorem dX8_weather_17 : D1 cX8_weather 17 (.getfield 106) 3 20 := ⟨by decide +kernel, rfl⟩
theorem dX8_weather_20 : D1 cX8_weather 20 (.istore_n 3) 1 21 := ⟨by decide +kernel, rfl⟩
theorem dX8_weather_21 : D1 cX8_weather 21 (.aload_n 0) 1 22 := ⟨by decide +kernel, rfl⟩
theorem dX8_weather_22 : D1 cX8_weather 22 (.getfield 10) 3 25 := ⟨by decide +kernel, rfl⟩
theorem dX8_weather_25 : D1 cX8_weather 25 (.iload_n 2) 1 26 := ⟨by decide +kernel, rfl⟩
theorem dX8_weather_26 : D1 cX8_weather 26 (.putfield 106) 3 29 := ⟨by decide +kernel, rfl⟩
theorem dX8_weather_29 : D1 cX8_weather 29 (.iload_n 3) 1 30 := ⟨by decide +kernel, rfl⟩
theorem dX8_weather_30 : D1 cX8_weather 30 (.ireturn) 1 31 := ⟨by decide +kernel, rfl⟩
theorem dX8_weather_31 : D1 cX8_weather 31 (.iload_n 1) 1 32 := ⟨by decide +kernel, rfl⟩
theorem dX8_weather_32 : D1 cX8_weather 32 (.iconst 1) 1 33 := ⟨by decide +kernel, rfl⟩
theorem dX8_weather_33 : DJ cX8_weather 33 (.if_icmp .ne) 36 64 := ⟨31, by decide +kernel, rfl, by decide⟩
theorem dX8_weather_36 : D1 cX8_weather 36 (.iload_n 2) 1 37 := ⟨by decide +kernel, rfl⟩
theorem dX8_weather_37 : D1 cX8_weather 37 (.iconst 0) 1 38 := ⟨by decide +kernel, rfl⟩
theorem dX8_weather_38 : D1 cX8_weather 38 (.bipush 100) 2 40 := ⟨by decide +kernel, rfl⟩
theorem dX8_weather_40 : D1 cX8_weather 40 (.invokestatic 51) 3 43 := ⟨by decide +kernel, rfl⟩
theorem dX8_weather_43 : DJ cX8_weather 43 (.ifCond .eq) 46 64 := ⟨21, by decide +kernel, rfl, by decide⟩
theorem dX8_weather_46 : D1 cX8_weather 46 (.aload_n 0) 1 47 := ⟨by decide +kernel, rfl⟩
theorem dX8_weather_47 : D1 cX8_weather 47 (.getfield 10) 3 50 := ⟨by decide +kernel, rfl⟩
theorem dX8_weather_50 : D1 cX8_weather 50 (.getfield 79) 3 53 := ⟨by decide +kernel, rfl⟩
theorem dX8_weather_53 : D1 cX8_weather 53 (.istore_n 3) 1 54 := ⟨by decide +kernel, rfl⟩
theorem dX8_weather_54 : D1 cX8_weather 54 (.aload_n 0) 1 55 := ⟨by decide +kernel, rfl⟩
theorem dX8_weather_55 : D1 cX8_weather 55 (.getfield 10) 3 58 := ⟨by decide +kernel, rfl⟩
theorem dX8_weather_58 : D1 cX8_weather 58 (.iload_n 2) 1 59 := ⟨by decide +kernel, rfl⟩
theorem dX8_weather_59 : D1 cX8_weather 59 (.putfield 79) 3 62 := ⟨by decide +kernel, rfl⟩
theorem dX8_weather_62 : D1 cX8_weather 62 (.iload_n 3) 1 63 := ⟨by decide +kernel, rfl⟩
theorem dX8_weather_63 : D1 cX8_weather 63 (.ireturn) 1 64 := ⟨by decide +kernel, rfl⟩
theorem dX8_weather_64 : D1 cX8_weather 64 (.aload_n 0) 1 65 := ⟨by decide +kernel, rfl⟩
theorem dX8_weather_65 : D1 cX8_weather 65 (.iconst 0) 1 66 := ⟨by decide +kernel, rfl⟩
theorem dX8_weather_66 : D1 cX8_weather 66 (.invokevirtual 55) 3 69 := ⟨by decide +kernel, rfl⟩
theorem dX8_weather_69 : D1 cX8_weather 69 (.ireturn) 1 70 := ⟨by decide +kernel, rfl⟩
theorem dX8_lend_0 : D1 cX8_lend 0 (.aload_n 0) 1 1 := ⟨by decide +kernel, rfl⟩
theorem dX8_lend_1 : D1 cX8_lend 1 (.getfield 10) 3 4 := ⟨by decide +kernel, rfl⟩
theorem dX8_lend_4 : D1 cX8_lend 4 (.iload_n 1) 1 5 := ⟨by decide +kernel, rfl⟩
theorem dX8_lend_5 : D1 cX8_lend 5 (.invokevirtual 67) 3 8 := ⟨by decide +kernel, rfl⟩
theorem dX8_lend_8 : D1 cX8_lend 8 (.astore 4) 2 10 := ⟨by decide +kernel, rfl⟩
theorem dX8_lend_10 : D1 cX8_lend 10 (.aload_n 0) 1 11 := ⟨by decide +kernel, rfl⟩
theorem dX8_lend_11 : D1 cX8_lend 11 (.getfield 10) 3 14 := ⟨by decide +kernel, rfl⟩
theorem dX8_lend_14 : D1 cX8_lend 14 (.iload_n 2) 1 15 := ⟨by decide +kernel, rfl⟩
theorem dX8_lend_15 : D1 cX8_lend 15 (.invokevirtual 67) 3 18 := ⟨by decide +kernel, rfl⟩
theorem dX8_lend_18 : D1 cX8_lend 18 (.astore 5) 2 20 := ⟨by decide +kernel, rfl⟩
theorem dX8_lend_20 : D1 cX8_lend 20 (.aload 4) 2 22 := ⟨by decide +kernel, rfl⟩
theorem dX8_lend_22 : DJ cX8_lend 22 .ifnull 25 45 := ⟨23, by decide +kernel, rfl, by decide⟩
theorem dX8_lend_25 : D1 cX8_lend 25 (.aload 5) 2 27 := ⟨by decide +kernel, rfl⟩
theorem dX8_lend_27 : DJ cX8_lend 27 .ifnull 30 45 := ⟨18, by decide +kernel, rfl, by decide⟩
theorem dX8_lend_30 : D1 cX8_lend 30 (.iload_n 1) 1 31 := ⟨by decide +kernel, rfl⟩
theorem dX8_lend_31 : D1 cX8_lend 31 (.iload_n 2) 1 32 := ⟨by decide +kernel, rfl⟩
theorem dX8_lend_32 : DJ cX8_lend 32 (.if_icmp .eq) 35 45 := ⟨13, by decide +kernel, rfl, by decide⟩
theorem dX8_lend_35 : D1 cX8_lend 35 (.iload_n 3) 1 36 := ⟨by decide +kernel, rfl⟩
theorem dX8_lend_36 : D1 cX8_lend 36 (.iconst 1) 1 37 := ⟨by decide +kernel, rfl⟩
theorem dX8_lend_37 : D1 cX8_lend 37 (.bipush 99) 2 39 := ⟨by decide +kernel, rfl⟩
theorem dX8_lend_39 : D1 cX8_lend 39 (.invokestatic 51) 3 42 := ⟨by decide +kernel, rfl⟩
theorem dX8_lend_42 : DJ cX8_lend 42 (.ifCond .ne) 45 51 := ⟨9, by decide +kernel, rfl, by decide⟩
theorem dX8_lend_45 : D1 cX8_lend 45 (.aload_n 0) 1 46 := ⟨by decide +kernel, rfl⟩
theorem dX8_lend_46 : D1 cX8_lend 46 (.iconst 0) 1 47 := ⟨by decide +kernel, rfl⟩
theorem dX8_lend_47 : D1 cX8_lend 47 (.invokevirtual 55) 3 50 := ⟨by decide +kernel, rfl⟩
theorem dX8_lend_50 : D1 cX8_lend 50 (.ireturn) 1 51 := ⟨by decide +kernel, rfl⟩
theorem dX8_lend_51 : D1 cX8_lend 51 (.aload 4) 2 53 := ⟨by decide +kernel, rfl⟩
theorem dX8_lend_53 : D1 cX8_lend 53 (.getfield 109) 3 56 := ⟨by decide +kernel, rfl⟩
theorem dX8_lend_56 : D1 cX8_lend 56 (.iload_n 3) 1 57 := ⟨by decide +kernel, rfl⟩
theorem dX8_lend_57 : DJ cX8_lend 57 (.if_icmp .lt) 60 72 := ⟨15, by decide +kernel, rfl, by decide⟩
theorem dX8_lend_60 : D1 cX8_lend 60 (.aload 5) 2 62 := ⟨by decide +kernel, rfl⟩
theorem dX8_lend_62 : D1 cX8_lend 62 (.getfield 109) 3 65 := ⟨by decide +kernel, rfl⟩
theorem dX8_lend_65 : D1 cX8_lend 65 (.iload_n 3) 1 66 := ⟨by decide +kernel, rfl⟩
theorem dX8_lend_66 : D1 cX8_lend 66 (.iadd) 1 67 := ⟨by decide +kernel, rfl⟩
theorem dX8_lend_67 : D1 cX8_lend 67 (.bipush 99) 2 69 := ⟨by decide +kernel, rfl⟩
theorem dX8_lend_69 : DJ cX8_lend 69 (.if_icmp .le) 72 78 := ⟨9, by decide +kernel, rfl, by decide⟩
theorem dX8_lend_72 : D1 cX8_lend 72 (.aload_n 0) 1 73 := ⟨by decide +kernel, rfl⟩
theorem dX8_lend_73 : D1 cX8_lend 73 (.iconst 4) 1 74 := ⟨by decide +kernel, rfl⟩
theorem dX8_lend_74 : D1 cX8_lend 74 (.invokevirtual 55) 3 77 := ⟨by decide +kernel, rfl⟩
theorem dX8_lend_77 : D1 cX8_lend 77 (.ireturn) 1 78 := ⟨by decide +kernel, rfl⟩
theorem dX8_lend_78 : D1 cX8_lend 78 (.aload 4) 2 80 := ⟨by decide +kernel, rfl⟩
theorem dX8_lend_80 : D1 cX8_lend 80 (.dup) 1 81 := ⟨by decide +kernel, rfl⟩
theorem dX8_lend_81 : D1 cX8_lend 81 (.getfield 109) 3 84 := ⟨by decide +kernel, rfl⟩
theorem dX8_lend_84 : D1 cX8_lend 84 (.iload_n 3) 1 85 := ⟨by decide +kernel, rfl⟩
theorem dX8_lend_85 : D1 cX8_lend 85 (.isub) 1 86 := ⟨by decide +kernel, rfl⟩
theorem dX8_lend_86 : D1 cX8_lend 86 (.putfield 109) 3 89 := ⟨by decide +kernel, rfl⟩
theorem dX8_lend_89 : D1 cX8_lend 89 (.aload 5) 2 91 := ⟨by decide +kernel, rfl⟩
theorem dX8_lend_91 : D1 cX8_lend 91 (.dup) 1 92 := ⟨by decide +kernel, rfl⟩
theorem dX8_lend_92 : D1 cX8_lend 92 (.getfield 109) 3 95 := ⟨by decide +kernel, rfl⟩
theorem dX8_lend_95 : D1 cX8_lend 95 (.iload_n 3) 1 96 := ⟨by decide +kernel, rfl⟩
theorem dX8_lend_96 : D1 cX8_lend 96 (.iadd) 1 97 := ⟨by decide +kernel, rfl⟩
theorem dX8_lend_97 : D1 cX8_lend 97 (.putfield 109) 3 100 := ⟨by decide +kernel, rfl⟩
theorem dX8_lend_100 : D1 cX8_lend 100 (.aload 5) 2 102 := ⟨by decide +kernel, rfl⟩
theorem dX8_lend_102 : D1 cX8_lend 102 (.getfield 109) 3 105 := ⟨by decide +kernel, rfl⟩
theorem dX8_lend_105 : D1 cX8_lend 105 (.ireturn) 1 106 := ⟨by decide +kernel, rfl⟩
theorem dX8_way_0 : D1 cX8_way 0 (.aload_n 0) 1 1 := ⟨by decide +kernel, rfl⟩
theorem dX8_way_1 : D1 cX8_way 1 (.getfield 10) 3 4 := ⟨by decide +kernel, rfl⟩
theorem dX8_way_4 : D1 cX8_way 4 (.iload_n 1) 1 5 := ⟨by decide +kernel, rfl⟩
theorem dX8_way_5 : D1 cX8_way 5 (.invokevirtual 67) 3 8 := ⟨by decide +kernel, rfl⟩
theorem dX8_way_8 : DJ cX8_way 8 .ifnull 11 22 := ⟨14, by decide +kernel, rfl, by decide⟩
theorem dX8_way_11 : D1 cX8_way 11 (.aload_n 0) 1 12 := ⟨by decide +kernel, rfl⟩
theorem dX8_way_12 : D1 cX8_way 12 (.getfield 10) 3 15 := ⟨by decide +kernel, rfl⟩
theorem dX8_way_15 : D1 cX8_way 15 (.iload_n 2) 1 16 := ⟨by decide +kernel, rfl⟩
theorem dX8_way_16 : D1 cX8_way 16 (.invokevirtual 67) 3 19 := ⟨by decide +kernel, rfl⟩
theorem dX8_way_19 : DJ cX8_way 19 .ifnonnull 22 28 := ⟨9, by decide +kernel, rfl, by decide⟩
theorem dX8_way_22 : D1 cX8_way 22 (.aload_n 0) 1 23 := ⟨by decide +kernel, rfl⟩
theorem dX8_way_23 : D1 cX8_way 23 (.iconst 0) 1 24 := ⟨by decide +kernel, rfl⟩
theorem dX8_way_24 : D1 cX8_way 24 (.invokevirtual 55) 3 27 := ⟨by decide +kernel, rfl⟩
theorem dX8_way_27 : D1 cX8_way 27 (.ireturn) 1 28 := ⟨by decide +kernel, rfl⟩
theorem dX8_way_28 : D1 cX8_way 28 (.aload_n 0) 1 29 := ⟨by decide +kernel, rfl⟩
theorem dX8_way_29 : D1 cX8_way 29 (.getfield 10) 3 32 := ⟨by decide +kernel, rfl⟩
theorem dX8_way_32 : D1 cX8_way 32 (.iload_n 1) 1 33 := ⟨by decide +kernel, rfl⟩
theorem dX8_way_33 : D1 cX8_way 33 (.iload_n 2) 1 34 := ⟨by decide +kernel, rfl⟩
theorem dX8_way_34 : D1 cX8_way 34 (.invokevirtual 112) 3 37 := ⟨by decide +kernel, rfl⟩
theorem dX8_way_37 : D1 cX8_way 37 (.ireturn) 1 38 := ⟨by decide +kernel, rfl⟩
theorem dX8_send_0 : D1 cX8_send 0 (.aload_n 0) 1 1 := ⟨by decide +kernel, rfl⟩
theorem dX8_send_1 : D1 cX8_send 1 (.getfield 10) 3 4 := ⟨by decide +kernel, rfl⟩
theorem dX8_send_4 : D1 cX8_send 4 (.iload_n 1) 1 5 := ⟨by decide +kernel, rfl⟩
theorem dX8_send_5 : D1 cX8_send 5 (.invokevirtual 67) 3 8 := ⟨by decide +kernel, rfl⟩
theorem dX8_send_8 : DJ cX8_send 8 .ifnonnull 11 17 := ⟨9, by decide +kernel, rfl, by decide⟩
theorem dX8_send_11 : D1 cX8_send 11 (.aload_n 0) 1 12 := ⟨by decide +kernel, rfl⟩
theorem dX8_send_12 : D1 cX8_send 12 (.iconst 0) 1 13 := ⟨by decide +kernel, rfl⟩
theorem dX8_send_13 : D1 cX8_send 13 (.invokevirtual 55) 3 16 := ⟨by decide +kernel, rfl⟩
theorem dX8_send_16 : D1 cX8_send 16 (.ireturn) 1 17 := ⟨by decide +kernel, rfl⟩
theorem dX8_send_17 : D1 cX8_send 17 (.aload_n 0) 1 18 := ⟨by decide +kernel, rfl⟩
theorem dX8_send_18 : D1 cX8_send 18 (.getfield 10) 3 21 := ⟨by decide +kernel, rfl⟩
theorem dX8_send_21 : D1 cX8_send 21 (.getfield 116) 3 24 := ⟨by decide +kernel, rfl⟩
theorem dX8_send_24 : DJ cX8_send 24 (.ifCond .le) 27 33 := ⟨9, by decide +kernel, rfl, by decide⟩
theorem dX8_send_27 : D1 cX8_send 27 (.aload_n 0) 1 28 := ⟨by decide +kernel, rfl⟩
theorem dX8_send_28 : D1 cX8_send 28 (.iconst 4) 1 29 := ⟨by decide +kernel, rfl⟩
theorem dX8_send_29 : D1 cX8_send 29 (.invokevirtual 55) 3 32 := ⟨by decide +kernel, rfl⟩
theorem dX8_send_32 : D1 cX8_send 32 (.ireturn) 1 33 := ⟨by decide +kernel, rfl⟩
theorem dX8_send_33 : D1 cX8_send 33 (.aload_n 0) 1 34 := ⟨by decide +kernel, rfl⟩
theorem dX8_send_34 : D1 cX8_send 34 (.getfield 10) 3 37 := ⟨by decide +kernel, rfl⟩
theorem dX8_send_37 : D1 cX8_send 37 (.iload_n 1) 1 38 := ⟨by decide +kernel, rfl⟩
theorem dX8_send_38 : D1 cX8_send 38 (.invokevirtual 119) 3 41 := ⟨by decide +kernel, rfl⟩
theorem dX8_send_41 : D1 cX8_send 41 (.ireturn) 1 42 := ⟨by decide +kernel, rfl⟩
theorem dX8_quarters_0 : D1 cX8_quarters 0 (.iload_n 1) 1 1 := ⟨by decide +kernel, rfl⟩
theorem dX8_quarters_1 : D1 cX8_quarters 1 (.iconst 1) 1 2 := ⟨by decide +kernel, rfl⟩
theorem dX8_quarters_2 : D1 cX8_quarters 2 (.bipush 96) 2 4 := ⟨by decide +kernel, rfl⟩
theorem dX8_quarters_4 : D1 cX8_quarters 4 (.invokestatic 51) 3 7 := ⟨by decide +kernel, rfl⟩
theorem dX8_quarters_7 : DJ cX8_quarters 7 (.ifCond .ne) 10 16 := ⟨9, by decide +kernel, rfl, by decide⟩
theorem dX8_quarters_10 : D1 cX8_quarters 10 (.aload_n 0) 1 11 := ⟨by decide +kernel, rfl⟩
theorem dX8_quarters_11 : D1 cX8_quarters 11 (.iconst 0) 1 12 := ⟨by decide +kernel, rfl⟩
theorem dX8_quarters_12 : D1 cX8_quarters 12 (.invokevirtual 55) 3 15 := ⟨by decide +kernel, rfl⟩
theorem dX8_quarters_15 : D1 cX8_quarters 15 (.ireturn) 1 16 := ⟨by decide +kernel, rfl⟩
theorem dX8_quarters_16 : D1 cX8_quarters 16 (.aload_n 0) 1 17 := ⟨by decide +kernel, rfl⟩
theorem dX8_quarters_17 : D1 cX8_quarters 17 (.iload_n 1) 1 18 := ⟨by decide +kernel, rfl⟩
theorem dX8_quarters_18 : D1 cX8_quarters 18 (.invokevirtual 122) 3 21 := ⟨by decide +kernel, rfl⟩
theorem dX8_quarters_21 : DJ cX8_quarters 21 (.ifCond .eq) 24 30 := ⟨9, by decide +kernel, rfl, by decide⟩
theorem dX8_quarters_24 : D1 cX8_quarters 24 (.aload_n 0) 1 25 := ⟨by decide +kernel, rfl⟩
theorem dX8_quarters_25 : D1 cX8_quarters 25 (.iconst 4) 1 26 := ⟨by decide +kernel, rfl⟩
theorem dX8_quarters_26 : D1 cX8_quarters 26 (.invokevirtual 55) 3 29 := ⟨by decide +kernel, rfl⟩
theorem dX8_quarters_29 : D1 cX8_quarters 29 (.ireturn) 1 30 := ⟨by decide +kernel, rfl⟩
theorem dX8_quarters_30 : D1 cX8_quarters 30 (.aload_n 0) 1 31 := ⟨by decide +kernel, rfl⟩
theorem dX8_quarters_31 : D1 cX8_quarters 31 (.getfield 10) 3 34 := ⟨by decide +kernel, rfl⟩
theorem dX8_quarters_34 : D1 cX8_quarters 34 (.iconst 5) 1 35 := ⟨by decide +kernel, rfl⟩
theorem dX8_quarters_35 : D1 cX8_quarters 35 (.invokevirtual 126) 3 38 := ⟨by decide +kernel, rfl⟩
theorem dX8_quarters_38 : D1 cX8_quarters 38 (.istore_n 2) 1 39 := ⟨by decide +kernel, rfl⟩
theorem dX8_quarters_39 : D1 cX8_quarters 39 (.aload_n 0) 1 40 := ⟨by decide +kernel, rfl⟩
theorem dX8_quarters_40 : D1 cX8_quarters 40 (.getfield 10) 3 43 := ⟨by decide +kernel, rfl⟩
theorem dX8_quarters_43 : D1 cX8_quarters 43 (.iload_n 1) 1 44 := ⟨by decide +kernel, rfl⟩
theorem dX8_quarters_44 : D1 cX8_quarters 44 (.invokevirtual 129) 3 47 := ⟨by decide +kernel, rfl⟩
theorem dX8_quarters_47 : D1 cX8_quarters 47 (.aload_n 0) 1 48 := ⟨by decide +kernel, rfl⟩
theorem dX8_quarters_48 : D1 cX8_quarters 48 (.getfield 10) 3 51 := ⟨by decide +kernel, rfl⟩
theorem dX8_quarters_51 : D1 cX8_quarters 51 (.iconst 5) 1 52 := ⟨by decide +kernel, rfl⟩
theorem dX8_quarters_52 : D1 cX8_quarters 52 (.invokevirtual 126) 3 55 := ⟨by decide +kernel, rfl⟩
theorem dX8_quarters_55 : D1 cX8_quarters 55 (.iload_n 2) 1 56 := ⟨by decide +kernel, rfl⟩
theorem dX8_quarters_56 : D1 cX8_quarters 56 (.isub) 1 57 := ⟨by decide +kernel, rfl⟩
theorem dX8_quarters_57 : D1 cX8_quarters 57 (.ireturn) 1 58 := ⟨by decide +kernel, rfl⟩
theorem dX8_now_0 : D1 cX8_now 0 (.iload_n 1) 1 1 := ⟨by decide +kernel, rfl⟩
theorem dX8_now_1 : decode cX8_now 1 = .ok (.tableswitch 99 0 6 #[43, 51, 59, 67, 75, 83, 91], 43) := by decide +kernel
theorem dX8_now_44 : D1 cX8_now 44 (.aload_n 0) 1 45 := ⟨by decide +kernel, rfl⟩
theorem dX8_now_45 : D1 cX8_now 45 (.getfield 10) 3 48 := ⟨by decide +kernel, rfl⟩
theorem dX8_now_48 : D1 cX8_now 48 (.getfield 133) 3 51 := ⟨by decide +kernel, rfl⟩
theorem dX8_now_51 : D1 cX8_now 51 (.ireturn) 1 52 := ⟨by decide +kernel, rfl⟩
theorem dX8_now_52 : D1 cX8_now 52 (.aload_n 0) 1 53 := ⟨by decide +kernel, rfl⟩
theorem dX8_now_53 : D1 cX8_now 53 (.getfield 10) 3 56 := ⟨by decide +kernel, rfl⟩
theorem dX8_now_56 : D1 cX8_now 56 (.getfield 136) 3 59 := ⟨by decide +kernel, rfl⟩
theorem dX8_now_59 : D1 cX8_now 59 (.ireturn) 1 60 := ⟨by decide +kernel, rfl⟩
theorem dX8_now_60 : D1 cX8_now 60 (.aload_n 0) 1 61 := ⟨by decide +kernel, rfl⟩
theorem dX8_now_61 : D1 cX8_now 61 (.getfield 10) 3 64 := ⟨by decide +kernel, rfl⟩
theorem dX8_now_64 : D1 cX8_now 64 (.getfield 116) 3 67 := ⟨by decide +kernel, rfl⟩
theorem dX8_now_67 : D1 cX8_now 67 (.ireturn) 1 68 := ⟨by decide +kernel, rfl⟩
theorem dX8_now_68 : D1 cX8_now 68 (.aload_n 0) 1 69 := ⟨by decide +kernel, rfl⟩
theorem dX8_now_69 : D1 cX8_now 69 (.getfield 10) 3 72 := ⟨by decide +kernel, rfl⟩
theorem dX8_now_72 : D1 cX8_now 72 (.invokevirtual 139) 3 75 := ⟨by decide +kernel, rfl⟩
theorem dX8_now_75 : D1 cX8_now 75 (.ireturn) 1 76 := ⟨by decide +kernel, rfl⟩
theorem dX8_now_76 : D1 cX8_now 76 (.aload_n 0) 1 77 := ⟨by decide +kernel, rfl⟩
theorem dX8_now_77 : D1 cX8_now 77 (.getfield 10) 3 80 := ⟨by decide +kernel, rfl⟩
theorem dX8_now_80 : D1 cX8_now 80 (.getfield 142) 3 83 := ⟨by decide +kernel, rfl⟩
theorem dX8_now_83 : D1 cX8_now 83 (.ireturn) 1 84 := ⟨by decide +kernel, rfl⟩
theorem dX8_now_84 : D1 cX8_now 84 (.aload_n 0) 1 85 := ⟨by decide +kernel, rfl⟩
theorem dX8_now_85 : D1 cX8_now 85 (.getfield 10) 3 88 := ⟨by decide +kernel, rfl⟩
theorem dX8_now_88 : D1 cX8_now 88 (.getfield 106) 3 91 := ⟨by decide +kernel, rfl⟩
theorem dX8_now_91 : D1 cX8_now 91 (.ireturn) 1 92 := ⟨by decide +kernel, rfl⟩
theorem dX8_now_92 : D1 cX8_now 92 (.aload_n 0) 1 93 := ⟨by decide +kernel, rfl⟩
theorem dX8_now_93 : D1 cX8_now 93 (.getfield 10) 3 96 := ⟨by decide +kernel, rfl⟩
theorem dX8_now_96 : D1 cX8_now 96 (.getfield 79) 3 99 := ⟨by decide +kernel, rfl⟩
theorem dX8_now_99 : D1 cX8_now 99 (.ireturn) 1 100 := ⟨by decide +kernel, rfl⟩
theorem dX8_now_100 : D1 cX8_now 100 (.aload_n 0) 1 101 := ⟨by decide +kernel, rfl⟩
theorem dX8_now_101 : D1 cX8_now 101 (.iconst 0) 1 102 := ⟨by decide +kernel, rfl⟩
theorem dX8_now_102 : D1 cX8_now 102 (.invokevirtual 55) 3 105 := ⟨by decide +kernel, rfl⟩
theorem dX8_now_105 : D1 cX8_now 105 (.ireturn) 1 106 := ⟨by decide +kernel, rfl⟩
theorem dX8_ahead_0 : D1 cX8_ahead 0 (.iload_n 1) 1 1 := ⟨by decide +kernel, rfl⟩
theorem dX8_ahead_1 : D1 cX8_ahead 1 (.iconst 0) 1 2 := ⟨by decide +kernel, rfl⟩
theorem dX8_ahead_2 : D1 cX8_ahead 2 (.bipush 96) 2 4 := ⟨by decide +kernel, rfl⟩
theorem dX8_ahead_4 : D1 cX8_ahead 4 (.invokestatic 51) 3 7 := ⟨by decide +kernel, rfl⟩
theorem dX8_ahead_7 : DJ cX8_ahead 7 (.ifCond .eq) 10 32 := ⟨25, by decide +kernel, rfl, by decide⟩
theorem dX8_ahead_10 : D1 cX8_ahead 10 (.iload_n 2) 1 11 := ⟨by decide +kernel, rfl⟩
theorem dX8_ahead_11 : DJ cX8_ahead 11 (.ifCond .lt) 14 32 := ⟨21, by decide +kernel, rfl, by decide⟩
theorem dX8_ahead_14 : D1 cX8_ahead 14 (.iload_n 2) 1 15 := ⟨by decide +kernel, rfl⟩
theorem dX8_ahead_15 : D1 cX8_ahead 15 (.iconst 4) 1 16 := ⟨by decide +kernel, rfl⟩
theorem dX8_ahead_16 : DJ cX8_ahead 16 (.if_icmp .lt) 19 38 := ⟨22, by decide +kernel, rfl, by decide⟩
theorem dX8_ahead_19 : D1 cX8_ahead 19 (.aload_n 0) 1 20 := ⟨by decide +kernel, rfl⟩
theorem dX8_ahead_20 : D1 cX8_ahead 20 (.getfield 10) 3 23 := ⟨by decide +kernel, rfl⟩
theorem dX8_ahead_23 : D1 cX8_ahead 23 (.iload_n 2) 1 24 := ⟨by decide +kernel, rfl⟩
theorem dX8_ahead_24 : D1 cX8_ahead 24 (.iconst 4) 1 25 := ⟨by decide +kernel, rfl⟩
theorem dX8_ahead_25 : D1 cX8_ahead 25 (.isub) 1 26 := ⟨by decide +kernel, rfl⟩
theorem dX8_ahead_26 : D1 cX8_ahead 26 (.invokevirtual 67) 3 29 := ⟨by decide +kernel, rfl⟩
theorem dX8_ahead_29 : DJ cX8_ahead 29 .ifnonnull 32 38 := ⟨9, by decide +kernel, rfl, by decide⟩
theorem dX8_ahead_32 : D1 cX8_ahead 32 (.aload_n 0) 1 33 := ⟨by decide +kernel, rfl⟩
theorem dX8_ahead_33 : D1 cX8_ahead 33 (.iconst 0) 1 34 := ⟨by decide +kernel, rfl⟩
theorem dX8_ahead_34 : D1 cX8_ahead 34 (.invokevirtual 55) 3 37 := ⟨by decide +kernel, rfl⟩
theorem dX8_ahead_37 : D1 cX8_ahead 37 (.ireturn) 1 38 := ⟨by decide +kernel, rfl⟩
theorem dX8_ahead_38 : D1 cX8_ahead 38 (.aload_n 0) 1 39 := ⟨by decide +kernel, rfl⟩
theorem dX8_ahead_39 : D1 cX8_ahead 39 (.iload_n 1) 1 40 := ⟨by decide +kernel, rfl⟩
theorem dX8_ahead_40 : D1 cX8_ahead 40 (.invokevirtual 122) 3 43 := ⟨by decide +kernel, rfl⟩
theorem dX8_ahead_43 : DJ cX8_ahead 43 (.ifCond .eq) 46 52 := ⟨9, by decide +kernel, rfl, by decide⟩
theorem dX8_ahead_46 : D1 cX8_ahead 46 (.aload_n 0) 1 47 := ⟨by decide +kernel, rfl⟩
theorem dX8_ahead_47 : D1 cX8_ahead 47 (.iconst 4) 1 48 := ⟨by decide +kernel, rfl⟩
theorem dX8_ahead_48 : D1 cX8_ahead 48 (.invokevirtual 55) 3 51 := ⟨by decide +kernel, rfl⟩
theorem dX8_ahead_51 : D1 cX8_ahead 51 (.ireturn) 1 52 := ⟨by decide +kernel, rfl⟩
theorem dX8_ahead_52 : D1 cX8_ahead 52 (.aload_n 0) 1 53 := ⟨by decide +kernel, rfl⟩
theorem dX8_ahead_53 : D1 cX8_ahead 53 (.invokevirtual 145) 3 56 := ⟨by decide +kernel, rfl⟩
theorem dX8_ahead_56 : D1 cX8_ahead 56 (.astore_n 3) 1 57 := ⟨by decide +kernel, rfl⟩
theorem dX8_ahead_57 : D1 cX8_ahead 57 (.aload_n 3) 1 58 := ⟨by decide +kernel, rfl⟩
theorem dX8_ahead_58 : D1 cX8_ahead 58 (.iload_n 1) 1 59 := ⟨by decide +kernel, rfl⟩
theorem dX8_ahead_59 : D1 cX8_ahead 59 (.invokevirtual 129) 3 62 := ⟨by decide +kernel, rfl⟩
theorem dX8_ahead_62 : D1 cX8_ahead 62 (.iload_n 2) 1 63 := ⟨by decide +kernel, rfl⟩
theorem dX8_ahead_63 : decode cX8_ahead 63 = .ok (.tableswitch 67 0 3 #[29, 34, 39, 52], 29) := by decide +kernel
theorem dX8_ahead_92 : D1 cX8_ahead 92 (.aload_n 3) 1 93 := ⟨by decide +kernel, rfl⟩
theorem dX8_ahead_93 : D1 cX8_ahead 93 (.invokevirtual 139) 3 96 := ⟨by decide +kernel, rfl⟩
theorem dX8_ahead_96 : D1 cX8_ahead 96 (.ireturn) 1 97 := ⟨by decide +kernel, rfl⟩
theorem dX8_ahead_97 : D1 cX8_ahead 97 (.aload_n 3) 1 98 := ⟨by decide +kernel, rfl⟩
theorem dX8_ahead_98 : D1 cX8_ahead 98 (.invokevirtual 149) 3 101 := ⟨by decide +kernel, rfl⟩
theorem dX8_ahead_101 : D1 cX8_ahead 101 (.ireturn) 1 102 := ⟨by decide +kernel, rfl⟩
theorem dX8_ahead_102 : D1 cX8_ahead 102 (.aload_n 3) 1 103 := ⟨by decide +kernel, rfl⟩
theorem dX8_ahead_103 : D1 cX8_ahead 103 (.getfield 142) 3 106 := ⟨by decide +kernel, rfl⟩
theorem dX8_ahead_106 : D1 cX8_ahead 106 (.aload_n 0) 1 107 := ⟨by decide +kernel, rfl⟩
theorem dX8_ahead_107 : D1 cX8_ahead 107 (.getfield 10) 3 110 := ⟨by decide +kernel, rfl⟩
theorem dX8_ahead_110 : D1 cX8_ahead 110 (.getfield 142) 3 113 := ⟨by decide +kernel, rfl⟩
theorem dX8_ahead_113 : D1 cX8_ahead 113 (.isub) 1 114 := ⟨by decide +kernel, rfl⟩
theorem dX8_ahead_114 : D1 cX8_ahead 114 (.ireturn) 1 115 := ⟨by decide +kernel, rfl⟩
theorem dX8_ahead_115 : D1 cX8_ahead 115 (.aload_n 3) 1 116 := ⟨by decide +kernel, rfl⟩
theorem dX8_ahead_116 : D1 cX8_ahead 116 (.iconst 5) 1 117 := ⟨by decide +kernel, rfl⟩
theorem dX8_ahead_117 : D1 cX8_ahead 117 (.invokevirtual 126) 3 120 := ⟨by decide +kernel, rfl⟩
theorem dX8_ahead_120 : D1 cX8_ahead 120 (.aload_n 0) 1 121 := ⟨by decide +kernel, rfl⟩
theorem dX8_ahead_121 : D1 cX8_ahead 121 (.getfield 10) 3 124 := ⟨by decide +kernel, rfl⟩
theorem dX8_ahead_124 : D1 cX8_ahead 124 (.iconst 5) 1 125 := ⟨by decide +kernel, rfl⟩
theorem dX8_ahead_125 : D1 cX8_ahead 125 (.invokevirtual 126) 3 128 := ⟨by decide +kernel, rfl⟩
theorem dX8_ahead_128 : D1 cX8_ahead 128 (.isub) 1 129 := ⟨by decide +kernel, rfl⟩
theorem dX8_ahead_129 : D1 cX8_ahead 129 (.ireturn) 1 130 := ⟨by decide +kernel, rfl⟩
theorem dX8_ahead_130 : D1 cX8_ahead 130 (.aload_n 3) 1 131 := ⟨by decide +kernel, rfl⟩
theorem dX8_ahead_131 : D1 cX8_ahead 131 (.iload_n 2) 1 132 := ⟨by decide +kernel, rfl⟩
theorem dX8_ahead_132 : D1 cX8_ahead 132 (.iconst 4) 1 133 := ⟨by decide +kernel, rfl⟩
theorem dX8_ahead_133 : D1 cX8_ahead 133 (.isub) 1 134 := ⟨by decide +kernel, rfl⟩
theorem dX8_ahead_134 : D1 cX8_ahead 134 (.invokevirtual 67) 3 137 := ⟨by decide +kernel, rfl⟩
theorem dX8_ahead_137 : D1 cX8_ahead 137 (.astore 4) 2 139 := ⟨by decide +kernel, rfl⟩
theorem dX8_ahead_139 : D1 cX8_ahead 139 (.aload 4) 2 141 := ⟨by decide +kernel, rfl⟩
theorem dX8_ahead_141 : DJ cX8_ahead 141 .ifnonnull 144 148 := ⟨7, by decide +kernel, rfl, by decide⟩
theorem dX8_ahead_144 : D1 cX8_ahead 144 (.iconst 0) 1 145 := ⟨by decide +kernel, rfl⟩
theorem dX8_ahead_145 : DJ cX8_ahead 145 .goto 148 153 := ⟨8, by decide +kernel, rfl, by decide⟩
theorem dX8_ahead_148 : D1 cX8_ahead 148 (.aload 4) 2 150 := ⟨by decide +kernel, rfl⟩
theorem dX8_ahead_150 : D1 cX8_ahead 150 (.getfield 152) 3 153 := ⟨by decide +kernel, rfl⟩
theorem dX8_ahead_153 : D1 cX8_ahead 153 (.ireturn) 1 154 := ⟨by decide +kernel, rfl⟩
theorem dX8_cold_0 : D1 cX8_cold 0 (.aload_n 0) 1 1 := ⟨by decide +kernel, rfl⟩
theorem dX8_cold_1 : D1 cX8_cold 1 (.getfield 10) 3 4 := ⟨by decide +kernel, rfl⟩
theorem dX8_cold_4 : D1 cX8_cold 4 (.iload_n 1) 1 5 := ⟨by decide +kernel, rfl⟩
theorem dX8_cold_5 : D1 cX8_cold 5 (.invokevirtual 67) 3 8 := ⟨by decide +kernel, rfl⟩
theorem dX8_cold_8 : DJ cX8_cold 8 .ifnonnull 11 17 := ⟨9, by decide +kernel, rfl, by decide⟩
theorem dX8_cold_11 : D1 cX8_cold 11 (.aload_n 0) 1 12 := ⟨by decide +kernel, rfl⟩
theorem dX8_cold_12 : D1 cX8_cold 12 (.iconst 0) 1 13 := ⟨by decide +kernel, rfl⟩
theorem dX8_cold_13 : D1 cX8_cold 13 (.invokevirtual 55) 3 16 := ⟨by decide +kernel, rfl⟩
theorem dX8_cold_16 : D1 cX8_cold 16 (.ireturn) 1 17 := ⟨by decide +kernel, rfl⟩
theorem dX8_cold_17 : D1 cX8_cold 17 (.aload_n 0) 1 18 := ⟨by decide +kernel, rfl⟩
theorem dX8_cold_18 : D1 cX8_cold 18 (.bipush 96) 2 20 := ⟨by decide +kernel, rfl⟩
theorem dX8_cold_20 : D1 cX8_cold 20 (.invokevirtual 122) 3 23 := ⟨by decide +kernel, rfl⟩
theorem dX8_cold_23 : DJ cX8_cold 23 (.ifCond .eq) 26 32 := ⟨9, by decide +kernel, rfl, by decide⟩
theorem dX8_cold_26 : D1 cX8_cold 26 (.aload_n 0) 1 27 := ⟨by decide +kernel, rfl⟩
theorem dX8_cold_27 : D1 cX8_cold 27 (.iconst 4) 1 28 := ⟨by decide +kernel, rfl⟩
theorem dX8_cold_28 : D1 cX8_cold 28 (.invokevirtual 55) 3 31 := ⟨by decide +kernel, rfl⟩
theorem dX8_cold_31 : D1 cX8_cold 31 (.ireturn) 1 32 := ⟨by decide +kernel, rfl⟩
theorem dX8_cold_32 : D1 cX8_cold 32 (.aload_n 0) 1 33 := ⟨by decide +kernel, rfl⟩
theorem dX8_cold_33 : D1 cX8_cold 33 (.invokevirtual 145) 3 36 := ⟨by decide +kernel, rfl⟩
theorem dX8_cold_36 : D1 cX8_cold 36 (.astore_n 2) 1 37 := ⟨by decide +kernel, rfl⟩
theorem dX8_cold_37 : D1 cX8_cold 37 (.iconst 0) 1 38 := ⟨by decide +kernel, rfl⟩
theorem dX8_cold_38 : D1 cX8_cold 38 (.istore_n 3) 1 39 := ⟨by decide +kernel, rfl⟩
theorem dX8_cold_39 : D1 cX8_cold 39 (.iload_n 3) 1 40 := ⟨by decide +kernel, rfl⟩
theorem dX8_cold_40 : D1 cX8_cold 40 (.bipush 96) 2 42 := ⟨by decide +kernel, rfl⟩
theorem dX8_cold_42 : DJ cX8_cold 42 (.if_icmp .gt) 45 66 := ⟨24, by decide +kernel, rfl, by decide⟩
theorem dX8_cold_45 : D1 cX8_cold 45 (.aload_n 2) 1 46 := ⟨by decide +kernel, rfl⟩
theorem dX8_cold_46 : D1 cX8_cold 46 (.iload_n 1) 1 47 := ⟨by decide +kernel, rfl⟩
theorem dX8_cold_47 : D1 cX8_cold 47 (.invokevirtual 155) 3 50 := ⟨by decide +kernel, rfl⟩
theorem dX8_cold_50 : DJ cX8_cold 50 (.ifCond .eq) 53 55 := ⟨5, by decide +kernel, rfl, by decide⟩
theorem dX8_cold_53 : D1 cX8_cold 53 (.iload_n 3) 1 54 := ⟨by decide +kernel, rfl⟩
theorem dX8_cold_54 : D1 cX8_cold 54 (.ireturn) 1 55 := ⟨by decide +kernel, rfl⟩
theorem dX8_cold_55 : D1 cX8_cold 55 (.aload_n 2) 1 56 := ⟨by decide +kernel, rfl⟩
theorem dX8_cold_56 : D1 cX8_cold 56 (.iconst 1) 1 57 := ⟨by decide +kernel, rfl⟩
theorem dX8_cold_57 : D1 cX8_cold 57 (.invokevirtual 129) 3 60 := ⟨by decide +kernel, rfl⟩
theorem dX8_cold_60 : D1 cX8_cold 60 (.iinc 3 1) 3 63 := ⟨by decide +kernel, rfl⟩
theorem dX8_cold_63 : DJ cX8_cold 63 .goto 66 39 := ⟨(-24), by decide +kernel, rfl, by decide⟩
theorem dX8_cold_66 : D1 cX8_cold 66 (.aload_n 0) 1 67 := ⟨by decide +kernel, rfl⟩
theorem dX8_cold_67 : D1 cX8_cold 67 (.iconst 3) 1 68 := ⟨by decide +kernel, rfl⟩
theorem dX8_cold_68 : D1 cX8_cold 68 (.invokevirtual 55) 3 71 := ⟨by decide +kernel, rfl⟩
theorem dX8_cold_71 : D1 cX8_cold 71 (.ireturn) 1 72 := ⟨by decide +kernel, rfl⟩
theorem dX8_bake_0 : D1 cX8_bake 0 (.aload_n 0) 1 1 := ⟨by decide +kernel, rfl⟩
theorem dX8_bake_1 : D1 cX8_bake 1 (.getfield 10) 3 4 := ⟨by decide +kernel, rfl⟩
theorem dX8_bake_4 : D1 cX8_bake 4 (.iload_n 1) 1 5 := ⟨by decide +kernel, rfl⟩
theorem dX8_bake_5 : D1 cX8_bake 5 (.invokevirtual 67) 3 8 := ⟨by decide +kernel, rfl⟩
theorem dX8_bake_8 : D1 cX8_bake 8 (.astore_n 2) 1 9 := ⟨by decide +kernel, rfl⟩
theorem dX8_bake_9 : D1 cX8_bake 9 (.aload_n 2) 1 10 := ⟨by decide +kernel, rfl⟩
theorem dX8_bake_10 : DJ cX8_bake 10 .ifnonnull 13 19 := ⟨9, by decide +kernel, rfl, by decide⟩
theorem dX8_bake_13 : D1 cX8_bake 13 (.aload_n 0) 1 14 := ⟨by decide +kernel, rfl⟩
theorem dX8_bake_14 : D1 cX8_bake 14 (.iconst 0) 1 15 := ⟨by decide +kernel, rfl⟩
theorem dX8_bake_15 : D1 cX8_bake 15 (.invokevirtual 55) 3 18 := ⟨by decide +kernel, rfl⟩
theorem dX8_bake_18 : D1 cX8_bake 18 (.ireturn) 1 19 := ⟨by decide +kernel, rfl⟩
theorem dX8_bake_19 : D1 cX8_bake 19 (.aload_n 0) 1 20 := ⟨by decide +kernel, rfl⟩
theorem dX8_bake_20 : D1 cX8_bake 20 (.sipush 9903) 3 23 := ⟨by decide +kernel, rfl⟩
theorem dX8_bake_23 : D1 cX8_bake 23 (.invokevirtual 158) 3 26 := ⟨by decide +kernel, rfl⟩
theorem dX8_bake_26 : DJ cX8_bake 26 (.ifCond .eq) 29 35 := ⟨9, by decide +kernel, rfl, by decide⟩
theorem dX8_bake_29 : D1 cX8_bake 29 (.aload_n 0) 1 30 := ⟨by decide +kernel, rfl⟩
theorem dX8_bake_30 : D1 cX8_bake 30 (.iconst 4) 1 31 := ⟨by decide +kernel, rfl⟩
theorem dX8_bake_31 : D1 cX8_bake 31 (.invokevirtual 55) 3 34 := ⟨by decide +kernel, rfl⟩
theorem dX8_bake_34 : D1 cX8_bake 34 (.ireturn) 1 35 := ⟨by decide +kernel, rfl⟩
theorem dX8_bake_35 : D1 cX8_bake 35 (.aload_n 0) 1 36 := ⟨by decide +kernel, rfl⟩
theorem dX8_bake_36 : D1 cX8_bake 36 (.invokevirtual 145) 3 39 := ⟨by decide +kernel, rfl⟩
theorem dX8_bake_39 : D1 cX8_bake 39 (.astore_n 3) 1 40 := ⟨by decide +kernel, rfl⟩
theorem dX8_bake_40 : D1 cX8_bake 40 (.aload_n 3) 1 41 := ⟨by decide +kernel, rfl⟩
theorem dX8_bake_41 : D1 cX8_bake 41 (.iload_n 1) 1 42 := ⟨by decide +kernel, rfl⟩
theorem dX8_bake_42 : D1 cX8_bake 42 (.invokevirtual 119) 3 45 := ⟨by decide +kernel, rfl⟩
theorem dX8_bake_45 : D1 cX8_bake 45 (.pop) 1 46 := ⟨by decide +kernel, rfl⟩
theorem dX8_bake_46 : D1 cX8_bake 46 (.aload_n 3) 1 47 := ⟨by decide +kernel, rfl⟩
theorem dX8_bake_47 : D1 cX8_bake 47 (.iload_n 1) 1 48 := ⟨by decide +kernel, rfl⟩
theorem dX8_bake_48 : D1 cX8_bake 48 (.invokevirtual 67) 3 51 := ⟨by decide +kernel, rfl⟩
theorem dX8_bake_51 : D1 cX8_bake 51 (.astore 4) 2 53 := ⟨by decide +kernel, rfl⟩
theorem dX8_bake_53 : D1 cX8_bake 53 (.iconst 0) 1 54 := ⟨by decide +kernel, rfl⟩
theorem dX8_bake_54 : D1 cX8_bake 54 (.istore 5) 2 56 := ⟨by decide +kernel, rfl⟩
theorem dX8_bake_56 : D1 cX8_bake 56 (.iload 5) 2 58 := ⟨by decide +kernel, rfl⟩
theorem dX8_bake_58 : D1 cX8_bake 58 (.bipush 96) 2 60 := ⟨by decide +kernel, rfl⟩
theorem dX8_bake_60 : DJ cX8_bake 60 (.if_icmp .gt) 63 94 := ⟨34, by decide +kernel, rfl, by decide⟩
theorem dX8_bake_63 : D1 cX8_bake 63 (.aload 4) 2 65 := ⟨by decide +kernel, rfl⟩
theorem dX8_bake_65 : DJ cX8_bake 65 .ifnull 68 83 := ⟨18, by decide +kernel, rfl, by decide⟩
theorem dX8_bake_68 : D1 cX8_bake 68 (.aload 4) 2 70 := ⟨by decide +kernel, rfl⟩
theorem dX8_bake_70 : D1 cX8_bake 70 (.getfield 70) 3 73 := ⟨by decide +kernel, rfl⟩
theorem dX8_bake_73 : D1 cX8_bake 73 (.aload_n 2) 1 74 := ⟨by decide +kernel, rfl⟩
theorem dX8_bake_74 : D1 cX8_bake 74 (.getfield 70) 3 77 := ⟨by decide +kernel, rfl⟩
theorem dX8_bake_77 : DJ cX8_bake 77 (.if_icmp .le) 80 83 := ⟨6, by decide +kernel, rfl, by decide⟩
theorem dX8_bake_80 : D1 cX8_bake 80 (.iload 5) 2 82 := ⟨by decide +kernel, rfl⟩
theorem dX8_bake_82 : D1 cX8_bake 82 (.ireturn) 1 83 := ⟨by decide +kernel, rfl⟩
theorem dX8_bake_83 : D1 cX8_bake 83 (.aload_n 3) 1 84 := ⟨by decide +kernel, rfl⟩
theorem dX8_bake_84 : D1 cX8_bake 84 (.iconst 1) 1 85 := ⟨by decide +kernel, rfl⟩
theorem dX8_bake_85 : D1 cX8_bake 85 (.invokevirtual 129) 3 88 := ⟨by decide +kernel, rfl⟩
theorem dX8_bake_88 : D1 cX8_bake 88 (.iinc 5 1) 3 91 := ⟨by decide +kernel, rfl⟩
theorem dX8_bake_91 : DJ cX8_bake 91 .goto 94 56 := ⟨(-35), by decide +kernel, rfl, by decide⟩
theorem dX8_bake_94 : D1 cX8_bake 94 (.aload_n 0) 1 95 := ⟨by decide +kernel, rfl⟩
theorem dX8_bake_95 : D1 cX8_bake 95 (.iconst 3) 1 96 := ⟨by decide +kernel, rfl⟩
theorem dX8_bake_96 : D1 cX8_bake 96 (.invokevirtual 55) 3 99 := ⟨by decide +kernel, rfl⟩
theorem dX8_bake_99 : D1 cX8_bake 99 (.ireturn) 1 100 := ⟨by decide +kernel, rfl⟩
theorem dX8_best_0 : D1 cX8_best 0 (.iload_n 1) 1 1 := ⟨by decide +kernel, rfl⟩
theorem dX8_best_1 : D1 cX8_best 1 (.iconst 1) 1 2 := ⟨by decide +kernel, rfl⟩
theorem dX8_best_2 : D1 cX8_best 2 (.bipush 96) 2 4 := ⟨by decide +kernel, rfl⟩
theorem dX8_best_4 : D1 cX8_best 4 (.invokestatic 51) 3 7 := ⟨by decide +kernel, rfl⟩
theorem dX8_best_7 : DJ cX8_best 7 (.ifCond .ne) 10 16 := ⟨9, by decide +kernel, rfl, by decide⟩
theorem dX8_best_10 : D1 cX8_best 10 (.aload_n 0) 1 11 := ⟨by decide +kernel, rfl⟩
theorem dX8_best_11 : D1 cX8_best 11 (.iconst 0) 1 12 := ⟨by decide +kernel, rfl⟩
theorem dX8_best_12 : D1 cX8_best 12 (.invokevirtual 55) 3 15 := ⟨by decide +kernel, rfl⟩
theorem dX8_best_15 : D1 cX8_best 15 (.ireturn) 1 16 := ⟨by decide +kernel, rfl⟩
theorem dX8_best_16 : D1 cX8_best 16 (.aload_n 0) 1 17 := ⟨by decide +kernel, rfl⟩
theorem dX8_best_17 : D1 cX8_best 17 (.sipush 9999) 3 20 := ⟨by decide +kernel, rfl⟩
theorem dX8_best_20 : D1 cX8_best 20 (.iload_n 1) 1 21 := ⟨by decide +kernel, rfl⟩
theorem dX8_best_21 : D1 cX8_best 21 (.isub) 1 22 := ⟨by decide +kernel, rfl⟩
theorem dX8_best_22 : D1 cX8_best 22 (.invokevirtual 158) 3 25 := ⟨by decide +kernel, rfl⟩
theorem dX8_best_25 : DJ cX8_best 25 (.ifCond .eq) 28 34 := ⟨9, by decide +kernel, rfl, by decide⟩
theorem dX8_best_28 : D1 cX8_best 28 (.aload_n 0) 1 29 := ⟨by decide +kernel, rfl⟩
theorem dX8_best_29 : D1 cX8_best 29 (.iconst 4) 1 30 := ⟨by decide +kernel, rfl⟩
theorem dX8_best_30 : D1 cX8_best 30 (.invokevirtual 55) 3 33 := ⟨by decide +kernel, rfl⟩
theorem dX8_best_33 : D1 cX8_best 33 (.ireturn) 1 34 := ⟨by decide +kernel, rfl⟩
theorem dX8_best_34 : D1 cX8_best 34 (.iconst 0) 1 35 := ⟨by decide +kernel, rfl⟩
theorem dX8_best_35 : D1 cX8_best 35 (.istore_n 2) 1 36 := ⟨by decide +kernel, rfl⟩
theorem dX8_best_36 : D1 cX8_best 36 (.iconst (-1)) 1 37 := ⟨by decide +kernel, rfl⟩
theorem dX8_best_37 : D1 cX8_best 37 (.istore_n 3) 1 38 := ⟨by decide +kernel, rfl⟩
theorem dX8_best_38 : D1 cX8_best 38 (.iconst 0) 1 39 := ⟨by decide +kernel, rfl⟩
theorem dX8_best_39 : D1 cX8_best 39 (.istore 4) 2 41 := ⟨by decide +kernel, rfl⟩
theorem dX8_best_41 : D1 cX8_best 41 (.iload 4) 2 43 := ⟨by decide +kernel, rfl⟩
theorem dX8_best_43 : D1 cX8_best 43 (.aload_n 0) 1 44 := ⟨by decide +kernel, rfl⟩
theorem dX8_best_44 : D1 cX8_best 44 (.getfield 10) 3 47 := ⟨by decide +kernel, rfl⟩
theorem dX8_best_47 : D1 cX8_best 47 (.getfield 59) 3 50 := ⟨by decide +kernel, rfl⟩
theorem dX8_best_50 : DJ cX8_best 50 (.if_icmp .ge) 53 83 := ⟨33, by decide +kernel, rfl, by decide⟩
theorem dX8_best_53 : D1 cX8_best 53 (.aload_n 0) 1 54 := ⟨by decide +kernel, rfl⟩
theorem dX8_best_54 : D1 cX8_best 54 (.iload 4) 2 56 := ⟨by decide +kernel, rfl⟩
theorem dX8_best_56 : D1 cX8_best 56 (.iload_n 1) 1 57 := ⟨by decide +kernel, rfl⟩
theorem dX8_best_57 : D1 cX8_best 57 (.invokevirtual 161) 3 60 := ⟨by decide +kernel, rfl⟩
theorem dX8_best_60 : D1 cX8_best 60 (.invokevirtual 149) 3 63 := ⟨by decide +kernel, rfl⟩
theorem dX8_best_63 : D1 cX8_best 63 (.istore 5) 2 65 := ⟨by decide +kernel, rfl⟩
theorem dX8_best_65 : D1 cX8_best 65 (.iload 5) 2 67 := ⟨by decide +kernel, rfl⟩
theorem dX8_best_67 : D1 cX8_best 67 (.iload_n 3) 1 68 := ⟨by decide +kernel, rfl⟩
theorem dX8_best_68 : DJ cX8_best 68 (.if_icmp .le) 71 77 := ⟨9, by decide +kernel, rfl, by decide⟩
theorem dX8_best_71 : D1 cX8_best 71 (.iload 5) 2 73 := ⟨by decide +kernel, rfl⟩
theorem dX8_best_73 : D1 cX8_best 73 (.istore_n 3) 1 74 := ⟨by decide +kernel, rfl⟩
theorem dX8_best_74 : D1 cX8_best 74 (.iload 4) 2 76 := ⟨by decide +kernel, rfl⟩
theorem dX8_best_76 : D1 cX8_best 76 (.istore_n 2) 1 77 := ⟨by decide +kernel, rfl⟩
theorem dX8_best_77 : D1 cX8_best 77 (.iinc 4 1) 3 80 := ⟨by decide +kernel, rfl⟩
theorem dX8_best_80 : DJ cX8_best 80 .goto 83 41 := ⟨(-39), by decide +kernel, rfl, by decide⟩
theorem dX8_best_83 : D1 cX8_best 83 (.iload_n 2) 1 84 := ⟨by decide +kernel, rfl⟩
theorem dX8_best_84 : D1 cX8_best 84 (.ireturn) 1 85 := ⟨by decide +kernel, rfl⟩
theorem dX8_lost_0 : D1 cX8_lost 0 (.iload_n 1) 1 1 := ⟨by decide +kernel, rfl⟩
theorem dX8_lost_1 : D1 cX8_lost 1 (.iconst 1) 1 2 := ⟨by decide +kernel, rfl⟩
theorem dX8_lost_2 : D1 cX8_lost 2 (.bipush 96) 2 4 := ⟨by decide +kernel, rfl⟩
theorem dX8_lost_4 : D1 cX8_lost 4 (.invokestatic 51) 3 7 := ⟨by decide +kernel, rfl⟩
theorem dX8_lost_7 : DJ cX8_lost 7 (.ifCond .ne) 10 16 := ⟨9, by decide +kernel, rfl, by decide⟩
theorem dX8_lost_10 : D1 cX8_lost 10 (.aload_n 0) 1 11 := ⟨by decide +kernel, rfl⟩
theorem dX8_lost_11 : D1 cX8_lost 11 (.iconst 0) 1 12 := ⟨by decide +kernel, rfl⟩
theorem dX8_lost_12 : D1 cX8_lost 12 (.invokevirtual 55) 3 15 := ⟨by decide +kernel, rfl⟩
theorem dX8_lost_15 : D1 cX8_lost 15 (.ireturn) 1 16 := ⟨by decide +kernel, rfl⟩
theorem dX8_lost_16 : D1 cX8_lost 16 (.aload_n 0) 1 17 := ⟨by decide +kernel, rfl⟩
theorem dX8_lost_17 : D1 cX8_lost 17 (.sipush 9999) 3 20 := ⟨by decide +kernel, rfl⟩
theorem dX8_lost_20 : D1 cX8_lost 20 (.iload_n 1) 1 21 := ⟨by decide +kernel, rfl⟩
theorem dX8_lost_21 : D1 cX8_lost 21 (.isub) 1 22 := ⟨by decide +kernel, rfl⟩
theorem dX8_lost_22 : D1 cX8_lost 22 (.invokevirtual 158) 3 25 := ⟨by decide +kernel, rfl⟩
theorem dX8_lost_25 : DJ cX8_lost 25 (.ifCond .eq) 28 34 := ⟨9, by decide +kernel, rfl, by decide⟩
theorem dX8_lost_28 : D1 cX8_lost 28 (.aload_n 0) 1 29 := ⟨by decide +kernel, rfl⟩
theorem dX8_lost_29 : D1 cX8_lost 29 (.iconst 4) 1 30 := ⟨by decide +kernel, rfl⟩
theorem dX8_lost_30 : D1 cX8_lost 30 (.invokevirtual 55) 3 33 := ⟨by decide +kernel, rfl⟩
theorem dX8_lost_33 : D1 cX8_lost 33 (.ireturn) 1 34 := ⟨by decide +kernel, rfl⟩
theorem dX8_lost_34 : D1 cX8_lost 34 (.iconst (-1)) 1 35 := ⟨by decide +kernel, rfl⟩
theorem dX8_lost_35 : D1 cX8_lost 35 (.istore_n 2) 1 36 := ⟨by decide +kernel, rfl⟩
theorem dX8_lost_36 : D1 cX8_lost 36 (.iconst 0) 1 37 := ⟨by decide +kernel, rfl⟩
theorem dX8_lost_37 : D1 cX8_lost 37 (.istore_n 3) 1 38 := ⟨by decide +kernel, rfl⟩
theorem dX8_lost_38 : D1 cX8_lost 38 (.iload_n 3) 1 39 := ⟨by decide +kernel, rfl⟩
theorem dX8_lost_39 : D1 cX8_lost 39 (.aload_n 0) 1 40 := ⟨by decide +kernel, rfl⟩
theorem dX8_lost_40 : D1 cX8_lost 40 (.getfield 10) 3 43 := ⟨by decide +kernel, rfl⟩
theorem dX8_lost_43 : D1 cX8_lost 43 (.getfield 59) 3 46 := ⟨by decide +kernel, rfl⟩
theorem dX8_lost_46 : DJ cX8_lost 46 (.if_icmp .ge) 49 67 := ⟨21, by decide +kernel, rfl, by decide⟩
theorem dX8_lost_49 : D1 cX8_lost 49 (.iload_n 2) 1 50 := ⟨by decide +kernel, rfl⟩
theorem dX8_lost_50 : D1 cX8_lost 50 (.aload_n 0) 1 51 := ⟨by decide +kernel, rfl⟩
theorem dX8_lost_51 : D1 cX8_lost 51 (.iload_n 3) 1 52 := ⟨by decide +kernel, rfl⟩
theorem dX8_lost_52 : D1 cX8_lost 52 (.iload_n 1) 1 53 := ⟨by decide +kernel, rfl⟩
theorem dX8_lost_53 : D1 cX8_lost 53 (.invokevirtual 161) 3 56 := ⟨by decide +kernel, rfl⟩
theorem dX8_lost_56 : D1 cX8_lost 56 (.invokevirtual 139) 3 59 := ⟨by decide +kernel, rfl⟩
theorem dX8_lost_59 : D1 cX8_lost 59 (.iand) 1 60 := ⟨by decide +kernel, rfl⟩
theorem dX8_lost_60 : D1 cX8_lost 60 (.istore_n 2) 1 61 := ⟨by decide +kernel, rfl⟩
theorem dX8_lost_61 : D1 cX8_lost 61 (.iinc 3 1) 3 64 := ⟨by decide +kernel, rfl⟩
theorem dX8_lost_64 : DJ cX8_lost 64 .goto 67 38 := ⟨(-26), by decide +kernel, rfl, by decide⟩
theorem dX8_lost_67 : D1 cX8_lost 67 (.iload_n 2) 1 68 := ⟨by decide +kernel, rfl⟩
theorem dX8_lost_68 : D1 cX8_lost 68 (.ireturn) 1 69 := ⟨by decide +kernel, rfl⟩
theorem dX8_stay_0 : D1 cX8_stay 0 (.aload_n 0) 1 1 := ⟨by decide +kernel, rfl⟩
theorem dX8_stay_1 : D1 cX8_stay 1 (.getfield 10) 3 4 := ⟨by decide +kernel, rfl⟩
theorem dX8_stay_4 : D1 cX8_stay 4 (.iload_n 1) 1 5 := ⟨by decide +kernel, rfl⟩
theorem dX8_stay_5 : D1 cX8_stay 5 (.invokevirtual 67) 3 8 := ⟨by decide +kernel, rfl⟩
theorem dX8_stay_8 : DJ cX8_stay 8 .ifnull 11 21 := ⟨13, by decide +kernel, rfl, by decide⟩
theorem dX8_stay_11 : D1 cX8_stay 11 (.iload_n 2) 1 12 := ⟨by decide +kernel, rfl⟩
theorem dX8_stay_12 : D1 cX8_stay 12 (.iconst 0) 1 13 := ⟨by decide +kernel, rfl⟩
theorem dX8_stay_13 : D1 cX8_stay 13 (.bipush 40) 2 15 := ⟨by decide +kernel, rfl⟩
theorem dX8_stay_15 : D1 cX8_stay 15 (.invokestatic 51) 3 18 := ⟨by decide +kernel, rfl⟩
theorem dX8_stay_18 : DJ cX8_stay 18 (.ifCond .ne) 21 27 := ⟨9, by decide +kernel, rfl, by decide⟩
theorem dX8_stay_21 : D1 cX8_stay 21 (.aload_n 0) 1 22 := ⟨by decide +kernel, rfl⟩
theorem dX8_stay_22 : D1 cX8_stay 22 (.iconst 0) 1 23 := ⟨by decide +kernel, rfl⟩
theorem dX8_stay_23 : D1 cX8_stay 23 (.invokevirtual 55) 3 26 := ⟨by decide +kernel, rfl⟩
theorem dX8_stay_26 : D1 cX8_stay 26 (.ireturn) 1 27 := ⟨by decide +kernel, rfl⟩
theorem dX8_stay_27 : D1 cX8_stay 27 (.aload_n 0) 1 28 := ⟨by decide +kernel, rfl⟩
theorem dX8_stay_28 : D1 cX8_stay 28 (.sipush 9800) 3 31 := ⟨by decide +kernel, rfl⟩
theorem dX8_stay_31 : D1 cX8_stay 31 (.invokevirtual 158) 3 34 := ⟨by decide +kernel, rfl⟩
theorem dX8_stay_34 : DJ cX8_stay 34 (.ifCond .eq) 37 43 := ⟨9, by decide +kernel, rfl, by decide⟩
theorem dX8_stay_37 : D1 cX8_stay 37 (.aload_n 0) 1 38 := ⟨by decide +kernel, rfl⟩
theorem dX8_stay_38 : D1 cX8_stay 38 (.iconst 4) 1 39 := ⟨by decide +kernel, rfl⟩
theorem dX8_stay_39 : D1 cX8_stay 39 (.invokevirtual 55) 3 42 := ⟨by decide +kernel, rfl⟩
theorem dX8_stay_42 : D1 cX8_stay 42 (.ireturn) 1 43 := ⟨by decide +kernel, rfl⟩
theorem dX8_stay_43 : D1 cX8_stay 43 (.aload_n 0) 1 44 := ⟨by decide +kernel, rfl⟩
theorem dX8_stay_44 : D1 cX8_stay 44 (.invokevirtual 145) 3 47 := ⟨by decide +kernel, rfl⟩
theorem dX8_stay_47 : D1 cX8_stay 47 (.astore_n 3) 1 48 := ⟨by decide +kernel, rfl⟩
theorem dX8_stay_48 : D1 cX8_stay 48 (.aload_n 3) 1 49 := ⟨by decide +kernel, rfl⟩
theorem dX8_stay_49 : D1 cX8_stay 49 (.aload_n 3) 1 50 := ⟨by decide +kernel, rfl⟩
theorem dX8_stay_50 : D1 cX8_stay 50 (.iload_n 1) 1 51 := ⟨by decide +kernel, rfl⟩
theorem dX8_stay_51 : D1 cX8_stay 51 (.invokevirtual 119) 3 54 := ⟨by decide +kernel, rfl⟩
theorem dX8_stay_54 : D1 cX8_stay 54 (.invokevirtual 129) 3 57 := ⟨by decide +kernel, rfl⟩
theorem dX8_stay_57 : D1 cX8_stay 57 (.iconst 0) 1 58 := ⟨by decide +kernel, rfl⟩
theorem dX8_stay_58 : D1 cX8_stay 58 (.istore 4) 2 60 := ⟨by decide +kernel, rfl⟩
theorem dX8_stay_60 : D1 cX8_stay 60 (.iload 4) 2 62 := ⟨by decide +kernel, rfl⟩
theorem dX8_stay_62 : D1 cX8_stay 62 (.bipush 48) 2 64 := ⟨by decide +kernel, rfl⟩
theorem dX8_stay_64 : DJ cX8_stay 64 (.if_icmp .gt) 67 116 := ⟨52, by decide +kernel, rfl, by decide⟩
theorem dX8_stay_67 : D1 cX8_stay 67 (.aload_n 0) 1 68 := ⟨by decide +kernel, rfl⟩
theorem dX8_stay_68 : D1 cX8_stay 68 (.getfield 22) 3 71 := ⟨by decide +kernel, rfl⟩
theorem dX8_stay_71 : D1 cX8_stay 71 (.aload_n 3) 1 72 := ⟨by decide +kernel, rfl⟩
theorem dX8_stay_72 : D1 cX8_stay 72 (.invokevirtual 165) 3 75 := ⟨by decide +kernel, rfl⟩
theorem dX8_stay_75 : D1 cX8_stay 75 (.aload_n 0) 1 76 := ⟨by decide +kernel, rfl⟩
theorem dX8_stay_76 : D1 cX8_stay 76 (.getfield 22) 3 79 := ⟨by decide +kernel, rfl⟩
theorem dX8_stay_79 : D1 cX8_stay 79 (.iconst (-1)) 1 80 := ⟨by decide +kernel, rfl⟩
theorem dX8_stay_80 : D1 cX8_stay 80 (.putfield 136) 3 83 := ⟨by decide +kernel, rfl⟩
theorem dX8_stay_83 : D1 cX8_stay 83 (.aload_n 0) 1 84 := ⟨by decide +kernel, rfl⟩
theorem dX8_stay_84 : D1 cX8_stay 84 (.getfield 22) 3 87 := ⟨by decide +kernel, rfl⟩
theorem dX8_stay_87 : D1 cX8_stay 87 (.iload_n 2) 1 88 := ⟨by decide +kernel, rfl⟩
theorem dX8_stay_88 : D1 cX8_stay 88 (.invokevirtual 129) 3 91 := ⟨by decide +kernel, rfl⟩
theorem dX8_stay_91 : D1 cX8_stay 91 (.aload_n 0) 1 92 := ⟨by decide +kernel, rfl⟩
theorem dX8_stay_92 : D1 cX8_stay 92 (.getfield 22) 3 95 := ⟨by decide +kernel, rfl⟩
theorem dX8_stay_95 : D1 cX8_stay 95 (.iload_n 1) 1 96 := ⟨by decide +kernel, rfl⟩
theorem dX8_stay_96 : D1 cX8_stay 96 (.invokevirtual 155) 3 99 := ⟨by decide +kernel, rfl⟩
theorem dX8_stay_99 : DJ cX8_stay 99 (.ifCond .ne) 102 105 := ⟨6, by decide +kernel, rfl, by decide⟩
theorem dX8_stay_102 : D1 cX8_stay 102 (.iload 4) 2 104 := ⟨by decide +kernel, rfl⟩
theorem dX8_stay_104 : D1 cX8_stay 104 (.ireturn) 1 105 := ⟨by decide +kernel, rfl⟩
theorem dX8_stay_105 : D1 cX8_stay 105 (.aload_n 3) 1 106 := ⟨by decide +kernel, rfl⟩
theorem dX8_stay_106 : D1 cX8_stay 106 (.iconst 1) 1 107 := ⟨by decide +kernel, rfl⟩
theorem dX8_stay_107 : D1 cX8_stay 107 (.invokevirtual 129) 3 110 := ⟨by decide +kernel, rfl⟩
theorem dX8_stay_110 : D1 cX8_stay 110 (.iinc 4 1) 3 113 := ⟨by decide +kernel, rfl⟩
theorem dX8_stay_113 : DJ cX8_stay 113 .goto 116 60 := ⟨(-53), by decide +kernel, rfl, by decide⟩
theorem dX8_stay_116 : D1 cX8_stay 116 (.aload_n 0) 1 117 := ⟨by decide +kernel, rfl⟩
theorem dX8_stay_117 : D1 cX8_stay 117 (.iconst 3) 1 118 := ⟨by decide +kernel, rfl⟩
theorem dX8_stay_118 : D1 cX8_stay 118 (.invokevirtual 55) 3 121 := ⟨by decide +kernel, rfl⟩
theorem dX8_stay_121 : D1 cX8_stay 121 (.ireturn) 1 122 := ⟨by decide +kernel, rfl⟩
theorem dX8_logs_0 : D1 cX8_logs 0 (.aload_n 0) 1 1 := ⟨by decide +kernel, rfl⟩
theorem dX8_logs_1 : D1 cX8_logs 1 (.iload_n 1) 1 2 := ⟨by decide +kernel, rfl⟩
theorem dX8_logs_2 : D1 cX8_logs 2 (.iload_n 2) 1 3 := ⟨by decide +kernel, rfl⟩
theorem dX8_logs_3 : D1 cX8_logs 3 (.iconst 3) 1 4 := ⟨by decide +kernel, rfl⟩
theorem dX8_logs_4 : D1 cX8_logs 4 (.invokevirtual 169) 3 7 := ⟨by decide +kernel, rfl⟩
theorem dX8_logs_7 : D1 cX8_logs 7 (.ireturn) 1 8 := ⟨by decide +kernel, rfl⟩
theorem dX8_wall_0 : D1 cX8_wall 0 (.aload_n 0) 1 1 := ⟨by decide +kernel, rfl⟩
theorem dX8_wall_1 : D1 cX8_wall 1 (.iload_n 1) 1 2 := ⟨by decide +kernel, rfl⟩
theorem dX8_wall_2 : D1 cX8_wall 2 (.iload_n 2) 1 3 := ⟨by decide +kernel, rfl⟩
theorem dX8_wall_3 : D1 cX8_wall 3 (.iconst 2) 1 4 := ⟨by decide +kernel, rfl⟩
theorem dX8_wall_4 : D1 cX8_wall 4 (.invokevirtual 169) 3 7 := ⟨by decide +kernel, rfl⟩
theorem dX8_wall_7 : D1 cX8_wall 7 (.ireturn) 1 8 := ⟨by decide +kernel, rfl⟩
theorem dX8_straw_0 : D1 cX8_straw 0 (.iload_n 1) 1 1 := ⟨by decide +kernel, rfl⟩
theorem dX8_straw_1 : D1 cX8_straw 1 (.iconst 1) 1 2 := ⟨by decide +kernel, rfl⟩
theorem dX8_straw_2 : D1 cX8_straw 2 (.bipush 96) 2 4 := ⟨by decide +kernel, rfl⟩
theorem dX8_straw_4 : D1 cX8_straw 4 (.invokestatic 51) 3 7 := ⟨by decide +kernel, rfl⟩
theorem dX8_straw_7 : DJ cX8_straw 7 (.ifCond .ne) 10 16 := ⟨9, by decide +kernel, rfl, by decide⟩
theorem dX8_straw_10 : D1 cX8_straw 10 (.aload_n 0) 1 11 := ⟨by decide +kernel, rfl⟩
theorem dX8_straw_11 : D1 cX8_straw 11 (.iconst 0) 1 12 := ⟨by decide +kernel, rfl⟩
theorem dX8_straw_12 : D1 cX8_straw 12 (.invokevirtual 55) 3 15 := ⟨by decide +kernel, rfl⟩
theorem dX8_straw_15 : D1 cX8_straw 15 (.ireturn) 1 16 := ⟨by decide +kernel, rfl⟩
theorem dX8_straw_16 : D1 cX8_straw 16 (.aload_n 0) 1 17 := ⟨by decide +kernel, rfl⟩
theorem dX8_straw_17 : D1 cX8_straw 17 (.getfield 10) 3 20 := ⟨by decide +kernel, rfl⟩
theorem dX8_straw_20 : D1 cX8_straw 20 (.getfield 59) 3 23 := ⟨by decide +kernel, rfl⟩
theorem dX8_straw_23 : DJ cX8_straw 23 (.ifCond .eq) 26 34 := ⟨11, by decide +kernel, rfl, by decide⟩
theorem dX8_straw_26 : D1 cX8_straw 26 (.aload_n 0) 1 27 := ⟨by decide +kernel, rfl⟩
theorem dX8_straw_27 : D1 cX8_straw 27 (.iload_n 1) 1 28 := ⟨by decide +kernel, rfl⟩
theorem dX8_straw_28 : D1 cX8_straw 28 (.invokevirtual 122) 3 31 := ⟨by decide +kernel, rfl⟩
theorem dX8_straw_31 : DJ cX8_straw 31 (.ifCond .eq) 34 40 := ⟨9, by decide +kernel, rfl, by decide⟩
theorem dX8_straw_34 : D1 cX8_straw 34 (.aload_n 0) 1 35 := ⟨by decide +kernel, rfl⟩
theorem dX8_straw_35 : D1 cX8_straw 35 (.iconst 4) 1 36 := ⟨by decide +kernel, rfl⟩
theorem dX8_straw_36 : D1 cX8_straw 36 (.invokevirtual 55) 3 39 := ⟨by decide +kernel, rfl⟩
theorem dX8_straw_39 : D1 cX8_straw 39 (.ireturn) 1 40 := ⟨by decide +kernel, rfl⟩
theorem dX8_straw_40 : D1 cX8_straw 40 (.iconst 0) 1 41 := ⟨by decide +kernel, rfl⟩
theorem dX8_straw_41 : D1 cX8_straw 41 (.istore_n 2) 1 42 := ⟨by decide +kernel, rfl⟩
theorem dX8_straw_42 : D1 cX8_straw 42 (.iconst (-1)) 1 43 := ⟨by decide +kernel, rfl⟩
theorem dX8_straw_43 : D1 cX8_straw 43 (.istore_n 3) 1 44 := ⟨by decide +kernel, rfl⟩
theorem dX8_straw_44 : D1 cX8_straw 44 (.iconst 0) 1 45 := ⟨by decide +kernel, rfl⟩
theorem dX8_straw_45 : D1 cX8_straw 45 (.istore 4) 2 47 := ⟨by decide +kernel, rfl⟩
theorem dX8_straw_47 : D1 cX8_straw 47 (.iload 4) 2 49 := ⟨by decide +kernel, rfl⟩
theorem dX8_straw_49 : D1 cX8_straw 49 (.aload_n 0) 1 50 := ⟨by decide +kernel, rfl⟩
theorem dX8_straw_50 : D1 cX8_straw 50 (.getfield 10) 3 53 := ⟨by decide +kernel, rfl⟩
theorem dX8_straw_53 : D1 cX8_straw 53 (.getfield 59) 3 56 := ⟨by decide +kernel, rfl⟩
theorem dX8_straw_56 : DJ cX8_straw 56 (.if_icmp .ge) 59 127 := ⟨71, by decide +kernel, rfl, by decide⟩
theorem dX8_straw_59 : D1 cX8_straw 59 (.aload_n 0) 1 60 := ⟨by decide +kernel, rfl⟩
theorem dX8_straw_60 : D1 cX8_straw 60 (.invokevirtual 145) 3 63 := ⟨by decide +kernel, rfl⟩
theorem dX8_straw_63 : D1 cX8_straw 63 (.astore 5) 2 65 := ⟨by decide +kernel, rfl⟩
theorem dX8_straw_65 : D1 cX8_straw 65 (.aload 5) 2 67 := ⟨by decide +kernel, rfl⟩
theorem dX8_straw_67 : D1 cX8_straw 67 (.iload 4) 2 69 := ⟨by decide +kernel, rfl⟩
theorem dX8_straw_69 : D1 cX8_straw 69 (.invokevirtual 67) 3 72 := ⟨by decide +kernel, rfl⟩
theorem dX8_straw_72 : D1 cX8_straw 72 (.astore 6) 2 74 := ⟨by decide +kernel, rfl⟩
theorem dX8_straw_74 : D1 cX8_straw 74 (.aload 6) 2 76 := ⟨by decide +kernel, rfl⟩
theorem dX8_straw_76 : DJ cX8_straw 76 .ifnull 79 96 := ⟨20, by decide +kernel, rfl, by decide⟩
theorem dX8_straw_79 : D1 cX8_straw 79 (.aload 6) 2 81 := ⟨by decide +kernel, rfl⟩
theorem dX8_straw_81 : D1 cX8_straw 81 (.bipush 40) 2 83 := ⟨by decide +kernel, rfl⟩
theorem dX8_straw_83 : D1 cX8_straw 83 (.aload 6) 2 85 := ⟨by decide +kernel, rfl⟩
theorem dX8_straw_85 : D1 cX8_straw 85 (.getfield 173) 3 88 := ⟨by decide +kernel, rfl⟩
theorem dX8_straw_88 : D1 cX8_straw 88 (.iconst 5) 1 89 := ⟨by decide +kernel, rfl⟩
theorem dX8_straw_89 : D1 cX8_straw 89 (.iadd) 1 90 := ⟨by decide +kernel, rfl⟩
theorem dX8_straw_90 : D1 cX8_straw 90 (.invokestatic 176) 3 93 := ⟨by decide +kernel, rfl⟩
theorem dX8_straw_93 : D1 cX8_straw 93 (.putfield 173) 3 96 := ⟨by decide +kernel, rfl⟩
theorem dX8_straw_96 : D1 cX8_straw 96 (.aload 5) 2 98 := ⟨by decide +kernel, rfl⟩
theorem dX8_straw_98 : D1 cX8_straw 98 (.iload_n 1) 1 99 := ⟨by decide +kernel, rfl⟩
theorem dX8_straw_99 : D1 cX8_straw 99 (.invokevirtual 129) 3 102 := ⟨by decide +kernel, rfl⟩
theorem dX8_straw_102 : D1 cX8_straw 102 (.aload 5) 2 104 := ⟨by decide +kernel, rfl⟩
theorem dX8_straw_104 : D1 cX8_straw 104 (.invokevirtual 149) 3 107 := ⟨by decide +kernel, rfl⟩
theorem dX8_straw_107 : D1 cX8_straw 107 (.istore 7) 2 109 := ⟨by decide +kernel, rfl⟩
theorem dX8_straw_109 : D1 cX8_straw 109 (.iload 7) 2 111 := ⟨by decide +kernel, rfl⟩
theorem dX8_straw_111 : D1 cX8_straw 111 (.iload_n 3) 1 112 := ⟨by decide +kernel, rfl⟩
theorem dX8_straw_112 : DJ cX8_straw 112 (.if_icmp .le) 115 121 := ⟨9, by decide +kernel, rfl, by decide⟩
theorem dX8_straw_115 : D1 cX8_straw 115 (.iload 7) 2 117 := ⟨by decide +kernel, rfl⟩
theorem dX8_straw_117 : D1 cX8_straw 117 (.istore_n 3) 1 118 := ⟨by decide +kernel, rfl⟩
theorem dX8_straw_118 : D1 cX8_straw 118 (.iload 4) 2 120 := ⟨by decide +kernel, rfl⟩
theorem dX8_straw_120 : D1 cX8_straw 120 (.istore_n 2) 1 121 := ⟨by decide +kernel, rfl⟩
theorem dX8_straw_121 : D1 cX8_straw 121 (.iinc 4 1) 3 124 := ⟨by decide +kernel, rfl⟩
theorem dX8_straw_124 : DJ cX8_straw 124 .goto 127 47 := ⟨(-77), by decide +kernel, rfl, by decide⟩
theorem dX8_straw_127 : D1 cX8_straw 127 (.iload_n 2) 1 128 := ⟨by decide +kernel, rfl⟩
theorem dX8_straw_128 : D1 cX8_straw 128 (.ireturn) 1 129 := ⟨by decide +kernel, rfl⟩
theorem dX8_kindFor_0 : D1 cX8_kindFor 0 (.aload_n 0) 1 1 := ⟨by decide +kernel, rfl⟩
theorem dX8_kindFor_1 : D1 cX8_kindFor 1 (.getfield 10) 3 4 := ⟨by decide +kernel, rfl⟩
theorem dX8_kindFor_4 : D1 cX8_kindFor 4 (.iload_n 1) 1 5 := ⟨by decide +kernel, rfl⟩
theorem dX8_kindFor_5 : D1 cX8_kindFor 5 (.invokevirtual 67) 3 8 := ⟨by decide +kernel, rfl⟩
theorem dX8_kindFor_8 : DJ cX8_kindFor 8 .ifnull 11 21 := ⟨13, by decide +kernel, rfl, by decide⟩
theorem dX8_kindFor_11 : D1 cX8_kindFor 11 (.iload_n 2) 1 12 := ⟨by decide +kernel, rfl⟩
theorem dX8_kindFor_12 : D1 cX8_kindFor 12 (.iconst 1) 1 13 := ⟨by decide +kernel, rfl⟩
theorem dX8_kindFor_13 : D1 cX8_kindFor 13 (.bipush 96) 2 15 := ⟨by decide +kernel, rfl⟩
theorem dX8_kindFor_15 : D1 cX8_kindFor 15 (.invokestatic 51) 3 18 := ⟨by decide +kernel, rfl⟩
theorem dX8_kindFor_18 : DJ cX8_kindFor 18 (.ifCond .ne) 21 27 := ⟨9, by decide +kernel, rfl, by decide⟩
theorem dX8_kindFor_21 : D1 cX8_kindFor 21 (.aload_n 0) 1 22 := ⟨by decide +kernel, rfl⟩
theorem dX8_kindFor_22 : D1 cX8_kindFor 22 (.iconst 0) 1 23 := ⟨by decide +kernel, rfl⟩
theorem dX8_kindFor_23 : D1 cX8_kindFor 23 (.invokevirtual 55) 3 26 := ⟨by decide +kernel, rfl⟩
theorem dX8_kindFor_26 : D1 cX8_kindFor 26 (.ireturn) 1 27 := ⟨by decide +kernel, rfl⟩
theorem dX8_kindFor_27 : D1 cX8_kindFor 27 (.aload_n 0) 1 28 := ⟨by decide +kernel, rfl⟩
theorem dX8_kindFor_28 : D1 cX8_kindFor 28 (.iload_n 2) 1 29 := ⟨by decide +kernel, rfl⟩
theorem dX8_kindFor_29 : D1 cX8_kindFor 29 (.invokevirtual 122) 3 32 := ⟨by decide +kernel, rfl⟩
theorem dX8_kindFor_32 : DJ cX8_kindFor 32 (.ifCond .eq) 35 41 := ⟨9, by decide +kernel, rfl, by decide⟩
theorem dX8_kindFor_35 : D1 cX8_kindFor 35 (.aload_n 0) 1 36 := ⟨by decide +kernel, rfl⟩
theorem dX8_kindFor_36 : D1 cX8_kindFor 36 (.iconst 4) 1 37 := ⟨by decide +kernel, rfl⟩
theorem dX8_kindFor_37 : D1 cX8_kindFor 37 (.invokevirtual 55) 3 40 := ⟨by decide +kernel, rfl⟩
theorem dX8_kindFor_40 : D1 cX8_kindFor 40 (.ireturn) 1 41 := ⟨by decide +kernel, rfl⟩
theorem dX8_kindFor_41 : D1 cX8_kindFor 41 (.iconst 0) 1 42 := ⟨by decide +kernel, rfl⟩
theorem dX8_kindFor_42 : D1 cX8_kindFor 42 (.istore_n 3) 1 43 := ⟨by decide +kernel, rfl⟩
theorem dX8_kindFor_43 : D1 cX8_kindFor 43 (.iconst (-1)) 1 44 := ⟨by decide +kernel, rfl⟩
theorem dX8_kindFor_44 : D1 cX8_kindFor 44 (.istore 4) 2 46 := ⟨by decide +kernel, rfl⟩
theorem dX8_kindFor_46 : D1 cX8_kindFor 46 (.iconst 0) 1 47 := ⟨by decide +kernel, rfl⟩
theorem dX8_kindFor_47 : D1 cX8_kindFor 47 (.istore 5) 2 49 := ⟨by decide +kernel, rfl⟩
theorem dX8_kindFor_49 : D1 cX8_kindFor 49 (.iload 5) 2 51 := ⟨by decide +kernel, rfl⟩
theorem dX8_kindFor_51 : D1 cX8_kindFor 51 (.bipush 6) 2 53 := ⟨by decide +kernel, rfl⟩
theorem dX8_kindFor_53 : DJ cX8_kindFor 53 (.if_icmp .gt) 56 98 := ⟨45, by decide +kernel, rfl, by decide⟩
theorem dX8_kindFor_56 : D1 cX8_kindFor 56 (.aload_n 0) 1 57 := ⟨by decide +kernel, rfl⟩
theorem dX8_kindFor_57 : D1 cX8_kindFor 57 (.iload_n 1) 1 58 := ⟨by decide +kernel, rfl⟩
theorem dX8_kindFor_58 : D1 cX8_kindFor 58 (.iconst 0) 1 59 := ⟨by decide +kernel, rfl⟩
theorem dX8_kindFor_59 : D1 cX8_kindFor 59 (.iload 5) 2 61 := ⟨by decide +kernel, rfl⟩
theorem dX8_kindFor_61 : D1 cX8_kindFor 61 (.iload_n 2) 1 62 := ⟨by decide +kernel, rfl⟩
theorem dX8_kindFor_62 : D1 cX8_kindFor 62 (.invokevirtual 181) 3 65 := ⟨by decide +kernel, rfl⟩
theorem dX8_kindFor_65 : D1 cX8_kindFor 65 (.astore 6) 2 67 := ⟨by decide +kernel, rfl⟩
theorem dX8_kindFor_67 : D1 cX8_kindFor 67 (.aload 6) 2 69 := ⟨by decide +kernel, rfl⟩
theorem dX8_kindFor_69 : DJ cX8_kindFor 69 .ifnull 72 92 := ⟨23, by decide +kernel, rfl, by decide⟩
theorem dX8_kindFor_72 : D1 cX8_kindFor 72 (.aload 6) 2 74 := ⟨by decide +kernel, rfl⟩
theorem dX8_kindFor_74 : D1 cX8_kindFor 74 (.getfield 152) 3 77 := ⟨by decide +kernel, rfl⟩
theorem dX8_kindFor_77 : D1 cX8_kindFor 77 (.iload 4) 2 79 := ⟨by decide +kernel, rfl⟩
theorem dX8_kindFor_79 : DJ cX8_kindFor 79 (.if_icmp .le) 82 92 := ⟨13, by decide +kernel, rfl, by decide⟩
theorem dX8_kindFor_82 : D1 cX8_kindFor 82 (.aload 6) 2 84 := ⟨by decide +kernel, rfl⟩
theorem dX8_kindFor_84 : D1 cX8_kindFor 84 (.getfield 152) 3 87 := ⟨by decide +kernel, rfl⟩
theorem dX8_kindFor_87 : D1 cX8_kindFor 87 (.istore 4) 2 89 := ⟨by decide +kernel, rfl⟩
theorem dX8_kindFor_89 : D1 cX8_kindFor 89 (.iload 5) 2 91 := ⟨by decide +kernel, rfl⟩
theorem dX8_kindFor_91 : D1 cX8_kindFor 91 (.istore_n 3) 1 92 := ⟨by decide +kernel, rfl⟩
theorem dX8_kindFor_92 : D1 cX8_kindFor 92 (.iinc 5 1) 3 95 := ⟨by decide +kernel, rfl⟩
theorem dX8_kindFor_95 : DJ cX8_kindFor 95 .goto 98 49 := ⟨(-46), by decide +kernel, rfl, by decide⟩
theorem dX8_kindFor_98 : D1 cX8_kindFor 98 (.iload_n 3) 1 99 := ⟨by decide +kernel, rfl⟩
theorem dX8_kindFor_99 : D1 cX8_kindFor 99 (.ireturn) 1 100 := ⟨by decide +kernel, rfl⟩
theorem dX8_round_0 : D1 cX8_round 0 (.aload_n 0) 1 1 := ⟨by decide +kernel, rfl⟩
theorem dX8_round_1 : D1 cX8_round 1 (.iload_n 1) 1 2 := ⟨by decide +kernel, rfl⟩
theorem dX8_round_2 : D1 cX8_round 2 (.invokevirtual 185) 3 5 := ⟨by decide +kernel, rfl⟩
theorem dX8_round_5 : D1 cX8_round 5 (.istore_n 2) 1 6 := ⟨by decide +kernel, rfl⟩
theorem dX8_round_6 : D1 cX8_round 6 (.iload_n 2) 1 7 := ⟨by decide +kernel, rfl⟩
theorem dX8_round_7 : DJ cX8_round 7 (.ifCond .lt) 10 16 := ⟨9, by decide +kernel, rfl, by decide⟩
theorem dX8_round_10 : D1 cX8_round 10 (.aload_n 0) 1 11 := ⟨by decide +kernel, rfl⟩
theorem dX8_round_11 : D1 cX8_round 11 (.iload_n 2) 1 12 := ⟨by decide +kernel, rfl⟩
theorem dX8_round_12 : D1 cX8_round 12 (.invokevirtual 55) 3 15 := ⟨by decide +kernel, rfl⟩
theorem dX8_round_15 : D1 cX8_round 15 (.ireturn) 1 16 := ⟨by decide +kernel, rfl⟩
theorem dX8_round_16 : D1 cX8_round 16 (.aload_n 0) 1 17 := ⟨by decide +kernel, rfl⟩
theorem dX8_round_17 : D1 cX8_round 17 (.iload_n 1) 1 18 := ⟨by decide +kernel, rfl⟩
theorem dX8_round_18 : D1 cX8_round 18 (.invokevirtual 188) 3 21 := ⟨by decide +kernel, rfl⟩
theorem dX8_round_21 : D1 cX8_round 21 (.getfield 192) 3 24 := ⟨by decide +kernel, rfl⟩
theorem dX8_round_24 : D1 cX8_round 24 (.ireturn) 1 25 := ⟨by decide +kernel, rfl⟩
theorem dX8_takes_0 : D1 cX8_takes 0 (.aload_n 0) 1 1 := ⟨by decide +kernel, rfl⟩
theorem dX8_takes_1 : D1 cX8_takes 1 (.iload_n 1) 1 2 := ⟨by decide +kernel, rfl⟩
theorem dX8_takes_2 : D1 cX8_takes 2 (.invokevirtual 185) 3 5 := ⟨by decide +kernel, rfl⟩
theorem dX8_takes_5 : D1 cX8_takes 5 (.istore_n 2) 1 6 := ⟨by decide +kernel, rfl⟩
theorem dX8_takes_6 : D1 cX8_takes 6 (.iload_n 2) 1 7 := ⟨by decide +kernel, rfl⟩
theorem dX8_takes_7 : DJ cX8_takes 7 (.ifCond .lt) 10 16 := ⟨9, by decide +kernel, rfl, by decide⟩
theorem dX8_takes_10 : D1 cX8_takes 10 (.aload_n 0) 1 11 := ⟨by decide +kernel, rfl⟩
theorem dX8_takes_11 : D1 cX8_takes 11 (.iload_n 2) 1 12 := ⟨by decide +kernel, rfl⟩
theorem dX8_takes_12 : D1 cX8_takes 12 (.invokevirtual 55) 3 15 := ⟨by decide +kernel, rfl⟩
theorem dX8_takes_15 : D1 cX8_takes 15 (.ireturn) 1 16 := ⟨by decide +kernel, rfl⟩
theorem dX8_takes_16 : D1 cX8_takes 16 (.aload_n 0) 1 17 := ⟨by decide +kernel, rfl⟩
theorem dX8_takes_17 : D1 cX8_takes 17 (.iload_n 1) 1 18 := ⟨by decide +kernel, rfl⟩
theorem dX8_takes_18 : D1 cX8_takes 18 (.invokevirtual 188) 3 21 := ⟨by decide +kernel, rfl⟩
theorem dX8_takes_21 : D1 cX8_takes 21 (.getfield 133) 3 24 := ⟨by decide +kernel, rfl⟩
theorem dX8_takes_24 : D1 cX8_takes 24 (.aload_n 0) 1 25 := ⟨by decide +kernel, rfl⟩
theorem dX8_takes_25 : D1 cX8_takes 25 (.getfield 10) 3 28 := ⟨by decide +kernel, rfl⟩
theorem dX8_takes_28 : D1 cX8_takes 28 (.getfield 133) 3 31 := ⟨by decide +kernel, rfl⟩
theorem dX8_takes_31 : D1 cX8_takes 31 (.isub) 1 32 := ⟨by decide +kernel, rfl⟩
theorem dX8_takes_32 : D1 cX8_takes 32 (.ireturn) 1 33 := ⟨by decide +kernel, rfl⟩
theorem dX8_three_0 : D1 cX8_three 0 (.aload_n 0) 1 1 := ⟨by decide +kernel, rfl⟩
theorem dX8_three_1 : D1 cX8_three 1 (.iload_n 1) 1 2 := ⟨by decide +kernel, rfl⟩
theorem dX8_three_2 : D1 cX8_three 2 (.invokevirtual 185) 3 5 := ⟨by decide +kernel, rfl⟩
theorem dX8_three_5 : D1 cX8_three 5 (.istore_n 2) 1 6 := ⟨by decide +kernel, rfl⟩
theorem dX8_three_6 : D1 cX8_three 6 (.iload_n 2) 1 7 := ⟨by decide +kernel, rfl⟩
theorem dX8_three_7 : DJ cX8_three 7 (.ifCond .lt) 10 16 := ⟨9, by decide +kernel, rfl, by decide⟩
theorem dX8_three_10 : D1 cX8_three 10 (.aload_n 0) 1 11 := ⟨by decide +kernel, rfl⟩
theorem dX8_three_11 : D1 cX8_three 11 (.iload_n 2) 1 12 := ⟨by decide +kernel, rfl⟩
theorem dX8_three_12 : D1 cX8_three 12 (.invokevirtual 55) 3 15 := ⟨by decide +kernel, rfl⟩
theorem dX8_three_15 : D1 cX8_three 15 (.ireturn) 1 16 := ⟨by decide +kernel, rfl⟩
theorem dX8_three_16 : D1 cX8_three 16 (.new 195) 3 19 := ⟨by decide +kernel, rfl⟩
theorem dX8_three_19 : D1 cX8_three 19 (.dup) 1 20 := ⟨by decide +kernel, rfl⟩
theorem dX8_three_20 : D1 cX8_three 20 (.invokespecial 197) 3 23 := ⟨by decide +kernel, rfl⟩
theorem dX8_three_23 : D1 cX8_three 23 (.astore_n 3) 1 24 := ⟨by decide +kernel, rfl⟩
theorem dX8_three_24 : D1 cX8_three 24 (.aload_n 0) 1 25 := ⟨by decide +kernel, rfl⟩
theorem dX8_three_25 : D1 cX8_three 25 (.iload_n 1) 1 26 := ⟨by decide +kernel, rfl⟩
theorem dX8_three_26 : D1 cX8_three 26 (.aload_n 3) 1 27 := ⟨by decide +kernel, rfl⟩
theorem dX8_three_27 : D1 cX8_three 27 (.invokevirtual 198) 3 30 := ⟨by decide +kernel, rfl⟩
theorem dX8_three_30 : D1 cX8_three 30 (.aload_n 3) 1 31 := ⟨by decide +kernel, rfl⟩
theorem dX8_three_31 : D1 cX8_three 31 (.getfield 202) 3 34 := ⟨by decide +kernel, rfl⟩
theorem dX8_three_34 : D1 cX8_three 34 (.ireturn) 1 35 := ⟨by decide +kernel, rfl⟩
theorem dX8_least_0 : D1 cX8_least 0 (.aload_n 0) 1 1 := ⟨by decide +kernel, rfl⟩
theorem dX8_least_1 : D1 cX8_least 1 (.iload_n 1) 1 2 := ⟨by decide +kernel, rfl⟩
theorem dX8_least_2 : D1 cX8_least 2 (.invokevirtual 185) 3 5 := ⟨by decide +kernel, rfl⟩
theorem dX8_least_5 : D1 cX8_least 5 (.istore_n 2) 1 6 := ⟨by decide +kernel, rfl⟩
theorem dX8_least_6 : D1 cX8_least 6 (.iload_n 2) 1 7 := ⟨by decide +kernel, rfl⟩
theorem dX8_least_7 : DJ cX8_least 7 (.ifCond .lt) 10 16 := ⟨9, by decide +kernel, rfl, by decide⟩
theorem dX8_least_10 : D1 cX8_least 10 (.aload_n 0) 1 11 := ⟨by decide +kernel, rfl⟩
theorem dX8_least_11 : D1 cX8_least 11 (.iload_n 2) 1 12 := ⟨by decide +kernel, rfl⟩
theorem dX8_least_12 : D1 cX8_least 12 (.invokevirtual 55) 3 15 := ⟨by decide +kernel, rfl⟩
theorem dX8_least_15 : D1 cX8_least 15 (.ireturn) 1 16 := ⟨by decide +kernel, rfl⟩
theorem dX8_least_16 : D1 cX8_least 16 (.new 195) 3 19 := ⟨by decide +kernel, rfl⟩
theorem dX8_least_19 : D1 cX8_least 19 (.dup) 1 20 := ⟨by decide +kernel, rfl⟩
theorem dX8_least_20 : D1 cX8_least 20 (.invokespecial 197) 3 23 := ⟨by decide +kernel, rfl⟩
theorem dX8_least_23 : D1 cX8_least 23 (.astore_n 3) 1 24 := ⟨by decide +kernel, rfl⟩
theorem dX8_least_24 : D1 cX8_least 24 (.aload_n 0) 1 25 := ⟨by decide +kernel, rfl⟩
theorem dX8_least_25 : D1 cX8_least 25 (.iload_n 1) 1 26 := ⟨by decide +kernel, rfl⟩
theorem dX8_least_26 : D1 cX8_least 26 (.aload_n 3) 1 27 := ⟨by decide +kernel, rfl⟩
theorem dX8_least_27 : D1 cX8_least 27 (.invokevirtual 198) 3 30 := ⟨by decide +kernel, rfl⟩
theorem dX8_least_30 : D1 cX8_least 30 (.aload_n 3) 1 31 := ⟨by decide +kernel, rfl⟩
theorem dX8_least_31 : D1 cX8_least 31 (.getfield 205) 3 34 := ⟨by decide +kernel, rfl⟩
theorem dX8_least_34 : D1 cX8_least 34 (.ireturn) 1 35 := ⟨by decide +kernel, rfl⟩
theorem dX8_pace_0 : D1 cX8_pace 0 (.aload_n 0) 1 1 := ⟨by decide +kernel, rfl⟩
theorem dX8_pace_1 : D1 cX8_pace 1 (.sipush 9700) 3 4 := ⟨by decide +kernel, rfl⟩
theorem dX8_pace_4 : D1 cX8_pace 4 (.invokevirtual 158) 3 7 := ⟨by decide +kernel, rfl⟩
theorem dX8_pace_7 : DJ cX8_pace 7 (.ifCond .eq) 10 16 := ⟨9, by decide +kernel, rfl, by decide⟩
theorem dX8_pace_10 : D1 cX8_pace 10 (.aload_n 0) 1 11 := ⟨by decide +kernel, rfl⟩
theorem dX8_pace_11 : D1 cX8_pace 11 (.iconst 4) 1 12 := ⟨by decide +kernel, rfl⟩
theorem dX8_pace_12 : D1 cX8_pace 12 (.invokevirtual 55) 3 15 := ⟨by decide +kernel, rfl⟩
theorem dX8_pace_15 : D1 cX8_pace 15 (.ireturn) 1 16 := ⟨by decide +kernel, rfl⟩
theorem dX8_pace_16 : D1 cX8_pace 16 (.iconst 1) 1 17 := ⟨by decide +kernel, rfl⟩
theorem dX8_pace_17 : D1 cX8_pace 17 (.istore_n 1) 1 18 := ⟨by decide +kernel, rfl⟩
theorem dX8_pace_18 : D1 cX8_pace 18 (.iconst (-1)) 1 19 := ⟨by decide +kernel, rfl⟩
theorem dX8_pace_19 : D1 cX8_pace 19 (.istore_n 2) 1 20 := ⟨by decide +kernel, rfl⟩
theorem dX8_pace_20 : D1 cX8_pace 20 (.iconst 1) 1 21 := ⟨by decide +kernel, rfl⟩
theorem dX8_pace_21 : D1 cX8_pace 21 (.istore_n 3) 1 22 := ⟨by decide +kernel, rfl⟩
theorem dX8_pace_22 : D1 cX8_pace 22 (.iload_n 3) 1 23 := ⟨by decide +kernel, rfl⟩
theorem dX8_pace_23 : D1 cX8_pace 23 (.bipush 12) 2 25 := ⟨by decide +kernel, rfl⟩
theorem dX8_pace_25 : DJ cX8_pace 25 (.if_icmp .gt) 28 55 := ⟨30, by decide +kernel, rfl, by decide⟩
theorem dX8_pace_28 : D1 cX8_pace 28 (.aload_n 0) 1 29 := ⟨by decide +kernel, rfl⟩
theorem dX8_pace_29 : D1 cX8_pace 29 (.iload_n 3) 1 30 := ⟨by decide +kernel, rfl⟩
theorem dX8_pace_30 : D1 cX8_pace 30 (.invokevirtual 188) 3 33 := ⟨by decide +kernel, rfl⟩
theorem dX8_pace_33 : D1 cX8_pace 33 (.getfield 192) 3 36 := ⟨by decide +kernel, rfl⟩
theorem dX8_pace_36 : D1 cX8_pace 36 (.istore 4) 2 38 := ⟨by decide +kernel, rfl⟩
theorem dX8_pace_38 : D1 cX8_pace 38 (.iload 4) 2 40 := ⟨by decide +kernel, rfl⟩
theorem dX8_pace_40 : D1 cX8_pace 40 (.iload_n 2) 1 41 := ⟨by decide +kernel, rfl⟩
theorem dX8_pace_41 : DJ cX8_pace 41 (.if_icmp .le) 44 49 := ⟨8, by decide +kernel, rfl, by decide⟩
theorem dX8_pace_44 : D1 cX8_pace 44 (.iload 4) 2 46 := ⟨by decide +kernel, rfl⟩
theorem dX8_pace_46 : D1 cX8_pace 46 (.istore_n 2) 1 47 := ⟨by decide +kernel, rfl⟩
theorem dX8_pace_47 : D1 cX8_pace 47 (.iload_n 3) 1 48 := ⟨by decide +kernel, rfl⟩
theorem dX8_pace_48 : D1 cX8_pace 48 (.istore_n 1) 1 49 := ⟨by decide +kernel, rfl⟩
theorem dX8_pace_49 : D1 cX8_pace 49 (.iinc 3 1) 3 52 := ⟨by decide +kernel, rfl⟩
theorem dX8_pace_52 : DJ cX8_pace 52 .goto 55 22 := ⟨(-30), by decide +kernel, rfl, by decide⟩
theorem dX8_pace_55 : D1 cX8_pace 55 (.iload_n 1) 1 56 := ⟨by decide +kernel, rfl⟩
theorem dX8_pace_56 : D1 cX8_pace 56 (.ireturn) 1 57 := ⟨by decide +kernel, rfl⟩
theorem dX8_thrift_0 : D1 cX8_thrift 0 (.aload_n 0) 1 1 := ⟨by decide +kernel, rfl⟩
theorem dX8_thrift_1 : D1 cX8_thrift 1 (.iload_n 1) 1 2 := ⟨by decide +kernel, rfl⟩
theorem dX8_thrift_2 : D1 cX8_thrift 2 (.invokevirtual 185) 3 5 := ⟨by decide +kernel, rfl⟩
theorem dX8_thrift_5 : D1 cX8_thrift 5 (.istore_n 2) 1 6 := ⟨by decide +kernel, rfl⟩
theorem dX8_thrift_6 : D1 cX8_thrift 6 (.iload_n 2) 1 7 := ⟨by decide +kernel, rfl⟩
theorem dX8_thrift_7 : DJ cX8_thrift 7 (.ifCond .lt) 10 16 := ⟨9, by decide +kernel, rfl, by decide⟩
theorem dX8_thrift_10 : D1 cX8_thrift 10 (.aload_n 0) 1 11 := ⟨by decide +kernel, rfl⟩
theorem dX8_thrift_11 : D1 cX8_thrift 11 (.iload_n 2) 1 12 := ⟨by decide +kernel, rfl⟩
theorem dX8_thrift_12 : D1 cX8_thrift 12 (.invokevirtual 55) 3 15 := ⟨by decide +kernel, rfl⟩
theorem dX8_thrift_15 : D1 cX8_thrift 15 (.ireturn) 1 16 := ⟨by decide +kernel, rfl⟩
theorem dX8_thrift_16 : D1 cX8_thrift 16 (.new 206) 3 19 := ⟨by decide +kernel, rfl⟩
theorem dX8_thrift_19 : D1 cX8_thrift 19 (.dup) 1 20 := ⟨by decide +kernel, rfl⟩
theorem dX8_thrift_20 : D1 cX8_thrift 20 (.invokespecial 208) 3 23 := ⟨by decide +kernel, rfl⟩
theorem dX8_thrift_23 : D1 cX8_thrift 23 (.astore_n 3) 1 24 := ⟨by decide +kernel, rfl⟩
theorem dX8_thrift_24 : D1 cX8_thrift 24 (.aload_n 0) 1 25 := ⟨by decide +kernel, rfl⟩
theorem dX8_thrift_25 : D1 cX8_thrift 25 (.iload_n 1) 1 26 := ⟨by decide +kernel, rfl⟩
theorem dX8_thrift_26 : D1 cX8_thrift 26 (.aload_n 3) 1 27 := ⟨by decide +kernel, rfl⟩
theorem dX8_thrift_27 : D1 cX8_thrift 27 (.invokevirtual 198) 3 30 := ⟨by decide +kernel, rfl⟩
theorem dX8_thrift_30 : D1 cX8_thrift 30 (.aload_n 3) 1 31 := ⟨by decide +kernel, rfl⟩
theorem dX8_thrift_31 : D1 cX8_thrift 31 (.getfield 209) 3 34 := ⟨by decide +kernel, rfl⟩
theorem dX8_thrift_34 : DJ cX8_thrift 34 (.ifCond .ge) 37 45 := ⟨11, by decide +kernel, rfl, by decide⟩
theorem dX8_thrift_37 : D1 cX8_thrift 37 (.aload_n 0) 1 38 := ⟨by decide +kernel, rfl⟩
theorem dX8_thrift_38 : D1 cX8_thrift 38 (.iconst 3) 1 39 := ⟨by decide +kernel, rfl⟩
theorem dX8_thrift_39 : D1 cX8_thrift 39 (.invokevirtual 55) 3 42 := ⟨by decide +kernel, rfl⟩
theorem dX8_thrift_42 : DJ cX8_thrift 42 .goto 45 49 := ⟨7, by decide +kernel, rfl, by decide⟩
theorem dX8_thrift_45 : D1 cX8_thrift 45 (.aload_n 3) 1 46 := ⟨by decide +kernel, rfl⟩
theorem dX8_thrift_46 : D1 cX8_thrift 46 (.getfield 209) 3 49 := ⟨by decide +kernel, rfl⟩
theorem dX8_thrift_49 : D1 cX8_thrift 49 (.ireturn) 1 50 := ⟨by decide +kernel, rfl⟩
theorem dX8_middle_0 : D1 cX8_middle 0 (.aload_n 0) 1 1 := ⟨by decide +kernel, rfl⟩
theorem dX8_middle_1 : D1 cX8_middle 1 (.getfield 10) 3 4 := ⟨by decide +kernel, rfl⟩
theorem dX8_middle_4 : D1 cX8_middle 4 (.getfield 59) 3 7 := ⟨by decide +kernel, rfl⟩
theorem dX8_middle_7 : DJ cX8_middle 7 (.ifCond .ne) 10 16 := ⟨9, by decide +kernel, rfl, by decide⟩
theorem dX8_middle_10 : D1 cX8_middle 10 (.aload_n 0) 1 11 := ⟨by decide +kernel, rfl⟩
theorem dX8_middle_11 : D1 cX8_middle 11 (.iconst 3) 1 12 := ⟨by decide +kernel, rfl⟩
theorem dX8_middle_12 : D1 cX8_middle 12 (.invokevirtual 55) 3 15 := ⟨by decide +kernel, rfl⟩
theorem dX8_middle_15 : D1 cX8_middle 15 (.ireturn) 1 16 := ⟨by decide +kernel, rfl⟩
theorem dX8_middle_16 : D1 cX8_middle 16 (.iconst 0) 1 17 := ⟨by decide +kernel, rfl⟩
theorem dX8_middle_17 : D1 cX8_middle 17 (.istore_n 1) 1 18 := ⟨by decide +kernel, rfl⟩
theorem dX8_middle_18 : D1 cX8_middle 18 (.iconst (-1)) 1 19 := ⟨by decide +kernel, rfl⟩
theorem dX8_middle_19 : D1 cX8_middle 19 (.istore_n 2) 1 20 := ⟨by decide +kernel, rfl⟩
theorem dX8_middle_20 : D1 cX8_middle 20 (.iconst 0) 1 21 := ⟨by decide +kernel, rfl⟩
theorem dX8_middle_21 : D1 cX8_middle 21 (.istore_n 3) 1 22 := ⟨by decide +kernel, rfl⟩
theorem dX8_middle_22 : D1 cX8_middle 22 (.iload_n 3) 1 23 := ⟨by decide +kernel, rfl⟩
theorem dX8_middle_23 : D1 cX8_middle 23 (.aload_n 0) 1 24 := ⟨by decide +kernel, rfl⟩
theorem dX8_middle_24 : D1 cX8_middle 24 (.getfield 10) 3 27 := ⟨by decide +kernel, rfl⟩
theorem dX8_middle_27 : D1 cX8_middle 27 (.getfield 59) 3 30 := ⟨by decide +kernel, rfl⟩
theorem dX8_middle_30 : DJ cX8_middle 30 (.if_icmp .ge) 33 93 := ⟨63, by decide +kernel, rfl, by decide⟩
theorem dX8_middle_33 : D1 cX8_middle 33 (.iconst 0) 1 34 := ⟨by decide +kernel, rfl⟩
theorem dX8_middle_34 : D1 cX8_middle 34 (.istore 4) 2 36 := ⟨by decide +kernel, rfl⟩
theorem dX8_middle_36 : D1 cX8_middle 36 (.iconst 0) 1 37 := ⟨by decide +kernel, rfl⟩
theorem dX8_middle_37 : D1 cX8_middle 37 (.istore 5) 2 39 := ⟨by decide +kernel, rfl⟩
theorem dX8_middle_39 : D1 cX8_middle 39 (.iload 5) 2 41 := ⟨by decide +kernel, rfl⟩
theorem dX8_middle_41 : D1 cX8_middle 41 (.aload_n 0) 1 42 := ⟨by decide +kernel, rfl⟩
theorem dX8_middle_42 : D1 cX8_middle 42 (.getfield 10) 3 45 := ⟨by decide +kernel, rfl⟩
theorem dX8_middle_45 : D1 cX8_middle 45 (.getfield 59) 3 48 := ⟨by decide +kernel, rfl⟩
theorem dX8_middle_48 : DJ cX8_middle 48 (.if_icmp .ge) 51 72 := ⟨24, by decide +kernel, rfl, by decide⟩
theorem dX8_middle_51 : D1 cX8_middle 51 (.iload 4) 2 53 := ⟨by decide +kernel, rfl⟩
theorem dX8_middle_53 : D1 cX8_middle 53 (.aload_n 0) 1 54 := ⟨by decide +kernel, rfl⟩
theorem dX8_middle_54 : D1 cX8_middle 54 (.getfield 10) 3 57 := ⟨by decide +kernel, rfl⟩
theorem dX8_middle_57 : D1 cX8_middle 57 (.iload_n 3) 1 58 := ⟨by decide +kernel, rfl⟩
theorem dX8_middle_58 : D1 cX8_middle 58 (.iload 5) 2 60 := ⟨by decide +kernel, rfl⟩
theorem dX8_middle_60 : D1 cX8_middle 60 (.invokevirtual 112) 3 63 := ⟨by decide +kernel, rfl⟩
theorem dX8_middle_63 : D1 cX8_middle 63 (.iadd) 1 64 := ⟨by decide +kernel, rfl⟩
theorem dX8_middle_64 : D1 cX8_middle 64 (.istore 4) 2 66 := ⟨by decide +kernel, rfl⟩
theorem dX8_middle_66 : D1 cX8_middle 66 (.iinc 5 1) 3 69 := ⟨by decide +kernel, rfl⟩
theorem dX8_middle_69 : DJ cX8_middle 69 .goto 72 39 := ⟨(-30), by decide +kernel, rfl, by decide⟩
theorem dX8_middle_72 : D1 cX8_middle 72 (.iload_n 2) 1 73 := ⟨by decide +kernel, rfl⟩
theorem dX8_middle_73 : DJ cX8_middle 73 (.ifCond .lt) 76 82 := ⟨9, by decide +kernel, rfl, by decide⟩
theorem dX8_middle_76 : D1 cX8_middle 76 (.iload 4) 2 78 := ⟨by decide +kernel, rfl⟩
theorem dX8_middle_78 : D1 cX8_middle 78 (.iload_n 2) 1 79 := ⟨by decide +kernel, rfl⟩
theorem dX8_middle_79 : DJ cX8_middle 79 (.if_icmp .ge) 82 87 := ⟨8, by decide +kernel, rfl, by decide⟩
theorem dX8_middle_82 : D1 cX8_middle 82 (.iload 4) 2 84 := ⟨by decide +kernel, rfl⟩
theorem dX8_middle_84 : D1 cX8_middle 84 (.istore_n 2) 1 85 := ⟨by decide +kernel, rfl⟩
theorem dX8_middle_85 : D1 cX8_middle 85 (.iload_n 3) 1 86 := ⟨by decide +kernel, rfl⟩
theorem dX8_middle_86 : D1 cX8_middle 86 (.istore_n 1) 1 87 := ⟨by decide +kernel, rfl⟩
theorem dX8_middle_87 : D1 cX8_middle 87 (.iinc 3 1) 3 90 := ⟨by decide +kernel, rfl⟩
theorem dX8_middle_90 : DJ cX8_middle 90 .goto 93 22 := ⟨(-68), by decide +kernel, rfl, by decide⟩
theorem dX8_middle_93 : D1 cX8_middle 93 (.iload_n 1) 1 94 := ⟨by decide +kernel, rfl⟩
theorem dX8_middle_94 : D1 cX8_middle 94 (.ireturn) 1 95 := ⟨by decide +kernel, rfl⟩
theorem dX8_calls_0 : D1 cX8_calls 0 (.iload_n 1) 1 1 := ⟨by decide +kernel, rfl⟩
theorem dX8_calls_1 : D1 cX8_calls 1 (.iconst 1) 1 2 := ⟨by decide +kernel, rfl⟩
theorem dX8_calls_2 : D1 cX8_calls 2 (.bipush 12) 2 4 := ⟨by decide +kernel, rfl⟩
theorem dX8_calls_4 : D1 cX8_calls 4 (.invokestatic 51) 3 7 := ⟨by decide +kernel, rfl⟩
theorem dX8_calls_7 : DJ cX8_calls 7 (.ifCond .ne) 10 16 := ⟨9, by decide +kernel, rfl, by decide⟩
theorem dX8_calls_10 : D1 cX8_calls 10 (.aload_n 0) 1 11 := ⟨by decide +kernel, rfl⟩
theorem dX8_calls_11 : D1 cX8_calls 11 (.iconst 0) 1 12 := ⟨by decide +kernel, rfl⟩
theorem dX8_calls_12 : D1 cX8_calls 12 (.invokevirtual 55) 3 15 := ⟨by decide +kernel, rfl⟩
theorem dX8_calls_15 : D1 cX8_calls 15 (.ireturn) 1 16 := ⟨by decide +kernel, rfl⟩
theorem dX8_calls_16 : D1 cX8_calls 16 (.aload_n 0) 1 17 := ⟨by decide +kernel, rfl⟩
theorem dX8_calls_17 : D1 cX8_calls 17 (.sipush 8500) 3 20 := ⟨by decide +kernel, rfl⟩
theorem dX8_calls_20 : D1 cX8_calls 20 (.invokevirtual 158) 3 23 := ⟨by decide +kernel, rfl⟩
theorem dX8_calls_23 : DJ cX8_calls 23 (.ifCond .eq) 26 32 := ⟨9, by decide +kernel, rfl, by decide⟩
theorem dX8_calls_26 : D1 cX8_calls 26 (.aload_n 0) 1 27 := ⟨by decide +kernel, rfl⟩
theorem dX8_calls_27 : D1 cX8_calls 27 (.iconst 4) 1 28 := ⟨by decide +kernel, rfl⟩
theorem dX8_calls_28 : D1 cX8_calls 28 (.invokevirtual 55) 3 31 := ⟨by decide +kernel, rfl⟩
theorem dX8_calls_31 : D1 cX8_calls 31 (.ireturn) 1 32 := ⟨by decide +kernel, rfl⟩
theorem dX8_calls_32 : D1 cX8_calls 32 (.iconst 0) 1 33 := ⟨by decide +kernel, rfl⟩
theorem dX8_calls_33 : D1 cX8_calls 33 (.istore_n 2) 1 34 := ⟨by decide +kernel, rfl⟩
theorem dX8_calls_34 : D1 cX8_calls 34 (.iload_n 2) 1 35 := ⟨by decide +kernel, rfl⟩
theorem dX8_calls_35 : D1 cX8_calls 35 (.iload_n 1) 1 36 := ⟨by decide +kernel, rfl⟩
theorem dX8_calls_36 : DJ cX8_calls 36 (.if_icmp .ge) 39 92 := ⟨56, by decide +kernel, rfl, by decide⟩
theorem dX8_calls_39 : D1 cX8_calls 39 (.aload_n 0) 1 40 := ⟨by decide +kernel, rfl⟩
theorem dX8_calls_40 : D1 cX8_calls 40 (.getfield 10) 3 43 := ⟨by decide +kernel, rfl⟩
theorem dX8_calls_43 : D1 cX8_calls 43 (.getfield 59) 3 46 := ⟨by decide +kernel, rfl⟩
theorem dX8_calls_46 : DJ cX8_calls 46 (.ifCond .le) 49 67 := ⟨21, by decide +kernel, rfl, by decide⟩
theorem dX8_calls_49 : D1 cX8_calls 49 (.aload_n 0) 1 50 := ⟨by decide +kernel, rfl⟩
theorem dX8_calls_50 : D1 cX8_calls 50 (.getfield 10) 3 53 := ⟨by decide +kernel, rfl⟩
theorem dX8_calls_53 : D1 cX8_calls 53 (.invokevirtual 210) 3 56 := ⟨by decide +kernel, rfl⟩
theorem dX8_calls_56 : D1 cX8_calls 56 (.aload_n 0) 1 57 := ⟨by decide +kernel, rfl⟩
theorem dX8_calls_57 : D1 cX8_calls 57 (.getfield 10) 3 60 := ⟨by decide +kernel, rfl⟩
theorem dX8_calls_60 : D1 cX8_calls 60 (.getfield 59) 3 63 := ⟨by decide +kernel, rfl⟩
theorem dX8_calls_63 : D1 cX8_calls 63 (.irem) 1 64 := ⟨by decide +kernel, rfl⟩
theorem dX8_calls_64 : DJ cX8_calls 64 .goto 67 68 := ⟨4, by decide +kernel, rfl, by decide⟩
theorem dX8_calls_67 : D1 cX8_calls 67 (.iconst 0) 1 68 := ⟨by decide +kernel, rfl⟩
theorem dX8_calls_68 : D1 cX8_calls 68 (.istore_n 3) 1 69 := ⟨by decide +kernel, rfl⟩
theorem dX8_calls_69 : D1 cX8_calls 69 (.aload_n 0) 1 70 := ⟨by decide +kernel, rfl⟩
theorem dX8_calls_70 : D1 cX8_calls 70 (.getfield 10) 3 73 := ⟨by decide +kernel, rfl⟩
theorem dX8_calls_73 : D1 cX8_calls 73 (.aload_n 0) 1 74 := ⟨by decide +kernel, rfl⟩
theorem dX8_calls_74 : D1 cX8_calls 74 (.getfield 10) 3 77 := ⟨by decide +kernel, rfl⟩
theorem dX8_calls_77 : D1 cX8_calls 77 (.iload_n 3) 1 78 := ⟨by decide +kernel, rfl⟩
theorem dX8_calls_78 : D1 cX8_calls 78 (.invokevirtual 119) 3 81 := ⟨by decide +kernel, rfl⟩
theorem dX8_calls_81 : D1 cX8_calls 81 (.iconst 2) 1 82 := ⟨by decide +kernel, rfl⟩
theorem dX8_calls_82 : D1 cX8_calls 82 (.iadd) 1 83 := ⟨by decide +kernel, rfl⟩
theorem dX8_calls_83 : D1 cX8_calls 83 (.invokevirtual 129) 3 86 := ⟨by decide +kernel, rfl⟩
theorem dX8_calls_86 : D1 cX8_calls 86 (.iinc 2 1) 3 89 := ⟨by decide +kernel, rfl⟩
theorem dX8_calls_89 : DJ cX8_calls 89 .goto 92 34 := ⟨(-55), by decide +kernel, rfl, by decide⟩
theorem dX8_calls_92 : D1 cX8_calls 92 (.aload_n 0) 1 93 := ⟨by decide +kernel, rfl⟩
theorem dX8_calls_93 : D1 cX8_calls 93 (.getfield 10) 3 96 := ⟨by decide +kernel, rfl⟩
theorem dX8_calls_96 : D1 cX8_calls 96 (.invokevirtual 139) 3 99 := ⟨by decide +kernel, rfl⟩
theorem dX8_calls_99 : D1 cX8_calls 99 (.invokestatic 213) 3 102 := ⟨by decide +kernel, rfl⟩
theorem dX8_calls_102 : D1 cX8_calls 102 (.ireturn) 1 103 := ⟨by decide +kernel, rfl⟩
theorem dX8_seed_0 : D1 cX8_seed 0 (.aload_n 0) 1 1 := ⟨by decide +kernel, rfl⟩
theorem dX8_seed_1 : D1 cX8_seed 1 (.getfield 10) 3 4 := ⟨by decide +kernel, rfl⟩
theorem dX8_seed_4 : D1 cX8_seed 4 (.getfield 218) 3 7 := ⟨by decide +kernel, rfl⟩
theorem dX8_seed_7 : D1 cX8_seed 7 (.istore_n 2) 1 8 := ⟨by decide +kernel, rfl⟩
theorem dX8_seed_8 : D1 cX8_seed 8 (.aload_n 0) 1 9 := ⟨by decide +kernel, rfl⟩
theorem dX8_seed_9 : D1 cX8_seed 9 (.getfield 10) 3 12 := ⟨by decide +kernel, rfl⟩
theorem dX8_seed_12 : D1 cX8_seed 12 (.iload_n 1) 1 13 := ⟨by decide +kernel, rfl⟩
theorem dX8_seed_13 : D1 cX8_seed 13 (.putfield 218) 3 16 := ⟨by decide +kernel, rfl⟩
theorem dX8_seed_16 : D1 cX8_seed 16 (.iload_n 2) 1 17 := ⟨by decide +kernel, rfl⟩
theorem dX8_seed_17 : D1 cX8_seed 17 (.ireturn) 1 18 := ⟨by decide +kernel, rfl⟩
theorem dX8_feed_0 : D1 cX8_feed 0 (.iload_n 2) 1 1 := ⟨by decide +kernel, rfl⟩
theorem dX8_feed_1 : D1 cX8_feed 1 (.iconst 1) 1 2 := ⟨by decide +kernel, rfl⟩
theorem dX8_feed_2 : D1 cX8_feed 2 (.iconst 4) 1 3 := ⟨by decide +kernel, rfl⟩
theorem dX8_feed_3 : D1 cX8_feed 3 (.invokestatic 51) 3 6 := ⟨by decide +kernel, rfl⟩
theorem dX8_feed_6 : DJ cX8_feed 6 (.ifCond .ne) 9 15 := ⟨9, by decide +kernel, rfl, by decide⟩
theorem dX8_feed_9 : D1 cX8_feed 9 (.aload_n 0) 1 10 := ⟨by decide +kernel, rfl⟩
theorem dX8_feed_10 : D1 cX8_feed 10 (.iconst 0) 1 11 := ⟨by decide +kernel, rfl⟩
theorem dX8_feed_11 : D1 cX8_feed 11 (.invokevirtual 55) 3 14 := ⟨by decide +kernel, rfl⟩
theorem dX8_feed_14 : D1 cX8_feed 14 (.ireturn) 1 15 := ⟨by decide +kernel, rfl⟩
theorem dX8_feed_15 : D1 cX8_feed 15 (.aload_n 0) 1 16 := ⟨by decide +kernel, rfl⟩
theorem dX8_feed_16 : D1 cX8_feed 16 (.getfield 221) 3 19 := ⟨by decide +kernel, rfl⟩
theorem dX8_feed_19 : D1 cX8_feed 19 (.iload_n 2) 1 20 := ⟨by decide +kernel, rfl⟩
theorem dX8_feed_20 : D1 cX8_feed 20 (.iadd) 1 21 := ⟨by decide +kernel, rfl⟩
theorem dX8_feed_21 : D1 cX8_feed 21 (.bipush 120) 2 23 := ⟨by decide +kernel, rfl⟩
theorem dX8_feed_23 : DJ cX8_feed 23 (.if_icmp .le) 26 32 := ⟨9, by decide +kernel, rfl, by decide⟩
theorem dX8_feed_26 : D1 cX8_feed 26 (.aload_n 0) 1 27 := ⟨by decide +kernel, rfl⟩
theorem dX8_feed_27 : D1 cX8_feed 27 (.iconst 1) 1 28 := ⟨by decide +kernel, rfl⟩
theorem dX8_feed_28 : D1 cX8_feed 28 (.invokevirtual 55) 3 31 := ⟨by decide +kernel, rfl⟩
theorem dX8_feed_31 : D1 cX8_feed 31 (.ireturn) 1 32 := ⟨by decide +kernel, rfl⟩
theorem dX8_feed_32 : D1 cX8_feed 32 (.iload_n 2) 1 33 := ⟨by decide +kernel, rfl⟩
theorem dX8_feed_33 : D1 cX8_feed 33 (.iconst 1) 1 34 := ⟨by decide +kernel, rfl⟩
theorem dX8_feed_34 : D1 cX8_feed 34 (.isub) 1 35 := ⟨by decide +kernel, rfl⟩
theorem dX8_feed_35 : D1 cX8_feed 35 (.istore_n 3) 1 36 := ⟨by decide +kernel, rfl⟩
theorem dX8_feed_36 : D1 cX8_feed 36 (.iload_n 3) 1 37 := ⟨by decide +kernel, rfl⟩
theorem dX8_feed_37 : DJ cX8_feed 37 (.ifCond .lt) 40 93 := ⟨56, by decide +kernel, rfl, by decide⟩
theorem dX8_feed_40 : D1 cX8_feed 40 (.aload_n 0) 1 41 := ⟨by decide +kernel, rfl⟩
theorem dX8_feed_41 : D1 cX8_feed 41 (.getfield 221) 3 44 := ⟨by decide +kernel, rfl⟩
theorem dX8_feed_44 : D1 cX8_feed 44 (.iconst 0) 1 45 := ⟨by decide +kernel, rfl⟩
theorem dX8_feed_45 : D1 cX8_feed 45 (.aload_n 0) 1 46 := ⟨by decide +kernel, rfl⟩
theorem dX8_feed_46 : D1 cX8_feed 46 (.getfield 38) 3 49 := ⟨by decide +kernel, rfl⟩
theorem dX8_feed_49 : D1 cX8_feed 49 (.arraylength) 1 50 := ⟨by decide +kernel, rfl⟩
theorem dX8_feed_50 : D1 cX8_feed 50 (.iconst 1) 1 51 := ⟨by decide +kernel, rfl⟩
theorem dX8_feed_51 : D1 cX8_feed 51 (.isub) 1 52 := ⟨by decide +kernel, rfl⟩
theorem dX8_feed_52 : D1 cX8_feed 52 (.invokestatic 51) 3 55 := ⟨by decide +kernel, rfl⟩
theorem dX8_feed_55 : DJ cX8_feed 55 (.ifCond .eq) 58 87 := ⟨32, by decide +kernel, rfl, by decide⟩
theorem dX8_feed_58 : D1 cX8_feed 58 (.aload_n 0) 1 59 := ⟨by decide +kernel, rfl⟩
theorem dX8_feed_59 : D1 cX8_feed 59 (.getfield 38) 3 62 := ⟨by decide +kernel, rfl⟩
theorem dX8_feed_62 : D1 cX8_feed 62 (.aload_n 0) 1 63 := ⟨by decide +kernel, rfl⟩
theorem dX8_feed_63 : D1 cX8_feed 63 (.getfield 221) 3 66 := ⟨by decide +kernel, rfl⟩
theorem dX8_feed_66 : D1 cX8_feed 66 (.iload_n 1) 1 67 := ⟨by decide +kernel, rfl⟩
theorem dX8_feed_67 : D1 cX8_feed 67 (.bipush 8) 2 69 := ⟨by decide +kernel, rfl⟩
theorem dX8_feed_69 : D1 cX8_feed 69 (.iload_n 3) 1 70 := ⟨by decide +kernel, rfl⟩
theorem dX8_feed_70 : D1 cX8_feed 70 (.imul) 1 71 := ⟨by decide +kernel, rfl⟩
theorem dX8_feed_71 : D1 cX8_feed 71 (.iushr) 1 72 := ⟨by decide +kernel, rfl⟩
theorem dX8_feed_72 : D1 cX8_feed 72 (.sipush 255) 3 75 := ⟨by decide +kernel, rfl⟩
theorem dX8_feed_75 : D1 cX8_feed 75 (.iand) 1 76 := ⟨by decide +kernel, rfl⟩
theorem dX8_feed_76 : D1 cX8_feed 76 (.iastore) 1 77 := ⟨by decide +kernel, rfl⟩
theorem dX8_feed_77 : D1 cX8_feed 77 (.aload_n 0) 1 78 := ⟨by decide +kernel, rfl⟩
theorem dX8_feed_78 : D1 cX8_feed 78 (.dup) 1 79 := ⟨by decide +kernel, rfl⟩
theorem dX8_feed_79 : D1 cX8_feed 79 (.getfield 221) 3 82 := ⟨by decide +kernel, rfl⟩
theorem dX8_feed_82 : D1 cX8_feed 82 (.iconst 1) 1 83 := ⟨by decide +kernel, rfl⟩
theorem dX8_feed_83 : D1 cX8_feed 83 (.iadd) 1 84 := ⟨by decide +kernel, rfl⟩
theorem dX8_feed_84 : D1 cX8_feed 84 (.putfield 221) 3 87 := ⟨by decide +kernel, rfl⟩
theorem dX8_feed_87 : D1 cX8_feed 87 (.iinc 3 (-1)) 3 90 := ⟨by decide +kernel, rfl⟩
theorem dX8_feed_90 : DJ cX8_feed 90 .goto 93 36 := ⟨(-54), by decide +kernel, rfl, by decide⟩
theorem dX8_feed_93 : D1 cX8_feed 93 (.aload_n 0) 1 94 := ⟨by decide +kernel, rfl⟩
theorem dX8_feed_94 : D1 cX8_feed 94 (.getfield 221) 3 97 := ⟨by decide +kernel, rfl⟩
theorem dX8_feed_97 : D1 cX8_feed 97 (.ireturn) 1 98 := ⟨by decide +kernel, rfl⟩
theorem dX8_wipe_0 : D1 cX8_wipe 0 (.aload_n 0) 1 1 := ⟨by decide +kernel, rfl⟩
theorem dX8_wipe_1 : D1 cX8_wipe 1 (.getfield 221) 3 4 := ⟨by decide +kernel, rfl⟩
theorem dX8_wipe_4 : D1 cX8_wipe 4 (.istore_n 1) 1 5 := ⟨by decide +kernel, rfl⟩
theorem dX8_wipe_5 : D1 cX8_wipe 5 (.aload_n 0) 1 6 := ⟨by decide +kernel, rfl⟩
theorem dX8_wipe_6 : D1 cX8_wipe 6 (.iconst 0) 1 7 := ⟨by decide +kernel, rfl⟩
theorem dX8_wipe_7 : D1 cX8_wipe 7 (.putfield 221) 3 10 := ⟨by decide +kernel, rfl⟩
theorem dX8_wipe_10 : D1 cX8_wipe 10 (.iload_n 1) 1 11 := ⟨by decide +kernel, rfl⟩
theorem dX8_wipe_11 : D1 cX8_wipe 11 (.ireturn) 1 12 := ⟨by decide +kernel, rfl⟩
theorem dX8_text_0 : D1 cX8_text 0 (.aload_n 0) 1 1 := ⟨by decide +kernel, rfl⟩
theorem dX8_text_1 : D1 cX8_text 1 (.getfield 19) 3 4 := ⟨by decide +kernel, rfl⟩
theorem dX8_text_4 : D1 cX8_text 4 (.aload_n 0) 1 5 := ⟨by decide +kernel, rfl⟩
theorem dX8_text_5 : D1 cX8_text 5 (.getfield 10) 3 8 := ⟨by decide +kernel, rfl⟩
theorem dX8_text_8 : D1 cX8_text 8 (.invokevirtual 165) 3 11 := ⟨by decide +kernel, rfl⟩
theorem dX8_text_11 : D1 cX8_text 11 (.aload_n 0) 1 12 := ⟨by decide +kernel, rfl⟩
theorem dX8_text_12 : D1 cX8_text 12 (.getfield 46) 3 15 := ⟨by decide +kernel, rfl⟩
theorem dX8_text_15 : D1 cX8_text 15 (.aload_n 0) 1 16 := ⟨by decide +kernel, rfl⟩
theorem dX8_text_16 : D1 cX8_text 16 (.invokevirtual 224) 3 19 := ⟨by decide +kernel, rfl⟩
theorem dX8_text_19 : D1 cX8_text 19 (.invokevirtual 227) 3 22 := ⟨by decide +kernel, rfl⟩
theorem dX8_text_22 : D1 cX8_text 22 (.istore_n 1) 1 23 := ⟨by decide +kernel, rfl⟩
theorem dX8_text_23 : D1 cX8_text 23 (.iload_n 1) 1 24 := ⟨by decide +kernel, rfl⟩
theorem dX8_text_24 : DJ cX8_text 24 (.ifCond .le) 27 38 := ⟨14, by decide +kernel, rfl, by decide⟩
theorem dX8_text_27 : D1 cX8_text 27 (.aload_n 0) 1 28 := ⟨by decide +kernel, rfl⟩
theorem dX8_text_28 : D1 cX8_text 28 (.getfield 10) 3 31 := ⟨by decide +kernel, rfl⟩
theorem dX8_text_31 : D1 cX8_text 31 (.aload_n 0) 1 32 := ⟨by decide +kernel, rfl⟩
theorem dX8_text_32 : D1 cX8_text 32 (.getfield 19) 3 35 := ⟨by decide +kernel, rfl⟩
theorem dX8_text_35 : D1 cX8_text 35 (.invokevirtual 165) 3 38 := ⟨by decide +kernel, rfl⟩
theorem dX8_text_38 : D1 cX8_text 38 (.iload_n 1) 1 39 := ⟨by decide +kernel, rfl⟩
theorem dX8_text_39 : D1 cX8_text 39 (.ireturn) 1 40 := ⟨by decide +kernel, rfl⟩
theorem dX8_hold_0 : D1 cX8_hold 0 (.iload_n 1) 1 1 := ⟨by decide +kernel, rfl⟩
theorem dX8_hold_1 : D1 cX8_hold 1 (.iconst 0) 1 2 := ⟨by decide +kernel, rfl⟩
theorem dX8_hold_2 : D1 cX8_hold 2 (.bipush 9) 2 4 := ⟨by decide +kernel, rfl⟩
theorem dX8_hold_4 : D1 cX8_hold 4 (.invokestatic 51) 3 7 := ⟨by decide +kernel, rfl⟩
theorem dX8_hold_7 : DJ cX8_hold 7 (.ifCond .eq) 10 26 := ⟨19, by decide +kernel, rfl, by decide⟩
theorem dX8_hold_10 : D1 cX8_hold 10 (.iload_n 2) 1 11 := ⟨by decide +kernel, rfl⟩
theorem dX8_hold_11 : D1 cX8_hold 11 (.iconst (-1)) 1 12 := ⟨by decide +kernel, rfl⟩
theorem dX8_hold_12 : DJ cX8_hold 12 (.if_icmp .eq) 15 32 := ⟨20, by decide +kernel, rfl, by decide⟩
theorem dX8_hold_15 : D1 cX8_hold 15 (.aload_n 0) 1 16 := ⟨by decide +kernel, rfl⟩
theorem dX8_hold_16 : D1 cX8_hold 16 (.getfield 10) 3 19 := ⟨by decide +kernel, rfl⟩
theorem dX8_hold_19 : D1 cX8_hold 19 (.iload_n 2) 1 20 := ⟨by decide +kernel, rfl⟩
theorem dX8_hold_20 : D1 cX8_hold 20 (.invokevirtual 67) 3 23 := ⟨by decide +kernel, rfl⟩
theorem dX8_hold_23 : DJ cX8_hold 23 .ifnonnull 26 32 := ⟨9, by decide +kernel, rfl, by decide⟩
theorem dX8_hold_26 : D1 cX8_hold 26 (.aload_n 0) 1 27 := ⟨by decide +kernel, rfl⟩
theorem dX8_hold_27 : D1 cX8_hold 27 (.iconst 0) 1 28 := ⟨by decide +kernel, rfl⟩
theorem dX8_hold_28 : D1 cX8_hold 28 (.invokevirtual 55) 3 31 := ⟨by decide +kernel, rfl⟩
theorem dX8_hold_31 : D1 cX8_hold 31 (.ireturn) 1 32 := ⟨by decide +kernel, rfl⟩
theorem dX8_hold_32 : D1 cX8_hold 32 (.aload_n 0) 1 33 := ⟨by decide +kernel, rfl⟩
theorem dX8_hold_33 : D1 cX8_hold 33 (.getfield 10) 3 36 := ⟨by decide +kernel, rfl⟩
theorem dX8_hold_36 : D1 cX8_hold 36 (.iload_n 1) 1 37 := ⟨by decide +kernel, rfl⟩
theorem dX8_hold_37 : D1 cX8_hold 37 (.iload_n 2) 1 38 := ⟨by decide +kernel, rfl⟩
theorem dX8_hold_38 : D1 cX8_hold 38 (.invokevirtual 230) 3 41 := ⟨by decide +kernel, rfl⟩
theorem dX8_hold_41 : D1 cX8_hold 41 (.iconst 1) 1 42 := ⟨by decide +kernel, rfl⟩
theorem dX8_hold_42 : D1 cX8_hold 42 (.ireturn) 1 43 := ⟨by decide +kernel, rfl⟩
theorem dX8_as_0 : D1 cX8_as 0 (.iload_n 1) 1 1 := ⟨by decide +kernel, rfl⟩
theorem dX8_as_1 : D1 cX8_as 1 (.iconst 0) 1 2 := ⟨by decide +kernel, rfl⟩
theorem dX8_as_2 : D1 cX8_as 2 (.bipush 9) 2 4 := ⟨by decide +kernel, rfl⟩
theorem dX8_as_4 : D1 cX8_as 4 (.invokestatic 51) 3 7 := ⟨by decide +kernel, rfl⟩
theorem dX8_as_7 : DJ cX8_as 7 (.ifCond .eq) 10 20 := ⟨13, by decide +kernel, rfl, by decide⟩
theorem dX8_as_10 : D1 cX8_as 10 (.iload_n 2) 1 11 := ⟨by decide +kernel, rfl⟩
theorem dX8_as_11 : D1 cX8_as 11 (.iconst 0) 1 12 := ⟨by decide +kernel, rfl⟩
theorem dX8_as_12 : D1 cX8_as 12 (.bipush 6) 2 14 := ⟨by decide +kernel, rfl⟩
theorem dX8_as_14 : D1 cX8_as 14 (.invokestatic 51) 3 17 := ⟨by decide +kernel, rfl⟩
theorem dX8_as_17 : DJ cX8_as 17 (.ifCond .ne) 20 26 := ⟨9, by decide +kernel, rfl, by decide⟩
theorem dX8_as_20 : D1 cX8_as 20 (.aload_n 0) 1 21 := ⟨by decide +kernel, rfl⟩
theorem dX8_as_21 : D1 cX8_as 21 (.iconst 0) 1 22 := ⟨by decide +kernel, rfl⟩
theorem dX8_as_22 : D1 cX8_as 22 (.invokevirtual 55) 3 25 := ⟨by decide +kernel, rfl⟩
theorem dX8_as_25 : D1 cX8_as 25 (.ireturn) 1 26 := ⟨by decide +kernel, rfl⟩
theorem dX8_as_26 : D1 cX8_as 26 (.aload_n 0) 1 27 := ⟨by decide +kernel, rfl⟩
theorem dX8_as_27 : D1 cX8_as 27 (.getfield 10) 3 30 := ⟨by decide +kernel, rfl⟩
theorem dX8_as_30 : D1 cX8_as 30 (.iload_n 1) 1 31 := ⟨by decide +kernel, rfl⟩
theorem dX8_as_31 : D1 cX8_as 31 (.invokevirtual 233) 3 34 := ⟨by decide +kernel, rfl⟩
theorem dX8_as_34 : D1 cX8_as 34 (.istore_n 3) 1 35 := ⟨by decide +kernel, rfl⟩
theorem dX8_as_35 : D1 cX8_as 35 (.aload_n 0) 1 36 := ⟨by decide +kernel, rfl⟩
theorem dX8_as_36 : D1 cX8_as 36 (.getfield 10) 3 39 := ⟨by decide +kernel, rfl⟩
theorem dX8_as_39 : D1 cX8_as 39 (.iload_n 3) 1 40 := ⟨by decide +kernel, rfl⟩
theorem dX8_as_40 : D1 cX8_as 40 (.invokevirtual 67) 3 43 := ⟨by decide +kernel, rfl⟩
theorem dX8_as_43 : D1 cX8_as 43 (.astore 4) 2 45 := ⟨by decide +kernel, rfl⟩
theorem dX8_as_45 : D1 cX8_as 45 (.aload 4) 2 47 := ⟨by decide +kernel, rfl⟩
theorem dX8_as_47 : DJ cX8_as 47 .ifnonnull 50 56 := ⟨9, by decide +kernel, rfl, by decide⟩
theorem dX8_as_50 : D1 cX8_as 50 (.aload_n 0) 1 51 := ⟨by decide +kernel, rfl⟩
theorem dX8_as_51 : D1 cX8_as 51 (.iconst 5) 1 52 := ⟨by decide +kernel, rfl⟩
theorem dX8_as_52 : D1 cX8_as 52 (.invokevirtual 55) 3 55 := ⟨by decide +kernel, rfl⟩
theorem dX8_as_55 : D1 cX8_as 55 (.ireturn) 1 56 := ⟨by decide +kernel, rfl⟩
theorem dX8_as_56 : D1 cX8_as 56 (.aload 4) 2 58 := ⟨by decide +kernel, rfl⟩
theorem dX8_as_58 : D1 cX8_as 58 (.iload_n 2) 1 59 := ⟨by decide +kernel, rfl⟩
theorem dX8_as_59 : D1 cX8_as 59 (.invokevirtual 236) 3 62 := ⟨by decide +kernel, rfl⟩
theorem dX8_as_62 : DJ cX8_as 62 (.ifCond .eq) 65 69 := ⟨7, by decide +kernel, rfl, by decide⟩
theorem dX8_as_65 : D1 cX8_as 65 (.iload_n 3) 1 66 := ⟨by decide +kernel, rfl⟩
theorem dX8_as_66 : DJ cX8_as 66 .goto 69 74 := ⟨8, by decide +kernel, rfl, by decide⟩
theorem dX8_as_69 : D1 cX8_as 69 (.aload_n 0) 1 70 := ⟨by decide +kernel, rfl⟩
theorem dX8_as_70 : D1 cX8_as 70 (.iconst 2) 1 71 := ⟨by decide +kernel, rfl⟩
theorem dX8_as_71 : D1 cX8_as 71 (.invokevirtual 55) 3 74 := ⟨by decide +kernel, rfl⟩
theorem dX8_as_74 : D1 cX8_as 74 (.ireturn) 1 75 := ⟨by decide +kernel, rfl⟩
theorem dX8_sheet_0 : D1 cX8_sheet 0 (.aload_n 0) 1 1 := ⟨by decide +kernel, rfl⟩
theorem dX8_sheet_1 : D1 cX8_sheet 1 (.iload_n 1) 1 2 := ⟨by decide +kernel, rfl⟩
theorem dX8_sheet_2 : D1 cX8_sheet 2 (.invokevirtual 239) 3 5 := ⟨by decide +kernel, rfl⟩
theorem dX8_sheet_5 : D1 cX8_sheet 5 (.astore 4) 2 7 := ⟨by decide +kernel, rfl⟩
theorem dX8_sheet_7 : D1 cX8_sheet 7 (.aload 4) 2 9 := ⟨by decide +kernel, rfl⟩
theorem dX8_sheet_9 : DJ cX8_sheet 9 .ifnull 12 34 := ⟨25, by decide +kernel, rfl, by decide⟩
theorem dX8_sheet_12 : D1 cX8_sheet 12 (.iload_n 2) 1 13 := ⟨by decide +kernel, rfl⟩
theorem dX8_sheet_13 : DJ cX8_sheet 13 (.ifCond .eq) 16 40 := ⟨27, by decide +kernel, rfl, by decide⟩
theorem dX8_sheet_16 : D1 cX8_sheet 16 (.iload_n 2) 1 17 := ⟨by decide +kernel, rfl⟩
theorem dX8_sheet_17 : D1 cX8_sheet 17 (.bipush 8) 2 19 := ⟨by decide +kernel, rfl⟩
theorem dX8_sheet_19 : DJ cX8_sheet 19 (.if_icmp .eq) 22 40 := ⟨21, by decide +kernel, rfl, by decide⟩
theorem dX8_sheet_22 : D1 cX8_sheet 22 (.iload_n 2) 1 23 := ⟨by decide +kernel, rfl⟩
theorem dX8_sheet_23 : D1 cX8_sheet 23 (.bipush 16) 2 25 := ⟨by decide +kernel, rfl⟩
theorem dX8_sheet_25 : DJ cX8_sheet 25 (.if_icmp .eq) 28 40 := ⟨15, by decide +kernel, rfl, by decide⟩
theorem dX8_sheet_28 : D1 cX8_sheet 28 (.iload_n 2) 1 29 := ⟨by decide +kernel, rfl⟩
theorem dX8_sheet_29 : D1 cX8_sheet 29 (.bipush 32) 2 31 := ⟨by decide +kernel, rfl⟩
theorem dX8_sheet_31 : DJ cX8_sheet 31 (.if_icmp .eq) 34 40 := ⟨9, by decide +kernel, rfl, by decide⟩
theorem dX8_sheet_34 : D1 cX8_sheet 34 (.aload_n 0) 1 35 := ⟨by decide +kernel, rfl⟩
theorem dX8_sheet_35 : D1 cX8_sheet 35 (.iconst 0) 1 36 := ⟨by decide +kernel, rfl⟩
theorem dX8_sheet_36 : D1 cX8_sheet 36 (.invokevirtual 55) 3 39 := ⟨by decide +kernel, rfl⟩
theorem dX8_sheet_39 : D1 cX8_sheet 39 (.ireturn) 1 40 := ⟨by decide +kernel, rfl⟩
theorem dX8_sheet_40 : D1 cX8_sheet 40 (.iload_n 3) 1 41 := ⟨by decide +kernel, rfl⟩
theorem dX8_sheet_41 : DJ cX8_sheet 41 (.ifCond .ge) 44 51 := ⟨10, by decide +kernel, rfl, by decide⟩
theorem dX8_sheet_44 : D1 cX8_sheet 44 (.aload_n 0) 1 45 := ⟨by decide +kernel, rfl⟩
theorem dX8_sheet_45 : D1 cX8_sheet 45 (.bipush 6) 2 47 := ⟨by decide +kernel, rfl⟩
theorem dX8_sheet_47 : D1 cX8_sheet 47 (.invokevirtual 55) 3 50 := ⟨by decide +kernel, rfl⟩
theorem dX8_sheet_50 : D1 cX8_sheet 50 (.ireturn) 1 51 := ⟨by decide +kernel, rfl⟩
theorem dX8_sheet_51 : D1 cX8_sheet 51 (.iload_n 3) 1 52 := ⟨by decide +kernel, rfl⟩
theorem dX8_sheet_52 : D1 cX8_sheet 52 (.bipush 40) 2 54 := ⟨by decide +kernel, rfl⟩
theorem dX8_sheet_54 : DJ cX8_sheet 54 (.if_icmp .le) 57 63 := ⟨9, by decide +kernel, rfl, by decide⟩
theorem dX8_sheet_57 : D1 cX8_sheet 57 (.aload_n 0) 1 58 := ⟨by decide +kernel, rfl⟩
theorem dX8_sheet_58 : D1 cX8_sheet 58 (.iconst 0) 1 59 := ⟨by decide +kernel, rfl⟩
theorem dX8_sheet_59 : D1 cX8_sheet 59 (.invokevirtual 55) 3 62 := ⟨by decide +kernel, rfl⟩
theorem dX8_sheet_62 : D1 cX8_sheet 62 (.ireturn) 1 63 := ⟨by decide +kernel, rfl⟩
theorem dX8_sheet_63 : D1 cX8_sheet 63 (.aload 4) 2 65 := ⟨by decide +kernel, rfl⟩
theorem dX8_sheet_65 : D1 cX8_sheet 65 (.iload_n 2) 1 66 := ⟨by decide +kernel, rfl⟩
theorem dX8_sheet_66 : D1 cX8_sheet 66 (.iload_n 2) 1 67 := ⟨by decide +kernel, rfl⟩
theorem dX8_sheet_67 : DJ cX8_sheet 67 (.ifCond .ne) 70 74 := ⟨7, by decide +kernel, rfl, by decide⟩
theorem dX8_sheet_70 : D1 cX8_sheet 70 (.iconst 0) 1 71 := ⟨by decide +kernel, rfl⟩
theorem dX8_sheet_71 : DJ cX8_sheet 71 .goto 74 75 := ⟨4, by decide +kernel, rfl, by decide⟩
theorem dX8_sheet_74 : D1 cX8_sheet 74 (.iload_n 3) 1 75 := ⟨by decide +kernel, rfl⟩
theorem dX8_sheet_75 : D1 cX8_sheet 75 (.invokevirtual 243) 3 78 := ⟨by decide +kernel, rfl⟩
theorem dX8_sheet_78 : D1 cX8_sheet 78 (.aload 4) 2 80 := ⟨by decide +kernel, rfl⟩
theorem dX8_sheet_80 : D1 cX8_sheet 80 (.getfield 246) 3 83 := ⟨by decide +kernel, rfl⟩
theorem dX8_sheet_83 : D1 cX8_sheet 83 (.ireturn) 1 84 := ⟨by decide +kernel, rfl⟩
theorem dX8_write_0 : D1 cX8_write 0 (.aload_n 0) 1 1 := ⟨by decide +kernel, rfl⟩
theorem dX8_write_1 : D1 cX8_write 1 (.iload_n 1) 1 2 := ⟨by decide +kernel, rfl⟩
theorem dX8_write_2 : D1 cX8_write 2 (.invokevirtual 239) 3 5 := ⟨by decide +kernel, rfl⟩
theorem dX8_write_5 : D1 cX8_write 5 (.astore 4) 2 7 := ⟨by decide +kernel, rfl⟩
theorem dX8_write_7 : D1 cX8_write 7 (.aload 4) 2 9 := ⟨by decide +kernel, rfl⟩
theorem dX8_write_9 : DJ cX8_write 9 .ifnonnull 12 18 := ⟨9, by decide +kernel, rfl, by decide⟩
theorem dX8_write_12 : D1 cX8_write 12 (.aload_n 0) 1 13 := ⟨by decide +kernel, rfl⟩
theorem dX8_write_13 : D1 cX8_write 13 (.iconst 0) 1 14 := ⟨by decide +kernel, rfl⟩
theorem dX8_write_14 : D1 cX8_write 14 (.invokevirtual 55) 3 17 := ⟨by decide +kernel, rfl⟩
theorem dX8_write_17 : D1 cX8_write 17 (.ireturn) 1 18 := ⟨by decide +kernel, rfl⟩
theorem dX8_write_18 : D1 cX8_write 18 (.aload 4) 2 20 := ⟨by decide +kernel, rfl⟩
theorem dX8_write_20 : D1 cX8_write 20 (.invokevirtual 249) 3 23 := ⟨by decide +kernel, rfl⟩
theorem dX8_write_23 : DJ cX8_write 23 (.ifCond .eq) 26 32 := ⟨9, by decide +kernel, rfl, by decide⟩
theorem dX8_write_26 : D1 cX8_write 26 (.aload_n 0) 1 27 := ⟨by decide +kernel, rfl⟩
theorem dX8_write_27 : D1 cX8_write 27 (.iconst 5) 1 28 := ⟨by decide +kernel, rfl⟩
theorem dX8_write_28 : D1 cX8_write 28 (.invokevirtual 55) 3 31 := ⟨by decide +kernel, rfl⟩
theorem dX8_write_31 : D1 cX8_write 31 (.ireturn) 1 32 := ⟨by decide +kernel, rfl⟩
theorem dX8_write_32 : D1 cX8_write 32 (.iload_n 2) 1 33 := ⟨by decide +kernel, rfl⟩
theorem dX8_write_33 : D1 cX8_write 33 (.iconst 0) 1 34 := ⟨by decide +kernel, rfl⟩
theorem dX8_write_34 : D1 cX8_write 34 (.aload 4) 2 36 := ⟨by decide +kernel, rfl⟩
theorem dX8_write_36 : D1 cX8_write 36 (.getfield 246) 3 39 := ⟨by decide +kernel, rfl⟩
theorem dX8_write_39 : D1 cX8_write 39 (.iconst 1) 1 40 := ⟨by decide +kernel, rfl⟩
theorem dX8_write_40 : D1 cX8_write 40 (.isub) 1 41 := ⟨by decide +kernel, rfl⟩
theorem dX8_write_41 : D1 cX8_write 41 (.invokestatic 51) 3 44 := ⟨by decide +kernel, rfl⟩
theorem dX8_write_44 : DJ cX8_write 44 (.ifCond .ne) 47 53 := ⟨9, by decide +kernel, rfl, by decide⟩
theorem dX8_write_47 : D1 cX8_write 47 (.aload_n 0) 1 48 := ⟨by decide +kernel, rfl⟩
theorem dX8_write_48 : D1 cX8_write 48 (.iconst 0) 1 49 := ⟨by decide +kernel, rfl⟩
theorem dX8_write_49 : D1 cX8_write 49 (.invokevirtual 55) 3 52 := ⟨by decide +kernel, rfl⟩
theorem dX8_write_52 : D1 cX8_write 52 (.ireturn) 1 53 := ⟨by decide +kernel, rfl⟩
theorem dX8_write_53 : D1 cX8_write 53 (.aload 4) 2 55 := ⟨by decide +kernel, rfl⟩
theorem dX8_write_55 : D1 cX8_write 55 (.iload_n 2) 1 56 := ⟨by decide +kernel, rfl⟩
theorem dX8_write_56 : D1 cX8_write 56 (.iload_n 3) 1 57 := ⟨by decide +kernel, rfl⟩
theorem dX8_write_57 : D1 cX8_write 57 (.invokevirtual 253) 3 60 := ⟨by decide +kernel, rfl⟩
theorem dX8_write_60 : D1 cX8_write 60 (.iconst 1) 1 61 := ⟨by decide +kernel, rfl⟩
theorem dX8_write_61 : D1 cX8_write 61 (.ireturn) 1 62 := ⟨by decide +kernel, rfl⟩
theorem dX8_copy_0 : D1 cX8_copy 0 (.aload_n 0) 1 1 := ⟨by decide +kernel, rfl⟩
theorem dX8_copy_1 : D1 cX8_copy 1 (.iload_n 1) 1 2 := ⟨by decide +kernel, rfl⟩
theorem dX8_copy_2 : D1 cX8_copy 2 (.invokevirtual 239) 3 5 := ⟨by decide +kernel, rfl⟩
theorem dX8_copy_5 : D1 cX8_copy 5 (.astore 6) 2 7 := ⟨by decide +kernel, rfl⟩
theorem dX8_copy_7 : D1 cX8_copy 7 (.aload_n 0) 1 8 := ⟨by decide +kernel, rfl⟩
theorem dX8_copy_8 : D1 cX8_copy 8 (.iload_n 3) 1 9 := ⟨by decide +kernel, rfl⟩
theorem dX8_copy_9 : D1 cX8_copy 9 (.invokevirtual 239) 3 12 := ⟨by decide +kernel, rfl⟩
theorem dX8_copy_12 : D1 cX8_copy 12 (.astore 7) 2 14 := ⟨by decide +kernel, rfl⟩
theorem dX8_copy_14 : D1 cX8_copy 14 (.aload 6) 2 16 := ⟨by decide +kernel, rfl⟩
theorem dX8_copy_16 : DJ cX8_copy 16 .ifnull 19 24 := ⟨8, by decide +kernel, rfl, by decide⟩
theorem dX8_copy_19 : D1 cX8_copy 19 (.aload 7) 2 21 := ⟨by decide +kernel, rfl⟩
theorem dX8_copy_21 : DJ cX8_copy 21 .ifnonnull 24 30 := ⟨9, by decide +kernel, rfl, by decide⟩
theorem dX8_copy_24 : D1 cX8_copy 24 (.aload_n 0) 1 25 := ⟨by decide +kernel, rfl⟩
theorem dX8_copy_25 : D1 cX8_copy 25 (.iconst 0) 1 26 := ⟨by decide +kernel, rfl⟩
theorem dX8_copy_26 : D1 cX8_copy 26 (.invokevirtual 55) 3 29 := ⟨by decide +kernel, rfl⟩
theorem dX8_copy_29 : D1 cX8_copy 29 (.ireturn) 1 30 := ⟨by decide +kernel, rfl⟩
theorem dX8_copy_30 : D1 cX8_copy 30 (.aload 6) 2 32 := ⟨by decide +kernel, rfl⟩
theorem dX8_copy_32 : D1 cX8_copy 32 (.invokevirtual 249) 3 35 := ⟨by decide +kernel, rfl⟩
theorem dX8_copy_35 : DJ cX8_copy 35 (.ifCond .ne) 38 46 := ⟨11, by decide +kernel, rfl, by decide⟩
theorem dX8_copy_38 : D1 cX8_copy 38 (.aload 7) 2 40 := ⟨by decide +kernel, rfl⟩
theorem dX8_copy_40 : D1 cX8_copy 40 (.invokevirtual 249) 3 43 := ⟨by decide +kernel, rfl⟩
theorem dX8_copy_43 : DJ cX8_copy 43 (.ifCond .eq) 46 52 := ⟨9, by decide +kernel, rfl, by decide⟩
theorem dX8_copy_46 : D1 cX8_copy 46 (.aload_n 0) 1 47 := ⟨by decide +kernel, rfl⟩
theorem dX8_copy_47 : D1 cX8_copy 47 (.iconst 5) 1 48 := ⟨by decide +kernel, rfl⟩
theorem dX8_copy_48 : D1 cX8_copy 48 (.invokevirtual 55) 3 51 := ⟨by decide +kernel, rfl⟩
theorem dX8_copy_51 : D1 cX8_copy 51 (.ireturn) 1 52 := ⟨by decide +kernel, rfl⟩
theorem dX8_copy_52 : D1 cX8_copy 52 (.aload 6) 2 54 := ⟨by decide +kernel, rfl⟩
theorem dX8_copy_54 : D1 cX8_copy 54 (.getfield 254) 3 57 := ⟨by decide +kernel, rfl⟩
theorem dX8_copy_57 : D1 cX8_copy 57 (.aload 7) 2 59 := ⟨by decide +kernel, rfl⟩
theorem dX8_copy_59 : D1 cX8_copy 59 (.getfield 254) 3 62 := ⟨by decide +kernel, rfl⟩
theorem dX8_copy_62 : DJ cX8_copy 62 (.if_icmp .eq) 65 71 := ⟨9, by decide +kernel, rfl, by decide⟩
theorem dX8_copy_65 : D1 cX8_copy 65 (.aload_n 0) 1 66 := ⟨by decide +kernel, rfl⟩
theorem dX8_copy_66 : D1 cX8_copy 66 (.iconst 2) 1 67 := ⟨by decide +kernel, rfl⟩
theorem dX8_copy_67 : D1 cX8_copy 67 (.invokevirtual 55) 3 70 := ⟨by decide +kernel, rfl⟩
theorem dX8_copy_70 : D1 cX8_copy 70 (.ireturn) 1 71 := ⟨by decide +kernel, rfl⟩
theorem dX8_copy_71 : D1 cX8_copy 71 (.aload 6) 2 73 := ⟨by decide +kernel, rfl⟩
theorem dX8_copy_73 : D1 cX8_copy 73 (.iload_n 2) 1 74 := ⟨by decide +kernel, rfl⟩
theorem dX8_copy_74 : D1 cX8_copy 74 (.iload 5) 2 76 := ⟨by decide +kernel, rfl⟩
theorem dX8_copy_76 : D1 cX8_copy 76 (.invokevirtual 257) 3 79 := ⟨by decide +kernel, rfl⟩
theorem dX8_copy_79 : DJ cX8_copy 79 (.ifCond .eq) 82 94 := ⟨15, by decide +kernel, rfl, by decide⟩
theorem dX8_copy_82 : D1 cX8_copy 82 (.aload 7) 2 84 := ⟨by decide +kernel, rfl⟩
theorem dX8_copy_84 : D1 cX8_copy 84 (.iload 4) 2 86 := ⟨by decide +kernel, rfl⟩
theorem dX8_copy_86 : D1 cX8_copy 86 (.iload 5) 2 88 := ⟨by decide +kernel, rfl⟩
theorem dX8_copy_88 : D1 cX8_copy 88 (.invokevirtual 257) 3 91 := ⟨by decide +kernel, rfl⟩
theorem dX8_copy_91 : DJ cX8_copy 91 (.ifCond .ne) 94 100 := ⟨9, by decide +kernel, rfl, by decide⟩
theorem dX8_copy_94 : D1 cX8_copy 94 (.aload_n 0) 1 95 := ⟨by decide +kernel, rfl⟩
theorem dX8_copy_95 : D1 cX8_copy 95 (.iconst 0) 1 96 := ⟨by decide +kernel, rfl⟩
theorem dX8_copy_96 : D1 cX8_copy 96 (.invokevirtual 55) 3 99 := ⟨by decide +kernel, rfl⟩
theorem dX8_copy_99 : D1 cX8_copy 99 (.ireturn) 1 100 := ⟨by decide +kernel, rfl⟩
theorem dX8_copy_100 : D1 cX8_copy 100 (.iconst 0) 1 101 := ⟨by decide +kernel, rfl⟩
theorem dX8_copy_101 : D1 cX8_copy 101 (.istore 8) 2 103 := ⟨by decide +kernel, rfl⟩
theorem dX8_copy_103 : D1 cX8_copy 103 (.iload 8) 2 105 := ⟨by decide +kernel, rfl⟩
theorem dX8_copy_105 : D1 cX8_copy 105 (.iload 5) 2 107 := ⟨by decide +kernel, rfl⟩
theorem dX8_copy_107 : DJ cX8_copy 107 (.if_icmp .ge) 110 155 := ⟨48, by decide +kernel, rfl, by decide⟩
theorem dX8_copy_110 : D1 cX8_copy 110 (.iload_n 2) 1 111 := ⟨by decide +kernel, rfl⟩
theorem dX8_copy_111 : D1 cX8_copy 111 (.iload 4) 2 113 := ⟨by decide +kernel, rfl⟩
theorem dX8_copy_113 : DJ cX8_copy 113 (.if_icmp .ge) 116 126 := ⟨13, by decide +kernel, rfl, by decide⟩
theorem dX8_copy_116 : D1 cX8_copy 116 (.iload 5) 2 118 := ⟨by decide +kernel, rfl⟩
theorem dX8_copy_118 : D1 cX8_copy 118 (.iconst 1) 1 119 := ⟨by decide +kernel, rfl⟩
theorem dX8_copy_119 : D1 cX8_copy 119 (.isub) 1 120 := ⟨by decide +kernel, rfl⟩
theorem dX8_copy_120 : D1 cX8_copy 120 (.iload 8) 2 122 := ⟨by decide +kernel, rfl⟩
theorem dX8_copy_122 : D1 cX8_copy 122 (.isub) 1 123 := ⟨by decide +kernel, rfl⟩
theorem dX8_copy_123 : DJ cX8_copy 123 .goto 126 128 := ⟨5, by decide +kernel, rfl, by decide⟩
theorem dX8_copy_126 : D1 cX8_copy 126 (.iload 8) 2 128 := ⟨by decide +kernel, rfl⟩
theorem dX8_copy_128 : D1 cX8_copy 128 (.istore 9) 2 130 := ⟨by decide +kernel, rfl⟩
theorem dX8_copy_130 : D1 cX8_copy 130 (.aload 7) 2 132 := ⟨by decide +kernel, rfl⟩
theorem dX8_copy_132 : D1 cX8_copy 132 (.iload 4) 2 134 := ⟨by decide +kernel, rfl⟩
theorem dX8_copy_134 : D1 cX8_copy 134 (.iload 9) 2 136 := ⟨by decide +kernel, rfl⟩
theorem dX8_copy_136 : D1 cX8_copy 136 (.iadd) 1 137 := ⟨by decide +kernel, rfl⟩
theorem dX8_copy_137 : D1 cX8_copy 137 (.aload 6) 2 139 := ⟨by decide +kernel, rfl⟩
theorem dX8_copy_139 : D1 cX8_copy 139 (.iload_n 2) 1 140 := ⟨by decide +kernel, rfl⟩
theorem dX8_copy_140 : D1 cX8_copy 140 (.iload 9) 2 142 := ⟨by decide +kernel, rfl⟩
theorem dX8_copy_142 : D1 cX8_copy 142 (.iadd) 1 143 := ⟨by decide +kernel, rfl⟩
theorem dX8_copy_143 : D1 cX8_copy 143 (.invokevirtual 261) 3 146 := ⟨by decide +kernel, rfl⟩
theorem dX8_copy_146 : D1 cX8_copy 146 (.invokevirtual 253) 3 149 := ⟨by decide +kernel, rfl⟩
theorem dX8_copy_149 : D1 cX8_copy 149 (.iinc 8 1) 3 152 := ⟨by decide +kernel, rfl⟩
theorem dX8_copy_152 : DJ cX8_copy 152 .goto 155 103 := ⟨(-49), by decide +kernel, rfl, by decide⟩
theorem dX8_copy_155 : D1 cX8_copy 155 (.iload 5) 2 157 := ⟨by decide +kernel, rfl⟩
theorem dX8_copy_157 : D1 cX8_copy 157 (.ireturn) 1 158 := ⟨by decide +kernel, rfl⟩
theorem dX8_load_0 : D1 cX8_load 0 (.aload_n 0) 1 1 := ⟨by decide +kernel, rfl⟩
theorem dX8_load_1 : D1 cX8_load 1 (.iload_n 1) 1 2 := ⟨by decide +kernel, rfl⟩
theorem dX8_load_2 : D1 cX8_load 2 (.invokevirtual 239) 3 5 := ⟨by decide +kernel, rfl⟩
theorem dX8_load_5 : D1 cX8_load 5 (.astore_n 2) 1 6 := ⟨by decide +kernel, rfl⟩
theorem dX8_load_6 : D1 cX8_load 6 (.aload_n 2) 1 7 := ⟨by decide +kernel, rfl⟩
theorem dX8_load_7 : DJ cX8_load 7 .ifnonnull 10 16 := ⟨9, by decide +kernel, rfl, by decide⟩
theorem dX8_load_10 : D1 cX8_load 10 (.aload_n 0) 1 11 := ⟨by decide +kernel, rfl⟩
theorem dX8_load_11 : D1 cX8_load 11 (.iconst 0) 1 12 := ⟨by decide +kernel, rfl⟩
theorem dX8_load_12 : D1 cX8_load 12 (.invokevirtual 55) 3 15 := ⟨by decide +kernel, rfl⟩
theorem dX8_load_15 : D1 cX8_load 15 (.ireturn) 1 16 := ⟨by decide +kernel, rfl⟩
theorem dX8_load_16 : D1 cX8_load 16 (.aload_n 2) 1 17 := ⟨by decide +kernel, rfl⟩
theorem dX8_load_17 : D1 cX8_load 17 (.invokevirtual 249) 3 20 := ⟨by decide +kernel, rfl⟩
theorem dX8_load_20 : DJ cX8_load 20 (.ifCond .eq) 23 29 := ⟨9, by decide +kernel, rfl, by decide⟩
theorem dX8_load_23 : D1 cX8_load 23 (.aload_n 0) 1 24 := ⟨by decide +kernel, rfl⟩
theorem dX8_load_24 : D1 cX8_load 24 (.iconst 5) 1 25 := ⟨by decide +kernel, rfl⟩
theorem dX8_load_25 : D1 cX8_load 25 (.invokevirtual 55) 3 28 := ⟨by decide +kernel, rfl⟩
theorem dX8_load_28 : D1 cX8_load 28 (.ireturn) 1 29 := ⟨by decide +kernel, rfl⟩
theorem dX8_load_29 : D1 cX8_load 29 (.iconst 0) 1 30 := ⟨by decide +kernel, rfl⟩
theorem dX8_load_30 : D1 cX8_load 30 (.istore_n 3) 1 31 := ⟨by decide +kernel, rfl⟩
theorem dX8_load_31 : D1 cX8_load 31 (.iconst 0) 1 32 := ⟨by decide +kernel, rfl⟩
theorem dX8_load_32 : D1 cX8_load 32 (.istore 4) 2 34 := ⟨by decide +kernel, rfl⟩
theorem dX8_load_34 : D1 cX8_load 34 (.iload 4) 2 36 := ⟨by decide +kernel, rfl⟩
theorem dX8_load_36 : D1 cX8_load 36 (.aload_n 2) 1 37 := ⟨by decide +kernel, rfl⟩
theorem dX8_load_37 : D1 cX8_load 37 (.getfield 246) 3 40 := ⟨by decide +kernel, rfl⟩
theorem dX8_load_40 : DJ cX8_load 40 (.if_icmp .ge) 43 97 := ⟨57, by decide +kernel, rfl, by decide⟩
theorem dX8_load_43 : D1 cX8_load 43 (.aload_n 0) 1 44 := ⟨by decide +kernel, rfl⟩
theorem dX8_load_44 : D1 cX8_load 44 (.getfield 10) 3 47 := ⟨by decide +kernel, rfl⟩
theorem dX8_load_47 : D1 cX8_load 47 (.iload 4) 2 49 := ⟨by decide +kernel, rfl⟩
theorem dX8_load_49 : D1 cX8_load 49 (.invokevirtual 67) 3 52 := ⟨by decide +kernel, rfl⟩
theorem dX8_load_52 : D1 cX8_load 52 (.astore 5) 2 54 := ⟨by decide +kernel, rfl⟩
theorem dX8_load_54 : D1 cX8_load 54 (.aload_n 2) 1 55 := ⟨by decide +kernel, rfl⟩
theorem dX8_load_55 : D1 cX8_load 55 (.iload 4) 2 57 := ⟨by decide +kernel, rfl⟩
theorem dX8_load_57 : D1 cX8_load 57 (.invokevirtual 261) 3 60 := ⟨by decide +kernel, rfl⟩
theorem dX8_load_60 : D1 cX8_load 60 (.istore 6) 2 62 := ⟨by decide +kernel, rfl⟩
theorem dX8_load_62 : D1 cX8_load 62 (.aload 5) 2 64 := ⟨by decide +kernel, rfl⟩
theorem dX8_load_64 : DJ cX8_load 64 .ifnull 67 97 := ⟨33, by decide +kernel, rfl, by decide⟩
theorem dX8_load_67 : D1 cX8_load 67 (.iload 6) 2 69 := ⟨by decide +kernel, rfl⟩
theorem dX8_load_69 : D1 cX8_load 69 (.iconst 0) 1 70 := ⟨by decide +kernel, rfl⟩
theorem dX8_load_70 : D1 cX8_load 70 (.bipush 99) 2 72 := ⟨by decide +kernel, rfl⟩
theorem dX8_load_72 : D1 cX8_load 72 (.invokestatic 51) 3 75 := ⟨by decide +kernel, rfl⟩
theorem dX8_load_75 : DJ cX8_load 75 (.ifCond .ne) 78 81 := ⟨6, by decide +kernel, rfl, by decide⟩
theorem dX8_load_78 : DJ cX8_load 78 .goto 81 97 := ⟨19, by decide +kernel, rfl, by decide⟩
theorem dX8_load_81 : D1 cX8_load 81 (.aload 5) 2 83 := ⟨by decide +kernel, rfl⟩
theorem dX8_load_83 : D1 cX8_load 83 (.iload 6) 2 85 := ⟨by decide +kernel, rfl⟩
theorem dX8_load_85 : D1 cX8_load 85 (.putfield 109) 3 88 := ⟨by decide +kernel, rfl⟩
theorem dX8_load_88 : D1 cX8_load 88 (.iinc 3 1) 3 91 := ⟨by decide +kernel, rfl⟩
theorem dX8_load_91 : D1 cX8_load 91 (.iinc 4 1) 3 94 := ⟨by decide +kernel, rfl⟩
theorem dX8_load_94 : DJ cX8_load 94 .goto 97 34 := ⟨(-60), by decide +kernel, rfl, by decide⟩
theorem dX8_load_97 : D1 cX8_load 97 (.iload_n 3) 1 98 := ⟨by decide +kernel, rfl⟩
theorem dX8_load_98 : D1 cX8_load 98 (.ireturn) 1 99 := ⟨by decide +kernel, rfl⟩
theorem dX8_rounds_0 : D1 cX8_rounds 0 (.aload_n 0) 1 1 := ⟨by decide +kernel, rfl⟩
theorem dX8_rounds_1 : D1 cX8_rounds 1 (.iload_n 1) 1 2 := ⟨by decide +kernel, rfl⟩
theorem dX8_rounds_2 : D1 cX8_rounds 2 (.invokevirtual 239) 3 5 := ⟨by decide +kernel, rfl⟩
theorem dX8_rounds_5 : D1 cX8_rounds 5 (.astore_n 3) 1 6 := ⟨by decide +kernel, rfl⟩
theorem dX8_rounds_6 : D1 cX8_rounds 6 (.aload_n 3) 1 7 := ⟨by decide +kernel, rfl⟩
theorem dX8_rounds_7 : DJ cX8_rounds 7 .ifnonnull 10 16 := ⟨9, by decide +kernel, rfl, by decide⟩
theorem dX8_rounds_10 : D1 cX8_rounds 10 (.aload_n 0) 1 11 := ⟨by decide +kernel, rfl⟩
theorem dX8_rounds_11 : D1 cX8_rounds 11 (.iconst 0) 1 12 := ⟨by decide +kernel, rfl⟩
theorem dX8_rounds_12 : D1 cX8_rounds 12 (.invokevirtual 55) 3 15 := ⟨by decide +kernel, rfl⟩
theorem dX8_rounds_15 : D1 cX8_rounds 15 (.ireturn) 1 16 := ⟨by decide +kernel, rfl⟩
theorem dX8_rounds_16 : D1 cX8_rounds 16 (.aload_n 3) 1 17 := ⟨by decide +kernel, rfl⟩
theorem dX8_rounds_17 : D1 cX8_rounds 17 (.invokevirtual 249) 3 20 := ⟨by decide +kernel, rfl⟩
theorem dX8_rounds_20 : DJ cX8_rounds 20 (.ifCond .eq) 23 29 := ⟨9, by decide +kernel, rfl, by decide⟩
theorem dX8_rounds_23 : D1 cX8_rounds 23 (.aload_n 0) 1 24 := ⟨by decide +kernel, rfl⟩
theorem dX8_rounds_24 : D1 cX8_rounds 24 (.iconst 5) 1 25 := ⟨by decide +kernel, rfl⟩
theorem dX8_rounds_25 : D1 cX8_rounds 25 (.invokevirtual 55) 3 28 := ⟨by decide +kernel, rfl⟩
theorem dX8_rounds_28 : D1 cX8_rounds 28 (.ireturn) 1 29 := ⟨by decide +kernel, rfl⟩
theorem dX8_rounds_29 : D1 cX8_rounds 29 (.iload_n 2) 1 30 := ⟨by decide +kernel, rfl⟩
theorem dX8_rounds_30 : D1 cX8_rounds 30 (.iconst 1) 1 31 := ⟨by decide +kernel, rfl⟩
theorem dX8_rounds_31 : D1 cX8_rounds 31 (.bipush 12) 2 33 := ⟨by decide +kernel, rfl⟩
theorem dX8_rounds_33 : D1 cX8_rounds 33 (.invokestatic 51) 3 36 := ⟨by decide +kernel, rfl⟩
theorem dX8_rounds_36 : DJ cX8_rounds 36 (.ifCond .ne) 39 45 := ⟨9, by decide +kernel, rfl, by decide⟩
theorem dX8_rounds_39 : D1 cX8_rounds 39 (.aload_n 0) 1 40 := ⟨by decide +kernel, rfl⟩
theorem dX8_rounds_40 : D1 cX8_rounds 40 (.iconst 0) 1 41 := ⟨by decide +kernel, rfl⟩
theorem dX8_rounds_41 : D1 cX8_rounds 41 (.invokevirtual 55) 3 44 := ⟨by decide +kernel, rfl⟩
theorem dX8_rounds_44 : D1 cX8_rounds 44 (.ireturn) 1 45 := ⟨by decide +kernel, rfl⟩
theorem dX8_rounds_45 : D1 cX8_rounds 45 (.aload_n 0) 1 46 := ⟨by decide +kernel, rfl⟩
theorem dX8_rounds_46 : D1 cX8_rounds 46 (.aload_n 3) 1 47 := ⟨by decide +kernel, rfl⟩
theorem dX8_rounds_47 : D1 cX8_rounds 47 (.invokevirtual 263) 3 50 := ⟨by decide +kernel, rfl⟩
theorem dX8_rounds_50 : DJ cX8_rounds 50 (.ifCond .eq) 53 76 := ⟨26, by decide +kernel, rfl, by decide⟩
theorem dX8_rounds_53 : D1 cX8_rounds 53 (.aload_n 0) 1 54 := ⟨by decide +kernel, rfl⟩
theorem dX8_rounds_54 : D1 cX8_rounds 54 (.getfield 10) 3 57 := ⟨by decide +kernel, rfl⟩
theorem dX8_rounds_57 : D1 cX8_rounds 57 (.getfield 116) 3 60 := ⟨by decide +kernel, rfl⟩
theorem dX8_rounds_60 : DJ cX8_rounds 60 (.ifCond .gt) 63 76 := ⟨16, by decide +kernel, rfl, by decide⟩
theorem dX8_rounds_63 : D1 cX8_rounds 63 (.aload_n 0) 1 64 := ⟨by decide +kernel, rfl⟩
theorem dX8_rounds_64 : D1 cX8_rounds 64 (.getfield 10) 3 67 := ⟨by decide +kernel, rfl⟩
theorem dX8_rounds_67 : D1 cX8_rounds 67 (.getfield 133) 3 70 := ⟨by decide +kernel, rfl⟩
theorem dX8_rounds_70 : D1 cX8_rounds 70 (.sipush 4000) 3 73 := ⟨by decide +kernel, rfl⟩
theorem dX8_rounds_73 : DJ cX8_rounds 73 (.if_icmp .le) 76 82 := ⟨9, by decide +kernel, rfl, by decide⟩
theorem dX8_rounds_76 : D1 cX8_rounds 76 (.aload_n 0) 1 77 := ⟨by decide +kernel, rfl⟩
theorem dX8_rounds_77 : D1 cX8_rounds 77 (.iconst 4) 1 78 := ⟨by decide +kernel, rfl⟩
theorem dX8_rounds_78 : D1 cX8_rounds 78 (.invokevirtual 55) 3 81 := ⟨by decide +kernel, rfl⟩
theorem dX8_rounds_81 : D1 cX8_rounds 81 (.ireturn) 1 82 := ⟨by decide +kernel, rfl⟩
theorem dX8_rounds_82 : D1 cX8_rounds 82 (.aload_n 0) 1 83 := ⟨by decide +kernel, rfl⟩
theorem dX8_rounds_83 : D1 cX8_rounds 83 (.getfield 19) 3 86 := ⟨by decide +kernel, rfl⟩
theorem dX8_rounds_86 : D1 cX8_rounds 86 (.aload_n 0) 1 87 := ⟨by decide +kernel, rfl⟩
theorem dX8_rounds_87 : D1 cX8_rounds 87 (.getfield 10) 3 90 := ⟨by decide +kernel, rfl⟩
theorem dX8_rounds_90 : D1 cX8_rounds 90 (.invokevirtual 267) 3 93 := ⟨by decide +kernel, rfl⟩
theorem dX8_rounds_93 : D1 cX8_rounds 93 (.iconst 0) 1 94 := ⟨by decide +kernel, rfl⟩
theorem dX8_rounds_94 : D1 cX8_rounds 94 (.istore 4) 2 96 := ⟨by decide +kernel, rfl⟩
theorem dX8_rounds_96 : D1 cX8_rounds 96 (.iload 4) 2 98 := ⟨by decide +kernel, rfl⟩
theorem dX8_rounds_98 : D1 cX8_rounds 98 (.aload_n 3) 1 99 := ⟨by decide +kernel, rfl⟩
theorem dX8_rounds_99 : D1 cX8_rounds 99 (.getfield 246) 3 102 := ⟨by decide +kernel, rfl⟩
theorem dX8_rounds_102 : DJ cX8_rounds 102 (.if_icmp .ge) 105 125 := ⟨23, by decide +kernel, rfl, by decide⟩
theorem dX8_rounds_105 : D1 cX8_rounds 105 (.aload_n 0) 1 106 := ⟨by decide +kernel, rfl⟩
theorem dX8_rounds_106 : D1 cX8_rounds 106 (.getfield 19) 3 109 := ⟨by decide +kernel, rfl⟩
theorem dX8_rounds_109 : D1 cX8_rounds 109 (.aload_n 3) 1 110 := ⟨by decide +kernel, rfl⟩
theorem dX8_rounds_110 : D1 cX8_rounds 110 (.iload 4) 2 112 := ⟨by decide +kernel, rfl⟩
theorem dX8_rounds_112 : D1 cX8_rounds 112 (.invokevirtual 261) 3 115 := ⟨by decide +kernel, rfl⟩
theorem dX8_rounds_115 : D1 cX8_rounds 115 (.iload_n 2) 1 116 := ⟨by decide +kernel, rfl⟩
theorem dX8_rounds_116 : D1 cX8_rounds 116 (.invokevirtual 270) 3 119 := ⟨by decide +kernel, rfl⟩
theorem dX8_rounds_119 : D1 cX8_rounds 119 (.iinc 4 1) 3 122 := ⟨by decide +kernel, rfl⟩
theorem dX8_rounds_122 : DJ cX8_rounds 122 .goto 125 96 := ⟨(-26), by decide +kernel, rfl, by decide⟩
theorem dX8_rounds_125 : D1 cX8_rounds 125 (.aload_n 0) 1 126 := ⟨by decide +kernel, rfl⟩
theorem dX8_rounds_126 : D1 cX8_rounds 126 (.getfield 19) 3 129 := ⟨by decide +kernel, rfl⟩
theorem dX8_rounds_129 : D1 cX8_rounds 129 (.getfield 192) 3 132 := ⟨by decide +kernel, rfl⟩
theorem dX8_rounds_132 : D1 cX8_rounds 132 (.ireturn) 1 133 := ⟨by decide +kernel, rfl⟩
theorem dX8_diary_0 : D1 cX8_diary 0 (.aload_n 0) 1 1 := ⟨by decide +kernel, rfl⟩
theorem dX8_diary_1 : D1 cX8_diary 1 (.iload_n 1) 1 2 := ⟨by decide +kernel, rfl⟩
theorem dX8_diary_2 : D1 cX8_diary 2 (.invokevirtual 239) 3 5 := ⟨by decide +kernel, rfl⟩
theorem dX8_diary_5 : D1 cX8_diary 5 (.astore_n 3) 1 6 := ⟨by decide +kernel, rfl⟩
theorem dX8_diary_6 : D1 cX8_diary 6 (.aload_n 3) 1 7 := ⟨by decide +kernel, rfl⟩
theorem dX8_diary_7 : DJ cX8_diary 7 .ifnonnull 10 16 := ⟨9, by decide +kernel, rfl, by decide⟩
theorem dX8_diary_10 : D1 cX8_diary 10 (.aload_n 0) 1 11 := ⟨by decide +kernel, rfl⟩
theorem dX8_diary_11 : D1 cX8_diary 11 (.iconst 0) 1 12 := ⟨by decide +kernel, rfl⟩
theorem dX8_diary_12 : D1 cX8_diary 12 (.invokevirtual 55) 3 15 := ⟨by decide +kernel, rfl⟩
theorem dX8_diary_15 : D1 cX8_diary 15 (.ireturn) 1 16 := ⟨by decide +kernel, rfl⟩
theorem dX8_diary_16 : D1 cX8_diary 16 (.aload_n 3) 1 17 := ⟨by decide +kernel, rfl⟩
theorem dX8_diary_17 : D1 cX8_diary 17 (.invokevirtual 249) 3 20 := ⟨by decide +kernel, rfl⟩
theorem dX8_diary_20 : DJ cX8_diary 20 (.ifCond .eq) 23 29 := ⟨9, by decide +kernel, rfl, by decide⟩
theorem dX8_diary_23 : D1 cX8_diary 23 (.aload_n 0) 1 24 := ⟨by decide +kernel, rfl⟩
theorem dX8_diary_24 : D1 cX8_diary 24 (.iconst 5) 1 25 := ⟨by decide +kernel, rfl⟩
theorem dX8_diary_25 : D1 cX8_diary 25 (.invokevirtual 55) 3 28 := ⟨by decide +kernel, rfl⟩
theorem dX8_diary_28 : D1 cX8_diary 28 (.ireturn) 1 29 := ⟨by decide +kernel, rfl⟩
theorem dX8_diary_29 : D1 cX8_diary 29 (.aload_n 0) 1 30 := ⟨by decide +kernel, rfl⟩
theorem dX8_diary_30 : D1 cX8_diary 30 (.iload_n 2) 1 31 := ⟨by decide +kernel, rfl⟩
theorem dX8_diary_31 : D1 cX8_diary 31 (.invokevirtual 185) 3 34 := ⟨by decide +kernel, rfl⟩
theorem dX8_diary_34 : D1 cX8_diary 34 (.istore 4) 2 36 := ⟨by decide +kernel, rfl⟩
theorem dX8_diary_36 : D1 cX8_diary 36 (.iload 4) 2 38 := ⟨by decide +kernel, rfl⟩
theorem dX8_diary_38 : DJ cX8_diary 38 (.ifCond .lt) 41 48 := ⟨10, by decide +kernel, rfl, by decide⟩
theorem dX8_diary_41 : D1 cX8_diary 41 (.aload_n 0) 1 42 := ⟨by decide +kernel, rfl⟩
theorem dX8_diary_42 : D1 cX8_diary 42 (.iload 4) 2 44 := ⟨by decide +kernel, rfl⟩
theorem dX8_diary_44 : D1 cX8_diary 44 (.invokevirtual 55) 3 47 := ⟨by decide +kernel, rfl⟩
theorem dX8_diary_47 : D1 cX8_diary 47 (.ireturn) 1 48 := ⟨by decide +kernel, rfl⟩
theorem dX8_diary_48 : D1 cX8_diary 48 (.new 273) 3 51 := ⟨by decide +kernel, rfl⟩
theorem dX8_diary_51 : D1 cX8_diary 51 (.dup) 1 52 := ⟨by decide +kernel, rfl⟩
theorem dX8_diary_52 : D1 cX8_diary 52 (.aload_n 3) 1 53 := ⟨by decide +kernel, rfl⟩
theorem dX8_diary_53 : D1 cX8_diary 53 (.invokespecial 275) 3 56 := ⟨by decide +kernel, rfl⟩
theorem dX8_diary_56 : D1 cX8_diary 56 (.astore 5) 2 58 := ⟨by decide +kernel, rfl⟩
theorem dX8_diary_58 : D1 cX8_diary 58 (.aload_n 0) 1 59 := ⟨by decide +kernel, rfl⟩
theorem dX8_diary_59 : D1 cX8_diary 59 (.iload_n 2) 1 60 := ⟨by decide +kernel, rfl⟩
theorem dX8_diary_60 : D1 cX8_diary 60 (.aload 5) 2 62 := ⟨by decide +kernel, rfl⟩
theorem dX8_diary_62 : D1 cX8_diary 62 (.invokevirtual 198) 3 65 := ⟨by decide +kernel, rfl⟩
theorem dX8_diary_65 : D1 cX8_diary 65 (.aload 5) 2 67 := ⟨by decide +kernel, rfl⟩
theorem dX8_diary_67 : D1 cX8_diary 67 (.getfield 278) 3 70 := ⟨by decide +kernel, rfl⟩
theorem dX8_diary_70 : D1 cX8_diary 70 (.ireturn) 1 71 := ⟨by decide +kernel, rfl⟩
theorem dX8_judge_0 : D1 cX8_judge 0 (.aload_n 0) 1 1 := ⟨by decide +kernel, rfl⟩
theorem dX8_judge_1 : D1 cX8_judge 1 (.iload_n 1) 1 2 := ⟨by decide +kernel, rfl⟩
theorem dX8_judge_2 : D1 cX8_judge 2 (.invokevirtual 239) 3 5 := ⟨by decide +kernel, rfl⟩
theorem dX8_judge_5 : D1 cX8_judge 5 (.astore_n 3) 1 6 := ⟨by decide +kernel, rfl⟩
theorem dX8_judge_6 : D1 cX8_judge 6 (.aload_n 3) 1 7 := ⟨by decide +kernel, rfl⟩
theorem dX8_judge_7 : DJ cX8_judge 7 .ifnonnull 10 16 := ⟨9, by decide +kernel, rfl, by decide⟩
theorem dX8_judge_10 : D1 cX8_judge 10 (.aload_n 0) 1 11 := ⟨by decide +kernel, rfl⟩
theorem dX8_judge_11 : D1 cX8_judge 11 (.iconst 0) 1 12 := ⟨by decide +kernel, rfl⟩
theorem dX8_judge_12 : D1 cX8_judge 12 (.invokevirtual 55) 3 15 := ⟨by decide +kernel, rfl⟩
theorem dX8_judge_15 : D1 cX8_judge 15 (.ireturn) 1 16 := ⟨by decide +kernel, rfl⟩
theorem dX8_judge_16 : D1 cX8_judge 16 (.aload_n 3) 1 17 := ⟨by decide +kernel, rfl⟩
theorem dX8_judge_17 : D1 cX8_judge 17 (.invokevirtual 249) 3 20 := ⟨by decide +kernel, rfl⟩
theorem dX8_judge_20 : DJ cX8_judge 20 (.ifCond .eq) 23 29 := ⟨9, by decide +kernel, rfl, by decide⟩
theorem dX8_judge_23 : D1 cX8_judge 23 (.aload_n 0) 1 24 := ⟨by decide +kernel, rfl⟩
theorem dX8_judge_24 : D1 cX8_judge 24 (.iconst 5) 1 25 := ⟨by decide +kernel, rfl⟩
theorem dX8_judge_25 : D1 cX8_judge 25 (.invokevirtual 55) 3 28 := ⟨by decide +kernel, rfl⟩
theorem dX8_judge_28 : D1 cX8_judge 28 (.ireturn) 1 29 := ⟨by decide +kernel, rfl⟩
theorem dX8_judge_29 : D1 cX8_judge 29 (.aload_n 0) 1 30 := ⟨by decide +kernel, rfl⟩
theorem dX8_judge_30 : D1 cX8_judge 30 (.getfield 10) 3 33 := ⟨by decide +kernel, rfl⟩
theorem dX8_judge_33 : D1 cX8_judge 33 (.iload_n 2) 1 34 := ⟨by decide +kernel, rfl⟩
theorem dX8_judge_34 : D1 cX8_judge 34 (.invokevirtual 67) 3 37 := ⟨by decide +kernel, rfl⟩
theorem dX8_judge_37 : DJ cX8_judge 37 .ifnonnull 40 46 := ⟨9, by decide +kernel, rfl, by decide⟩
theorem dX8_judge_40 : D1 cX8_judge 40 (.aload_n 0) 1 41 := ⟨by decide +kernel, rfl⟩
theorem dX8_judge_41 : D1 cX8_judge 41 (.iconst 0) 1 42 := ⟨by decide +kernel, rfl⟩
theorem dX8_judge_42 : D1 cX8_judge 42 (.invokevirtual 55) 3 45 := ⟨by decide +kernel, rfl⟩
theorem dX8_judge_45 : D1 cX8_judge 45 (.ireturn) 1 46 := ⟨by decide +kernel, rfl⟩
theorem dX8_judge_46 : D1 cX8_judge 46 (.aload_n 0) 1 47 := ⟨by decide +kernel, rfl⟩
theorem dX8_judge_47 : D1 cX8_judge 47 (.aload_n 3) 1 48 := ⟨by decide +kernel, rfl⟩
theorem dX8_judge_48 : D1 cX8_judge 48 (.getfield 246) 3 51 := ⟨by decide +kernel, rfl⟩
theorem dX8_judge_51 : D1 cX8_judge 51 (.invokevirtual 122) 3 54 := ⟨by decide +kernel, rfl⟩
theorem dX8_judge_54 : DJ cX8_judge 54 (.ifCond .eq) 57 63 := ⟨9, by decide +kernel, rfl, by decide⟩
theorem dX8_judge_57 : D1 cX8_judge 57 (.aload_n 0) 1 58 := ⟨by decide +kernel, rfl⟩
theorem dX8_judge_58 : D1 cX8_judge 58 (.iconst 4) 1 59 := ⟨by decide +kernel, rfl⟩
theorem dX8_judge_59 : D1 cX8_judge 59 (.invokevirtual 55) 3 62 := ⟨by decide +kernel, rfl⟩
theorem dX8_judge_62 : D1 cX8_judge 62 (.ireturn) 1 63 := ⟨by decide +kernel, rfl⟩
theorem dX8_judge_63 : D1 cX8_judge 63 (.aload_n 0) 1 64 := ⟨by decide +kernel, rfl⟩
theorem dX8_judge_64 : D1 cX8_judge 64 (.invokevirtual 145) 3 67 := ⟨by decide +kernel, rfl⟩
theorem dX8_judge_67 : D1 cX8_judge 67 (.astore 4) 2 69 := ⟨by decide +kernel, rfl⟩
theorem dX8_judge_69 : D1 cX8_judge 69 (.aload 4) 2 71 := ⟨by decide +kernel, rfl⟩
theorem dX8_judge_71 : D1 cX8_judge 71 (.iload_n 2) 1 72 := ⟨by decide +kernel, rfl⟩
theorem dX8_judge_72 : D1 cX8_judge 72 (.invokevirtual 67) 3 75 := ⟨by decide +kernel, rfl⟩
theorem dX8_judge_75 : D1 cX8_judge 75 (.astore 5) 2 77 := ⟨by decide +kernel, rfl⟩
theorem dX8_judge_77 : D1 cX8_judge 77 (.iconst 0) 1 78 := ⟨by decide +kernel, rfl⟩
theorem dX8_judge_78 : D1 cX8_judge 78 (.istore 6) 2 80 := ⟨by decide +kernel, rfl⟩
theorem dX8_judge_80 : D1 cX8_judge 80 (.iload 6) 2 82 := ⟨by decide +kernel, rfl⟩
theorem dX8_judge_82 : D1 cX8_judge 82 (.aload_n 3) 1 83 := ⟨by decide +kernel, rfl⟩
theorem dX8_judge_83 : D1 cX8_judge 83 (.getfield 246) 3 86 := ⟨by decide +kernel, rfl⟩
theorem dX8_judge_86 : DJ cX8_judge 86 (.if_icmp .ge) 89 125 := ⟨39, by decide +kernel, rfl, by decide⟩
theorem dX8_judge_89 : D1 cX8_judge 89 (.aload 4) 2 91 := ⟨by decide +kernel, rfl⟩
theorem dX8_judge_91 : D1 cX8_judge 91 (.iconst 1) 1 92 := ⟨by decide +kernel, rfl⟩
theorem dX8_judge_92 : D1 cX8_judge 92 (.invokevirtual 129) 3 95 := ⟨by decide +kernel, rfl⟩
theorem dX8_judge_95 : D1 cX8_judge 95 (.aload 5) 2 97 := ⟨by decide +kernel, rfl⟩
theorem dX8_judge_97 : DJ cX8_judge 97 .ifnull 100 114 := ⟨17, by decide +kernel, rfl, by decide⟩
theorem dX8_judge_100 : D1 cX8_judge 100 (.aload 5) 2 102 := ⟨by decide +kernel, rfl⟩
theorem dX8_judge_102 : D1 cX8_judge 102 (.getfield 152) 3 105 := ⟨by decide +kernel, rfl⟩
theorem dX8_judge_105 : D1 cX8_judge 105 (.aload_n 3) 1 106 := ⟨by decide +kernel, rfl⟩
theorem dX8_judge_106 : D1 cX8_judge 106 (.iload 6) 2 108 := ⟨by decide +kernel, rfl⟩
theorem dX8_judge_108 : D1 cX8_judge 108 (.invokevirtual 261) 3 111 := ⟨by decide +kernel, rfl⟩
theorem dX8_judge_111 : DJ cX8_judge 111 (.if_icmp .eq) 114 119 := ⟨8, by decide +kernel, rfl, by decide⟩
theorem dX8_judge_114 : D1 cX8_judge 114 (.iconst 1) 1 115 := ⟨by decide +kernel, rfl⟩
theorem dX8_judge_115 : D1 cX8_judge 115 (.iload 6) 2 117 := ⟨by decide +kernel, rfl⟩
theorem dX8_judge_117 : D1 cX8_judge 117 (.iadd) 1 118 := ⟨by decide +kernel, rfl⟩
theorem dX8_judge_118 : D1 cX8_judge 118 (.ireturn) 1 119 := ⟨by decide +kernel, rfl⟩
theorem dX8_judge_119 : D1 cX8_judge 119 (.iinc 6 1) 3 122 := ⟨by decide +kernel, rfl⟩
theorem dX8_judge_122 : DJ cX8_judge 122 .goto 125 80 := ⟨(-42), by decide +kernel, rfl, by decide⟩
theorem dX8_judge_125 : D1 cX8_judge 125 (.iconst 0) 1 126 := ⟨by decide +kernel, rfl⟩
theorem dX8_judge_126 : D1 cX8_judge 126 (.ireturn) 1 127 := ⟨by decide +kernel, rfl⟩
theorem dX8_image_0 : D1 cX8_image 0 (.aload_n 0) 1 1 := ⟨by decide +kernel, rfl⟩
theorem dX8_image_1 : D1 cX8_image 1 (.getfield 16) 3 4 := ⟨by decide +kernel, rfl⟩
theorem dX8_image_4 : D1 cX8_image 4 (.aload_n 0) 1 5 := ⟨by decide +kernel, rfl⟩
theorem dX8_image_5 : D1 cX8_image 5 (.getfield 10) 3 8 := ⟨by decide +kernel, rfl⟩
theorem dX8_image_8 : D1 cX8_image 8 (.invokevirtual 165) 3 11 := ⟨by decide +kernel, rfl⟩
theorem dX8_image_11 : D1 cX8_image 11 (.aload_n 0) 1 12 := ⟨by decide +kernel, rfl⟩
theorem dX8_image_12 : D1 cX8_image 12 (.iconst 1) 1 13 := ⟨by decide +kernel, rfl⟩
theorem dX8_image_13 : D1 cX8_image 13 (.putfield 281) 3 16 := ⟨by decide +kernel, rfl⟩
theorem dX8_image_16 : D1 cX8_image 16 (.iconst 1) 1 17 := ⟨by decide +kernel, rfl⟩
theorem dX8_image_17 : D1 cX8_image 17 (.ireturn) 1 18 := ⟨by decide +kernel, rfl⟩
theorem dX8_undo_0 : D1 cX8_undo 0 (.aload_n 0) 1 1 := ⟨by decide +kernel, rfl⟩
theorem dX8_undo_1 : D1 cX8_undo 1 (.getfield 281) 3 4 := ⟨by decide +kernel, rfl⟩
theorem dX8_undo_4 : DJ cX8_undo 4 (.ifCond .ne) 7 13 := ⟨9, by decide +kernel, rfl, by decide⟩
theorem dX8_undo_7 : D1 cX8_undo 7 (.aload_n 0) 1 8 := ⟨by decide +kernel, rfl⟩
theorem dX8_undo_8 : D1 cX8_undo 8 (.iconst 3) 1 9 := ⟨by decide +kernel, rfl⟩
theorem dX8_undo_9 : D1 cX8_undo 9 (.invokevirtual 55) 3 12 := ⟨by decide +kernel, rfl⟩
theorem dX8_undo_12 : D1 cX8_undo 12 (.ireturn) 1 13 := ⟨by decide +kernel, rfl⟩
theorem dX8_undo_13 : D1 cX8_undo 13 (.aload_n 0) 1 14 := ⟨by decide +kernel, rfl⟩
theorem dX8_undo_14 : D1 cX8_undo 14 (.getfield 10) 3 17 := ⟨by decide +kernel, rfl⟩
theorem dX8_undo_17 : D1 cX8_undo 17 (.aload_n 0) 1 18 := ⟨by decide +kernel, rfl⟩
theorem dX8_undo_18 : D1 cX8_undo 18 (.getfield 16) 3 21 := ⟨by decide +kernel, rfl⟩
theorem dX8_undo_21 : D1 cX8_undo 21 (.invokevirtual 165) 3 24 := ⟨by decide +kernel, rfl⟩
theorem dX8_undo_24 : D1 cX8_undo 24 (.aload_n 0) 1 25 := ⟨by decide +kernel, rfl⟩
theorem dX8_undo_25 : D1 cX8_undo 25 (.getfield 10) 3 28 := ⟨by decide +kernel, rfl⟩
theorem dX8_undo_28 : D1 cX8_undo 28 (.getfield 133) 3 31 := ⟨by decide +kernel, rfl⟩
theorem dX8_undo_31 : D1 cX8_undo 31 (.ireturn) 1 32 := ⟨by decide +kernel, rfl⟩
theorem dX8_tear_0 : D1 cX8_tear 0 (.aload_n 0) 1 1 := ⟨by decide +kernel, rfl⟩
theorem dX8_tear_1 : D1 cX8_tear 1 (.getfield 281) 3 4 := ⟨by decide +kernel, rfl⟩
theorem dX8_tear_4 : DJ cX8_tear 4 (.ifCond .eq) 7 11 := ⟨7, by decide +kernel, rfl, by decide⟩
theorem dX8_tear_7 : D1 cX8_tear 7 (.iconst 1) 1 8 := ⟨by decide +kernel, rfl⟩
theorem dX8_tear_8 : DJ cX8_tear 8 .goto 11 12 := ⟨4, by decide +kernel, rfl, by decide⟩
theorem dX8_tear_11 : D1 cX8_tear 11 (.iconst 0) 1 12 := ⟨by decide +kernel, rfl⟩
theorem dX8_tear_12 : D1 cX8_tear 12 (.istore_n 1) 1 13 := ⟨by decide +kernel, rfl⟩
theorem dX8_tear_13 : D1 cX8_tear 13 (.aload_n 0) 1 14 := ⟨by decide +kernel, rfl⟩
theorem dX8_tear_14 : D1 cX8_tear 14 (.iconst 0) 1 15 := ⟨by decide +kernel, rfl⟩
theorem dX8_tear_15 : D1 cX8_tear 15 (.putfield 281) 3 18 := ⟨by decide +kernel, rfl⟩
theorem dX8_tear_18 : D1 cX8_tear 18 (.iload_n 1) 1 19 := ⟨by decide +kernel, rfl⟩
theorem dX8_tear_19 : D1 cX8_tear 19 (.ireturn) 1 20 := ⟨by decide +kernel, rfl⟩
theorem dX8_count_0 : D1 cX8_count 0 (.iload_n 1) 1 1 := ⟨by decide +kernel, rfl⟩
theorem dX8_count_1 : decode cX8_count 1 = .ok (.tableswitch 111 0 7 #[47, 55, 63, 72, 81, 90, 95, 103], 47) := by decide +kernel
theorem dX8_count_48 : D1 cX8_count 48 (.aload_n 0) 1 49 := ⟨by decide +kernel, rfl⟩
theorem dX8_count_49 : D1 cX8_count 49 (.getfield 10) 3 52 := ⟨by decide +kernel, rfl⟩
theorem dX8_count_52 : D1 cX8_count 52 (.getfield 133) 3 55 := ⟨by decide +kernel, rfl⟩
theorem dX8_count_55 : D1 cX8_count 55 (.ireturn) 1 56 := ⟨by decide +kernel, rfl⟩
theorem dX8_count_56 : D1 cX8_count 56 (.aload_n 0) 1 57 := ⟨by decide +kernel, rfl⟩
theorem dX8_count_57 : D1 cX8_count 57 (.getfield 10) 3 60 := ⟨by decide +kernel, rfl⟩
theorem dX8_count_60 : D1 cX8_count 60 (.getfield 59) 3 63 := ⟨by decide +kernel, rfl⟩
theorem dX8_count_63 : D1 cX8_count 63 (.ireturn) 1 64 := ⟨by decide +kernel, rfl⟩
theorem dX8_count_64 : D1 cX8_count 64 (.aload_n 0) 1 65 := ⟨by decide +kernel, rfl⟩
theorem dX8_count_65 : D1 cX8_count 65 (.getfield 10) 3 68 := ⟨by decide +kernel, rfl⟩
theorem dX8_count_68 : D1 cX8_count 68 (.iconst 3) 1 69 := ⟨by decide +kernel, rfl⟩
theorem dX8_count_69 : D1 cX8_count 69 (.invokevirtual 126) 3 72 := ⟨by decide +kernel, rfl⟩
theorem dX8_count_72 : D1 cX8_count 72 (.ireturn) 1 73 := ⟨by decide +kernel, rfl⟩
theorem dX8_count_73 : D1 cX8_count 73 (.aload_n 0) 1 74 := ⟨by decide +kernel, rfl⟩
theorem dX8_count_74 : D1 cX8_count 74 (.getfield 10) 3 77 := ⟨by decide +kernel, rfl⟩
theorem dX8_count_77 : D1 cX8_count 77 (.iconst 5) 1 78 := ⟨by decide +kernel, rfl⟩
theorem dX8_count_78 : D1 cX8_count 78 (.invokevirtual 126) 3 81 := ⟨by decide +kernel, rfl⟩
theorem dX8_count_81 : D1 cX8_count 81 (.ireturn) 1 82 := ⟨by decide +kernel, rfl⟩
theorem dX8_count_82 : D1 cX8_count 82 (.aload_n 0) 1 83 := ⟨by decide +kernel, rfl⟩
theorem dX8_count_83 : D1 cX8_count 83 (.getfield 10) 3 86 := ⟨by decide +kernel, rfl⟩
theorem dX8_count_86 : D1 cX8_count 86 (.iconst 1) 1 87 := ⟨by decide +kernel, rfl⟩
theorem dX8_count_87 : D1 cX8_count 87 (.invokevirtual 126) 3 90 := ⟨by decide +kernel, rfl⟩
theorem dX8_count_90 : D1 cX8_count 90 (.ireturn) 1 91 := ⟨by decide +kernel, rfl⟩
theorem dX8_count_91 : D1 cX8_count 91 (.aload_n 0) 1 92 := ⟨by decide +kernel, rfl⟩
theorem dX8_count_92 : D1 cX8_count 92 (.getfield 221) 3 95 := ⟨by decide +kernel, rfl⟩
theorem dX8_count_95 : D1 cX8_count 95 (.ireturn) 1 96 := ⟨by decide +kernel, rfl⟩
theorem dX8_count_96 : D1 cX8_count 96 (.aload_n 0) 1 97 := ⟨by decide +kernel, rfl⟩
theorem dX8_count_97 : D1 cX8_count 97 (.getfield 10) 3 100 := ⟨by decide +kernel, rfl⟩
theorem dX8_count_100 : D1 cX8_count 100 (.getfield 218) 3 103 := ⟨by decide +kernel, rfl⟩
theorem dX8_count_103 : D1 cX8_count 103 (.ireturn) 1 104 := ⟨by decide +kernel, rfl⟩
theorem dX8_count_104 : D1 cX8_count 104 (.aload_n 0) 1 105 := ⟨by decide +kernel, rfl⟩
theorem dX8_count_105 : D1 cX8_count 105 (.getfield 10) 3 108 := ⟨by decide +kernel, rfl⟩
theorem dX8_count_108 : D1 cX8_count 108 (.invokevirtual 285) 3 111 := ⟨by decide +kernel, rfl⟩
theorem dX8_count_111 : D1 cX8_count 111 (.ireturn) 1 112 := ⟨by decide +kernel, rfl⟩
theorem dX8_count_112 : D1 cX8_count 112 (.aload_n 0) 1 113 := ⟨by decide +kernel, rfl⟩
theorem dX8_count_113 : D1 cX8_count 113 (.iconst 0) 1 114 := ⟨by decide +kernel, rfl⟩
theorem dX8_count_114 : D1 cX8_count 114 (.invokevirtual 55) 3 117 := ⟨by decide +kernel, rfl⟩
theorem dX8_count_117 : D1 cX8_count 117 (.ireturn) 1 118 := ⟨by decide +kernel, rfl⟩
theorem dX8_status_0 : D1 cX8_status 0 (.iload_n 1) 1 1 := ⟨by decide +kernel, rfl⟩
theorem dX8_status_1 : D1 cX8_status 1 (.iconst 0) 1 2 := ⟨by decide +kernel, rfl⟩
theorem dX8_status_2 : D1 cX8_status 2 (.aload_n 0) 1 3 := ⟨by decide +kernel, rfl⟩
theorem dX8_status_3 : D1 cX8_status 3 (.getfield 34) 3 6 := ⟨by decide +kernel, rfl⟩
theorem dX8_status_6 : D1 cX8_status 6 (.arraylength) 1 7 := ⟨by decide +kernel, rfl⟩
theorem dX8_status_7 : D1 cX8_status 7 (.iconst 1) 1 8 := ⟨by decide +kernel, rfl⟩
theorem dX8_status_8 : D1 cX8_status 8 (.isub) 1 9 := ⟨by decide +kernel, rfl⟩
theorem dX8_status_9 : D1 cX8_status 9 (.invokestatic 51) 3 12 := ⟨by decide +kernel, rfl⟩
theorem dX8_status_12 : DJ cX8_status 12 (.ifCond .eq) 15 22 := ⟨10, by decide +kernel, rfl, by decide⟩
theorem dX8_status_15 : D1 cX8_status 15 (.aload_n 0) 1 16 := ⟨by decide +kernel, rfl⟩
theorem dX8_status_16 : D1 cX8_status 16 (.getfield 34) 3 19 := ⟨by decide +kernel, rfl⟩
theorem dX8_status_19 : D1 cX8_status 19 (.iload_n 1) 1 20 := ⟨by decide +kernel, rfl⟩
theorem dX8_status_20 : D1 cX8_status 20 (.iaload) 1 21 := ⟨by decide +kernel, rfl⟩
theorem dX8_status_21 : D1 cX8_status 21 (.ireturn) 1 22 := ⟨by decide +kernel, rfl⟩
theorem dX8_status_22 : D1 cX8_status 22 (.iload_n 1) 1 23 := ⟨by decide +kernel, rfl⟩
theorem dX8_status_23 : D1 cX8_status 23 (.iconst (-1)) 1 24 := ⟨by decide +kernel, rfl⟩
theorem dX8_status_24 : DJ cX8_status 24 (.if_icmp .eq) 27 33 := ⟨9, by decide +kernel, rfl, by decide⟩
theorem dX8_status_27 : D1 cX8_status 27 (.aload_n 0) 1 28 := ⟨by decide +kernel, rfl⟩
theorem dX8_status_28 : D1 cX8_status 28 (.iconst 0) 1 29 := ⟨by decide +kernel, rfl⟩
theorem dX8_status_29 : D1 cX8_status 29 (.invokevirtual 55) 3 32 := ⟨by decide +kernel, rfl⟩
theorem dX8_status_32 : D1 cX8_status 32 (.ireturn) 1 33 := ⟨by decide +kernel, rfl⟩
theorem dX8_status_33 : D1 cX8_status 33 (.iconst 0) 1 34 := ⟨by decide +kernel, rfl⟩
theorem dX8_status_34 : D1 cX8_status 34 (.istore_n 2) 1 35 := ⟨by decide +kernel, rfl⟩
theorem dX8_status_35 : D1 cX8_status 35 (.iconst 0) 1 36 := ⟨by decide +kernel, rfl⟩
theorem dX8_status_36 : D1 cX8_status 36 (.istore_n 3) 1 37 := ⟨by decide +kernel, rfl⟩
theorem dX8_status_37 : D1 cX8_status 37 (.iload_n 3) 1 38 := ⟨by decide +kernel, rfl⟩
theorem dX8_status_38 : D1 cX8_status 38 (.aload_n 0) 1 39 := ⟨by decide +kernel, rfl⟩
theorem dX8_status_39 : D1 cX8_status 39 (.getfield 34) 3 42 := ⟨by decide +kernel, rfl⟩
theorem dX8_status_42 : D1 cX8_status 42 (.arraylength) 1 43 := ⟨by decide +kernel, rfl⟩
theorem dX8_status_43 : DJ cX8_status 43 (.if_icmp .ge) 46 61 := ⟨18, by decide +kernel, rfl, by decide⟩
theorem dX8_status_46 : D1 cX8_status 46 (.iload_n 2) 1 47 := ⟨by decide +kernel, rfl⟩
theorem dX8_status_47 : D1 cX8_status 47 (.aload_n 0) 1 48 := ⟨by decide +kernel, rfl⟩
theorem dX8_status_48 : D1 cX8_status 48 (.getfield 34) 3 51 := ⟨by decide +kernel, rfl⟩
theorem dX8_status_51 : D1 cX8_status 51 (.iload_n 3) 1 52 := ⟨by decide +kernel, rfl⟩
theorem dX8_status_52 : D1 cX8_status 52 (.iaload) 1 53 := ⟨by decide +kernel, rfl⟩
theorem dX8_status_53 : D1 cX8_status 53 (.iadd) 1 54 := ⟨by decide +kernel, rfl⟩
theorem dX8_status_54 : D1 cX8_status 54 (.istore_n 2) 1 55 := ⟨by decide +kernel, rfl⟩
theorem dX8_status_55 : D1 cX8_status 55 (.iinc 3 1) 3 58 := ⟨by decide +kernel, rfl⟩
theorem dX8_status_58 : DJ cX8_status 58 .goto 61 37 := ⟨(-21), by decide +kernel, rfl, by decide⟩
theorem dX8_status_61 : D1 cX8_status 61 (.iload_n 2) 1 62 := ⟨by decide +kernel, rfl⟩
theorem dX8_status_62 : D1 cX8_status 62 (.ireturn) 1 63 := ⟨by decide +kernel, rfl⟩
theorem dX8_within_0 : D1 cX8_within 0 (.iload_n 0) 1 1 := ⟨by decide +kernel, rfl⟩
theorem dX8_within_1 : D1 cX8_within 1 (.iload_n 1) 1 2 := ⟨by decide +kernel, rfl⟩
theorem dX8_within_2 : DJ cX8_within 2 (.if_icmp .lt) 5 14 := ⟨12, by decide +kernel, rfl, by decide⟩
theorem dX8_within_5 : D1 cX8_within 5 (.iload_n 0) 1 6 := ⟨by decide +kernel, rfl⟩
theorem dX8_within_6 : D1 cX8_within 6 (.iload_n 2) 1 7 := ⟨by decide +kernel, rfl⟩
theorem dX8_within_7 : DJ cX8_within 7 (.if_icmp .gt) 10 14 := ⟨7, by decide +kernel, rfl, by decide⟩
theorem dX8_within_10 : D1 cX8_within 10 (.iconst 1) 1 11 := ⟨by decide +kernel, rfl⟩
theorem dX8_within_11 : DJ cX8_within 11 .goto 14 15 := ⟨4, by decide +kernel, rfl, by decide⟩
theorem dX8_within_14 : D1 cX8_within 14 (.iconst 0) 1 15 := ⟨by decide +kernel, rfl⟩
theorem dX8_within_15 : D1 cX8_within 15 (.ireturn) 1 16 := ⟨by decide +kernel, rfl⟩
theorem dX8_lowest_0 : D1 cX8_lowest 0 (.iload_n 0) 1 1 := ⟨by decide +kernel, rfl⟩
theorem dX8_lowest_1 : D1 cX8_lowest 1 (.iconst 2) 1 2 := ⟨by decide +kernel, rfl⟩
theorem dX8_lowest_2 : DJ cX8_lowest 2 (.if_icmp .ne) 5 9 := ⟨7, by decide +kernel, rfl, by decide⟩
theorem dX8_lowest_5 : D1 cX8_lowest 5 (.iconst 1) 1 6 := ⟨by decide +kernel, rfl⟩
theorem dX8_lowest_6 : DJ cX8_lowest 6 .goto 9 10 := ⟨4, by decide +kernel, rfl, by decide⟩
theorem dX8_lowest_9 : D1 cX8_lowest 9 (.iconst 0) 1 10 := ⟨by decide +kernel, rfl⟩
theorem dX8_lowest_10 : D1 cX8_lowest 10 (.ireturn) 1 11 := ⟨by decide +kernel, rfl⟩
theorem dX8_highest_0 : D1 cX8_highest 0 (.iload_n 0) 1 1 := ⟨by decide +kernel, rfl⟩
theorem dX8_highest_1 : decode cX8_highest 1 = .ok (.tableswitch 40 0 3 #[31, 40, 34, 37], 31) := by decide +kernel
theorem dX8_highest_32 : D1 cX8_highest 32 (.bipush 6) 2 34 := ⟨by decide +kernel, rfl⟩
theorem dX8_highest_34 : D1 cX8_highest 34 (.ireturn) 1 35 := ⟨by decide +kernel, rfl⟩
theorem dX8_highest_35 : D1 cX8_highest 35 (.bipush 40) 2 37 := ⟨by decide +kernel, rfl⟩
theorem dX8_highest_37 : D1 cX8_highest 37 (.ireturn) 1 38 := ⟨by decide +kernel, rfl⟩
theorem dX8_highest_38 : D1 cX8_highest 38 (.bipush 99) 2 40 := ⟨by decide +kernel, rfl⟩
theorem dX8_highest_40 : D1 cX8_highest 40 (.ireturn) 1 41 := ⟨by decide +kernel, rfl⟩
theorem dX8_highest_41 : D1 cX8_highest 41 (.sipush 400) 3 44 := ⟨by decide +kernel, rfl⟩
theorem dX8_highest_44 : D1 cX8_highest 44 (.ireturn) 1 45 := ⟨by decide +kernel, rfl⟩
theorem dX8_fail_0 : D1 cX8_fail 0 (.iload_n 1) 1 1 := ⟨by decide +kernel, rfl⟩
theorem dX8_fail_1 : D1 cX8_fail 1 (.iconst 0) 1 2 := ⟨by decide +kernel, rfl⟩
theorem dX8_fail_2 : D1 cX8_fail 2 (.aload_n 0) 1 3 := ⟨by decide +kernel, rfl⟩
theorem dX8_fail_3 : D1 cX8_fail 3 (.getfield 34) 3 6 := ⟨by decide +kernel, rfl⟩
theorem dX8_fail_6 : D1 cX8_fail 6 (.arraylength) 1 7 := ⟨by decide +kernel, rfl⟩
theorem dX8_fail_7 : D1 cX8_fail 7 (.iconst 1) 1 8 := ⟨by decide +kernel, rfl⟩
theorem dX8_fail_8 : D1 cX8_fail 8 (.isub) 1 9 := ⟨by decide +kernel, rfl⟩
theorem dX8_fail_9 : D1 cX8_fail 9 (.invokestatic 51) 3 12 := ⟨by decide +kernel, rfl⟩
theorem dX8_fail_12 : DJ cX8_fail 12 (.ifCond .eq) 15 25 := ⟨13, by decide +kernel, rfl, by decide⟩
theorem dX8_fail_15 : D1 cX8_fail 15 (.aload_n 0) 1 16 := ⟨by decide +kernel, rfl⟩
theorem dX8_fail_16 : D1 cX8_fail 16 (.getfield 34) 3 19 := ⟨by decide +kernel, rfl⟩
theorem dX8_fail_19 : D1 cX8_fail 19 (.iload_n 1) 1 20 := ⟨by decide +kernel, rfl⟩
theorem dX8_fail_20 : D1 cX8_fail 20 (.dup2) 1 21 := ⟨by decide +kernel, rfl⟩
theorem dX8_fail_21 : D1 cX8_fail 21 (.iaload) 1 22 := ⟨by decide +kernel, rfl⟩
theorem dX8_fail_22 : D1 cX8_fail 22 (.iconst 1) 1 23 := ⟨by decide +kernel, rfl⟩
theorem dX8_fail_23 : D1 cX8_fail 23 (.iadd) 1 24 := ⟨by decide +kernel, rfl⟩
theorem dX8_fail_24 : D1 cX8_fail 24 (.iastore) 1 25 := ⟨by decide +kernel, rfl⟩
theorem dX8_fail_25 : D1 cX8_fail 25 (.ldc_w 288) 3 28 := ⟨by decide +kernel, rfl⟩
theorem dX8_fail_28 : D1 cX8_fail 28 (.iload_n 1) 1 29 := ⟨by decide +kernel, rfl⟩
theorem dX8_fail_29 : D1 cX8_fail 29 (.isub) 1 30 := ⟨by decide +kernel, rfl⟩
theorem dX8_fail_30 : D1 cX8_fail 30 (.ireturn) 1 31 := ⟨by decide +kernel, rfl⟩
theorem dX8_endsTooLate_0 : D1 cX8_endsTooLate 0 (.aload_n 0) 1 1 := ⟨by decide +kernel, rfl⟩
theorem dX8_endsTooLate_1 : D1 cX8_endsTooLate 1 (.getfield 10) 3 4 := ⟨by decide +kernel, rfl⟩
theorem dX8_endsTooLate_4 : D1 cX8_endsTooLate 4 (.getfield 133) 3 7 := ⟨by decide +kernel, rfl⟩
theorem dX8_endsTooLate_7 : D1 cX8_endsTooLate 7 (.sipush 9999) 3 10 := ⟨by decide +kernel, rfl⟩
theorem dX8_endsTooLate_10 : D1 cX8_endsTooLate 10 (.iload_n 1) 1 11 := ⟨by decide +kernel, rfl⟩
theorem dX8_endsTooLate_11 : D1 cX8_endsTooLate 11 (.isub) 1 12 := ⟨by decide +kernel, rfl⟩
theorem dX8_endsTooLate_12 : DJ cX8_endsTooLate 12 (.if_icmp .le) 15 19 := ⟨7, by decide +kernel, rfl, by decide⟩
theorem dX8_endsTooLate_15 : D1 cX8_endsTooLate 15 (.iconst 1) 1 16 := ⟨by decide +kernel, rfl⟩
theorem dX8_endsTooLate_16 : DJ cX8_endsTooLate 16 .goto 19 20 := ⟨4, by decide +kernel, rfl, by decide⟩
theorem dX8_endsTooLate_19 : D1 cX8_endsTooLate 19 (.iconst 0) 1 20 := ⟨by decide +kernel, rfl⟩
theorem dX8_endsTooLate_20 : D1 cX8_endsTooLate 20 (.ireturn) 1 21 := ⟨by decide +kernel, rfl⟩
theorem dX8_cannotStart_0 : D1 cX8_cannotStart 0 (.aload_n 0) 1 1 := ⟨by decide +kernel, rfl⟩
theorem dX8_cannotStart_1 : D1 cX8_cannotStart 1 (.getfield 10) 3 4 := ⟨by decide +kernel, rfl⟩
theorem dX8_cannotStart_4 : D1 cX8_cannotStart 4 (.getfield 116) 3 7 := ⟨by decide +kernel, rfl⟩
theorem dX8_cannotStart_7 : DJ cX8_cannotStart 7 (.ifCond .gt) 10 31 := ⟨24, by decide +kernel, rfl, by decide⟩
theorem dX8_cannotStart_10 : D1 cX8_cannotStart 10 (.aload_n 0) 1 11 := ⟨by decide +kernel, rfl⟩
theorem dX8_cannotStart_11 : D1 cX8_cannotStart 11 (.getfield 10) 3 14 := ⟨by decide +kernel, rfl⟩
theorem dX8_cannotStart_14 : D1 cX8_cannotStart 14 (.getfield 59) 3 17 := ⟨by decide +kernel, rfl⟩
theorem dX8_cannotStart_17 : DJ cX8_cannotStart 17 (.ifCond .eq) 20 31 := ⟨14, by decide +kernel, rfl, by decide⟩
theorem dX8_cannotStart_20 : D1 cX8_cannotStart 20 (.aload_n 0) 1 21 := ⟨by decide +kernel, rfl⟩
theorem dX8_cannotStart_21 : D1 cX8_cannotStart 21 (.getfield 10) 3 24 := ⟨by decide +kernel, rfl⟩
theorem dX8_cannotStart_24 : D1 cX8_cannotStart 24 (.getfield 133) 3 27 := ⟨by decide +kernel, rfl⟩
theorem dX8_cannotStart_27 : D1 cX8_cannotStart 27 (.iload_n 1) 1 28 := ⟨by decide +kernel, rfl⟩
theorem dX8_cannotStart_28 : DJ cX8_cannotStart 28 (.if_icmp .le) 31 35 := ⟨7, by decide +kernel, rfl, by decide⟩
theorem dX8_cannotStart_31 : D1 cX8_cannotStart 31 (.iconst 1) 1 32 := ⟨by decide +kernel, rfl⟩
theorem dX8_cannotStart_32 : DJ cX8_cannotStart 32 .goto 35 36 := ⟨4, by decide +kernel, rfl, by decide⟩
theorem dX8_cannotStart_35 : D1 cX8_cannotStart 35 (.iconst 0) 1 36 := ⟨by decide +kernel, rfl⟩
theorem dX8_cannotStart_36 : D1 cX8_cannotStart 36 (.ireturn) 1 37 := ⟨by decide +kernel, rfl⟩
theorem dX8_roundFinding_0 : D1 cX8_roundFinding 0 (.iload_n 1) 1 1 := ⟨by decide +kernel, rfl⟩
theorem dX8_roundFinding_1 : D1 cX8_roundFinding 1 (.iconst 1) 1 2 := ⟨by decide +kernel, rfl⟩
theorem dX8_roundFinding_2 : D1 cX8_roundFinding 2 (.bipush 12) 2 4 := ⟨by decide +kernel, rfl⟩
theorem dX8_roundFinding_4 : D1 cX8_roundFinding 4 (.invokestatic 51) 3 7 := ⟨by decide +kernel, rfl⟩
theorem dX8_roundFinding_7 : DJ cX8_roundFinding 7 (.ifCond .ne) 10 12 := ⟨5, by decide +kernel, rfl, by decide⟩
theorem dX8_roundFinding_10 : D1 cX8_roundFinding 10 (.iconst 0) 1 11 := ⟨by decide +kernel, rfl⟩
theorem dX8_roundFinding_11 : D1 cX8_roundFinding 11 (.ireturn) 1 12 := ⟨by decide +kernel, rfl⟩
theorem dX8_roundFinding_12 : D1 cX8_roundFinding 12 (.aload_n 0) 1 13 := ⟨by decide +kernel, rfl⟩
theorem dX8_roundFinding_13 : D1 cX8_roundFinding 13 (.sipush 9700) 3 16 := ⟨by decide +kernel, rfl⟩
theorem dX8_roundFinding_16 : D1 cX8_roundFinding 16 (.invokevirtual 158) 3 19 := ⟨by decide +kernel, rfl⟩
theorem dX8_roundFinding_19 : DJ cX8_roundFinding 19 (.ifCond .eq) 22 26 := ⟨7, by decide +kernel, rfl, by decide⟩
theorem dX8_roundFinding_22 : D1 cX8_roundFinding 22 (.iconst 4) 1 23 := ⟨by decide +kernel, rfl⟩
theorem dX8_roundFinding_23 : DJ cX8_roundFinding 23 .goto 26 27 := ⟨4, by decide +kernel, rfl, by decide⟩
theorem dX8_roundFinding_26 : D1 cX8_roundFinding 26 (.iconst (-1)) 1 27 := ⟨by decide +kernel, rfl⟩
theorem dX8_roundFinding_27 : D1 cX8_roundFinding 27 (.ireturn) 1 28 := ⟨by decide +kernel, rfl⟩
theorem dX8_trial_0 : D1 cX8_trial 0 (.aload_n 0) 1 1 := ⟨by decide +kernel, rfl⟩
theorem dX8_trial_1 : D1 cX8_trial 1 (.getfield 19) 3 4 := ⟨by decide +kernel, rfl⟩
theorem dX8_trial_4 : D1 cX8_trial 4 (.aload_n 0) 1 5 := ⟨by decide +kernel, rfl⟩
theorem dX8_trial_5 : D1 cX8_trial 5 (.getfield 10) 3 8 := ⟨by decide +kernel, rfl⟩
theorem dX8_trial_8 : D1 cX8_trial 8 (.invokevirtual 165) 3 11 := ⟨by decide +kernel, rfl⟩
theorem dX8_trial_11 : D1 cX8_trial 11 (.aload_n 0) 1 12 := ⟨by decide +kernel, rfl⟩
theorem dX8_trial_12 : D1 cX8_trial 12 (.getfield 19) 3 15 := ⟨by decide +kernel, rfl⟩
theorem dX8_trial_15 : D1 cX8_trial 15 (.areturn) 1 16 := ⟨by decide +kernel, rfl⟩
theorem dX8_sentTo_0 : D1 cX8_sentTo 0 (.aload_n 0) 1 1 := ⟨by decide +kernel, rfl⟩
theorem dX8_sentTo_1 : D1 cX8_sentTo 1 (.invokevirtual 145) 3 4 := ⟨by decide +kernel, rfl⟩
theorem dX8_sentTo_4 : D1 cX8_sentTo 4 (.astore_n 3) 1 5 := ⟨by decide +kernel, rfl⟩
theorem dX8_sentTo_5 : D1 cX8_sentTo 5 (.aload_n 3) 1 6 := ⟨by decide +kernel, rfl⟩
theorem dX8_sentTo_6 : D1 cX8_sentTo 6 (.iload_n 1) 1 7 := ⟨by decide +kernel, rfl⟩
theorem dX8_sentTo_7 : D1 cX8_sentTo 7 (.invokevirtual 119) 3 10 := ⟨by decide +kernel, rfl⟩
theorem dX8_sentTo_10 : D1 cX8_sentTo 10 (.pop) 1 11 := ⟨by decide +kernel, rfl⟩
theorem dX8_sentTo_11 : D1 cX8_sentTo 11 (.aload_n 3) 1 12 := ⟨by decide +kernel, rfl⟩
theorem dX8_sentTo_12 : D1 cX8_sentTo 12 (.iload_n 2) 1 13 := ⟨by decide +kernel, rfl⟩
theorem dX8_sentTo_13 : D1 cX8_sentTo 13 (.invokevirtual 129) 3 16 := ⟨by decide +kernel, rfl⟩
theorem dX8_sentTo_16 : D1 cX8_sentTo 16 (.aload_n 3) 1 17 := ⟨by decide +kernel, rfl⟩
theorem dX8_sentTo_17 : D1 cX8_sentTo 17 (.areturn) 1 18 := ⟨by decide +kernel, rfl⟩
theorem dX8_changed_0 : D1 cX8_changed 0 (.aload_n 0) 1 1 := ⟨by decide +kernel, rfl⟩
theorem dX8_changed_1 : D1 cX8_changed 1 (.invokevirtual 145) 3 4 := ⟨by decide +kernel, rfl⟩
theorem dX8_changed_4 : D1 cX8_changed 4 (.astore 5) 2 6 := ⟨by decide +kernel, rfl⟩
theorem dX8_changed_6 : D1 cX8_changed 6 (.aload 5) 2 8 := ⟨by decide +kernel, rfl⟩
theorem dX8_changed_8 : D1 cX8_changed 8 (.iload_n 1) 1 9 := ⟨by decide +kernel, rfl⟩
theorem dX8_changed_9 : D1 cX8_changed 9 (.invokevirtual 67) 3 12 := ⟨by decide +kernel, rfl⟩
theorem dX8_changed_12 : D1 cX8_changed 12 (.astore 6) 2 14 := ⟨by decide +kernel, rfl⟩
theorem dX8_changed_14 : D1 cX8_changed 14 (.aload 6) 2 16 := ⟨by decide +kernel, rfl⟩
theorem dX8_changed_16 : DJ cX8_changed 16 .ifnull 19 26 := ⟨10, by decide +kernel, rfl, by decide⟩
theorem dX8_changed_19 : D1 cX8_changed 19 (.aload 6) 2 21 := ⟨by decide +kernel, rfl⟩
theorem dX8_changed_21 : D1 cX8_changed 21 (.iload_n 2) 1 22 := ⟨by decide +kernel, rfl⟩
theorem dX8_changed_22 : D1 cX8_changed 22 (.iload_n 3) 1 23 := ⟨by decide +kernel, rfl⟩
theorem dX8_changed_23 : D1 cX8_changed 23 (.invokevirtual 96) 3 26 := ⟨by decide +kernel, rfl⟩
theorem dX8_changed_26 : D1 cX8_changed 26 (.aload 5) 2 28 := ⟨by decide +kernel, rfl⟩
theorem dX8_changed_28 : D1 cX8_changed 28 (.iload 4) 2 30 := ⟨by decide +kernel, rfl⟩
theorem dX8_changed_30 : D1 cX8_changed 30 (.invokevirtual 129) 3 33 := ⟨by decide +kernel, rfl⟩
theorem dX8_changed_33 : D1 cX8_changed 33 (.aload 6) 2 35 := ⟨by decide +kernel, rfl⟩
theorem dX8_changed_35 : D1 cX8_changed 35 (.areturn) 1 36 := ⟨by decide +kernel, rfl⟩
theorem dX8_leastValue_0 : D1 cX8_leastValue 0 (.aload_n 0) 1 1 := ⟨by decide +kernel, rfl⟩
theorem dX8_leastValue_1 : D1 cX8_leastValue 1 (.getfield 10) 3 4 := ⟨by decide +kernel, rfl⟩
theorem dX8_leastValue_4 : D1 cX8_leastValue 4 (.iload_n 1) 1 5 := ⟨by decide +kernel, rfl⟩
theorem dX8_leastValue_5 : D1 cX8_leastValue 5 (.invokevirtual 67) 3 8 := ⟨by decide +kernel, rfl⟩
theorem dX8_leastValue_8 : DJ cX8_leastValue 8 .ifnull 11 21 := ⟨13, by decide +kernel, rfl, by decide⟩
theorem dX8_leastValue_11 : D1 cX8_leastValue 11 (.iload_n 2) 1 12 := ⟨by decide +kernel, rfl⟩
theorem dX8_leastValue_12 : D1 cX8_leastValue 12 (.iconst 1) 1 13 := ⟨by decide +kernel, rfl⟩
theorem dX8_leastValue_13 : D1 cX8_leastValue 13 (.bipush 96) 2 15 := ⟨by decide +kernel, rfl⟩
theorem dX8_leastValue_15 : D1 cX8_leastValue 15 (.invokestatic 51) 3 18 := ⟨by decide +kernel, rfl⟩
theorem dX8_leastValue_18 : DJ cX8_leastValue 18 (.ifCond .ne) 21 27 := ⟨9, by decide +kernel, rfl, by decide⟩
theorem dX8_leastValue_21 : D1 cX8_leastValue 21 (.aload_n 0) 1 22 := ⟨by decide +kernel, rfl⟩
theorem dX8_leastValue_22 : D1 cX8_leastValue 22 (.iconst 0) 1 23 := ⟨by decide +kernel, rfl⟩
theorem dX8_leastValue_23 : D1 cX8_leastValue 23 (.invokevirtual 55) 3 26 := ⟨by decide +kernel, rfl⟩
theorem dX8_leastValue_26 : D1 cX8_leastValue 26 (.ireturn) 1 27 := ⟨by decide +kernel, rfl⟩
theorem dX8_leastValue_27 : D1 cX8_leastValue 27 (.aload_n 0) 1 28 := ⟨by decide +kernel, rfl⟩
theorem dX8_leastValue_28 : D1 cX8_leastValue 28 (.iload_n 2) 1 29 := ⟨by decide +kernel, rfl⟩
theorem dX8_leastValue_29 : D1 cX8_leastValue 29 (.invokevirtual 122) 3 32 := ⟨by decide +kernel, rfl⟩
theorem dX8_leastValue_32 : DJ cX8_leastValue 32 (.ifCond .eq) 35 41 := ⟨9, by decide +kernel, rfl, by decide⟩
theorem dX8_leastValue_35 : D1 cX8_leastValue 35 (.aload_n 0) 1 36 := ⟨by decide +kernel, rfl⟩
theorem dX8_leastValue_36 : D1 cX8_leastValue 36 (.iconst 4) 1 37 := ⟨by decide +kernel, rfl⟩
theorem dX8_leastValue_37 : D1 cX8_leastValue 37 (.invokevirtual 55) 3 40 := ⟨by decide +kernel, rfl⟩
theorem dX8_leastValue_40 : D1 cX8_leastValue 40 (.ireturn) 1 41 := ⟨by decide +kernel, rfl⟩
theorem dX8_leastValue_41 : D1 cX8_leastValue 41 (.iload_n 3) 1 42 := ⟨by decide +kernel, rfl⟩
theorem dX8_leastValue_42 : D1 cX8_leastValue 42 (.invokestatic 90) 3 45 := ⟨by decide +kernel, rfl⟩
theorem dX8_leastValue_45 : D1 cX8_leastValue 45 (.istore 4) 2 47 := ⟨by decide +kernel, rfl⟩
theorem dX8_leastValue_47 : D1 cX8_leastValue 47 (.iload 4) 2 49 := ⟨by decide +kernel, rfl⟩
theorem dX8_leastValue_49 : D1 cX8_leastValue 49 (.iload_n 3) 1 50 := ⟨by decide +kernel, rfl⟩
theorem dX8_leastValue_50 : D1 cX8_leastValue 50 (.invokestatic 93) 3 53 := ⟨by decide +kernel, rfl⟩
theorem dX8_leastValue_53 : DJ cX8_leastValue 53 (.if_icmp .gt) 56 89 := ⟨36, by decide +kernel, rfl, by decide⟩
theorem dX8_leastValue_56 : D1 cX8_leastValue 56 (.aload_n 0) 1 57 := ⟨by decide +kernel, rfl⟩
theorem dX8_leastValue_57 : D1 cX8_leastValue 57 (.iload_n 1) 1 58 := ⟨by decide +kernel, rfl⟩
theorem dX8_leastValue_58 : D1 cX8_leastValue 58 (.iload_n 3) 1 59 := ⟨by decide +kernel, rfl⟩
theorem dX8_leastValue_59 : D1 cX8_leastValue 59 (.iload 4) 2 61 := ⟨by decide +kernel, rfl⟩
theorem dX8_leastValue_61 : D1 cX8_leastValue 61 (.iload_n 2) 1 62 := ⟨by decide +kernel, rfl⟩
theorem dX8_leastValue_62 : D1 cX8_leastValue 62 (.invokevirtual 181) 3 65 := ⟨by decide +kernel, rfl⟩
theorem dX8_leastValue_65 : D1 cX8_leastValue 65 (.astore 5) 2 67 := ⟨by decide +kernel, rfl⟩
theorem dX8_leastValue_67 : D1 cX8_leastValue 67 (.aload 5) 2 69 := ⟨by decide +kernel, rfl⟩
theorem dX8_leastValue_69 : DJ cX8_leastValue 69 .ifnull 72 83 := ⟨14, by decide +kernel, rfl, by decide⟩
theorem dX8_leastValue_72 : D1 cX8_leastValue 72 (.aload 5) 2 74 := ⟨by decide +kernel, rfl⟩
theorem dX8_leastValue_74 : D1 cX8_leastValue 74 (.invokevirtual 289) 3 77 := ⟨by decide +kernel, rfl⟩
theorem dX8_leastValue_77 : DJ cX8_leastValue 77 (.ifCond .ne) 80 83 := ⟨6, by decide +kernel, rfl, by decide⟩
theorem dX8_leastValue_80 : D1 cX8_leastValue 80 (.iload 4) 2 82 := ⟨by decide +kernel, rfl⟩
theorem dX8_leastValue_82 : D1 cX8_leastValue 82 (.ireturn) 1 83 := ⟨by decide +kernel, rfl⟩
theorem dX8_leastValue_83 : D1 cX8_leastValue 83 (.iinc 4 1) 3 86 := ⟨by decide +kernel, rfl⟩
theorem dX8_leastValue_86 : DJ cX8_leastValue 86 .goto 89 47 := ⟨(-39), by decide +kernel, rfl, by decide⟩
theorem dX8_leastValue_89 : D1 cX8_leastValue 89 (.aload_n 0) 1 90 := ⟨by decide +kernel, rfl⟩
theorem dX8_leastValue_90 : D1 cX8_leastValue 90 (.iconst 3) 1 91 := ⟨by decide +kernel, rfl⟩
theorem dX8_leastValue_91 : D1 cX8_leastValue 91 (.invokevirtual 55) 3 94 := ⟨by decide +kernel, rfl⟩
theorem dX8_leastValue_94 : D1 cX8_leastValue 94 (.ireturn) 1 95 := ⟨by decide +kernel, rfl⟩
theorem dX8_wholeRound_0 : D1 cX8_wholeRound 0 (.aload_n 0) 1 1 := ⟨by decide +kernel, rfl⟩
theorem dX8_wholeRound_1 : D1 cX8_wholeRound 1 (.getfield 19) 3 4 := ⟨by decide +kernel, rfl⟩
theorem dX8_wholeRound_4 : D1 cX8_wholeRound 4 (.aload_n 0) 1 5 := ⟨by decide +kernel, rfl⟩
theorem dX8_wholeRound_5 : D1 cX8_wholeRound 5 (.getfield 10) 3 8 := ⟨by decide +kernel, rfl⟩
theorem dX8_wholeRound_8 : D1 cX8_wholeRound 8 (.invokevirtual 267) 3 11 := ⟨by decide +kernel, rfl⟩
theorem dX8_wholeRound_11 : D1 cX8_wholeRound 11 (.iconst 0) 1 12 := ⟨by decide +kernel, rfl⟩
theorem dX8_wholeRound_12 : D1 cX8_wholeRound 12 (.istore_n 2) 1 13 := ⟨by decide +kernel, rfl⟩
theorem dX8_wholeRound_13 : D1 cX8_wholeRound 13 (.iload_n 2) 1 14 := ⟨by decide +kernel, rfl⟩
theorem dX8_wholeRound_14 : D1 cX8_wholeRound 14 (.aload_n 0) 1 15 := ⟨by decide +kernel, rfl⟩
theorem dX8_wholeRound_15 : D1 cX8_wholeRound 15 (.getfield 10) 3 18 := ⟨by decide +kernel, rfl⟩
theorem dX8_wholeRound_18 : D1 cX8_wholeRound 18 (.getfield 59) 3 21 := ⟨by decide +kernel, rfl⟩
theorem dX8_wholeRound_21 : DJ cX8_wholeRound 21 (.if_icmp .ge) 24 39 := ⟨18, by decide +kernel, rfl, by decide⟩
theorem dX8_wholeRound_24 : D1 cX8_wholeRound 24 (.aload_n 0) 1 25 := ⟨by decide +kernel, rfl⟩
theorem dX8_wholeRound_25 : D1 cX8_wholeRound 25 (.getfield 19) 3 28 := ⟨by decide +kernel, rfl⟩
theorem dX8_wholeRound_28 : D1 cX8_wholeRound 28 (.iload_n 2) 1 29 := ⟨by decide +kernel, rfl⟩
theorem dX8_wholeRound_29 : D1 cX8_wholeRound 29 (.iload_n 1) 1 30 := ⟨by decide +kernel, rfl⟩
theorem dX8_wholeRound_30 : D1 cX8_wholeRound 30 (.invokevirtual 270) 3 33 := ⟨by decide +kernel, rfl⟩
theorem dX8_wholeRound_33 : D1 cX8_wholeRound 33 (.iinc 2 1) 3 36 := ⟨by decide +kernel, rfl⟩
theorem dX8_wholeRound_36 : DJ cX8_wholeRound 36 .goto 39 13 := ⟨(-23), by decide +kernel, rfl, by decide⟩
theorem dX8_wholeRound_39 : D1 cX8_wholeRound 39 (.aload_n 0) 1 40 := ⟨by decide +kernel, rfl⟩
theorem dX8_wholeRound_40 : D1 cX8_wholeRound 40 (.getfield 19) 3 43 := ⟨by decide +kernel, rfl⟩
theorem dX8_wholeRound_43 : D1 cX8_wholeRound 43 (.areturn) 1 44 := ⟨by decide +kernel, rfl⟩
theorem dX8_tryThrees_0 : D1 cX8_tryThrees 0 (.aload_n 0) 1 1 := ⟨by decide +kernel, rfl⟩
theorem dX8_tryThrees_1 : D1 cX8_tryThrees 1 (.getfield 10) 3 4 := ⟨by decide +kernel, rfl⟩
theorem dX8_tryThrees_4 : D1 cX8_tryThrees 4 (.getfield 59) 3 7 := ⟨by decide +kernel, rfl⟩
theorem dX8_tryThrees_7 : D1 cX8_tryThrees 7 (.istore_n 3) 1 8 := ⟨by decide +kernel, rfl⟩
theorem dX8_tryThrees_8 : D1 cX8_tryThrees 8 (.iconst 0) 1 9 := ⟨by decide +kernel, rfl⟩
theorem dX8_tryThrees_9 : D1 cX8_tryThrees 9 (.istore 4) 2 11 := ⟨by decide +kernel, rfl⟩
theorem dX8_tryThrees_11 : D1 cX8_tryThrees 11 (.iload 4) 2 13 := ⟨by decide +kernel, rfl⟩
theorem dX8_tryThrees_13 : D1 cX8_tryThrees 13 (.iload_n 3) 1 14 := ⟨by decide +kernel, rfl⟩
theorem dX8_tryThrees_14 : DJ cX8_tryThrees 14 (.if_icmp .ge) 17 160 := ⟨146, by decide +kernel, rfl, by decide⟩
theorem dX8_tryThrees_17 : D1 cX8_tryThrees 17 (.aload_n 0) 1 18 := ⟨by decide +kernel, rfl⟩
theorem dX8_tryThrees_18 : D1 cX8_tryThrees 18 (.getfield 19) 3 21 := ⟨by decide +kernel, rfl⟩
theorem dX8_tryThrees_21 : D1 cX8_tryThrees 21 (.aload_n 0) 1 22 := ⟨by decide +kernel, rfl⟩
theorem dX8_tryThrees_22 : D1 cX8_tryThrees 22 (.getfield 10) 3 25 := ⟨by decide +kernel, rfl⟩
theorem dX8_tryThrees_25 : D1 cX8_tryThrees 25 (.invokevirtual 267) 3 28 := ⟨by decide +kernel, rfl⟩
theorem dX8_tryThrees_28 : D1 cX8_tryThrees 28 (.aload_n 0) 1 29 := ⟨by decide +kernel, rfl⟩
theorem dX8_tryThrees_29 : D1 cX8_tryThrees 29 (.getfield 19) 3 32 := ⟨by decide +kernel, rfl⟩
theorem dX8_tryThrees_32 : D1 cX8_tryThrees 32 (.iload 4) 2 34 := ⟨by decide +kernel, rfl⟩
theorem dX8_tryThrees_34 : D1 cX8_tryThrees 34 (.iload_n 1) 1 35 := ⟨by decide +kernel, rfl⟩
theorem dX8_tryThrees_35 : D1 cX8_tryThrees 35 (.invokevirtual 270) 3 38 := ⟨by decide +kernel, rfl⟩
theorem dX8_tryThrees_38 : D1 cX8_tryThrees 38 (.iconst 0) 1 39 := ⟨by decide +kernel, rfl⟩
theorem dX8_tryThrees_39 : D1 cX8_tryThrees 39 (.istore 5) 2 41 := ⟨by decide +kernel, rfl⟩
theorem dX8_tryThrees_41 : D1 cX8_tryThrees 41 (.iload 5) 2 43 := ⟨by decide +kernel, rfl⟩
theorem dX8_tryThrees_43 : D1 cX8_tryThrees 43 (.iload_n 3) 1 44 := ⟨by decide +kernel, rfl⟩
theorem dX8_tryThrees_44 : DJ cX8_tryThrees 44 (.if_icmp .ge) 47 154 := ⟨110, by decide +kernel, rfl, by decide⟩
theorem dX8_tryThrees_47 : D1 cX8_tryThrees 47 (.aload_n 2) 1 48 := ⟨by decide +kernel, rfl⟩
theorem dX8_tryThrees_48 : D1 cX8_tryThrees 48 (.aload_n 0) 1 49 := ⟨by decide +kernel, rfl⟩
theorem dX8_tryThrees_49 : D1 cX8_tryThrees 49 (.getfield 19) 3 52 := ⟨by decide +kernel, rfl⟩
theorem dX8_tryThrees_52 : D1 cX8_tryThrees 52 (.invokevirtual 291) 3 55 := ⟨by decide +kernel, rfl⟩
theorem dX8_tryThrees_55 : DJ cX8_tryThrees 55 (.ifCond .ne) 58 154 := ⟨99, by decide +kernel, rfl, by decide⟩
theorem dX8_tryThrees_58 : D1 cX8_tryThrees 58 (.aload_n 0) 1 59 := ⟨by decide +kernel, rfl⟩
theorem dX8_tryThrees_59 : D1 cX8_tryThrees 59 (.getfield 22) 3 62 := ⟨by decide +kernel, rfl⟩
theorem dX8_tryThrees_62 : D1 cX8_tryThrees 62 (.aload_n 0) 1 63 := ⟨by decide +kernel, rfl⟩
theorem dX8_tryThrees_63 : D1 cX8_tryThrees 63 (.getfield 19) 3 66 := ⟨by decide +kernel, rfl⟩
theorem dX8_tryThrees_66 : D1 cX8_tryThrees 66 (.invokevirtual 165) 3 69 := ⟨by decide +kernel, rfl⟩
theorem dX8_tryThrees_69 : D1 cX8_tryThrees 69 (.aload_n 0) 1 70 := ⟨by decide +kernel, rfl⟩
theorem dX8_tryThrees_70 : D1 cX8_tryThrees 70 (.getfield 22) 3 73 := ⟨by decide +kernel, rfl⟩
theorem dX8_tryThrees_73 : D1 cX8_tryThrees 73 (.iload 5) 2 75 := ⟨by decide +kernel, rfl⟩
theorem dX8_tryThrees_75 : D1 cX8_tryThrees 75 (.iload_n 1) 1 76 := ⟨by decide +kernel, rfl⟩
theorem dX8_tryThrees_76 : D1 cX8_tryThrees 76 (.invokevirtual 270) 3 79 := ⟨by decide +kernel, rfl⟩
theorem dX8_tryThrees_79 : D1 cX8_tryThrees 79 (.iconst 0) 1 80 := ⟨by decide +kernel, rfl⟩
theorem dX8_tryThrees_80 : D1 cX8_tryThrees 80 (.istore 6) 2 82 := ⟨by decide +kernel, rfl⟩
theorem dX8_tryThrees_82 : D1 cX8_tryThrees 82 (.iload 6) 2 84 := ⟨by decide +kernel, rfl⟩
theorem dX8_tryThrees_84 : D1 cX8_tryThrees 84 (.iload_n 3) 1 85 := ⟨by decide +kernel, rfl⟩
theorem dX8_tryThrees_85 : DJ cX8_tryThrees 85 (.if_icmp .ge) 88 148 := ⟨63, by decide +kernel, rfl, by decide⟩
theorem dX8_tryThrees_88 : D1 cX8_tryThrees 88 (.aload_n 2) 1 89 := ⟨by decide +kernel, rfl⟩
theorem dX8_tryThrees_89 : D1 cX8_tryThrees 89 (.aload_n 0) 1 90 := ⟨by decide +kernel, rfl⟩
theorem dX8_tryThrees_90 : D1 cX8_tryThrees 90 (.getfield 22) 3 93 := ⟨by decide +kernel, rfl⟩
theorem dX8_tryThrees_93 : D1 cX8_tryThrees 93 (.invokevirtual 291) 3 96 := ⟨by decide +kernel, rfl⟩
theorem dX8_tryThrees_96 : DJ cX8_tryThrees 96 (.ifCond .ne) 99 148 := ⟨52, by decide +kernel, rfl, by decide⟩
theorem dX8_tryThrees_99 : D1 cX8_tryThrees 99 (.aload_n 0) 1 100 := ⟨by decide +kernel, rfl⟩
theorem dX8_tryThrees_100 : D1 cX8_tryThrees 100 (.getfield 25) 3 103 := ⟨by decide +kernel, rfl⟩
theorem dX8_tryThrees_103 : D1 cX8_tryThrees 103 (.aload_n 0) 1 104 := ⟨by decide +kernel, rfl⟩
theorem dX8_tryThrees_104 : D1 cX8_tryThrees 104 (.getfield 22) 3 107 := ⟨by decide +kernel, rfl⟩
theorem dX8_tryThrees_107 : D1 cX8_tryThrees 107 (.invokevirtual 165) 3 110 := ⟨by decide +kernel, rfl⟩
theorem dX8_tryThrees_110 : D1 cX8_tryThrees 110 (.aload_n 0) 1 111 := ⟨by decide +kernel, rfl⟩
theorem dX8_tryThrees_111 : D1 cX8_tryThrees 111 (.getfield 25) 3 114 := ⟨by decide +kernel, rfl⟩
theorem dX8_tryThrees_114 : D1 cX8_tryThrees 114 (.iload 6) 2 116 := ⟨by decide +kernel, rfl⟩
theorem dX8_tryThrees_116 : D1 cX8_tryThrees 116 (.iload_n 1) 1 117 := ⟨by decide +kernel, rfl⟩
theorem dX8_tryThrees_117 : D1 cX8_tryThrees 117 (.invokevirtual 270) 3 120 := ⟨by decide +kernel, rfl⟩
theorem dX8_tryThrees_120 : D1 cX8_tryThrees 120 (.aload_n 2) 1 121 := ⟨by decide +kernel, rfl⟩
theorem dX8_tryThrees_121 : D1 cX8_tryThrees 121 (.aload_n 0) 1 122 := ⟨by decide +kernel, rfl⟩
theorem dX8_tryThrees_122 : D1 cX8_tryThrees 122 (.getfield 25) 3 125 := ⟨by decide +kernel, rfl⟩
theorem dX8_tryThrees_125 : D1 cX8_tryThrees 125 (.bipush 100) 2 127 := ⟨by decide +kernel, rfl⟩
theorem dX8_tryThrees_127 : D1 cX8_tryThrees 127 (.iload 4) 2 129 := ⟨by decide +kernel, rfl⟩
theorem dX8_tryThrees_129 : D1 cX8_tryThrees 129 (.imul) 1 130 := ⟨by decide +kernel, rfl⟩
theorem dX8_tryThrees_130 : D1 cX8_tryThrees 130 (.bipush 10) 2 132 := ⟨by decide +kernel, rfl⟩
theorem dX8_tryThrees_132 : D1 cX8_tryThrees 132 (.iload 5) 2 134 := ⟨by decide +kernel, rfl⟩
theorem dX8_tryThrees_134 : D1 cX8_tryThrees 134 (.imul) 1 135 := ⟨by decide +kernel, rfl⟩
theorem dX8_tryThrees_135 : D1 cX8_tryThrees 135 (.iadd) 1 136 := ⟨by decide +kernel, rfl⟩
theorem dX8_tryThrees_136 : D1 cX8_tryThrees 136 (.iload 6) 2 138 := ⟨by decide +kernel, rfl⟩
theorem dX8_tryThrees_138 : D1 cX8_tryThrees 138 (.iadd) 1 139 := ⟨by decide +kernel, rfl⟩
theorem dX8_tryThrees_139 : D1 cX8_tryThrees 139 (.invokevirtual 297) 3 142 := ⟨by decide +kernel, rfl⟩
theorem dX8_tryThrees_142 : D1 cX8_tryThrees 142 (.iinc 6 1) 3 145 := ⟨by decide +kernel, rfl⟩
theorem dX8_tryThrees_145 : DJ cX8_tryThrees 145 .goto 148 82 := ⟨(-63), by decide +kernel, rfl, by decide⟩
theorem dX8_tryThrees_148 : D1 cX8_tryThrees 148 (.iinc 5 1) 3 151 := ⟨by decide +kernel, rfl⟩
theorem dX8_tryThrees_151 : DJ cX8_tryThrees 151 .goto 154 41 := ⟨(-110), by decide +kernel, rfl, by decide⟩
theorem dX8_tryThrees_154 : D1 cX8_tryThrees 154 (.iinc 4 1) 3 157 := ⟨by decide +kernel, rfl⟩
theorem dX8_tryThrees_157 : DJ cX8_tryThrees 157 .goto 160 11 := ⟨(-146), by decide +kernel, rfl, by decide⟩
theorem dX8_tryThrees_160 : D1 cX8_tryThrees 160 (.return_) 1 161 := ⟨by decide +kernel, rfl⟩
theorem dX8_sheetAt_0 : D1 cX8_sheetAt 0 (.iload_n 1) 1 1 := ⟨by decide +kernel, rfl⟩
theorem dX8_sheetAt_1 : D1 cX8_sheetAt 1 (.iconst 0) 1 2 := ⟨by decide +kernel, rfl⟩
theorem dX8_sheetAt_2 : D1 cX8_sheetAt 2 (.aload_n 0) 1 3 := ⟨by decide +kernel, rfl⟩
theorem dX8_sheetAt_3 : D1 cX8_sheetAt 3 (.getfield 30) 3 6 := ⟨by decide +kernel, rfl⟩
theorem dX8_sheetAt_6 : D1 cX8_sheetAt 6 (.arraylength) 1 7 := ⟨by decide +kernel, rfl⟩
theorem dX8_sheetAt_7 : D1 cX8_sheetAt 7 (.iconst 1) 1 8 := ⟨by decide +kernel, rfl⟩
theorem dX8_sheetAt_8 : D1 cX8_sheetAt 8 (.isub) 1 9 := ⟨by decide +kernel, rfl⟩
theorem dX8_sheetAt_9 : D1 cX8_sheetAt 9 (.invokestatic 51) 3 12 := ⟨by decide +kernel, rfl⟩
theorem dX8_sheetAt_12 : DJ cX8_sheetAt 12 (.ifCond .eq) 15 24 := ⟨12, by decide +kernel, rfl, by decide⟩
theorem dX8_sheetAt_15 : D1 cX8_sheetAt 15 (.aload_n 0) 1 16 := ⟨by decide +kernel, rfl⟩
theorem dX8_sheetAt_16 : D1 cX8_sheetAt 16 (.getfield 30) 3 19 := ⟨by decide +kernel, rfl⟩
theorem dX8_sheetAt_19 : D1 cX8_sheetAt 19 (.iload_n 1) 1 20 := ⟨by decide +kernel, rfl⟩
theorem dX8_sheetAt_20 : D1 cX8_sheetAt 20 (.aaload) 1 21 := ⟨by decide +kernel, rfl⟩
theorem dX8_sheetAt_21 : DJ cX8_sheetAt 21 .goto 24 25 := ⟨4, by decide +kernel, rfl, by decide⟩
theorem dX8_sheetAt_24 : D1 cX8_sheetAt 24 (.aconst_null) 1 25 := ⟨by decide +kernel, rfl⟩
theorem dX8_sheetAt_25 : D1 cX8_sheetAt 25 (.areturn) 1 26 := ⟨by decide +kernel, rfl⟩
theorem dX8_tellsHouses_0 : D1 cX8_tellsHouses 0 (.iconst 0) 1 1 := ⟨by decide +kernel, rfl⟩
theorem dX8_tellsHouses_1 : D1 cX8_tellsHouses 1 (.istore_n 2) 1 2 := ⟨by decide +kernel, rfl⟩
theorem dX8_tellsHouses_2 : D1 cX8_tellsHouses 2 (.iload_n 2) 1 3 := ⟨by decide +kernel, rfl⟩
theorem dX8_tellsHouses_3 : D1 cX8_tellsHouses 3 (.aload_n 1) 1 4 := ⟨by decide +kernel, rfl⟩
theorem dX8_tellsHouses_4 : D1 cX8_tellsHouses 4 (.getfield 246) 3 7 := ⟨by decide +kernel, rfl⟩
theorem dX8_tellsHouses_7 : DJ cX8_tellsHouses 7 (.if_icmp .ge) 10 33 := ⟨26, by decide +kernel, rfl, by decide⟩
theorem dX8_tellsHouses_10 : D1 cX8_tellsHouses 10 (.aload_n 0) 1 11 := ⟨by decide +kernel, rfl⟩
theorem dX8_tellsHouses_11 : D1 cX8_tellsHouses 11 (.getfield 10) 3 14 := ⟨by decide +kernel, rfl⟩
theorem dX8_tellsHouses_14 : D1 cX8_tellsHouses 14 (.aload_n 1) 1 15 := ⟨by decide +kernel, rfl⟩
theorem dX8_tellsHouses_15 : D1 cX8_tellsHouses 15 (.iload_n 2) 1 16 := ⟨by decide +kernel, rfl⟩
theorem dX8_tellsHouses_16 : D1 cX8_tellsHouses 16 (.invokevirtual 261) 3 19 := ⟨by decide +kernel, rfl⟩
theorem dX8_tellsHouses_19 : D1 cX8_tellsHouses 19 (.invokevirtual 67) 3 22 := ⟨by decide +kernel, rfl⟩
theorem dX8_tellsHouses_22 : DJ cX8_tellsHouses 22 .ifnonnull 25 27 := ⟨5, by decide +kernel, rfl, by decide⟩
theorem dX8_tellsHouses_25 : D1 cX8_tellsHouses 25 (.iconst 0) 1 26 := ⟨by decide +kernel, rfl⟩
theorem dX8_tellsHouses_26 : D1 cX8_tellsHouses 26 (.ireturn) 1 27 := ⟨by decide +kernel, rfl⟩
theorem dX8_tellsHouses_27 : D1 cX8_tellsHouses 27 (.iinc 2 1) 3 30 := ⟨by decide +kernel, rfl⟩
theorem dX8_tellsHouses_30 : DJ cX8_tellsHouses 30 .goto 33 2 := ⟨(-28), by decide +kernel, rfl, by decide⟩
theorem dX8_tellsHouses_33 : D1 cX8_tellsHouses 33 (.iconst 1) 1 34 := ⟨by decide +kernel, rfl⟩
theorem dX8_tellsHouses_34 : D1 cX8_tellsHouses 34 (.ireturn) 1 35 := ⟨by decide +kernel, rfl⟩
end
section
theorem dX9_init_0 : D1 cX9_init 0 (.aload_n 0) 1 1 := ⟨by decide +kernel, rfl⟩
theorem dX9_init_1 : D1 cX9_init 1 (.invokespecial 1) 3 4 := ⟨by decide +kernel, rfl⟩
theorem dX9_init_4 : D1 cX9_init 4 (.aload_n 0) 1 5 := ⟨by decide +kernel, rfl⟩
theorem dX9_init_5 : D1 cX9_init 5 (.bipush 73) 2 7 := ⟨by decide +kernel, rfl⟩
theorem dX9_init_7 : D1 cX9_init 7 (.newarray .int) 2 9 := ⟨by decide +kernel, rfl⟩
theorem dX9_init_9 : D1 cX9_init 9 (.putfield 7) 3 12 := ⟨by decide +kernel, rfl⟩
theorem dX9_init_12 : D1 cX9_init 12 (.aload_n 0) 1 13 := ⟨by decide +kernel, rfl⟩
theorem dX9_init_13 : D1 cX9_init 13 (.bipush 73) 2 15 := ⟨by decide +kernel, rfl⟩
theorem dX9_init_15 : D1 cX9_init 15 (.newarray .int) 2 17 := ⟨by decide +kernel, rfl⟩
theorem dX9_init_17 : D1 cX9_init 17 (.putfield 13) 3 20 := ⟨by decide +kernel, rfl⟩
theorem dX9_init_20 : D1 cX9_init 20 (.aload_n 0) 1 21 := ⟨by decide +kernel, rfl⟩
theorem dX9_init_21 : D1 cX9_init 21 (.bipush 73) 2 23 := ⟨by decide +kernel, rfl⟩
theorem dX9_init_23 : D1 cX9_init 23 (.newarray .int) 2 25 := ⟨by decide +kernel, rfl⟩
theorem dX9_init_25 : D1 cX9_init 25 (.putfield 16) 3 28 := ⟨by decide +kernel, rfl⟩
theorem dX9_init_28 : D1 cX9_init 28 (.aload_n 0) 1 29 := ⟨by decide +kernel, rfl⟩
theorem dX9_init_29 : D1 cX9_init 29 (.bipush 7) 2 31 := ⟨by decide +kernel, rfl⟩
theorem dX9_init_31 : D1 cX9_init 31 (.newarray .int) 2 33 := ⟨by decide +kernel, rfl⟩
theorem dX9_init_33 : D1 cX9_init 33 (.putfield 19) 3 36 := ⟨by decide +kernel, rfl⟩
theorem dX9_init_36 : D1 cX9_init 36 (.aload_n 0) 1 37 := ⟨by decide +kernel, rfl⟩
theorem dX9_init_37 : D1 cX9_init 37 (.iconst (-1)) 1 38 := ⟨by decide +kernel, rfl⟩
theorem dX9_init_38 : D1 cX9_init 38 (.putfield 22) 3 41 := ⟨by decide +kernel, rfl⟩
theorem dX9_init_41 : D1 cX9_init 41 (.aload_n 0) 1 42 := ⟨by decide +kernel, rfl⟩
theorem dX9_init_42 : D1 cX9_init 42 (.sipush 146) 3 45 := ⟨by decide +kernel, rfl⟩
theorem dX9_init_45 : D1 cX9_init 45 (.newarray .int) 2 47 := ⟨by decide +kernel, rfl⟩
theorem dX9_init_47 : D1 cX9_init 47 (.putfield 26) 3 50 := ⟨by decide +kernel, rfl⟩
theorem dX9_init_50 : D1 cX9_init 50 (.aload_n 0) 1 51 := ⟨by decide +kernel, rfl⟩
theorem dX9_init_51 : D1 cX9_init 51 (.iconst 2) 1 52 := ⟨by decide +kernel, rfl⟩
theorem dX9_init_52 : D1 cX9_init 52 (.newarray .int) 2 54 := ⟨by decide +kernel, rfl⟩
theorem dX9_init_54 : D1 cX9_init 54 (.putfield 29) 3 57 := ⟨by decide +kernel, rfl⟩
theorem dX9_init_57 : D1 cX9_init 57 (.aload_n 0) 1 58 := ⟨by decide +kernel, rfl⟩
theorem dX9_init_58 : D1 cX9_init 58 (.bipush 120) 2 60 := ⟨by decide +kernel, rfl⟩
theorem dX9_init_60 : D1 cX9_init 60 (.newarray .int) 2 62 := ⟨by decide +kernel, rfl⟩
theorem dX9_init_62 : D1 cX9_init 62 (.putfield 32) 3 65 := ⟨by decide +kernel, rfl⟩
theorem dX9_init_65 : D1 cX9_init 65 (.aload_n 0) 1 66 := ⟨by decide +kernel, rfl⟩
theorem dX9_init_66 : D1 cX9_init 66 (.iconst 4) 1 67 := ⟨by decide +kernel, rfl⟩
theorem dX9_init_67 : D1 cX9_init 67 (.newarray .int) 2 69 := ⟨by decide +kernel, rfl⟩
theorem dX9_init_69 : D1 cX9_init 69 (.putfield 35) 3 72 := ⟨by decide +kernel, rfl⟩
theorem dX9_init_72 : D1 cX9_init 72 (.aload_n 0) 1 73 := ⟨by decide +kernel, rfl⟩
theorem dX9_init_73 : D1 cX9_init 73 (.iconst 4) 1 74 := ⟨by decide +kernel, rfl⟩
theorem dX9_init_74 : D1 cX9_init 74 (.newarray .int) 2 76 := ⟨by decide +kernel, rfl⟩
theorem dX9_init_76 : D1 cX9_init 76 (.putfield 38) 3 79 := ⟨by decide +kernel, rfl⟩
theorem dX9_init_79 : D1 cX9_init 79 (.aload_n 0) 1 80 := ⟨by decide +kernel, rfl⟩
theorem dX9_init_80 : D1 cX9_init 80 (.sipush 160) 3 83 := ⟨by decide +kernel, rfl⟩
theorem dX9_init_83 : D1 cX9_init 83 (.newarray .int) 2 85 := ⟨by decide +kernel, rfl⟩
theorem dX9_init_85 : D1 cX9_init 85 (.putfield 41) 3 88 := ⟨by decide +kernel, rfl⟩
theorem dX9_init_88 : D1 cX9_init 88 (.aload_n 0) 1 89 := ⟨by decide +kernel, rfl⟩
theorem dX9_init_89 : D1 cX9_init 89 (.bipush 40) 2 91 := ⟨by decide +kernel, rfl⟩
theorem dX9_init_91 : D1 cX9_init 91 (.newarray .int) 2 93 := ⟨by decide +kernel, rfl⟩
theorem dX9_init_93 : D1 cX9_init 93 (.putfield 44) 3 96 := ⟨by decide +kernel, rfl⟩
theorem dX9_init_96 : D1 cX9_init 96 (.aload_n 0) 1 97 := ⟨by decide +kernel, rfl⟩
theorem dX9_init_97 : D1 cX9_init 97 (.getfield 7) 3 100 := ⟨by decide +kernel, rfl⟩
theorem dX9_init_100 : D1 cX9_init 100 (.bipush 6) 2 102 := ⟨by decide +kernel, rfl⟩
theorem dX9_init_102 : D1 cX9_init 102 (.bipush 20) 2 104 := ⟨by decide +kernel, rfl⟩
theorem dX9_init_104 : D1 cX9_init 104 (.iastore) 1 105 := ⟨by decide +kernel, rfl⟩
theorem dX9_init_105 : D1 cX9_init 105 (.aload_n 0) 1 106 := ⟨by decide +kernel, rfl⟩
theorem dX9_init_106 : D1 cX9_init 106 (.getfield 7) 3 109 := ⟨by decide +kernel, rfl⟩
theorem dX9_init_109 : D1 cX9_init 109 (.bipush 7) 2 111 := ⟨by decide +kernel, rfl⟩
theorem dX9_init_111 : D1 cX9_init 111 (.iconst 1) 1 112 := ⟨by decide +kernel, rfl⟩
theorem dX9_init_112 : D1 cX9_init 112 (.iastore) 1 113 := ⟨by decide +kernel, rfl⟩
theorem dX9_init_113 : D1 cX9_init 113 (.iconst 0) 1 114 := ⟨by decide +kernel, rfl⟩
theorem dX9_init_114 : D1 cX9_init 114 (.istore_n 1) 1 115 := ⟨by decide +kernel, rfl⟩
theorem dX9_init_115 : D1 cX9_init 115 (.iload_n 1) 1 116 := ⟨by decide +kernel, rfl⟩
theorem dX9_init_116 : D1 cX9_init 116 (.bipush 7) 2 118 := ⟨by decide +kernel, rfl⟩
theorem dX9_init_118 : DJ cX9_init 118 (.if_icmp .ge) 121 137 := ⟨19, by decide +kernel, rfl, by decide⟩
theorem dX9_init_121 : D1 cX9_init 121 (.aload_n 0) 1 122 := ⟨by decide +kernel, rfl⟩
theorem dX9_init_122 : D1 cX9_init 122 (.getfield 7) 3 125 := ⟨by decide +kernel, rfl⟩
theorem dX9_init_125 : D1 cX9_init 125 (.bipush 8) 2 127 := ⟨by decide +kernel, rfl⟩
theorem dX9_init_127 : D1 cX9_init 127 (.iload_n 1) 1 128 := ⟨by decide +kernel, rfl⟩
theorem dX9_init_128 : D1 cX9_init 128 (.iadd) 1 129 := ⟨by decide +kernel, rfl⟩
theorem dX9_init_129 : D1 cX9_init 129 (.iconst 1) 1 130 := ⟨by decide +kernel, rfl⟩
theorem dX9_init_130 : D1 cX9_init 130 (.iastore) 1 131 := ⟨by decide +kernel, rfl⟩
theorem dX9_init_131 : D1 cX9_init 131 (.iinc 1 1) 3 134 := ⟨by decide +kernel, rfl⟩
theorem dX9_init_134 : DJ cX9_init 134 .goto 137 115 := ⟨(-19), by decide +kernel, rfl, by decide⟩
theorem dX9_init_137 : D1 cX9_init 137 (.iconst 0) 1 138 := ⟨by decide +kernel, rfl⟩
theorem dX9_init_138 : D1 cX9_init 138 (.istore_n 1) 1 139 := ⟨by decide +kernel, rfl⟩
theorem dX9_init_139 : D1 cX9_init 139 (.iload_n 1) 1 140 := ⟨by decide +kernel, rfl⟩
theorem dX9_init_140 : D1 cX9_init 140 (.bipush 10) 2 142 := ⟨by decide +kernel, rfl⟩
theorem dX9_init_142 : DJ cX9_init 142 (.if_icmp .ge) 145 161 := ⟨19, by decide +kernel, rfl, by decide⟩
theorem dX9_init_145 : D1 cX9_init 145 (.aload_n 0) 1 146 := ⟨by decide +kernel, rfl⟩
theorem dX9_init_146 : D1 cX9_init 146 (.getfield 7) 3 149 := ⟨by decide +kernel, rfl⟩
theorem dX9_init_149 : D1 cX9_init 149 (.bipush 63) 2 151 := ⟨by decide +kernel, rfl⟩
theorem dX9_init_151 : D1 cX9_init 151 (.iload_n 1) 1 152 := ⟨by decide +kernel, rfl⟩
theorem dX9_init_152 : D1 cX9_init 152 (.iadd) 1 153 := ⟨by decide +kernel, rfl⟩
theorem dX9_init_153 : D1 cX9_init 153 (.iconst (-1)) 1 154 := ⟨by decide +kernel, rfl⟩
theorem dX9_init_154 : D1 cX9_init 154 (.iastore) 1 155 := ⟨by decide +kernel, rfl⟩
theorem dX9_init_155 : D1 cX9_init 155 (.iinc 1 1) 3 158 := ⟨by decide +kernel, rfl⟩
theorem dX9_init_158 : DJ cX9_init 158 .goto 161 139 := ⟨(-19), by decide +kernel, rfl, by decide⟩
theorem dX9_init_161 : D1 cX9_init 161 (.return_) 1 162 := ⟨by decide +kernel, rfl⟩
theorem dX9_in_0 : D1 cX9_in 0 (.lload_n 0) 1 1 := ⟨by decide +kernel, rfl⟩
theorem dX9_in_1 : D1 cX9_in 1 (.lload_n 2) 1 2 := ⟨by decide +kernel, rfl⟩
theorem dX9_in_2 : D1 cX9_in 2 (.lcmp) 1 3 := ⟨by decide +kernel, rfl⟩
theorem dX9_in_3 : DJ cX9_in 3 (.ifCond .lt) 6 17 := ⟨14, by decide +kernel, rfl, by decide⟩
theorem dX9_in_6 : D1 cX9_in 6 (.lload_n 0) 1 7 := ⟨by decide +kernel, rfl⟩
theorem dX9_in_7 : D1 cX9_in 7 (.lload 4) 2 9 := ⟨by decide +kernel, rfl⟩
theorem dX9_in_9 : D1 cX9_in 9 (.lcmp) 1 10 := ⟨by decide +kernel, rfl⟩
theorem dX9_in_10 : DJ cX9_in 10 (.ifCond .gt) 13 17 := ⟨7, by decide +kernel, rfl, by decide⟩
theorem dX9_in_13 : D1 cX9_in 13 (.iconst 1) 1 14 := ⟨by decide +kernel, rfl⟩
theorem dX9_in_14 : DJ cX9_in 14 .goto 17 18 := ⟨4, by decide +kernel, rfl, by decide⟩
theorem dX9_in_17 : D1 cX9_in 17 (.iconst 0) 1 18 := ⟨by decide +kernel, rfl⟩
theorem dX9_in_18 : D1 cX9_in 18 (.ireturn) 1 19 := ⟨by decide +kernel, rfl⟩
theorem dX9_finds_0 : D1 cX9_finds 0 (.aload_n 0) 1 1 := ⟨by decide +kernel, rfl⟩
theorem dX9_finds_1 : D1 cX9_finds 1 (.getfield 19) 3 4 := ⟨by decide +kernel, rfl⟩
theorem dX9_finds_4 : D1 cX9_finds 4 (.ldc 47) 2 6 := ⟨by decide +kernel, rfl⟩
theorem dX9_finds_6 : D1 cX9_finds 6 (.iload_n 1) 1 7 := ⟨by decide +kernel, rfl⟩
theorem dX9_finds_7 : D1 cX9_finds 7 (.isub) 1 8 := ⟨by decide +kernel, rfl⟩
theorem dX9_finds_8 : D1 cX9_finds 8 (.dup2) 1 9 := ⟨by decide +kernel, rfl⟩
theorem dX9_finds_9 : D1 cX9_finds 9 (.iaload) 1 10 := ⟨by decide +kernel, rfl⟩
theorem dX9_finds_10 : D1 cX9_finds 10 (.iconst 1) 1 11 := ⟨by decide +kernel, rfl⟩
theorem dX9_finds_11 : D1 cX9_finds 11 (.iadd) 1 12 := ⟨by decide +kernel, rfl⟩
theorem dX9_finds_12 : D1 cX9_finds 12 (.iastore) 1 13 := ⟨by decide +kernel, rfl⟩
theorem dX9_finds_13 : D1 cX9_finds 13 (.iload_n 1) 1 14 := ⟨by decide +kernel, rfl⟩
theorem dX9_finds_14 : D1 cX9_finds 14 (.ireturn) 1 15 := ⟨by decide +kernel, rfl⟩
theorem dX9_isHouse_0 : D1 cX9_isHouse 0 (.iload_n 1) 1 1 := ⟨by decide +kernel, rfl⟩
theorem dX9_isHouse_1 : D1 cX9_isHouse 1 (.i2l) 1 2 := ⟨by decide +kernel, rfl⟩
theorem dX9_isHouse_2 : D1 cX9_isHouse 2 (.lconst 0) 1 3 := ⟨by decide +kernel, rfl⟩
theorem dX9_isHouse_3 : D1 cX9_isHouse 3 (.aload_n 0) 1 4 := ⟨by decide +kernel, rfl⟩
theorem dX9_isHouse_4 : D1 cX9_isHouse 4 (.getfield 7) 3 7 := ⟨by decide +kernel, rfl⟩
theorem dX9_isHouse_7 : D1 cX9_isHouse 7 (.iconst 1) 1 8 := ⟨by decide +kernel, rfl⟩
theorem dX9_isHouse_8 : D1 cX9_isHouse 8 (.iaload) 1 9 := ⟨by decide +kernel, rfl⟩
theorem dX9_isHouse_9 : D1 cX9_isHouse 9 (.iconst 1) 1 10 := ⟨by decide +kernel, rfl⟩
theorem dX9_isHouse_10 : D1 cX9_isHouse 10 (.isub) 1 11 := ⟨by decide +kernel, rfl⟩
theorem dX9_isHouse_11 : D1 cX9_isHouse 11 (.i2l) 1 12 := ⟨by decide +kernel, rfl⟩
theorem dX9_isHouse_12 : D1 cX9_isHouse 12 (.invokestatic 48) 3 15 := ⟨by decide +kernel, rfl⟩
theorem dX9_isHouse_15 : D1 cX9_isHouse 15 (.ireturn) 1 16 := ⟨by decide +kernel, rfl⟩
theorem dX9_draw_0 : D1 cX9_draw 0 (.aload_n 0) 1 1 := ⟨by decide +kernel, rfl⟩
theorem dX9_draw_1 : D1 cX9_draw 1 (.getfield 7) 3 4 := ⟨by decide +kernel, rfl⟩
theorem dX9_draw_4 : D1 cX9_draw 4 (.bipush 7) 2 6 := ⟨by decide +kernel, rfl⟩
theorem dX9_draw_6 : D1 cX9_draw 6 (.aload_n 0) 1 7 := ⟨by decide +kernel, rfl⟩
theorem dX9_draw_7 : D1 cX9_draw 7 (.getfield 7) 3 10 := ⟨by decide +kernel, rfl⟩
theorem dX9_draw_10 : D1 cX9_draw 10 (.bipush 7) 2 12 := ⟨by decide +kernel, rfl⟩
theorem dX9_draw_12 : D1 cX9_draw 12 (.iaload) 1 13 := ⟨by decide +kernel, rfl⟩
theorem dX9_draw_13 : D1 cX9_draw 13 (.ldc 52) 2 15 := ⟨by decide +kernel, rfl⟩
theorem dX9_draw_15 : D1 cX9_draw 15 (.imul) 1 16 := ⟨by decide +kernel, rfl⟩
theorem dX9_draw_16 : D1 cX9_draw 16 (.sipush 12345) 3 19 := ⟨by decide +kernel, rfl⟩
theorem dX9_draw_19 : D1 cX9_draw 19 (.iadd) 1 20 := ⟨by decide +kernel, rfl⟩
theorem dX9_draw_20 : D1 cX9_draw 20 (.iastore) 1 21 := ⟨by decide +kernel, rfl⟩
theorem dX9_draw_21 : D1 cX9_draw 21 (.aload_n 0) 1 22 := ⟨by decide +kernel, rfl⟩
theorem dX9_draw_22 : D1 cX9_draw 22 (.getfield 7) 3 25 := ⟨by decide +kernel, rfl⟩
theorem dX9_draw_25 : D1 cX9_draw 25 (.bipush 7) 2 27 := ⟨by decide +kernel, rfl⟩
theorem dX9_draw_27 : D1 cX9_draw 27 (.iaload) 1 28 := ⟨by decide +kernel, rfl⟩
theorem dX9_draw_28 : D1 cX9_draw 28 (.bipush 8) 2 30 := ⟨by decide +kernel, rfl⟩
theorem dX9_draw_30 : D1 cX9_draw 30 (.iushr) 1 31 := ⟨by decide +kernel, rfl⟩
theorem dX9_draw_31 : D1 cX9_draw 31 (.ireturn) 1 32 := ⟨by decide +kernel, rfl⟩
theorem dX9_saves_0 : D1 cX9_saves 0 (.iconst 0) 1 1 := ⟨by decide +kernel, rfl⟩
theorem dX9_saves_1 : D1 cX9_saves 1 (.istore_n 1) 1 2 := ⟨by decide +kernel, rfl⟩
theorem dX9_saves_2 : D1 cX9_saves 2 (.iload_n 1) 1 3 := ⟨by decide +kernel, rfl⟩
theorem dX9_saves_3 : D1 cX9_saves 3 (.bipush 73) 2 5 := ⟨by decide +kernel, rfl⟩
theorem dX9_saves_5 : DJ cX9_saves 5 (.if_icmp .ge) 8 26 := ⟨21, by decide +kernel, rfl, by decide⟩
theorem dX9_saves_8 : D1 cX9_saves 8 (.aload_n 0) 1 9 := ⟨by decide +kernel, rfl⟩
theorem dX9_saves_9 : D1 cX9_saves 9 (.getfield 16) 3 12 := ⟨by decide +kernel, rfl⟩
theorem dX9_saves_12 : D1 cX9_saves 12 (.iload_n 1) 1 13 := ⟨by decide +kernel, rfl⟩
theorem dX9_saves_13 : D1 cX9_saves 13 (.aload_n 0) 1 14 := ⟨by decide +kernel, rfl⟩
theorem dX9_saves_14 : D1 cX9_saves 14 (.getfield 7) 3 17 := ⟨by decide +kernel, rfl⟩
theorem dX9_saves_17 : D1 cX9_saves 17 (.iload_n 1) 1 18 := ⟨by decide +kernel, rfl⟩
theorem dX9_saves_18 : D1 cX9_saves 18 (.iaload) 1 19 := ⟨by decide +kernel, rfl⟩
theorem dX9_saves_19 : D1 cX9_saves 19 (.iastore) 1 20 := ⟨by decide +kernel, rfl⟩
theorem dX9_saves_20 : D1 cX9_saves 20 (.iinc 1 1) 3 23 := ⟨by decide +kernel, rfl⟩
theorem dX9_saves_23 : DJ cX9_saves 23 .goto 26 2 := ⟨(-21), by decide +kernel, rfl, by decide⟩
theorem dX9_saves_26 : D1 cX9_saves 26 (.return_) 1 27 := ⟨by decide +kernel, rfl⟩
theorem dX9_putsBack_0 : D1 cX9_putsBack 0 (.iconst 0) 1 1 := ⟨by decide +kernel, rfl⟩
theorem dX9_putsBack_1 : D1 cX9_putsBack 1 (.istore_n 1) 1 2 := ⟨by decide +kernel, rfl⟩
theorem dX9_putsBack_2 : D1 cX9_putsBack 2 (.iload_n 1) 1 3 := ⟨by decide +kernel, rfl⟩
theorem dX9_putsBack_3 : D1 cX9_putsBack 3 (.bipush 73) 2 5 := ⟨by decide +kernel, rfl⟩
theorem dX9_putsBack_5 : DJ cX9_putsBack 5 (.if_icmp .ge) 8 26 := ⟨21, by decide +kernel, rfl, by decide⟩
theorem dX9_putsBack_8 : D1 cX9_putsBack 8 (.aload_n 0) 1 9 := ⟨by decide +kernel, rfl⟩
theorem dX9_putsBack_9 : D1 cX9_putsBack 9 (.getfield 7) 3 12 := ⟨by decide +kernel, rfl⟩
theorem dX9_putsBack_12 : D1 cX9_putsBack 12 (.iload_n 1) 1 13 := ⟨by decide +kernel, rfl⟩
theorem dX9_putsBack_13 : D1 cX9_putsBack 13 (.aload_n 0) 1 14 := ⟨by decide +kernel, rfl⟩
theorem dX9_putsBack_14 : D1 cX9_putsBack 14 (.getfield 16) 3 17 := ⟨by decide +kernel, rfl⟩
theorem dX9_putsBack_17 : D1 cX9_putsBack 17 (.iload_n 1) 1 18 := ⟨by decide +kernel, rfl⟩
theorem dX9_putsBack_18 : D1 cX9_putsBack 18 (.iaload) 1 19 := ⟨by decide +kernel, rfl⟩
theorem dX9_putsBack_19 : D1 cX9_putsBack 19 (.iastore) 1 20 := ⟨by decide +kernel, rfl⟩
theorem dX9_putsBack_20 : D1 cX9_putsBack 20 (.iinc 1 1) 3 23 := ⟨by decide +kernel, rfl⟩
theorem dX9_putsBack_23 : DJ cX9_putsBack 23 .goto 26 2 := ⟨(-21), by decide +kernel, rfl, by decide⟩
theorem dX9_putsBack_26 : D1 cX9_putsBack 26 (.return_) 1 27 := ⟨by decide +kernel, rfl⟩
theorem dX9_at_0 : D1 cX9_at 0 (.bipush 15) 2 2 := ⟨by decide +kernel, rfl⟩
theorem dX9_at_2 : D1 cX9_at 2 (.bipush 6) 2 4 := ⟨by decide +kernel, rfl⟩
theorem dX9_at_4 : D1 cX9_at 4 (.iload_n 0) 1 5 := ⟨by decide +kernel, rfl⟩
theorem dX9_at_5 : D1 cX9_at 5 (.imul) 1 6 := ⟨by decide +kernel, rfl⟩
theorem dX9_at_6 : D1 cX9_at 6 (.iadd) 1 7 := ⟨by decide +kernel, rfl⟩
theorem dX9_at_7 : D1 cX9_at 7 (.iload_n 1) 1 8 := ⟨by decide +kernel, rfl⟩
theorem dX9_at_8 : D1 cX9_at 8 (.iadd) 1 9 := ⟨by decide +kernel, rfl⟩
theorem dX9_at_9 : D1 cX9_at 9 (.ireturn) 1 10 := ⟨by decide +kernel, rfl⟩
theorem dX9_its_0 : D1 cX9_its 0 (.aload_n 0) 1 1 := ⟨by decide +kernel, rfl⟩
theorem dX9_its_1 : D1 cX9_its 1 (.getfield 7) 3 4 := ⟨by decide +kernel, rfl⟩
theorem dX9_its_4 : D1 cX9_its 4 (.iload_n 1) 1 5 := ⟨by decide +kernel, rfl⟩
theorem dX9_its_5 : D1 cX9_its 5 (.iload_n 2) 1 6 := ⟨by decide +kernel, rfl⟩
theorem dX9_its_6 : D1 cX9_its 6 (.invokestatic 53) 3 9 := ⟨by decide +kernel, rfl⟩
theorem dX9_its_9 : D1 cX9_its 9 (.iaload) 1 10 := ⟨by decide +kernel, rfl⟩
theorem dX9_its_10 : D1 cX9_its 10 (.ireturn) 1 11 := ⟨by decide +kernel, rfl⟩
theorem dX9_newHouse_0 : D1 cX9_newHouse 0 (.aload_n 0) 1 1 := ⟨by decide +kernel, rfl⟩
theorem dX9_newHouse_1 : D1 cX9_newHouse 1 (.getfield 7) 3 4 := ⟨by decide +kernel, rfl⟩
theorem dX9_newHouse_4 : D1 cX9_newHouse 4 (.iconst 1) 1 5 := ⟨by decide +kernel, rfl⟩
theorem dX9_newHouse_5 : D1 cX9_newHouse 5 (.iaload) 1 6 := ⟨by decide +kernel, rfl⟩
theorem dX9_newHouse_6 : D1 cX9_newHouse 6 (.istore 6) 2 8 := ⟨by decide +kernel, rfl⟩
theorem dX9_newHouse_8 : D1 cX9_newHouse 8 (.aload_n 0) 1 9 := ⟨by decide +kernel, rfl⟩
theorem dX9_newHouse_9 : D1 cX9_newHouse 9 (.getfield 7) 3 12 := ⟨by decide +kernel, rfl⟩
theorem dX9_newHouse_12 : D1 cX9_newHouse 12 (.iload 6) 2 14 := ⟨by decide +kernel, rfl⟩
theorem dX9_newHouse_14 : D1 cX9_newHouse 14 (.iconst 0) 1 15 := ⟨by decide +kernel, rfl⟩
theorem dX9_newHouse_15 : D1 cX9_newHouse 15 (.invokestatic 53) 3 18 := ⟨by decide +kernel, rfl⟩
theorem dX9_newHouse_18 : D1 cX9_newHouse 18 (.iload_n 1) 1 19 := ⟨by decide +kernel, rfl⟩
theorem dX9_newHouse_19 : D1 cX9_newHouse 19 (.iastore) 1 20 := ⟨by decide +kernel, rfl⟩
theorem dX9_newHouse_20 : D1 cX9_newHouse 20 (.aload_n 0) 1 21 := ⟨by decide +kernel, rfl⟩
theorem dX9_newHouse_21 : D1 cX9_newHouse 21 (.getfield 7) 3 24 := ⟨by decide +kernel, rfl⟩
theorem dX9_newHouse_24 : D1 cX9_newHouse 24 (.iload 6) 2 26 := ⟨by decide +kernel, rfl⟩
theorem dX9_newHouse_26 : D1 cX9_newHouse 26 (.iconst 1) 1 27 := ⟨by decide +kernel, rfl⟩
theorem dX9_newHouse_27 : D1 cX9_newHouse 27 (.invokestatic 53) 3 30 := ⟨by decide +kernel, rfl⟩
theorem dX9_newHouse_30 : D1 cX9_newHouse 30 (.iload_n 2) 1 31 := ⟨by decide +kernel, rfl⟩
theorem dX9_newHouse_31 : D1 cX9_newHouse 31 (.iastore) 1 32 := ⟨by decide +kernel, rfl⟩
theorem dX9_newHouse_32 : D1 cX9_newHouse 32 (.aload_n 0) 1 33 := ⟨by decide +kernel, rfl⟩
theorem dX9_newHouse_33 : D1 cX9_newHouse 33 (.getfield 7) 3 36 := ⟨by decide +kernel, rfl⟩
theorem dX9_newHouse_36 : D1 cX9_newHouse 36 (.iload 6) 2 38 := ⟨by decide +kernel, rfl⟩
theorem dX9_newHouse_38 : D1 cX9_newHouse 38 (.iconst 2) 1 39 := ⟨by decide +kernel, rfl⟩
theorem dX9_newHouse_39 : D1 cX9_newHouse 39 (.invokestatic 53) 3 42 := ⟨by decide +kernel, rfl⟩
theorem dX9_newHouse_42 : D1 cX9_newHouse 42 (.iload_n 3) 1 43 := ⟨by decide +kernel, rfl⟩
theorem dX9_newHouse_43 : D1 cX9_newHouse 43 (.iastore) 1 44 := ⟨by decide +kernel, rfl⟩
theorem dX9_newHouse_44 : D1 cX9_newHouse 44 (.aload_n 0) 1 45 := ⟨by decide +kernel, rfl⟩
theorem dX9_newHouse_45 : D1 cX9_newHouse 45 (.getfield 7) 3 48 := ⟨by decide +kernel, rfl⟩
theorem dX9_newHouse_48 : D1 cX9_newHouse 48 (.iload 6) 2 50 := ⟨by decide +kernel, rfl⟩
theorem dX9_newHouse_50 : D1 cX9_newHouse 50 (.iconst 3) 1 51 := ⟨by decide +kernel, rfl⟩
theorem dX9_newHouse_51 : D1 cX9_newHouse 51 (.invokestatic 53) 3 54 := ⟨by decide +kernel, rfl⟩
theorem dX9_newHouse_54 : D1 cX9_newHouse 54 (.iload 4) 2 56 := ⟨by decide +kernel, rfl⟩
theorem dX9_newHouse_56 : D1 cX9_newHouse 56 (.iastore) 1 57 := ⟨by decide +kernel, rfl⟩
theorem dX9_newHouse_57 : D1 cX9_newHouse 57 (.aload_n 0) 1 58 := ⟨by decide +kernel, rfl⟩
theorem dX9_newHouse_58 : D1 cX9_newHouse 58 (.getfield 7) 3 61 := ⟨by decide +kernel, rfl⟩
theorem dX9_newHouse_61 : D1 cX9_newHouse 61 (.iload 6) 2 63 := ⟨by decide +kernel, rfl⟩
theorem dX9_newHouse_63 : D1 cX9_newHouse 63 (.iconst 4) 1 64 := ⟨by decide +kernel, rfl⟩
theorem dX9_newHouse_64 : D1 cX9_newHouse 64 (.invokestatic 53) 3 67 := ⟨by decide +kernel, rfl⟩
theorem dX9_newHouse_67 : D1 cX9_newHouse 67 (.iload 5) 2 69 := ⟨by decide +kernel, rfl⟩
theorem dX9_newHouse_69 : D1 cX9_newHouse 69 (.iastore) 1 70 := ⟨by decide +kernel, rfl⟩
theorem dX9_newHouse_70 : D1 cX9_newHouse 70 (.aload_n 0) 1 71 := ⟨by decide +kernel, rfl⟩
theorem dX9_newHouse_71 : D1 cX9_newHouse 71 (.getfield 7) 3 74 := ⟨by decide +kernel, rfl⟩
theorem dX9_newHouse_74 : D1 cX9_newHouse 74 (.iload 6) 2 76 := ⟨by decide +kernel, rfl⟩
theorem dX9_newHouse_76 : D1 cX9_newHouse 76 (.iconst 5) 1 77 := ⟨by decide +kernel, rfl⟩
theorem dX9_newHouse_77 : D1 cX9_newHouse 77 (.invokestatic 53) 3 80 := ⟨by decide +kernel, rfl⟩
theorem dX9_newHouse_80 : D1 cX9_newHouse 80 (.iconst 0) 1 81 := ⟨by decide +kernel, rfl⟩
theorem dX9_newHouse_81 : D1 cX9_newHouse 81 (.iastore) 1 82 := ⟨by decide +kernel, rfl⟩
theorem dX9_newHouse_82 : D1 cX9_newHouse 82 (.aload_n 0) 1 83 := ⟨by decide +kernel, rfl⟩
theorem dX9_newHouse_83 : D1 cX9_newHouse 83 (.getfield 7) 3 86 := ⟨by decide +kernel, rfl⟩
theorem dX9_newHouse_86 : D1 cX9_newHouse 86 (.iconst 1) 1 87 := ⟨by decide +kernel, rfl⟩
theorem dX9_newHouse_87 : D1 cX9_newHouse 87 (.dup2) 1 88 := ⟨by decide +kernel, rfl⟩
theorem dX9_newHouse_88 : D1 cX9_newHouse 88 (.iaload) 1 89 := ⟨by decide +kernel, rfl⟩
theorem dX9_newHouse_89 : D1 cX9_newHouse 89 (.iconst 1) 1 90 := ⟨by decide +kernel, rfl⟩
theorem dX9_newHouse_90 : D1 cX9_newHouse 90 (.iadd) 1 91 := ⟨by decide +kernel, rfl⟩
theorem dX9_newHouse_91 : D1 cX9_newHouse 91 (.iastore) 1 92 := ⟨by decide +kernel, rfl⟩
theorem dX9_newHouse_92 : D1 cX9_newHouse 92 (.iload 6) 2 94 := ⟨by decide +kernel, rfl⟩
theorem dX9_newHouse_94 : D1 cX9_newHouse 94 (.ireturn) 1 95 := ⟨by decide +kernel, rfl⟩
theorem dX9_house_0 : D1 cX9_house 0 (.iload_n 1) 1 1 := ⟨by decide +kernel, rfl⟩
theorem dX9_house_1 : D1 cX9_house 1 (.i2l) 1 2 := ⟨by decide +kernel, rfl⟩
theorem dX9_house_2 : D1 cX9_house 2 (.lconst 0) 1 3 := ⟨by decide +kernel, rfl⟩
theorem dX9_house_3 : D1 cX9_house 3 (.ldc2_w 57) 3 6 := ⟨by decide +kernel, rfl⟩
theorem dX9_house_6 : D1 cX9_house 6 (.invokestatic 48) 3 9 := ⟨by decide +kernel, rfl⟩
theorem dX9_house_9 : DJ cX9_house 9 (.ifCond .ne) 12 19 := ⟨10, by decide +kernel, rfl, by decide⟩
theorem dX9_house_12 : D1 cX9_house 12 (.aload_n 0) 1 13 := ⟨by decide +kernel, rfl⟩
theorem dX9_house_13 : D1 cX9_house 13 (.ldc 47) 2 15 := ⟨by decide +kernel, rfl⟩
theorem dX9_house_15 : D1 cX9_house 15 (.invokevirtual 59) 3 18 := ⟨by decide +kernel, rfl⟩
theorem dX9_house_18 : D1 cX9_house 18 (.ireturn) 1 19 := ⟨by decide +kernel, rfl⟩
theorem dX9_house_19 : D1 cX9_house 19 (.aload_n 0) 1 20 := ⟨by decide +kernel, rfl⟩
theorem dX9_house_20 : D1 cX9_house 20 (.getfield 7) 3 23 := ⟨by decide +kernel, rfl⟩
theorem dX9_house_23 : D1 cX9_house 23 (.iconst 1) 1 24 := ⟨by decide +kernel, rfl⟩
theorem dX9_house_24 : D1 cX9_house 24 (.iaload) 1 25 := ⟨by decide +kernel, rfl⟩
theorem dX9_house_25 : D1 cX9_house 25 (.bipush 8) 2 27 := ⟨by decide +kernel, rfl⟩
theorem dX9_house_27 : DJ cX9_house 27 (.if_icmp .ne) 30 39 := ⟨12, by decide +kernel, rfl, by decide⟩
theorem dX9_house_30 : D1 cX9_house 30 (.aload_n 0) 1 31 := ⟨by decide +kernel, rfl⟩
theorem dX9_house_31 : D1 cX9_house 31 (.ldc 63) 2 33 := ⟨by decide +kernel, rfl⟩
theorem dX9_house_33 : D1 cX9_house 33 (.invokevirtual 59) 3 36 := ⟨by decide +kernel, rfl⟩
theorem dX9_house_36 : DJ cX9_house 36 .goto 39 52 := ⟨16, by decide +kernel, rfl, by decide⟩
theorem dX9_house_39 : D1 cX9_house 39 (.aload_n 0) 1 40 := ⟨by decide +kernel, rfl⟩
theorem dX9_house_40 : D1 cX9_house 40 (.iload_n 1) 1 41 := ⟨by decide +kernel, rfl⟩
theorem dX9_house_41 : D1 cX9_house 41 (.bipush 100) 2 43 := ⟨by decide +kernel, rfl⟩
theorem dX9_house_43 : D1 cX9_house 43 (.bipush 10) 2 45 := ⟨by decide +kernel, rfl⟩
theorem dX9_house_45 : D1 cX9_house 45 (.bipush 8) 2 47 := ⟨by decide +kernel, rfl⟩
theorem dX9_house_47 : D1 cX9_house 47 (.bipush 60) 2 49 := ⟨by decide +kernel, rfl⟩
theorem dX9_house_49 : D1 cX9_house 49 (.invokevirtual 64) 3 52 := ⟨by decide +kernel, rfl⟩
theorem dX9_house_52 : D1 cX9_house 52 (.ireturn) 1 53 := ⟨by decide +kernel, rfl⟩
theorem dX9_heats_0 : D1 cX9_heats 0 (.aload_n 0) 1 1 := ⟨by decide +kernel, rfl⟩
theorem dX9_heats_1 : D1 cX9_heats 1 (.iload_n 1) 1 2 := ⟨by decide +kernel, rfl⟩
theorem dX9_heats_2 : D1 cX9_heats 2 (.iconst 1) 1 3 := ⟨by decide +kernel, rfl⟩
theorem dX9_heats_3 : D1 cX9_heats 3 (.invokevirtual 68) 3 6 := ⟨by decide +kernel, rfl⟩
theorem dX9_heats_6 : D1 cX9_heats 6 (.sipush 200) 3 9 := ⟨by decide +kernel, rfl⟩
theorem dX9_heats_9 : DJ cX9_heats 9 (.if_icmp .ge) 12 17 := ⟨8, by decide +kernel, rfl, by decide⟩
theorem dX9_heats_12 : D1 cX9_heats 12 (.bipush 40) 2 14 := ⟨by decide +kernel, rfl⟩
theorem dX9_heats_14 : DJ cX9_heats 14 .goto 17 18 := ⟨4, by decide +kernel, rfl, by decide⟩
theorem dX9_heats_17 : D1 cX9_heats 17 (.iconst 0) 1 18 := ⟨by decide +kernel, rfl⟩
theorem dX9_heats_18 : D1 cX9_heats 18 (.istore_n 2) 1 19 := ⟨by decide +kernel, rfl⟩
theorem dX9_heats_19 : D1 cX9_heats 19 (.aload_n 0) 1 20 := ⟨by decide +kernel, rfl⟩
theorem dX9_heats_20 : D1 cX9_heats 20 (.iload_n 1) 1 21 := ⟨by decide +kernel, rfl⟩
theorem dX9_heats_21 : D1 cX9_heats 21 (.iconst 0) 1 22 := ⟨by decide +kernel, rfl⟩
theorem dX9_heats_22 : D1 cX9_heats 22 (.invokevirtual 68) 3 25 := ⟨by decide +kernel, rfl⟩
theorem dX9_heats_25 : decode cX9_heats 25 = .ok (.tableswitch 41 3 6 #[31, 41, 34, 36], 31) := by decide +kernel
theorem dX9_heats_56 : D1 cX9_heats 56 (.bipush 30) 2 58 := ⟨by decide +kernel, rfl⟩
theorem dX9_heats_58 : D1 cX9_heats 58 (.ireturn) 1 59 := ⟨by decide +kernel, rfl⟩
theorem dX9_heats_59 : D1 cX9_heats 59 (.iload_n 2) 1 60 := ⟨by decide +kernel, rfl⟩
theorem dX9_heats_60 : D1 cX9_heats 60 (.ireturn) 1 61 := ⟨by decide +kernel, rfl⟩
theorem dX9_heats_61 : D1 cX9_heats 61 (.iload_n 2) 1 62 := ⟨by decide +kernel, rfl⟩
theorem dX9_heats_62 : D1 cX9_heats 62 (.bipush 20) 2 64 := ⟨by decide +kernel, rfl⟩
theorem dX9_heats_64 : D1 cX9_heats 64 (.iadd) 1 65 := ⟨by decide +kernel, rfl⟩
theorem dX9_heats_65 : D1 cX9_heats 65 (.ireturn) 1 66 := ⟨by decide +kernel, rfl⟩
theorem dX9_heats_66 : D1 cX9_heats 66 (.bipush 40) 2 68 := ⟨by decide +kernel, rfl⟩
theorem dX9_heats_68 : D1 cX9_heats 68 (.ireturn) 1 69 := ⟨by decide +kernel, rfl⟩
theorem dX9_loses_0 : D1 cX9_loses 0 (.aload_n 0) 1 1 := ⟨by decide +kernel, rfl⟩
theorem dX9_loses_1 : D1 cX9_loses 1 (.iload_n 1) 1 2 := ⟨by decide +kernel, rfl⟩
theorem dX9_loses_2 : D1 cX9_loses 2 (.iconst 1) 1 3 := ⟨by decide +kernel, rfl⟩
theorem dX9_loses_3 : D1 cX9_loses 3 (.invokevirtual 68) 3 6 := ⟨by decide +kernel, rfl⟩
theorem dX9_loses_6 : D1 cX9_loses 6 (.aload_n 0) 1 7 := ⟨by decide +kernel, rfl⟩
theorem dX9_loses_7 : D1 cX9_loses 7 (.getfield 7) 3 10 := ⟨by decide +kernel, rfl⟩
theorem dX9_loses_10 : D1 cX9_loses 10 (.bipush 6) 2 12 := ⟨by decide +kernel, rfl⟩
theorem dX9_loses_12 : D1 cX9_loses 12 (.iaload) 1 13 := ⟨by decide +kernel, rfl⟩
theorem dX9_loses_13 : DJ cX9_loses 13 (.if_icmp .ge) 16 20 := ⟨7, by decide +kernel, rfl, by decide⟩
theorem dX9_loses_16 : D1 cX9_loses 16 (.iconst 0) 1 17 := ⟨by decide +kernel, rfl⟩
theorem dX9_loses_17 : DJ cX9_loses 17 .goto 20 41 := ⟨24, by decide +kernel, rfl, by decide⟩
theorem dX9_loses_20 : D1 cX9_loses 20 (.aload_n 0) 1 21 := ⟨by decide +kernel, rfl⟩
theorem dX9_loses_21 : D1 cX9_loses 21 (.iload_n 1) 1 22 := ⟨by decide +kernel, rfl⟩
theorem dX9_loses_22 : D1 cX9_loses 22 (.iconst 1) 1 23 := ⟨by decide +kernel, rfl⟩
theorem dX9_loses_23 : D1 cX9_loses 23 (.invokevirtual 68) 3 26 := ⟨by decide +kernel, rfl⟩
theorem dX9_loses_26 : D1 cX9_loses 26 (.aload_n 0) 1 27 := ⟨by decide +kernel, rfl⟩
theorem dX9_loses_27 : D1 cX9_loses 27 (.getfield 7) 3 30 := ⟨by decide +kernel, rfl⟩
theorem dX9_loses_30 : D1 cX9_loses 30 (.bipush 6) 2 32 := ⟨by decide +kernel, rfl⟩
theorem dX9_loses_32 : D1 cX9_loses 32 (.iaload) 1 33 := ⟨by decide +kernel, rfl⟩
theorem dX9_loses_33 : D1 cX9_loses 33 (.isub) 1 34 := ⟨by decide +kernel, rfl⟩
theorem dX9_loses_34 : D1 cX9_loses 34 (.aload_n 0) 1 35 := ⟨by decide +kernel, rfl⟩
theorem dX9_loses_35 : D1 cX9_loses 35 (.iload_n 1) 1 36 := ⟨by decide +kernel, rfl⟩
theorem dX9_loses_36 : D1 cX9_loses 36 (.iconst 2) 1 37 := ⟨by decide +kernel, rfl⟩
theorem dX9_loses_37 : D1 cX9_loses 37 (.invokevirtual 68) 3 40 := ⟨by decide +kernel, rfl⟩
theorem dX9_loses_40 : D1 cX9_loses 40 (.idiv) 1 41 := ⟨by decide +kernel, rfl⟩
theorem dX9_loses_41 : D1 cX9_loses 41 (.istore_n 2) 1 42 := ⟨by decide +kernel, rfl⟩
theorem dX9_loses_42 : D1 cX9_loses 42 (.aload_n 0) 1 43 := ⟨by decide +kernel, rfl⟩
theorem dX9_loses_43 : D1 cX9_loses 43 (.iload_n 1) 1 44 := ⟨by decide +kernel, rfl⟩
theorem dX9_loses_44 : D1 cX9_loses 44 (.iconst 0) 1 45 := ⟨by decide +kernel, rfl⟩
theorem dX9_loses_45 : D1 cX9_loses 45 (.invokevirtual 68) 3 48 := ⟨by decide +kernel, rfl⟩
theorem dX9_loses_48 : D1 cX9_loses 48 (.istore_n 3) 1 49 := ⟨by decide +kernel, rfl⟩
theorem dX9_loses_49 : D1 cX9_loses 49 (.iload_n 3) 1 50 := ⟨by decide +kernel, rfl⟩
theorem dX9_loses_50 : D1 cX9_loses 50 (.iconst 2) 1 51 := ⟨by decide +kernel, rfl⟩
theorem dX9_loses_51 : DJ cX9_loses 51 (.if_icmp .eq) 54 59 := ⟨8, by decide +kernel, rfl, by decide⟩
theorem dX9_loses_54 : D1 cX9_loses 54 (.iload_n 3) 1 55 := ⟨by decide +kernel, rfl⟩
theorem dX9_loses_55 : D1 cX9_loses 55 (.iconst 4) 1 56 := ⟨by decide +kernel, rfl⟩
theorem dX9_loses_56 : DJ cX9_loses 56 (.if_icmp .ne) 59 65 := ⟨9, by decide +kernel, rfl, by decide⟩
theorem dX9_loses_59 : D1 cX9_loses 59 (.iconst 2) 1 60 := ⟨by decide +kernel, rfl⟩
theorem dX9_loses_60 : D1 cX9_loses 60 (.iload_n 2) 1 61 := ⟨by decide +kernel, rfl⟩
theorem dX9_loses_61 : D1 cX9_loses 61 (.imul) 1 62 := ⟨by decide +kernel, rfl⟩
theorem dX9_loses_62 : DJ cX9_loses 62 .goto 65 77 := ⟨15, by decide +kernel, rfl, by decide⟩
theorem dX9_loses_65 : D1 cX9_loses 65 (.iload_n 3) 1 66 := ⟨by decide +kernel, rfl⟩
theorem dX9_loses_66 : D1 cX9_loses 66 (.iconst 3) 1 67 := ⟨by decide +kernel, rfl⟩
theorem dX9_loses_67 : DJ cX9_loses 67 (.if_icmp .ne) 70 76 := ⟨9, by decide +kernel, rfl, by decide⟩
theorem dX9_loses_70 : D1 cX9_loses 70 (.iload_n 2) 1 71 := ⟨by decide +kernel, rfl⟩
theorem dX9_loses_71 : D1 cX9_loses 71 (.iconst 2) 1 72 := ⟨by decide +kernel, rfl⟩
theorem dX9_loses_72 : D1 cX9_loses 72 (.idiv) 1 73 := ⟨by decide +kernel, rfl⟩
theorem dX9_loses_73 : DJ cX9_loses 73 .goto 76 77 := ⟨4, by decide +kernel, rfl, by decide⟩
theorem dX9_loses_76 : D1 cX9_loses 76 (.iload_n 2) 1 77 := ⟨by decide +kernel, rfl⟩
theorem dX9_loses_77 : D1 cX9_loses 77 (.ireturn) 1 78 := ⟨by decide +kernel, rfl⟩
theorem dX9_burns_0 : D1 cX9_burns 0 (.aload_n 0) 1 1 := ⟨by decide +kernel, rfl⟩
theorem dX9_burns_1 : D1 cX9_burns 1 (.iload_n 1) 1 2 := ⟨by decide +kernel, rfl⟩
theorem dX9_burns_2 : D1 cX9_burns 2 (.iconst 0) 1 3 := ⟨by decide +kernel, rfl⟩
theorem dX9_burns_3 : D1 cX9_burns 3 (.invokevirtual 68) 3 6 := ⟨by decide +kernel, rfl⟩
theorem dX9_burns_6 : D1 cX9_burns 6 (.istore_n 2) 1 7 := ⟨by decide +kernel, rfl⟩
theorem dX9_burns_7 : D1 cX9_burns 7 (.iload_n 2) 1 8 := ⟨by decide +kernel, rfl⟩
theorem dX9_burns_8 : D1 cX9_burns 8 (.iconst 4) 1 9 := ⟨by decide +kernel, rfl⟩
theorem dX9_burns_9 : DJ cX9_burns 9 (.if_icmp .ne) 12 16 := ⟨7, by decide +kernel, rfl, by decide⟩
theorem dX9_burns_12 : D1 cX9_burns 12 (.iconst 0) 1 13 := ⟨by decide +kernel, rfl⟩
theorem dX9_burns_13 : DJ cX9_burns 13 .goto 16 27 := ⟨14, by decide +kernel, rfl, by decide⟩
theorem dX9_burns_16 : D1 cX9_burns 16 (.iload_n 2) 1 17 := ⟨by decide +kernel, rfl⟩
theorem dX9_burns_17 : D1 cX9_burns 17 (.bipush 6) 2 19 := ⟨by decide +kernel, rfl⟩
theorem dX9_burns_19 : DJ cX9_burns 19 (.if_icmp .ne) 22 26 := ⟨7, by decide +kernel, rfl, by decide⟩
theorem dX9_burns_22 : D1 cX9_burns 22 (.iconst 2) 1 23 := ⟨by decide +kernel, rfl⟩
theorem dX9_burns_23 : DJ cX9_burns 23 .goto 26 27 := ⟨4, by decide +kernel, rfl, by decide⟩
theorem dX9_burns_26 : D1 cX9_burns 26 (.iconst 1) 1 27 := ⟨by decide +kernel, rfl⟩
theorem dX9_burns_27 : D1 cX9_burns 27 (.ireturn) 1 28 := ⟨by decide +kernel, rfl⟩
theorem dX9_of_0 : D1 cX9_of 0 (.aload_n 0) 1 1 := ⟨by decide +kernel, rfl⟩
theorem dX9_of_1 : D1 cX9_of 1 (.iload_n 1) 1 2 := ⟨by decide +kernel, rfl⟩
theorem dX9_of_2 : D1 cX9_of 2 (.invokevirtual 71) 3 5 := ⟨by decide +kernel, rfl⟩
theorem dX9_of_5 : DJ cX9_of 5 (.ifCond .eq) 8 20 := ⟨15, by decide +kernel, rfl, by decide⟩
theorem dX9_of_8 : D1 cX9_of 8 (.iload_n 2) 1 9 := ⟨by decide +kernel, rfl⟩
theorem dX9_of_9 : D1 cX9_of 9 (.i2l) 1 10 := ⟨by decide +kernel, rfl⟩
theorem dX9_of_10 : D1 cX9_of 10 (.lconst 0) 1 11 := ⟨by decide +kernel, rfl⟩
theorem dX9_of_11 : D1 cX9_of 11 (.ldc2_w 75) 3 14 := ⟨by decide +kernel, rfl⟩
theorem dX9_of_14 : D1 cX9_of 14 (.invokestatic 48) 3 17 := ⟨by decide +kernel, rfl⟩
theorem dX9_of_17 : DJ cX9_of 17 (.ifCond .ne) 20 27 := ⟨10, by decide +kernel, rfl, by decide⟩
theorem dX9_of_20 : D1 cX9_of 20 (.aload_n 0) 1 21 := ⟨by decide +kernel, rfl⟩
theorem dX9_of_21 : D1 cX9_of 21 (.ldc 47) 2 23 := ⟨by decide +kernel, rfl⟩
theorem dX9_of_23 : D1 cX9_of 23 (.invokevirtual 59) 3 26 := ⟨by decide +kernel, rfl⟩
theorem dX9_of_26 : D1 cX9_of 26 (.ireturn) 1 27 := ⟨by decide +kernel, rfl⟩
theorem dX9_of_27 : D1 cX9_of 27 (.iload_n 2) 1 28 := ⟨by decide +kernel, rfl⟩
theorem dX9_of_28 : D1 cX9_of 28 (.bipush 6) 2 30 := ⟨by decide +kernel, rfl⟩
theorem dX9_of_30 : DJ cX9_of 30 (.if_icmp .ge) 33 42 := ⟨12, by decide +kernel, rfl, by decide⟩
theorem dX9_of_33 : D1 cX9_of 33 (.aload_n 0) 1 34 := ⟨by decide +kernel, rfl⟩
theorem dX9_of_34 : D1 cX9_of 34 (.iload_n 1) 1 35 := ⟨by decide +kernel, rfl⟩
theorem dX9_of_35 : D1 cX9_of 35 (.iload_n 2) 1 36 := ⟨by decide +kernel, rfl⟩
theorem dX9_of_36 : D1 cX9_of 36 (.invokevirtual 68) 3 39 := ⟨by decide +kernel, rfl⟩
theorem dX9_of_39 : DJ cX9_of 39 .goto 42 75 := ⟨36, by decide +kernel, rfl, by decide⟩
theorem dX9_of_42 : D1 cX9_of 42 (.iload_n 2) 1 43 := ⟨by decide +kernel, rfl⟩
theorem dX9_of_43 : D1 cX9_of 43 (.bipush 6) 2 45 := ⟨by decide +kernel, rfl⟩
theorem dX9_of_45 : DJ cX9_of 45 (.if_icmp .ne) 48 56 := ⟨11, by decide +kernel, rfl, by decide⟩
theorem dX9_of_48 : D1 cX9_of 48 (.aload_n 0) 1 49 := ⟨by decide +kernel, rfl⟩
theorem dX9_of_49 : D1 cX9_of 49 (.iload_n 1) 1 50 := ⟨by decide +kernel, rfl⟩
theorem dX9_of_50 : D1 cX9_of 50 (.invokevirtual 77) 3 53 := ⟨by decide +kernel, rfl⟩
theorem dX9_of_53 : DJ cX9_of 53 .goto 56 75 := ⟨22, by decide +kernel, rfl, by decide⟩
theorem dX9_of_56 : D1 cX9_of 56 (.iload_n 2) 1 57 := ⟨by decide +kernel, rfl⟩
theorem dX9_of_57 : D1 cX9_of 57 (.bipush 7) 2 59 := ⟨by decide +kernel, rfl⟩
theorem dX9_of_59 : DJ cX9_of 59 (.if_icmp .ne) 62 70 := ⟨11, by decide +kernel, rfl, by decide⟩
theorem dX9_of_62 : D1 cX9_of 62 (.aload_n 0) 1 63 := ⟨by decide +kernel, rfl⟩
theorem dX9_of_63 : D1 cX9_of 63 (.iload_n 1) 1 64 := ⟨by decide +kernel, rfl⟩
theorem dX9_of_64 : D1 cX9_of 64 (.invokevirtual 80) 3 67 := ⟨by decide +kernel, rfl⟩
theorem dX9_of_67 : DJ cX9_of 67 .goto 70 75 := ⟨8, by decide +kernel, rfl, by decide⟩
theorem dX9_of_70 : D1 cX9_of 70 (.aload_n 0) 1 71 := ⟨by decide +kernel, rfl⟩
theorem dX9_of_71 : D1 cX9_of 71 (.iload_n 1) 1 72 := ⟨by decide +kernel, rfl⟩
theorem dX9_of_72 : D1 cX9_of 72 (.invokevirtual 83) 3 75 := ⟨by decide +kernel, rfl⟩
theorem dX9_of_75 : D1 cX9_of 75 (.ireturn) 1 76 := ⟨by decide +kernel, rfl⟩
theorem dX9_isPart_0 : D1 cX9_isPart 0 (.iload_n 0) 1 1 := ⟨by decide +kernel, rfl⟩
theorem dX9_isPart_1 : decode cX9_isPart 1 = .ok (.tableswitch 61 0 3 #[31, 61, 41, 51], 31) := by decide +kernel
theorem dX9_isPart_32 : D1 cX9_isPart 32 (.iload_n 1) 1 33 := ⟨by decide +kernel, rfl⟩
theorem dX9_isPart_33 : D1 cX9_isPart 33 (.i2l) 1 34 := ⟨by decide +kernel, rfl⟩
theorem dX9_isPart_34 : D1 cX9_isPart 34 (.lconst 0) 1 35 := ⟨by decide +kernel, rfl⟩
theorem dX9_isPart_35 : D1 cX9_isPart 35 (.ldc2_w 57) 3 38 := ⟨by decide +kernel, rfl⟩
theorem dX9_isPart_38 : D1 cX9_isPart 38 (.invokestatic 48) 3 41 := ⟨by decide +kernel, rfl⟩
theorem dX9_isPart_41 : D1 cX9_isPart 41 (.ireturn) 1 42 := ⟨by decide +kernel, rfl⟩
theorem dX9_isPart_42 : D1 cX9_isPart 42 (.iload_n 1) 1 43 := ⟨by decide +kernel, rfl⟩
theorem dX9_isPart_43 : D1 cX9_isPart 43 (.i2l) 1 44 := ⟨by decide +kernel, rfl⟩
theorem dX9_isPart_44 : D1 cX9_isPart 44 (.lconst 1) 1 45 := ⟨by decide +kernel, rfl⟩
theorem dX9_isPart_45 : D1 cX9_isPart 45 (.ldc2_w 86) 3 48 := ⟨by decide +kernel, rfl⟩
theorem dX9_isPart_48 : D1 cX9_isPart 48 (.invokestatic 48) 3 51 := ⟨by decide +kernel, rfl⟩
theorem dX9_isPart_51 : D1 cX9_isPart 51 (.ireturn) 1 52 := ⟨by decide +kernel, rfl⟩
theorem dX9_isPart_52 : D1 cX9_isPart 52 (.iload_n 1) 1 53 := ⟨by decide +kernel, rfl⟩
theorem dX9_isPart_53 : D1 cX9_isPart 53 (.i2l) 1 54 := ⟨by decide +kernel, rfl⟩
theorem dX9_isPart_54 : D1 cX9_isPart 54 (.lconst 0) 1 55 := ⟨by decide +kernel, rfl⟩
theorem dX9_isPart_55 : D1 cX9_isPart 55 (.ldc2_w 88) 3 58 := ⟨by decide +kernel, rfl⟩
theorem dX9_isPart_58 : D1 cX9_isPart 58 (.invokestatic 48) 3 61 := ⟨by decide +kernel, rfl⟩
theorem dX9_isPart_61 : D1 cX9_isPart 61 (.ireturn) 1 62 := ⟨by decide +kernel, rfl⟩
theorem dX9_isPart_62 : D1 cX9_isPart 62 (.iload_n 0) 1 63 := ⟨by decide +kernel, rfl⟩
theorem dX9_isPart_63 : D1 cX9_isPart 63 (.iconst 1) 1 64 := ⟨by decide +kernel, rfl⟩
theorem dX9_isPart_64 : DJ cX9_isPart 64 (.if_icmp .eq) 67 72 := ⟨8, by decide +kernel, rfl, by decide⟩
theorem dX9_isPart_67 : D1 cX9_isPart 67 (.iload_n 0) 1 68 := ⟨by decide +kernel, rfl⟩
theorem dX9_isPart_68 : D1 cX9_isPart 68 (.iconst 4) 1 69 := ⟨by decide +kernel, rfl⟩
theorem dX9_isPart_69 : DJ cX9_isPart 69 (.if_icmp .ne) 72 88 := ⟨19, by decide +kernel, rfl, by decide⟩
theorem dX9_isPart_72 : D1 cX9_isPart 72 (.iload_n 1) 1 73 := ⟨by decide +kernel, rfl⟩
theorem dX9_isPart_73 : D1 cX9_isPart 73 (.i2l) 1 74 := ⟨by decide +kernel, rfl⟩
theorem dX9_isPart_74 : D1 cX9_isPart 74 (.lconst 0) 1 75 := ⟨by decide +kernel, rfl⟩
theorem dX9_isPart_75 : D1 cX9_isPart 75 (.ldc2_w 90) 3 78 := ⟨by decide +kernel, rfl⟩
theorem dX9_isPart_78 : D1 cX9_isPart 78 (.invokestatic 48) 3 81 := ⟨by decide +kernel, rfl⟩
theorem dX9_isPart_81 : DJ cX9_isPart 81 (.ifCond .eq) 84 88 := ⟨7, by decide +kernel, rfl, by decide⟩
theorem dX9_isPart_84 : D1 cX9_isPart 84 (.iconst 1) 1 85 := ⟨by decide +kernel, rfl⟩
theorem dX9_isPart_85 : DJ cX9_isPart 85 .goto 88 89 := ⟨4, by decide +kernel, rfl, by decide⟩
theorem dX9_isPart_88 : D1 cX9_isPart 88 (.iconst 0) 1 89 := ⟨by decide +kernel, rfl⟩
theorem dX9_isPart_89 : D1 cX9_isPart 89 (.ireturn) 1 90 := ⟨by decide +kernel, rfl⟩
theorem dX9_change_0 : D1 cX9_change 0 (.aload_n 0) 1 1 := ⟨by decide +kernel, rfl⟩
theorem dX9_change_1 : D1 cX9_change 1 (.iload_n 1) 1 2 := ⟨by decide +kernel, rfl⟩
theorem dX9_change_2 : D1 cX9_change 2 (.invokevirtual 71) 3 5 := ⟨by decide +kernel, rfl⟩
theorem dX9_change_5 : DJ cX9_change 5 (.ifCond .eq) 8 16 := ⟨11, by decide +kernel, rfl, by decide⟩
theorem dX9_change_8 : D1 cX9_change 8 (.iload_n 2) 1 9 := ⟨by decide +kernel, rfl⟩
theorem dX9_change_9 : D1 cX9_change 9 (.iload_n 3) 1 10 := ⟨by decide +kernel, rfl⟩
theorem dX9_change_10 : D1 cX9_change 10 (.invokestatic 92) 3 13 := ⟨by decide +kernel, rfl⟩
theorem dX9_change_13 : DJ cX9_change 13 (.ifCond .ne) 16 23 := ⟨10, by decide +kernel, rfl, by decide⟩
theorem dX9_change_16 : D1 cX9_change 16 (.aload_n 0) 1 17 := ⟨by decide +kernel, rfl⟩
theorem dX9_change_17 : D1 cX9_change 17 (.ldc 47) 2 19 := ⟨by decide +kernel, rfl⟩
theorem dX9_change_19 : D1 cX9_change 19 (.invokevirtual 59) 3 22 := ⟨by decide +kernel, rfl⟩
theorem dX9_change_22 : D1 cX9_change 22 (.ireturn) 1 23 := ⟨by decide +kernel, rfl⟩
theorem dX9_change_23 : D1 cX9_change 23 (.aload_n 0) 1 24 := ⟨by decide +kernel, rfl⟩
theorem dX9_change_24 : D1 cX9_change 24 (.iload_n 1) 1 25 := ⟨by decide +kernel, rfl⟩
theorem dX9_change_25 : D1 cX9_change 25 (.iload_n 2) 1 26 := ⟨by decide +kernel, rfl⟩
theorem dX9_change_26 : D1 cX9_change 26 (.invokevirtual 68) 3 29 := ⟨by decide +kernel, rfl⟩
theorem dX9_change_29 : D1 cX9_change 29 (.istore 4) 2 31 := ⟨by decide +kernel, rfl⟩
theorem dX9_change_31 : D1 cX9_change 31 (.aload_n 0) 1 32 := ⟨by decide +kernel, rfl⟩
theorem dX9_change_32 : D1 cX9_change 32 (.getfield 7) 3 35 := ⟨by decide +kernel, rfl⟩
theorem dX9_change_35 : D1 cX9_change 35 (.iload_n 1) 1 36 := ⟨by decide +kernel, rfl⟩
theorem dX9_change_36 : D1 cX9_change 36 (.iload_n 2) 1 37 := ⟨by decide +kernel, rfl⟩
theorem dX9_change_37 : D1 cX9_change 37 (.invokestatic 53) 3 40 := ⟨by decide +kernel, rfl⟩
theorem dX9_change_40 : D1 cX9_change 40 (.iload_n 3) 1 41 := ⟨by decide +kernel, rfl⟩
theorem dX9_change_41 : D1 cX9_change 41 (.iastore) 1 42 := ⟨by decide +kernel, rfl⟩
theorem dX9_change_42 : D1 cX9_change 42 (.iload 4) 2 44 := ⟨by decide +kernel, rfl⟩
theorem dX9_change_44 : D1 cX9_change 44 (.ireturn) 1 45 := ⟨by decide +kernel, rfl⟩
theorem dX9_steep_0 : D1 cX9_steep 0 (.iload_n 1) 1 1 := ⟨by decide +kernel, rfl⟩
theorem dX9_steep_1 : D1 cX9_steep 1 (.i2l) 1 2 := ⟨by decide +kernel, rfl⟩
theorem dX9_steep_2 : D1 cX9_steep 2 (.lconst 0) 1 3 := ⟨by decide +kernel, rfl⟩
theorem dX9_steep_3 : D1 cX9_steep 3 (.ldc2_w 57) 3 6 := ⟨by decide +kernel, rfl⟩
theorem dX9_steep_6 : D1 cX9_steep 6 (.invokestatic 48) 3 9 := ⟨by decide +kernel, rfl⟩
theorem dX9_steep_9 : DJ cX9_steep 9 (.ifCond .eq) 12 24 := ⟨15, by decide +kernel, rfl, by decide⟩
theorem dX9_steep_12 : D1 cX9_steep 12 (.iload_n 2) 1 13 := ⟨by decide +kernel, rfl⟩
theorem dX9_steep_13 : D1 cX9_steep 13 (.i2l) 1 14 := ⟨by decide +kernel, rfl⟩
theorem dX9_steep_14 : D1 cX9_steep 14 (.lconst 0) 1 15 := ⟨by decide +kernel, rfl⟩
theorem dX9_steep_15 : D1 cX9_steep 15 (.ldc2_w 96) 3 18 := ⟨by decide +kernel, rfl⟩
theorem dX9_steep_18 : D1 cX9_steep 18 (.invokestatic 48) 3 21 := ⟨by decide +kernel, rfl⟩
theorem dX9_steep_21 : DJ cX9_steep 21 (.ifCond .ne) 24 31 := ⟨10, by decide +kernel, rfl, by decide⟩
theorem dX9_steep_24 : D1 cX9_steep 24 (.aload_n 0) 1 25 := ⟨by decide +kernel, rfl⟩
theorem dX9_steep_25 : D1 cX9_steep 25 (.ldc 47) 2 27 := ⟨by decide +kernel, rfl⟩
theorem dX9_steep_27 : D1 cX9_steep 27 (.invokevirtual 59) 3 30 := ⟨by decide +kernel, rfl⟩
theorem dX9_steep_30 : D1 cX9_steep 30 (.ireturn) 1 31 := ⟨by decide +kernel, rfl⟩
theorem dX9_steep_31 : D1 cX9_steep 31 (.aload_n 0) 1 32 := ⟨by decide +kernel, rfl⟩
theorem dX9_steep_32 : D1 cX9_steep 32 (.getfield 7) 3 35 := ⟨by decide +kernel, rfl⟩
theorem dX9_steep_35 : D1 cX9_steep 35 (.bipush 8) 2 37 := ⟨by decide +kernel, rfl⟩
theorem dX9_steep_37 : D1 cX9_steep 37 (.iload_n 1) 1 38 := ⟨by decide +kernel, rfl⟩
theorem dX9_steep_38 : D1 cX9_steep 38 (.iadd) 1 39 := ⟨by decide +kernel, rfl⟩
theorem dX9_steep_39 : D1 cX9_steep 39 (.iaload) 1 40 := ⟨by decide +kernel, rfl⟩
theorem dX9_steep_40 : D1 cX9_steep 40 (.istore_n 3) 1 41 := ⟨by decide +kernel, rfl⟩
theorem dX9_steep_41 : D1 cX9_steep 41 (.aload_n 0) 1 42 := ⟨by decide +kernel, rfl⟩
theorem dX9_steep_42 : D1 cX9_steep 42 (.getfield 7) 3 45 := ⟨by decide +kernel, rfl⟩
theorem dX9_steep_45 : D1 cX9_steep 45 (.bipush 8) 2 47 := ⟨by decide +kernel, rfl⟩
theorem dX9_steep_47 : D1 cX9_steep 47 (.iload_n 1) 1 48 := ⟨by decide +kernel, rfl⟩
theorem dX9_steep_48 : D1 cX9_steep 48 (.iadd) 1 49 := ⟨by decide +kernel, rfl⟩
theorem dX9_steep_49 : D1 cX9_steep 49 (.iload_n 2) 1 50 := ⟨by decide +kernel, rfl⟩
theorem dX9_steep_50 : D1 cX9_steep 50 (.iastore) 1 51 := ⟨by decide +kernel, rfl⟩
theorem dX9_steep_51 : D1 cX9_steep 51 (.iload_n 3) 1 52 := ⟨by decide +kernel, rfl⟩
theorem dX9_steep_52 : D1 cX9_steep 52 (.ireturn) 1 53 := ⟨by decide +kernel, rfl⟩
theorem dX9_weather_0 : D1 cX9_weather 0 (.iload_n 1) 1 1 := ⟨by decide +kernel, rfl⟩
theorem dX9_weather_1 : D1 cX9_weather 1 (.i2l) 1 2 := ⟨by decide +kernel, rfl⟩
theorem dX9_weather_2 : D1 cX9_weather 2 (.lconst 0) 1 3 := ⟨by decide +kernel, rfl⟩
theorem dX9_weather_3 : D1 cX9_weather 3 (.lconst 1) 1 4 := ⟨by decide +kernel, rfl⟩
theorem dX9_weather_4 : D1 cX9_weather 4 (.invokestatic 48) 3 7 := ⟨by decide +kernel, rfl⟩
theorem dX9_weather_7 : DJ cX9_weather 7 (.ifCond .eq) 10 30 := ⟨23, by decide +kernel, rfl, by decide⟩
theorem dX9_weather_10 : D1 cX9_weather 10 (.iload_n 2) 1 11 := ⟨by decide +kernel, rfl⟩
theorem dX9_weather_11 : D1 cX9_weather 11 (.i2l) 1 12 := ⟨by decide +kernel, rfl⟩
theorem dX9_weather_12 : D1 cX9_weather 12 (.lconst 0) 1 13 := ⟨by decide +kernel, rfl⟩
theorem dX9_weather_13 : D1 cX9_weather 13 (.iload_n 1) 1 14 := ⟨by decide +kernel, rfl⟩
theorem dX9_weather_14 : DJ cX9_weather 14 (.ifCond .ne) 17 21 := ⟨7, by decide +kernel, rfl, by decide⟩
theorem dX9_weather_17 : D1 cX9_weather 17 (.lconst 1) 1 18 := ⟨by decide +kernel, rfl⟩
theorem dX9_weather_18 : DJ cX9_weather 18 .goto 21 24 := ⟨6, by decide +kernel, rfl, by decide⟩
theorem dX9_weather_21 : D1 cX9_weather 21 (.ldc2_w 98) 3 24 := ⟨by decide +kernel, rfl⟩
theorem dX9_weather_24 : D1 cX9_weather 24 (.invokestatic 48) 3 27 := ⟨by decide +kernel, rfl⟩
theorem dX9_weather_27 : DJ cX9_weather 27 (.ifCond .ne) 30 37 := ⟨10, by decide +kernel, rfl, by decide⟩
theorem dX9_weather_30 : D1 cX9_weather 30 (.aload_n 0) 1 31 := ⟨by decide +kernel, rfl⟩
theorem dX9_weather_31 : D1 cX9_weather 31 (.ldc 47) 2 33 := ⟨by decide +kernel, rfl⟩
theorem dX9_weather_33 : D1 cX9_weather 33 (.invokevirtual 59) 3 36 := ⟨by decide +kernel, rfl⟩
theorem dX9_weather_36 : D1 cX9_weather 36 (.ireturn) 1 37 := ⟨by decide +kernel, rfl⟩
theorem dX9_weather_37 : D1 cX9_weather 37 (.aload_n 0) 1 38 := ⟨by decide +kernel, rfl⟩
theorem dX9_weather_38 : D1 cX9_weather 38 (.getfield 7) 3 41 := ⟨by decide +kernel, rfl⟩
theorem dX9_weather_41 : D1 cX9_weather 41 (.iconst 5) 1 42 := ⟨by decide +kernel, rfl⟩
theorem dX9_weather_42 : D1 cX9_weather 42 (.iload_n 1) 1 43 := ⟨by decide +kernel, rfl⟩
theorem dX9_weather_43 : D1 cX9_weather 43 (.iadd) 1 44 := ⟨by decide +kernel, rfl⟩
theorem dX9_weather_44 : D1 cX9_weather 44 (.iaload) 1 45 := ⟨by decide +kernel, rfl⟩
theorem dX9_weather_45 : D1 cX9_weather 45 (.istore_n 3) 1 46 := ⟨by decide +kernel, rfl⟩
theorem dX9_weather_46 : D1 cX9_weather 46 (.aload_n 0) 1 47 := ⟨by decide +kernel, rfl⟩
theorem dX9_weather_47 : D1 cX9_weather 47 (.getfield 7) 3 50 := ⟨by decide +kernel, rfl⟩
theorem dX9_weather_50 : D1 cX9_weather 50 (.iconst 5) 1 51 := ⟨by decide +kernel, rfl⟩
theorem dX9_weather_51 : D1 cX9_weather 51 (.iload_n 1) 1 52 := ⟨by decide +kernel, rfl⟩
theorem dX9_weather_52 : D1 cX9_weather 52 (.iadd) 1 53 := ⟨by decide +kernel, rfl⟩
theorem dX9_weather_53 : D1 cX9_weather 53 (.iload_n 2) 1 54 := ⟨by decide +kernel, rfl⟩
theorem dX9_weather_54 : D1 cX9_weather 54 (.iastore) 1 55 := ⟨by decide +kernel, rfl⟩
theorem dX9_weather_55 : D1 cX9_weather 55 (.iload_n 3) 1 56 := ⟨by decide +kernel, rfl⟩
theorem dX9_weather_56 : D1 cX9_weather 56 (.ireturn) 1 57 := ⟨by decide +kernel, rfl⟩
theorem dX9_lend_0 : D1 cX9_lend 0 (.aload_n 0) 1 1 := ⟨by decide +kernel, rfl⟩
theorem dX9_lend_1 : D1 cX9_lend 1 (.iload_n 1) 1 2 := ⟨by decide +kernel, rfl⟩
theorem dX9_lend_2 : D1 cX9_lend 2 (.invokevirtual 71) 3 5 := ⟨by decide +kernel, rfl⟩
theorem dX9_lend_5 : DJ cX9_lend 5 (.ifCond .eq) 8 33 := ⟨28, by decide +kernel, rfl, by decide⟩
theorem dX9_lend_8 : D1 cX9_lend 8 (.aload_n 0) 1 9 := ⟨by decide +kernel, rfl⟩
theorem dX9_lend_9 : D1 cX9_lend 9 (.iload_n 2) 1 10 := ⟨by decide +kernel, rfl⟩
theorem dX9_lend_10 : D1 cX9_lend 10 (.invokevirtual 71) 3 13 := ⟨by decide +kernel, rfl⟩
theorem dX9_lend_13 : DJ cX9_lend 13 (.ifCond .eq) 16 33 := ⟨20, by decide +kernel, rfl, by decide⟩
theorem dX9_lend_16 : D1 cX9_lend 16 (.iload_n 1) 1 17 := ⟨by decide +kernel, rfl⟩
theorem dX9_lend_17 : D1 cX9_lend 17 (.iload_n 2) 1 18 := ⟨by decide +kernel, rfl⟩
theorem dX9_lend_18 : DJ cX9_lend 18 (.if_icmp .eq) 21 33 := ⟨15, by decide +kernel, rfl, by decide⟩
theorem dX9_lend_21 : D1 cX9_lend 21 (.iload_n 3) 1 22 := ⟨by decide +kernel, rfl⟩
theorem dX9_lend_22 : D1 cX9_lend 22 (.i2l) 1 23 := ⟨by decide +kernel, rfl⟩
theorem dX9_lend_23 : D1 cX9_lend 23 (.lconst 1) 1 24 := ⟨by decide +kernel, rfl⟩
theorem dX9_lend_24 : D1 cX9_lend 24 (.ldc2_w 88) 3 27 := ⟨by decide +kernel, rfl⟩
theorem dX9_lend_27 : D1 cX9_lend 27 (.invokestatic 48) 3 30 := ⟨by decide +kernel, rfl⟩
theorem dX9_lend_30 : DJ cX9_lend 30 (.ifCond .ne) 33 40 := ⟨10, by decide +kernel, rfl, by decide⟩
theorem dX9_lend_33 : D1 cX9_lend 33 (.aload_n 0) 1 34 := ⟨by decide +kernel, rfl⟩
theorem dX9_lend_34 : D1 cX9_lend 34 (.ldc 47) 2 36 := ⟨by decide +kernel, rfl⟩
theorem dX9_lend_36 : D1 cX9_lend 36 (.invokevirtual 59) 3 39 := ⟨by decide +kernel, rfl⟩
theorem dX9_lend_39 : D1 cX9_lend 39 (.ireturn) 1 40 := ⟨by decide +kernel, rfl⟩
theorem dX9_lend_40 : D1 cX9_lend 40 (.aload_n 0) 1 41 := ⟨by decide +kernel, rfl⟩
theorem dX9_lend_41 : D1 cX9_lend 41 (.iload_n 1) 1 42 := ⟨by decide +kernel, rfl⟩
theorem dX9_lend_42 : D1 cX9_lend 42 (.iconst 3) 1 43 := ⟨by decide +kernel, rfl⟩
theorem dX9_lend_43 : D1 cX9_lend 43 (.invokevirtual 68) 3 46 := ⟨by decide +kernel, rfl⟩
theorem dX9_lend_46 : D1 cX9_lend 46 (.iload_n 3) 1 47 := ⟨by decide +kernel, rfl⟩
theorem dX9_lend_47 : DJ cX9_lend 47 (.if_icmp .lt) 50 63 := ⟨16, by decide +kernel, rfl, by decide⟩
theorem dX9_lend_50 : D1 cX9_lend 50 (.aload_n 0) 1 51 := ⟨by decide +kernel, rfl⟩
theorem dX9_lend_51 : D1 cX9_lend 51 (.iload_n 2) 1 52 := ⟨by decide +kernel, rfl⟩
theorem dX9_lend_52 : D1 cX9_lend 52 (.iconst 3) 1 53 := ⟨by decide +kernel, rfl⟩
theorem dX9_lend_53 : D1 cX9_lend 53 (.invokevirtual 68) 3 56 := ⟨by decide +kernel, rfl⟩
theorem dX9_lend_56 : D1 cX9_lend 56 (.iload_n 3) 1 57 := ⟨by decide +kernel, rfl⟩
theorem dX9_lend_57 : D1 cX9_lend 57 (.iadd) 1 58 := ⟨by decide +kernel, rfl⟩
theorem dX9_lend_58 : D1 cX9_lend 58 (.bipush 99) 2 60 := ⟨by decide +kernel, rfl⟩
theorem dX9_lend_60 : DJ cX9_lend 60 (.if_icmp .le) 63 70 := ⟨10, by decide +kernel, rfl, by decide⟩
theorem dX9_lend_63 : D1 cX9_lend 63 (.aload_n 0) 1 64 := ⟨by decide +kernel, rfl⟩
theorem dX9_lend_64 : D1 cX9_lend 64 (.ldc 100) 2 66 := ⟨by decide +kernel, rfl⟩
theorem dX9_lend_66 : D1 cX9_lend 66 (.invokevirtual 59) 3 69 := ⟨by decide +kernel, rfl⟩
theorem dX9_lend_69 : D1 cX9_lend 69 (.ireturn) 1 70 := ⟨by decide +kernel, rfl⟩
theorem dX9_lend_70 : D1 cX9_lend 70 (.aload_n 0) 1 71 := ⟨by decide +kernel, rfl⟩
theorem dX9_lend_71 : D1 cX9_lend 71 (.getfield 7) 3 74 := ⟨by decide +kernel, rfl⟩
theorem dX9_lend_74 : D1 cX9_lend 74 (.iload_n 1) 1 75 := ⟨by decide +kernel, rfl⟩
theorem dX9_lend_75 : D1 cX9_lend 75 (.iconst 3) 1 76 := ⟨by decide +kernel, rfl⟩
theorem dX9_lend_76 : D1 cX9_lend 76 (.invokestatic 53) 3 79 := ⟨by decide +kernel, rfl⟩
theorem dX9_lend_79 : D1 cX9_lend 79 (.dup2) 1 80 := ⟨by decide +kernel, rfl⟩
theorem dX9_lend_80 : D1 cX9_lend 80 (.iaload) 1 81 := ⟨by decide +kernel, rfl⟩
theorem dX9_lend_81 : D1 cX9_lend 81 (.iload_n 3) 1 82 := ⟨by decide +kernel, rfl⟩
theorem dX9_lend_82 : D1 cX9_lend 82 (.isub) 1 83 := ⟨by decide +kernel, rfl⟩
theorem dX9_lend_83 : D1 cX9_lend 83 (.iastore) 1 84 := ⟨by decide +kernel, rfl⟩
theorem dX9_lend_84 : D1 cX9_lend 84 (.aload_n 0) 1 85 := ⟨by decide +kernel, rfl⟩
theorem dX9_lend_85 : D1 cX9_lend 85 (.getfield 7) 3 88 := ⟨by decide +kernel, rfl⟩
theorem dX9_lend_88 : D1 cX9_lend 88 (.iload_n 2) 1 89 := ⟨by decide +kernel, rfl⟩
theorem dX9_lend_89 : D1 cX9_lend 89 (.iconst 3) 1 90 := ⟨by decide +kernel, rfl⟩
theorem dX9_lend_90 : D1 cX9_lend 90 (.invokestatic 53) 3 93 := ⟨by decide +kernel, rfl⟩
theorem dX9_lend_93 : D1 cX9_lend 93 (.dup2) 1 94 := ⟨by decide +kernel, rfl⟩
theorem dX9_lend_94 : D1 cX9_lend 94 (.iaload) 1 95 := ⟨by decide +kernel, rfl⟩
theorem dX9_lend_95 : D1 cX9_lend 95 (.iload_n 3) 1 96 := ⟨by decide +kernel, rfl⟩
theorem dX9_lend_96 : D1 cX9_lend 96 (.iadd) 1 97 := ⟨by decide +kernel, rfl⟩
theorem dX9_lend_97 : D1 cX9_lend 97 (.iastore) 1 98 := ⟨by decide +kernel, rfl⟩
theorem dX9_lend_98 : D1 cX9_lend 98 (.aload_n 0) 1 99 := ⟨by decide +kernel, rfl⟩
theorem dX9_lend_99 : D1 cX9_lend 99 (.iload_n 2) 1 100 := ⟨by decide +kernel, rfl⟩
theorem dX9_lend_100 : D1 cX9_lend 100 (.iconst 3) 1 101 := ⟨by decide +kernel, rfl⟩
theorem dX9_lend_101 : D1 cX9_lend 101 (.invokevirtual 68) 3 104 := ⟨by decide +kernel, rfl⟩
theorem dX9_lend_104 : D1 cX9_lend 104 (.ireturn) 1 105 := ⟨by decide +kernel, rfl⟩
theorem dX9_wayOf_0 : D1 cX9_wayOf 0 (.iload_n 1) 1 1 := ⟨by decide +kernel, rfl⟩
theorem dX9_wayOf_1 : D1 cX9_wayOf 1 (.iload_n 2) 1 2 := ⟨by decide +kernel, rfl⟩
theorem dX9_wayOf_2 : DJ cX9_wayOf 2 (.if_icmp .ge) 5 9 := ⟨7, by decide +kernel, rfl, by decide⟩
theorem dX9_wayOf_5 : D1 cX9_wayOf 5 (.iload_n 1) 1 6 := ⟨by decide +kernel, rfl⟩
theorem dX9_wayOf_6 : DJ cX9_wayOf 6 .goto 9 10 := ⟨4, by decide +kernel, rfl, by decide⟩
theorem dX9_wayOf_9 : D1 cX9_wayOf 9 (.iload_n 2) 1 10 := ⟨by decide +kernel, rfl⟩
theorem dX9_wayOf_10 : D1 cX9_wayOf 10 (.istore_n 3) 1 11 := ⟨by decide +kernel, rfl⟩
theorem dX9_wayOf_11 : D1 cX9_wayOf 11 (.iload_n 1) 1 12 := ⟨by decide +kernel, rfl⟩
theorem dX9_wayOf_12 : D1 cX9_wayOf 12 (.iload_n 2) 1 13 := ⟨by decide +kernel, rfl⟩
theorem dX9_wayOf_13 : DJ cX9_wayOf 13 (.if_icmp .ge) 16 20 := ⟨7, by decide +kernel, rfl, by decide⟩
theorem dX9_wayOf_16 : D1 cX9_wayOf 16 (.iload_n 2) 1 17 := ⟨by decide +kernel, rfl⟩
theorem dX9_wayOf_17 : DJ cX9_wayOf 17 .goto 20 21 := ⟨4, by decide +kernel, rfl, by decide⟩
theorem dX9_wayOf_20 : D1 cX9_wayOf 20 (.iload_n 1) 1 21 := ⟨by decide +kernel, rfl⟩
theorem dX9_wayOf_21 : D1 cX9_wayOf 21 (.istore 4) 2 23 := ⟨by decide +kernel, rfl⟩
theorem dX9_wayOf_23 : D1 cX9_wayOf 23 (.iconst 0) 1 24 := ⟨by decide +kernel, rfl⟩
theorem dX9_wayOf_24 : D1 cX9_wayOf 24 (.istore 5) 2 26 := ⟨by decide +kernel, rfl⟩
theorem dX9_wayOf_26 : D1 cX9_wayOf 26 (.iload_n 3) 1 27 := ⟨by decide +kernel, rfl⟩
theorem dX9_wayOf_27 : D1 cX9_wayOf 27 (.istore 6) 2 29 := ⟨by decide +kernel, rfl⟩
theorem dX9_wayOf_29 : D1 cX9_wayOf 29 (.iload 6) 2 31 := ⟨by decide +kernel, rfl⟩
theorem dX9_wayOf_31 : D1 cX9_wayOf 31 (.iload 4) 2 33 := ⟨by decide +kernel, rfl⟩
theorem dX9_wayOf_33 : DJ cX9_wayOf 33 (.if_icmp .ge) 36 64 := ⟨31, by decide +kernel, rfl, by decide⟩
theorem dX9_wayOf_36 : D1 cX9_wayOf 36 (.iload 5) 2 38 := ⟨by decide +kernel, rfl⟩
theorem dX9_wayOf_38 : D1 cX9_wayOf 38 (.aload_n 0) 1 39 := ⟨by decide +kernel, rfl⟩
theorem dX9_wayOf_39 : D1 cX9_wayOf 39 (.getfield 7) 3 42 := ⟨by decide +kernel, rfl⟩
theorem dX9_wayOf_42 : D1 cX9_wayOf 42 (.bipush 8) 2 44 := ⟨by decide +kernel, rfl⟩
theorem dX9_wayOf_44 : D1 cX9_wayOf 44 (.iload 6) 2 46 := ⟨by decide +kernel, rfl⟩
theorem dX9_wayOf_46 : D1 cX9_wayOf 46 (.iadd) 1 47 := ⟨by decide +kernel, rfl⟩
theorem dX9_wayOf_47 : D1 cX9_wayOf 47 (.iaload) 1 48 := ⟨by decide +kernel, rfl⟩
theorem dX9_wayOf_48 : D1 cX9_wayOf 48 (.aload_n 0) 1 49 := ⟨by decide +kernel, rfl⟩
theorem dX9_wayOf_49 : D1 cX9_wayOf 49 (.getfield 7) 3 52 := ⟨by decide +kernel, rfl⟩
theorem dX9_wayOf_52 : D1 cX9_wayOf 52 (.iconst 5) 1 53 := ⟨by decide +kernel, rfl⟩
theorem dX9_wayOf_53 : D1 cX9_wayOf 53 (.iaload) 1 54 := ⟨by decide +kernel, rfl⟩
theorem dX9_wayOf_54 : D1 cX9_wayOf 54 (.iadd) 1 55 := ⟨by decide +kernel, rfl⟩
theorem dX9_wayOf_55 : D1 cX9_wayOf 55 (.iadd) 1 56 := ⟨by decide +kernel, rfl⟩
theorem dX9_wayOf_56 : D1 cX9_wayOf 56 (.istore 5) 2 58 := ⟨by decide +kernel, rfl⟩
theorem dX9_wayOf_58 : D1 cX9_wayOf 58 (.iinc 6 1) 3 61 := ⟨by decide +kernel, rfl⟩
theorem dX9_wayOf_61 : DJ cX9_wayOf 61 .goto 64 29 := ⟨(-32), by decide +kernel, rfl, by decide⟩
theorem dX9_wayOf_64 : D1 cX9_wayOf 64 (.iload 5) 2 66 := ⟨by decide +kernel, rfl⟩
theorem dX9_wayOf_66 : D1 cX9_wayOf 66 (.ireturn) 1 67 := ⟨by decide +kernel, rfl⟩
theorem dX9_way_0 : D1 cX9_way 0 (.aload_n 0) 1 1 := ⟨by decide +kernel, rfl⟩
theorem dX9_way_1 : D1 cX9_way 1 (.iload_n 1) 1 2 := ⟨by decide +kernel, rfl⟩
theorem dX9_way_2 : D1 cX9_way 2 (.invokevirtual 71) 3 5 := ⟨by decide +kernel, rfl⟩
theorem dX9_way_5 : DJ cX9_way 5 (.ifCond .eq) 8 25 := ⟨20, by decide +kernel, rfl, by decide⟩
theorem dX9_way_8 : D1 cX9_way 8 (.aload_n 0) 1 9 := ⟨by decide +kernel, rfl⟩
theorem dX9_way_9 : D1 cX9_way 9 (.iload_n 2) 1 10 := ⟨by decide +kernel, rfl⟩
theorem dX9_way_10 : D1 cX9_way 10 (.invokevirtual 71) 3 13 := ⟨by decide +kernel, rfl⟩
theorem dX9_way_13 : DJ cX9_way 13 (.ifCond .eq) 16 25 := ⟨12, by decide +kernel, rfl, by decide⟩
theorem dX9_way_16 : D1 cX9_way 16 (.aload_n 0) 1 17 := ⟨by decide +kernel, rfl⟩
theorem dX9_way_17 : D1 cX9_way 17 (.iload_n 1) 1 18 := ⟨by decide +kernel, rfl⟩
theorem dX9_way_18 : D1 cX9_way 18 (.iload_n 2) 1 19 := ⟨by decide +kernel, rfl⟩
theorem dX9_way_19 : D1 cX9_way 19 (.invokevirtual 101) 3 22 := ⟨by decide +kernel, rfl⟩
theorem dX9_way_22 : DJ cX9_way 22 .goto 25 31 := ⟨9, by decide +kernel, rfl, by decide⟩
theorem dX9_way_25 : D1 cX9_way 25 (.aload_n 0) 1 26 := ⟨by decide +kernel, rfl⟩
theorem dX9_way_26 : D1 cX9_way 26 (.ldc 47) 2 28 := ⟨by decide +kernel, rfl⟩
theorem dX9_way_28 : D1 cX9_way 28 (.invokevirtual 59) 3 31 := ⟨by decide +kernel, rfl⟩
theorem dX9_way_31 : D1 cX9_way 31 (.ireturn) 1 32 := ⟨by decide +kernel, rfl⟩
theorem dX9_sends_0 : D1 cX9_sends 0 (.aload_n 0) 1 1 := ⟨by decide +kernel, rfl⟩
theorem dX9_sends_1 : D1 cX9_sends 1 (.getfield 7) 3 4 := ⟨by decide +kernel, rfl⟩
theorem dX9_sends_4 : D1 cX9_sends 4 (.iconst 3) 1 5 := ⟨by decide +kernel, rfl⟩
theorem dX9_sends_5 : D1 cX9_sends 5 (.aload_n 0) 1 6 := ⟨by decide +kernel, rfl⟩
theorem dX9_sends_6 : D1 cX9_sends 6 (.aload_n 0) 1 7 := ⟨by decide +kernel, rfl⟩
theorem dX9_sends_7 : D1 cX9_sends 7 (.getfield 7) 3 10 := ⟨by decide +kernel, rfl⟩
theorem dX9_sends_10 : D1 cX9_sends 10 (.iconst 2) 1 11 := ⟨by decide +kernel, rfl⟩
theorem dX9_sends_11 : D1 cX9_sends 11 (.iaload) 1 12 := ⟨by decide +kernel, rfl⟩
theorem dX9_sends_12 : D1 cX9_sends 12 (.iload_n 1) 1 13 := ⟨by decide +kernel, rfl⟩
theorem dX9_sends_13 : D1 cX9_sends 13 (.invokevirtual 101) 3 16 := ⟨by decide +kernel, rfl⟩
theorem dX9_sends_16 : D1 cX9_sends 16 (.iastore) 1 17 := ⟨by decide +kernel, rfl⟩
theorem dX9_sends_17 : D1 cX9_sends 17 (.aload_n 0) 1 18 := ⟨by decide +kernel, rfl⟩
theorem dX9_sends_18 : D1 cX9_sends 18 (.getfield 7) 3 21 := ⟨by decide +kernel, rfl⟩
theorem dX9_sends_21 : D1 cX9_sends 21 (.iconst 2) 1 22 := ⟨by decide +kernel, rfl⟩
theorem dX9_sends_22 : D1 cX9_sends 22 (.iload_n 1) 1 23 := ⟨by decide +kernel, rfl⟩
theorem dX9_sends_23 : D1 cX9_sends 23 (.iastore) 1 24 := ⟨by decide +kernel, rfl⟩
theorem dX9_sends_24 : D1 cX9_sends 24 (.return_) 1 25 := ⟨by decide +kernel, rfl⟩
theorem dX9_isGoing_0 : D1 cX9_isGoing 0 (.aload_n 0) 1 1 := ⟨by decide +kernel, rfl⟩
theorem dX9_isGoing_1 : D1 cX9_isGoing 1 (.getfield 7) 3 4 := ⟨by decide +kernel, rfl⟩
theorem dX9_isGoing_4 : D1 cX9_isGoing 4 (.iconst 3) 1 5 := ⟨by decide +kernel, rfl⟩
theorem dX9_isGoing_5 : D1 cX9_isGoing 5 (.iaload) 1 6 := ⟨by decide +kernel, rfl⟩
theorem dX9_isGoing_6 : DJ cX9_isGoing 6 (.ifCond .le) 9 13 := ⟨7, by decide +kernel, rfl, by decide⟩
theorem dX9_isGoing_9 : D1 cX9_isGoing 9 (.iconst 1) 1 10 := ⟨by decide +kernel, rfl⟩
theorem dX9_isGoing_10 : DJ cX9_isGoing 10 .goto 13 14 := ⟨4, by decide +kernel, rfl, by decide⟩
theorem dX9_isGoing_13 : D1 cX9_isGoing 13 (.iconst 0) 1 14 := ⟨by decide +kernel, rfl⟩
theorem dX9_isGoing_14 : D1 cX9_isGoing 14 (.ireturn) 1 15 := ⟨by decide +kernel, rfl⟩
theorem dX9_send_0 : D1 cX9_send 0 (.aload_n 0) 1 1 := ⟨by decide +kernel, rfl⟩
theorem dX9_send_1 : D1 cX9_send 1 (.iload_n 1) 1 2 := ⟨by decide +kernel, rfl⟩
theorem dX9_send_2 : D1 cX9_send 2 (.invokevirtual 71) 3 5 := ⟨by decide +kernel, rfl⟩
theorem dX9_send_5 : DJ cX9_send 5 (.ifCond .ne) 8 15 := ⟨10, by decide +kernel, rfl, by decide⟩
theorem dX9_send_8 : D1 cX9_send 8 (.aload_n 0) 1 9 := ⟨by decide +kernel, rfl⟩
theorem dX9_send_9 : D1 cX9_send 9 (.ldc 47) 2 11 := ⟨by decide +kernel, rfl⟩
theorem dX9_send_11 : D1 cX9_send 11 (.invokevirtual 59) 3 14 := ⟨by decide +kernel, rfl⟩
theorem dX9_send_14 : D1 cX9_send 14 (.ireturn) 1 15 := ⟨by decide +kernel, rfl⟩
theorem dX9_send_15 : D1 cX9_send 15 (.aload_n 0) 1 16 := ⟨by decide +kernel, rfl⟩
theorem dX9_send_16 : D1 cX9_send 16 (.invokevirtual 104) 3 19 := ⟨by decide +kernel, rfl⟩
theorem dX9_send_19 : DJ cX9_send 19 (.ifCond .eq) 22 29 := ⟨10, by decide +kernel, rfl, by decide⟩
theorem dX9_send_22 : D1 cX9_send 22 (.aload_n 0) 1 23 := ⟨by decide +kernel, rfl⟩
theorem dX9_send_23 : D1 cX9_send 23 (.ldc 100) 2 25 := ⟨by decide +kernel, rfl⟩
theorem dX9_send_25 : D1 cX9_send 25 (.invokevirtual 59) 3 28 := ⟨by decide +kernel, rfl⟩
theorem dX9_send_28 : D1 cX9_send 28 (.ireturn) 1 29 := ⟨by decide +kernel, rfl⟩
theorem dX9_send_29 : D1 cX9_send 29 (.aload_n 0) 1 30 := ⟨by decide +kernel, rfl⟩
theorem dX9_send_30 : D1 cX9_send 30 (.iload_n 1) 1 31 := ⟨by decide +kernel, rfl⟩
theorem dX9_send_31 : D1 cX9_send 31 (.invokevirtual 108) 3 34 := ⟨by decide +kernel, rfl⟩
theorem dX9_send_34 : D1 cX9_send 34 (.aload_n 0) 1 35 := ⟨by decide +kernel, rfl⟩
theorem dX9_send_35 : D1 cX9_send 35 (.getfield 7) 3 38 := ⟨by decide +kernel, rfl⟩
theorem dX9_send_38 : D1 cX9_send 38 (.iconst 3) 1 39 := ⟨by decide +kernel, rfl⟩
theorem dX9_send_39 : D1 cX9_send 39 (.iaload) 1 40 := ⟨by decide +kernel, rfl⟩
theorem dX9_send_40 : D1 cX9_send 40 (.ireturn) 1 41 := ⟨by decide +kernel, rfl⟩
theorem dX9_warms_0 : D1 cX9_warms 0 (.aload_n 0) 1 1 := ⟨by decide +kernel, rfl⟩
theorem dX9_warms_1 : D1 cX9_warms 1 (.iload_n 1) 1 2 := ⟨by decide +kernel, rfl⟩
theorem dX9_warms_2 : D1 cX9_warms 2 (.iconst 1) 1 3 := ⟨by decide +kernel, rfl⟩
theorem dX9_warms_3 : D1 cX9_warms 3 (.invokevirtual 68) 3 6 := ⟨by decide +kernel, rfl⟩
theorem dX9_warms_6 : D1 cX9_warms 6 (.iload_n 2) 1 7 := ⟨by decide +kernel, rfl⟩
theorem dX9_warms_7 : D1 cX9_warms 7 (.iadd) 1 8 := ⟨by decide +kernel, rfl⟩
theorem dX9_warms_8 : D1 cX9_warms 8 (.istore_n 3) 1 9 := ⟨by decide +kernel, rfl⟩
theorem dX9_warms_9 : D1 cX9_warms 9 (.aload_n 0) 1 10 := ⟨by decide +kernel, rfl⟩
theorem dX9_warms_10 : D1 cX9_warms 10 (.getfield 7) 3 13 := ⟨by decide +kernel, rfl⟩
theorem dX9_warms_13 : D1 cX9_warms 13 (.iload_n 1) 1 14 := ⟨by decide +kernel, rfl⟩
theorem dX9_warms_14 : D1 cX9_warms 14 (.iconst 1) 1 15 := ⟨by decide +kernel, rfl⟩
theorem dX9_warms_15 : D1 cX9_warms 15 (.invokestatic 53) 3 18 := ⟨by decide +kernel, rfl⟩
theorem dX9_warms_18 : D1 cX9_warms 18 (.iload_n 3) 1 19 := ⟨by decide +kernel, rfl⟩
theorem dX9_warms_19 : D1 cX9_warms 19 (.sipush 400) 3 22 := ⟨by decide +kernel, rfl⟩
theorem dX9_warms_22 : DJ cX9_warms 22 (.if_icmp .ge) 25 29 := ⟨7, by decide +kernel, rfl, by decide⟩
theorem dX9_warms_25 : D1 cX9_warms 25 (.iload_n 3) 1 26 := ⟨by decide +kernel, rfl⟩
theorem dX9_warms_26 : DJ cX9_warms 26 .goto 29 32 := ⟨6, by decide +kernel, rfl, by decide⟩
theorem dX9_warms_29 : D1 cX9_warms 29 (.sipush 400) 3 32 := ⟨by decide +kernel, rfl⟩
theorem dX9_warms_32 : D1 cX9_warms 32 (.iastore) 1 33 := ⟨by decide +kernel, rfl⟩
theorem dX9_warms_33 : D1 cX9_warms 33 (.return_) 1 34 := ⟨by decide +kernel, rfl⟩
theorem dX9_getsOf_0 : D1 cX9_getsOf 0 (.aload_n 0) 1 1 := ⟨by decide +kernel, rfl⟩
theorem dX9_getsOf_1 : D1 cX9_getsOf 1 (.iload_n 1) 1 2 := ⟨by decide +kernel, rfl⟩
theorem dX9_getsOf_2 : D1 cX9_getsOf 2 (.invokevirtual 71) 3 5 := ⟨by decide +kernel, rfl⟩
theorem dX9_getsOf_5 : DJ cX9_getsOf 5 (.ifCond .eq) 8 36 := ⟨31, by decide +kernel, rfl, by decide⟩
theorem dX9_getsOf_8 : D1 cX9_getsOf 8 (.aload_n 0) 1 9 := ⟨by decide +kernel, rfl⟩
theorem dX9_getsOf_9 : D1 cX9_getsOf 9 (.iload_n 1) 1 10 := ⟨by decide +kernel, rfl⟩
theorem dX9_getsOf_10 : D1 cX9_getsOf 10 (.iconst 0) 1 11 := ⟨by decide +kernel, rfl⟩
theorem dX9_getsOf_11 : D1 cX9_getsOf 11 (.invokevirtual 68) 3 14 := ⟨by decide +kernel, rfl⟩
theorem dX9_getsOf_14 : D1 cX9_getsOf 14 (.iconst 1) 1 15 := ⟨by decide +kernel, rfl⟩
theorem dX9_getsOf_15 : DJ cX9_getsOf 15 (.if_icmp .eq) 18 28 := ⟨13, by decide +kernel, rfl, by decide⟩
theorem dX9_getsOf_18 : D1 cX9_getsOf 18 (.aload_n 0) 1 19 := ⟨by decide +kernel, rfl⟩
theorem dX9_getsOf_19 : D1 cX9_getsOf 19 (.iload_n 1) 1 20 := ⟨by decide +kernel, rfl⟩
theorem dX9_getsOf_20 : D1 cX9_getsOf 20 (.iconst 0) 1 21 := ⟨by decide +kernel, rfl⟩
theorem dX9_getsOf_21 : D1 cX9_getsOf 21 (.invokevirtual 68) 3 24 := ⟨by decide +kernel, rfl⟩
theorem dX9_getsOf_24 : D1 cX9_getsOf 24 (.iconst 3) 1 25 := ⟨by decide +kernel, rfl⟩
theorem dX9_getsOf_25 : DJ cX9_getsOf 25 (.if_icmp .ne) 28 36 := ⟨11, by decide +kernel, rfl, by decide⟩
theorem dX9_getsOf_28 : D1 cX9_getsOf 28 (.aload_n 0) 1 29 := ⟨by decide +kernel, rfl⟩
theorem dX9_getsOf_29 : D1 cX9_getsOf 29 (.iload_n 1) 1 30 := ⟨by decide +kernel, rfl⟩
theorem dX9_getsOf_30 : D1 cX9_getsOf 30 (.iload_n 2) 1 31 := ⟨by decide +kernel, rfl⟩
theorem dX9_getsOf_31 : D1 cX9_getsOf 31 (.iconst 4) 1 32 := ⟨by decide +kernel, rfl⟩
theorem dX9_getsOf_32 : D1 cX9_getsOf 32 (.idiv) 1 33 := ⟨by decide +kernel, rfl⟩
theorem dX9_getsOf_33 : D1 cX9_getsOf 33 (.invokevirtual 112) 3 36 := ⟨by decide +kernel, rfl⟩
theorem dX9_getsOf_36 : D1 cX9_getsOf 36 (.return_) 1 37 := ⟨by decide +kernel, rfl⟩
theorem dX9_quarter_0 : D1 cX9_quarter 0 (.aload_n 0) 1 1 := ⟨by decide +kernel, rfl⟩
theorem dX9_quarter_1 : D1 cX9_quarter 1 (.getfield 7) 3 4 := ⟨by decide +kernel, rfl⟩
theorem dX9_quarter_4 : D1 cX9_quarter 4 (.iconst 2) 1 5 := ⟨by decide +kernel, rfl⟩
theorem dX9_quarter_5 : D1 cX9_quarter 5 (.iaload) 1 6 := ⟨by decide +kernel, rfl⟩
theorem dX9_quarter_6 : D1 cX9_quarter 6 (.istore_n 1) 1 7 := ⟨by decide +kernel, rfl⟩
theorem dX9_quarter_7 : D1 cX9_quarter 7 (.aload_n 0) 1 8 := ⟨by decide +kernel, rfl⟩
theorem dX9_quarter_8 : D1 cX9_quarter 8 (.iload_n 1) 1 9 := ⟨by decide +kernel, rfl⟩
theorem dX9_quarter_9 : D1 cX9_quarter 9 (.invokevirtual 71) 3 12 := ⟨by decide +kernel, rfl⟩
theorem dX9_quarter_12 : DJ cX9_quarter 12 (.ifCond .eq) 15 47 := ⟨35, by decide +kernel, rfl, by decide⟩
theorem dX9_quarter_15 : D1 cX9_quarter 15 (.aload_n 0) 1 16 := ⟨by decide +kernel, rfl⟩
theorem dX9_quarter_16 : D1 cX9_quarter 16 (.invokevirtual 104) 3 19 := ⟨by decide +kernel, rfl⟩
theorem dX9_quarter_19 : DJ cX9_quarter 19 (.ifCond .ne) 22 47 := ⟨28, by decide +kernel, rfl, by decide⟩
theorem dX9_quarter_22 : D1 cX9_quarter 22 (.aload_n 0) 1 23 := ⟨by decide +kernel, rfl⟩
theorem dX9_quarter_23 : D1 cX9_quarter 23 (.getfield 116) 3 26 := ⟨by decide +kernel, rfl⟩
theorem dX9_quarter_26 : DJ cX9_quarter 26 (.ifCond .ne) 29 47 := ⟨21, by decide +kernel, rfl, by decide⟩
theorem dX9_quarter_29 : D1 cX9_quarter 29 (.aload_n 0) 1 30 := ⟨by decide +kernel, rfl⟩
theorem dX9_quarter_30 : D1 cX9_quarter 30 (.iload_n 1) 1 31 := ⟨by decide +kernel, rfl⟩
theorem dX9_quarter_31 : D1 cX9_quarter 31 (.iconst 3) 1 32 := ⟨by decide +kernel, rfl⟩
theorem dX9_quarter_32 : D1 cX9_quarter 32 (.invokevirtual 68) 3 35 := ⟨by decide +kernel, rfl⟩
theorem dX9_quarter_35 : D1 cX9_quarter 35 (.aload_n 0) 1 36 := ⟨by decide +kernel, rfl⟩
theorem dX9_quarter_36 : D1 cX9_quarter 36 (.iload_n 1) 1 37 := ⟨by decide +kernel, rfl⟩
theorem dX9_quarter_37 : D1 cX9_quarter 37 (.invokevirtual 83) 3 40 := ⟨by decide +kernel, rfl⟩
theorem dX9_quarter_40 : DJ cX9_quarter 40 (.if_icmp .lt) 43 47 := ⟨7, by decide +kernel, rfl, by decide⟩
theorem dX9_quarter_43 : D1 cX9_quarter 43 (.iconst 1) 1 44 := ⟨by decide +kernel, rfl⟩
theorem dX9_quarter_44 : DJ cX9_quarter 44 .goto 47 48 := ⟨4, by decide +kernel, rfl, by decide⟩
theorem dX9_quarter_47 : D1 cX9_quarter 47 (.iconst 0) 1 48 := ⟨by decide +kernel, rfl⟩
theorem dX9_quarter_48 : D1 cX9_quarter 48 (.istore_n 2) 1 49 := ⟨by decide +kernel, rfl⟩
theorem dX9_quarter_49 : D1 cX9_quarter 49 (.iload_n 2) 1 50 := ⟨by decide +kernel, rfl⟩
theorem dX9_quarter_50 : DJ cX9_quarter 50 (.ifCond .eq) 53 113 := ⟨63, by decide +kernel, rfl, by decide⟩
theorem dX9_quarter_53 : D1 cX9_quarter 53 (.aload_n 0) 1 54 := ⟨by decide +kernel, rfl⟩
theorem dX9_quarter_54 : D1 cX9_quarter 54 (.iload_n 1) 1 55 := ⟨by decide +kernel, rfl⟩
theorem dX9_quarter_55 : D1 cX9_quarter 55 (.invokevirtual 77) 3 58 := ⟨by decide +kernel, rfl⟩
theorem dX9_quarter_58 : D1 cX9_quarter 58 (.istore_n 3) 1 59 := ⟨by decide +kernel, rfl⟩
theorem dX9_quarter_59 : D1 cX9_quarter 59 (.aload_n 0) 1 60 := ⟨by decide +kernel, rfl⟩
theorem dX9_quarter_60 : D1 cX9_quarter 60 (.getfield 7) 3 63 := ⟨by decide +kernel, rfl⟩
theorem dX9_quarter_63 : D1 cX9_quarter 63 (.iload_n 1) 1 64 := ⟨by decide +kernel, rfl⟩
theorem dX9_quarter_64 : D1 cX9_quarter 64 (.iconst 3) 1 65 := ⟨by decide +kernel, rfl⟩
theorem dX9_quarter_65 : D1 cX9_quarter 65 (.invokestatic 53) 3 68 := ⟨by decide +kernel, rfl⟩
theorem dX9_quarter_68 : D1 cX9_quarter 68 (.dup2) 1 69 := ⟨by decide +kernel, rfl⟩
theorem dX9_quarter_69 : D1 cX9_quarter 69 (.iaload) 1 70 := ⟨by decide +kernel, rfl⟩
theorem dX9_quarter_70 : D1 cX9_quarter 70 (.aload_n 0) 1 71 := ⟨by decide +kernel, rfl⟩
theorem dX9_quarter_71 : D1 cX9_quarter 71 (.iload_n 1) 1 72 := ⟨by decide +kernel, rfl⟩
theorem dX9_quarter_72 : D1 cX9_quarter 72 (.invokevirtual 83) 3 75 := ⟨by decide +kernel, rfl⟩
theorem dX9_quarter_75 : D1 cX9_quarter 75 (.isub) 1 76 := ⟨by decide +kernel, rfl⟩
theorem dX9_quarter_76 : D1 cX9_quarter 76 (.iastore) 1 77 := ⟨by decide +kernel, rfl⟩
theorem dX9_quarter_77 : D1 cX9_quarter 77 (.aload_n 0) 1 78 := ⟨by decide +kernel, rfl⟩
theorem dX9_quarter_78 : D1 cX9_quarter 78 (.getfield 7) 3 81 := ⟨by decide +kernel, rfl⟩
theorem dX9_quarter_81 : D1 cX9_quarter 81 (.iconst 4) 1 82 := ⟨by decide +kernel, rfl⟩
theorem dX9_quarter_82 : D1 cX9_quarter 82 (.dup2) 1 83 := ⟨by decide +kernel, rfl⟩
theorem dX9_quarter_83 : D1 cX9_quarter 83 (.iaload) 1 84 := ⟨by decide +kernel, rfl⟩
theorem dX9_quarter_84 : D1 cX9_quarter 84 (.aload_n 0) 1 85 := ⟨by decide +kernel, rfl⟩
theorem dX9_quarter_85 : D1 cX9_quarter 85 (.iload_n 1) 1 86 := ⟨by decide +kernel, rfl⟩
theorem dX9_quarter_86 : D1 cX9_quarter 86 (.invokevirtual 83) 3 89 := ⟨by decide +kernel, rfl⟩
theorem dX9_quarter_89 : D1 cX9_quarter 89 (.iadd) 1 90 := ⟨by decide +kernel, rfl⟩
theorem dX9_quarter_90 : D1 cX9_quarter 90 (.iastore) 1 91 := ⟨by decide +kernel, rfl⟩
theorem dX9_quarter_91 : D1 cX9_quarter 91 (.aload_n 0) 1 92 := ⟨by decide +kernel, rfl⟩
theorem dX9_quarter_92 : D1 cX9_quarter 92 (.iload_n 1) 1 93 := ⟨by decide +kernel, rfl⟩
theorem dX9_quarter_93 : D1 cX9_quarter 93 (.iload_n 3) 1 94 := ⟨by decide +kernel, rfl⟩
theorem dX9_quarter_94 : D1 cX9_quarter 94 (.invokevirtual 112) 3 97 := ⟨by decide +kernel, rfl⟩
theorem dX9_quarter_97 : D1 cX9_quarter 97 (.aload_n 0) 1 98 := ⟨by decide +kernel, rfl⟩
theorem dX9_quarter_98 : D1 cX9_quarter 98 (.iload_n 1) 1 99 := ⟨by decide +kernel, rfl⟩
theorem dX9_quarter_99 : D1 cX9_quarter 99 (.iconst 1) 1 100 := ⟨by decide +kernel, rfl⟩
theorem dX9_quarter_100 : D1 cX9_quarter 100 (.isub) 1 101 := ⟨by decide +kernel, rfl⟩
theorem dX9_quarter_101 : D1 cX9_quarter 101 (.iload_n 3) 1 102 := ⟨by decide +kernel, rfl⟩
theorem dX9_quarter_102 : D1 cX9_quarter 102 (.invokevirtual 120) 3 105 := ⟨by decide +kernel, rfl⟩
theorem dX9_quarter_105 : D1 cX9_quarter 105 (.aload_n 0) 1 106 := ⟨by decide +kernel, rfl⟩
theorem dX9_quarter_106 : D1 cX9_quarter 106 (.iload_n 1) 1 107 := ⟨by decide +kernel, rfl⟩
theorem dX9_quarter_107 : D1 cX9_quarter 107 (.iconst 1) 1 108 := ⟨by decide +kernel, rfl⟩
theorem dX9_quarter_108 : D1 cX9_quarter 108 (.iadd) 1 109 := ⟨by decide +kernel, rfl⟩
theorem dX9_quarter_109 : D1 cX9_quarter 109 (.iload_n 3) 1 110 := ⟨by decide +kernel, rfl⟩
theorem dX9_quarter_110 : D1 cX9_quarter 110 (.invokevirtual 120) 3 113 := ⟨by decide +kernel, rfl⟩
theorem dX9_quarter_113 : D1 cX9_quarter 113 (.iconst 0) 1 114 := ⟨by decide +kernel, rfl⟩
theorem dX9_quarter_114 : D1 cX9_quarter 114 (.istore_n 3) 1 115 := ⟨by decide +kernel, rfl⟩
theorem dX9_quarter_115 : D1 cX9_quarter 115 (.iload_n 3) 1 116 := ⟨by decide +kernel, rfl⟩
theorem dX9_quarter_116 : D1 cX9_quarter 116 (.aload_n 0) 1 117 := ⟨by decide +kernel, rfl⟩
theorem dX9_quarter_117 : D1 cX9_quarter 117 (.getfield 7) 3 120 := ⟨by decide +kernel, rfl⟩
theorem dX9_quarter_120 : D1 cX9_quarter 120 (.iconst 1) 1 121 := ⟨by decide +kernel, rfl⟩
theorem dX9_quarter_121 : D1 cX9_quarter 121 (.iaload) 1 122 := ⟨by decide +kernel, rfl⟩
theorem dX9_quarter_122 : DJ cX9_quarter 122 (.if_icmp .ge) 125 166 := ⟨44, by decide +kernel, rfl, by decide⟩
theorem dX9_quarter_125 : D1 cX9_quarter 125 (.aload_n 0) 1 126 := ⟨by decide +kernel, rfl⟩
theorem dX9_quarter_126 : D1 cX9_quarter 126 (.iload_n 3) 1 127 := ⟨by decide +kernel, rfl⟩
theorem dX9_quarter_127 : D1 cX9_quarter 127 (.iconst 1) 1 128 := ⟨by decide +kernel, rfl⟩
theorem dX9_quarter_128 : D1 cX9_quarter 128 (.invokevirtual 68) 3 131 := ⟨by decide +kernel, rfl⟩
theorem dX9_quarter_131 : D1 cX9_quarter 131 (.aload_n 0) 1 132 := ⟨by decide +kernel, rfl⟩
theorem dX9_quarter_132 : D1 cX9_quarter 132 (.iload_n 3) 1 133 := ⟨by decide +kernel, rfl⟩
theorem dX9_quarter_133 : D1 cX9_quarter 133 (.invokevirtual 80) 3 136 := ⟨by decide +kernel, rfl⟩
theorem dX9_quarter_136 : D1 cX9_quarter 136 (.isub) 1 137 := ⟨by decide +kernel, rfl⟩
theorem dX9_quarter_137 : D1 cX9_quarter 137 (.istore 4) 2 139 := ⟨by decide +kernel, rfl⟩
theorem dX9_quarter_139 : D1 cX9_quarter 139 (.aload_n 0) 1 140 := ⟨by decide +kernel, rfl⟩
theorem dX9_quarter_140 : D1 cX9_quarter 140 (.getfield 7) 3 143 := ⟨by decide +kernel, rfl⟩
theorem dX9_quarter_143 : D1 cX9_quarter 143 (.iload_n 3) 1 144 := ⟨by decide +kernel, rfl⟩
theorem dX9_quarter_144 : D1 cX9_quarter 144 (.iconst 1) 1 145 := ⟨by decide +kernel, rfl⟩
theorem dX9_quarter_145 : D1 cX9_quarter 145 (.invokestatic 53) 3 148 := ⟨by decide +kernel, rfl⟩
theorem dX9_quarter_148 : D1 cX9_quarter 148 (.iload 4) 2 150 := ⟨by decide +kernel, rfl⟩
theorem dX9_quarter_150 : DJ cX9_quarter 150 (.ifCond .ge) 153 157 := ⟨7, by decide +kernel, rfl, by decide⟩
theorem dX9_quarter_153 : D1 cX9_quarter 153 (.iconst 0) 1 154 := ⟨by decide +kernel, rfl⟩
theorem dX9_quarter_154 : DJ cX9_quarter 154 .goto 157 159 := ⟨5, by decide +kernel, rfl, by decide⟩
theorem dX9_quarter_157 : D1 cX9_quarter 157 (.iload 4) 2 159 := ⟨by decide +kernel, rfl⟩
theorem dX9_quarter_159 : D1 cX9_quarter 159 (.iastore) 1 160 := ⟨by decide +kernel, rfl⟩
theorem dX9_quarter_160 : D1 cX9_quarter 160 (.iinc 3 1) 3 163 := ⟨by decide +kernel, rfl⟩
theorem dX9_quarter_163 : DJ cX9_quarter 163 .goto 166 115 := ⟨(-48), by decide +kernel, rfl, by decide⟩
theorem dX9_quarter_166 : D1 cX9_quarter 166 (.iload_n 2) 1 167 := ⟨by decide +kernel, rfl⟩
theorem dX9_quarter_167 : DJ cX9_quarter 167 (.ifCond .eq) 170 196 := ⟨29, by decide +kernel, rfl, by decide⟩
theorem dX9_quarter_170 : D1 cX9_quarter 170 (.aload_n 0) 1 171 := ⟨by decide +kernel, rfl⟩
theorem dX9_quarter_171 : D1 cX9_quarter 171 (.iload_n 1) 1 172 := ⟨by decide +kernel, rfl⟩
theorem dX9_quarter_172 : D1 cX9_quarter 172 (.iconst 1) 1 173 := ⟨by decide +kernel, rfl⟩
theorem dX9_quarter_173 : D1 cX9_quarter 173 (.invokevirtual 68) 3 176 := ⟨by decide +kernel, rfl⟩
theorem dX9_quarter_176 : D1 cX9_quarter 176 (.sipush 180) 3 179 := ⟨by decide +kernel, rfl⟩
theorem dX9_quarter_179 : DJ cX9_quarter 179 (.if_icmp .lt) 182 196 := ⟨17, by decide +kernel, rfl, by decide⟩
theorem dX9_quarter_182 : D1 cX9_quarter 182 (.aload_n 0) 1 183 := ⟨by decide +kernel, rfl⟩
theorem dX9_quarter_183 : D1 cX9_quarter 183 (.getfield 7) 3 186 := ⟨by decide +kernel, rfl⟩
theorem dX9_quarter_186 : D1 cX9_quarter 186 (.iload_n 1) 1 187 := ⟨by decide +kernel, rfl⟩
theorem dX9_quarter_187 : D1 cX9_quarter 187 (.iconst 5) 1 188 := ⟨by decide +kernel, rfl⟩
theorem dX9_quarter_188 : D1 cX9_quarter 188 (.invokestatic 53) 3 191 := ⟨by decide +kernel, rfl⟩
theorem dX9_quarter_191 : D1 cX9_quarter 191 (.dup2) 1 192 := ⟨by decide +kernel, rfl⟩
theorem dX9_quarter_192 : D1 cX9_quarter 192 (.iaload) 1 193 := ⟨by decide +kernel, rfl⟩
theorem dX9_quarter_193 : D1 cX9_quarter 193 (.iconst 1) 1 194 := ⟨by decide +kernel, rfl⟩
theorem dX9_quarter_194 : D1 cX9_quarter 194 (.iadd) 1 195 := ⟨by decide +kernel, rfl⟩
theorem dX9_quarter_195 : D1 cX9_quarter 195 (.iastore) 1 196 := ⟨by decide +kernel, rfl⟩
theorem dX9_quarter_196 : D1 cX9_quarter 196 (.aload_n 0) 1 197 := ⟨by decide +kernel, rfl⟩
theorem dX9_quarter_197 : D1 cX9_quarter 197 (.getfield 7) 3 200 := ⟨by decide +kernel, rfl⟩
theorem dX9_quarter_200 : D1 cX9_quarter 200 (.iconst 3) 1 201 := ⟨by decide +kernel, rfl⟩
theorem dX9_quarter_201 : D1 cX9_quarter 201 (.dup2) 1 202 := ⟨by decide +kernel, rfl⟩
theorem dX9_quarter_202 : D1 cX9_quarter 202 (.iaload) 1 203 := ⟨by decide +kernel, rfl⟩
theorem dX9_quarter_203 : D1 cX9_quarter 203 (.aload_n 0) 1 204 := ⟨by decide +kernel, rfl⟩
theorem dX9_quarter_204 : D1 cX9_quarter 204 (.invokevirtual 104) 3 207 := ⟨by decide +kernel, rfl⟩
theorem dX9_quarter_207 : DJ cX9_quarter 207 (.ifCond .eq) 210 214 := ⟨7, by decide +kernel, rfl, by decide⟩
theorem dX9_quarter_210 : D1 cX9_quarter 210 (.iconst 1) 1 211 := ⟨by decide +kernel, rfl⟩
theorem dX9_quarter_211 : DJ cX9_quarter 211 .goto 214 215 := ⟨4, by decide +kernel, rfl, by decide⟩
theorem dX9_quarter_214 : D1 cX9_quarter 214 (.iconst 0) 1 215 := ⟨by decide +kernel, rfl⟩
theorem dX9_quarter_215 : D1 cX9_quarter 215 (.isub) 1 216 := ⟨by decide +kernel, rfl⟩
theorem dX9_quarter_216 : D1 cX9_quarter 216 (.iastore) 1 217 := ⟨by decide +kernel, rfl⟩
theorem dX9_quarter_217 : D1 cX9_quarter 217 (.aload_n 0) 1 218 := ⟨by decide +kernel, rfl⟩
theorem dX9_quarter_218 : D1 cX9_quarter 218 (.getfield 7) 3 221 := ⟨by decide +kernel, rfl⟩
theorem dX9_quarter_221 : D1 cX9_quarter 221 (.iconst 0) 1 222 := ⟨by decide +kernel, rfl⟩
theorem dX9_quarter_222 : D1 cX9_quarter 222 (.dup2) 1 223 := ⟨by decide +kernel, rfl⟩
theorem dX9_quarter_223 : D1 cX9_quarter 223 (.iaload) 1 224 := ⟨by decide +kernel, rfl⟩
theorem dX9_quarter_224 : D1 cX9_quarter 224 (.iconst 1) 1 225 := ⟨by decide +kernel, rfl⟩
theorem dX9_quarter_225 : D1 cX9_quarter 225 (.iadd) 1 226 := ⟨by decide +kernel, rfl⟩
theorem dX9_quarter_226 : D1 cX9_quarter 226 (.iastore) 1 227 := ⟨by decide +kernel, rfl⟩
theorem dX9_quarter_227 : D1 cX9_quarter 227 (.return_) 1 228 := ⟨by decide +kernel, rfl⟩
theorem dX9_quartersGo_0 : D1 cX9_quartersGo 0 (.iconst 0) 1 1 := ⟨by decide +kernel, rfl⟩
theorem dX9_quartersGo_1 : D1 cX9_quartersGo 1 (.istore_n 2) 1 2 := ⟨by decide +kernel, rfl⟩
theorem dX9_quartersGo_2 : D1 cX9_quartersGo 2 (.iload_n 2) 1 3 := ⟨by decide +kernel, rfl⟩
theorem dX9_quartersGo_3 : D1 cX9_quartersGo 3 (.iload_n 1) 1 4 := ⟨by decide +kernel, rfl⟩
theorem dX9_quartersGo_4 : DJ cX9_quartersGo 4 (.if_icmp .ge) 7 17 := ⟨13, by decide +kernel, rfl, by decide⟩
theorem dX9_quartersGo_7 : D1 cX9_quartersGo 7 (.aload_n 0) 1 8 := ⟨by decide +kernel, rfl⟩
theorem dX9_quartersGo_8 : D1 cX9_quartersGo 8 (.invokevirtual 123) 3 11 := ⟨by decide +kernel, rfl⟩
theorem dX9_quartersGo_11 : D1 cX9_quartersGo 11 (.iinc 2 1) 3 14 := ⟨by decide +kernel, rfl⟩
theorem dX9_quartersGo_14 : DJ cX9_quartersGo 14 .goto 17 2 := ⟨(-12), by decide +kernel, rfl, by decide⟩
theorem dX9_quartersGo_17 : D1 cX9_quartersGo 17 (.return_) 1 18 := ⟨by decide +kernel, rfl⟩
theorem dX9_isAbove_0 : D1 cX9_isAbove 0 (.aload_n 0) 1 1 := ⟨by decide +kernel, rfl⟩
theorem dX9_isAbove_1 : D1 cX9_isAbove 1 (.getfield 7) 3 4 := ⟨by decide +kernel, rfl⟩
theorem dX9_isAbove_4 : D1 cX9_isAbove 4 (.iconst 0) 1 5 := ⟨by decide +kernel, rfl⟩
theorem dX9_isAbove_5 : D1 cX9_isAbove 5 (.iaload) 1 6 := ⟨by decide +kernel, rfl⟩
theorem dX9_isAbove_6 : D1 cX9_isAbove 6 (.iload_n 1) 1 7 := ⟨by decide +kernel, rfl⟩
theorem dX9_isAbove_7 : DJ cX9_isAbove 7 (.if_icmp .le) 10 14 := ⟨7, by decide +kernel, rfl, by decide⟩
theorem dX9_isAbove_10 : D1 cX9_isAbove 10 (.iconst 1) 1 11 := ⟨by decide +kernel, rfl⟩
theorem dX9_isAbove_11 : DJ cX9_isAbove 11 .goto 14 15 := ⟨4, by decide +kernel, rfl, by decide⟩
theorem dX9_isAbove_14 : D1 cX9_isAbove 14 (.iconst 0) 1 15 := ⟨by decide +kernel, rfl⟩
theorem dX9_isAbove_15 : D1 cX9_isAbove 15 (.ireturn) 1 16 := ⟨by decide +kernel, rfl⟩
theorem dX9_isTooLate_0 : D1 cX9_isTooLate 0 (.aload_n 0) 1 1 := ⟨by decide +kernel, rfl⟩
theorem dX9_isTooLate_1 : D1 cX9_isTooLate 1 (.getfield 7) 3 4 := ⟨by decide +kernel, rfl⟩
theorem dX9_isTooLate_4 : D1 cX9_isTooLate 4 (.iconst 0) 1 5 := ⟨by decide +kernel, rfl⟩
theorem dX9_isTooLate_5 : D1 cX9_isTooLate 5 (.iaload) 1 6 := ⟨by decide +kernel, rfl⟩
theorem dX9_isTooLate_6 : D1 cX9_isTooLate 6 (.iload_n 1) 1 7 := ⟨by decide +kernel, rfl⟩
theorem dX9_isTooLate_7 : D1 cX9_isTooLate 7 (.iadd) 1 8 := ⟨by decide +kernel, rfl⟩
theorem dX9_isTooLate_8 : D1 cX9_isTooLate 8 (.sipush 9999) 3 11 := ⟨by decide +kernel, rfl⟩
theorem dX9_isTooLate_11 : DJ cX9_isTooLate 11 (.if_icmp .le) 14 18 := ⟨7, by decide +kernel, rfl, by decide⟩
theorem dX9_isTooLate_14 : D1 cX9_isTooLate 14 (.iconst 1) 1 15 := ⟨by decide +kernel, rfl⟩
theorem dX9_isTooLate_15 : DJ cX9_isTooLate 15 .goto 18 19 := ⟨4, by decide +kernel, rfl, by decide⟩
theorem dX9_isTooLate_18 : D1 cX9_isTooLate 18 (.iconst 0) 1 19 := ⟨by decide +kernel, rfl⟩
theorem dX9_isTooLate_19 : D1 cX9_isTooLate 19 (.ireturn) 1 20 := ⟨by decide +kernel, rfl⟩
theorem dX9_sumOf_0 : D1 cX9_sumOf 0 (.iconst 0) 1 1 := ⟨by decide +kernel, rfl⟩
theorem dX9_sumOf_1 : D1 cX9_sumOf 1 (.istore_n 2) 1 2 := ⟨by decide +kernel, rfl⟩
theorem dX9_sumOf_2 : D1 cX9_sumOf 2 (.iconst 0) 1 3 := ⟨by decide +kernel, rfl⟩
theorem dX9_sumOf_3 : D1 cX9_sumOf 3 (.istore_n 3) 1 4 := ⟨by decide +kernel, rfl⟩
theorem dX9_sumOf_4 : D1 cX9_sumOf 4 (.iload_n 3) 1 5 := ⟨by decide +kernel, rfl⟩
theorem dX9_sumOf_5 : D1 cX9_sumOf 5 (.aload_n 0) 1 6 := ⟨by decide +kernel, rfl⟩
theorem dX9_sumOf_6 : D1 cX9_sumOf 6 (.getfield 7) 3 9 := ⟨by decide +kernel, rfl⟩
theorem dX9_sumOf_9 : D1 cX9_sumOf 9 (.iconst 1) 1 10 := ⟨by decide +kernel, rfl⟩
theorem dX9_sumOf_10 : D1 cX9_sumOf 10 (.iaload) 1 11 := ⟨by decide +kernel, rfl⟩
theorem dX9_sumOf_11 : DJ cX9_sumOf 11 (.if_icmp .ge) 14 29 := ⟨18, by decide +kernel, rfl, by decide⟩
theorem dX9_sumOf_14 : D1 cX9_sumOf 14 (.iload_n 2) 1 15 := ⟨by decide +kernel, rfl⟩
theorem dX9_sumOf_15 : D1 cX9_sumOf 15 (.aload_n 0) 1 16 := ⟨by decide +kernel, rfl⟩
theorem dX9_sumOf_16 : D1 cX9_sumOf 16 (.iload_n 3) 1 17 := ⟨by decide +kernel, rfl⟩
theorem dX9_sumOf_17 : D1 cX9_sumOf 17 (.iload_n 1) 1 18 := ⟨by decide +kernel, rfl⟩
theorem dX9_sumOf_18 : D1 cX9_sumOf 18 (.invokevirtual 68) 3 21 := ⟨by decide +kernel, rfl⟩
theorem dX9_sumOf_21 : D1 cX9_sumOf 21 (.iadd) 1 22 := ⟨by decide +kernel, rfl⟩
theorem dX9_sumOf_22 : D1 cX9_sumOf 22 (.istore_n 2) 1 23 := ⟨by decide +kernel, rfl⟩
theorem dX9_sumOf_23 : D1 cX9_sumOf 23 (.iinc 3 1) 3 26 := ⟨by decide +kernel, rfl⟩
theorem dX9_sumOf_26 : DJ cX9_sumOf 26 .goto 29 4 := ⟨(-22), by decide +kernel, rfl, by decide⟩
theorem dX9_sumOf_29 : D1 cX9_sumOf 29 (.iload_n 2) 1 30 := ⟨by decide +kernel, rfl⟩
theorem dX9_sumOf_30 : D1 cX9_sumOf 30 (.ireturn) 1 31 := ⟨by decide +kernel, rfl⟩
theorem dX9_quarters_0 : D1 cX9_quarters 0 (.iload_n 1) 1 1 := ⟨by decide +kernel, rfl⟩
theorem dX9_quarters_1 : D1 cX9_quarters 1 (.i2l) 1 2 := ⟨by decide +kernel, rfl⟩
theorem dX9_quarters_2 : D1 cX9_quarters 2 (.lconst 1) 1 3 := ⟨by decide +kernel, rfl⟩
theorem dX9_quarters_3 : D1 cX9_quarters 3 (.ldc2_w 126) 3 6 := ⟨by decide +kernel, rfl⟩
theorem dX9_quarters_6 : D1 cX9_quarters 6 (.invokestatic 48) 3 9 := ⟨by decide +kernel, rfl⟩
theorem dX9_quarters_9 : DJ cX9_quarters 9 (.ifCond .ne) 12 19 := ⟨10, by decide +kernel, rfl, by decide⟩
theorem dX9_quarters_12 : D1 cX9_quarters 12 (.aload_n 0) 1 13 := ⟨by decide +kernel, rfl⟩
theorem dX9_quarters_13 : D1 cX9_quarters 13 (.ldc 47) 2 15 := ⟨by decide +kernel, rfl⟩
theorem dX9_quarters_15 : D1 cX9_quarters 15 (.invokevirtual 59) 3 18 := ⟨by decide +kernel, rfl⟩
theorem dX9_quarters_18 : D1 cX9_quarters 18 (.ireturn) 1 19 := ⟨by decide +kernel, rfl⟩
theorem dX9_quarters_19 : D1 cX9_quarters 19 (.aload_n 0) 1 20 := ⟨by decide +kernel, rfl⟩
theorem dX9_quarters_20 : D1 cX9_quarters 20 (.iload_n 1) 1 21 := ⟨by decide +kernel, rfl⟩
theorem dX9_quarters_21 : D1 cX9_quarters 21 (.invokevirtual 128) 3 24 := ⟨by decide +kernel, rfl⟩
theorem dX9_quarters_24 : DJ cX9_quarters 24 (.ifCond .eq) 27 34 := ⟨10, by decide +kernel, rfl, by decide⟩
theorem dX9_quarters_27 : D1 cX9_quarters 27 (.aload_n 0) 1 28 := ⟨by decide +kernel, rfl⟩
theorem dX9_quarters_28 : D1 cX9_quarters 28 (.ldc 100) 2 30 := ⟨by decide +kernel, rfl⟩
theorem dX9_quarters_30 : D1 cX9_quarters 30 (.invokevirtual 59) 3 33 := ⟨by decide +kernel, rfl⟩
theorem dX9_quarters_33 : D1 cX9_quarters 33 (.ireturn) 1 34 := ⟨by decide +kernel, rfl⟩
theorem dX9_quarters_34 : D1 cX9_quarters 34 (.aload_n 0) 1 35 := ⟨by decide +kernel, rfl⟩
theorem dX9_quarters_35 : D1 cX9_quarters 35 (.iconst 5) 1 36 := ⟨by decide +kernel, rfl⟩
theorem dX9_quarters_36 : D1 cX9_quarters 36 (.invokevirtual 131) 3 39 := ⟨by decide +kernel, rfl⟩
theorem dX9_quarters_39 : D1 cX9_quarters 39 (.istore_n 2) 1 40 := ⟨by decide +kernel, rfl⟩
theorem dX9_quarters_40 : D1 cX9_quarters 40 (.aload_n 0) 1 41 := ⟨by decide +kernel, rfl⟩
theorem dX9_quarters_41 : D1 cX9_quarters 41 (.iload_n 1) 1 42 := ⟨by decide +kernel, rfl⟩
theorem dX9_quarters_42 : D1 cX9_quarters 42 (.invokevirtual 134) 3 45 := ⟨by decide +kernel, rfl⟩
theorem dX9_quarters_45 : D1 cX9_quarters 45 (.aload_n 0) 1 46 := ⟨by decide +kernel, rfl⟩
theorem dX9_quarters_46 : D1 cX9_quarters 46 (.iconst 5) 1 47 := ⟨by decide +kernel, rfl⟩
theorem dX9_quarters_47 : D1 cX9_quarters 47 (.invokevirtual 131) 3 50 := ⟨by decide +kernel, rfl⟩
theorem dX9_quarters_50 : D1 cX9_quarters 50 (.iload_n 2) 1 51 := ⟨by decide +kernel, rfl⟩
theorem dX9_quarters_51 : D1 cX9_quarters 51 (.isub) 1 52 := ⟨by decide +kernel, rfl⟩
theorem dX9_quarters_52 : D1 cX9_quarters 52 (.ireturn) 1 53 := ⟨by decide +kernel, rfl⟩
theorem dX9_isCold_0 : D1 cX9_isCold 0 (.aload_n 0) 1 1 := ⟨by decide +kernel, rfl⟩
theorem dX9_isCold_1 : D1 cX9_isCold 1 (.iload_n 1) 1 2 := ⟨by decide +kernel, rfl⟩
theorem dX9_isCold_2 : D1 cX9_isCold 2 (.iconst 0) 1 3 := ⟨by decide +kernel, rfl⟩
theorem dX9_isCold_3 : D1 cX9_isCold 3 (.invokevirtual 68) 3 6 := ⟨by decide +kernel, rfl⟩
theorem dX9_isCold_6 : D1 cX9_isCold 6 (.iconst 4) 1 7 := ⟨by decide +kernel, rfl⟩
theorem dX9_isCold_7 : DJ cX9_isCold 7 (.if_icmp .eq) 10 29 := ⟨22, by decide +kernel, rfl, by decide⟩
theorem dX9_isCold_10 : D1 cX9_isCold 10 (.aload_n 0) 1 11 := ⟨by decide +kernel, rfl⟩
theorem dX9_isCold_11 : D1 cX9_isCold 11 (.iload_n 1) 1 12 := ⟨by decide +kernel, rfl⟩
theorem dX9_isCold_12 : D1 cX9_isCold 12 (.iconst 1) 1 13 := ⟨by decide +kernel, rfl⟩
theorem dX9_isCold_13 : D1 cX9_isCold 13 (.invokevirtual 68) 3 16 := ⟨by decide +kernel, rfl⟩
theorem dX9_isCold_16 : D1 cX9_isCold 16 (.aload_n 0) 1 17 := ⟨by decide +kernel, rfl⟩
theorem dX9_isCold_17 : D1 cX9_isCold 17 (.iload_n 1) 1 18 := ⟨by decide +kernel, rfl⟩
theorem dX9_isCold_18 : D1 cX9_isCold 18 (.iconst 4) 1 19 := ⟨by decide +kernel, rfl⟩
theorem dX9_isCold_19 : D1 cX9_isCold 19 (.invokevirtual 68) 3 22 := ⟨by decide +kernel, rfl⟩
theorem dX9_isCold_22 : DJ cX9_isCold 22 (.if_icmp .ge) 25 29 := ⟨7, by decide +kernel, rfl, by decide⟩
theorem dX9_isCold_25 : D1 cX9_isCold 25 (.iconst 1) 1 26 := ⟨by decide +kernel, rfl⟩
theorem dX9_isCold_26 : DJ cX9_isCold 26 .goto 29 30 := ⟨4, by decide +kernel, rfl, by decide⟩
theorem dX9_isCold_29 : D1 cX9_isCold 29 (.iconst 0) 1 30 := ⟨by decide +kernel, rfl⟩
theorem dX9_isCold_30 : D1 cX9_isCold 30 (.ireturn) 1 31 := ⟨by decide +kernel, rfl⟩
theorem dX9_coldSet_0 : D1 cX9_coldSet 0 (.iconst 0) 1 1 := ⟨by decide +kernel, rfl⟩
theorem dX9_coldSet_1 : D1 cX9_coldSet 1 (.istore_n 1) 1 2 := ⟨by decide +kernel, rfl⟩
theorem dX9_coldSet_2 : D1 cX9_coldSet 2 (.iconst 0) 1 3 := ⟨by decide +kernel, rfl⟩
theorem dX9_coldSet_3 : D1 cX9_coldSet 3 (.istore_n 2) 1 4 := ⟨by decide +kernel, rfl⟩
theorem dX9_coldSet_4 : D1 cX9_coldSet 4 (.iload_n 2) 1 5 := ⟨by decide +kernel, rfl⟩
theorem dX9_coldSet_5 : D1 cX9_coldSet 5 (.aload_n 0) 1 6 := ⟨by decide +kernel, rfl⟩
theorem dX9_coldSet_6 : D1 cX9_coldSet 6 (.getfield 7) 3 9 := ⟨by decide +kernel, rfl⟩
theorem dX9_coldSet_9 : D1 cX9_coldSet 9 (.iconst 1) 1 10 := ⟨by decide +kernel, rfl⟩
theorem dX9_coldSet_10 : D1 cX9_coldSet 10 (.iaload) 1 11 := ⟨by decide +kernel, rfl⟩
theorem dX9_coldSet_11 : DJ cX9_coldSet 11 (.if_icmp .ge) 14 38 := ⟨27, by decide +kernel, rfl, by decide⟩
theorem dX9_coldSet_14 : D1 cX9_coldSet 14 (.iload_n 1) 1 15 := ⟨by decide +kernel, rfl⟩
theorem dX9_coldSet_15 : D1 cX9_coldSet 15 (.aload_n 0) 1 16 := ⟨by decide +kernel, rfl⟩
theorem dX9_coldSet_16 : D1 cX9_coldSet 16 (.iload_n 2) 1 17 := ⟨by decide +kernel, rfl⟩
theorem dX9_coldSet_17 : D1 cX9_coldSet 17 (.invokevirtual 137) 3 20 := ⟨by decide +kernel, rfl⟩
theorem dX9_coldSet_20 : DJ cX9_coldSet 20 (.ifCond .eq) 23 29 := ⟨9, by decide +kernel, rfl, by decide⟩
theorem dX9_coldSet_23 : D1 cX9_coldSet 23 (.iconst 1) 1 24 := ⟨by decide +kernel, rfl⟩
theorem dX9_coldSet_24 : D1 cX9_coldSet 24 (.iload_n 2) 1 25 := ⟨by decide +kernel, rfl⟩
theorem dX9_coldSet_25 : D1 cX9_coldSet 25 (.ishl) 1 26 := ⟨by decide +kernel, rfl⟩
theorem dX9_coldSet_26 : DJ cX9_coldSet 26 .goto 29 30 := ⟨4, by decide +kernel, rfl, by decide⟩
theorem dX9_coldSet_29 : D1 cX9_coldSet 29 (.iconst 0) 1 30 := ⟨by decide +kernel, rfl⟩
theorem dX9_coldSet_30 : D1 cX9_coldSet 30 (.ior) 1 31 := ⟨by decide +kernel, rfl⟩
theorem dX9_coldSet_31 : D1 cX9_coldSet 31 (.istore_n 1) 1 32 := ⟨by decide +kernel, rfl⟩
theorem dX9_coldSet_32 : D1 cX9_coldSet 32 (.iinc 2 1) 3 35 := ⟨by decide +kernel, rfl⟩
theorem dX9_coldSet_35 : DJ cX9_coldSet 35 .goto 38 4 := ⟨(-31), by decide +kernel, rfl, by decide⟩
theorem dX9_coldSet_38 : D1 cX9_coldSet 38 (.iload_n 1) 1 39 := ⟨by decide +kernel, rfl⟩
theorem dX9_coldSet_39 : D1 cX9_coldSet 39 (.ireturn) 1 40 := ⟨by decide +kernel, rfl⟩
theorem dX9_now_0 : D1 cX9_now 0 (.iload_n 1) 1 1 := ⟨by decide +kernel, rfl⟩
theorem dX9_now_1 : decode cX9_now 1 = .ok (.tableswitch 91 0 6 #[43, 50, 57, 64, 69, 76, 83], 43) := by decide +kernel
theorem dX9_now_44 : D1 cX9_now 44 (.aload_n 0) 1 45 := ⟨by decide +kernel, rfl⟩
theorem dX9_now_45 : D1 cX9_now 45 (.getfield 7) 3 48 := ⟨by decide +kernel, rfl⟩
theorem dX9_now_48 : D1 cX9_now 48 (.iconst 0) 1 49 := ⟨by decide +kernel, rfl⟩
theorem dX9_now_49 : D1 cX9_now 49 (.iaload) 1 50 := ⟨by decide +kernel, rfl⟩
theorem dX9_now_50 : D1 cX9_now 50 (.ireturn) 1 51 := ⟨by decide +kernel, rfl⟩
theorem dX9_now_51 : D1 cX9_now 51 (.aload_n 0) 1 52 := ⟨by decide +kernel, rfl⟩
theorem dX9_now_52 : D1 cX9_now 52 (.getfield 7) 3 55 := ⟨by decide +kernel, rfl⟩
theorem dX9_now_55 : D1 cX9_now 55 (.iconst 2) 1 56 := ⟨by decide +kernel, rfl⟩
theorem dX9_now_56 : D1 cX9_now 56 (.iaload) 1 57 := ⟨by decide +kernel, rfl⟩
theorem dX9_now_57 : D1 cX9_now 57 (.ireturn) 1 58 := ⟨by decide +kernel, rfl⟩
theorem dX9_now_58 : D1 cX9_now 58 (.aload_n 0) 1 59 := ⟨by decide +kernel, rfl⟩
theorem dX9_now_59 : D1 cX9_now 59 (.getfield 7) 3 62 := ⟨by decide +kernel, rfl⟩
theorem dX9_now_62 : D1 cX9_now 62 (.iconst 3) 1 63 := ⟨by decide +kernel, rfl⟩
theorem dX9_now_63 : D1 cX9_now 63 (.iaload) 1 64 := ⟨by decide +kernel, rfl⟩
theorem dX9_now_64 : D1 cX9_now 64 (.ireturn) 1 65 := ⟨by decide +kernel, rfl⟩
theorem dX9_now_65 : D1 cX9_now 65 (.aload_n 0) 1 66 := ⟨by decide +kernel, rfl⟩
theorem dX9_now_66 : D1 cX9_now 66 (.invokevirtual 140) 3 69 := ⟨by decide +kernel, rfl⟩
theorem dX9_now_69 : D1 cX9_now 69 (.ireturn) 1 70 := ⟨by decide +kernel, rfl⟩
theorem dX9_now_70 : D1 cX9_now 70 (.aload_n 0) 1 71 := ⟨by decide +kernel, rfl⟩
theorem dX9_now_71 : D1 cX9_now 71 (.getfield 7) 3 74 := ⟨by decide +kernel, rfl⟩
theorem dX9_now_74 : D1 cX9_now 74 (.iconst 4) 1 75 := ⟨by decide +kernel, rfl⟩
theorem dX9_now_75 : D1 cX9_now 75 (.iaload) 1 76 := ⟨by decide +kernel, rfl⟩
theorem dX9_now_76 : D1 cX9_now 76 (.ireturn) 1 77 := ⟨by decide +kernel, rfl⟩
theorem dX9_now_77 : D1 cX9_now 77 (.aload_n 0) 1 78 := ⟨by decide +kernel, rfl⟩
theorem dX9_now_78 : D1 cX9_now 78 (.getfield 7) 3 81 := ⟨by decide +kernel, rfl⟩
theorem dX9_now_81 : D1 cX9_now 81 (.iconst 5) 1 82 := ⟨by decide +kernel, rfl⟩
theorem dX9_now_82 : D1 cX9_now 82 (.iaload) 1 83 := ⟨by decide +kernel, rfl⟩
theorem dX9_now_83 : D1 cX9_now 83 (.ireturn) 1 84 := ⟨by decide +kernel, rfl⟩
theorem dX9_now_84 : D1 cX9_now 84 (.aload_n 0) 1 85 := ⟨by decide +kernel, rfl⟩
theorem dX9_now_85 : D1 cX9_now 85 (.getfield 7) 3 88 := ⟨by decide +kernel, rfl⟩
theorem dX9_now_88 : D1 cX9_now 88 (.bipush 6) 2 90 := ⟨by decide +kernel, rfl⟩
theorem dX9_now_90 : D1 cX9_now 90 (.iaload) 1 91 := ⟨by decide +kernel, rfl⟩
theorem dX9_now_91 : D1 cX9_now 91 (.ireturn) 1 92 := ⟨by decide +kernel, rfl⟩
theorem dX9_now_92 : D1 cX9_now 92 (.aload_n 0) 1 93 := ⟨by decide +kernel, rfl⟩
theorem dX9_now_93 : D1 cX9_now 93 (.ldc 47) 2 95 := ⟨by decide +kernel, rfl⟩
theorem dX9_now_95 : D1 cX9_now 95 (.invokevirtual 59) 3 98 := ⟨by decide +kernel, rfl⟩
theorem dX9_now_98 : D1 cX9_now 98 (.ireturn) 1 99 := ⟨by decide +kernel, rfl⟩
theorem dX9_leastWarmth_0 : D1 cX9_leastWarmth 0 (.sipush 400) 3 3 := ⟨by decide +kernel, rfl⟩
theorem dX9_leastWarmth_3 : D1 cX9_leastWarmth 3 (.istore_n 1) 1 4 := ⟨by decide +kernel, rfl⟩
theorem dX9_leastWarmth_4 : D1 cX9_leastWarmth 4 (.iconst 0) 1 5 := ⟨by decide +kernel, rfl⟩
theorem dX9_leastWarmth_5 : D1 cX9_leastWarmth 5 (.istore_n 2) 1 6 := ⟨by decide +kernel, rfl⟩
theorem dX9_leastWarmth_6 : D1 cX9_leastWarmth 6 (.iload_n 2) 1 7 := ⟨by decide +kernel, rfl⟩
theorem dX9_leastWarmth_7 : D1 cX9_leastWarmth 7 (.aload_n 0) 1 8 := ⟨by decide +kernel, rfl⟩
theorem dX9_leastWarmth_8 : D1 cX9_leastWarmth 8 (.getfield 7) 3 11 := ⟨by decide +kernel, rfl⟩
theorem dX9_leastWarmth_11 : D1 cX9_leastWarmth 11 (.iconst 1) 1 12 := ⟨by decide +kernel, rfl⟩
theorem dX9_leastWarmth_12 : D1 cX9_leastWarmth 12 (.iaload) 1 13 := ⟨by decide +kernel, rfl⟩
theorem dX9_leastWarmth_13 : DJ cX9_leastWarmth 13 (.if_icmp .ge) 16 53 := ⟨40, by decide +kernel, rfl, by decide⟩
theorem dX9_leastWarmth_16 : D1 cX9_leastWarmth 16 (.aload_n 0) 1 17 := ⟨by decide +kernel, rfl⟩
theorem dX9_leastWarmth_17 : D1 cX9_leastWarmth 17 (.iload_n 2) 1 18 := ⟨by decide +kernel, rfl⟩
theorem dX9_leastWarmth_18 : D1 cX9_leastWarmth 18 (.iconst 0) 1 19 := ⟨by decide +kernel, rfl⟩
theorem dX9_leastWarmth_19 : D1 cX9_leastWarmth 19 (.invokevirtual 68) 3 22 := ⟨by decide +kernel, rfl⟩
theorem dX9_leastWarmth_22 : D1 cX9_leastWarmth 22 (.iconst 4) 1 23 := ⟨by decide +kernel, rfl⟩
theorem dX9_leastWarmth_23 : DJ cX9_leastWarmth 23 (.if_icmp .eq) 26 45 := ⟨22, by decide +kernel, rfl, by decide⟩
theorem dX9_leastWarmth_26 : D1 cX9_leastWarmth 26 (.aload_n 0) 1 27 := ⟨by decide +kernel, rfl⟩
theorem dX9_leastWarmth_27 : D1 cX9_leastWarmth 27 (.iload_n 2) 1 28 := ⟨by decide +kernel, rfl⟩
theorem dX9_leastWarmth_28 : D1 cX9_leastWarmth 28 (.iconst 1) 1 29 := ⟨by decide +kernel, rfl⟩
theorem dX9_leastWarmth_29 : D1 cX9_leastWarmth 29 (.invokevirtual 68) 3 32 := ⟨by decide +kernel, rfl⟩
theorem dX9_leastWarmth_32 : D1 cX9_leastWarmth 32 (.iload_n 1) 1 33 := ⟨by decide +kernel, rfl⟩
theorem dX9_leastWarmth_33 : DJ cX9_leastWarmth 33 (.if_icmp .ge) 36 45 := ⟨12, by decide +kernel, rfl, by decide⟩
theorem dX9_leastWarmth_36 : D1 cX9_leastWarmth 36 (.aload_n 0) 1 37 := ⟨by decide +kernel, rfl⟩
theorem dX9_leastWarmth_37 : D1 cX9_leastWarmth 37 (.iload_n 2) 1 38 := ⟨by decide +kernel, rfl⟩
theorem dX9_leastWarmth_38 : D1 cX9_leastWarmth 38 (.iconst 1) 1 39 := ⟨by decide +kernel, rfl⟩
theorem dX9_leastWarmth_39 : D1 cX9_leastWarmth 39 (.invokevirtual 68) 3 42 := ⟨by decide +kernel, rfl⟩
theorem dX9_leastWarmth_42 : DJ cX9_leastWarmth 42 .goto 45 46 := ⟨4, by decide +kernel, rfl, by decide⟩
theorem dX9_leastWarmth_45 : D1 cX9_leastWarmth 45 (.iload_n 1) 1 46 := ⟨by decide +kernel, rfl⟩
theorem dX9_leastWarmth_46 : D1 cX9_leastWarmth 46 (.istore_n 1) 1 47 := ⟨by decide +kernel, rfl⟩
theorem dX9_leastWarmth_47 : D1 cX9_leastWarmth 47 (.iinc 2 1) 3 50 := ⟨by decide +kernel, rfl⟩
theorem dX9_leastWarmth_50 : DJ cX9_leastWarmth 50 .goto 53 6 := ⟨(-44), by decide +kernel, rfl, by decide⟩
theorem dX9_leastWarmth_53 : D1 cX9_leastWarmth 53 (.iload_n 1) 1 54 := ⟨by decide +kernel, rfl⟩
theorem dX9_leastWarmth_54 : D1 cX9_leastWarmth 54 (.ireturn) 1 55 := ⟨by decide +kernel, rfl⟩
theorem dX9_ahead_0 : D1 cX9_ahead 0 (.iload_n 1) 1 1 := ⟨by decide +kernel, rfl⟩
theorem dX9_ahead_1 : D1 cX9_ahead 1 (.i2l) 1 2 := ⟨by decide +kernel, rfl⟩
theorem dX9_ahead_2 : D1 cX9_ahead 2 (.lconst 0) 1 3 := ⟨by decide +kernel, rfl⟩
theorem dX9_ahead_3 : D1 cX9_ahead 3 (.ldc2_w 126) 3 6 := ⟨by decide +kernel, rfl⟩
theorem dX9_ahead_6 : D1 cX9_ahead 6 (.invokestatic 48) 3 9 := ⟨by decide +kernel, rfl⟩
theorem dX9_ahead_9 : DJ cX9_ahead 9 (.ifCond .eq) 12 30 := ⟨21, by decide +kernel, rfl, by decide⟩
theorem dX9_ahead_12 : D1 cX9_ahead 12 (.iload_n 2) 1 13 := ⟨by decide +kernel, rfl⟩
theorem dX9_ahead_13 : D1 cX9_ahead 13 (.i2l) 1 14 := ⟨by decide +kernel, rfl⟩
theorem dX9_ahead_14 : D1 cX9_ahead 14 (.lconst 0) 1 15 := ⟨by decide +kernel, rfl⟩
theorem dX9_ahead_15 : D1 cX9_ahead 15 (.iconst 3) 1 16 := ⟨by decide +kernel, rfl⟩
theorem dX9_ahead_16 : D1 cX9_ahead 16 (.aload_n 0) 1 17 := ⟨by decide +kernel, rfl⟩
theorem dX9_ahead_17 : D1 cX9_ahead 17 (.getfield 7) 3 20 := ⟨by decide +kernel, rfl⟩
theorem dX9_ahead_20 : D1 cX9_ahead 20 (.iconst 1) 1 21 := ⟨by decide +kernel, rfl⟩
theorem dX9_ahead_21 : D1 cX9_ahead 21 (.iaload) 1 22 := ⟨by decide +kernel, rfl⟩
theorem dX9_ahead_22 : D1 cX9_ahead 22 (.iadd) 1 23 := ⟨by decide +kernel, rfl⟩
theorem dX9_ahead_23 : D1 cX9_ahead 23 (.i2l) 1 24 := ⟨by decide +kernel, rfl⟩
theorem dX9_ahead_24 : D1 cX9_ahead 24 (.invokestatic 48) 3 27 := ⟨by decide +kernel, rfl⟩
theorem dX9_ahead_27 : DJ cX9_ahead 27 (.ifCond .ne) 30 37 := ⟨10, by decide +kernel, rfl, by decide⟩
theorem dX9_ahead_30 : D1 cX9_ahead 30 (.aload_n 0) 1 31 := ⟨by decide +kernel, rfl⟩
theorem dX9_ahead_31 : D1 cX9_ahead 31 (.ldc 47) 2 33 := ⟨by decide +kernel, rfl⟩
theorem dX9_ahead_33 : D1 cX9_ahead 33 (.invokevirtual 59) 3 36 := ⟨by decide +kernel, rfl⟩
theorem dX9_ahead_36 : D1 cX9_ahead 36 (.ireturn) 1 37 := ⟨by decide +kernel, rfl⟩
theorem dX9_ahead_37 : D1 cX9_ahead 37 (.aload_n 0) 1 38 := ⟨by decide +kernel, rfl⟩
theorem dX9_ahead_38 : D1 cX9_ahead 38 (.iload_n 1) 1 39 := ⟨by decide +kernel, rfl⟩
theorem dX9_ahead_39 : D1 cX9_ahead 39 (.invokevirtual 128) 3 42 := ⟨by decide +kernel, rfl⟩
theorem dX9_ahead_42 : DJ cX9_ahead 42 (.ifCond .eq) 45 52 := ⟨10, by decide +kernel, rfl, by decide⟩
theorem dX9_ahead_45 : D1 cX9_ahead 45 (.aload_n 0) 1 46 := ⟨by decide +kernel, rfl⟩
theorem dX9_ahead_46 : D1 cX9_ahead 46 (.ldc 100) 2 48 := ⟨by decide +kernel, rfl⟩
theorem dX9_ahead_48 : D1 cX9_ahead 48 (.invokevirtual 59) 3 51 := ⟨by decide +kernel, rfl⟩
theorem dX9_ahead_51 : D1 cX9_ahead 51 (.ireturn) 1 52 := ⟨by decide +kernel, rfl⟩
theorem dX9_ahead_52 : D1 cX9_ahead 52 (.aload_n 0) 1 53 := ⟨by decide +kernel, rfl⟩
theorem dX9_ahead_53 : D1 cX9_ahead 53 (.invokevirtual 144) 3 56 := ⟨by decide +kernel, rfl⟩
theorem dX9_ahead_56 : D1 cX9_ahead 56 (.aload_n 0) 1 57 := ⟨by decide +kernel, rfl⟩
theorem dX9_ahead_57 : D1 cX9_ahead 57 (.iconst 5) 1 58 := ⟨by decide +kernel, rfl⟩
theorem dX9_ahead_58 : D1 cX9_ahead 58 (.invokevirtual 131) 3 61 := ⟨by decide +kernel, rfl⟩
theorem dX9_ahead_61 : D1 cX9_ahead 61 (.istore_n 3) 1 62 := ⟨by decide +kernel, rfl⟩
theorem dX9_ahead_62 : D1 cX9_ahead 62 (.aload_n 0) 1 63 := ⟨by decide +kernel, rfl⟩
theorem dX9_ahead_63 : D1 cX9_ahead 63 (.iload_n 1) 1 64 := ⟨by decide +kernel, rfl⟩
theorem dX9_ahead_64 : D1 cX9_ahead 64 (.invokevirtual 134) 3 67 := ⟨by decide +kernel, rfl⟩
theorem dX9_ahead_67 : D1 cX9_ahead 67 (.iload_n 2) 1 68 := ⟨by decide +kernel, rfl⟩
theorem dX9_ahead_68 : DJ cX9_ahead 68 (.ifCond .ne) 71 78 := ⟨10, by decide +kernel, rfl, by decide⟩
theorem dX9_ahead_71 : D1 cX9_ahead 71 (.aload_n 0) 1 72 := ⟨by decide +kernel, rfl⟩
theorem dX9_ahead_72 : D1 cX9_ahead 72 (.invokevirtual 140) 3 75 := ⟨by decide +kernel, rfl⟩
theorem dX9_ahead_75 : DJ cX9_ahead 75 .goto 78 134 := ⟨59, by decide +kernel, rfl, by decide⟩
theorem dX9_ahead_78 : D1 cX9_ahead 78 (.iload_n 2) 1 79 := ⟨by decide +kernel, rfl⟩
theorem dX9_ahead_79 : D1 cX9_ahead 79 (.iconst 1) 1 80 := ⟨by decide +kernel, rfl⟩
theorem dX9_ahead_80 : DJ cX9_ahead 80 (.if_icmp .ne) 83 90 := ⟨10, by decide +kernel, rfl, by decide⟩
theorem dX9_ahead_83 : D1 cX9_ahead 83 (.aload_n 0) 1 84 := ⟨by decide +kernel, rfl⟩
theorem dX9_ahead_84 : D1 cX9_ahead 84 (.invokevirtual 147) 3 87 := ⟨by decide +kernel, rfl⟩
theorem dX9_ahead_87 : DJ cX9_ahead 87 .goto 90 134 := ⟨47, by decide +kernel, rfl, by decide⟩
theorem dX9_ahead_90 : D1 cX9_ahead 90 (.iload_n 2) 1 91 := ⟨by decide +kernel, rfl⟩
theorem dX9_ahead_91 : D1 cX9_ahead 91 (.iconst 2) 1 92 := ⟨by decide +kernel, rfl⟩
theorem dX9_ahead_92 : DJ cX9_ahead 92 (.if_icmp .ne) 95 111 := ⟨19, by decide +kernel, rfl, by decide⟩
theorem dX9_ahead_95 : D1 cX9_ahead 95 (.aload_n 0) 1 96 := ⟨by decide +kernel, rfl⟩
theorem dX9_ahead_96 : D1 cX9_ahead 96 (.getfield 7) 3 99 := ⟨by decide +kernel, rfl⟩
theorem dX9_ahead_99 : D1 cX9_ahead 99 (.iconst 4) 1 100 := ⟨by decide +kernel, rfl⟩
theorem dX9_ahead_100 : D1 cX9_ahead 100 (.iaload) 1 101 := ⟨by decide +kernel, rfl⟩
theorem dX9_ahead_101 : D1 cX9_ahead 101 (.aload_n 0) 1 102 := ⟨by decide +kernel, rfl⟩
theorem dX9_ahead_102 : D1 cX9_ahead 102 (.getfield 16) 3 105 := ⟨by decide +kernel, rfl⟩
theorem dX9_ahead_105 : D1 cX9_ahead 105 (.iconst 4) 1 106 := ⟨by decide +kernel, rfl⟩
theorem dX9_ahead_106 : D1 cX9_ahead 106 (.iaload) 1 107 := ⟨by decide +kernel, rfl⟩
theorem dX9_ahead_107 : D1 cX9_ahead 107 (.isub) 1 108 := ⟨by decide +kernel, rfl⟩
theorem dX9_ahead_108 : DJ cX9_ahead 108 .goto 111 134 := ⟨26, by decide +kernel, rfl, by decide⟩
theorem dX9_ahead_111 : D1 cX9_ahead 111 (.iload_n 2) 1 112 := ⟨by decide +kernel, rfl⟩
theorem dX9_ahead_112 : D1 cX9_ahead 112 (.iconst 3) 1 113 := ⟨by decide +kernel, rfl⟩
theorem dX9_ahead_113 : DJ cX9_ahead 113 (.if_icmp .ne) 116 126 := ⟨13, by decide +kernel, rfl, by decide⟩
theorem dX9_ahead_116 : D1 cX9_ahead 116 (.aload_n 0) 1 117 := ⟨by decide +kernel, rfl⟩
theorem dX9_ahead_117 : D1 cX9_ahead 117 (.iconst 5) 1 118 := ⟨by decide +kernel, rfl⟩
theorem dX9_ahead_118 : D1 cX9_ahead 118 (.invokevirtual 131) 3 121 := ⟨by decide +kernel, rfl⟩
theorem dX9_ahead_121 : D1 cX9_ahead 121 (.iload_n 3) 1 122 := ⟨by decide +kernel, rfl⟩
theorem dX9_ahead_122 : D1 cX9_ahead 122 (.isub) 1 123 := ⟨by decide +kernel, rfl⟩
theorem dX9_ahead_123 : DJ cX9_ahead 123 .goto 126 134 := ⟨11, by decide +kernel, rfl, by decide⟩
theorem dX9_ahead_126 : D1 cX9_ahead 126 (.aload_n 0) 1 127 := ⟨by decide +kernel, rfl⟩
theorem dX9_ahead_127 : D1 cX9_ahead 127 (.iload_n 2) 1 128 := ⟨by decide +kernel, rfl⟩
theorem dX9_ahead_128 : D1 cX9_ahead 128 (.iconst 4) 1 129 := ⟨by decide +kernel, rfl⟩
theorem dX9_ahead_129 : D1 cX9_ahead 129 (.isub) 1 130 := ⟨by decide +kernel, rfl⟩
theorem dX9_ahead_130 : D1 cX9_ahead 130 (.iconst 1) 1 131 := ⟨by decide +kernel, rfl⟩
theorem dX9_ahead_131 : D1 cX9_ahead 131 (.invokevirtual 68) 3 134 := ⟨by decide +kernel, rfl⟩
theorem dX9_ahead_134 : D1 cX9_ahead 134 (.istore 4) 2 136 := ⟨by decide +kernel, rfl⟩
theorem dX9_ahead_136 : D1 cX9_ahead 136 (.aload_n 0) 1 137 := ⟨by decide +kernel, rfl⟩
theorem dX9_ahead_137 : D1 cX9_ahead 137 (.invokevirtual 150) 3 140 := ⟨by decide +kernel, rfl⟩
theorem dX9_ahead_140 : D1 cX9_ahead 140 (.iload 4) 2 142 := ⟨by decide +kernel, rfl⟩
theorem dX9_ahead_142 : D1 cX9_ahead 142 (.ireturn) 1 143 := ⟨by decide +kernel, rfl⟩
theorem dX9_cold_0 : D1 cX9_cold 0 (.aload_n 0) 1 1 := ⟨by decide +kernel, rfl⟩
theorem dX9_cold_1 : D1 cX9_cold 1 (.iload_n 1) 1 2 := ⟨by decide +kernel, rfl⟩
theorem dX9_cold_2 : D1 cX9_cold 2 (.invokevirtual 71) 3 5 := ⟨by decide +kernel, rfl⟩
theorem dX9_cold_5 : DJ cX9_cold 5 (.ifCond .ne) 8 15 := ⟨10, by decide +kernel, rfl, by decide⟩
theorem dX9_cold_8 : D1 cX9_cold 8 (.aload_n 0) 1 9 := ⟨by decide +kernel, rfl⟩
theorem dX9_cold_9 : D1 cX9_cold 9 (.ldc 47) 2 11 := ⟨by decide +kernel, rfl⟩
theorem dX9_cold_11 : D1 cX9_cold 11 (.invokevirtual 59) 3 14 := ⟨by decide +kernel, rfl⟩
theorem dX9_cold_14 : D1 cX9_cold 14 (.ireturn) 1 15 := ⟨by decide +kernel, rfl⟩
theorem dX9_cold_15 : D1 cX9_cold 15 (.aload_n 0) 1 16 := ⟨by decide +kernel, rfl⟩
theorem dX9_cold_16 : D1 cX9_cold 16 (.bipush 96) 2 18 := ⟨by decide +kernel, rfl⟩
theorem dX9_cold_18 : D1 cX9_cold 18 (.invokevirtual 128) 3 21 := ⟨by decide +kernel, rfl⟩
theorem dX9_cold_21 : DJ cX9_cold 21 (.ifCond .eq) 24 31 := ⟨10, by decide +kernel, rfl, by decide⟩
theorem dX9_cold_24 : D1 cX9_cold 24 (.aload_n 0) 1 25 := ⟨by decide +kernel, rfl⟩
theorem dX9_cold_25 : D1 cX9_cold 25 (.ldc 100) 2 27 := ⟨by decide +kernel, rfl⟩
theorem dX9_cold_27 : D1 cX9_cold 27 (.invokevirtual 59) 3 30 := ⟨by decide +kernel, rfl⟩
theorem dX9_cold_30 : D1 cX9_cold 30 (.ireturn) 1 31 := ⟨by decide +kernel, rfl⟩
theorem dX9_cold_31 : D1 cX9_cold 31 (.aload_n 0) 1 32 := ⟨by decide +kernel, rfl⟩
theorem dX9_cold_32 : D1 cX9_cold 32 (.invokevirtual 144) 3 35 := ⟨by decide +kernel, rfl⟩
theorem dX9_cold_35 : D1 cX9_cold 35 (.iconst 0) 1 36 := ⟨by decide +kernel, rfl⟩
theorem dX9_cold_36 : D1 cX9_cold 36 (.istore_n 2) 1 37 := ⟨by decide +kernel, rfl⟩
theorem dX9_cold_37 : D1 cX9_cold 37 (.iload_n 2) 1 38 := ⟨by decide +kernel, rfl⟩
theorem dX9_cold_38 : D1 cX9_cold 38 (.bipush 97) 2 40 := ⟨by decide +kernel, rfl⟩
theorem dX9_cold_40 : DJ cX9_cold 40 (.if_icmp .ge) 43 61 := ⟨21, by decide +kernel, rfl, by decide⟩
theorem dX9_cold_43 : D1 cX9_cold 43 (.aload_n 0) 1 44 := ⟨by decide +kernel, rfl⟩
theorem dX9_cold_44 : D1 cX9_cold 44 (.iload_n 1) 1 45 := ⟨by decide +kernel, rfl⟩
theorem dX9_cold_45 : D1 cX9_cold 45 (.invokevirtual 137) 3 48 := ⟨by decide +kernel, rfl⟩
theorem dX9_cold_48 : DJ cX9_cold 48 (.ifCond .ne) 51 61 := ⟨13, by decide +kernel, rfl, by decide⟩
theorem dX9_cold_51 : D1 cX9_cold 51 (.aload_n 0) 1 52 := ⟨by decide +kernel, rfl⟩
theorem dX9_cold_52 : D1 cX9_cold 52 (.invokevirtual 123) 3 55 := ⟨by decide +kernel, rfl⟩
theorem dX9_cold_55 : D1 cX9_cold 55 (.iinc 2 1) 3 58 := ⟨by decide +kernel, rfl⟩
theorem dX9_cold_58 : DJ cX9_cold 58 .goto 61 37 := ⟨(-21), by decide +kernel, rfl, by decide⟩
theorem dX9_cold_61 : D1 cX9_cold 61 (.aload_n 0) 1 62 := ⟨by decide +kernel, rfl⟩
theorem dX9_cold_62 : D1 cX9_cold 62 (.invokevirtual 150) 3 65 := ⟨by decide +kernel, rfl⟩
theorem dX9_cold_65 : D1 cX9_cold 65 (.iload_n 2) 1 66 := ⟨by decide +kernel, rfl⟩
theorem dX9_cold_66 : D1 cX9_cold 66 (.bipush 96) 2 68 := ⟨by decide +kernel, rfl⟩
theorem dX9_cold_68 : DJ cX9_cold 68 (.if_icmp .le) 71 80 := ⟨12, by decide +kernel, rfl, by decide⟩
theorem dX9_cold_71 : D1 cX9_cold 71 (.aload_n 0) 1 72 := ⟨by decide +kernel, rfl⟩
theorem dX9_cold_72 : D1 cX9_cold 72 (.ldc 153) 2 74 := ⟨by decide +kernel, rfl⟩
theorem dX9_cold_74 : D1 cX9_cold 74 (.invokevirtual 59) 3 77 := ⟨by decide +kernel, rfl⟩
theorem dX9_cold_77 : DJ cX9_cold 77 .goto 80 81 := ⟨4, by decide +kernel, rfl, by decide⟩
theorem dX9_cold_80 : D1 cX9_cold 80 (.iload_n 2) 1 81 := ⟨by decide +kernel, rfl⟩
theorem dX9_cold_81 : D1 cX9_cold 81 (.ireturn) 1 82 := ⟨by decide +kernel, rfl⟩
theorem dX9_bake_0 : D1 cX9_bake 0 (.aload_n 0) 1 1 := ⟨by decide +kernel, rfl⟩
theorem dX9_bake_1 : D1 cX9_bake 1 (.iload_n 1) 1 2 := ⟨by decide +kernel, rfl⟩
theorem dX9_bake_2 : D1 cX9_bake 2 (.invokevirtual 71) 3 5 := ⟨by decide +kernel, rfl⟩
theorem dX9_bake_5 : DJ cX9_bake 5 (.ifCond .ne) 8 15 := ⟨10, by decide +kernel, rfl, by decide⟩
theorem dX9_bake_8 : D1 cX9_bake 8 (.aload_n 0) 1 9 := ⟨by decide +kernel, rfl⟩
theorem dX9_bake_9 : D1 cX9_bake 9 (.ldc 47) 2 11 := ⟨by decide +kernel, rfl⟩
theorem dX9_bake_11 : D1 cX9_bake 11 (.invokevirtual 59) 3 14 := ⟨by decide +kernel, rfl⟩
theorem dX9_bake_14 : D1 cX9_bake 14 (.ireturn) 1 15 := ⟨by decide +kernel, rfl⟩
theorem dX9_bake_15 : D1 cX9_bake 15 (.aload_n 0) 1 16 := ⟨by decide +kernel, rfl⟩
theorem dX9_bake_16 : D1 cX9_bake 16 (.invokevirtual 104) 3 19 := ⟨by decide +kernel, rfl⟩
theorem dX9_bake_19 : DJ cX9_bake 19 (.ifCond .ne) 22 31 := ⟨12, by decide +kernel, rfl, by decide⟩
theorem dX9_bake_22 : D1 cX9_bake 22 (.aload_n 0) 1 23 := ⟨by decide +kernel, rfl⟩
theorem dX9_bake_23 : D1 cX9_bake 23 (.bipush 96) 2 25 := ⟨by decide +kernel, rfl⟩
theorem dX9_bake_25 : D1 cX9_bake 25 (.invokevirtual 128) 3 28 := ⟨by decide +kernel, rfl⟩
theorem dX9_bake_28 : DJ cX9_bake 28 (.ifCond .eq) 31 38 := ⟨10, by decide +kernel, rfl, by decide⟩
theorem dX9_bake_31 : D1 cX9_bake 31 (.aload_n 0) 1 32 := ⟨by decide +kernel, rfl⟩
theorem dX9_bake_32 : D1 cX9_bake 32 (.ldc 100) 2 34 := ⟨by decide +kernel, rfl⟩
theorem dX9_bake_34 : D1 cX9_bake 34 (.invokevirtual 59) 3 37 := ⟨by decide +kernel, rfl⟩
theorem dX9_bake_37 : D1 cX9_bake 37 (.ireturn) 1 38 := ⟨by decide +kernel, rfl⟩
theorem dX9_bake_38 : D1 cX9_bake 38 (.aload_n 0) 1 39 := ⟨by decide +kernel, rfl⟩
theorem dX9_bake_39 : D1 cX9_bake 39 (.invokevirtual 144) 3 42 := ⟨by decide +kernel, rfl⟩
theorem dX9_bake_42 : D1 cX9_bake 42 (.aload_n 0) 1 43 := ⟨by decide +kernel, rfl⟩
theorem dX9_bake_43 : D1 cX9_bake 43 (.iload_n 1) 1 44 := ⟨by decide +kernel, rfl⟩
theorem dX9_bake_44 : D1 cX9_bake 44 (.invokevirtual 108) 3 47 := ⟨by decide +kernel, rfl⟩
theorem dX9_bake_47 : D1 cX9_bake 47 (.iconst 0) 1 48 := ⟨by decide +kernel, rfl⟩
theorem dX9_bake_48 : D1 cX9_bake 48 (.istore_n 2) 1 49 := ⟨by decide +kernel, rfl⟩
theorem dX9_bake_49 : D1 cX9_bake 49 (.iload_n 2) 1 50 := ⟨by decide +kernel, rfl⟩
theorem dX9_bake_50 : D1 cX9_bake 50 (.bipush 97) 2 52 := ⟨by decide +kernel, rfl⟩
theorem dX9_bake_52 : DJ cX9_bake 52 (.if_icmp .ge) 55 84 := ⟨32, by decide +kernel, rfl, by decide⟩
theorem dX9_bake_55 : D1 cX9_bake 55 (.aload_n 0) 1 56 := ⟨by decide +kernel, rfl⟩
theorem dX9_bake_56 : D1 cX9_bake 56 (.iload_n 1) 1 57 := ⟨by decide +kernel, rfl⟩
theorem dX9_bake_57 : D1 cX9_bake 57 (.iconst 5) 1 58 := ⟨by decide +kernel, rfl⟩
theorem dX9_bake_58 : D1 cX9_bake 58 (.invokevirtual 68) 3 61 := ⟨by decide +kernel, rfl⟩
theorem dX9_bake_61 : D1 cX9_bake 61 (.aload_n 0) 1 62 := ⟨by decide +kernel, rfl⟩
theorem dX9_bake_62 : D1 cX9_bake 62 (.getfield 16) 3 65 := ⟨by decide +kernel, rfl⟩
theorem dX9_bake_65 : D1 cX9_bake 65 (.iload_n 1) 1 66 := ⟨by decide +kernel, rfl⟩
theorem dX9_bake_66 : D1 cX9_bake 66 (.iconst 5) 1 67 := ⟨by decide +kernel, rfl⟩
theorem dX9_bake_67 : D1 cX9_bake 67 (.invokestatic 53) 3 70 := ⟨by decide +kernel, rfl⟩
theorem dX9_bake_70 : D1 cX9_bake 70 (.iaload) 1 71 := ⟨by decide +kernel, rfl⟩
theorem dX9_bake_71 : DJ cX9_bake 71 (.if_icmp .ne) 74 84 := ⟨13, by decide +kernel, rfl, by decide⟩
theorem dX9_bake_74 : D1 cX9_bake 74 (.aload_n 0) 1 75 := ⟨by decide +kernel, rfl⟩
theorem dX9_bake_75 : D1 cX9_bake 75 (.invokevirtual 123) 3 78 := ⟨by decide +kernel, rfl⟩
theorem dX9_bake_78 : D1 cX9_bake 78 (.iinc 2 1) 3 81 := ⟨by decide +kernel, rfl⟩
theorem dX9_bake_81 : DJ cX9_bake 81 .goto 84 49 := ⟨(-32), by decide +kernel, rfl, by decide⟩
theorem dX9_bake_84 : D1 cX9_bake 84 (.aload_n 0) 1 85 := ⟨by decide +kernel, rfl⟩
theorem dX9_bake_85 : D1 cX9_bake 85 (.invokevirtual 150) 3 88 := ⟨by decide +kernel, rfl⟩
theorem dX9_bake_88 : D1 cX9_bake 88 (.iload_n 2) 1 89 := ⟨by decide +kernel, rfl⟩
theorem dX9_bake_89 : D1 cX9_bake 89 (.bipush 96) 2 91 := ⟨by decide +kernel, rfl⟩
theorem dX9_bake_91 : DJ cX9_bake 91 (.if_icmp .le) 94 103 := ⟨12, by decide +kernel, rfl, by decide⟩
theorem dX9_bake_94 : D1 cX9_bake 94 (.aload_n 0) 1 95 := ⟨by decide +kernel, rfl⟩
theorem dX9_bake_95 : D1 cX9_bake 95 (.ldc 153) 2 97 := ⟨by decide +kernel, rfl⟩
theorem dX9_bake_97 : D1 cX9_bake 97 (.invokevirtual 59) 3 100 := ⟨by decide +kernel, rfl⟩
theorem dX9_bake_100 : DJ cX9_bake 100 .goto 103 104 := ⟨4, by decide +kernel, rfl, by decide⟩
theorem dX9_bake_103 : D1 cX9_bake 103 (.iload_n 2) 1 104 := ⟨by decide +kernel, rfl⟩
theorem dX9_bake_104 : D1 cX9_bake 104 (.ireturn) 1 105 := ⟨by decide +kernel, rfl⟩
theorem dX9_isSpan_0 : D1 cX9_isSpan 0 (.iload_n 0) 1 1 := ⟨by decide +kernel, rfl⟩
theorem dX9_isSpan_1 : D1 cX9_isSpan 1 (.i2l) 1 2 := ⟨by decide +kernel, rfl⟩
theorem dX9_isSpan_2 : D1 cX9_isSpan 2 (.lconst 1) 1 3 := ⟨by decide +kernel, rfl⟩
theorem dX9_isSpan_3 : D1 cX9_isSpan 3 (.ldc2_w 126) 3 6 := ⟨by decide +kernel, rfl⟩
theorem dX9_isSpan_6 : D1 cX9_isSpan 6 (.invokestatic 48) 3 9 := ⟨by decide +kernel, rfl⟩
theorem dX9_isSpan_9 : D1 cX9_isSpan 9 (.ireturn) 1 10 := ⟨by decide +kernel, rfl⟩
theorem dX9_isFixed_0 : D1 cX9_isFixed 0 (.aload_n 0) 1 1 := ⟨by decide +kernel, rfl⟩
theorem dX9_isFixed_1 : D1 cX9_isFixed 1 (.invokevirtual 104) 3 4 := ⟨by decide +kernel, rfl⟩
theorem dX9_isFixed_4 : DJ cX9_isFixed 4 (.ifCond .ne) 7 24 := ⟨20, by decide +kernel, rfl, by decide⟩
theorem dX9_isFixed_7 : D1 cX9_isFixed 7 (.aload_n 0) 1 8 := ⟨by decide +kernel, rfl⟩
theorem dX9_isFixed_8 : D1 cX9_isFixed 8 (.getfield 7) 3 11 := ⟨by decide +kernel, rfl⟩
theorem dX9_isFixed_11 : D1 cX9_isFixed 11 (.iconst 1) 1 12 := ⟨by decide +kernel, rfl⟩
theorem dX9_isFixed_12 : D1 cX9_isFixed 12 (.iaload) 1 13 := ⟨by decide +kernel, rfl⟩
theorem dX9_isFixed_13 : DJ cX9_isFixed 13 (.ifCond .eq) 16 24 := ⟨11, by decide +kernel, rfl, by decide⟩
theorem dX9_isFixed_16 : D1 cX9_isFixed 16 (.aload_n 0) 1 17 := ⟨by decide +kernel, rfl⟩
theorem dX9_isFixed_17 : D1 cX9_isFixed 17 (.iload_n 1) 1 18 := ⟨by decide +kernel, rfl⟩
theorem dX9_isFixed_18 : D1 cX9_isFixed 18 (.invokevirtual 128) 3 21 := ⟨by decide +kernel, rfl⟩
theorem dX9_isFixed_21 : DJ cX9_isFixed 21 (.ifCond .eq) 24 28 := ⟨7, by decide +kernel, rfl, by decide⟩
theorem dX9_isFixed_24 : D1 cX9_isFixed 24 (.iconst 1) 1 25 := ⟨by decide +kernel, rfl⟩
theorem dX9_isFixed_25 : DJ cX9_isFixed 25 .goto 28 29 := ⟨4, by decide +kernel, rfl, by decide⟩
theorem dX9_isFixed_28 : D1 cX9_isFixed 28 (.iconst 0) 1 29 := ⟨by decide +kernel, rfl⟩
theorem dX9_isFixed_29 : D1 cX9_isFixed 29 (.ireturn) 1 30 := ⟨by decide +kernel, rfl⟩
theorem dX9_best_0 : D1 cX9_best 0 (.iload_n 1) 1 1 := ⟨by decide +kernel, rfl⟩
theorem dX9_best_1 : D1 cX9_best 1 (.invokestatic 154) 3 4 := ⟨by decide +kernel, rfl⟩
theorem dX9_best_4 : DJ cX9_best 4 (.ifCond .ne) 7 14 := ⟨10, by decide +kernel, rfl, by decide⟩
theorem dX9_best_7 : D1 cX9_best 7 (.aload_n 0) 1 8 := ⟨by decide +kernel, rfl⟩
theorem dX9_best_8 : D1 cX9_best 8 (.ldc 47) 2 10 := ⟨by decide +kernel, rfl⟩
theorem dX9_best_10 : D1 cX9_best 10 (.invokevirtual 59) 3 13 := ⟨by decide +kernel, rfl⟩
theorem dX9_best_13 : D1 cX9_best 13 (.ireturn) 1 14 := ⟨by decide +kernel, rfl⟩
theorem dX9_best_14 : D1 cX9_best 14 (.aload_n 0) 1 15 := ⟨by decide +kernel, rfl⟩
theorem dX9_best_15 : D1 cX9_best 15 (.iload_n 1) 1 16 := ⟨by decide +kernel, rfl⟩
theorem dX9_best_16 : D1 cX9_best 16 (.invokevirtual 157) 3 19 := ⟨by decide +kernel, rfl⟩
theorem dX9_best_19 : DJ cX9_best 19 (.ifCond .eq) 22 29 := ⟨10, by decide +kernel, rfl, by decide⟩
theorem dX9_best_22 : D1 cX9_best 22 (.aload_n 0) 1 23 := ⟨by decide +kernel, rfl⟩
theorem dX9_best_23 : D1 cX9_best 23 (.ldc 100) 2 25 := ⟨by decide +kernel, rfl⟩
theorem dX9_best_25 : D1 cX9_best 25 (.invokevirtual 59) 3 28 := ⟨by decide +kernel, rfl⟩
theorem dX9_best_28 : D1 cX9_best 28 (.ireturn) 1 29 := ⟨by decide +kernel, rfl⟩
theorem dX9_best_29 : D1 cX9_best 29 (.aload_n 0) 1 30 := ⟨by decide +kernel, rfl⟩
theorem dX9_best_30 : D1 cX9_best 30 (.invokevirtual 144) 3 33 := ⟨by decide +kernel, rfl⟩
theorem dX9_best_33 : D1 cX9_best 33 (.iconst 0) 1 34 := ⟨by decide +kernel, rfl⟩
theorem dX9_best_34 : D1 cX9_best 34 (.istore_n 2) 1 35 := ⟨by decide +kernel, rfl⟩
theorem dX9_best_35 : D1 cX9_best 35 (.iconst (-1)) 1 36 := ⟨by decide +kernel, rfl⟩
theorem dX9_best_36 : D1 cX9_best 36 (.istore_n 3) 1 37 := ⟨by decide +kernel, rfl⟩
theorem dX9_best_37 : D1 cX9_best 37 (.iconst 0) 1 38 := ⟨by decide +kernel, rfl⟩
theorem dX9_best_38 : D1 cX9_best 38 (.istore 4) 2 40 := ⟨by decide +kernel, rfl⟩
theorem dX9_best_40 : D1 cX9_best 40 (.iload 4) 2 42 := ⟨by decide +kernel, rfl⟩
theorem dX9_best_42 : D1 cX9_best 42 (.aload_n 0) 1 43 := ⟨by decide +kernel, rfl⟩
theorem dX9_best_43 : D1 cX9_best 43 (.getfield 7) 3 46 := ⟨by decide +kernel, rfl⟩
theorem dX9_best_46 : D1 cX9_best 46 (.iconst 1) 1 47 := ⟨by decide +kernel, rfl⟩
theorem dX9_best_47 : D1 cX9_best 47 (.iaload) 1 48 := ⟨by decide +kernel, rfl⟩
theorem dX9_best_48 : DJ cX9_best 48 (.if_icmp .ge) 51 104 := ⟨56, by decide +kernel, rfl, by decide⟩
theorem dX9_best_51 : D1 cX9_best 51 (.aload_n 0) 1 52 := ⟨by decide +kernel, rfl⟩
theorem dX9_best_52 : D1 cX9_best 52 (.iload 4) 2 54 := ⟨by decide +kernel, rfl⟩
theorem dX9_best_54 : D1 cX9_best 54 (.invokevirtual 108) 3 57 := ⟨by decide +kernel, rfl⟩
theorem dX9_best_57 : D1 cX9_best 57 (.aload_n 0) 1 58 := ⟨by decide +kernel, rfl⟩
theorem dX9_best_58 : D1 cX9_best 58 (.iload_n 1) 1 59 := ⟨by decide +kernel, rfl⟩
theorem dX9_best_59 : D1 cX9_best 59 (.invokevirtual 134) 3 62 := ⟨by decide +kernel, rfl⟩
theorem dX9_best_62 : D1 cX9_best 62 (.aload_n 0) 1 63 := ⟨by decide +kernel, rfl⟩
theorem dX9_best_63 : D1 cX9_best 63 (.invokevirtual 147) 3 66 := ⟨by decide +kernel, rfl⟩
theorem dX9_best_66 : D1 cX9_best 66 (.istore 5) 2 68 := ⟨by decide +kernel, rfl⟩
theorem dX9_best_68 : D1 cX9_best 68 (.aload_n 0) 1 69 := ⟨by decide +kernel, rfl⟩
theorem dX9_best_69 : D1 cX9_best 69 (.invokevirtual 150) 3 72 := ⟨by decide +kernel, rfl⟩
theorem dX9_best_72 : D1 cX9_best 72 (.iload 5) 2 74 := ⟨by decide +kernel, rfl⟩
theorem dX9_best_74 : D1 cX9_best 74 (.iload_n 3) 1 75 := ⟨by decide +kernel, rfl⟩
theorem dX9_best_75 : DJ cX9_best 75 (.if_icmp .le) 78 83 := ⟨8, by decide +kernel, rfl, by decide⟩
theorem dX9_best_78 : D1 cX9_best 78 (.iload 4) 2 80 := ⟨by decide +kernel, rfl⟩
theorem dX9_best_80 : DJ cX9_best 80 .goto 83 84 := ⟨4, by decide +kernel, rfl, by decide⟩
theorem dX9_best_83 : D1 cX9_best 83 (.iload_n 2) 1 84 := ⟨by decide +kernel, rfl⟩
theorem dX9_best_84 : D1 cX9_best 84 (.istore_n 2) 1 85 := ⟨by decide +kernel, rfl⟩
theorem dX9_best_85 : D1 cX9_best 85 (.iload 5) 2 87 := ⟨by decide +kernel, rfl⟩
theorem dX9_best_87 : D1 cX9_best 87 (.iload_n 3) 1 88 := ⟨by decide +kernel, rfl⟩
theorem dX9_best_88 : DJ cX9_best 88 (.if_icmp .le) 91 96 := ⟨8, by decide +kernel, rfl, by decide⟩
theorem dX9_best_91 : D1 cX9_best 91 (.iload 5) 2 93 := ⟨by decide +kernel, rfl⟩
theorem dX9_best_93 : DJ cX9_best 93 .goto 96 97 := ⟨4, by decide +kernel, rfl, by decide⟩
theorem dX9_best_96 : D1 cX9_best 96 (.iload_n 3) 1 97 := ⟨by decide +kernel, rfl⟩
theorem dX9_best_97 : D1 cX9_best 97 (.istore_n 3) 1 98 := ⟨by decide +kernel, rfl⟩
theorem dX9_best_98 : D1 cX9_best 98 (.iinc 4 1) 3 101 := ⟨by decide +kernel, rfl⟩
theorem dX9_best_101 : DJ cX9_best 101 .goto 104 40 := ⟨(-61), by decide +kernel, rfl, by decide⟩
theorem dX9_best_104 : D1 cX9_best 104 (.iload_n 2) 1 105 := ⟨by decide +kernel, rfl⟩
theorem dX9_best_105 : D1 cX9_best 105 (.ireturn) 1 106 := ⟨by decide +kernel, rfl⟩
theorem dX9_lost_0 : D1 cX9_lost 0 (.iload_n 1) 1 1 := ⟨by decide +kernel, rfl⟩
theorem dX9_lost_1 : D1 cX9_lost 1 (.invokestatic 154) 3 4 := ⟨by decide +kernel, rfl⟩
theorem dX9_lost_4 : DJ cX9_lost 4 (.ifCond .ne) 7 14 := ⟨10, by decide +kernel, rfl, by decide⟩
theorem dX9_lost_7 : D1 cX9_lost 7 (.aload_n 0) 1 8 := ⟨by decide +kernel, rfl⟩
theorem dX9_lost_8 : D1 cX9_lost 8 (.ldc 47) 2 10 := ⟨by decide +kernel, rfl⟩
theorem dX9_lost_10 : D1 cX9_lost 10 (.invokevirtual 59) 3 13 := ⟨by decide +kernel, rfl⟩
theorem dX9_lost_13 : D1 cX9_lost 13 (.ireturn) 1 14 := ⟨by decide +kernel, rfl⟩
theorem dX9_lost_14 : D1 cX9_lost 14 (.aload_n 0) 1 15 := ⟨by decide +kernel, rfl⟩
theorem dX9_lost_15 : D1 cX9_lost 15 (.iload_n 1) 1 16 := ⟨by decide +kernel, rfl⟩
theorem dX9_lost_16 : D1 cX9_lost 16 (.invokevirtual 157) 3 19 := ⟨by decide +kernel, rfl⟩
theorem dX9_lost_19 : DJ cX9_lost 19 (.ifCond .eq) 22 29 := ⟨10, by decide +kernel, rfl, by decide⟩
theorem dX9_lost_22 : D1 cX9_lost 22 (.aload_n 0) 1 23 := ⟨by decide +kernel, rfl⟩
theorem dX9_lost_23 : D1 cX9_lost 23 (.ldc 100) 2 25 := ⟨by decide +kernel, rfl⟩
theorem dX9_lost_25 : D1 cX9_lost 25 (.invokevirtual 59) 3 28 := ⟨by decide +kernel, rfl⟩
theorem dX9_lost_28 : D1 cX9_lost 28 (.ireturn) 1 29 := ⟨by decide +kernel, rfl⟩
theorem dX9_lost_29 : D1 cX9_lost 29 (.aload_n 0) 1 30 := ⟨by decide +kernel, rfl⟩
theorem dX9_lost_30 : D1 cX9_lost 30 (.invokevirtual 144) 3 33 := ⟨by decide +kernel, rfl⟩
theorem dX9_lost_33 : D1 cX9_lost 33 (.sipush 255) 3 36 := ⟨by decide +kernel, rfl⟩
theorem dX9_lost_36 : D1 cX9_lost 36 (.istore_n 2) 1 37 := ⟨by decide +kernel, rfl⟩
theorem dX9_lost_37 : D1 cX9_lost 37 (.iconst 0) 1 38 := ⟨by decide +kernel, rfl⟩
theorem dX9_lost_38 : D1 cX9_lost 38 (.istore_n 3) 1 39 := ⟨by decide +kernel, rfl⟩
theorem dX9_lost_39 : D1 cX9_lost 39 (.iload_n 3) 1 40 := ⟨by decide +kernel, rfl⟩
theorem dX9_lost_40 : D1 cX9_lost 40 (.aload_n 0) 1 41 := ⟨by decide +kernel, rfl⟩
theorem dX9_lost_41 : D1 cX9_lost 41 (.getfield 7) 3 44 := ⟨by decide +kernel, rfl⟩
theorem dX9_lost_44 : D1 cX9_lost 44 (.iconst 1) 1 45 := ⟨by decide +kernel, rfl⟩
theorem dX9_lost_45 : D1 cX9_lost 45 (.iaload) 1 46 := ⟨by decide +kernel, rfl⟩
theorem dX9_lost_46 : DJ cX9_lost 46 (.if_icmp .ge) 49 76 := ⟨30, by decide +kernel, rfl, by decide⟩
theorem dX9_lost_49 : D1 cX9_lost 49 (.aload_n 0) 1 50 := ⟨by decide +kernel, rfl⟩
theorem dX9_lost_50 : D1 cX9_lost 50 (.iload_n 3) 1 51 := ⟨by decide +kernel, rfl⟩
theorem dX9_lost_51 : D1 cX9_lost 51 (.invokevirtual 108) 3 54 := ⟨by decide +kernel, rfl⟩
theorem dX9_lost_54 : D1 cX9_lost 54 (.aload_n 0) 1 55 := ⟨by decide +kernel, rfl⟩
theorem dX9_lost_55 : D1 cX9_lost 55 (.iload_n 1) 1 56 := ⟨by decide +kernel, rfl⟩
theorem dX9_lost_56 : D1 cX9_lost 56 (.invokevirtual 134) 3 59 := ⟨by decide +kernel, rfl⟩
theorem dX9_lost_59 : D1 cX9_lost 59 (.iload_n 2) 1 60 := ⟨by decide +kernel, rfl⟩
theorem dX9_lost_60 : D1 cX9_lost 60 (.aload_n 0) 1 61 := ⟨by decide +kernel, rfl⟩
theorem dX9_lost_61 : D1 cX9_lost 61 (.invokevirtual 140) 3 64 := ⟨by decide +kernel, rfl⟩
theorem dX9_lost_64 : D1 cX9_lost 64 (.iand) 1 65 := ⟨by decide +kernel, rfl⟩
theorem dX9_lost_65 : D1 cX9_lost 65 (.istore_n 2) 1 66 := ⟨by decide +kernel, rfl⟩
theorem dX9_lost_66 : D1 cX9_lost 66 (.aload_n 0) 1 67 := ⟨by decide +kernel, rfl⟩
theorem dX9_lost_67 : D1 cX9_lost 67 (.invokevirtual 150) 3 70 := ⟨by decide +kernel, rfl⟩
theorem dX9_lost_70 : D1 cX9_lost 70 (.iinc 3 1) 3 73 := ⟨by decide +kernel, rfl⟩
theorem dX9_lost_73 : DJ cX9_lost 73 .goto 76 39 := ⟨(-34), by decide +kernel, rfl, by decide⟩
theorem dX9_lost_76 : D1 cX9_lost 76 (.iload_n 2) 1 77 := ⟨by decide +kernel, rfl⟩
theorem dX9_lost_77 : D1 cX9_lost 77 (.ireturn) 1 78 := ⟨by decide +kernel, rfl⟩
theorem dX9_stay_0 : D1 cX9_stay 0 (.aload_n 0) 1 1 := ⟨by decide +kernel, rfl⟩
theorem dX9_stay_1 : D1 cX9_stay 1 (.iload_n 1) 1 2 := ⟨by decide +kernel, rfl⟩
theorem dX9_stay_2 : D1 cX9_stay 2 (.invokevirtual 71) 3 5 := ⟨by decide +kernel, rfl⟩
theorem dX9_stay_5 : DJ cX9_stay 5 (.ifCond .eq) 8 20 := ⟨15, by decide +kernel, rfl, by decide⟩
theorem dX9_stay_8 : D1 cX9_stay 8 (.iload_n 2) 1 9 := ⟨by decide +kernel, rfl⟩
theorem dX9_stay_9 : D1 cX9_stay 9 (.i2l) 1 10 := ⟨by decide +kernel, rfl⟩
theorem dX9_stay_10 : D1 cX9_stay 10 (.lconst 0) 1 11 := ⟨by decide +kernel, rfl⟩
theorem dX9_stay_11 : D1 cX9_stay 11 (.ldc2_w 86) 3 14 := ⟨by decide +kernel, rfl⟩
theorem dX9_stay_14 : D1 cX9_stay 14 (.invokestatic 48) 3 17 := ⟨by decide +kernel, rfl⟩
theorem dX9_stay_17 : DJ cX9_stay 17 (.ifCond .ne) 20 27 := ⟨10, by decide +kernel, rfl, by decide⟩
theorem dX9_stay_20 : D1 cX9_stay 20 (.aload_n 0) 1 21 := ⟨by decide +kernel, rfl⟩
theorem dX9_stay_21 : D1 cX9_stay 21 (.ldc 47) 2 23 := ⟨by decide +kernel, rfl⟩
theorem dX9_stay_23 : D1 cX9_stay 23 (.invokevirtual 59) 3 26 := ⟨by decide +kernel, rfl⟩
theorem dX9_stay_26 : D1 cX9_stay 26 (.ireturn) 1 27 := ⟨by decide +kernel, rfl⟩
theorem dX9_stay_27 : D1 cX9_stay 27 (.aload_n 0) 1 28 := ⟨by decide +kernel, rfl⟩
theorem dX9_stay_28 : D1 cX9_stay 28 (.invokevirtual 104) 3 31 := ⟨by decide +kernel, rfl⟩
theorem dX9_stay_31 : DJ cX9_stay 31 (.ifCond .ne) 34 44 := ⟨13, by decide +kernel, rfl, by decide⟩
theorem dX9_stay_34 : D1 cX9_stay 34 (.aload_n 0) 1 35 := ⟨by decide +kernel, rfl⟩
theorem dX9_stay_35 : D1 cX9_stay 35 (.sipush 9800) 3 38 := ⟨by decide +kernel, rfl⟩
theorem dX9_stay_38 : D1 cX9_stay 38 (.invokevirtual 160) 3 41 := ⟨by decide +kernel, rfl⟩
theorem dX9_stay_41 : DJ cX9_stay 41 (.ifCond .eq) 44 51 := ⟨10, by decide +kernel, rfl, by decide⟩
theorem dX9_stay_44 : D1 cX9_stay 44 (.aload_n 0) 1 45 := ⟨by decide +kernel, rfl⟩
theorem dX9_stay_45 : D1 cX9_stay 45 (.ldc 100) 2 47 := ⟨by decide +kernel, rfl⟩
theorem dX9_stay_47 : D1 cX9_stay 47 (.invokevirtual 59) 3 50 := ⟨by decide +kernel, rfl⟩
theorem dX9_stay_50 : D1 cX9_stay 50 (.ireturn) 1 51 := ⟨by decide +kernel, rfl⟩
theorem dX9_stay_51 : D1 cX9_stay 51 (.aload_n 0) 1 52 := ⟨by decide +kernel, rfl⟩
theorem dX9_stay_52 : D1 cX9_stay 52 (.invokevirtual 144) 3 55 := ⟨by decide +kernel, rfl⟩
theorem dX9_stay_55 : D1 cX9_stay 55 (.iconst (-1)) 1 56 := ⟨by decide +kernel, rfl⟩
theorem dX9_stay_56 : D1 cX9_stay 56 (.istore_n 3) 1 57 := ⟨by decide +kernel, rfl⟩
theorem dX9_stay_57 : D1 cX9_stay 57 (.iconst 0) 1 58 := ⟨by decide +kernel, rfl⟩
theorem dX9_stay_58 : D1 cX9_stay 58 (.istore 4) 2 60 := ⟨by decide +kernel, rfl⟩
theorem dX9_stay_60 : D1 cX9_stay 60 (.iload 4) 2 62 := ⟨by decide +kernel, rfl⟩
theorem dX9_stay_62 : D1 cX9_stay 62 (.bipush 49) 2 64 := ⟨by decide +kernel, rfl⟩
theorem dX9_stay_64 : DJ cX9_stay 64 (.if_icmp .ge) 67 129 := ⟨65, by decide +kernel, rfl, by decide⟩
theorem dX9_stay_67 : D1 cX9_stay 67 (.iload_n 3) 1 68 := ⟨by decide +kernel, rfl⟩
theorem dX9_stay_68 : DJ cX9_stay 68 (.ifCond .ge) 71 129 := ⟨61, by decide +kernel, rfl, by decide⟩
theorem dX9_stay_71 : D1 cX9_stay 71 (.aload_n 0) 1 72 := ⟨by decide +kernel, rfl⟩
theorem dX9_stay_72 : D1 cX9_stay 72 (.iload_n 1) 1 73 := ⟨by decide +kernel, rfl⟩
theorem dX9_stay_73 : D1 cX9_stay 73 (.invokevirtual 108) 3 76 := ⟨by decide +kernel, rfl⟩
theorem dX9_stay_76 : D1 cX9_stay 76 (.aload_n 0) 1 77 := ⟨by decide +kernel, rfl⟩
theorem dX9_stay_77 : D1 cX9_stay 77 (.aload_n 0) 1 78 := ⟨by decide +kernel, rfl⟩
theorem dX9_stay_78 : D1 cX9_stay 78 (.getfield 7) 3 81 := ⟨by decide +kernel, rfl⟩
theorem dX9_stay_81 : D1 cX9_stay 81 (.iconst 3) 1 82 := ⟨by decide +kernel, rfl⟩
theorem dX9_stay_82 : D1 cX9_stay 82 (.iaload) 1 83 := ⟨by decide +kernel, rfl⟩
theorem dX9_stay_83 : D1 cX9_stay 83 (.iload 4) 2 85 := ⟨by decide +kernel, rfl⟩
theorem dX9_stay_85 : D1 cX9_stay 85 (.iadd) 1 86 := ⟨by decide +kernel, rfl⟩
theorem dX9_stay_86 : D1 cX9_stay 86 (.invokevirtual 134) 3 89 := ⟨by decide +kernel, rfl⟩
theorem dX9_stay_89 : D1 cX9_stay 89 (.aload_n 0) 1 90 := ⟨by decide +kernel, rfl⟩
theorem dX9_stay_90 : D1 cX9_stay 90 (.iconst 1) 1 91 := ⟨by decide +kernel, rfl⟩
theorem dX9_stay_91 : D1 cX9_stay 91 (.putfield 116) 3 94 := ⟨by decide +kernel, rfl⟩
theorem dX9_stay_94 : D1 cX9_stay 94 (.aload_n 0) 1 95 := ⟨by decide +kernel, rfl⟩
theorem dX9_stay_95 : D1 cX9_stay 95 (.iload_n 2) 1 96 := ⟨by decide +kernel, rfl⟩
theorem dX9_stay_96 : D1 cX9_stay 96 (.invokevirtual 134) 3 99 := ⟨by decide +kernel, rfl⟩
theorem dX9_stay_99 : D1 cX9_stay 99 (.aload_n 0) 1 100 := ⟨by decide +kernel, rfl⟩
theorem dX9_stay_100 : D1 cX9_stay 100 (.iconst 0) 1 101 := ⟨by decide +kernel, rfl⟩
theorem dX9_stay_101 : D1 cX9_stay 101 (.putfield 116) 3 104 := ⟨by decide +kernel, rfl⟩
theorem dX9_stay_104 : D1 cX9_stay 104 (.aload_n 0) 1 105 := ⟨by decide +kernel, rfl⟩
theorem dX9_stay_105 : D1 cX9_stay 105 (.iload_n 1) 1 106 := ⟨by decide +kernel, rfl⟩
theorem dX9_stay_106 : D1 cX9_stay 106 (.invokevirtual 137) 3 109 := ⟨by decide +kernel, rfl⟩
theorem dX9_stay_109 : DJ cX9_stay 109 (.ifCond .eq) 112 116 := ⟨7, by decide +kernel, rfl, by decide⟩
theorem dX9_stay_112 : D1 cX9_stay 112 (.iconst (-1)) 1 113 := ⟨by decide +kernel, rfl⟩
theorem dX9_stay_113 : DJ cX9_stay 113 .goto 116 118 := ⟨5, by decide +kernel, rfl, by decide⟩
theorem dX9_stay_116 : D1 cX9_stay 116 (.iload 4) 2 118 := ⟨by decide +kernel, rfl⟩
theorem dX9_stay_118 : D1 cX9_stay 118 (.istore_n 3) 1 119 := ⟨by decide +kernel, rfl⟩
theorem dX9_stay_119 : D1 cX9_stay 119 (.aload_n 0) 1 120 := ⟨by decide +kernel, rfl⟩
theorem dX9_stay_120 : D1 cX9_stay 120 (.invokevirtual 150) 3 123 := ⟨by decide +kernel, rfl⟩
theorem dX9_stay_123 : D1 cX9_stay 123 (.iinc 4 1) 3 126 := ⟨by decide +kernel, rfl⟩
theorem dX9_stay_126 : DJ cX9_stay 126 .goto 129 60 := ⟨(-66), by decide +kernel, rfl, by decide⟩
theorem dX9_stay_129 : D1 cX9_stay 129 (.iload_n 3) 1 130 := ⟨by decide +kernel, rfl⟩
theorem dX9_stay_130 : DJ cX9_stay 130 (.ifCond .ge) 133 142 := ⟨12, by decide +kernel, rfl, by decide⟩
theorem dX9_stay_133 : D1 cX9_stay 133 (.aload_n 0) 1 134 := ⟨by decide +kernel, rfl⟩
theorem dX9_stay_134 : D1 cX9_stay 134 (.ldc 153) 2 136 := ⟨by decide +kernel, rfl⟩
theorem dX9_stay_136 : D1 cX9_stay 136 (.invokevirtual 59) 3 139 := ⟨by decide +kernel, rfl⟩
theorem dX9_stay_139 : DJ cX9_stay 139 .goto 142 143 := ⟨4, by decide +kernel, rfl, by decide⟩
theorem dX9_stay_142 : D1 cX9_stay 142 (.iload_n 3) 1 143 := ⟨by decide +kernel, rfl⟩
theorem dX9_stay_143 : D1 cX9_stay 143 (.ireturn) 1 144 := ⟨by decide +kernel, rfl⟩
theorem dX9_leastPart_0 : D1 cX9_leastPart 0 (.aload_n 0) 1 1 := ⟨by decide +kernel, rfl⟩
theorem dX9_leastPart_1 : D1 cX9_leastPart 1 (.invokevirtual 144) 3 4 := ⟨by decide +kernel, rfl⟩
theorem dX9_leastPart_4 : D1 cX9_leastPart 4 (.iconst (-1)) 1 5 := ⟨by decide +kernel, rfl⟩
theorem dX9_leastPart_5 : D1 cX9_leastPart 5 (.istore 6) 2 7 := ⟨by decide +kernel, rfl⟩
theorem dX9_leastPart_7 : D1 cX9_leastPart 7 (.iload_n 3) 1 8 := ⟨by decide +kernel, rfl⟩
theorem dX9_leastPart_8 : D1 cX9_leastPart 8 (.istore 7) 2 10 := ⟨by decide +kernel, rfl⟩
theorem dX9_leastPart_10 : D1 cX9_leastPart 10 (.iload 7) 2 12 := ⟨by decide +kernel, rfl⟩
theorem dX9_leastPart_12 : D1 cX9_leastPart 12 (.iload 4) 2 14 := ⟨by decide +kernel, rfl⟩
theorem dX9_leastPart_14 : DJ cX9_leastPart 14 (.if_icmp .gt) 17 66 := ⟨52, by decide +kernel, rfl, by decide⟩
theorem dX9_leastPart_17 : D1 cX9_leastPart 17 (.iload 6) 2 19 := ⟨by decide +kernel, rfl⟩
theorem dX9_leastPart_19 : DJ cX9_leastPart 19 (.ifCond .ge) 22 66 := ⟨47, by decide +kernel, rfl, by decide⟩
theorem dX9_leastPart_22 : D1 cX9_leastPart 22 (.aload_n 0) 1 23 := ⟨by decide +kernel, rfl⟩
theorem dX9_leastPart_23 : D1 cX9_leastPart 23 (.getfield 7) 3 26 := ⟨by decide +kernel, rfl⟩
theorem dX9_leastPart_26 : D1 cX9_leastPart 26 (.iload_n 1) 1 27 := ⟨by decide +kernel, rfl⟩
theorem dX9_leastPart_27 : D1 cX9_leastPart 27 (.iload_n 2) 1 28 := ⟨by decide +kernel, rfl⟩
theorem dX9_leastPart_28 : D1 cX9_leastPart 28 (.invokestatic 53) 3 31 := ⟨by decide +kernel, rfl⟩
theorem dX9_leastPart_31 : D1 cX9_leastPart 31 (.iload 7) 2 33 := ⟨by decide +kernel, rfl⟩
theorem dX9_leastPart_33 : D1 cX9_leastPart 33 (.iastore) 1 34 := ⟨by decide +kernel, rfl⟩
theorem dX9_leastPart_34 : D1 cX9_leastPart 34 (.aload_n 0) 1 35 := ⟨by decide +kernel, rfl⟩
theorem dX9_leastPart_35 : D1 cX9_leastPart 35 (.iload 5) 2 37 := ⟨by decide +kernel, rfl⟩
theorem dX9_leastPart_37 : D1 cX9_leastPart 37 (.invokevirtual 134) 3 40 := ⟨by decide +kernel, rfl⟩
theorem dX9_leastPart_40 : D1 cX9_leastPart 40 (.aload_n 0) 1 41 := ⟨by decide +kernel, rfl⟩
theorem dX9_leastPart_41 : D1 cX9_leastPart 41 (.iload_n 1) 1 42 := ⟨by decide +kernel, rfl⟩
theorem dX9_leastPart_42 : D1 cX9_leastPart 42 (.invokevirtual 137) 3 45 := ⟨by decide +kernel, rfl⟩
theorem dX9_leastPart_45 : DJ cX9_leastPart 45 (.ifCond .eq) 48 52 := ⟨7, by decide +kernel, rfl, by decide⟩
theorem dX9_leastPart_48 : D1 cX9_leastPart 48 (.iconst (-1)) 1 49 := ⟨by decide +kernel, rfl⟩
theorem dX9_leastPart_49 : DJ cX9_leastPart 49 .goto 52 54 := ⟨5, by decide +kernel, rfl, by decide⟩
theorem dX9_leastPart_52 : D1 cX9_leastPart 52 (.iload 7) 2 54 := ⟨by decide +kernel, rfl⟩
theorem dX9_leastPart_54 : D1 cX9_leastPart 54 (.istore 6) 2 56 := ⟨by decide +kernel, rfl⟩
theorem dX9_leastPart_56 : D1 cX9_leastPart 56 (.aload_n 0) 1 57 := ⟨by decide +kernel, rfl⟩
theorem dX9_leastPart_57 : D1 cX9_leastPart 57 (.invokevirtual 150) 3 60 := ⟨by decide +kernel, rfl⟩
theorem dX9_leastPart_60 : D1 cX9_leastPart 60 (.iinc 7 1) 3 63 := ⟨by decide +kernel, rfl⟩
theorem dX9_leastPart_63 : DJ cX9_leastPart 63 .goto 66 10 := ⟨(-53), by decide +kernel, rfl, by decide⟩
theorem dX9_leastPart_66 : D1 cX9_leastPart 66 (.iload 6) 2 68 := ⟨by decide +kernel, rfl⟩
theorem dX9_leastPart_68 : DJ cX9_leastPart 68 (.ifCond .ge) 71 80 := ⟨12, by decide +kernel, rfl, by decide⟩
theorem dX9_leastPart_71 : D1 cX9_leastPart 71 (.aload_n 0) 1 72 := ⟨by decide +kernel, rfl⟩
theorem dX9_leastPart_72 : D1 cX9_leastPart 72 (.ldc 153) 2 74 := ⟨by decide +kernel, rfl⟩
theorem dX9_leastPart_74 : D1 cX9_leastPart 74 (.invokevirtual 59) 3 77 := ⟨by decide +kernel, rfl⟩
theorem dX9_leastPart_77 : DJ cX9_leastPart 77 .goto 80 82 := ⟨5, by decide +kernel, rfl, by decide⟩
theorem dX9_leastPart_80 : D1 cX9_leastPart 80 (.iload 6) 2 82 := ⟨by decide +kernel, rfl⟩
theorem dX9_leastPart_82 : D1 cX9_leastPart 82 (.ireturn) 1 83 := ⟨by decide +kernel, rfl⟩
theorem dX9_logs_0 : D1 cX9_logs 0 (.aload_n 0) 1 1 := ⟨by decide +kernel, rfl⟩
theorem dX9_logs_1 : D1 cX9_logs 1 (.iload_n 1) 1 2 := ⟨by decide +kernel, rfl⟩
theorem dX9_logs_2 : D1 cX9_logs 2 (.invokevirtual 71) 3 5 := ⟨by decide +kernel, rfl⟩
theorem dX9_logs_5 : DJ cX9_logs 5 (.ifCond .eq) 8 15 := ⟨10, by decide +kernel, rfl, by decide⟩
theorem dX9_logs_8 : D1 cX9_logs 8 (.iload_n 2) 1 9 := ⟨by decide +kernel, rfl⟩
theorem dX9_logs_9 : D1 cX9_logs 9 (.invokestatic 154) 3 12 := ⟨by decide +kernel, rfl⟩
theorem dX9_logs_12 : DJ cX9_logs 12 (.ifCond .ne) 15 22 := ⟨10, by decide +kernel, rfl, by decide⟩
theorem dX9_logs_15 : D1 cX9_logs 15 (.aload_n 0) 1 16 := ⟨by decide +kernel, rfl⟩
theorem dX9_logs_16 : D1 cX9_logs 16 (.ldc 47) 2 18 := ⟨by decide +kernel, rfl⟩
theorem dX9_logs_18 : D1 cX9_logs 18 (.invokevirtual 59) 3 21 := ⟨by decide +kernel, rfl⟩
theorem dX9_logs_21 : D1 cX9_logs 21 (.ireturn) 1 22 := ⟨by decide +kernel, rfl⟩
theorem dX9_logs_22 : D1 cX9_logs 22 (.aload_n 0) 1 23 := ⟨by decide +kernel, rfl⟩
theorem dX9_logs_23 : D1 cX9_logs 23 (.iload_n 2) 1 24 := ⟨by decide +kernel, rfl⟩
theorem dX9_logs_24 : D1 cX9_logs 24 (.invokevirtual 128) 3 27 := ⟨by decide +kernel, rfl⟩
theorem dX9_logs_27 : DJ cX9_logs 27 (.ifCond .eq) 30 39 := ⟨12, by decide +kernel, rfl, by decide⟩
theorem dX9_logs_30 : D1 cX9_logs 30 (.aload_n 0) 1 31 := ⟨by decide +kernel, rfl⟩
theorem dX9_logs_31 : D1 cX9_logs 31 (.ldc 100) 2 33 := ⟨by decide +kernel, rfl⟩
theorem dX9_logs_33 : D1 cX9_logs 33 (.invokevirtual 59) 3 36 := ⟨by decide +kernel, rfl⟩
theorem dX9_logs_36 : DJ cX9_logs 36 .goto 39 49 := ⟨13, by decide +kernel, rfl, by decide⟩
theorem dX9_logs_39 : D1 cX9_logs 39 (.aload_n 0) 1 40 := ⟨by decide +kernel, rfl⟩
theorem dX9_logs_40 : D1 cX9_logs 40 (.iload_n 1) 1 41 := ⟨by decide +kernel, rfl⟩
theorem dX9_logs_41 : D1 cX9_logs 41 (.iconst 3) 1 42 := ⟨by decide +kernel, rfl⟩
theorem dX9_logs_42 : D1 cX9_logs 42 (.iconst 0) 1 43 := ⟨by decide +kernel, rfl⟩
theorem dX9_logs_43 : D1 cX9_logs 43 (.bipush 99) 2 45 := ⟨by decide +kernel, rfl⟩
theorem dX9_logs_45 : D1 cX9_logs 45 (.iload_n 2) 1 46 := ⟨by decide +kernel, rfl⟩
theorem dX9_logs_46 : D1 cX9_logs 46 (.invokevirtual 163) 3 49 := ⟨by decide +kernel, rfl⟩
theorem dX9_logs_49 : D1 cX9_logs 49 (.ireturn) 1 50 := ⟨by decide +kernel, rfl⟩
theorem dX9_wall_0 : D1 cX9_wall 0 (.aload_n 0) 1 1 := ⟨by decide +kernel, rfl⟩
theorem dX9_wall_1 : D1 cX9_wall 1 (.iload_n 1) 1 2 := ⟨by decide +kernel, rfl⟩
theorem dX9_wall_2 : D1 cX9_wall 2 (.invokevirtual 71) 3 5 := ⟨by decide +kernel, rfl⟩
theorem dX9_wall_5 : DJ cX9_wall 5 (.ifCond .eq) 8 15 := ⟨10, by decide +kernel, rfl, by decide⟩
theorem dX9_wall_8 : D1 cX9_wall 8 (.iload_n 2) 1 9 := ⟨by decide +kernel, rfl⟩
theorem dX9_wall_9 : D1 cX9_wall 9 (.invokestatic 154) 3 12 := ⟨by decide +kernel, rfl⟩
theorem dX9_wall_12 : DJ cX9_wall 12 (.ifCond .ne) 15 22 := ⟨10, by decide +kernel, rfl, by decide⟩
theorem dX9_wall_15 : D1 cX9_wall 15 (.aload_n 0) 1 16 := ⟨by decide +kernel, rfl⟩
theorem dX9_wall_16 : D1 cX9_wall 16 (.ldc 47) 2 18 := ⟨by decide +kernel, rfl⟩
theorem dX9_wall_18 : D1 cX9_wall 18 (.invokevirtual 59) 3 21 := ⟨by decide +kernel, rfl⟩
theorem dX9_wall_21 : D1 cX9_wall 21 (.ireturn) 1 22 := ⟨by decide +kernel, rfl⟩
theorem dX9_wall_22 : D1 cX9_wall 22 (.aload_n 0) 1 23 := ⟨by decide +kernel, rfl⟩
theorem dX9_wall_23 : D1 cX9_wall 23 (.iload_n 2) 1 24 := ⟨by decide +kernel, rfl⟩
theorem dX9_wall_24 : D1 cX9_wall 24 (.invokevirtual 128) 3 27 := ⟨by decide +kernel, rfl⟩
theorem dX9_wall_27 : DJ cX9_wall 27 (.ifCond .eq) 30 39 := ⟨12, by decide +kernel, rfl, by decide⟩
theorem dX9_wall_30 : D1 cX9_wall 30 (.aload_n 0) 1 31 := ⟨by decide +kernel, rfl⟩
theorem dX9_wall_31 : D1 cX9_wall 31 (.ldc 100) 2 33 := ⟨by decide +kernel, rfl⟩
theorem dX9_wall_33 : D1 cX9_wall 33 (.invokevirtual 59) 3 36 := ⟨by decide +kernel, rfl⟩
theorem dX9_wall_36 : DJ cX9_wall 36 .goto 39 49 := ⟨13, by decide +kernel, rfl, by decide⟩
theorem dX9_wall_39 : D1 cX9_wall 39 (.aload_n 0) 1 40 := ⟨by decide +kernel, rfl⟩
theorem dX9_wall_40 : D1 cX9_wall 40 (.iload_n 1) 1 41 := ⟨by decide +kernel, rfl⟩
theorem dX9_wall_41 : D1 cX9_wall 41 (.iconst 2) 1 42 := ⟨by decide +kernel, rfl⟩
theorem dX9_wall_42 : D1 cX9_wall 42 (.iconst 1) 1 43 := ⟨by decide +kernel, rfl⟩
theorem dX9_wall_43 : D1 cX9_wall 43 (.bipush 40) 2 45 := ⟨by decide +kernel, rfl⟩
theorem dX9_wall_45 : D1 cX9_wall 45 (.iload_n 2) 1 46 := ⟨by decide +kernel, rfl⟩
theorem dX9_wall_46 : D1 cX9_wall 46 (.invokevirtual 163) 3 49 := ⟨by decide +kernel, rfl⟩
theorem dX9_wall_49 : D1 cX9_wall 49 (.ireturn) 1 50 := ⟨by decide +kernel, rfl⟩
theorem dX9_straw_0 : D1 cX9_straw 0 (.iload_n 1) 1 1 := ⟨by decide +kernel, rfl⟩
theorem dX9_straw_1 : D1 cX9_straw 1 (.invokestatic 154) 3 4 := ⟨by decide +kernel, rfl⟩
theorem dX9_straw_4 : DJ cX9_straw 4 (.ifCond .ne) 7 14 := ⟨10, by decide +kernel, rfl, by decide⟩
theorem dX9_straw_7 : D1 cX9_straw 7 (.aload_n 0) 1 8 := ⟨by decide +kernel, rfl⟩
theorem dX9_straw_8 : D1 cX9_straw 8 (.ldc 47) 2 10 := ⟨by decide +kernel, rfl⟩
theorem dX9_straw_10 : D1 cX9_straw 10 (.invokevirtual 59) 3 13 := ⟨by decide +kernel, rfl⟩
theorem dX9_straw_13 : D1 cX9_straw 13 (.ireturn) 1 14 := ⟨by decide +kernel, rfl⟩
theorem dX9_straw_14 : D1 cX9_straw 14 (.aload_n 0) 1 15 := ⟨by decide +kernel, rfl⟩
theorem dX9_straw_15 : D1 cX9_straw 15 (.getfield 7) 3 18 := ⟨by decide +kernel, rfl⟩
theorem dX9_straw_18 : D1 cX9_straw 18 (.iconst 1) 1 19 := ⟨by decide +kernel, rfl⟩
theorem dX9_straw_19 : D1 cX9_straw 19 (.iaload) 1 20 := ⟨by decide +kernel, rfl⟩
theorem dX9_straw_20 : DJ cX9_straw 20 (.ifCond .eq) 23 31 := ⟨11, by decide +kernel, rfl, by decide⟩
theorem dX9_straw_23 : D1 cX9_straw 23 (.aload_n 0) 1 24 := ⟨by decide +kernel, rfl⟩
theorem dX9_straw_24 : D1 cX9_straw 24 (.iload_n 1) 1 25 := ⟨by decide +kernel, rfl⟩
theorem dX9_straw_25 : D1 cX9_straw 25 (.invokevirtual 128) 3 28 := ⟨by decide +kernel, rfl⟩
theorem dX9_straw_28 : DJ cX9_straw 28 (.ifCond .eq) 31 38 := ⟨10, by decide +kernel, rfl, by decide⟩
theorem dX9_straw_31 : D1 cX9_straw 31 (.aload_n 0) 1 32 := ⟨by decide +kernel, rfl⟩
theorem dX9_straw_32 : D1 cX9_straw 32 (.ldc 100) 2 34 := ⟨by decide +kernel, rfl⟩
theorem dX9_straw_34 : D1 cX9_straw 34 (.invokevirtual 59) 3 37 := ⟨by decide +kernel, rfl⟩
theorem dX9_straw_37 : D1 cX9_straw 37 (.ireturn) 1 38 := ⟨by decide +kernel, rfl⟩
theorem dX9_straw_38 : D1 cX9_straw 38 (.aload_n 0) 1 39 := ⟨by decide +kernel, rfl⟩
theorem dX9_straw_39 : D1 cX9_straw 39 (.invokevirtual 144) 3 42 := ⟨by decide +kernel, rfl⟩
theorem dX9_straw_42 : D1 cX9_straw 42 (.iconst 0) 1 43 := ⟨by decide +kernel, rfl⟩
theorem dX9_straw_43 : D1 cX9_straw 43 (.istore_n 2) 1 44 := ⟨by decide +kernel, rfl⟩
theorem dX9_straw_44 : D1 cX9_straw 44 (.iconst (-1)) 1 45 := ⟨by decide +kernel, rfl⟩
theorem dX9_straw_45 : D1 cX9_straw 45 (.istore_n 3) 1 46 := ⟨by decide +kernel, rfl⟩
theorem dX9_straw_46 : D1 cX9_straw 46 (.iconst 0) 1 47 := ⟨by decide +kernel, rfl⟩
theorem dX9_straw_47 : D1 cX9_straw 47 (.istore 4) 2 49 := ⟨by decide +kernel, rfl⟩
theorem dX9_straw_49 : D1 cX9_straw 49 (.iload 4) 2 51 := ⟨by decide +kernel, rfl⟩
theorem dX9_straw_51 : D1 cX9_straw 51 (.aload_n 0) 1 52 := ⟨by decide +kernel, rfl⟩
theorem dX9_straw_52 : D1 cX9_straw 52 (.getfield 7) 3 55 := ⟨by decide +kernel, rfl⟩
theorem dX9_straw_55 : D1 cX9_straw 55 (.iconst 1) 1 56 := ⟨by decide +kernel, rfl⟩
theorem dX9_straw_56 : D1 cX9_straw 56 (.iaload) 1 57 := ⟨by decide +kernel, rfl⟩
theorem dX9_straw_57 : DJ cX9_straw 57 (.if_icmp .ge) 60 143 := ⟨86, by decide +kernel, rfl, by decide⟩
theorem dX9_straw_60 : D1 cX9_straw 60 (.aload_n 0) 1 61 := ⟨by decide +kernel, rfl⟩
theorem dX9_straw_61 : D1 cX9_straw 61 (.iload 4) 2 63 := ⟨by decide +kernel, rfl⟩
theorem dX9_straw_63 : D1 cX9_straw 63 (.iconst 2) 1 64 := ⟨by decide +kernel, rfl⟩
theorem dX9_straw_64 : D1 cX9_straw 64 (.invokevirtual 68) 3 67 := ⟨by decide +kernel, rfl⟩
theorem dX9_straw_67 : D1 cX9_straw 67 (.iconst 5) 1 68 := ⟨by decide +kernel, rfl⟩
theorem dX9_straw_68 : D1 cX9_straw 68 (.iadd) 1 69 := ⟨by decide +kernel, rfl⟩
theorem dX9_straw_69 : D1 cX9_straw 69 (.istore 5) 2 71 := ⟨by decide +kernel, rfl⟩
theorem dX9_straw_71 : D1 cX9_straw 71 (.aload_n 0) 1 72 := ⟨by decide +kernel, rfl⟩
theorem dX9_straw_72 : D1 cX9_straw 72 (.getfield 7) 3 75 := ⟨by decide +kernel, rfl⟩
theorem dX9_straw_75 : D1 cX9_straw 75 (.iload 4) 2 77 := ⟨by decide +kernel, rfl⟩
theorem dX9_straw_77 : D1 cX9_straw 77 (.iconst 2) 1 78 := ⟨by decide +kernel, rfl⟩
theorem dX9_straw_78 : D1 cX9_straw 78 (.invokestatic 53) 3 81 := ⟨by decide +kernel, rfl⟩
theorem dX9_straw_81 : D1 cX9_straw 81 (.iload 5) 2 83 := ⟨by decide +kernel, rfl⟩
theorem dX9_straw_83 : D1 cX9_straw 83 (.bipush 40) 2 85 := ⟨by decide +kernel, rfl⟩
theorem dX9_straw_85 : DJ cX9_straw 85 (.if_icmp .ge) 88 93 := ⟨8, by decide +kernel, rfl, by decide⟩
theorem dX9_straw_88 : D1 cX9_straw 88 (.iload 5) 2 90 := ⟨by decide +kernel, rfl⟩
theorem dX9_straw_90 : DJ cX9_straw 90 .goto 93 95 := ⟨5, by decide +kernel, rfl, by decide⟩
theorem dX9_straw_93 : D1 cX9_straw 93 (.bipush 40) 2 95 := ⟨by decide +kernel, rfl⟩
theorem dX9_straw_95 : D1 cX9_straw 95 (.iastore) 1 96 := ⟨by decide +kernel, rfl⟩
theorem dX9_straw_96 : D1 cX9_straw 96 (.aload_n 0) 1 97 := ⟨by decide +kernel, rfl⟩
theorem dX9_straw_97 : D1 cX9_straw 97 (.iload_n 1) 1 98 := ⟨by decide +kernel, rfl⟩
theorem dX9_straw_98 : D1 cX9_straw 98 (.invokevirtual 134) 3 101 := ⟨by decide +kernel, rfl⟩
theorem dX9_straw_101 : D1 cX9_straw 101 (.aload_n 0) 1 102 := ⟨by decide +kernel, rfl⟩
theorem dX9_straw_102 : D1 cX9_straw 102 (.invokevirtual 147) 3 105 := ⟨by decide +kernel, rfl⟩
theorem dX9_straw_105 : D1 cX9_straw 105 (.istore 6) 2 107 := ⟨by decide +kernel, rfl⟩
theorem dX9_straw_107 : D1 cX9_straw 107 (.aload_n 0) 1 108 := ⟨by decide +kernel, rfl⟩
theorem dX9_straw_108 : D1 cX9_straw 108 (.invokevirtual 150) 3 111 := ⟨by decide +kernel, rfl⟩
theorem dX9_straw_111 : D1 cX9_straw 111 (.iload 6) 2 113 := ⟨by decide +kernel, rfl⟩
theorem dX9_straw_113 : D1 cX9_straw 113 (.iload_n 3) 1 114 := ⟨by decide +kernel, rfl⟩
theorem dX9_straw_114 : DJ cX9_straw 114 (.if_icmp .le) 117 122 := ⟨8, by decide +kernel, rfl, by decide⟩
theorem dX9_straw_117 : D1 cX9_straw 117 (.iload 4) 2 119 := ⟨by decide +kernel, rfl⟩
theorem dX9_straw_119 : DJ cX9_straw 119 .goto 122 123 := ⟨4, by decide +kernel, rfl, by decide⟩
theorem dX9_straw_122 : D1 cX9_straw 122 (.iload_n 2) 1 123 := ⟨by decide +kernel, rfl⟩
theorem dX9_straw_123 : D1 cX9_straw 123 (.istore_n 2) 1 124 := ⟨by decide +kernel, rfl⟩
theorem dX9_straw_124 : D1 cX9_straw 124 (.iload 6) 2 126 := ⟨by decide +kernel, rfl⟩
theorem dX9_straw_126 : D1 cX9_straw 126 (.iload_n 3) 1 127 := ⟨by decide +kernel, rfl⟩
theorem dX9_straw_127 : DJ cX9_straw 127 (.if_icmp .le) 130 135 := ⟨8, by decide +kernel, rfl, by decide⟩
theorem dX9_straw_130 : D1 cX9_straw 130 (.iload 6) 2 132 := ⟨by decide +kernel, rfl⟩
theorem dX9_straw_132 : DJ cX9_straw 132 .goto 135 136 := ⟨4, by decide +kernel, rfl, by decide⟩
theorem dX9_straw_135 : D1 cX9_straw 135 (.iload_n 3) 1 136 := ⟨by decide +kernel, rfl⟩
theorem dX9_straw_136 : D1 cX9_straw 136 (.istore_n 3) 1 137 := ⟨by decide +kernel, rfl⟩
theorem dX9_straw_137 : D1 cX9_straw 137 (.iinc 4 1) 3 140 := ⟨by decide +kernel, rfl⟩
theorem dX9_straw_140 : DJ cX9_straw 140 .goto 143 49 := ⟨(-91), by decide +kernel, rfl, by decide⟩
theorem dX9_straw_143 : D1 cX9_straw 143 (.iload_n 2) 1 144 := ⟨by decide +kernel, rfl⟩
theorem dX9_straw_144 : D1 cX9_straw 144 (.ireturn) 1 145 := ⟨by decide +kernel, rfl⟩
theorem dX9_kindFor_0 : D1 cX9_kindFor 0 (.aload_n 0) 1 1 := ⟨by decide +kernel, rfl⟩
theorem dX9_kindFor_1 : D1 cX9_kindFor 1 (.iload_n 1) 1 2 := ⟨by decide +kernel, rfl⟩
theorem dX9_kindFor_2 : D1 cX9_kindFor 2 (.invokevirtual 71) 3 5 := ⟨by decide +kernel, rfl⟩
theorem dX9_kindFor_5 : DJ cX9_kindFor 5 (.ifCond .eq) 8 15 := ⟨10, by decide +kernel, rfl, by decide⟩
theorem dX9_kindFor_8 : D1 cX9_kindFor 8 (.iload_n 2) 1 9 := ⟨by decide +kernel, rfl⟩
theorem dX9_kindFor_9 : D1 cX9_kindFor 9 (.invokestatic 154) 3 12 := ⟨by decide +kernel, rfl⟩
theorem dX9_kindFor_12 : DJ cX9_kindFor 12 (.ifCond .ne) 15 22 := ⟨10, by decide +kernel, rfl, by decide⟩
theorem dX9_kindFor_15 : D1 cX9_kindFor 15 (.aload_n 0) 1 16 := ⟨by decide +kernel, rfl⟩
theorem dX9_kindFor_16 : D1 cX9_kindFor 16 (.ldc 47) 2 18 := ⟨by decide +kernel, rfl⟩
theorem dX9_kindFor_18 : D1 cX9_kindFor 18 (.invokevirtual 59) 3 21 := ⟨by decide +kernel, rfl⟩
theorem dX9_kindFor_21 : D1 cX9_kindFor 21 (.ireturn) 1 22 := ⟨by decide +kernel, rfl⟩
theorem dX9_kindFor_22 : D1 cX9_kindFor 22 (.aload_n 0) 1 23 := ⟨by decide +kernel, rfl⟩
theorem dX9_kindFor_23 : D1 cX9_kindFor 23 (.iload_n 2) 1 24 := ⟨by decide +kernel, rfl⟩
theorem dX9_kindFor_24 : D1 cX9_kindFor 24 (.invokevirtual 128) 3 27 := ⟨by decide +kernel, rfl⟩
theorem dX9_kindFor_27 : DJ cX9_kindFor 27 (.ifCond .eq) 30 37 := ⟨10, by decide +kernel, rfl, by decide⟩
theorem dX9_kindFor_30 : D1 cX9_kindFor 30 (.aload_n 0) 1 31 := ⟨by decide +kernel, rfl⟩
theorem dX9_kindFor_31 : D1 cX9_kindFor 31 (.ldc 100) 2 33 := ⟨by decide +kernel, rfl⟩
theorem dX9_kindFor_33 : D1 cX9_kindFor 33 (.invokevirtual 59) 3 36 := ⟨by decide +kernel, rfl⟩
theorem dX9_kindFor_36 : D1 cX9_kindFor 36 (.ireturn) 1 37 := ⟨by decide +kernel, rfl⟩
theorem dX9_kindFor_37 : D1 cX9_kindFor 37 (.aload_n 0) 1 38 := ⟨by decide +kernel, rfl⟩
theorem dX9_kindFor_38 : D1 cX9_kindFor 38 (.invokevirtual 144) 3 41 := ⟨by decide +kernel, rfl⟩
theorem dX9_kindFor_41 : D1 cX9_kindFor 41 (.iconst 0) 1 42 := ⟨by decide +kernel, rfl⟩
theorem dX9_kindFor_42 : D1 cX9_kindFor 42 (.istore_n 3) 1 43 := ⟨by decide +kernel, rfl⟩
theorem dX9_kindFor_43 : D1 cX9_kindFor 43 (.iconst (-1)) 1 44 := ⟨by decide +kernel, rfl⟩
theorem dX9_kindFor_44 : D1 cX9_kindFor 44 (.istore 4) 2 46 := ⟨by decide +kernel, rfl⟩
theorem dX9_kindFor_46 : D1 cX9_kindFor 46 (.iconst 0) 1 47 := ⟨by decide +kernel, rfl⟩
theorem dX9_kindFor_47 : D1 cX9_kindFor 47 (.istore 5) 2 49 := ⟨by decide +kernel, rfl⟩
theorem dX9_kindFor_49 : D1 cX9_kindFor 49 (.iload 5) 2 51 := ⟨by decide +kernel, rfl⟩
theorem dX9_kindFor_51 : D1 cX9_kindFor 51 (.bipush 7) 2 53 := ⟨by decide +kernel, rfl⟩
theorem dX9_kindFor_53 : DJ cX9_kindFor 53 (.if_icmp .ge) 56 121 := ⟨68, by decide +kernel, rfl, by decide⟩
theorem dX9_kindFor_56 : D1 cX9_kindFor 56 (.aload_n 0) 1 57 := ⟨by decide +kernel, rfl⟩
theorem dX9_kindFor_57 : D1 cX9_kindFor 57 (.getfield 7) 3 60 := ⟨by decide +kernel, rfl⟩
theorem dX9_kindFor_60 : D1 cX9_kindFor 60 (.iload_n 1) 1 61 := ⟨by decide +kernel, rfl⟩
theorem dX9_kindFor_61 : D1 cX9_kindFor 61 (.iconst 0) 1 62 := ⟨by decide +kernel, rfl⟩
theorem dX9_kindFor_62 : D1 cX9_kindFor 62 (.invokestatic 53) 3 65 := ⟨by decide +kernel, rfl⟩
theorem dX9_kindFor_65 : D1 cX9_kindFor 65 (.iload 5) 2 67 := ⟨by decide +kernel, rfl⟩
theorem dX9_kindFor_67 : D1 cX9_kindFor 67 (.iastore) 1 68 := ⟨by decide +kernel, rfl⟩
theorem dX9_kindFor_68 : D1 cX9_kindFor 68 (.aload_n 0) 1 69 := ⟨by decide +kernel, rfl⟩
theorem dX9_kindFor_69 : D1 cX9_kindFor 69 (.iload_n 2) 1 70 := ⟨by decide +kernel, rfl⟩
theorem dX9_kindFor_70 : D1 cX9_kindFor 70 (.invokevirtual 134) 3 73 := ⟨by decide +kernel, rfl⟩
theorem dX9_kindFor_73 : D1 cX9_kindFor 73 (.aload_n 0) 1 74 := ⟨by decide +kernel, rfl⟩
theorem dX9_kindFor_74 : D1 cX9_kindFor 74 (.iload_n 1) 1 75 := ⟨by decide +kernel, rfl⟩
theorem dX9_kindFor_75 : D1 cX9_kindFor 75 (.iconst 1) 1 76 := ⟨by decide +kernel, rfl⟩
theorem dX9_kindFor_76 : D1 cX9_kindFor 76 (.invokevirtual 68) 3 79 := ⟨by decide +kernel, rfl⟩
theorem dX9_kindFor_79 : D1 cX9_kindFor 79 (.istore 6) 2 81 := ⟨by decide +kernel, rfl⟩
theorem dX9_kindFor_81 : D1 cX9_kindFor 81 (.aload_n 0) 1 82 := ⟨by decide +kernel, rfl⟩
theorem dX9_kindFor_82 : D1 cX9_kindFor 82 (.invokevirtual 150) 3 85 := ⟨by decide +kernel, rfl⟩
theorem dX9_kindFor_85 : D1 cX9_kindFor 85 (.iload 6) 2 87 := ⟨by decide +kernel, rfl⟩
theorem dX9_kindFor_87 : D1 cX9_kindFor 87 (.iload 4) 2 89 := ⟨by decide +kernel, rfl⟩
theorem dX9_kindFor_89 : DJ cX9_kindFor 89 (.if_icmp .le) 92 97 := ⟨8, by decide +kernel, rfl, by decide⟩
theorem dX9_kindFor_92 : D1 cX9_kindFor 92 (.iload 5) 2 94 := ⟨by decide +kernel, rfl⟩
theorem dX9_kindFor_94 : DJ cX9_kindFor 94 .goto 97 98 := ⟨4, by decide +kernel, rfl, by decide⟩
theorem dX9_kindFor_97 : D1 cX9_kindFor 97 (.iload_n 3) 1 98 := ⟨by decide +kernel, rfl⟩
theorem dX9_kindFor_98 : D1 cX9_kindFor 98 (.istore_n 3) 1 99 := ⟨by decide +kernel, rfl⟩
theorem dX9_kindFor_99 : D1 cX9_kindFor 99 (.iload 6) 2 101 := ⟨by decide +kernel, rfl⟩
theorem dX9_kindFor_101 : D1 cX9_kindFor 101 (.iload 4) 2 103 := ⟨by decide +kernel, rfl⟩
theorem dX9_kindFor_103 : DJ cX9_kindFor 103 (.if_icmp .le) 106 111 := ⟨8, by decide +kernel, rfl, by decide⟩
theorem dX9_kindFor_106 : D1 cX9_kindFor 106 (.iload 6) 2 108 := ⟨by decide +kernel, rfl⟩
theorem dX9_kindFor_108 : DJ cX9_kindFor 108 .goto 111 113 := ⟨5, by decide +kernel, rfl, by decide⟩
theorem dX9_kindFor_111 : D1 cX9_kindFor 111 (.iload 4) 2 113 := ⟨by decide +kernel, rfl⟩
theorem dX9_kindFor_113 : D1 cX9_kindFor 113 (.istore 4) 2 115 := ⟨by decide +kernel, rfl⟩
theorem dX9_kindFor_115 : D1 cX9_kindFor 115 (.iinc 5 1) 3 118 := ⟨by decide +kernel, rfl⟩
theorem dX9_kindFor_118 : DJ cX9_kindFor 118 .goto 121 49 := ⟨(-69), by decide +kernel, rfl, by decide⟩
theorem dX9_kindFor_121 : D1 cX9_kindFor 121 (.iload_n 3) 1 122 := ⟨by decide +kernel, rfl⟩
theorem dX9_kindFor_122 : D1 cX9_kindFor 122 (.ireturn) 1 123 := ⟨by decide +kernel, rfl⟩
theorem dX9_begins_0 : D1 cX9_begins 0 (.aload_n 0) 1 1 := ⟨by decide +kernel, rfl⟩
theorem dX9_begins_1 : D1 cX9_begins 1 (.sipush 400) 3 4 := ⟨by decide +kernel, rfl⟩
theorem dX9_begins_4 : D1 cX9_begins 4 (.putfield 166) 3 7 := ⟨by decide +kernel, rfl⟩
theorem dX9_begins_7 : D1 cX9_begins 7 (.aload_n 0) 1 8 := ⟨by decide +kernel, rfl⟩
theorem dX9_begins_8 : D1 cX9_begins 8 (.iconst 0) 1 9 := ⟨by decide +kernel, rfl⟩
theorem dX9_begins_9 : D1 cX9_begins 9 (.putfield 169) 3 12 := ⟨by decide +kernel, rfl⟩
theorem dX9_begins_12 : D1 cX9_begins 12 (.return_) 1 13 := ⟨by decide +kernel, rfl⟩
theorem dX9_isDone_0 : D1 cX9_isDone 0 (.aload_n 0) 1 1 := ⟨by decide +kernel, rfl⟩
theorem dX9_isDone_1 : D1 cX9_isDone 1 (.getfield 166) 3 4 := ⟨by decide +kernel, rfl⟩
theorem dX9_isDone_4 : D1 cX9_isDone 4 (.aload_n 0) 1 5 := ⟨by decide +kernel, rfl⟩
theorem dX9_isDone_5 : D1 cX9_isDone 5 (.getfield 22) 3 8 := ⟨by decide +kernel, rfl⟩
theorem dX9_isDone_8 : DJ cX9_isDone 8 (.if_icmp .le) 11 18 := ⟨10, by decide +kernel, rfl, by decide⟩
theorem dX9_isDone_11 : D1 cX9_isDone 11 (.aload_n 0) 1 12 := ⟨by decide +kernel, rfl⟩
theorem dX9_isDone_12 : D1 cX9_isDone 12 (.getfield 169) 3 15 := ⟨by decide +kernel, rfl⟩
theorem dX9_isDone_15 : DJ cX9_isDone 15 (.ifCond .eq) 18 22 := ⟨7, by decide +kernel, rfl, by decide⟩
theorem dX9_isDone_18 : D1 cX9_isDone 18 (.iconst 1) 1 19 := ⟨by decide +kernel, rfl⟩
theorem dX9_isDone_19 : DJ cX9_isDone 19 .goto 22 23 := ⟨4, by decide +kernel, rfl, by decide⟩
theorem dX9_isDone_22 : D1 cX9_isDone 22 (.iconst 0) 1 23 := ⟨by decide +kernel, rfl⟩
theorem dX9_isDone_23 : D1 cX9_isDone 23 (.ireturn) 1 24 := ⟨by decide +kernel, rfl⟩
theorem dX9_watches_0 : D1 cX9_watches 0 (.iconst 0) 1 1 := ⟨by decide +kernel, rfl⟩
theorem dX9_watches_1 : D1 cX9_watches 1 (.istore_n 2) 1 2 := ⟨by decide +kernel, rfl⟩
theorem dX9_watches_2 : D1 cX9_watches 2 (.iload_n 2) 1 3 := ⟨by decide +kernel, rfl⟩
theorem dX9_watches_3 : D1 cX9_watches 3 (.iload_n 1) 1 4 := ⟨by decide +kernel, rfl⟩
theorem dX9_watches_4 : DJ cX9_watches 4 (.if_icmp .ge) 7 72 := ⟨68, by decide +kernel, rfl, by decide⟩
theorem dX9_watches_7 : D1 cX9_watches 7 (.aload_n 0) 1 8 := ⟨by decide +kernel, rfl⟩
theorem dX9_watches_8 : D1 cX9_watches 8 (.invokevirtual 172) 3 11 := ⟨by decide +kernel, rfl⟩
theorem dX9_watches_11 : DJ cX9_watches 11 (.ifCond .ne) 14 72 := ⟨61, by decide +kernel, rfl, by decide⟩
theorem dX9_watches_14 : D1 cX9_watches 14 (.aload_n 0) 1 15 := ⟨by decide +kernel, rfl⟩
theorem dX9_watches_15 : D1 cX9_watches 15 (.invokevirtual 123) 3 18 := ⟨by decide +kernel, rfl⟩
theorem dX9_watches_18 : D1 cX9_watches 18 (.aload_n 0) 1 19 := ⟨by decide +kernel, rfl⟩
theorem dX9_watches_19 : D1 cX9_watches 19 (.invokevirtual 147) 3 22 := ⟨by decide +kernel, rfl⟩
theorem dX9_watches_22 : D1 cX9_watches 22 (.istore_n 3) 1 23 := ⟨by decide +kernel, rfl⟩
theorem dX9_watches_23 : D1 cX9_watches 23 (.aload_n 0) 1 24 := ⟨by decide +kernel, rfl⟩
theorem dX9_watches_24 : D1 cX9_watches 24 (.iload_n 3) 1 25 := ⟨by decide +kernel, rfl⟩
theorem dX9_watches_25 : D1 cX9_watches 25 (.aload_n 0) 1 26 := ⟨by decide +kernel, rfl⟩
theorem dX9_watches_26 : D1 cX9_watches 26 (.getfield 166) 3 29 := ⟨by decide +kernel, rfl⟩
theorem dX9_watches_29 : DJ cX9_watches 29 (.if_icmp .ge) 32 36 := ⟨7, by decide +kernel, rfl, by decide⟩
theorem dX9_watches_32 : D1 cX9_watches 32 (.iload_n 3) 1 33 := ⟨by decide +kernel, rfl⟩
theorem dX9_watches_33 : DJ cX9_watches 33 .goto 36 40 := ⟨7, by decide +kernel, rfl, by decide⟩
theorem dX9_watches_36 : D1 cX9_watches 36 (.aload_n 0) 1 37 := ⟨by decide +kernel, rfl⟩
theorem dX9_watches_37 : D1 cX9_watches 37 (.getfield 166) 3 40 := ⟨by decide +kernel, rfl⟩
theorem dX9_watches_40 : D1 cX9_watches 40 (.putfield 166) 3 43 := ⟨by decide +kernel, rfl⟩
theorem dX9_watches_43 : D1 cX9_watches 43 (.aload_n 0) 1 44 := ⟨by decide +kernel, rfl⟩
theorem dX9_watches_44 : D1 cX9_watches 44 (.aload_n 0) 1 45 := ⟨by decide +kernel, rfl⟩
theorem dX9_watches_45 : D1 cX9_watches 45 (.getfield 175) 3 48 := ⟨by decide +kernel, rfl⟩
theorem dX9_watches_48 : DJ cX9_watches 48 (.ifCond .eq) 51 62 := ⟨14, by decide +kernel, rfl, by decide⟩
theorem dX9_watches_51 : D1 cX9_watches 51 (.aload_n 0) 1 52 := ⟨by decide +kernel, rfl⟩
theorem dX9_watches_52 : D1 cX9_watches 52 (.invokevirtual 140) 3 55 := ⟨by decide +kernel, rfl⟩
theorem dX9_watches_55 : DJ cX9_watches 55 (.ifCond .eq) 58 62 := ⟨7, by decide +kernel, rfl, by decide⟩
theorem dX9_watches_58 : D1 cX9_watches 58 (.iconst 1) 1 59 := ⟨by decide +kernel, rfl⟩
theorem dX9_watches_59 : DJ cX9_watches 59 .goto 62 63 := ⟨4, by decide +kernel, rfl, by decide⟩
theorem dX9_watches_62 : D1 cX9_watches 62 (.iconst 0) 1 63 := ⟨by decide +kernel, rfl⟩
theorem dX9_watches_63 : D1 cX9_watches 63 (.putfield 169) 3 66 := ⟨by decide +kernel, rfl⟩
theorem dX9_watches_66 : D1 cX9_watches 66 (.iinc 2 1) 3 69 := ⟨by decide +kernel, rfl⟩
theorem dX9_watches_69 : DJ cX9_watches 69 .goto 72 2 := ⟨(-67), by decide +kernel, rfl, by decide⟩
theorem dX9_watches_72 : D1 cX9_watches 72 (.return_) 1 73 := ⟨by decide +kernel, rfl⟩
end
section
theorem dX9_stands_0 : D1 cX9_stands 0 (.iconst 0) 1 1 := ⟨by decide +kernel, rfl⟩
theorem dX9_stands_1 : D1 cX9_stands 1 (.istore_n 2) 1 2 := ⟨by decide +kernel, rfl⟩
theorem dX9_stands_2 : D1 cX9_stands 2 (.iload_n 2) 1 3 := ⟨by decide +kernel, rfl⟩
theorem dX9_stands_3 : D1 cX9_stands 3 (.bipush 73) 2 5 := ⟨by decide +kernel, rfl⟩
theorem dX9_stands_5 : DJ cX9_stands 5 (.if_icmp .ge) 8 31 := ⟨26, by decide +kernel, rfl, by decide⟩
theorem dX9_stands_8 : D1 cX9_stands 8 (.aload_n 0) 1 9 := ⟨by decide +kernel, rfl⟩
theorem dX9_stands_9 : D1 cX9_stands 9 (.getfield 26) 3 12 := ⟨by decide +kernel, rfl⟩
theorem dX9_stands_12 : D1 cX9_stands 12 (.bipush 73) 2 14 := ⟨by decide +kernel, rfl⟩
theorem dX9_stands_14 : D1 cX9_stands 14 (.iload_n 1) 1 15 := ⟨by decide +kernel, rfl⟩
theorem dX9_stands_15 : D1 cX9_stands 15 (.imul) 1 16 := ⟨by decide +kernel, rfl⟩
theorem dX9_stands_16 : D1 cX9_stands 16 (.iload_n 2) 1 17 := ⟨by decide +kernel, rfl⟩
theorem dX9_stands_17 : D1 cX9_stands 17 (.iadd) 1 18 := ⟨by decide +kernel, rfl⟩
theorem dX9_stands_18 : D1 cX9_stands 18 (.aload_n 0) 1 19 := ⟨by decide +kernel, rfl⟩
theorem dX9_stands_19 : D1 cX9_stands 19 (.getfield 7) 3 22 := ⟨by decide +kernel, rfl⟩
theorem dX9_stands_22 : D1 cX9_stands 22 (.iload_n 2) 1 23 := ⟨by decide +kernel, rfl⟩
theorem dX9_stands_23 : D1 cX9_stands 23 (.iaload) 1 24 := ⟨by decide +kernel, rfl⟩
theorem dX9_stands_24 : D1 cX9_stands 24 (.iastore) 1 25 := ⟨by decide +kernel, rfl⟩
theorem dX9_stands_25 : D1 cX9_stands 25 (.iinc 2 1) 3 28 := ⟨by decide +kernel, rfl⟩
theorem dX9_stands_28 : DJ cX9_stands 28 .goto 31 2 := ⟨(-26), by decide +kernel, rfl, by decide⟩
theorem dX9_stands_31 : D1 cX9_stands 31 (.aload_n 0) 1 32 := ⟨by decide +kernel, rfl⟩
theorem dX9_stands_32 : D1 cX9_stands 32 (.getfield 29) 3 35 := ⟨by decide +kernel, rfl⟩
theorem dX9_stands_35 : D1 cX9_stands 35 (.iload_n 1) 1 36 := ⟨by decide +kernel, rfl⟩
theorem dX9_stands_36 : D1 cX9_stands 36 (.aload_n 0) 1 37 := ⟨by decide +kernel, rfl⟩
theorem dX9_stands_37 : D1 cX9_stands 37 (.getfield 166) 3 40 := ⟨by decide +kernel, rfl⟩
theorem dX9_stands_40 : D1 cX9_stands 40 (.iastore) 1 41 := ⟨by decide +kernel, rfl⟩
theorem dX9_stands_41 : D1 cX9_stands 41 (.return_) 1 42 := ⟨by decide +kernel, rfl⟩
theorem dX9_standsAgain_0 : D1 cX9_standsAgain 0 (.iconst 0) 1 1 := ⟨by decide +kernel, rfl⟩
theorem dX9_standsAgain_1 : D1 cX9_standsAgain 1 (.istore_n 2) 1 2 := ⟨by decide +kernel, rfl⟩
theorem dX9_standsAgain_2 : D1 cX9_standsAgain 2 (.iload_n 2) 1 3 := ⟨by decide +kernel, rfl⟩
theorem dX9_standsAgain_3 : D1 cX9_standsAgain 3 (.bipush 73) 2 5 := ⟨by decide +kernel, rfl⟩
theorem dX9_standsAgain_5 : DJ cX9_standsAgain 5 (.if_icmp .ge) 8 31 := ⟨26, by decide +kernel, rfl, by decide⟩
theorem dX9_standsAgain_8 : D1 cX9_standsAgain 8 (.aload_n 0) 1 9 := ⟨by decide +kernel, rfl⟩
theorem dX9_standsAgain_9 : D1 cX9_standsAgain 9 (.getfield 7) 3 12 := ⟨by decide +kernel, rfl⟩
theorem dX9_standsAgain_12 : D1 cX9_standsAgain 12 (.iload_n 2) 1 13 := ⟨by decide +kernel, rfl⟩
theorem dX9_standsAgain_13 : D1 cX9_standsAgain 13 (.aload_n 0) 1 14 := ⟨by decide +kernel, rfl⟩
theorem dX9_standsAgain_14 : D1 cX9_standsAgain 14 (.getfield 26) 3 17 := ⟨by decide +kernel, rfl⟩
theorem dX9_standsAgain_17 : D1 cX9_standsAgain 17 (.bipush 73) 2 19 := ⟨by decide +kernel, rfl⟩
theorem dX9_standsAgain_19 : D1 cX9_standsAgain 19 (.iload_n 1) 1 20 := ⟨by decide +kernel, rfl⟩
theorem dX9_standsAgain_20 : D1 cX9_standsAgain 20 (.imul) 1 21 := ⟨by decide +kernel, rfl⟩
theorem dX9_standsAgain_21 : D1 cX9_standsAgain 21 (.iload_n 2) 1 22 := ⟨by decide +kernel, rfl⟩
theorem dX9_standsAgain_22 : D1 cX9_standsAgain 22 (.iadd) 1 23 := ⟨by decide +kernel, rfl⟩
theorem dX9_standsAgain_23 : D1 cX9_standsAgain 23 (.iaload) 1 24 := ⟨by decide +kernel, rfl⟩
theorem dX9_standsAgain_24 : D1 cX9_standsAgain 24 (.iastore) 1 25 := ⟨by decide +kernel, rfl⟩
theorem dX9_standsAgain_25 : D1 cX9_standsAgain 25 (.iinc 2 1) 3 28 := ⟨by decide +kernel, rfl⟩
theorem dX9_standsAgain_28 : DJ cX9_standsAgain 28 .goto 31 2 := ⟨(-26), by decide +kernel, rfl, by decide⟩
theorem dX9_standsAgain_31 : D1 cX9_standsAgain 31 (.aload_n 0) 1 32 := ⟨by decide +kernel, rfl⟩
theorem dX9_standsAgain_32 : D1 cX9_standsAgain 32 (.aload_n 0) 1 33 := ⟨by decide +kernel, rfl⟩
theorem dX9_standsAgain_33 : D1 cX9_standsAgain 33 (.getfield 29) 3 36 := ⟨by decide +kernel, rfl⟩
theorem dX9_standsAgain_36 : D1 cX9_standsAgain 36 (.iload_n 1) 1 37 := ⟨by decide +kernel, rfl⟩
theorem dX9_standsAgain_37 : D1 cX9_standsAgain 37 (.iaload) 1 38 := ⟨by decide +kernel, rfl⟩
theorem dX9_standsAgain_38 : D1 cX9_standsAgain 38 (.putfield 166) 3 41 := ⟨by decide +kernel, rfl⟩
theorem dX9_standsAgain_41 : D1 cX9_standsAgain 41 (.aload_n 0) 1 42 := ⟨by decide +kernel, rfl⟩
theorem dX9_standsAgain_42 : D1 cX9_standsAgain 42 (.iconst 0) 1 43 := ⟨by decide +kernel, rfl⟩
theorem dX9_standsAgain_43 : D1 cX9_standsAgain 43 (.putfield 169) 3 46 := ⟨by decide +kernel, rfl⟩
theorem dX9_standsAgain_46 : D1 cX9_standsAgain 46 (.return_) 1 47 := ⟨by decide +kernel, rfl⟩
theorem dX9_visits_0 : D1 cX9_visits 0 (.aload_n 0) 1 1 := ⟨by decide +kernel, rfl⟩
theorem dX9_visits_1 : D1 cX9_visits 1 (.iload_n 1) 1 2 := ⟨by decide +kernel, rfl⟩
theorem dX9_visits_2 : D1 cX9_visits 2 (.invokevirtual 108) 3 5 := ⟨by decide +kernel, rfl⟩
theorem dX9_visits_5 : D1 cX9_visits 5 (.aload_n 0) 1 6 := ⟨by decide +kernel, rfl⟩
theorem dX9_visits_6 : D1 cX9_visits 6 (.aload_n 0) 1 7 := ⟨by decide +kernel, rfl⟩
theorem dX9_visits_7 : D1 cX9_visits 7 (.getfield 7) 3 10 := ⟨by decide +kernel, rfl⟩
theorem dX9_visits_10 : D1 cX9_visits 10 (.iconst 3) 1 11 := ⟨by decide +kernel, rfl⟩
theorem dX9_visits_11 : D1 cX9_visits 11 (.iaload) 1 12 := ⟨by decide +kernel, rfl⟩
theorem dX9_visits_12 : D1 cX9_visits 12 (.iload_n 2) 1 13 := ⟨by decide +kernel, rfl⟩
theorem dX9_visits_13 : D1 cX9_visits 13 (.iadd) 1 14 := ⟨by decide +kernel, rfl⟩
theorem dX9_visits_14 : D1 cX9_visits 14 (.invokevirtual 178) 3 17 := ⟨by decide +kernel, rfl⟩
theorem dX9_visits_17 : D1 cX9_visits 17 (.return_) 1 18 := ⟨by decide +kernel, rfl⟩
theorem dX9_goesRound_0 : D1 cX9_goesRound 0 (.aload_n 0) 1 1 := ⟨by decide +kernel, rfl⟩
theorem dX9_goesRound_1 : D1 cX9_goesRound 1 (.invokevirtual 181) 3 4 := ⟨by decide +kernel, rfl⟩
theorem dX9_goesRound_4 : D1 cX9_goesRound 4 (.iconst 0) 1 5 := ⟨by decide +kernel, rfl⟩
theorem dX9_goesRound_5 : D1 cX9_goesRound 5 (.istore_n 2) 1 6 := ⟨by decide +kernel, rfl⟩
theorem dX9_goesRound_6 : D1 cX9_goesRound 6 (.iload_n 2) 1 7 := ⟨by decide +kernel, rfl⟩
theorem dX9_goesRound_7 : D1 cX9_goesRound 7 (.aload_n 0) 1 8 := ⟨by decide +kernel, rfl⟩
theorem dX9_goesRound_8 : D1 cX9_goesRound 8 (.getfield 7) 3 11 := ⟨by decide +kernel, rfl⟩
theorem dX9_goesRound_11 : D1 cX9_goesRound 11 (.iconst 1) 1 12 := ⟨by decide +kernel, rfl⟩
theorem dX9_goesRound_12 : D1 cX9_goesRound 12 (.iaload) 1 13 := ⟨by decide +kernel, rfl⟩
theorem dX9_goesRound_13 : DJ cX9_goesRound 13 (.if_icmp .ge) 16 28 := ⟨15, by decide +kernel, rfl, by decide⟩
theorem dX9_goesRound_16 : D1 cX9_goesRound 16 (.aload_n 0) 1 17 := ⟨by decide +kernel, rfl⟩
theorem dX9_goesRound_17 : D1 cX9_goesRound 17 (.iload_n 2) 1 18 := ⟨by decide +kernel, rfl⟩
theorem dX9_goesRound_18 : D1 cX9_goesRound 18 (.iload_n 1) 1 19 := ⟨by decide +kernel, rfl⟩
theorem dX9_goesRound_19 : D1 cX9_goesRound 19 (.invokevirtual 184) 3 22 := ⟨by decide +kernel, rfl⟩
theorem dX9_goesRound_22 : D1 cX9_goesRound 22 (.iinc 2 1) 3 25 := ⟨by decide +kernel, rfl⟩
theorem dX9_goesRound_25 : DJ cX9_goesRound 25 .goto 28 6 := ⟨(-19), by decide +kernel, rfl, by decide⟩
theorem dX9_goesRound_28 : D1 cX9_goesRound 28 (.return_) 1 29 := ⟨by decide +kernel, rfl⟩
theorem dX9_ended_0 : D1 cX9_ended 0 (.iload_n 2) 1 1 := ⟨by decide +kernel, rfl⟩
theorem dX9_ended_1 : DJ cX9_ended 1 (.ifCond .ne) 4 36 := ⟨35, by decide +kernel, rfl, by decide⟩
theorem dX9_ended_4 : D1 cX9_ended 4 (.aload_n 0) 1 5 := ⟨by decide +kernel, rfl⟩
theorem dX9_ended_5 : D1 cX9_ended 5 (.getfield 166) 3 8 := ⟨by decide +kernel, rfl⟩
theorem dX9_ended_8 : D1 cX9_ended 8 (.aload_n 0) 1 9 := ⟨by decide +kernel, rfl⟩
theorem dX9_ended_9 : D1 cX9_ended 9 (.getfield 187) 3 12 := ⟨by decide +kernel, rfl⟩
theorem dX9_ended_12 : DJ cX9_ended 12 (.if_icmp .le) 15 36 := ⟨24, by decide +kernel, rfl, by decide⟩
theorem dX9_ended_15 : D1 cX9_ended 15 (.aload_n 0) 1 16 := ⟨by decide +kernel, rfl⟩
theorem dX9_ended_16 : D1 cX9_ended 16 (.iload_n 1) 1 17 := ⟨by decide +kernel, rfl⟩
theorem dX9_ended_17 : D1 cX9_ended 17 (.putfield 190) 3 20 := ⟨by decide +kernel, rfl⟩
theorem dX9_ended_20 : D1 cX9_ended 20 (.aload_n 0) 1 21 := ⟨by decide +kernel, rfl⟩
theorem dX9_ended_21 : D1 cX9_ended 21 (.aload_n 0) 1 22 := ⟨by decide +kernel, rfl⟩
theorem dX9_ended_22 : D1 cX9_ended 22 (.getfield 166) 3 25 := ⟨by decide +kernel, rfl⟩
theorem dX9_ended_25 : D1 cX9_ended 25 (.putfield 187) 3 28 := ⟨by decide +kernel, rfl⟩
theorem dX9_ended_28 : D1 cX9_ended 28 (.aload_n 0) 1 29 := ⟨by decide +kernel, rfl⟩
theorem dX9_ended_29 : D1 cX9_ended 29 (.aload_n 0) 1 30 := ⟨by decide +kernel, rfl⟩
theorem dX9_ended_30 : D1 cX9_ended 30 (.getfield 166) 3 33 := ⟨by decide +kernel, rfl⟩
theorem dX9_ended_33 : D1 cX9_ended 33 (.putfield 22) 3 36 := ⟨by decide +kernel, rfl⟩
theorem dX9_ended_36 : D1 cX9_ended 36 (.iload_n 2) 1 37 := ⟨by decide +kernel, rfl⟩
theorem dX9_ended_37 : D1 cX9_ended 37 (.iconst 1) 1 38 := ⟨by decide +kernel, rfl⟩
theorem dX9_ended_38 : DJ cX9_ended 38 (.if_icmp .ne) 41 83 := ⟨45, by decide +kernel, rfl, by decide⟩
theorem dX9_ended_41 : D1 cX9_ended 41 (.aload_n 0) 1 42 := ⟨by decide +kernel, rfl⟩
theorem dX9_ended_42 : D1 cX9_ended 42 (.getfield 169) 3 45 := ⟨by decide +kernel, rfl⟩
theorem dX9_ended_45 : DJ cX9_ended 45 (.ifCond .ne) 48 83 := ⟨38, by decide +kernel, rfl, by decide⟩
theorem dX9_ended_48 : D1 cX9_ended 48 (.aload_n 0) 1 49 := ⟨by decide +kernel, rfl⟩
theorem dX9_ended_49 : D1 cX9_ended 49 (.getfield 190) 3 52 := ⟨by decide +kernel, rfl⟩
theorem dX9_ended_52 : DJ cX9_ended 52 (.ifCond .lt) 55 68 := ⟨16, by decide +kernel, rfl, by decide⟩
theorem dX9_ended_55 : D1 cX9_ended 55 (.aload_n 0) 1 56 := ⟨by decide +kernel, rfl⟩
theorem dX9_ended_56 : D1 cX9_ended 56 (.getfield 7) 3 59 := ⟨by decide +kernel, rfl⟩
theorem dX9_ended_59 : D1 cX9_ended 59 (.iconst 4) 1 60 := ⟨by decide +kernel, rfl⟩
theorem dX9_ended_60 : D1 cX9_ended 60 (.iaload) 1 61 := ⟨by decide +kernel, rfl⟩
theorem dX9_ended_61 : D1 cX9_ended 61 (.aload_n 0) 1 62 := ⟨by decide +kernel, rfl⟩
theorem dX9_ended_62 : D1 cX9_ended 62 (.getfield 193) 3 65 := ⟨by decide +kernel, rfl⟩
theorem dX9_ended_65 : DJ cX9_ended 65 (.if_icmp .ge) 68 83 := ⟨18, by decide +kernel, rfl, by decide⟩
theorem dX9_ended_68 : D1 cX9_ended 68 (.aload_n 0) 1 69 := ⟨by decide +kernel, rfl⟩
theorem dX9_ended_69 : D1 cX9_ended 69 (.iload_n 1) 1 70 := ⟨by decide +kernel, rfl⟩
theorem dX9_ended_70 : D1 cX9_ended 70 (.putfield 190) 3 73 := ⟨by decide +kernel, rfl⟩
theorem dX9_ended_73 : D1 cX9_ended 73 (.aload_n 0) 1 74 := ⟨by decide +kernel, rfl⟩
theorem dX9_ended_74 : D1 cX9_ended 74 (.aload_n 0) 1 75 := ⟨by decide +kernel, rfl⟩
theorem dX9_ended_75 : D1 cX9_ended 75 (.getfield 7) 3 78 := ⟨by decide +kernel, rfl⟩
theorem dX9_ended_78 : D1 cX9_ended 78 (.iconst 4) 1 79 := ⟨by decide +kernel, rfl⟩
theorem dX9_ended_79 : D1 cX9_ended 79 (.iaload) 1 80 := ⟨by decide +kernel, rfl⟩
theorem dX9_ended_80 : D1 cX9_ended 80 (.putfield 193) 3 83 := ⟨by decide +kernel, rfl⟩
theorem dX9_ended_83 : D1 cX9_ended 83 (.iload_n 2) 1 84 := ⟨by decide +kernel, rfl⟩
theorem dX9_ended_84 : D1 cX9_ended 84 (.iconst 2) 1 85 := ⟨by decide +kernel, rfl⟩
theorem dX9_ended_85 : DJ cX9_ended 85 (.if_icmp .ne) 88 175 := ⟨90, by decide +kernel, rfl, by decide⟩
theorem dX9_ended_88 : D1 cX9_ended 88 (.iconst 1) 1 89 := ⟨by decide +kernel, rfl⟩
theorem dX9_ended_89 : D1 cX9_ended 89 (.istore 4) 2 91 := ⟨by decide +kernel, rfl⟩
theorem dX9_ended_91 : D1 cX9_ended 91 (.iconst 0) 1 92 := ⟨by decide +kernel, rfl⟩
theorem dX9_ended_92 : D1 cX9_ended 92 (.istore 5) 2 94 := ⟨by decide +kernel, rfl⟩
theorem dX9_ended_94 : D1 cX9_ended 94 (.iload 5) 2 96 := ⟨by decide +kernel, rfl⟩
theorem dX9_ended_96 : D1 cX9_ended 96 (.aload_n 0) 1 97 := ⟨by decide +kernel, rfl⟩
theorem dX9_ended_97 : D1 cX9_ended 97 (.getfield 7) 3 100 := ⟨by decide +kernel, rfl⟩
theorem dX9_ended_100 : D1 cX9_ended 100 (.iconst 1) 1 101 := ⟨by decide +kernel, rfl⟩
theorem dX9_ended_101 : D1 cX9_ended 101 (.iaload) 1 102 := ⟨by decide +kernel, rfl⟩
theorem dX9_ended_102 : DJ cX9_ended 102 (.if_icmp .ge) 105 156 := ⟨54, by decide +kernel, rfl, by decide⟩
theorem dX9_ended_105 : D1 cX9_ended 105 (.iload 5) 2 107 := ⟨by decide +kernel, rfl⟩
theorem dX9_ended_107 : D1 cX9_ended 107 (.aload_n 0) 1 108 := ⟨by decide +kernel, rfl⟩
theorem dX9_ended_108 : D1 cX9_ended 108 (.getfield 38) 3 111 := ⟨by decide +kernel, rfl⟩
theorem dX9_ended_111 : D1 cX9_ended 111 (.iload_n 3) 1 112 := ⟨by decide +kernel, rfl⟩
theorem dX9_ended_112 : D1 cX9_ended 112 (.iaload) 1 113 := ⟨by decide +kernel, rfl⟩
theorem dX9_ended_113 : DJ cX9_ended 113 (.if_icmp .ge) 116 156 := ⟨43, by decide +kernel, rfl, by decide⟩
theorem dX9_ended_116 : D1 cX9_ended 116 (.iload 4) 2 118 := ⟨by decide +kernel, rfl⟩
theorem dX9_ended_118 : DJ cX9_ended 118 (.ifCond .eq) 121 147 := ⟨29, by decide +kernel, rfl, by decide⟩
theorem dX9_ended_121 : D1 cX9_ended 121 (.aload_n 0) 1 122 := ⟨by decide +kernel, rfl⟩
theorem dX9_ended_122 : D1 cX9_ended 122 (.iload 5) 2 124 := ⟨by decide +kernel, rfl⟩
theorem dX9_ended_124 : D1 cX9_ended 124 (.iconst 5) 1 125 := ⟨by decide +kernel, rfl⟩
theorem dX9_ended_125 : D1 cX9_ended 125 (.invokevirtual 68) 3 128 := ⟨by decide +kernel, rfl⟩
theorem dX9_ended_128 : D1 cX9_ended 128 (.aload_n 0) 1 129 := ⟨by decide +kernel, rfl⟩
theorem dX9_ended_129 : D1 cX9_ended 129 (.getfield 41) 3 132 := ⟨by decide +kernel, rfl⟩
theorem dX9_ended_132 : D1 cX9_ended 132 (.bipush 40) 2 134 := ⟨by decide +kernel, rfl⟩
theorem dX9_ended_134 : D1 cX9_ended 134 (.iload_n 3) 1 135 := ⟨by decide +kernel, rfl⟩
theorem dX9_ended_135 : D1 cX9_ended 135 (.imul) 1 136 := ⟨by decide +kernel, rfl⟩
theorem dX9_ended_136 : D1 cX9_ended 136 (.iload 5) 2 138 := ⟨by decide +kernel, rfl⟩
theorem dX9_ended_138 : D1 cX9_ended 138 (.iadd) 1 139 := ⟨by decide +kernel, rfl⟩
theorem dX9_ended_139 : D1 cX9_ended 139 (.iaload) 1 140 := ⟨by decide +kernel, rfl⟩
theorem dX9_ended_140 : DJ cX9_ended 140 (.if_icmp .ne) 143 147 := ⟨7, by decide +kernel, rfl, by decide⟩
theorem dX9_ended_143 : D1 cX9_ended 143 (.iconst 1) 1 144 := ⟨by decide +kernel, rfl⟩
theorem dX9_ended_144 : DJ cX9_ended 144 .goto 147 148 := ⟨4, by decide +kernel, rfl, by decide⟩
theorem dX9_ended_147 : D1 cX9_ended 147 (.iconst 0) 1 148 := ⟨by decide +kernel, rfl⟩
theorem dX9_ended_148 : D1 cX9_ended 148 (.istore 4) 2 150 := ⟨by decide +kernel, rfl⟩
theorem dX9_ended_150 : D1 cX9_ended 150 (.iinc 5 1) 3 153 := ⟨by decide +kernel, rfl⟩
theorem dX9_ended_153 : DJ cX9_ended 153 .goto 156 94 := ⟨(-59), by decide +kernel, rfl, by decide⟩
theorem dX9_ended_156 : D1 cX9_ended 156 (.aload_n 0) 1 157 := ⟨by decide +kernel, rfl⟩
theorem dX9_ended_157 : D1 cX9_ended 157 (.dup) 1 158 := ⟨by decide +kernel, rfl⟩
theorem dX9_ended_158 : D1 cX9_ended 158 (.getfield 196) 3 161 := ⟨by decide +kernel, rfl⟩
theorem dX9_ended_161 : D1 cX9_ended 161 (.iload 4) 2 163 := ⟨by decide +kernel, rfl⟩
theorem dX9_ended_163 : DJ cX9_ended 163 (.ifCond .eq) 166 170 := ⟨7, by decide +kernel, rfl, by decide⟩
theorem dX9_ended_166 : D1 cX9_ended 166 (.iconst 1) 1 167 := ⟨by decide +kernel, rfl⟩
theorem dX9_ended_167 : DJ cX9_ended 167 .goto 170 171 := ⟨4, by decide +kernel, rfl, by decide⟩
theorem dX9_ended_170 : D1 cX9_ended 170 (.iconst 0) 1 171 := ⟨by decide +kernel, rfl⟩
theorem dX9_ended_171 : D1 cX9_ended 171 (.iadd) 1 172 := ⟨by decide +kernel, rfl⟩
theorem dX9_ended_172 : D1 cX9_ended 172 (.putfield 196) 3 175 := ⟨by decide +kernel, rfl⟩
theorem dX9_ended_175 : D1 cX9_ended 175 (.return_) 1 176 := ⟨by decide +kernel, rfl⟩
theorem dX9_thirds_0 : D1 cX9_thirds 0 (.aload_n 0) 1 1 := ⟨by decide +kernel, rfl⟩
theorem dX9_thirds_1 : D1 cX9_thirds 1 (.iconst 1) 1 2 := ⟨by decide +kernel, rfl⟩
theorem dX9_thirds_2 : D1 cX9_thirds 2 (.invokevirtual 199) 3 5 := ⟨by decide +kernel, rfl⟩
theorem dX9_thirds_5 : D1 cX9_thirds 5 (.iconst 0) 1 6 := ⟨by decide +kernel, rfl⟩
theorem dX9_thirds_6 : D1 cX9_thirds 6 (.istore 5) 2 8 := ⟨by decide +kernel, rfl⟩
theorem dX9_thirds_8 : D1 cX9_thirds 8 (.iload 5) 2 10 := ⟨by decide +kernel, rfl⟩
theorem dX9_thirds_10 : D1 cX9_thirds 10 (.aload_n 0) 1 11 := ⟨by decide +kernel, rfl⟩
theorem dX9_thirds_11 : D1 cX9_thirds 11 (.getfield 7) 3 14 := ⟨by decide +kernel, rfl⟩
theorem dX9_thirds_14 : D1 cX9_thirds 14 (.iconst 1) 1 15 := ⟨by decide +kernel, rfl⟩
theorem dX9_thirds_15 : D1 cX9_thirds 15 (.iaload) 1 16 := ⟨by decide +kernel, rfl⟩
theorem dX9_thirds_16 : DJ cX9_thirds 16 (.if_icmp .ge) 19 51 := ⟨35, by decide +kernel, rfl, by decide⟩
theorem dX9_thirds_19 : D1 cX9_thirds 19 (.aload_n 0) 1 20 := ⟨by decide +kernel, rfl⟩
theorem dX9_thirds_20 : D1 cX9_thirds 20 (.iload 5) 2 22 := ⟨by decide +kernel, rfl⟩
theorem dX9_thirds_22 : D1 cX9_thirds 22 (.iload_n 2) 1 23 := ⟨by decide +kernel, rfl⟩
theorem dX9_thirds_23 : D1 cX9_thirds 23 (.invokevirtual 184) 3 26 := ⟨by decide +kernel, rfl⟩
theorem dX9_thirds_26 : D1 cX9_thirds 26 (.aload_n 0) 1 27 := ⟨by decide +kernel, rfl⟩
theorem dX9_thirds_27 : D1 cX9_thirds 27 (.bipush 10) 2 29 := ⟨by decide +kernel, rfl⟩
theorem dX9_thirds_29 : D1 cX9_thirds 29 (.iload_n 1) 1 30 := ⟨by decide +kernel, rfl⟩
theorem dX9_thirds_30 : D1 cX9_thirds 30 (.imul) 1 31 := ⟨by decide +kernel, rfl⟩
theorem dX9_thirds_31 : D1 cX9_thirds 31 (.iload 5) 2 33 := ⟨by decide +kernel, rfl⟩
theorem dX9_thirds_33 : D1 cX9_thirds 33 (.iadd) 1 34 := ⟨by decide +kernel, rfl⟩
theorem dX9_thirds_34 : D1 cX9_thirds 34 (.iload_n 3) 1 35 := ⟨by decide +kernel, rfl⟩
theorem dX9_thirds_35 : D1 cX9_thirds 35 (.iload 4) 2 37 := ⟨by decide +kernel, rfl⟩
theorem dX9_thirds_37 : D1 cX9_thirds 37 (.invokevirtual 202) 3 40 := ⟨by decide +kernel, rfl⟩
theorem dX9_thirds_40 : D1 cX9_thirds 40 (.aload_n 0) 1 41 := ⟨by decide +kernel, rfl⟩
theorem dX9_thirds_41 : D1 cX9_thirds 41 (.iconst 1) 1 42 := ⟨by decide +kernel, rfl⟩
theorem dX9_thirds_42 : D1 cX9_thirds 42 (.invokevirtual 206) 3 45 := ⟨by decide +kernel, rfl⟩
theorem dX9_thirds_45 : D1 cX9_thirds 45 (.iinc 5 1) 3 48 := ⟨by decide +kernel, rfl⟩
theorem dX9_thirds_48 : DJ cX9_thirds 48 .goto 51 8 := ⟨(-40), by decide +kernel, rfl, by decide⟩
theorem dX9_thirds_51 : D1 cX9_thirds 51 (.return_) 1 52 := ⟨by decide +kernel, rfl⟩
theorem dX9_seconds_0 : D1 cX9_seconds 0 (.aload_n 0) 1 1 := ⟨by decide +kernel, rfl⟩
theorem dX9_seconds_1 : D1 cX9_seconds 1 (.iconst 0) 1 2 := ⟨by decide +kernel, rfl⟩
theorem dX9_seconds_2 : D1 cX9_seconds 2 (.invokevirtual 199) 3 5 := ⟨by decide +kernel, rfl⟩
theorem dX9_seconds_5 : D1 cX9_seconds 5 (.iconst 0) 1 6 := ⟨by decide +kernel, rfl⟩
theorem dX9_seconds_6 : D1 cX9_seconds 6 (.istore 5) 2 8 := ⟨by decide +kernel, rfl⟩
theorem dX9_seconds_8 : D1 cX9_seconds 8 (.iload 5) 2 10 := ⟨by decide +kernel, rfl⟩
theorem dX9_seconds_10 : D1 cX9_seconds 10 (.aload_n 0) 1 11 := ⟨by decide +kernel, rfl⟩
theorem dX9_seconds_11 : D1 cX9_seconds 11 (.getfield 7) 3 14 := ⟨by decide +kernel, rfl⟩
theorem dX9_seconds_14 : D1 cX9_seconds 14 (.iconst 1) 1 15 := ⟨by decide +kernel, rfl⟩
theorem dX9_seconds_15 : D1 cX9_seconds 15 (.iaload) 1 16 := ⟨by decide +kernel, rfl⟩
theorem dX9_seconds_16 : DJ cX9_seconds 16 (.if_icmp .ge) 19 59 := ⟨43, by decide +kernel, rfl, by decide⟩
theorem dX9_seconds_19 : D1 cX9_seconds 19 (.aload_n 0) 1 20 := ⟨by decide +kernel, rfl⟩
theorem dX9_seconds_20 : D1 cX9_seconds 20 (.iload 5) 2 22 := ⟨by decide +kernel, rfl⟩
theorem dX9_seconds_22 : D1 cX9_seconds 22 (.iload_n 2) 1 23 := ⟨by decide +kernel, rfl⟩
theorem dX9_seconds_23 : D1 cX9_seconds 23 (.invokevirtual 184) 3 26 := ⟨by decide +kernel, rfl⟩
theorem dX9_seconds_26 : D1 cX9_seconds 26 (.aload_n 0) 1 27 := ⟨by decide +kernel, rfl⟩
theorem dX9_seconds_27 : D1 cX9_seconds 27 (.invokevirtual 172) 3 30 := ⟨by decide +kernel, rfl⟩
theorem dX9_seconds_30 : DJ cX9_seconds 30 (.ifCond .ne) 33 48 := ⟨18, by decide +kernel, rfl, by decide⟩
theorem dX9_seconds_33 : D1 cX9_seconds 33 (.aload_n 0) 1 34 := ⟨by decide +kernel, rfl⟩
theorem dX9_seconds_34 : D1 cX9_seconds 34 (.bipush 10) 2 36 := ⟨by decide +kernel, rfl⟩
theorem dX9_seconds_36 : D1 cX9_seconds 36 (.iload_n 1) 1 37 := ⟨by decide +kernel, rfl⟩
theorem dX9_seconds_37 : D1 cX9_seconds 37 (.imul) 1 38 := ⟨by decide +kernel, rfl⟩
theorem dX9_seconds_38 : D1 cX9_seconds 38 (.iload 5) 2 40 := ⟨by decide +kernel, rfl⟩
theorem dX9_seconds_40 : D1 cX9_seconds 40 (.iadd) 1 41 := ⟨by decide +kernel, rfl⟩
theorem dX9_seconds_41 : D1 cX9_seconds 41 (.iload_n 2) 1 42 := ⟨by decide +kernel, rfl⟩
theorem dX9_seconds_42 : D1 cX9_seconds 42 (.iload_n 3) 1 43 := ⟨by decide +kernel, rfl⟩
theorem dX9_seconds_43 : D1 cX9_seconds 43 (.iload 4) 2 45 := ⟨by decide +kernel, rfl⟩
theorem dX9_seconds_45 : D1 cX9_seconds 45 (.invokevirtual 209) 3 48 := ⟨by decide +kernel, rfl⟩
theorem dX9_seconds_48 : D1 cX9_seconds 48 (.aload_n 0) 1 49 := ⟨by decide +kernel, rfl⟩
theorem dX9_seconds_49 : D1 cX9_seconds 49 (.iconst 0) 1 50 := ⟨by decide +kernel, rfl⟩
theorem dX9_seconds_50 : D1 cX9_seconds 50 (.invokevirtual 206) 3 53 := ⟨by decide +kernel, rfl⟩
theorem dX9_seconds_53 : D1 cX9_seconds 53 (.iinc 5 1) 3 56 := ⟨by decide +kernel, rfl⟩
theorem dX9_seconds_56 : DJ cX9_seconds 56 .goto 59 8 := ⟨(-48), by decide +kernel, rfl, by decide⟩
theorem dX9_seconds_59 : D1 cX9_seconds 59 (.return_) 1 60 := ⟨by decide +kernel, rfl⟩
theorem dX9_threes_0 : D1 cX9_threes 0 (.aload_n 0) 1 1 := ⟨by decide +kernel, rfl⟩
theorem dX9_threes_1 : D1 cX9_threes 1 (.invokevirtual 144) 3 4 := ⟨by decide +kernel, rfl⟩
theorem dX9_threes_4 : D1 cX9_threes 4 (.aload_n 0) 1 5 := ⟨by decide +kernel, rfl⟩
theorem dX9_threes_5 : D1 cX9_threes 5 (.iconst (-1)) 1 6 := ⟨by decide +kernel, rfl⟩
theorem dX9_threes_6 : D1 cX9_threes 6 (.putfield 190) 3 9 := ⟨by decide +kernel, rfl⟩
theorem dX9_threes_9 : D1 cX9_threes 9 (.aload_n 0) 1 10 := ⟨by decide +kernel, rfl⟩
theorem dX9_threes_10 : D1 cX9_threes 10 (.iconst (-1)) 1 11 := ⟨by decide +kernel, rfl⟩
theorem dX9_threes_11 : D1 cX9_threes 11 (.putfield 187) 3 14 := ⟨by decide +kernel, rfl⟩
theorem dX9_threes_14 : D1 cX9_threes 14 (.aload_n 0) 1 15 := ⟨by decide +kernel, rfl⟩
theorem dX9_threes_15 : D1 cX9_threes 15 (.iconst 0) 1 16 := ⟨by decide +kernel, rfl⟩
theorem dX9_threes_16 : D1 cX9_threes 16 (.putfield 196) 3 19 := ⟨by decide +kernel, rfl⟩
theorem dX9_threes_19 : D1 cX9_threes 19 (.aload_n 0) 1 20 := ⟨by decide +kernel, rfl⟩
theorem dX9_threes_20 : D1 cX9_threes 20 (.iload_n 2) 1 21 := ⟨by decide +kernel, rfl⟩
theorem dX9_threes_21 : D1 cX9_threes 21 (.iconst 1) 1 22 := ⟨by decide +kernel, rfl⟩
theorem dX9_threes_22 : DJ cX9_threes 22 (.if_icmp .ne) 25 29 := ⟨7, by decide +kernel, rfl, by decide⟩
theorem dX9_threes_25 : D1 cX9_threes 25 (.iconst 1) 1 26 := ⟨by decide +kernel, rfl⟩
theorem dX9_threes_26 : DJ cX9_threes 26 .goto 29 30 := ⟨4, by decide +kernel, rfl, by decide⟩
theorem dX9_threes_29 : D1 cX9_threes 29 (.iconst 0) 1 30 := ⟨by decide +kernel, rfl⟩
theorem dX9_threes_30 : D1 cX9_threes 30 (.putfield 175) 3 33 := ⟨by decide +kernel, rfl⟩
theorem dX9_threes_33 : D1 cX9_threes 33 (.iconst 0) 1 34 := ⟨by decide +kernel, rfl⟩
theorem dX9_threes_34 : D1 cX9_threes 34 (.istore 4) 2 36 := ⟨by decide +kernel, rfl⟩
theorem dX9_threes_36 : D1 cX9_threes 36 (.iload 4) 2 38 := ⟨by decide +kernel, rfl⟩
theorem dX9_threes_38 : D1 cX9_threes 38 (.aload_n 0) 1 39 := ⟨by decide +kernel, rfl⟩
theorem dX9_threes_39 : D1 cX9_threes 39 (.getfield 7) 3 42 := ⟨by decide +kernel, rfl⟩
theorem dX9_threes_42 : D1 cX9_threes 42 (.iconst 1) 1 43 := ⟨by decide +kernel, rfl⟩
theorem dX9_threes_43 : D1 cX9_threes 43 (.iaload) 1 44 := ⟨by decide +kernel, rfl⟩
theorem dX9_threes_44 : DJ cX9_threes 44 (.if_icmp .ge) 47 84 := ⟨40, by decide +kernel, rfl, by decide⟩
theorem dX9_threes_47 : D1 cX9_threes 47 (.aload_n 0) 1 48 := ⟨by decide +kernel, rfl⟩
theorem dX9_threes_48 : D1 cX9_threes 48 (.invokevirtual 181) 3 51 := ⟨by decide +kernel, rfl⟩
theorem dX9_threes_51 : D1 cX9_threes 51 (.aload_n 0) 1 52 := ⟨by decide +kernel, rfl⟩
theorem dX9_threes_52 : D1 cX9_threes 52 (.iload 4) 2 54 := ⟨by decide +kernel, rfl⟩
theorem dX9_threes_54 : D1 cX9_threes 54 (.iload_n 1) 1 55 := ⟨by decide +kernel, rfl⟩
theorem dX9_threes_55 : D1 cX9_threes 55 (.invokevirtual 184) 3 58 := ⟨by decide +kernel, rfl⟩
theorem dX9_threes_58 : D1 cX9_threes 58 (.aload_n 0) 1 59 := ⟨by decide +kernel, rfl⟩
theorem dX9_threes_59 : D1 cX9_threes 59 (.invokevirtual 172) 3 62 := ⟨by decide +kernel, rfl⟩
theorem dX9_threes_62 : DJ cX9_threes 62 (.ifCond .ne) 65 74 := ⟨12, by decide +kernel, rfl, by decide⟩
theorem dX9_threes_65 : D1 cX9_threes 65 (.aload_n 0) 1 66 := ⟨by decide +kernel, rfl⟩
theorem dX9_threes_66 : D1 cX9_threes 66 (.iload 4) 2 68 := ⟨by decide +kernel, rfl⟩
theorem dX9_threes_68 : D1 cX9_threes 68 (.iload_n 1) 1 69 := ⟨by decide +kernel, rfl⟩
theorem dX9_threes_69 : D1 cX9_threes 69 (.iload_n 2) 1 70 := ⟨by decide +kernel, rfl⟩
theorem dX9_threes_70 : D1 cX9_threes 70 (.iload_n 3) 1 71 := ⟨by decide +kernel, rfl⟩
theorem dX9_threes_71 : D1 cX9_threes 71 (.invokevirtual 213) 3 74 := ⟨by decide +kernel, rfl⟩
theorem dX9_threes_74 : D1 cX9_threes 74 (.aload_n 0) 1 75 := ⟨by decide +kernel, rfl⟩
theorem dX9_threes_75 : D1 cX9_threes 75 (.invokevirtual 150) 3 78 := ⟨by decide +kernel, rfl⟩
theorem dX9_threes_78 : D1 cX9_threes 78 (.iinc 4 1) 3 81 := ⟨by decide +kernel, rfl⟩
theorem dX9_threes_81 : DJ cX9_threes 81 .goto 84 36 := ⟨(-45), by decide +kernel, rfl, by decide⟩
theorem dX9_threes_84 : D1 cX9_threes 84 (.aload_n 0) 1 85 := ⟨by decide +kernel, rfl⟩
theorem dX9_threes_85 : D1 cX9_threes 85 (.iconst (-1)) 1 86 := ⟨by decide +kernel, rfl⟩
theorem dX9_threes_86 : D1 cX9_threes 86 (.putfield 22) 3 89 := ⟨by decide +kernel, rfl⟩
theorem dX9_threes_89 : D1 cX9_threes 89 (.aload_n 0) 1 90 := ⟨by decide +kernel, rfl⟩
theorem dX9_threes_90 : D1 cX9_threes 90 (.iconst 0) 1 91 := ⟨by decide +kernel, rfl⟩
theorem dX9_threes_91 : D1 cX9_threes 91 (.putfield 175) 3 94 := ⟨by decide +kernel, rfl⟩
theorem dX9_threes_94 : D1 cX9_threes 94 (.return_) 1 95 := ⟨by decide +kernel, rfl⟩
theorem dX9_isStay_0 : D1 cX9_isStay 0 (.iload_n 0) 1 1 := ⟨by decide +kernel, rfl⟩
theorem dX9_isStay_1 : D1 cX9_isStay 1 (.i2l) 1 2 := ⟨by decide +kernel, rfl⟩
theorem dX9_isStay_2 : D1 cX9_isStay 2 (.lconst 1) 1 3 := ⟨by decide +kernel, rfl⟩
theorem dX9_isStay_3 : D1 cX9_isStay 3 (.ldc2_w 216) 3 6 := ⟨by decide +kernel, rfl⟩
theorem dX9_isStay_6 : D1 cX9_isStay 6 (.invokestatic 48) 3 9 := ⟨by decide +kernel, rfl⟩
theorem dX9_isStay_9 : D1 cX9_isStay 9 (.ireturn) 1 10 := ⟨by decide +kernel, rfl⟩
theorem dX9_isBarred_0 : D1 cX9_isBarred 0 (.aload_n 0) 1 1 := ⟨by decide +kernel, rfl⟩
theorem dX9_isBarred_1 : D1 cX9_isBarred 1 (.invokevirtual 104) 3 4 := ⟨by decide +kernel, rfl⟩
theorem dX9_isBarred_4 : DJ cX9_isBarred 4 (.ifCond .ne) 7 26 := ⟨22, by decide +kernel, rfl, by decide⟩
theorem dX9_isBarred_7 : D1 cX9_isBarred 7 (.aload_n 0) 1 8 := ⟨by decide +kernel, rfl⟩
theorem dX9_isBarred_8 : D1 cX9_isBarred 8 (.getfield 7) 3 11 := ⟨by decide +kernel, rfl⟩
theorem dX9_isBarred_11 : D1 cX9_isBarred 11 (.iconst 1) 1 12 := ⟨by decide +kernel, rfl⟩
theorem dX9_isBarred_12 : D1 cX9_isBarred 12 (.iaload) 1 13 := ⟨by decide +kernel, rfl⟩
theorem dX9_isBarred_13 : DJ cX9_isBarred 13 (.ifCond .eq) 16 26 := ⟨13, by decide +kernel, rfl, by decide⟩
theorem dX9_isBarred_16 : D1 cX9_isBarred 16 (.aload_n 0) 1 17 := ⟨by decide +kernel, rfl⟩
theorem dX9_isBarred_17 : D1 cX9_isBarred 17 (.sipush 9700) 3 20 := ⟨by decide +kernel, rfl⟩
theorem dX9_isBarred_20 : D1 cX9_isBarred 20 (.invokevirtual 160) 3 23 := ⟨by decide +kernel, rfl⟩
theorem dX9_isBarred_23 : DJ cX9_isBarred 23 (.ifCond .eq) 26 30 := ⟨7, by decide +kernel, rfl, by decide⟩
theorem dX9_isBarred_26 : D1 cX9_isBarred 26 (.iconst 1) 1 27 := ⟨by decide +kernel, rfl⟩
theorem dX9_isBarred_27 : DJ cX9_isBarred 27 .goto 30 31 := ⟨4, by decide +kernel, rfl, by decide⟩
theorem dX9_isBarred_30 : D1 cX9_isBarred 30 (.iconst 0) 1 31 := ⟨by decide +kernel, rfl⟩
theorem dX9_isBarred_31 : D1 cX9_isBarred 31 (.ireturn) 1 32 := ⟨by decide +kernel, rfl⟩
theorem dX9_leastRound_0 : D1 cX9_leastRound 0 (.aload_n 0) 1 1 := ⟨by decide +kernel, rfl⟩
theorem dX9_leastRound_1 : D1 cX9_leastRound 1 (.invokevirtual 144) 3 4 := ⟨by decide +kernel, rfl⟩
theorem dX9_leastRound_4 : D1 cX9_leastRound 4 (.aload_n 0) 1 5 := ⟨by decide +kernel, rfl⟩
theorem dX9_leastRound_5 : D1 cX9_leastRound 5 (.iload_n 1) 1 6 := ⟨by decide +kernel, rfl⟩
theorem dX9_leastRound_6 : D1 cX9_leastRound 6 (.invokevirtual 218) 3 9 := ⟨by decide +kernel, rfl⟩
theorem dX9_leastRound_9 : D1 cX9_leastRound 9 (.aload_n 0) 1 10 := ⟨by decide +kernel, rfl⟩
theorem dX9_leastRound_10 : D1 cX9_leastRound 10 (.invokevirtual 150) 3 13 := ⟨by decide +kernel, rfl⟩
theorem dX9_leastRound_13 : D1 cX9_leastRound 13 (.aload_n 0) 1 14 := ⟨by decide +kernel, rfl⟩
theorem dX9_leastRound_14 : D1 cX9_leastRound 14 (.getfield 166) 3 17 := ⟨by decide +kernel, rfl⟩
theorem dX9_leastRound_17 : D1 cX9_leastRound 17 (.ireturn) 1 18 := ⟨by decide +kernel, rfl⟩
theorem dX9_round_0 : D1 cX9_round 0 (.iload_n 1) 1 1 := ⟨by decide +kernel, rfl⟩
theorem dX9_round_1 : D1 cX9_round 1 (.invokestatic 221) 3 4 := ⟨by decide +kernel, rfl⟩
theorem dX9_round_4 : DJ cX9_round 4 (.ifCond .ne) 7 14 := ⟨10, by decide +kernel, rfl, by decide⟩
theorem dX9_round_7 : D1 cX9_round 7 (.aload_n 0) 1 8 := ⟨by decide +kernel, rfl⟩
theorem dX9_round_8 : D1 cX9_round 8 (.ldc 47) 2 10 := ⟨by decide +kernel, rfl⟩
theorem dX9_round_10 : D1 cX9_round 10 (.invokevirtual 59) 3 13 := ⟨by decide +kernel, rfl⟩
theorem dX9_round_13 : D1 cX9_round 13 (.ireturn) 1 14 := ⟨by decide +kernel, rfl⟩
theorem dX9_round_14 : D1 cX9_round 14 (.aload_n 0) 1 15 := ⟨by decide +kernel, rfl⟩
theorem dX9_round_15 : D1 cX9_round 15 (.invokevirtual 224) 3 18 := ⟨by decide +kernel, rfl⟩
theorem dX9_round_18 : DJ cX9_round 18 (.ifCond .eq) 21 30 := ⟨12, by decide +kernel, rfl, by decide⟩
theorem dX9_round_21 : D1 cX9_round 21 (.aload_n 0) 1 22 := ⟨by decide +kernel, rfl⟩
theorem dX9_round_22 : D1 cX9_round 22 (.ldc 100) 2 24 := ⟨by decide +kernel, rfl⟩
theorem dX9_round_24 : D1 cX9_round 24 (.invokevirtual 59) 3 27 := ⟨by decide +kernel, rfl⟩
theorem dX9_round_27 : DJ cX9_round 27 .goto 30 35 := ⟨8, by decide +kernel, rfl, by decide⟩
theorem dX9_round_30 : D1 cX9_round 30 (.aload_n 0) 1 31 := ⟨by decide +kernel, rfl⟩
theorem dX9_round_31 : D1 cX9_round 31 (.iload_n 1) 1 32 := ⟨by decide +kernel, rfl⟩
theorem dX9_round_32 : D1 cX9_round 32 (.invokevirtual 227) 3 35 := ⟨by decide +kernel, rfl⟩
theorem dX9_round_35 : D1 cX9_round 35 (.ireturn) 1 36 := ⟨by decide +kernel, rfl⟩
theorem dX9_takes_0 : D1 cX9_takes 0 (.iload_n 1) 1 1 := ⟨by decide +kernel, rfl⟩
theorem dX9_takes_1 : D1 cX9_takes 1 (.invokestatic 221) 3 4 := ⟨by decide +kernel, rfl⟩
theorem dX9_takes_4 : DJ cX9_takes 4 (.ifCond .ne) 7 14 := ⟨10, by decide +kernel, rfl, by decide⟩
theorem dX9_takes_7 : D1 cX9_takes 7 (.aload_n 0) 1 8 := ⟨by decide +kernel, rfl⟩
theorem dX9_takes_8 : D1 cX9_takes 8 (.ldc 47) 2 10 := ⟨by decide +kernel, rfl⟩
theorem dX9_takes_10 : D1 cX9_takes 10 (.invokevirtual 59) 3 13 := ⟨by decide +kernel, rfl⟩
theorem dX9_takes_13 : D1 cX9_takes 13 (.ireturn) 1 14 := ⟨by decide +kernel, rfl⟩
theorem dX9_takes_14 : D1 cX9_takes 14 (.aload_n 0) 1 15 := ⟨by decide +kernel, rfl⟩
theorem dX9_takes_15 : D1 cX9_takes 15 (.invokevirtual 224) 3 18 := ⟨by decide +kernel, rfl⟩
theorem dX9_takes_18 : DJ cX9_takes 18 (.ifCond .eq) 21 28 := ⟨10, by decide +kernel, rfl, by decide⟩
theorem dX9_takes_21 : D1 cX9_takes 21 (.aload_n 0) 1 22 := ⟨by decide +kernel, rfl⟩
theorem dX9_takes_22 : D1 cX9_takes 22 (.ldc 100) 2 24 := ⟨by decide +kernel, rfl⟩
theorem dX9_takes_24 : D1 cX9_takes 24 (.invokevirtual 59) 3 27 := ⟨by decide +kernel, rfl⟩
theorem dX9_takes_27 : D1 cX9_takes 27 (.ireturn) 1 28 := ⟨by decide +kernel, rfl⟩
theorem dX9_takes_28 : D1 cX9_takes 28 (.aload_n 0) 1 29 := ⟨by decide +kernel, rfl⟩
theorem dX9_takes_29 : D1 cX9_takes 29 (.invokevirtual 144) 3 32 := ⟨by decide +kernel, rfl⟩
theorem dX9_takes_32 : D1 cX9_takes 32 (.aload_n 0) 1 33 := ⟨by decide +kernel, rfl⟩
theorem dX9_takes_33 : D1 cX9_takes 33 (.iload_n 1) 1 34 := ⟨by decide +kernel, rfl⟩
theorem dX9_takes_34 : D1 cX9_takes 34 (.invokevirtual 218) 3 37 := ⟨by decide +kernel, rfl⟩
theorem dX9_takes_37 : D1 cX9_takes 37 (.aload_n 0) 1 38 := ⟨by decide +kernel, rfl⟩
theorem dX9_takes_38 : D1 cX9_takes 38 (.getfield 7) 3 41 := ⟨by decide +kernel, rfl⟩
theorem dX9_takes_41 : D1 cX9_takes 41 (.iconst 0) 1 42 := ⟨by decide +kernel, rfl⟩
theorem dX9_takes_42 : D1 cX9_takes 42 (.iaload) 1 43 := ⟨by decide +kernel, rfl⟩
theorem dX9_takes_43 : D1 cX9_takes 43 (.aload_n 0) 1 44 := ⟨by decide +kernel, rfl⟩
theorem dX9_takes_44 : D1 cX9_takes 44 (.getfield 16) 3 47 := ⟨by decide +kernel, rfl⟩
theorem dX9_takes_47 : D1 cX9_takes 47 (.iconst 0) 1 48 := ⟨by decide +kernel, rfl⟩
theorem dX9_takes_48 : D1 cX9_takes 48 (.iaload) 1 49 := ⟨by decide +kernel, rfl⟩
theorem dX9_takes_49 : D1 cX9_takes 49 (.isub) 1 50 := ⟨by decide +kernel, rfl⟩
theorem dX9_takes_50 : D1 cX9_takes 50 (.istore_n 2) 1 51 := ⟨by decide +kernel, rfl⟩
theorem dX9_takes_51 : D1 cX9_takes 51 (.aload_n 0) 1 52 := ⟨by decide +kernel, rfl⟩
theorem dX9_takes_52 : D1 cX9_takes 52 (.invokevirtual 150) 3 55 := ⟨by decide +kernel, rfl⟩
theorem dX9_takes_55 : D1 cX9_takes 55 (.iload_n 2) 1 56 := ⟨by decide +kernel, rfl⟩
theorem dX9_takes_56 : D1 cX9_takes 56 (.ireturn) 1 57 := ⟨by decide +kernel, rfl⟩
theorem dX9_three_0 : D1 cX9_three 0 (.iload_n 1) 1 1 := ⟨by decide +kernel, rfl⟩
theorem dX9_three_1 : D1 cX9_three 1 (.invokestatic 221) 3 4 := ⟨by decide +kernel, rfl⟩
theorem dX9_three_4 : DJ cX9_three 4 (.ifCond .ne) 7 14 := ⟨10, by decide +kernel, rfl, by decide⟩
theorem dX9_three_7 : D1 cX9_three 7 (.aload_n 0) 1 8 := ⟨by decide +kernel, rfl⟩
theorem dX9_three_8 : D1 cX9_three 8 (.ldc 47) 2 10 := ⟨by decide +kernel, rfl⟩
theorem dX9_three_10 : D1 cX9_three 10 (.invokevirtual 59) 3 13 := ⟨by decide +kernel, rfl⟩
theorem dX9_three_13 : D1 cX9_three 13 (.ireturn) 1 14 := ⟨by decide +kernel, rfl⟩
theorem dX9_three_14 : D1 cX9_three 14 (.aload_n 0) 1 15 := ⟨by decide +kernel, rfl⟩
theorem dX9_three_15 : D1 cX9_three 15 (.invokevirtual 224) 3 18 := ⟨by decide +kernel, rfl⟩
theorem dX9_three_18 : DJ cX9_three 18 (.ifCond .eq) 21 28 := ⟨10, by decide +kernel, rfl, by decide⟩
theorem dX9_three_21 : D1 cX9_three 21 (.aload_n 0) 1 22 := ⟨by decide +kernel, rfl⟩
theorem dX9_three_22 : D1 cX9_three 22 (.ldc 100) 2 24 := ⟨by decide +kernel, rfl⟩
theorem dX9_three_24 : D1 cX9_three 24 (.invokevirtual 59) 3 27 := ⟨by decide +kernel, rfl⟩
theorem dX9_three_27 : D1 cX9_three 27 (.ireturn) 1 28 := ⟨by decide +kernel, rfl⟩
theorem dX9_three_28 : D1 cX9_three 28 (.aload_n 0) 1 29 := ⟨by decide +kernel, rfl⟩
theorem dX9_three_29 : D1 cX9_three 29 (.iload_n 1) 1 30 := ⟨by decide +kernel, rfl⟩
theorem dX9_three_30 : D1 cX9_three 30 (.iconst 0) 1 31 := ⟨by decide +kernel, rfl⟩
theorem dX9_three_31 : D1 cX9_three 31 (.iconst 0) 1 32 := ⟨by decide +kernel, rfl⟩
theorem dX9_three_32 : D1 cX9_three 32 (.invokevirtual 230) 3 35 := ⟨by decide +kernel, rfl⟩
theorem dX9_three_35 : D1 cX9_three 35 (.aload_n 0) 1 36 := ⟨by decide +kernel, rfl⟩
theorem dX9_three_36 : D1 cX9_three 36 (.getfield 190) 3 39 := ⟨by decide +kernel, rfl⟩
theorem dX9_three_39 : D1 cX9_three 39 (.ireturn) 1 40 := ⟨by decide +kernel, rfl⟩
theorem dX9_least_0 : D1 cX9_least 0 (.iload_n 1) 1 1 := ⟨by decide +kernel, rfl⟩
theorem dX9_least_1 : D1 cX9_least 1 (.invokestatic 221) 3 4 := ⟨by decide +kernel, rfl⟩
theorem dX9_least_4 : DJ cX9_least 4 (.ifCond .ne) 7 14 := ⟨10, by decide +kernel, rfl, by decide⟩
theorem dX9_least_7 : D1 cX9_least 7 (.aload_n 0) 1 8 := ⟨by decide +kernel, rfl⟩
theorem dX9_least_8 : D1 cX9_least 8 (.ldc 47) 2 10 := ⟨by decide +kernel, rfl⟩
theorem dX9_least_10 : D1 cX9_least 10 (.invokevirtual 59) 3 13 := ⟨by decide +kernel, rfl⟩
theorem dX9_least_13 : D1 cX9_least 13 (.ireturn) 1 14 := ⟨by decide +kernel, rfl⟩
theorem dX9_least_14 : D1 cX9_least 14 (.aload_n 0) 1 15 := ⟨by decide +kernel, rfl⟩
theorem dX9_least_15 : D1 cX9_least 15 (.invokevirtual 224) 3 18 := ⟨by decide +kernel, rfl⟩
theorem dX9_least_18 : DJ cX9_least 18 (.ifCond .eq) 21 28 := ⟨10, by decide +kernel, rfl, by decide⟩
theorem dX9_least_21 : D1 cX9_least 21 (.aload_n 0) 1 22 := ⟨by decide +kernel, rfl⟩
theorem dX9_least_22 : D1 cX9_least 22 (.ldc 100) 2 24 := ⟨by decide +kernel, rfl⟩
theorem dX9_least_24 : D1 cX9_least 24 (.invokevirtual 59) 3 27 := ⟨by decide +kernel, rfl⟩
theorem dX9_least_27 : D1 cX9_least 27 (.ireturn) 1 28 := ⟨by decide +kernel, rfl⟩
theorem dX9_least_28 : D1 cX9_least 28 (.aload_n 0) 1 29 := ⟨by decide +kernel, rfl⟩
theorem dX9_least_29 : D1 cX9_least 29 (.iload_n 1) 1 30 := ⟨by decide +kernel, rfl⟩
theorem dX9_least_30 : D1 cX9_least 30 (.iconst 0) 1 31 := ⟨by decide +kernel, rfl⟩
theorem dX9_least_31 : D1 cX9_least 31 (.iconst 0) 1 32 := ⟨by decide +kernel, rfl⟩
theorem dX9_least_32 : D1 cX9_least 32 (.invokevirtual 230) 3 35 := ⟨by decide +kernel, rfl⟩
theorem dX9_least_35 : D1 cX9_least 35 (.aload_n 0) 1 36 := ⟨by decide +kernel, rfl⟩
theorem dX9_least_36 : D1 cX9_least 36 (.getfield 187) 3 39 := ⟨by decide +kernel, rfl⟩
theorem dX9_least_39 : D1 cX9_least 39 (.ireturn) 1 40 := ⟨by decide +kernel, rfl⟩
theorem dX9_pace_0 : D1 cX9_pace 0 (.aload_n 0) 1 1 := ⟨by decide +kernel, rfl⟩
theorem dX9_pace_1 : D1 cX9_pace 1 (.invokevirtual 224) 3 4 := ⟨by decide +kernel, rfl⟩
theorem dX9_pace_4 : DJ cX9_pace 4 (.ifCond .eq) 7 14 := ⟨10, by decide +kernel, rfl, by decide⟩
theorem dX9_pace_7 : D1 cX9_pace 7 (.aload_n 0) 1 8 := ⟨by decide +kernel, rfl⟩
theorem dX9_pace_8 : D1 cX9_pace 8 (.ldc 100) 2 10 := ⟨by decide +kernel, rfl⟩
theorem dX9_pace_10 : D1 cX9_pace 10 (.invokevirtual 59) 3 13 := ⟨by decide +kernel, rfl⟩
theorem dX9_pace_13 : D1 cX9_pace 13 (.ireturn) 1 14 := ⟨by decide +kernel, rfl⟩
theorem dX9_pace_14 : D1 cX9_pace 14 (.iconst 0) 1 15 := ⟨by decide +kernel, rfl⟩
theorem dX9_pace_15 : D1 cX9_pace 15 (.istore_n 1) 1 16 := ⟨by decide +kernel, rfl⟩
theorem dX9_pace_16 : D1 cX9_pace 16 (.iconst (-1)) 1 17 := ⟨by decide +kernel, rfl⟩
theorem dX9_pace_17 : D1 cX9_pace 17 (.istore_n 2) 1 18 := ⟨by decide +kernel, rfl⟩
theorem dX9_pace_18 : D1 cX9_pace 18 (.iconst 1) 1 19 := ⟨by decide +kernel, rfl⟩
theorem dX9_pace_19 : D1 cX9_pace 19 (.istore_n 3) 1 20 := ⟨by decide +kernel, rfl⟩
theorem dX9_pace_20 : D1 cX9_pace 20 (.iload_n 3) 1 21 := ⟨by decide +kernel, rfl⟩
theorem dX9_pace_21 : D1 cX9_pace 21 (.bipush 13) 2 23 := ⟨by decide +kernel, rfl⟩
theorem dX9_pace_23 : DJ cX9_pace 23 (.if_icmp .ge) 26 64 := ⟨41, by decide +kernel, rfl, by decide⟩
theorem dX9_pace_26 : D1 cX9_pace 26 (.aload_n 0) 1 27 := ⟨by decide +kernel, rfl⟩
theorem dX9_pace_27 : D1 cX9_pace 27 (.iload_n 3) 1 28 := ⟨by decide +kernel, rfl⟩
theorem dX9_pace_28 : D1 cX9_pace 28 (.invokevirtual 227) 3 31 := ⟨by decide +kernel, rfl⟩
theorem dX9_pace_31 : D1 cX9_pace 31 (.istore 4) 2 33 := ⟨by decide +kernel, rfl⟩
theorem dX9_pace_33 : D1 cX9_pace 33 (.iload 4) 2 35 := ⟨by decide +kernel, rfl⟩
theorem dX9_pace_35 : D1 cX9_pace 35 (.iload_n 2) 1 36 := ⟨by decide +kernel, rfl⟩
theorem dX9_pace_36 : DJ cX9_pace 36 (.if_icmp .le) 39 43 := ⟨7, by decide +kernel, rfl, by decide⟩
theorem dX9_pace_39 : D1 cX9_pace 39 (.iload_n 3) 1 40 := ⟨by decide +kernel, rfl⟩
theorem dX9_pace_40 : DJ cX9_pace 40 .goto 43 44 := ⟨4, by decide +kernel, rfl, by decide⟩
theorem dX9_pace_43 : D1 cX9_pace 43 (.iload_n 1) 1 44 := ⟨by decide +kernel, rfl⟩
theorem dX9_pace_44 : D1 cX9_pace 44 (.istore_n 1) 1 45 := ⟨by decide +kernel, rfl⟩
theorem dX9_pace_45 : D1 cX9_pace 45 (.iload 4) 2 47 := ⟨by decide +kernel, rfl⟩
theorem dX9_pace_47 : D1 cX9_pace 47 (.iload_n 2) 1 48 := ⟨by decide +kernel, rfl⟩
theorem dX9_pace_48 : DJ cX9_pace 48 (.if_icmp .le) 51 56 := ⟨8, by decide +kernel, rfl, by decide⟩
theorem dX9_pace_51 : D1 cX9_pace 51 (.iload 4) 2 53 := ⟨by decide +kernel, rfl⟩
theorem dX9_pace_53 : DJ cX9_pace 53 .goto 56 57 := ⟨4, by decide +kernel, rfl, by decide⟩
theorem dX9_pace_56 : D1 cX9_pace 56 (.iload_n 2) 1 57 := ⟨by decide +kernel, rfl⟩
theorem dX9_pace_57 : D1 cX9_pace 57 (.istore_n 2) 1 58 := ⟨by decide +kernel, rfl⟩
theorem dX9_pace_58 : D1 cX9_pace 58 (.iinc 3 1) 3 61 := ⟨by decide +kernel, rfl⟩
theorem dX9_pace_61 : DJ cX9_pace 61 .goto 64 20 := ⟨(-41), by decide +kernel, rfl, by decide⟩
theorem dX9_pace_64 : D1 cX9_pace 64 (.iload_n 1) 1 65 := ⟨by decide +kernel, rfl⟩
theorem dX9_pace_65 : D1 cX9_pace 65 (.ireturn) 1 66 := ⟨by decide +kernel, rfl⟩
theorem dX9_thrift_0 : D1 cX9_thrift 0 (.iload_n 1) 1 1 := ⟨by decide +kernel, rfl⟩
theorem dX9_thrift_1 : D1 cX9_thrift 1 (.invokestatic 221) 3 4 := ⟨by decide +kernel, rfl⟩
theorem dX9_thrift_4 : DJ cX9_thrift 4 (.ifCond .ne) 7 14 := ⟨10, by decide +kernel, rfl, by decide⟩
theorem dX9_thrift_7 : D1 cX9_thrift 7 (.aload_n 0) 1 8 := ⟨by decide +kernel, rfl⟩
theorem dX9_thrift_8 : D1 cX9_thrift 8 (.ldc 47) 2 10 := ⟨by decide +kernel, rfl⟩
theorem dX9_thrift_10 : D1 cX9_thrift 10 (.invokevirtual 59) 3 13 := ⟨by decide +kernel, rfl⟩
theorem dX9_thrift_13 : D1 cX9_thrift 13 (.ireturn) 1 14 := ⟨by decide +kernel, rfl⟩
theorem dX9_thrift_14 : D1 cX9_thrift 14 (.aload_n 0) 1 15 := ⟨by decide +kernel, rfl⟩
theorem dX9_thrift_15 : D1 cX9_thrift 15 (.invokevirtual 224) 3 18 := ⟨by decide +kernel, rfl⟩
theorem dX9_thrift_18 : DJ cX9_thrift 18 (.ifCond .eq) 21 28 := ⟨10, by decide +kernel, rfl, by decide⟩
theorem dX9_thrift_21 : D1 cX9_thrift 21 (.aload_n 0) 1 22 := ⟨by decide +kernel, rfl⟩
theorem dX9_thrift_22 : D1 cX9_thrift 22 (.ldc 100) 2 24 := ⟨by decide +kernel, rfl⟩
theorem dX9_thrift_24 : D1 cX9_thrift 24 (.invokevirtual 59) 3 27 := ⟨by decide +kernel, rfl⟩
theorem dX9_thrift_27 : D1 cX9_thrift 27 (.ireturn) 1 28 := ⟨by decide +kernel, rfl⟩
theorem dX9_thrift_28 : D1 cX9_thrift 28 (.aload_n 0) 1 29 := ⟨by decide +kernel, rfl⟩
theorem dX9_thrift_29 : D1 cX9_thrift 29 (.iload_n 1) 1 30 := ⟨by decide +kernel, rfl⟩
theorem dX9_thrift_30 : D1 cX9_thrift 30 (.iconst 1) 1 31 := ⟨by decide +kernel, rfl⟩
theorem dX9_thrift_31 : D1 cX9_thrift 31 (.iconst 0) 1 32 := ⟨by decide +kernel, rfl⟩
theorem dX9_thrift_32 : D1 cX9_thrift 32 (.invokevirtual 230) 3 35 := ⟨by decide +kernel, rfl⟩
theorem dX9_thrift_35 : D1 cX9_thrift 35 (.aload_n 0) 1 36 := ⟨by decide +kernel, rfl⟩
theorem dX9_thrift_36 : D1 cX9_thrift 36 (.getfield 190) 3 39 := ⟨by decide +kernel, rfl⟩
theorem dX9_thrift_39 : DJ cX9_thrift 39 (.ifCond .ge) 42 51 := ⟨12, by decide +kernel, rfl, by decide⟩
theorem dX9_thrift_42 : D1 cX9_thrift 42 (.aload_n 0) 1 43 := ⟨by decide +kernel, rfl⟩
theorem dX9_thrift_43 : D1 cX9_thrift 43 (.ldc 153) 2 45 := ⟨by decide +kernel, rfl⟩
theorem dX9_thrift_45 : D1 cX9_thrift 45 (.invokevirtual 59) 3 48 := ⟨by decide +kernel, rfl⟩
theorem dX9_thrift_48 : DJ cX9_thrift 48 .goto 51 55 := ⟨7, by decide +kernel, rfl, by decide⟩
theorem dX9_thrift_51 : D1 cX9_thrift 51 (.aload_n 0) 1 52 := ⟨by decide +kernel, rfl⟩
theorem dX9_thrift_52 : D1 cX9_thrift 52 (.getfield 190) 3 55 := ⟨by decide +kernel, rfl⟩
theorem dX9_thrift_55 : D1 cX9_thrift 55 (.ireturn) 1 56 := ⟨by decide +kernel, rfl⟩
theorem dX9_middle_0 : D1 cX9_middle 0 (.iconst (-1)) 1 1 := ⟨by decide +kernel, rfl⟩
theorem dX9_middle_1 : D1 cX9_middle 1 (.istore_n 1) 1 2 := ⟨by decide +kernel, rfl⟩
theorem dX9_middle_2 : D1 cX9_middle 2 (.iconst 0) 1 3 := ⟨by decide +kernel, rfl⟩
theorem dX9_middle_3 : D1 cX9_middle 3 (.istore_n 2) 1 4 := ⟨by decide +kernel, rfl⟩
theorem dX9_middle_4 : D1 cX9_middle 4 (.iconst 0) 1 5 := ⟨by decide +kernel, rfl⟩
theorem dX9_middle_5 : D1 cX9_middle 5 (.istore_n 3) 1 6 := ⟨by decide +kernel, rfl⟩
theorem dX9_middle_6 : D1 cX9_middle 6 (.iload_n 3) 1 7 := ⟨by decide +kernel, rfl⟩
theorem dX9_middle_7 : D1 cX9_middle 7 (.aload_n 0) 1 8 := ⟨by decide +kernel, rfl⟩
theorem dX9_middle_8 : D1 cX9_middle 8 (.getfield 7) 3 11 := ⟨by decide +kernel, rfl⟩
theorem dX9_middle_11 : D1 cX9_middle 11 (.iconst 1) 1 12 := ⟨by decide +kernel, rfl⟩
theorem dX9_middle_12 : D1 cX9_middle 12 (.iaload) 1 13 := ⟨by decide +kernel, rfl⟩
theorem dX9_middle_13 : DJ cX9_middle 13 (.if_icmp .ge) 16 72 := ⟨59, by decide +kernel, rfl, by decide⟩
theorem dX9_middle_16 : D1 cX9_middle 16 (.iconst 0) 1 17 := ⟨by decide +kernel, rfl⟩
theorem dX9_middle_17 : D1 cX9_middle 17 (.istore 4) 2 19 := ⟨by decide +kernel, rfl⟩
theorem dX9_middle_19 : D1 cX9_middle 19 (.iconst 0) 1 20 := ⟨by decide +kernel, rfl⟩
theorem dX9_middle_20 : D1 cX9_middle 20 (.istore 5) 2 22 := ⟨by decide +kernel, rfl⟩
theorem dX9_middle_22 : D1 cX9_middle 22 (.iload 5) 2 24 := ⟨by decide +kernel, rfl⟩
theorem dX9_middle_24 : D1 cX9_middle 24 (.aload_n 0) 1 25 := ⟨by decide +kernel, rfl⟩
theorem dX9_middle_25 : D1 cX9_middle 25 (.getfield 7) 3 28 := ⟨by decide +kernel, rfl⟩
theorem dX9_middle_28 : D1 cX9_middle 28 (.iconst 1) 1 29 := ⟨by decide +kernel, rfl⟩
theorem dX9_middle_29 : D1 cX9_middle 29 (.iaload) 1 30 := ⟨by decide +kernel, rfl⟩
theorem dX9_middle_30 : DJ cX9_middle 30 (.if_icmp .ge) 33 51 := ⟨21, by decide +kernel, rfl, by decide⟩
theorem dX9_middle_33 : D1 cX9_middle 33 (.iload 4) 2 35 := ⟨by decide +kernel, rfl⟩
theorem dX9_middle_35 : D1 cX9_middle 35 (.aload_n 0) 1 36 := ⟨by decide +kernel, rfl⟩
theorem dX9_middle_36 : D1 cX9_middle 36 (.iload_n 3) 1 37 := ⟨by decide +kernel, rfl⟩
theorem dX9_middle_37 : D1 cX9_middle 37 (.iload 5) 2 39 := ⟨by decide +kernel, rfl⟩
theorem dX9_middle_39 : D1 cX9_middle 39 (.invokevirtual 101) 3 42 := ⟨by decide +kernel, rfl⟩
theorem dX9_middle_42 : D1 cX9_middle 42 (.iadd) 1 43 := ⟨by decide +kernel, rfl⟩
theorem dX9_middle_43 : D1 cX9_middle 43 (.istore 4) 2 45 := ⟨by decide +kernel, rfl⟩
theorem dX9_middle_45 : D1 cX9_middle 45 (.iinc 5 1) 3 48 := ⟨by decide +kernel, rfl⟩
theorem dX9_middle_48 : DJ cX9_middle 48 .goto 51 22 := ⟨(-26), by decide +kernel, rfl, by decide⟩
theorem dX9_middle_51 : D1 cX9_middle 51 (.iload_n 1) 1 52 := ⟨by decide +kernel, rfl⟩
theorem dX9_middle_52 : DJ cX9_middle 52 (.ifCond .lt) 55 61 := ⟨9, by decide +kernel, rfl, by decide⟩
theorem dX9_middle_55 : D1 cX9_middle 55 (.iload 4) 2 57 := ⟨by decide +kernel, rfl⟩
theorem dX9_middle_57 : D1 cX9_middle 57 (.iload_n 2) 1 58 := ⟨by decide +kernel, rfl⟩
theorem dX9_middle_58 : DJ cX9_middle 58 (.if_icmp .ge) 61 66 := ⟨8, by decide +kernel, rfl, by decide⟩
theorem dX9_middle_61 : D1 cX9_middle 61 (.iload_n 3) 1 62 := ⟨by decide +kernel, rfl⟩
theorem dX9_middle_62 : D1 cX9_middle 62 (.istore_n 1) 1 63 := ⟨by decide +kernel, rfl⟩
theorem dX9_middle_63 : D1 cX9_middle 63 (.iload 4) 2 65 := ⟨by decide +kernel, rfl⟩
theorem dX9_middle_65 : D1 cX9_middle 65 (.istore_n 2) 1 66 := ⟨by decide +kernel, rfl⟩
theorem dX9_middle_66 : D1 cX9_middle 66 (.iinc 3 1) 3 69 := ⟨by decide +kernel, rfl⟩
theorem dX9_middle_69 : DJ cX9_middle 69 .goto 72 6 := ⟨(-63), by decide +kernel, rfl, by decide⟩
theorem dX9_middle_72 : D1 cX9_middle 72 (.iload_n 1) 1 73 := ⟨by decide +kernel, rfl⟩
theorem dX9_middle_73 : DJ cX9_middle 73 (.ifCond .ge) 76 85 := ⟨12, by decide +kernel, rfl, by decide⟩
theorem dX9_middle_76 : D1 cX9_middle 76 (.aload_n 0) 1 77 := ⟨by decide +kernel, rfl⟩
theorem dX9_middle_77 : D1 cX9_middle 77 (.ldc 153) 2 79 := ⟨by decide +kernel, rfl⟩
theorem dX9_middle_79 : D1 cX9_middle 79 (.invokevirtual 59) 3 82 := ⟨by decide +kernel, rfl⟩
theorem dX9_middle_82 : DJ cX9_middle 82 .goto 85 86 := ⟨4, by decide +kernel, rfl, by decide⟩
theorem dX9_middle_85 : D1 cX9_middle 85 (.iload_n 1) 1 86 := ⟨by decide +kernel, rfl⟩
theorem dX9_middle_86 : D1 cX9_middle 86 (.ireturn) 1 87 := ⟨by decide +kernel, rfl⟩
theorem dX9_ones_0 : D1 cX9_ones 0 (.iconst 0) 1 1 := ⟨by decide +kernel, rfl⟩
theorem dX9_ones_1 : D1 cX9_ones 1 (.istore_n 1) 1 2 := ⟨by decide +kernel, rfl⟩
theorem dX9_ones_2 : D1 cX9_ones 2 (.iload_n 0) 1 3 := ⟨by decide +kernel, rfl⟩
theorem dX9_ones_3 : D1 cX9_ones 3 (.istore_n 2) 1 4 := ⟨by decide +kernel, rfl⟩
theorem dX9_ones_4 : D1 cX9_ones 4 (.iload_n 2) 1 5 := ⟨by decide +kernel, rfl⟩
theorem dX9_ones_5 : DJ cX9_ones 5 (.ifCond .eq) 8 20 := ⟨15, by decide +kernel, rfl, by decide⟩
theorem dX9_ones_8 : D1 cX9_ones 8 (.iinc 1 1) 3 11 := ⟨by decide +kernel, rfl⟩
theorem dX9_ones_11 : D1 cX9_ones 11 (.iload_n 2) 1 12 := ⟨by decide +kernel, rfl⟩
theorem dX9_ones_12 : D1 cX9_ones 12 (.iload_n 2) 1 13 := ⟨by decide +kernel, rfl⟩
theorem dX9_ones_13 : D1 cX9_ones 13 (.iconst 1) 1 14 := ⟨by decide +kernel, rfl⟩
theorem dX9_ones_14 : D1 cX9_ones 14 (.isub) 1 15 := ⟨by decide +kernel, rfl⟩
theorem dX9_ones_15 : D1 cX9_ones 15 (.iand) 1 16 := ⟨by decide +kernel, rfl⟩
theorem dX9_ones_16 : D1 cX9_ones 16 (.istore_n 2) 1 17 := ⟨by decide +kernel, rfl⟩
theorem dX9_ones_17 : DJ cX9_ones 17 .goto 20 4 := ⟨(-13), by decide +kernel, rfl, by decide⟩
theorem dX9_ones_20 : D1 cX9_ones 20 (.iload_n 1) 1 21 := ⟨by decide +kernel, rfl⟩
theorem dX9_ones_21 : D1 cX9_ones 21 (.ireturn) 1 22 := ⟨by decide +kernel, rfl⟩
theorem dX9_calls_0 : D1 cX9_calls 0 (.iload_n 1) 1 1 := ⟨by decide +kernel, rfl⟩
theorem dX9_calls_1 : D1 cX9_calls 1 (.i2l) 1 2 := ⟨by decide +kernel, rfl⟩
theorem dX9_calls_2 : D1 cX9_calls 2 (.lconst 1) 1 3 := ⟨by decide +kernel, rfl⟩
theorem dX9_calls_3 : D1 cX9_calls 3 (.ldc2_w 216) 3 6 := ⟨by decide +kernel, rfl⟩
theorem dX9_calls_6 : D1 cX9_calls 6 (.invokestatic 48) 3 9 := ⟨by decide +kernel, rfl⟩
theorem dX9_calls_9 : DJ cX9_calls 9 (.ifCond .ne) 12 19 := ⟨10, by decide +kernel, rfl, by decide⟩
theorem dX9_calls_12 : D1 cX9_calls 12 (.aload_n 0) 1 13 := ⟨by decide +kernel, rfl⟩
theorem dX9_calls_13 : D1 cX9_calls 13 (.ldc 47) 2 15 := ⟨by decide +kernel, rfl⟩
theorem dX9_calls_15 : D1 cX9_calls 15 (.invokevirtual 59) 3 18 := ⟨by decide +kernel, rfl⟩
theorem dX9_calls_18 : D1 cX9_calls 18 (.ireturn) 1 19 := ⟨by decide +kernel, rfl⟩
theorem dX9_calls_19 : D1 cX9_calls 19 (.aload_n 0) 1 20 := ⟨by decide +kernel, rfl⟩
theorem dX9_calls_20 : D1 cX9_calls 20 (.invokevirtual 104) 3 23 := ⟨by decide +kernel, rfl⟩
theorem dX9_calls_23 : DJ cX9_calls 23 (.ifCond .ne) 26 45 := ⟨22, by decide +kernel, rfl, by decide⟩
theorem dX9_calls_26 : D1 cX9_calls 26 (.aload_n 0) 1 27 := ⟨by decide +kernel, rfl⟩
theorem dX9_calls_27 : D1 cX9_calls 27 (.getfield 7) 3 30 := ⟨by decide +kernel, rfl⟩
theorem dX9_calls_30 : D1 cX9_calls 30 (.iconst 1) 1 31 := ⟨by decide +kernel, rfl⟩
theorem dX9_calls_31 : D1 cX9_calls 31 (.iaload) 1 32 := ⟨by decide +kernel, rfl⟩
theorem dX9_calls_32 : DJ cX9_calls 32 (.ifCond .eq) 35 45 := ⟨13, by decide +kernel, rfl, by decide⟩
theorem dX9_calls_35 : D1 cX9_calls 35 (.aload_n 0) 1 36 := ⟨by decide +kernel, rfl⟩
theorem dX9_calls_36 : D1 cX9_calls 36 (.sipush 8500) 3 39 := ⟨by decide +kernel, rfl⟩
theorem dX9_calls_39 : D1 cX9_calls 39 (.invokevirtual 160) 3 42 := ⟨by decide +kernel, rfl⟩
theorem dX9_calls_42 : DJ cX9_calls 42 (.ifCond .eq) 45 52 := ⟨10, by decide +kernel, rfl, by decide⟩
theorem dX9_calls_45 : D1 cX9_calls 45 (.aload_n 0) 1 46 := ⟨by decide +kernel, rfl⟩
theorem dX9_calls_46 : D1 cX9_calls 46 (.ldc 100) 2 48 := ⟨by decide +kernel, rfl⟩
theorem dX9_calls_48 : D1 cX9_calls 48 (.invokevirtual 59) 3 51 := ⟨by decide +kernel, rfl⟩
theorem dX9_calls_51 : D1 cX9_calls 51 (.ireturn) 1 52 := ⟨by decide +kernel, rfl⟩
theorem dX9_calls_52 : D1 cX9_calls 52 (.iconst 0) 1 53 := ⟨by decide +kernel, rfl⟩
theorem dX9_calls_53 : D1 cX9_calls 53 (.istore_n 2) 1 54 := ⟨by decide +kernel, rfl⟩
theorem dX9_calls_54 : D1 cX9_calls 54 (.iload_n 2) 1 55 := ⟨by decide +kernel, rfl⟩
theorem dX9_calls_55 : D1 cX9_calls 55 (.iload_n 1) 1 56 := ⟨by decide +kernel, rfl⟩
theorem dX9_calls_56 : DJ cX9_calls 56 (.if_icmp .ge) 59 92 := ⟨36, by decide +kernel, rfl, by decide⟩
theorem dX9_calls_59 : D1 cX9_calls 59 (.aload_n 0) 1 60 := ⟨by decide +kernel, rfl⟩
theorem dX9_calls_60 : D1 cX9_calls 60 (.aload_n 0) 1 61 := ⟨by decide +kernel, rfl⟩
theorem dX9_calls_61 : D1 cX9_calls 61 (.invokevirtual 233) 3 64 := ⟨by decide +kernel, rfl⟩
theorem dX9_calls_64 : D1 cX9_calls 64 (.aload_n 0) 1 65 := ⟨by decide +kernel, rfl⟩
theorem dX9_calls_65 : D1 cX9_calls 65 (.getfield 7) 3 68 := ⟨by decide +kernel, rfl⟩
theorem dX9_calls_68 : D1 cX9_calls 68 (.iconst 1) 1 69 := ⟨by decide +kernel, rfl⟩
theorem dX9_calls_69 : D1 cX9_calls 69 (.iaload) 1 70 := ⟨by decide +kernel, rfl⟩
theorem dX9_calls_70 : D1 cX9_calls 70 (.irem) 1 71 := ⟨by decide +kernel, rfl⟩
theorem dX9_calls_71 : D1 cX9_calls 71 (.invokevirtual 108) 3 74 := ⟨by decide +kernel, rfl⟩
theorem dX9_calls_74 : D1 cX9_calls 74 (.aload_n 0) 1 75 := ⟨by decide +kernel, rfl⟩
theorem dX9_calls_75 : D1 cX9_calls 75 (.aload_n 0) 1 76 := ⟨by decide +kernel, rfl⟩
theorem dX9_calls_76 : D1 cX9_calls 76 (.getfield 7) 3 79 := ⟨by decide +kernel, rfl⟩
theorem dX9_calls_79 : D1 cX9_calls 79 (.iconst 3) 1 80 := ⟨by decide +kernel, rfl⟩
theorem dX9_calls_80 : D1 cX9_calls 80 (.iaload) 1 81 := ⟨by decide +kernel, rfl⟩
theorem dX9_calls_81 : D1 cX9_calls 81 (.iconst 2) 1 82 := ⟨by decide +kernel, rfl⟩
theorem dX9_calls_82 : D1 cX9_calls 82 (.iadd) 1 83 := ⟨by decide +kernel, rfl⟩
theorem dX9_calls_83 : D1 cX9_calls 83 (.invokevirtual 134) 3 86 := ⟨by decide +kernel, rfl⟩
theorem dX9_calls_86 : D1 cX9_calls 86 (.iinc 2 1) 3 89 := ⟨by decide +kernel, rfl⟩
theorem dX9_calls_89 : DJ cX9_calls 89 .goto 92 54 := ⟨(-35), by decide +kernel, rfl, by decide⟩
theorem dX9_calls_92 : D1 cX9_calls 92 (.aload_n 0) 1 93 := ⟨by decide +kernel, rfl⟩
theorem dX9_calls_93 : D1 cX9_calls 93 (.invokevirtual 140) 3 96 := ⟨by decide +kernel, rfl⟩
theorem dX9_calls_96 : D1 cX9_calls 96 (.invokestatic 236) 3 99 := ⟨by decide +kernel, rfl⟩
theorem dX9_calls_99 : D1 cX9_calls 99 (.ireturn) 1 100 := ⟨by decide +kernel, rfl⟩
theorem dX9_seed_0 : D1 cX9_seed 0 (.aload_n 0) 1 1 := ⟨by decide +kernel, rfl⟩
theorem dX9_seed_1 : D1 cX9_seed 1 (.getfield 7) 3 4 := ⟨by decide +kernel, rfl⟩
theorem dX9_seed_4 : D1 cX9_seed 4 (.bipush 7) 2 6 := ⟨by decide +kernel, rfl⟩
theorem dX9_seed_6 : D1 cX9_seed 6 (.iaload) 1 7 := ⟨by decide +kernel, rfl⟩
theorem dX9_seed_7 : D1 cX9_seed 7 (.istore_n 2) 1 8 := ⟨by decide +kernel, rfl⟩
theorem dX9_seed_8 : D1 cX9_seed 8 (.aload_n 0) 1 9 := ⟨by decide +kernel, rfl⟩
theorem dX9_seed_9 : D1 cX9_seed 9 (.getfield 7) 3 12 := ⟨by decide +kernel, rfl⟩
theorem dX9_seed_12 : D1 cX9_seed 12 (.bipush 7) 2 14 := ⟨by decide +kernel, rfl⟩
theorem dX9_seed_14 : D1 cX9_seed 14 (.iload_n 1) 1 15 := ⟨by decide +kernel, rfl⟩
theorem dX9_seed_15 : D1 cX9_seed 15 (.iastore) 1 16 := ⟨by decide +kernel, rfl⟩
theorem dX9_seed_16 : D1 cX9_seed 16 (.iload_n 2) 1 17 := ⟨by decide +kernel, rfl⟩
theorem dX9_seed_17 : D1 cX9_seed 17 (.ireturn) 1 18 := ⟨by decide +kernel, rfl⟩
theorem dX9_feed_0 : D1 cX9_feed 0 (.iload_n 2) 1 1 := ⟨by decide +kernel, rfl⟩
theorem dX9_feed_1 : D1 cX9_feed 1 (.i2l) 1 2 := ⟨by decide +kernel, rfl⟩
theorem dX9_feed_2 : D1 cX9_feed 2 (.lconst 1) 1 3 := ⟨by decide +kernel, rfl⟩
theorem dX9_feed_3 : D1 cX9_feed 3 (.ldc2_w 239) 3 6 := ⟨by decide +kernel, rfl⟩
theorem dX9_feed_6 : D1 cX9_feed 6 (.invokestatic 48) 3 9 := ⟨by decide +kernel, rfl⟩
theorem dX9_feed_9 : DJ cX9_feed 9 (.ifCond .ne) 12 19 := ⟨10, by decide +kernel, rfl, by decide⟩
theorem dX9_feed_12 : D1 cX9_feed 12 (.aload_n 0) 1 13 := ⟨by decide +kernel, rfl⟩
theorem dX9_feed_13 : D1 cX9_feed 13 (.ldc 47) 2 15 := ⟨by decide +kernel, rfl⟩
theorem dX9_feed_15 : D1 cX9_feed 15 (.invokevirtual 59) 3 18 := ⟨by decide +kernel, rfl⟩
theorem dX9_feed_18 : D1 cX9_feed 18 (.ireturn) 1 19 := ⟨by decide +kernel, rfl⟩
theorem dX9_feed_19 : D1 cX9_feed 19 (.aload_n 0) 1 20 := ⟨by decide +kernel, rfl⟩
theorem dX9_feed_20 : D1 cX9_feed 20 (.getfield 241) 3 23 := ⟨by decide +kernel, rfl⟩
theorem dX9_feed_23 : D1 cX9_feed 23 (.iload_n 2) 1 24 := ⟨by decide +kernel, rfl⟩
theorem dX9_feed_24 : D1 cX9_feed 24 (.iadd) 1 25 := ⟨by decide +kernel, rfl⟩
theorem dX9_feed_25 : D1 cX9_feed 25 (.bipush 120) 2 27 := ⟨by decide +kernel, rfl⟩
theorem dX9_feed_27 : DJ cX9_feed 27 (.if_icmp .le) 30 37 := ⟨10, by decide +kernel, rfl, by decide⟩
theorem dX9_feed_30 : D1 cX9_feed 30 (.aload_n 0) 1 31 := ⟨by decide +kernel, rfl⟩
theorem dX9_feed_31 : D1 cX9_feed 31 (.ldc 63) 2 33 := ⟨by decide +kernel, rfl⟩
theorem dX9_feed_33 : D1 cX9_feed 33 (.invokevirtual 59) 3 36 := ⟨by decide +kernel, rfl⟩
theorem dX9_feed_36 : D1 cX9_feed 36 (.ireturn) 1 37 := ⟨by decide +kernel, rfl⟩
theorem dX9_feed_37 : D1 cX9_feed 37 (.iload_n 2) 1 38 := ⟨by decide +kernel, rfl⟩
theorem dX9_feed_38 : D1 cX9_feed 38 (.iconst 1) 1 39 := ⟨by decide +kernel, rfl⟩
theorem dX9_feed_39 : D1 cX9_feed 39 (.isub) 1 40 := ⟨by decide +kernel, rfl⟩
theorem dX9_feed_40 : D1 cX9_feed 40 (.istore_n 3) 1 41 := ⟨by decide +kernel, rfl⟩
theorem dX9_feed_41 : D1 cX9_feed 41 (.iload_n 3) 1 42 := ⟨by decide +kernel, rfl⟩
theorem dX9_feed_42 : DJ cX9_feed 42 (.ifCond .lt) 45 80 := ⟨38, by decide +kernel, rfl, by decide⟩
theorem dX9_feed_45 : D1 cX9_feed 45 (.aload_n 0) 1 46 := ⟨by decide +kernel, rfl⟩
theorem dX9_feed_46 : D1 cX9_feed 46 (.getfield 32) 3 49 := ⟨by decide +kernel, rfl⟩
theorem dX9_feed_49 : D1 cX9_feed 49 (.aload_n 0) 1 50 := ⟨by decide +kernel, rfl⟩
theorem dX9_feed_50 : D1 cX9_feed 50 (.getfield 241) 3 53 := ⟨by decide +kernel, rfl⟩
theorem dX9_feed_53 : D1 cX9_feed 53 (.iload_n 1) 1 54 := ⟨by decide +kernel, rfl⟩
theorem dX9_feed_54 : D1 cX9_feed 54 (.bipush 8) 2 56 := ⟨by decide +kernel, rfl⟩
theorem dX9_feed_56 : D1 cX9_feed 56 (.iload_n 3) 1 57 := ⟨by decide +kernel, rfl⟩
theorem dX9_feed_57 : D1 cX9_feed 57 (.imul) 1 58 := ⟨by decide +kernel, rfl⟩
theorem dX9_feed_58 : D1 cX9_feed 58 (.ishr) 1 59 := ⟨by decide +kernel, rfl⟩
theorem dX9_feed_59 : D1 cX9_feed 59 (.sipush 255) 3 62 := ⟨by decide +kernel, rfl⟩
theorem dX9_feed_62 : D1 cX9_feed 62 (.iand) 1 63 := ⟨by decide +kernel, rfl⟩
theorem dX9_feed_63 : D1 cX9_feed 63 (.iastore) 1 64 := ⟨by decide +kernel, rfl⟩
theorem dX9_feed_64 : D1 cX9_feed 64 (.aload_n 0) 1 65 := ⟨by decide +kernel, rfl⟩
theorem dX9_feed_65 : D1 cX9_feed 65 (.dup) 1 66 := ⟨by decide +kernel, rfl⟩
theorem dX9_feed_66 : D1 cX9_feed 66 (.getfield 241) 3 69 := ⟨by decide +kernel, rfl⟩
theorem dX9_feed_69 : D1 cX9_feed 69 (.iconst 1) 1 70 := ⟨by decide +kernel, rfl⟩
theorem dX9_feed_70 : D1 cX9_feed 70 (.iadd) 1 71 := ⟨by decide +kernel, rfl⟩
theorem dX9_feed_71 : D1 cX9_feed 71 (.putfield 241) 3 74 := ⟨by decide +kernel, rfl⟩
theorem dX9_feed_74 : D1 cX9_feed 74 (.iinc 3 (-1)) 3 77 := ⟨by decide +kernel, rfl⟩
theorem dX9_feed_77 : DJ cX9_feed 77 .goto 80 41 := ⟨(-36), by decide +kernel, rfl, by decide⟩
theorem dX9_feed_80 : D1 cX9_feed 80 (.aload_n 0) 1 81 := ⟨by decide +kernel, rfl⟩
theorem dX9_feed_81 : D1 cX9_feed 81 (.getfield 241) 3 84 := ⟨by decide +kernel, rfl⟩
theorem dX9_feed_84 : D1 cX9_feed 84 (.ireturn) 1 85 := ⟨by decide +kernel, rfl⟩
theorem dX9_wipe_0 : D1 cX9_wipe 0 (.aload_n 0) 1 1 := ⟨by decide +kernel, rfl⟩
theorem dX9_wipe_1 : D1 cX9_wipe 1 (.getfield 241) 3 4 := ⟨by decide +kernel, rfl⟩
theorem dX9_wipe_4 : D1 cX9_wipe 4 (.istore_n 1) 1 5 := ⟨by decide +kernel, rfl⟩
theorem dX9_wipe_5 : D1 cX9_wipe 5 (.aload_n 0) 1 6 := ⟨by decide +kernel, rfl⟩
theorem dX9_wipe_6 : D1 cX9_wipe 6 (.iconst 0) 1 7 := ⟨by decide +kernel, rfl⟩
theorem dX9_wipe_7 : D1 cX9_wipe 7 (.putfield 241) 3 10 := ⟨by decide +kernel, rfl⟩
theorem dX9_wipe_10 : D1 cX9_wipe 10 (.iload_n 1) 1 11 := ⟨by decide +kernel, rfl⟩
theorem dX9_wipe_11 : D1 cX9_wipe 11 (.ireturn) 1 12 := ⟨by decide +kernel, rfl⟩
theorem dX9_byteAt_0 : D1 cX9_byteAt 0 (.iload_n 1) 1 1 := ⟨by decide +kernel, rfl⟩
theorem dX9_byteAt_1 : D1 cX9_byteAt 1 (.aload_n 0) 1 2 := ⟨by decide +kernel, rfl⟩
theorem dX9_byteAt_2 : D1 cX9_byteAt 2 (.getfield 241) 3 5 := ⟨by decide +kernel, rfl⟩
theorem dX9_byteAt_5 : DJ cX9_byteAt 5 (.if_icmp .ge) 8 17 := ⟨12, by decide +kernel, rfl, by decide⟩
theorem dX9_byteAt_8 : D1 cX9_byteAt 8 (.aload_n 0) 1 9 := ⟨by decide +kernel, rfl⟩
theorem dX9_byteAt_9 : D1 cX9_byteAt 9 (.getfield 32) 3 12 := ⟨by decide +kernel, rfl⟩
theorem dX9_byteAt_12 : D1 cX9_byteAt 12 (.iload_n 1) 1 13 := ⟨by decide +kernel, rfl⟩
theorem dX9_byteAt_13 : D1 cX9_byteAt 13 (.iaload) 1 14 := ⟨by decide +kernel, rfl⟩
theorem dX9_byteAt_14 : DJ cX9_byteAt 14 .goto 17 18 := ⟨4, by decide +kernel, rfl, by decide⟩
theorem dX9_byteAt_17 : D1 cX9_byteAt 17 (.iconst (-1)) 1 18 := ⟨by decide +kernel, rfl⟩
theorem dX9_byteAt_18 : D1 cX9_byteAt 18 (.ireturn) 1 19 := ⟨by decide +kernel, rfl⟩
theorem dX9_isLetter_0 : D1 cX9_isLetter 0 (.iload_n 0) 1 1 := ⟨by decide +kernel, rfl⟩
theorem dX9_isLetter_1 : D1 cX9_isLetter 1 (.i2l) 1 2 := ⟨by decide +kernel, rfl⟩
theorem dX9_isLetter_2 : D1 cX9_isLetter 2 (.ldc2_w 244) 3 5 := ⟨by decide +kernel, rfl⟩
theorem dX9_isLetter_5 : D1 cX9_isLetter 5 (.ldc2_w 246) 3 8 := ⟨by decide +kernel, rfl⟩
theorem dX9_isLetter_8 : D1 cX9_isLetter 8 (.invokestatic 48) 3 11 := ⟨by decide +kernel, rfl⟩
theorem dX9_isLetter_11 : D1 cX9_isLetter 11 (.ireturn) 1 12 := ⟨by decide +kernel, rfl⟩
theorem dX9_isDigit_0 : D1 cX9_isDigit 0 (.iload_n 0) 1 1 := ⟨by decide +kernel, rfl⟩
theorem dX9_isDigit_1 : D1 cX9_isDigit 1 (.i2l) 1 2 := ⟨by decide +kernel, rfl⟩
theorem dX9_isDigit_2 : D1 cX9_isDigit 2 (.ldc2_w 248) 3 5 := ⟨by decide +kernel, rfl⟩
theorem dX9_isDigit_5 : D1 cX9_isDigit 5 (.ldc2_w 250) 3 8 := ⟨by decide +kernel, rfl⟩
theorem dX9_isDigit_8 : D1 cX9_isDigit 8 (.invokestatic 48) 3 11 := ⟨by decide +kernel, rfl⟩
theorem dX9_isDigit_11 : D1 cX9_isDigit 11 (.ireturn) 1 12 := ⟨by decide +kernel, rfl⟩
theorem dX9_token_0 : D1 cX9_token 0 (.aload_n 0) 1 1 := ⟨by decide +kernel, rfl⟩
theorem dX9_token_1 : D1 cX9_token 1 (.aload_n 0) 1 2 := ⟨by decide +kernel, rfl⟩
theorem dX9_token_2 : D1 cX9_token 2 (.getfield 252) 3 5 := ⟨by decide +kernel, rfl⟩
theorem dX9_token_5 : D1 cX9_token 5 (.putfield 255) 3 8 := ⟨by decide +kernel, rfl⟩
theorem dX9_token_8 : D1 cX9_token 8 (.aload_n 0) 1 9 := ⟨by decide +kernel, rfl⟩
theorem dX9_token_9 : D1 cX9_token 9 (.aload_n 0) 1 10 := ⟨by decide +kernel, rfl⟩
theorem dX9_token_10 : D1 cX9_token 10 (.getfield 255) 3 13 := ⟨by decide +kernel, rfl⟩
theorem dX9_token_13 : D1 cX9_token 13 (.invokevirtual 258) 3 16 := ⟨by decide +kernel, rfl⟩
theorem dX9_token_16 : D1 cX9_token 16 (.bipush 32) 2 18 := ⟨by decide +kernel, rfl⟩
theorem dX9_token_18 : DJ cX9_token 18 (.if_icmp .ne) 21 34 := ⟨16, by decide +kernel, rfl, by decide⟩
theorem dX9_token_21 : D1 cX9_token 21 (.aload_n 0) 1 22 := ⟨by decide +kernel, rfl⟩
theorem dX9_token_22 : D1 cX9_token 22 (.dup) 1 23 := ⟨by decide +kernel, rfl⟩
theorem dX9_token_23 : D1 cX9_token 23 (.getfield 255) 3 26 := ⟨by decide +kernel, rfl⟩
theorem dX9_token_26 : D1 cX9_token 26 (.iconst 1) 1 27 := ⟨by decide +kernel, rfl⟩
theorem dX9_token_27 : D1 cX9_token 27 (.iadd) 1 28 := ⟨by decide +kernel, rfl⟩
theorem dX9_token_28 : D1 cX9_token 28 (.putfield 255) 3 31 := ⟨by decide +kernel, rfl⟩
theorem dX9_token_31 : DJ cX9_token 31 .goto 34 8 := ⟨(-23), by decide +kernel, rfl, by decide⟩
theorem dX9_token_34 : D1 cX9_token 34 (.aload_n 0) 1 35 := ⟨by decide +kernel, rfl⟩
theorem dX9_token_35 : D1 cX9_token 35 (.aload_n 0) 1 36 := ⟨by decide +kernel, rfl⟩
theorem dX9_token_36 : D1 cX9_token 36 (.getfield 255) 3 39 := ⟨by decide +kernel, rfl⟩
theorem dX9_token_39 : D1 cX9_token 39 (.invokevirtual 258) 3 42 := ⟨by decide +kernel, rfl⟩
theorem dX9_token_42 : D1 cX9_token 42 (.invokestatic 261) 3 45 := ⟨by decide +kernel, rfl⟩
theorem dX9_token_45 : D1 cX9_token 45 (.istore_n 1) 1 46 := ⟨by decide +kernel, rfl⟩
theorem dX9_token_46 : D1 cX9_token 46 (.aload_n 0) 1 47 := ⟨by decide +kernel, rfl⟩
theorem dX9_token_47 : D1 cX9_token 47 (.aload_n 0) 1 48 := ⟨by decide +kernel, rfl⟩
theorem dX9_token_48 : D1 cX9_token 48 (.getfield 255) 3 51 := ⟨by decide +kernel, rfl⟩
theorem dX9_token_51 : D1 cX9_token 51 (.invokevirtual 258) 3 54 := ⟨by decide +kernel, rfl⟩
theorem dX9_token_54 : D1 cX9_token 54 (.invokestatic 264) 3 57 := ⟨by decide +kernel, rfl⟩
theorem dX9_token_57 : D1 cX9_token 57 (.istore_n 2) 1 58 := ⟨by decide +kernel, rfl⟩
theorem dX9_token_58 : D1 cX9_token 58 (.aload_n 0) 1 59 := ⟨by decide +kernel, rfl⟩
theorem dX9_token_59 : D1 cX9_token 59 (.aload_n 0) 1 60 := ⟨by decide +kernel, rfl⟩
theorem dX9_token_60 : D1 cX9_token 60 (.getfield 255) 3 63 := ⟨by decide +kernel, rfl⟩
theorem dX9_token_63 : D1 cX9_token 63 (.aload_n 0) 1 64 := ⟨by decide +kernel, rfl⟩
theorem dX9_token_64 : D1 cX9_token 64 (.getfield 241) 3 67 := ⟨by decide +kernel, rfl⟩
theorem dX9_token_67 : DJ cX9_token 67 (.if_icmp .ge) 70 79 := ⟨12, by decide +kernel, rfl, by decide⟩
theorem dX9_token_70 : D1 cX9_token 70 (.aload_n 0) 1 71 := ⟨by decide +kernel, rfl⟩
theorem dX9_token_71 : D1 cX9_token 71 (.getfield 255) 3 74 := ⟨by decide +kernel, rfl⟩
theorem dX9_token_74 : D1 cX9_token 74 (.iconst 1) 1 75 := ⟨by decide +kernel, rfl⟩
theorem dX9_token_75 : D1 cX9_token 75 (.iadd) 1 76 := ⟨by decide +kernel, rfl⟩
theorem dX9_token_76 : DJ cX9_token 76 .goto 79 83 := ⟨7, by decide +kernel, rfl, by decide⟩
theorem dX9_token_79 : D1 cX9_token 79 (.aload_n 0) 1 80 := ⟨by decide +kernel, rfl⟩
theorem dX9_token_80 : D1 cX9_token 80 (.getfield 255) 3 83 := ⟨by decide +kernel, rfl⟩
theorem dX9_token_83 : D1 cX9_token 83 (.putfield 252) 3 86 := ⟨by decide +kernel, rfl⟩
theorem dX9_token_86 : D1 cX9_token 86 (.iload_n 1) 1 87 := ⟨by decide +kernel, rfl⟩
theorem dX9_token_87 : DJ cX9_token 87 (.ifCond .eq) 90 104 := ⟨17, by decide +kernel, rfl, by decide⟩
theorem dX9_token_90 : D1 cX9_token 90 (.aload_n 0) 1 91 := ⟨by decide +kernel, rfl⟩
theorem dX9_token_91 : D1 cX9_token 91 (.aload_n 0) 1 92 := ⟨by decide +kernel, rfl⟩
theorem dX9_token_92 : D1 cX9_token 92 (.getfield 252) 3 95 := ⟨by decide +kernel, rfl⟩
theorem dX9_token_95 : D1 cX9_token 95 (.invokevirtual 258) 3 98 := ⟨by decide +kernel, rfl⟩
theorem dX9_token_98 : D1 cX9_token 98 (.invokestatic 261) 3 101 := ⟨by decide +kernel, rfl⟩
theorem dX9_token_101 : DJ cX9_token 101 (.ifCond .ne) 104 122 := ⟨21, by decide +kernel, rfl, by decide⟩
theorem dX9_token_104 : D1 cX9_token 104 (.iload_n 2) 1 105 := ⟨by decide +kernel, rfl⟩
theorem dX9_token_105 : DJ cX9_token 105 (.ifCond .eq) 108 135 := ⟨30, by decide +kernel, rfl, by decide⟩
theorem dX9_token_108 : D1 cX9_token 108 (.aload_n 0) 1 109 := ⟨by decide +kernel, rfl⟩
theorem dX9_token_109 : D1 cX9_token 109 (.aload_n 0) 1 110 := ⟨by decide +kernel, rfl⟩
theorem dX9_token_110 : D1 cX9_token 110 (.getfield 252) 3 113 := ⟨by decide +kernel, rfl⟩
theorem dX9_token_113 : D1 cX9_token 113 (.invokevirtual 258) 3 116 := ⟨by decide +kernel, rfl⟩
theorem dX9_token_116 : D1 cX9_token 116 (.invokestatic 264) 3 119 := ⟨by decide +kernel, rfl⟩
theorem dX9_token_119 : DJ cX9_token 119 (.ifCond .eq) 122 135 := ⟨16, by decide +kernel, rfl, by decide⟩
theorem dX9_token_122 : D1 cX9_token 122 (.aload_n 0) 1 123 := ⟨by decide +kernel, rfl⟩
theorem dX9_token_123 : D1 cX9_token 123 (.dup) 1 124 := ⟨by decide +kernel, rfl⟩
theorem dX9_token_124 : D1 cX9_token 124 (.getfield 252) 3 127 := ⟨by decide +kernel, rfl⟩
theorem dX9_token_127 : D1 cX9_token 127 (.iconst 1) 1 128 := ⟨by decide +kernel, rfl⟩
theorem dX9_token_128 : D1 cX9_token 128 (.iadd) 1 129 := ⟨by decide +kernel, rfl⟩
theorem dX9_token_129 : D1 cX9_token 129 (.putfield 252) 3 132 := ⟨by decide +kernel, rfl⟩
theorem dX9_token_132 : DJ cX9_token 132 .goto 135 86 := ⟨(-46), by decide +kernel, rfl, by decide⟩
theorem dX9_token_135 : D1 cX9_token 135 (.return_) 1 136 := ⟨by decide +kernel, rfl⟩
theorem dX9_needs_0 : D1 cX9_needs 0 (.aload_n 0) 1 1 := ⟨by decide +kernel, rfl⟩
theorem dX9_needs_1 : D1 cX9_needs 1 (.aload_n 0) 1 2 := ⟨by decide +kernel, rfl⟩
theorem dX9_needs_2 : D1 cX9_needs 2 (.getfield 267) 3 5 := ⟨by decide +kernel, rfl⟩
theorem dX9_needs_5 : DJ cX9_needs 5 (.ifCond .ne) 8 12 := ⟨7, by decide +kernel, rfl, by decide⟩
theorem dX9_needs_8 : D1 cX9_needs 8 (.iload_n 1) 1 9 := ⟨by decide +kernel, rfl⟩
theorem dX9_needs_9 : DJ cX9_needs 9 (.ifCond .ne) 12 16 := ⟨7, by decide +kernel, rfl, by decide⟩
theorem dX9_needs_12 : D1 cX9_needs 12 (.iconst 1) 1 13 := ⟨by decide +kernel, rfl⟩
theorem dX9_needs_13 : DJ cX9_needs 13 .goto 16 17 := ⟨4, by decide +kernel, rfl, by decide⟩
theorem dX9_needs_16 : D1 cX9_needs 16 (.iconst 0) 1 17 := ⟨by decide +kernel, rfl⟩
theorem dX9_needs_17 : D1 cX9_needs 17 (.putfield 267) 3 20 := ⟨by decide +kernel, rfl⟩
theorem dX9_needs_20 : D1 cX9_needs 20 (.aload_n 0) 1 21 := ⟨by decide +kernel, rfl⟩
theorem dX9_needs_21 : D1 cX9_needs 21 (.getfield 267) 3 24 := ⟨by decide +kernel, rfl⟩
theorem dX9_needs_24 : DJ cX9_needs 24 (.ifCond .ne) 27 31 := ⟨7, by decide +kernel, rfl, by decide⟩
theorem dX9_needs_27 : D1 cX9_needs 27 (.aload_n 0) 1 28 := ⟨by decide +kernel, rfl⟩
theorem dX9_needs_28 : D1 cX9_needs 28 (.invokevirtual 270) 3 31 := ⟨by decide +kernel, rfl⟩
theorem dX9_needs_31 : D1 cX9_needs 31 (.return_) 1 32 := ⟨by decide +kernel, rfl⟩
theorem dX9_word_0 : D1 cX9_word 0 (.lconst 0) 1 1 := ⟨by decide +kernel, rfl⟩
theorem dX9_word_1 : D1 cX9_word 1 (.lstore_n 1) 1 2 := ⟨by decide +kernel, rfl⟩
theorem dX9_word_2 : D1 cX9_word 2 (.aload_n 0) 1 3 := ⟨by decide +kernel, rfl⟩
theorem dX9_word_3 : D1 cX9_word 3 (.getfield 255) 3 6 := ⟨by decide +kernel, rfl⟩
theorem dX9_word_6 : D1 cX9_word 6 (.istore_n 3) 1 7 := ⟨by decide +kernel, rfl⟩
theorem dX9_word_7 : D1 cX9_word 7 (.iload_n 3) 1 8 := ⟨by decide +kernel, rfl⟩
theorem dX9_word_8 : D1 cX9_word 8 (.aload_n 0) 1 9 := ⟨by decide +kernel, rfl⟩
theorem dX9_word_9 : D1 cX9_word 9 (.getfield 252) 3 12 := ⟨by decide +kernel, rfl⟩
theorem dX9_word_12 : DJ cX9_word 12 (.if_icmp .ge) 15 50 := ⟨38, by decide +kernel, rfl, by decide⟩
theorem dX9_word_15 : D1 cX9_word 15 (.lload_n 1) 1 16 := ⟨by decide +kernel, rfl⟩
theorem dX9_word_16 : D1 cX9_word 16 (.ldc2_w 273) 3 19 := ⟨by decide +kernel, rfl⟩
theorem dX9_word_19 : D1 cX9_word 19 (.lcmp) 1 20 := ⟨by decide +kernel, rfl⟩
theorem dX9_word_20 : DJ cX9_word 20 (.ifCond .le) 23 27 := ⟨7, by decide +kernel, rfl, by decide⟩
theorem dX9_word_23 : D1 cX9_word 23 (.lload_n 1) 1 24 := ⟨by decide +kernel, rfl⟩
theorem dX9_word_24 : DJ cX9_word 24 .goto 27 43 := ⟨19, by decide +kernel, rfl, by decide⟩
theorem dX9_word_27 : D1 cX9_word 27 (.ldc2_w 275) 3 30 := ⟨by decide +kernel, rfl⟩
theorem dX9_word_30 : D1 cX9_word 30 (.lload_n 1) 1 31 := ⟨by decide +kernel, rfl⟩
theorem dX9_word_31 : D1 cX9_word 31 (.lmul) 1 32 := ⟨by decide +kernel, rfl⟩
theorem dX9_word_32 : D1 cX9_word 32 (.aload_n 0) 1 33 := ⟨by decide +kernel, rfl⟩
theorem dX9_word_33 : D1 cX9_word 33 (.getfield 32) 3 36 := ⟨by decide +kernel, rfl⟩
theorem dX9_word_36 : D1 cX9_word 36 (.iload_n 3) 1 37 := ⟨by decide +kernel, rfl⟩
theorem dX9_word_37 : D1 cX9_word 37 (.iaload) 1 38 := ⟨by decide +kernel, rfl⟩
theorem dX9_word_38 : D1 cX9_word 38 (.bipush 96) 2 40 := ⟨by decide +kernel, rfl⟩
theorem dX9_word_40 : D1 cX9_word 40 (.isub) 1 41 := ⟨by decide +kernel, rfl⟩
theorem dX9_word_41 : D1 cX9_word 41 (.i2l) 1 42 := ⟨by decide +kernel, rfl⟩
theorem dX9_word_42 : D1 cX9_word 42 (.ladd) 1 43 := ⟨by decide +kernel, rfl⟩
theorem dX9_word_43 : D1 cX9_word 43 (.lstore_n 1) 1 44 := ⟨by decide +kernel, rfl⟩
theorem dX9_word_44 : D1 cX9_word 44 (.iinc 3 1) 3 47 := ⟨by decide +kernel, rfl⟩
theorem dX9_word_47 : DJ cX9_word 47 .goto 50 7 := ⟨(-40), by decide +kernel, rfl, by decide⟩
theorem dX9_word_50 : D1 cX9_word 50 (.aload_n 0) 1 51 := ⟨by decide +kernel, rfl⟩
theorem dX9_word_51 : D1 cX9_word 51 (.getfield 267) 3 54 := ⟨by decide +kernel, rfl⟩
theorem dX9_word_54 : DJ cX9_word 54 (.ifCond .ne) 57 71 := ⟨17, by decide +kernel, rfl, by decide⟩
theorem dX9_word_57 : D1 cX9_word 57 (.aload_n 0) 1 58 := ⟨by decide +kernel, rfl⟩
theorem dX9_word_58 : D1 cX9_word 58 (.aload_n 0) 1 59 := ⟨by decide +kernel, rfl⟩
theorem dX9_word_59 : D1 cX9_word 59 (.getfield 255) 3 62 := ⟨by decide +kernel, rfl⟩
theorem dX9_word_62 : D1 cX9_word 62 (.invokevirtual 258) 3 65 := ⟨by decide +kernel, rfl⟩
theorem dX9_word_65 : D1 cX9_word 65 (.invokestatic 261) 3 68 := ⟨by decide +kernel, rfl⟩
theorem dX9_word_68 : DJ cX9_word 68 (.ifCond .ne) 71 75 := ⟨7, by decide +kernel, rfl, by decide⟩
theorem dX9_word_71 : D1 cX9_word 71 (.lconst 0) 1 72 := ⟨by decide +kernel, rfl⟩
theorem dX9_word_72 : DJ cX9_word 72 .goto 75 76 := ⟨4, by decide +kernel, rfl, by decide⟩
theorem dX9_word_75 : D1 cX9_word 75 (.lload_n 1) 1 76 := ⟨by decide +kernel, rfl⟩
theorem dX9_word_76 : D1 cX9_word 76 (.lreturn) 1 77 := ⟨by decide +kernel, rfl⟩
theorem dX9_number_0 : D1 cX9_number 0 (.aload_n 0) 1 1 := ⟨by decide +kernel, rfl⟩
theorem dX9_number_1 : D1 cX9_number 1 (.getfield 267) 3 4 := ⟨by decide +kernel, rfl⟩
theorem dX9_number_4 : DJ cX9_number 4 (.ifCond .eq) 7 8 := ⟨4, by decide +kernel, rfl, by decide⟩
theorem dX9_number_7 : D1 cX9_number 7 (.return_) 1 8 := ⟨by decide +kernel, rfl⟩
theorem dX9_number_8 : D1 cX9_number 8 (.aload_n 0) 1 9 := ⟨by decide +kernel, rfl⟩
theorem dX9_number_9 : D1 cX9_number 9 (.aload_n 0) 1 10 := ⟨by decide +kernel, rfl⟩
theorem dX9_number_10 : D1 cX9_number 10 (.getfield 255) 3 13 := ⟨by decide +kernel, rfl⟩
theorem dX9_number_13 : D1 cX9_number 13 (.invokevirtual 258) 3 16 := ⟨by decide +kernel, rfl⟩
theorem dX9_number_16 : D1 cX9_number 16 (.invokestatic 264) 3 19 := ⟨by decide +kernel, rfl⟩
theorem dX9_number_19 : D1 cX9_number 19 (.istore_n 3) 1 20 := ⟨by decide +kernel, rfl⟩
theorem dX9_number_20 : D1 cX9_number 20 (.iconst 0) 1 21 := ⟨by decide +kernel, rfl⟩
theorem dX9_number_21 : D1 cX9_number 21 (.istore 4) 2 23 := ⟨by decide +kernel, rfl⟩
theorem dX9_number_23 : D1 cX9_number 23 (.aload_n 0) 1 24 := ⟨by decide +kernel, rfl⟩
theorem dX9_number_24 : D1 cX9_number 24 (.getfield 255) 3 27 := ⟨by decide +kernel, rfl⟩
theorem dX9_number_27 : D1 cX9_number 27 (.istore 5) 2 29 := ⟨by decide +kernel, rfl⟩
theorem dX9_number_29 : D1 cX9_number 29 (.iload 5) 2 31 := ⟨by decide +kernel, rfl⟩
theorem dX9_number_31 : D1 cX9_number 31 (.aload_n 0) 1 32 := ⟨by decide +kernel, rfl⟩
theorem dX9_number_32 : D1 cX9_number 32 (.getfield 252) 3 35 := ⟨by decide +kernel, rfl⟩
theorem dX9_number_35 : DJ cX9_number 35 (.if_icmp .ge) 38 79 := ⟨44, by decide +kernel, rfl, by decide⟩
theorem dX9_number_38 : D1 cX9_number 38 (.iload_n 3) 1 39 := ⟨by decide +kernel, rfl⟩
theorem dX9_number_39 : DJ cX9_number 39 (.ifCond .eq) 42 79 := ⟨40, by decide +kernel, rfl, by decide⟩
theorem dX9_number_42 : D1 cX9_number 42 (.iload 4) 2 44 := ⟨by decide +kernel, rfl⟩
theorem dX9_number_44 : D1 cX9_number 44 (.sipush 999) 3 47 := ⟨by decide +kernel, rfl⟩
theorem dX9_number_47 : DJ cX9_number 47 (.if_icmp .le) 50 55 := ⟨8, by decide +kernel, rfl, by decide⟩
theorem dX9_number_50 : D1 cX9_number 50 (.iload 4) 2 52 := ⟨by decide +kernel, rfl⟩
theorem dX9_number_52 : DJ cX9_number 52 .goto 55 71 := ⟨19, by decide +kernel, rfl, by decide⟩
theorem dX9_number_55 : D1 cX9_number 55 (.bipush 10) 2 57 := ⟨by decide +kernel, rfl⟩
theorem dX9_number_57 : D1 cX9_number 57 (.iload 4) 2 59 := ⟨by decide +kernel, rfl⟩
theorem dX9_number_59 : D1 cX9_number 59 (.imul) 1 60 := ⟨by decide +kernel, rfl⟩
theorem dX9_number_60 : D1 cX9_number 60 (.aload_n 0) 1 61 := ⟨by decide +kernel, rfl⟩
theorem dX9_number_61 : D1 cX9_number 61 (.getfield 32) 3 64 := ⟨by decide +kernel, rfl⟩
theorem dX9_number_64 : D1 cX9_number 64 (.iload 5) 2 66 := ⟨by decide +kernel, rfl⟩
theorem dX9_number_66 : D1 cX9_number 66 (.iaload) 1 67 := ⟨by decide +kernel, rfl⟩
theorem dX9_number_67 : D1 cX9_number 67 (.iadd) 1 68 := ⟨by decide +kernel, rfl⟩
theorem dX9_number_68 : D1 cX9_number 68 (.bipush 48) 2 70 := ⟨by decide +kernel, rfl⟩
theorem dX9_number_70 : D1 cX9_number 70 (.isub) 1 71 := ⟨by decide +kernel, rfl⟩
theorem dX9_number_71 : D1 cX9_number 71 (.istore 4) 2 73 := ⟨by decide +kernel, rfl⟩
theorem dX9_number_73 : D1 cX9_number 73 (.iinc 5 1) 3 76 := ⟨by decide +kernel, rfl⟩
theorem dX9_number_76 : DJ cX9_number 76 .goto 79 29 := ⟨(-47), by decide +kernel, rfl, by decide⟩
theorem dX9_number_79 : D1 cX9_number 79 (.aload_n 0) 1 80 := ⟨by decide +kernel, rfl⟩
theorem dX9_number_80 : D1 cX9_number 80 (.iload 4) 2 82 := ⟨by decide +kernel, rfl⟩
theorem dX9_number_82 : D1 cX9_number 82 (.putfield 277) 3 85 := ⟨by decide +kernel, rfl⟩
theorem dX9_number_85 : D1 cX9_number 85 (.aload_n 0) 1 86 := ⟨by decide +kernel, rfl⟩
theorem dX9_number_86 : D1 cX9_number 86 (.iload_n 3) 1 87 := ⟨by decide +kernel, rfl⟩
theorem dX9_number_87 : DJ cX9_number 87 (.ifCond .eq) 90 107 := ⟨20, by decide +kernel, rfl, by decide⟩
theorem dX9_number_90 : D1 cX9_number 90 (.iload 4) 2 92 := ⟨by decide +kernel, rfl⟩
theorem dX9_number_92 : D1 cX9_number 92 (.i2l) 1 93 := ⟨by decide +kernel, rfl⟩
theorem dX9_number_93 : D1 cX9_number 93 (.iload_n 1) 1 94 := ⟨by decide +kernel, rfl⟩
theorem dX9_number_94 : D1 cX9_number 94 (.i2l) 1 95 := ⟨by decide +kernel, rfl⟩
theorem dX9_number_95 : D1 cX9_number 95 (.iload_n 2) 1 96 := ⟨by decide +kernel, rfl⟩
theorem dX9_number_96 : D1 cX9_number 96 (.i2l) 1 97 := ⟨by decide +kernel, rfl⟩
theorem dX9_number_97 : D1 cX9_number 97 (.invokestatic 48) 3 100 := ⟨by decide +kernel, rfl⟩
theorem dX9_number_100 : DJ cX9_number 100 (.ifCond .eq) 103 107 := ⟨7, by decide +kernel, rfl, by decide⟩
theorem dX9_number_103 : D1 cX9_number 103 (.iconst 1) 1 104 := ⟨by decide +kernel, rfl⟩
theorem dX9_number_104 : DJ cX9_number 104 .goto 107 108 := ⟨4, by decide +kernel, rfl, by decide⟩
theorem dX9_number_107 : D1 cX9_number 107 (.iconst 0) 1 108 := ⟨by decide +kernel, rfl⟩
theorem dX9_number_108 : D1 cX9_number 108 (.invokevirtual 280) 3 111 := ⟨by decide +kernel, rfl⟩
theorem dX9_number_111 : D1 cX9_number 111 (.return_) 1 112 := ⟨by decide +kernel, rfl⟩
theorem dX9_kindHere_0 : D1 cX9_kindHere 0 (.aload_n 0) 1 1 := ⟨by decide +kernel, rfl⟩
theorem dX9_kindHere_1 : D1 cX9_kindHere 1 (.invokevirtual 284) 3 4 := ⟨by decide +kernel, rfl⟩
theorem dX9_kindHere_4 : D1 cX9_kindHere 4 (.lstore_n 1) 1 5 := ⟨by decide +kernel, rfl⟩
theorem dX9_kindHere_5 : D1 cX9_kindHere 5 (.lload_n 1) 1 6 := ⟨by decide +kernel, rfl⟩
theorem dX9_kindHere_6 : D1 cX9_kindHere 6 (.ldc2_w 288) 3 9 := ⟨by decide +kernel, rfl⟩
theorem dX9_kindHere_9 : D1 cX9_kindHere 9 (.lcmp) 1 10 := ⟨by decide +kernel, rfl⟩
theorem dX9_kindHere_10 : DJ cX9_kindHere 10 (.ifCond .ne) 13 17 := ⟨7, by decide +kernel, rfl, by decide⟩
theorem dX9_kindHere_13 : D1 cX9_kindHere 13 (.iconst 0) 1 14 := ⟨by decide +kernel, rfl⟩
theorem dX9_kindHere_14 : DJ cX9_kindHere 14 .goto 17 91 := ⟨77, by decide +kernel, rfl, by decide⟩
theorem dX9_kindHere_17 : D1 cX9_kindHere 17 (.lload_n 1) 1 18 := ⟨by decide +kernel, rfl⟩
theorem dX9_kindHere_18 : D1 cX9_kindHere 18 (.ldc2_w 290) 3 21 := ⟨by decide +kernel, rfl⟩
theorem dX9_kindHere_21 : D1 cX9_kindHere 21 (.lcmp) 1 22 := ⟨by decide +kernel, rfl⟩
theorem dX9_kindHere_22 : DJ cX9_kindHere 22 (.ifCond .ne) 25 29 := ⟨7, by decide +kernel, rfl, by decide⟩
theorem dX9_kindHere_25 : D1 cX9_kindHere 25 (.iconst 1) 1 26 := ⟨by decide +kernel, rfl⟩
theorem dX9_kindHere_26 : DJ cX9_kindHere 26 .goto 29 91 := ⟨65, by decide +kernel, rfl, by decide⟩
theorem dX9_kindHere_29 : D1 cX9_kindHere 29 (.lload_n 1) 1 30 := ⟨by decide +kernel, rfl⟩
theorem dX9_kindHere_30 : D1 cX9_kindHere 30 (.ldc2_w 292) 3 33 := ⟨by decide +kernel, rfl⟩
theorem dX9_kindHere_33 : D1 cX9_kindHere 33 (.lcmp) 1 34 := ⟨by decide +kernel, rfl⟩
theorem dX9_kindHere_34 : DJ cX9_kindHere 34 (.ifCond .ne) 37 41 := ⟨7, by decide +kernel, rfl, by decide⟩
theorem dX9_kindHere_37 : D1 cX9_kindHere 37 (.iconst 2) 1 38 := ⟨by decide +kernel, rfl⟩
theorem dX9_kindHere_38 : DJ cX9_kindHere 38 .goto 41 91 := ⟨53, by decide +kernel, rfl, by decide⟩
theorem dX9_kindHere_41 : D1 cX9_kindHere 41 (.lload_n 1) 1 42 := ⟨by decide +kernel, rfl⟩
theorem dX9_kindHere_42 : D1 cX9_kindHere 42 (.ldc2_w 294) 3 45 := ⟨by decide +kernel, rfl⟩
theorem dX9_kindHere_45 : D1 cX9_kindHere 45 (.lcmp) 1 46 := ⟨by decide +kernel, rfl⟩
theorem dX9_kindHere_46 : DJ cX9_kindHere 46 (.ifCond .ne) 49 53 := ⟨7, by decide +kernel, rfl, by decide⟩
theorem dX9_kindHere_49 : D1 cX9_kindHere 49 (.iconst 3) 1 50 := ⟨by decide +kernel, rfl⟩
theorem dX9_kindHere_50 : DJ cX9_kindHere 50 .goto 53 91 := ⟨41, by decide +kernel, rfl, by decide⟩
theorem dX9_kindHere_53 : D1 cX9_kindHere 53 (.lload_n 1) 1 54 := ⟨by decide +kernel, rfl⟩
theorem dX9_kindHere_54 : D1 cX9_kindHere 54 (.ldc2_w 296) 3 57 := ⟨by decide +kernel, rfl⟩
theorem dX9_kindHere_57 : D1 cX9_kindHere 57 (.lcmp) 1 58 := ⟨by decide +kernel, rfl⟩
theorem dX9_kindHere_58 : DJ cX9_kindHere 58 (.ifCond .ne) 61 65 := ⟨7, by decide +kernel, rfl, by decide⟩
theorem dX9_kindHere_61 : D1 cX9_kindHere 61 (.iconst 4) 1 62 := ⟨by decide +kernel, rfl⟩
theorem dX9_kindHere_62 : DJ cX9_kindHere 62 .goto 65 91 := ⟨29, by decide +kernel, rfl, by decide⟩
theorem dX9_kindHere_65 : D1 cX9_kindHere 65 (.lload_n 1) 1 66 := ⟨by decide +kernel, rfl⟩
theorem dX9_kindHere_66 : D1 cX9_kindHere 66 (.ldc2_w 298) 3 69 := ⟨by decide +kernel, rfl⟩
theorem dX9_kindHere_69 : D1 cX9_kindHere 69 (.lcmp) 1 70 := ⟨by decide +kernel, rfl⟩
theorem dX9_kindHere_70 : DJ cX9_kindHere 70 (.ifCond .ne) 73 77 := ⟨7, by decide +kernel, rfl, by decide⟩
theorem dX9_kindHere_73 : D1 cX9_kindHere 73 (.iconst 5) 1 74 := ⟨by decide +kernel, rfl⟩
theorem dX9_kindHere_74 : DJ cX9_kindHere 74 .goto 77 91 := ⟨17, by decide +kernel, rfl, by decide⟩
theorem dX9_kindHere_77 : D1 cX9_kindHere 77 (.lload_n 1) 1 78 := ⟨by decide +kernel, rfl⟩
theorem dX9_kindHere_78 : D1 cX9_kindHere 78 (.ldc2_w 300) 3 81 := ⟨by decide +kernel, rfl⟩
theorem dX9_kindHere_81 : D1 cX9_kindHere 81 (.lcmp) 1 82 := ⟨by decide +kernel, rfl⟩
theorem dX9_kindHere_82 : DJ cX9_kindHere 82 (.ifCond .ne) 85 90 := ⟨8, by decide +kernel, rfl, by decide⟩
theorem dX9_kindHere_85 : D1 cX9_kindHere 85 (.bipush 6) 2 87 := ⟨by decide +kernel, rfl⟩
theorem dX9_kindHere_87 : DJ cX9_kindHere 87 .goto 90 91 := ⟨4, by decide +kernel, rfl, by decide⟩
theorem dX9_kindHere_90 : D1 cX9_kindHere 90 (.iconst (-1)) 1 91 := ⟨by decide +kernel, rfl⟩
theorem dX9_kindHere_91 : D1 cX9_kindHere 91 (.ireturn) 1 92 := ⟨by decide +kernel, rfl⟩
theorem dX9_perhaps_0 : D1 cX9_perhaps 0 (.iload_n 1) 1 1 := ⟨by decide +kernel, rfl⟩
theorem dX9_perhaps_1 : DJ cX9_perhaps 1 (.ifCond .ne) 4 7 := ⟨6, by decide +kernel, rfl, by decide⟩
theorem dX9_perhaps_4 : D1 cX9_perhaps 4 (.iload 4) 2 6 := ⟨by decide +kernel, rfl⟩
theorem dX9_perhaps_6 : D1 cX9_perhaps 6 (.ireturn) 1 7 := ⟨by decide +kernel, rfl⟩
theorem dX9_perhaps_7 : D1 cX9_perhaps 7 (.aload_n 0) 1 8 := ⟨by decide +kernel, rfl⟩
theorem dX9_perhaps_8 : D1 cX9_perhaps 8 (.iconst 1) 1 9 := ⟨by decide +kernel, rfl⟩
theorem dX9_perhaps_9 : D1 cX9_perhaps 9 (.invokevirtual 280) 3 12 := ⟨by decide +kernel, rfl⟩
theorem dX9_perhaps_12 : D1 cX9_perhaps 12 (.aload_n 0) 1 13 := ⟨by decide +kernel, rfl⟩
theorem dX9_perhaps_13 : D1 cX9_perhaps 13 (.iload_n 2) 1 14 := ⟨by decide +kernel, rfl⟩
theorem dX9_perhaps_14 : D1 cX9_perhaps 14 (.iload_n 3) 1 15 := ⟨by decide +kernel, rfl⟩
theorem dX9_perhaps_15 : D1 cX9_perhaps 15 (.invokevirtual 302) 3 18 := ⟨by decide +kernel, rfl⟩
theorem dX9_perhaps_18 : D1 cX9_perhaps 18 (.aload_n 0) 1 19 := ⟨by decide +kernel, rfl⟩
theorem dX9_perhaps_19 : D1 cX9_perhaps 19 (.getfield 277) 3 22 := ⟨by decide +kernel, rfl⟩
theorem dX9_perhaps_22 : D1 cX9_perhaps 22 (.ireturn) 1 23 := ⟨by decide +kernel, rfl⟩
theorem dX9_houseItem_0 : D1 cX9_houseItem 0 (.aload_n 0) 1 1 := ⟨by decide +kernel, rfl⟩
theorem dX9_houseItem_1 : D1 cX9_houseItem 1 (.aload_n 0) 1 2 := ⟨by decide +kernel, rfl⟩
theorem dX9_houseItem_2 : D1 cX9_houseItem 2 (.getfield 7) 3 5 := ⟨by decide +kernel, rfl⟩
theorem dX9_houseItem_5 : D1 cX9_houseItem 5 (.iconst 1) 1 6 := ⟨by decide +kernel, rfl⟩
theorem dX9_houseItem_6 : D1 cX9_houseItem 6 (.iaload) 1 7 := ⟨by decide +kernel, rfl⟩
theorem dX9_houseItem_7 : D1 cX9_houseItem 7 (.bipush 8) 2 9 := ⟨by decide +kernel, rfl⟩
theorem dX9_houseItem_9 : DJ cX9_houseItem 9 (.if_icmp .ge) 12 16 := ⟨7, by decide +kernel, rfl, by decide⟩
theorem dX9_houseItem_12 : D1 cX9_houseItem 12 (.iconst 1) 1 13 := ⟨by decide +kernel, rfl⟩
theorem dX9_houseItem_13 : DJ cX9_houseItem 13 .goto 16 17 := ⟨4, by decide +kernel, rfl, by decide⟩
theorem dX9_houseItem_16 : D1 cX9_houseItem 16 (.iconst 0) 1 17 := ⟨by decide +kernel, rfl⟩
theorem dX9_houseItem_17 : D1 cX9_houseItem 17 (.invokevirtual 280) 3 20 := ⟨by decide +kernel, rfl⟩
theorem dX9_houseItem_20 : D1 cX9_houseItem 20 (.aload_n 0) 1 21 := ⟨by decide +kernel, rfl⟩
theorem dX9_houseItem_21 : D1 cX9_houseItem 21 (.aload_n 0) 1 22 := ⟨by decide +kernel, rfl⟩
theorem dX9_houseItem_22 : D1 cX9_houseItem 22 (.invokevirtual 284) 3 25 := ⟨by decide +kernel, rfl⟩
theorem dX9_houseItem_25 : D1 cX9_houseItem 25 (.ldc2_w 304) 3 28 := ⟨by decide +kernel, rfl⟩
theorem dX9_houseItem_28 : D1 cX9_houseItem 28 (.lcmp) 1 29 := ⟨by decide +kernel, rfl⟩
theorem dX9_houseItem_29 : DJ cX9_houseItem 29 (.ifCond .ne) 32 36 := ⟨7, by decide +kernel, rfl, by decide⟩
theorem dX9_houseItem_32 : D1 cX9_houseItem 32 (.iconst 1) 1 33 := ⟨by decide +kernel, rfl⟩
theorem dX9_houseItem_33 : DJ cX9_houseItem 33 .goto 36 37 := ⟨4, by decide +kernel, rfl, by decide⟩
theorem dX9_houseItem_36 : D1 cX9_houseItem 36 (.iconst 0) 1 37 := ⟨by decide +kernel, rfl⟩
theorem dX9_houseItem_37 : D1 cX9_houseItem 37 (.iconst 0) 1 38 := ⟨by decide +kernel, rfl⟩
theorem dX9_houseItem_38 : D1 cX9_houseItem 38 (.sipush 400) 3 41 := ⟨by decide +kernel, rfl⟩
theorem dX9_houseItem_41 : D1 cX9_houseItem 41 (.bipush 100) 2 43 := ⟨by decide +kernel, rfl⟩
theorem dX9_houseItem_43 : D1 cX9_houseItem 43 (.invokevirtual 306) 3 46 := ⟨by decide +kernel, rfl⟩
theorem dX9_houseItem_46 : D1 cX9_houseItem 46 (.istore_n 2) 1 47 := ⟨by decide +kernel, rfl⟩
theorem dX9_houseItem_47 : D1 cX9_houseItem 47 (.aload_n 0) 1 48 := ⟨by decide +kernel, rfl⟩
theorem dX9_houseItem_48 : D1 cX9_houseItem 48 (.aload_n 0) 1 49 := ⟨by decide +kernel, rfl⟩
theorem dX9_houseItem_49 : D1 cX9_houseItem 49 (.invokevirtual 284) 3 52 := ⟨by decide +kernel, rfl⟩
theorem dX9_houseItem_52 : D1 cX9_houseItem 52 (.ldc2_w 310) 3 55 := ⟨by decide +kernel, rfl⟩
theorem dX9_houseItem_55 : D1 cX9_houseItem 55 (.lcmp) 1 56 := ⟨by decide +kernel, rfl⟩
theorem dX9_houseItem_56 : DJ cX9_houseItem 56 (.ifCond .ne) 59 63 := ⟨7, by decide +kernel, rfl, by decide⟩
theorem dX9_houseItem_59 : D1 cX9_houseItem 59 (.iconst 1) 1 60 := ⟨by decide +kernel, rfl⟩
theorem dX9_houseItem_60 : DJ cX9_houseItem 60 .goto 63 64 := ⟨4, by decide +kernel, rfl, by decide⟩
theorem dX9_houseItem_63 : D1 cX9_houseItem 63 (.iconst 0) 1 64 := ⟨by decide +kernel, rfl⟩
theorem dX9_houseItem_64 : D1 cX9_houseItem 64 (.iconst 1) 1 65 := ⟨by decide +kernel, rfl⟩
theorem dX9_houseItem_65 : D1 cX9_houseItem 65 (.bipush 40) 2 67 := ⟨by decide +kernel, rfl⟩
theorem dX9_houseItem_67 : D1 cX9_houseItem 67 (.bipush 10) 2 69 := ⟨by decide +kernel, rfl⟩
theorem dX9_houseItem_69 : D1 cX9_houseItem 69 (.invokevirtual 306) 3 72 := ⟨by decide +kernel, rfl⟩
theorem dX9_houseItem_72 : D1 cX9_houseItem 72 (.istore_n 3) 1 73 := ⟨by decide +kernel, rfl⟩
theorem dX9_houseItem_73 : D1 cX9_houseItem 73 (.aload_n 0) 1 74 := ⟨by decide +kernel, rfl⟩
theorem dX9_houseItem_74 : D1 cX9_houseItem 74 (.aload_n 0) 1 75 := ⟨by decide +kernel, rfl⟩
theorem dX9_houseItem_75 : D1 cX9_houseItem 75 (.invokevirtual 284) 3 78 := ⟨by decide +kernel, rfl⟩
theorem dX9_houseItem_78 : D1 cX9_houseItem 78 (.ldc2_w 312) 3 81 := ⟨by decide +kernel, rfl⟩
theorem dX9_houseItem_81 : D1 cX9_houseItem 81 (.lcmp) 1 82 := ⟨by decide +kernel, rfl⟩
theorem dX9_houseItem_82 : DJ cX9_houseItem 82 (.ifCond .ne) 85 89 := ⟨7, by decide +kernel, rfl, by decide⟩
theorem dX9_houseItem_85 : D1 cX9_houseItem 85 (.iconst 1) 1 86 := ⟨by decide +kernel, rfl⟩
theorem dX9_houseItem_86 : DJ cX9_houseItem 86 .goto 89 90 := ⟨4, by decide +kernel, rfl, by decide⟩
theorem dX9_houseItem_89 : D1 cX9_houseItem 89 (.iconst 0) 1 90 := ⟨by decide +kernel, rfl⟩
theorem dX9_houseItem_90 : D1 cX9_houseItem 90 (.iconst 0) 1 91 := ⟨by decide +kernel, rfl⟩
theorem dX9_houseItem_91 : D1 cX9_houseItem 91 (.bipush 99) 2 93 := ⟨by decide +kernel, rfl⟩
theorem dX9_houseItem_93 : D1 cX9_houseItem 93 (.bipush 8) 2 95 := ⟨by decide +kernel, rfl⟩
theorem dX9_houseItem_95 : D1 cX9_houseItem 95 (.invokevirtual 306) 3 98 := ⟨by decide +kernel, rfl⟩
theorem dX9_houseItem_98 : D1 cX9_houseItem 98 (.istore 4) 2 100 := ⟨by decide +kernel, rfl⟩
theorem dX9_houseItem_100 : D1 cX9_houseItem 100 (.aload_n 0) 1 101 := ⟨by decide +kernel, rfl⟩
theorem dX9_houseItem_101 : D1 cX9_houseItem 101 (.aload_n 0) 1 102 := ⟨by decide +kernel, rfl⟩
theorem dX9_houseItem_102 : D1 cX9_houseItem 102 (.invokevirtual 284) 3 105 := ⟨by decide +kernel, rfl⟩
theorem dX9_houseItem_105 : D1 cX9_houseItem 105 (.ldc2_w 314) 3 108 := ⟨by decide +kernel, rfl⟩
theorem dX9_houseItem_108 : D1 cX9_houseItem 108 (.lcmp) 1 109 := ⟨by decide +kernel, rfl⟩
theorem dX9_houseItem_109 : DJ cX9_houseItem 109 (.ifCond .ne) 112 116 := ⟨7, by decide +kernel, rfl, by decide⟩
theorem dX9_houseItem_112 : D1 cX9_houseItem 112 (.iconst 1) 1 113 := ⟨by decide +kernel, rfl⟩
theorem dX9_houseItem_113 : DJ cX9_houseItem 113 .goto 116 117 := ⟨4, by decide +kernel, rfl, by decide⟩
theorem dX9_houseItem_116 : D1 cX9_houseItem 116 (.iconst 0) 1 117 := ⟨by decide +kernel, rfl⟩
theorem dX9_houseItem_117 : D1 cX9_houseItem 117 (.iconst 0) 1 118 := ⟨by decide +kernel, rfl⟩
theorem dX9_houseItem_118 : D1 cX9_houseItem 118 (.sipush 400) 3 121 := ⟨by decide +kernel, rfl⟩
theorem dX9_houseItem_121 : D1 cX9_houseItem 121 (.bipush 60) 2 123 := ⟨by decide +kernel, rfl⟩
theorem dX9_houseItem_123 : D1 cX9_houseItem 123 (.invokevirtual 306) 3 126 := ⟨by decide +kernel, rfl⟩
theorem dX9_houseItem_126 : D1 cX9_houseItem 126 (.istore 5) 2 128 := ⟨by decide +kernel, rfl⟩
theorem dX9_houseItem_128 : D1 cX9_houseItem 128 (.aload_n 0) 1 129 := ⟨by decide +kernel, rfl⟩
theorem dX9_houseItem_129 : D1 cX9_houseItem 129 (.getfield 267) 3 132 := ⟨by decide +kernel, rfl⟩
theorem dX9_houseItem_132 : DJ cX9_houseItem 132 (.ifCond .ne) 135 148 := ⟨16, by decide +kernel, rfl, by decide⟩
theorem dX9_houseItem_135 : D1 cX9_houseItem 135 (.aload_n 0) 1 136 := ⟨by decide +kernel, rfl⟩
theorem dX9_houseItem_136 : D1 cX9_houseItem 136 (.iload_n 1) 1 137 := ⟨by decide +kernel, rfl⟩
theorem dX9_houseItem_137 : D1 cX9_houseItem 137 (.iload_n 2) 1 138 := ⟨by decide +kernel, rfl⟩
theorem dX9_houseItem_138 : D1 cX9_houseItem 138 (.iload_n 3) 1 139 := ⟨by decide +kernel, rfl⟩
theorem dX9_houseItem_139 : D1 cX9_houseItem 139 (.iload 4) 2 141 := ⟨by decide +kernel, rfl⟩
theorem dX9_houseItem_141 : D1 cX9_houseItem 141 (.iload 5) 2 143 := ⟨by decide +kernel, rfl⟩
theorem dX9_houseItem_143 : D1 cX9_houseItem 143 (.invokevirtual 64) 3 146 := ⟨by decide +kernel, rfl⟩
theorem dX9_houseItem_146 : D1 cX9_houseItem 146 (.istore 6) 2 148 := ⟨by decide +kernel, rfl⟩
theorem dX9_houseItem_148 : D1 cX9_houseItem 148 (.return_) 1 149 := ⟨by decide +kernel, rfl⟩
theorem dX9_steepItem_0 : D1 cX9_steepItem 0 (.aload_n 0) 1 1 := ⟨by decide +kernel, rfl⟩
theorem dX9_steepItem_1 : D1 cX9_steepItem 1 (.iconst 1) 1 2 := ⟨by decide +kernel, rfl⟩
theorem dX9_steepItem_2 : D1 cX9_steepItem 2 (.iconst 0) 1 3 := ⟨by decide +kernel, rfl⟩
theorem dX9_steepItem_3 : D1 cX9_steepItem 3 (.bipush 6) 2 5 := ⟨by decide +kernel, rfl⟩
theorem dX9_steepItem_5 : D1 cX9_steepItem 5 (.iconst 0) 1 6 := ⟨by decide +kernel, rfl⟩
theorem dX9_steepItem_6 : D1 cX9_steepItem 6 (.invokevirtual 306) 3 9 := ⟨by decide +kernel, rfl⟩
theorem dX9_steepItem_9 : D1 cX9_steepItem 9 (.istore_n 1) 1 10 := ⟨by decide +kernel, rfl⟩
theorem dX9_steepItem_10 : D1 cX9_steepItem 10 (.aload_n 0) 1 11 := ⟨by decide +kernel, rfl⟩
theorem dX9_steepItem_11 : D1 cX9_steepItem 11 (.iconst 0) 1 12 := ⟨by decide +kernel, rfl⟩
theorem dX9_steepItem_12 : D1 cX9_steepItem 12 (.bipush 9) 2 14 := ⟨by decide +kernel, rfl⟩
theorem dX9_steepItem_14 : D1 cX9_steepItem 14 (.invokevirtual 302) 3 17 := ⟨by decide +kernel, rfl⟩
theorem dX9_steepItem_17 : D1 cX9_steepItem 17 (.aload_n 0) 1 18 := ⟨by decide +kernel, rfl⟩
theorem dX9_steepItem_18 : D1 cX9_steepItem 18 (.getfield 267) 3 21 := ⟨by decide +kernel, rfl⟩
theorem dX9_steepItem_21 : DJ cX9_steepItem 21 (.ifCond .ne) 24 37 := ⟨16, by decide +kernel, rfl, by decide⟩
theorem dX9_steepItem_24 : D1 cX9_steepItem 24 (.aload_n 0) 1 25 := ⟨by decide +kernel, rfl⟩
theorem dX9_steepItem_25 : D1 cX9_steepItem 25 (.getfield 7) 3 28 := ⟨by decide +kernel, rfl⟩
theorem dX9_steepItem_28 : D1 cX9_steepItem 28 (.bipush 8) 2 30 := ⟨by decide +kernel, rfl⟩
theorem dX9_steepItem_30 : D1 cX9_steepItem 30 (.iload_n 1) 1 31 := ⟨by decide +kernel, rfl⟩
theorem dX9_steepItem_31 : D1 cX9_steepItem 31 (.iadd) 1 32 := ⟨by decide +kernel, rfl⟩
theorem dX9_steepItem_32 : D1 cX9_steepItem 32 (.aload_n 0) 1 33 := ⟨by decide +kernel, rfl⟩
theorem dX9_steepItem_33 : D1 cX9_steepItem 33 (.getfield 277) 3 36 := ⟨by decide +kernel, rfl⟩
theorem dX9_steepItem_36 : D1 cX9_steepItem 36 (.iastore) 1 37 := ⟨by decide +kernel, rfl⟩
theorem dX9_steepItem_37 : D1 cX9_steepItem 37 (.return_) 1 38 := ⟨by decide +kernel, rfl⟩
theorem dX9_item_0 : D1 cX9_item 0 (.aload_n 0) 1 1 := ⟨by decide +kernel, rfl⟩
theorem dX9_item_1 : D1 cX9_item 1 (.invokevirtual 316) 3 4 := ⟨by decide +kernel, rfl⟩
theorem dX9_item_4 : D1 cX9_item 4 (.istore_n 1) 1 5 := ⟨by decide +kernel, rfl⟩
theorem dX9_item_5 : D1 cX9_item 5 (.iload_n 1) 1 6 := ⟨by decide +kernel, rfl⟩
theorem dX9_item_6 : DJ cX9_item 6 (.ifCond .lt) 9 17 := ⟨11, by decide +kernel, rfl, by decide⟩
theorem dX9_item_9 : D1 cX9_item 9 (.aload_n 0) 1 10 := ⟨by decide +kernel, rfl⟩
theorem dX9_item_10 : D1 cX9_item 10 (.iload_n 1) 1 11 := ⟨by decide +kernel, rfl⟩
theorem dX9_item_11 : D1 cX9_item 11 (.invokevirtual 319) 3 14 := ⟨by decide +kernel, rfl⟩
theorem dX9_item_14 : DJ cX9_item 14 .goto 17 121 := ⟨107, by decide +kernel, rfl, by decide⟩
theorem dX9_item_17 : D1 cX9_item 17 (.aload_n 0) 1 18 := ⟨by decide +kernel, rfl⟩
theorem dX9_item_18 : D1 cX9_item 18 (.invokevirtual 284) 3 21 := ⟨by decide +kernel, rfl⟩
theorem dX9_item_21 : D1 cX9_item 21 (.ldc2_w 322) 3 24 := ⟨by decide +kernel, rfl⟩
theorem dX9_item_24 : D1 cX9_item 24 (.lcmp) 1 25 := ⟨by decide +kernel, rfl⟩
theorem dX9_item_25 : DJ cX9_item 25 (.ifCond .ne) 28 35 := ⟨10, by decide +kernel, rfl, by decide⟩
theorem dX9_item_28 : D1 cX9_item 28 (.aload_n 0) 1 29 := ⟨by decide +kernel, rfl⟩
theorem dX9_item_29 : D1 cX9_item 29 (.invokevirtual 324) 3 32 := ⟨by decide +kernel, rfl⟩
theorem dX9_item_32 : DJ cX9_item 32 .goto 35 121 := ⟨89, by decide +kernel, rfl, by decide⟩
theorem dX9_item_35 : D1 cX9_item 35 (.aload_n 0) 1 36 := ⟨by decide +kernel, rfl⟩
theorem dX9_item_36 : D1 cX9_item 36 (.invokevirtual 284) 3 39 := ⟨by decide +kernel, rfl⟩
theorem dX9_item_39 : D1 cX9_item 39 (.ldc2_w 327) 3 42 := ⟨by decide +kernel, rfl⟩
theorem dX9_item_42 : D1 cX9_item 42 (.lcmp) 1 43 := ⟨by decide +kernel, rfl⟩
theorem dX9_item_43 : DJ cX9_item 43 (.ifCond .ne) 46 65 := ⟨22, by decide +kernel, rfl, by decide⟩
theorem dX9_item_46 : D1 cX9_item 46 (.aload_n 0) 1 47 := ⟨by decide +kernel, rfl⟩
theorem dX9_item_47 : D1 cX9_item 47 (.getfield 7) 3 50 := ⟨by decide +kernel, rfl⟩
theorem dX9_item_50 : D1 cX9_item 50 (.bipush 6) 2 52 := ⟨by decide +kernel, rfl⟩
theorem dX9_item_52 : D1 cX9_item 52 (.aload_n 0) 1 53 := ⟨by decide +kernel, rfl⟩
theorem dX9_item_53 : D1 cX9_item 53 (.iconst 1) 1 54 := ⟨by decide +kernel, rfl⟩
theorem dX9_item_54 : D1 cX9_item 54 (.iconst 0) 1 55 := ⟨by decide +kernel, rfl⟩
theorem dX9_item_55 : D1 cX9_item 55 (.bipush 100) 2 57 := ⟨by decide +kernel, rfl⟩
theorem dX9_item_57 : D1 cX9_item 57 (.iconst 0) 1 58 := ⟨by decide +kernel, rfl⟩
theorem dX9_item_58 : D1 cX9_item 58 (.invokevirtual 306) 3 61 := ⟨by decide +kernel, rfl⟩
theorem dX9_item_61 : D1 cX9_item 61 (.iastore) 1 62 := ⟨by decide +kernel, rfl⟩
theorem dX9_item_62 : DJ cX9_item 62 .goto 65 121 := ⟨59, by decide +kernel, rfl, by decide⟩
theorem dX9_item_65 : D1 cX9_item 65 (.aload_n 0) 1 66 := ⟨by decide +kernel, rfl⟩
theorem dX9_item_66 : D1 cX9_item 66 (.invokevirtual 284) 3 69 := ⟨by decide +kernel, rfl⟩
theorem dX9_item_69 : D1 cX9_item 69 (.ldc2_w 329) 3 72 := ⟨by decide +kernel, rfl⟩
theorem dX9_item_72 : D1 cX9_item 72 (.lcmp) 1 73 := ⟨by decide +kernel, rfl⟩
theorem dX9_item_73 : DJ cX9_item 73 (.ifCond .ne) 76 80 := ⟨7, by decide +kernel, rfl, by decide⟩
theorem dX9_item_76 : D1 cX9_item 76 (.iconst 1) 1 77 := ⟨by decide +kernel, rfl⟩
theorem dX9_item_77 : DJ cX9_item 77 .goto 80 81 := ⟨4, by decide +kernel, rfl, by decide⟩
theorem dX9_item_80 : D1 cX9_item 80 (.iconst 0) 1 81 := ⟨by decide +kernel, rfl⟩
theorem dX9_item_81 : D1 cX9_item 81 (.istore_n 2) 1 82 := ⟨by decide +kernel, rfl⟩
theorem dX9_item_82 : D1 cX9_item 82 (.aload_n 0) 1 83 := ⟨by decide +kernel, rfl⟩
theorem dX9_item_83 : D1 cX9_item 83 (.iload_n 2) 1 84 := ⟨by decide +kernel, rfl⟩
theorem dX9_item_84 : DJ cX9_item 84 (.ifCond .ne) 87 98 := ⟨14, by decide +kernel, rfl, by decide⟩
theorem dX9_item_87 : D1 cX9_item 87 (.aload_n 0) 1 88 := ⟨by decide +kernel, rfl⟩
theorem dX9_item_88 : D1 cX9_item 88 (.invokevirtual 284) 3 91 := ⟨by decide +kernel, rfl⟩
theorem dX9_item_91 : D1 cX9_item 91 (.ldc2_w 331) 3 94 := ⟨by decide +kernel, rfl⟩
theorem dX9_item_94 : D1 cX9_item 94 (.lcmp) 1 95 := ⟨by decide +kernel, rfl⟩
theorem dX9_item_95 : DJ cX9_item 95 (.ifCond .ne) 98 102 := ⟨7, by decide +kernel, rfl, by decide⟩
theorem dX9_item_98 : D1 cX9_item 98 (.iconst 1) 1 99 := ⟨by decide +kernel, rfl⟩
theorem dX9_item_99 : DJ cX9_item 99 .goto 102 103 := ⟨4, by decide +kernel, rfl, by decide⟩
theorem dX9_item_102 : D1 cX9_item 102 (.iconst 0) 1 103 := ⟨by decide +kernel, rfl⟩
theorem dX9_item_103 : D1 cX9_item 103 (.invokevirtual 280) 3 106 := ⟨by decide +kernel, rfl⟩
theorem dX9_item_106 : D1 cX9_item 106 (.aload_n 0) 1 107 := ⟨by decide +kernel, rfl⟩
theorem dX9_item_107 : D1 cX9_item 107 (.getfield 7) 3 110 := ⟨by decide +kernel, rfl⟩
theorem dX9_item_110 : D1 cX9_item 110 (.iconst 5) 1 111 := ⟨by decide +kernel, rfl⟩
theorem dX9_item_111 : D1 cX9_item 111 (.iload_n 2) 1 112 := ⟨by decide +kernel, rfl⟩
theorem dX9_item_112 : DJ cX9_item 112 (.ifCond .eq) 115 119 := ⟨7, by decide +kernel, rfl, by decide⟩
theorem dX9_item_115 : D1 cX9_item 115 (.iconst 1) 1 116 := ⟨by decide +kernel, rfl⟩
theorem dX9_item_116 : DJ cX9_item 116 .goto 119 120 := ⟨4, by decide +kernel, rfl, by decide⟩
theorem dX9_item_119 : D1 cX9_item 119 (.iconst 0) 1 120 := ⟨by decide +kernel, rfl⟩
theorem dX9_item_120 : D1 cX9_item 120 (.iastore) 1 121 := ⟨by decide +kernel, rfl⟩
theorem dX9_item_121 : D1 cX9_item 121 (.return_) 1 122 := ⟨by decide +kernel, rfl⟩
theorem dX9_text_0 : D1 cX9_text 0 (.aload_n 0) 1 1 := ⟨by decide +kernel, rfl⟩
theorem dX9_text_1 : D1 cX9_text 1 (.invokevirtual 144) 3 4 := ⟨by decide +kernel, rfl⟩
theorem dX9_text_4 : D1 cX9_text 4 (.aload_n 0) 1 5 := ⟨by decide +kernel, rfl⟩
theorem dX9_text_5 : D1 cX9_text 5 (.iconst 0) 1 6 := ⟨by decide +kernel, rfl⟩
theorem dX9_text_6 : D1 cX9_text 6 (.putfield 252) 3 9 := ⟨by decide +kernel, rfl⟩
theorem dX9_text_9 : D1 cX9_text 9 (.aload_n 0) 1 10 := ⟨by decide +kernel, rfl⟩
theorem dX9_text_10 : D1 cX9_text 10 (.iconst 0) 1 11 := ⟨by decide +kernel, rfl⟩
theorem dX9_text_11 : D1 cX9_text 11 (.putfield 267) 3 14 := ⟨by decide +kernel, rfl⟩
theorem dX9_text_14 : D1 cX9_text 14 (.aload_n 0) 1 15 := ⟨by decide +kernel, rfl⟩
theorem dX9_text_15 : D1 cX9_text 15 (.invokevirtual 270) 3 18 := ⟨by decide +kernel, rfl⟩
theorem dX9_text_18 : D1 cX9_text 18 (.iconst 1) 1 19 := ⟨by decide +kernel, rfl⟩
theorem dX9_text_19 : D1 cX9_text 19 (.istore_n 1) 1 20 := ⟨by decide +kernel, rfl⟩
theorem dX9_text_20 : D1 cX9_text 20 (.aload_n 0) 1 21 := ⟨by decide +kernel, rfl⟩
theorem dX9_text_21 : D1 cX9_text 21 (.invokevirtual 333) 3 24 := ⟨by decide +kernel, rfl⟩
theorem dX9_text_24 : D1 cX9_text 24 (.aload_n 0) 1 25 := ⟨by decide +kernel, rfl⟩
theorem dX9_text_25 : D1 cX9_text 25 (.getfield 267) 3 28 := ⟨by decide +kernel, rfl⟩
theorem dX9_text_28 : DJ cX9_text 28 (.ifCond .ne) 31 74 := ⟨46, by decide +kernel, rfl, by decide⟩
theorem dX9_text_31 : D1 cX9_text 31 (.aload_n 0) 1 32 := ⟨by decide +kernel, rfl⟩
theorem dX9_text_32 : D1 cX9_text 32 (.getfield 255) 3 35 := ⟨by decide +kernel, rfl⟩
theorem dX9_text_35 : D1 cX9_text 35 (.aload_n 0) 1 36 := ⟨by decide +kernel, rfl⟩
theorem dX9_text_36 : D1 cX9_text 36 (.getfield 241) 3 39 := ⟨by decide +kernel, rfl⟩
theorem dX9_text_39 : DJ cX9_text 39 (.if_icmp .ge) 42 74 := ⟨35, by decide +kernel, rfl, by decide⟩
theorem dX9_text_42 : D1 cX9_text 42 (.aload_n 0) 1 43 := ⟨by decide +kernel, rfl⟩
theorem dX9_text_43 : D1 cX9_text 43 (.aload_n 0) 1 44 := ⟨by decide +kernel, rfl⟩
theorem dX9_text_44 : D1 cX9_text 44 (.aload_n 0) 1 45 := ⟨by decide +kernel, rfl⟩
theorem dX9_text_45 : D1 cX9_text 45 (.getfield 255) 3 48 := ⟨by decide +kernel, rfl⟩
theorem dX9_text_48 : D1 cX9_text 48 (.invokevirtual 258) 3 51 := ⟨by decide +kernel, rfl⟩
theorem dX9_text_51 : D1 cX9_text 51 (.bipush 59) 2 53 := ⟨by decide +kernel, rfl⟩
theorem dX9_text_53 : DJ cX9_text 53 (.if_icmp .ne) 56 60 := ⟨7, by decide +kernel, rfl, by decide⟩
theorem dX9_text_56 : D1 cX9_text 56 (.iconst 1) 1 57 := ⟨by decide +kernel, rfl⟩
theorem dX9_text_57 : DJ cX9_text 57 .goto 60 61 := ⟨4, by decide +kernel, rfl, by decide⟩
theorem dX9_text_60 : D1 cX9_text 60 (.iconst 0) 1 61 := ⟨by decide +kernel, rfl⟩
theorem dX9_text_61 : D1 cX9_text 61 (.invokevirtual 280) 3 64 := ⟨by decide +kernel, rfl⟩
theorem dX9_text_64 : D1 cX9_text 64 (.aload_n 0) 1 65 := ⟨by decide +kernel, rfl⟩
theorem dX9_text_65 : D1 cX9_text 65 (.invokevirtual 333) 3 68 := ⟨by decide +kernel, rfl⟩
theorem dX9_text_68 : D1 cX9_text 68 (.iinc 1 1) 3 71 := ⟨by decide +kernel, rfl⟩
theorem dX9_text_71 : DJ cX9_text 71 .goto 74 24 := ⟨(-47), by decide +kernel, rfl, by decide⟩
theorem dX9_text_74 : D1 cX9_text 74 (.aload_n 0) 1 75 := ⟨by decide +kernel, rfl⟩
theorem dX9_text_75 : D1 cX9_text 75 (.iconst 0) 1 76 := ⟨by decide +kernel, rfl⟩
theorem dX9_text_76 : D1 cX9_text 76 (.putfield 241) 3 79 := ⟨by decide +kernel, rfl⟩
theorem dX9_text_79 : D1 cX9_text 79 (.aload_n 0) 1 80 := ⟨by decide +kernel, rfl⟩
theorem dX9_text_80 : D1 cX9_text 80 (.getfield 267) 3 83 := ⟨by decide +kernel, rfl⟩
theorem dX9_text_83 : DJ cX9_text 83 (.ifCond .eq) 86 97 := ⟨14, by decide +kernel, rfl, by decide⟩
theorem dX9_text_86 : D1 cX9_text 86 (.aload_n 0) 1 87 := ⟨by decide +kernel, rfl⟩
theorem dX9_text_87 : D1 cX9_text 87 (.invokevirtual 150) 3 90 := ⟨by decide +kernel, rfl⟩
theorem dX9_text_90 : D1 cX9_text 90 (.iconst (-1)) 1 91 := ⟨by decide +kernel, rfl⟩
theorem dX9_text_91 : D1 cX9_text 91 (.aload_n 0) 1 92 := ⟨by decide +kernel, rfl⟩
theorem dX9_text_92 : D1 cX9_text 92 (.getfield 255) 3 95 := ⟨by decide +kernel, rfl⟩
theorem dX9_text_95 : D1 cX9_text 95 (.isub) 1 96 := ⟨by decide +kernel, rfl⟩
theorem dX9_text_96 : D1 cX9_text 96 (.ireturn) 1 97 := ⟨by decide +kernel, rfl⟩
theorem dX9_text_97 : D1 cX9_text 97 (.iload_n 1) 1 98 := ⟨by decide +kernel, rfl⟩
theorem dX9_text_98 : D1 cX9_text 98 (.ireturn) 1 99 := ⟨by decide +kernel, rfl⟩
theorem dX9_hold_0 : D1 cX9_hold 0 (.iload_n 1) 1 1 := ⟨by decide +kernel, rfl⟩
theorem dX9_hold_1 : D1 cX9_hold 1 (.i2l) 1 2 := ⟨by decide +kernel, rfl⟩
theorem dX9_hold_2 : D1 cX9_hold 2 (.lconst 0) 1 3 := ⟨by decide +kernel, rfl⟩
theorem dX9_hold_3 : D1 cX9_hold 3 (.ldc2_w 96) 3 6 := ⟨by decide +kernel, rfl⟩
theorem dX9_hold_6 : D1 cX9_hold 6 (.invokestatic 48) 3 9 := ⟨by decide +kernel, rfl⟩
theorem dX9_hold_9 : DJ cX9_hold 9 (.ifCond .eq) 12 25 := ⟨16, by decide +kernel, rfl, by decide⟩
theorem dX9_hold_12 : D1 cX9_hold 12 (.iload_n 2) 1 13 := ⟨by decide +kernel, rfl⟩
theorem dX9_hold_13 : D1 cX9_hold 13 (.iconst (-1)) 1 14 := ⟨by decide +kernel, rfl⟩
theorem dX9_hold_14 : DJ cX9_hold 14 (.if_icmp .eq) 17 32 := ⟨18, by decide +kernel, rfl, by decide⟩
theorem dX9_hold_17 : D1 cX9_hold 17 (.aload_n 0) 1 18 := ⟨by decide +kernel, rfl⟩
theorem dX9_hold_18 : D1 cX9_hold 18 (.iload_n 2) 1 19 := ⟨by decide +kernel, rfl⟩
theorem dX9_hold_19 : D1 cX9_hold 19 (.invokevirtual 71) 3 22 := ⟨by decide +kernel, rfl⟩
theorem dX9_hold_22 : DJ cX9_hold 22 (.ifCond .ne) 25 32 := ⟨10, by decide +kernel, rfl, by decide⟩
theorem dX9_hold_25 : D1 cX9_hold 25 (.aload_n 0) 1 26 := ⟨by decide +kernel, rfl⟩
theorem dX9_hold_26 : D1 cX9_hold 26 (.ldc 47) 2 28 := ⟨by decide +kernel, rfl⟩
theorem dX9_hold_28 : D1 cX9_hold 28 (.invokevirtual 59) 3 31 := ⟨by decide +kernel, rfl⟩
theorem dX9_hold_31 : D1 cX9_hold 31 (.ireturn) 1 32 := ⟨by decide +kernel, rfl⟩
theorem dX9_hold_32 : D1 cX9_hold 32 (.aload_n 0) 1 33 := ⟨by decide +kernel, rfl⟩
theorem dX9_hold_33 : D1 cX9_hold 33 (.getfield 7) 3 36 := ⟨by decide +kernel, rfl⟩
theorem dX9_hold_36 : D1 cX9_hold 36 (.bipush 63) 2 38 := ⟨by decide +kernel, rfl⟩
theorem dX9_hold_38 : D1 cX9_hold 38 (.iload_n 1) 1 39 := ⟨by decide +kernel, rfl⟩
theorem dX9_hold_39 : D1 cX9_hold 39 (.iadd) 1 40 := ⟨by decide +kernel, rfl⟩
theorem dX9_hold_40 : D1 cX9_hold 40 (.iload_n 2) 1 41 := ⟨by decide +kernel, rfl⟩
theorem dX9_hold_41 : D1 cX9_hold 41 (.iastore) 1 42 := ⟨by decide +kernel, rfl⟩
theorem dX9_hold_42 : D1 cX9_hold 42 (.iconst 1) 1 43 := ⟨by decide +kernel, rfl⟩
theorem dX9_hold_43 : D1 cX9_hold 43 (.ireturn) 1 44 := ⟨by decide +kernel, rfl⟩
theorem dX9_as_0 : D1 cX9_as 0 (.iload_n 1) 1 1 := ⟨by decide +kernel, rfl⟩
theorem dX9_as_1 : D1 cX9_as 1 (.i2l) 1 2 := ⟨by decide +kernel, rfl⟩
theorem dX9_as_2 : D1 cX9_as 2 (.lconst 0) 1 3 := ⟨by decide +kernel, rfl⟩
theorem dX9_as_3 : D1 cX9_as 3 (.ldc2_w 96) 3 6 := ⟨by decide +kernel, rfl⟩
theorem dX9_as_6 : D1 cX9_as 6 (.invokestatic 48) 3 9 := ⟨by decide +kernel, rfl⟩
theorem dX9_as_9 : DJ cX9_as 9 (.ifCond .eq) 12 24 := ⟨15, by decide +kernel, rfl, by decide⟩
theorem dX9_as_12 : D1 cX9_as 12 (.iload_n 2) 1 13 := ⟨by decide +kernel, rfl⟩
theorem dX9_as_13 : D1 cX9_as 13 (.i2l) 1 14 := ⟨by decide +kernel, rfl⟩
theorem dX9_as_14 : D1 cX9_as 14 (.lconst 0) 1 15 := ⟨by decide +kernel, rfl⟩
theorem dX9_as_15 : D1 cX9_as 15 (.ldc2_w 57) 3 18 := ⟨by decide +kernel, rfl⟩
theorem dX9_as_18 : D1 cX9_as 18 (.invokestatic 48) 3 21 := ⟨by decide +kernel, rfl⟩
theorem dX9_as_21 : DJ cX9_as 21 (.ifCond .ne) 24 31 := ⟨10, by decide +kernel, rfl, by decide⟩
theorem dX9_as_24 : D1 cX9_as 24 (.aload_n 0) 1 25 := ⟨by decide +kernel, rfl⟩
theorem dX9_as_25 : D1 cX9_as 25 (.ldc 47) 2 27 := ⟨by decide +kernel, rfl⟩
theorem dX9_as_27 : D1 cX9_as 27 (.invokevirtual 59) 3 30 := ⟨by decide +kernel, rfl⟩
theorem dX9_as_30 : D1 cX9_as 30 (.ireturn) 1 31 := ⟨by decide +kernel, rfl⟩
theorem dX9_as_31 : D1 cX9_as 31 (.aload_n 0) 1 32 := ⟨by decide +kernel, rfl⟩
theorem dX9_as_32 : D1 cX9_as 32 (.getfield 7) 3 35 := ⟨by decide +kernel, rfl⟩
theorem dX9_as_35 : D1 cX9_as 35 (.bipush 63) 2 37 := ⟨by decide +kernel, rfl⟩
theorem dX9_as_37 : D1 cX9_as 37 (.iload_n 1) 1 38 := ⟨by decide +kernel, rfl⟩
theorem dX9_as_38 : D1 cX9_as 38 (.iadd) 1 39 := ⟨by decide +kernel, rfl⟩
theorem dX9_as_39 : D1 cX9_as 39 (.iaload) 1 40 := ⟨by decide +kernel, rfl⟩
theorem dX9_as_40 : D1 cX9_as 40 (.istore_n 3) 1 41 := ⟨by decide +kernel, rfl⟩
theorem dX9_as_41 : D1 cX9_as 41 (.iload_n 3) 1 42 := ⟨by decide +kernel, rfl⟩
theorem dX9_as_42 : DJ cX9_as 42 (.ifCond .ge) 45 53 := ⟨11, by decide +kernel, rfl, by decide⟩
theorem dX9_as_45 : D1 cX9_as 45 (.aload_n 0) 1 46 := ⟨by decide +kernel, rfl⟩
theorem dX9_as_46 : D1 cX9_as 46 (.ldc_w 336) 3 49 := ⟨by decide +kernel, rfl⟩
theorem dX9_as_49 : D1 cX9_as 49 (.invokevirtual 59) 3 52 := ⟨by decide +kernel, rfl⟩
theorem dX9_as_52 : D1 cX9_as 52 (.ireturn) 1 53 := ⟨by decide +kernel, rfl⟩
theorem dX9_as_53 : D1 cX9_as 53 (.aload_n 0) 1 54 := ⟨by decide +kernel, rfl⟩
theorem dX9_as_54 : D1 cX9_as 54 (.iload_n 3) 1 55 := ⟨by decide +kernel, rfl⟩
theorem dX9_as_55 : D1 cX9_as 55 (.iconst 0) 1 56 := ⟨by decide +kernel, rfl⟩
theorem dX9_as_56 : D1 cX9_as 56 (.invokevirtual 68) 3 59 := ⟨by decide +kernel, rfl⟩
theorem dX9_as_59 : D1 cX9_as 59 (.istore 4) 2 61 := ⟨by decide +kernel, rfl⟩
theorem dX9_as_61 : D1 cX9_as 61 (.iload_n 2) 1 62 := ⟨by decide +kernel, rfl⟩
theorem dX9_as_62 : DJ cX9_as 62 (.ifCond .eq) 65 105 := ⟨43, by decide +kernel, rfl, by decide⟩
theorem dX9_as_65 : D1 cX9_as 65 (.iload 4) 2 67 := ⟨by decide +kernel, rfl⟩
theorem dX9_as_67 : D1 cX9_as 67 (.iload_n 2) 1 68 := ⟨by decide +kernel, rfl⟩
theorem dX9_as_68 : DJ cX9_as 68 (.if_icmp .eq) 71 105 := ⟨37, by decide +kernel, rfl, by decide⟩
theorem dX9_as_71 : D1 cX9_as 71 (.iload_n 2) 1 72 := ⟨by decide +kernel, rfl⟩
theorem dX9_as_72 : D1 cX9_as 72 (.iconst 1) 1 73 := ⟨by decide +kernel, rfl⟩
theorem dX9_as_73 : DJ cX9_as 73 (.if_icmp .ne) 76 82 := ⟨9, by decide +kernel, rfl, by decide⟩
theorem dX9_as_76 : D1 cX9_as 76 (.iload 4) 2 78 := ⟨by decide +kernel, rfl⟩
theorem dX9_as_78 : D1 cX9_as 78 (.iconst 3) 1 79 := ⟨by decide +kernel, rfl⟩
theorem dX9_as_79 : DJ cX9_as 79 (.if_icmp .eq) 82 105 := ⟨26, by decide +kernel, rfl, by decide⟩
theorem dX9_as_82 : D1 cX9_as 82 (.iload_n 2) 1 83 := ⟨by decide +kernel, rfl⟩
theorem dX9_as_83 : D1 cX9_as 83 (.iconst 2) 1 84 := ⟨by decide +kernel, rfl⟩
theorem dX9_as_84 : DJ cX9_as 84 (.if_icmp .ne) 87 93 := ⟨9, by decide +kernel, rfl, by decide⟩
theorem dX9_as_87 : D1 cX9_as 87 (.iload 4) 2 89 := ⟨by decide +kernel, rfl⟩
theorem dX9_as_89 : D1 cX9_as 89 (.iconst 4) 1 90 := ⟨by decide +kernel, rfl⟩
theorem dX9_as_90 : DJ cX9_as 90 (.if_icmp .eq) 93 105 := ⟨15, by decide +kernel, rfl, by decide⟩
theorem dX9_as_93 : D1 cX9_as 93 (.iload_n 2) 1 94 := ⟨by decide +kernel, rfl⟩
theorem dX9_as_94 : D1 cX9_as 94 (.iconst 5) 1 95 := ⟨by decide +kernel, rfl⟩
theorem dX9_as_95 : DJ cX9_as 95 (.if_icmp .ne) 98 109 := ⟨14, by decide +kernel, rfl, by decide⟩
theorem dX9_as_98 : D1 cX9_as 98 (.iload 4) 2 100 := ⟨by decide +kernel, rfl⟩
theorem dX9_as_100 : D1 cX9_as 100 (.bipush 6) 2 102 := ⟨by decide +kernel, rfl⟩
theorem dX9_as_102 : DJ cX9_as 102 (.if_icmp .ne) 105 109 := ⟨7, by decide +kernel, rfl, by decide⟩
theorem dX9_as_105 : D1 cX9_as 105 (.iconst 1) 1 106 := ⟨by decide +kernel, rfl⟩
theorem dX9_as_106 : DJ cX9_as 106 .goto 109 110 := ⟨4, by decide +kernel, rfl, by decide⟩
theorem dX9_as_109 : D1 cX9_as 109 (.iconst 0) 1 110 := ⟨by decide +kernel, rfl⟩
theorem dX9_as_110 : D1 cX9_as 110 (.istore 5) 2 112 := ⟨by decide +kernel, rfl⟩
theorem dX9_as_112 : D1 cX9_as 112 (.iload 5) 2 114 := ⟨by decide +kernel, rfl⟩
theorem dX9_as_114 : DJ cX9_as 114 (.ifCond .eq) 117 121 := ⟨7, by decide +kernel, rfl, by decide⟩
theorem dX9_as_117 : D1 cX9_as 117 (.iload_n 3) 1 118 := ⟨by decide +kernel, rfl⟩
theorem dX9_as_118 : DJ cX9_as 118 .goto 121 128 := ⟨10, by decide +kernel, rfl, by decide⟩
theorem dX9_as_121 : D1 cX9_as 121 (.aload_n 0) 1 122 := ⟨by decide +kernel, rfl⟩
theorem dX9_as_122 : D1 cX9_as 122 (.ldc_w 337) 3 125 := ⟨by decide +kernel, rfl⟩
theorem dX9_as_125 : D1 cX9_as 125 (.invokevirtual 59) 3 128 := ⟨by decide +kernel, rfl⟩
theorem dX9_as_128 : D1 cX9_as 128 (.ireturn) 1 129 := ⟨by decide +kernel, rfl⟩
theorem dX9_isOne_0 : D1 cX9_isOne 0 (.iload_n 0) 1 1 := ⟨by decide +kernel, rfl⟩
theorem dX9_isOne_1 : D1 cX9_isOne 1 (.i2l) 1 2 := ⟨by decide +kernel, rfl⟩
theorem dX9_isOne_2 : D1 cX9_isOne 2 (.lconst 0) 1 3 := ⟨by decide +kernel, rfl⟩
theorem dX9_isOne_3 : D1 cX9_isOne 3 (.ldc2_w 338) 3 6 := ⟨by decide +kernel, rfl⟩
theorem dX9_isOne_6 : D1 cX9_isOne 6 (.invokestatic 48) 3 9 := ⟨by decide +kernel, rfl⟩
theorem dX9_isOne_9 : D1 cX9_isOne 9 (.ireturn) 1 10 := ⟨by decide +kernel, rfl⟩
theorem dX9_sheet_0 : D1 cX9_sheet 0 (.iload_n 1) 1 1 := ⟨by decide +kernel, rfl⟩
theorem dX9_sheet_1 : D1 cX9_sheet 1 (.invokestatic 340) 3 4 := ⟨by decide +kernel, rfl⟩
theorem dX9_sheet_4 : DJ cX9_sheet 4 (.ifCond .eq) 7 29 := ⟨25, by decide +kernel, rfl, by decide⟩
theorem dX9_sheet_7 : D1 cX9_sheet 7 (.iload_n 2) 1 8 := ⟨by decide +kernel, rfl⟩
theorem dX9_sheet_8 : DJ cX9_sheet 8 (.ifCond .eq) 11 36 := ⟨28, by decide +kernel, rfl, by decide⟩
theorem dX9_sheet_11 : D1 cX9_sheet 11 (.iload_n 2) 1 12 := ⟨by decide +kernel, rfl⟩
theorem dX9_sheet_12 : D1 cX9_sheet 12 (.bipush 8) 2 14 := ⟨by decide +kernel, rfl⟩
theorem dX9_sheet_14 : DJ cX9_sheet 14 (.if_icmp .eq) 17 36 := ⟨22, by decide +kernel, rfl, by decide⟩
theorem dX9_sheet_17 : D1 cX9_sheet 17 (.iload_n 2) 1 18 := ⟨by decide +kernel, rfl⟩
theorem dX9_sheet_18 : D1 cX9_sheet 18 (.bipush 16) 2 20 := ⟨by decide +kernel, rfl⟩
theorem dX9_sheet_20 : DJ cX9_sheet 20 (.if_icmp .eq) 23 36 := ⟨16, by decide +kernel, rfl, by decide⟩
theorem dX9_sheet_23 : D1 cX9_sheet 23 (.iload_n 2) 1 24 := ⟨by decide +kernel, rfl⟩
theorem dX9_sheet_24 : D1 cX9_sheet 24 (.bipush 32) 2 26 := ⟨by decide +kernel, rfl⟩
theorem dX9_sheet_26 : DJ cX9_sheet 26 (.if_icmp .eq) 29 36 := ⟨10, by decide +kernel, rfl, by decide⟩
theorem dX9_sheet_29 : D1 cX9_sheet 29 (.aload_n 0) 1 30 := ⟨by decide +kernel, rfl⟩
theorem dX9_sheet_30 : D1 cX9_sheet 30 (.ldc 47) 2 32 := ⟨by decide +kernel, rfl⟩
theorem dX9_sheet_32 : D1 cX9_sheet 32 (.invokevirtual 59) 3 35 := ⟨by decide +kernel, rfl⟩
theorem dX9_sheet_35 : D1 cX9_sheet 35 (.ireturn) 1 36 := ⟨by decide +kernel, rfl⟩
theorem dX9_sheet_36 : D1 cX9_sheet 36 (.iload_n 3) 1 37 := ⟨by decide +kernel, rfl⟩
theorem dX9_sheet_37 : DJ cX9_sheet 37 (.ifCond .ge) 40 48 := ⟨11, by decide +kernel, rfl, by decide⟩
theorem dX9_sheet_40 : D1 cX9_sheet 40 (.aload_n 0) 1 41 := ⟨by decide +kernel, rfl⟩
theorem dX9_sheet_41 : D1 cX9_sheet 41 (.ldc_w 343) 3 44 := ⟨by decide +kernel, rfl⟩
theorem dX9_sheet_44 : D1 cX9_sheet 44 (.invokevirtual 59) 3 47 := ⟨by decide +kernel, rfl⟩
theorem dX9_sheet_47 : D1 cX9_sheet 47 (.ireturn) 1 48 := ⟨by decide +kernel, rfl⟩
theorem dX9_sheet_48 : D1 cX9_sheet 48 (.iload_n 3) 1 49 := ⟨by decide +kernel, rfl⟩
theorem dX9_sheet_49 : D1 cX9_sheet 49 (.bipush 40) 2 51 := ⟨by decide +kernel, rfl⟩
theorem dX9_sheet_51 : DJ cX9_sheet 51 (.if_icmp .le) 54 61 := ⟨10, by decide +kernel, rfl, by decide⟩
theorem dX9_sheet_54 : D1 cX9_sheet 54 (.aload_n 0) 1 55 := ⟨by decide +kernel, rfl⟩
theorem dX9_sheet_55 : D1 cX9_sheet 55 (.ldc 47) 2 57 := ⟨by decide +kernel, rfl⟩
theorem dX9_sheet_57 : D1 cX9_sheet 57 (.invokevirtual 59) 3 60 := ⟨by decide +kernel, rfl⟩
theorem dX9_sheet_60 : D1 cX9_sheet 60 (.ireturn) 1 61 := ⟨by decide +kernel, rfl⟩
theorem dX9_sheet_61 : D1 cX9_sheet 61 (.aload_n 0) 1 62 := ⟨by decide +kernel, rfl⟩
theorem dX9_sheet_62 : D1 cX9_sheet 62 (.getfield 35) 3 65 := ⟨by decide +kernel, rfl⟩
theorem dX9_sheet_65 : D1 cX9_sheet 65 (.iload_n 1) 1 66 := ⟨by decide +kernel, rfl⟩
theorem dX9_sheet_66 : D1 cX9_sheet 66 (.iload_n 2) 1 67 := ⟨by decide +kernel, rfl⟩
theorem dX9_sheet_67 : D1 cX9_sheet 67 (.iastore) 1 68 := ⟨by decide +kernel, rfl⟩
theorem dX9_sheet_68 : D1 cX9_sheet 68 (.aload_n 0) 1 69 := ⟨by decide +kernel, rfl⟩
theorem dX9_sheet_69 : D1 cX9_sheet 69 (.getfield 38) 3 72 := ⟨by decide +kernel, rfl⟩
theorem dX9_sheet_72 : D1 cX9_sheet 72 (.iload_n 1) 1 73 := ⟨by decide +kernel, rfl⟩
theorem dX9_sheet_73 : D1 cX9_sheet 73 (.iload_n 2) 1 74 := ⟨by decide +kernel, rfl⟩
theorem dX9_sheet_74 : DJ cX9_sheet 74 (.ifCond .ne) 77 81 := ⟨7, by decide +kernel, rfl, by decide⟩
theorem dX9_sheet_77 : D1 cX9_sheet 77 (.iconst 0) 1 78 := ⟨by decide +kernel, rfl⟩
theorem dX9_sheet_78 : DJ cX9_sheet 78 .goto 81 82 := ⟨4, by decide +kernel, rfl, by decide⟩
theorem dX9_sheet_81 : D1 cX9_sheet 81 (.iload_n 3) 1 82 := ⟨by decide +kernel, rfl⟩
theorem dX9_sheet_82 : D1 cX9_sheet 82 (.iastore) 1 83 := ⟨by decide +kernel, rfl⟩
theorem dX9_sheet_83 : D1 cX9_sheet 83 (.iconst 0) 1 84 := ⟨by decide +kernel, rfl⟩
theorem dX9_sheet_84 : D1 cX9_sheet 84 (.istore 4) 2 86 := ⟨by decide +kernel, rfl⟩
theorem dX9_sheet_86 : D1 cX9_sheet 86 (.iload 4) 2 88 := ⟨by decide +kernel, rfl⟩
theorem dX9_sheet_88 : D1 cX9_sheet 88 (.bipush 40) 2 90 := ⟨by decide +kernel, rfl⟩
theorem dX9_sheet_90 : DJ cX9_sheet 90 (.if_icmp .ge) 93 112 := ⟨22, by decide +kernel, rfl, by decide⟩
theorem dX9_sheet_93 : D1 cX9_sheet 93 (.aload_n 0) 1 94 := ⟨by decide +kernel, rfl⟩
theorem dX9_sheet_94 : D1 cX9_sheet 94 (.getfield 41) 3 97 := ⟨by decide +kernel, rfl⟩
theorem dX9_sheet_97 : D1 cX9_sheet 97 (.bipush 40) 2 99 := ⟨by decide +kernel, rfl⟩
theorem dX9_sheet_99 : D1 cX9_sheet 99 (.iload_n 1) 1 100 := ⟨by decide +kernel, rfl⟩
theorem dX9_sheet_100 : D1 cX9_sheet 100 (.imul) 1 101 := ⟨by decide +kernel, rfl⟩
theorem dX9_sheet_101 : D1 cX9_sheet 101 (.iload 4) 2 103 := ⟨by decide +kernel, rfl⟩
theorem dX9_sheet_103 : D1 cX9_sheet 103 (.iadd) 1 104 := ⟨by decide +kernel, rfl⟩
theorem dX9_sheet_104 : D1 cX9_sheet 104 (.iconst 0) 1 105 := ⟨by decide +kernel, rfl⟩
theorem dX9_sheet_105 : D1 cX9_sheet 105 (.iastore) 1 106 := ⟨by decide +kernel, rfl⟩
theorem dX9_sheet_106 : D1 cX9_sheet 106 (.iinc 4 1) 3 109 := ⟨by decide +kernel, rfl⟩
theorem dX9_sheet_109 : DJ cX9_sheet 109 .goto 112 86 := ⟨(-23), by decide +kernel, rfl, by decide⟩
theorem dX9_sheet_112 : D1 cX9_sheet 112 (.aload_n 0) 1 113 := ⟨by decide +kernel, rfl⟩
theorem dX9_sheet_113 : D1 cX9_sheet 113 (.getfield 38) 3 116 := ⟨by decide +kernel, rfl⟩
theorem dX9_sheet_116 : D1 cX9_sheet 116 (.iload_n 1) 1 117 := ⟨by decide +kernel, rfl⟩
theorem dX9_sheet_117 : D1 cX9_sheet 117 (.iaload) 1 118 := ⟨by decide +kernel, rfl⟩
theorem dX9_sheet_118 : D1 cX9_sheet 118 (.ireturn) 1 119 := ⟨by decide +kernel, rfl⟩
theorem dX9_narrowed_0 : D1 cX9_narrowed 0 (.iload_n 0) 1 1 := ⟨by decide +kernel, rfl⟩
theorem dX9_narrowed_1 : D1 cX9_narrowed 1 (.bipush 8) 2 3 := ⟨by decide +kernel, rfl⟩
theorem dX9_narrowed_3 : DJ cX9_narrowed 3 (.if_icmp .ne) 6 11 := ⟨8, by decide +kernel, rfl, by decide⟩
theorem dX9_narrowed_6 : D1 cX9_narrowed 6 (.iload_n 1) 1 7 := ⟨by decide +kernel, rfl⟩
theorem dX9_narrowed_7 : D1 cX9_narrowed 7 (.i2b) 1 8 := ⟨by decide +kernel, rfl⟩
theorem dX9_narrowed_8 : DJ cX9_narrowed 8 .goto 11 23 := ⟨15, by decide +kernel, rfl, by decide⟩
theorem dX9_narrowed_11 : D1 cX9_narrowed 11 (.iload_n 0) 1 12 := ⟨by decide +kernel, rfl⟩
theorem dX9_narrowed_12 : D1 cX9_narrowed 12 (.bipush 16) 2 14 := ⟨by decide +kernel, rfl⟩
theorem dX9_narrowed_14 : DJ cX9_narrowed 14 (.if_icmp .ne) 17 22 := ⟨8, by decide +kernel, rfl, by decide⟩
theorem dX9_narrowed_17 : D1 cX9_narrowed 17 (.iload_n 1) 1 18 := ⟨by decide +kernel, rfl⟩
theorem dX9_narrowed_18 : D1 cX9_narrowed 18 (.i2s) 1 19 := ⟨by decide +kernel, rfl⟩
theorem dX9_narrowed_19 : DJ cX9_narrowed 19 .goto 22 23 := ⟨4, by decide +kernel, rfl, by decide⟩
theorem dX9_narrowed_22 : D1 cX9_narrowed 22 (.iload_n 1) 1 23 := ⟨by decide +kernel, rfl⟩
theorem dX9_narrowed_23 : D1 cX9_narrowed 23 (.ireturn) 1 24 := ⟨by decide +kernel, rfl⟩
theorem dX9_wrong_0 : D1 cX9_wrong 0 (.iload_n 1) 1 1 := ⟨by decide +kernel, rfl⟩
theorem dX9_wrong_1 : D1 cX9_wrong 1 (.invokestatic 340) 3 4 := ⟨by decide +kernel, rfl⟩
theorem dX9_wrong_4 : DJ cX9_wrong 4 (.ifCond .ne) 7 12 := ⟨8, by decide +kernel, rfl, by decide⟩
theorem dX9_wrong_7 : D1 cX9_wrong 7 (.ldc 47) 2 9 := ⟨by decide +kernel, rfl⟩
theorem dX9_wrong_9 : DJ cX9_wrong 9 .goto 12 28 := ⟨19, by decide +kernel, rfl, by decide⟩
theorem dX9_wrong_12 : D1 cX9_wrong 12 (.aload_n 0) 1 13 := ⟨by decide +kernel, rfl⟩
theorem dX9_wrong_13 : D1 cX9_wrong 13 (.getfield 35) 3 16 := ⟨by decide +kernel, rfl⟩
theorem dX9_wrong_16 : D1 cX9_wrong 16 (.iload_n 1) 1 17 := ⟨by decide +kernel, rfl⟩
theorem dX9_wrong_17 : D1 cX9_wrong 17 (.iaload) 1 18 := ⟨by decide +kernel, rfl⟩
theorem dX9_wrong_18 : DJ cX9_wrong 18 (.ifCond .ne) 21 27 := ⟨9, by decide +kernel, rfl, by decide⟩
theorem dX9_wrong_21 : D1 cX9_wrong 21 (.ldc_w 336) 3 24 := ⟨by decide +kernel, rfl⟩
theorem dX9_wrong_24 : DJ cX9_wrong 24 .goto 27 28 := ⟨4, by decide +kernel, rfl, by decide⟩
theorem dX9_wrong_27 : D1 cX9_wrong 27 (.iconst 0) 1 28 := ⟨by decide +kernel, rfl⟩
theorem dX9_wrong_28 : D1 cX9_wrong 28 (.ireturn) 1 29 := ⟨by decide +kernel, rfl⟩
theorem dX9_write_0 : D1 cX9_write 0 (.aload_n 0) 1 1 := ⟨by decide +kernel, rfl⟩
theorem dX9_write_1 : D1 cX9_write 1 (.iload_n 1) 1 2 := ⟨by decide +kernel, rfl⟩
theorem dX9_write_2 : D1 cX9_write 2 (.invokevirtual 344) 3 5 := ⟨by decide +kernel, rfl⟩
theorem dX9_write_5 : D1 cX9_write 5 (.istore 4) 2 7 := ⟨by decide +kernel, rfl⟩
theorem dX9_write_7 : D1 cX9_write 7 (.iload 4) 2 9 := ⟨by decide +kernel, rfl⟩
theorem dX9_write_9 : DJ cX9_write 9 (.ifCond .eq) 12 19 := ⟨10, by decide +kernel, rfl, by decide⟩
theorem dX9_write_12 : D1 cX9_write 12 (.aload_n 0) 1 13 := ⟨by decide +kernel, rfl⟩
theorem dX9_write_13 : D1 cX9_write 13 (.iload 4) 2 15 := ⟨by decide +kernel, rfl⟩
theorem dX9_write_15 : D1 cX9_write 15 (.invokevirtual 59) 3 18 := ⟨by decide +kernel, rfl⟩
theorem dX9_write_18 : D1 cX9_write 18 (.ireturn) 1 19 := ⟨by decide +kernel, rfl⟩
theorem dX9_write_19 : D1 cX9_write 19 (.iload_n 2) 1 20 := ⟨by decide +kernel, rfl⟩
theorem dX9_write_20 : D1 cX9_write 20 (.i2l) 1 21 := ⟨by decide +kernel, rfl⟩
theorem dX9_write_21 : D1 cX9_write 21 (.lconst 0) 1 22 := ⟨by decide +kernel, rfl⟩
theorem dX9_write_22 : D1 cX9_write 22 (.aload_n 0) 1 23 := ⟨by decide +kernel, rfl⟩
theorem dX9_write_23 : D1 cX9_write 23 (.getfield 38) 3 26 := ⟨by decide +kernel, rfl⟩
theorem dX9_write_26 : D1 cX9_write 26 (.iload_n 1) 1 27 := ⟨by decide +kernel, rfl⟩
theorem dX9_write_27 : D1 cX9_write 27 (.iaload) 1 28 := ⟨by decide +kernel, rfl⟩
theorem dX9_write_28 : D1 cX9_write 28 (.iconst 1) 1 29 := ⟨by decide +kernel, rfl⟩
theorem dX9_write_29 : D1 cX9_write 29 (.isub) 1 30 := ⟨by decide +kernel, rfl⟩
theorem dX9_write_30 : D1 cX9_write 30 (.i2l) 1 31 := ⟨by decide +kernel, rfl⟩
theorem dX9_write_31 : D1 cX9_write 31 (.invokestatic 48) 3 34 := ⟨by decide +kernel, rfl⟩
theorem dX9_write_34 : DJ cX9_write 34 (.ifCond .ne) 37 44 := ⟨10, by decide +kernel, rfl, by decide⟩
theorem dX9_write_37 : D1 cX9_write 37 (.aload_n 0) 1 38 := ⟨by decide +kernel, rfl⟩
theorem dX9_write_38 : D1 cX9_write 38 (.ldc 47) 2 40 := ⟨by decide +kernel, rfl⟩
theorem dX9_write_40 : D1 cX9_write 40 (.invokevirtual 59) 3 43 := ⟨by decide +kernel, rfl⟩
theorem dX9_write_43 : D1 cX9_write 43 (.ireturn) 1 44 := ⟨by decide +kernel, rfl⟩
theorem dX9_write_44 : D1 cX9_write 44 (.aload_n 0) 1 45 := ⟨by decide +kernel, rfl⟩
theorem dX9_write_45 : D1 cX9_write 45 (.getfield 41) 3 48 := ⟨by decide +kernel, rfl⟩
theorem dX9_write_48 : D1 cX9_write 48 (.bipush 40) 2 50 := ⟨by decide +kernel, rfl⟩
theorem dX9_write_50 : D1 cX9_write 50 (.iload_n 1) 1 51 := ⟨by decide +kernel, rfl⟩
theorem dX9_write_51 : D1 cX9_write 51 (.imul) 1 52 := ⟨by decide +kernel, rfl⟩
theorem dX9_write_52 : D1 cX9_write 52 (.iload_n 2) 1 53 := ⟨by decide +kernel, rfl⟩
theorem dX9_write_53 : D1 cX9_write 53 (.iadd) 1 54 := ⟨by decide +kernel, rfl⟩
theorem dX9_write_54 : D1 cX9_write 54 (.aload_n 0) 1 55 := ⟨by decide +kernel, rfl⟩
theorem dX9_write_55 : D1 cX9_write 55 (.getfield 35) 3 58 := ⟨by decide +kernel, rfl⟩
theorem dX9_write_58 : D1 cX9_write 58 (.iload_n 1) 1 59 := ⟨by decide +kernel, rfl⟩
theorem dX9_write_59 : D1 cX9_write 59 (.iaload) 1 60 := ⟨by decide +kernel, rfl⟩
theorem dX9_write_60 : D1 cX9_write 60 (.iload_n 3) 1 61 := ⟨by decide +kernel, rfl⟩
theorem dX9_write_61 : D1 cX9_write 61 (.invokestatic 347) 3 64 := ⟨by decide +kernel, rfl⟩
theorem dX9_write_64 : D1 cX9_write 64 (.iastore) 1 65 := ⟨by decide +kernel, rfl⟩
theorem dX9_write_65 : D1 cX9_write 65 (.iconst 1) 1 66 := ⟨by decide +kernel, rfl⟩
theorem dX9_write_66 : D1 cX9_write 66 (.ireturn) 1 67 := ⟨by decide +kernel, rfl⟩
theorem dX9_copy_0 : D1 cX9_copy 0 (.iload_n 1) 1 1 := ⟨by decide +kernel, rfl⟩
theorem dX9_copy_1 : D1 cX9_copy 1 (.invokestatic 340) 3 4 := ⟨by decide +kernel, rfl⟩
theorem dX9_copy_4 : DJ cX9_copy 4 (.ifCond .eq) 7 14 := ⟨10, by decide +kernel, rfl, by decide⟩
theorem dX9_copy_7 : D1 cX9_copy 7 (.iload_n 3) 1 8 := ⟨by decide +kernel, rfl⟩
theorem dX9_copy_8 : D1 cX9_copy 8 (.invokestatic 340) 3 11 := ⟨by decide +kernel, rfl⟩
theorem dX9_copy_11 : DJ cX9_copy 11 (.ifCond .ne) 14 21 := ⟨10, by decide +kernel, rfl, by decide⟩
theorem dX9_copy_14 : D1 cX9_copy 14 (.aload_n 0) 1 15 := ⟨by decide +kernel, rfl⟩
theorem dX9_copy_15 : D1 cX9_copy 15 (.ldc 47) 2 17 := ⟨by decide +kernel, rfl⟩
theorem dX9_copy_17 : D1 cX9_copy 17 (.invokevirtual 59) 3 20 := ⟨by decide +kernel, rfl⟩
theorem dX9_copy_20 : D1 cX9_copy 20 (.ireturn) 1 21 := ⟨by decide +kernel, rfl⟩
theorem dX9_copy_21 : D1 cX9_copy 21 (.aload_n 0) 1 22 := ⟨by decide +kernel, rfl⟩
theorem dX9_copy_22 : D1 cX9_copy 22 (.getfield 35) 3 25 := ⟨by decide +kernel, rfl⟩
theorem dX9_copy_25 : D1 cX9_copy 25 (.iload_n 1) 1 26 := ⟨by decide +kernel, rfl⟩
theorem dX9_copy_26 : D1 cX9_copy 26 (.iaload) 1 27 := ⟨by decide +kernel, rfl⟩
theorem dX9_copy_27 : DJ cX9_copy 27 (.ifCond .eq) 30 39 := ⟨12, by decide +kernel, rfl, by decide⟩
theorem dX9_copy_30 : D1 cX9_copy 30 (.aload_n 0) 1 31 := ⟨by decide +kernel, rfl⟩
theorem dX9_copy_31 : D1 cX9_copy 31 (.getfield 35) 3 34 := ⟨by decide +kernel, rfl⟩
theorem dX9_copy_34 : D1 cX9_copy 34 (.iload_n 3) 1 35 := ⟨by decide +kernel, rfl⟩
theorem dX9_copy_35 : D1 cX9_copy 35 (.iaload) 1 36 := ⟨by decide +kernel, rfl⟩
theorem dX9_copy_36 : DJ cX9_copy 36 (.ifCond .ne) 39 47 := ⟨11, by decide +kernel, rfl, by decide⟩
theorem dX9_copy_39 : D1 cX9_copy 39 (.aload_n 0) 1 40 := ⟨by decide +kernel, rfl⟩
theorem dX9_copy_40 : D1 cX9_copy 40 (.ldc_w 336) 3 43 := ⟨by decide +kernel, rfl⟩
theorem dX9_copy_43 : D1 cX9_copy 43 (.invokevirtual 59) 3 46 := ⟨by decide +kernel, rfl⟩
theorem dX9_copy_46 : D1 cX9_copy 46 (.ireturn) 1 47 := ⟨by decide +kernel, rfl⟩
theorem dX9_copy_47 : D1 cX9_copy 47 (.aload_n 0) 1 48 := ⟨by decide +kernel, rfl⟩
theorem dX9_copy_48 : D1 cX9_copy 48 (.getfield 35) 3 51 := ⟨by decide +kernel, rfl⟩
theorem dX9_copy_51 : D1 cX9_copy 51 (.iload_n 1) 1 52 := ⟨by decide +kernel, rfl⟩
theorem dX9_copy_52 : D1 cX9_copy 52 (.iaload) 1 53 := ⟨by decide +kernel, rfl⟩
theorem dX9_copy_53 : D1 cX9_copy 53 (.aload_n 0) 1 54 := ⟨by decide +kernel, rfl⟩
theorem dX9_copy_54 : D1 cX9_copy 54 (.getfield 35) 3 57 := ⟨by decide +kernel, rfl⟩
theorem dX9_copy_57 : D1 cX9_copy 57 (.iload_n 3) 1 58 := ⟨by decide +kernel, rfl⟩
theorem dX9_copy_58 : D1 cX9_copy 58 (.iaload) 1 59 := ⟨by decide +kernel, rfl⟩
theorem dX9_copy_59 : DJ cX9_copy 59 (.if_icmp .eq) 62 70 := ⟨11, by decide +kernel, rfl, by decide⟩
theorem dX9_copy_62 : D1 cX9_copy 62 (.aload_n 0) 1 63 := ⟨by decide +kernel, rfl⟩
theorem dX9_copy_63 : D1 cX9_copy 63 (.ldc_w 337) 3 66 := ⟨by decide +kernel, rfl⟩
theorem dX9_copy_66 : D1 cX9_copy 66 (.invokevirtual 59) 3 69 := ⟨by decide +kernel, rfl⟩
theorem dX9_copy_69 : D1 cX9_copy 69 (.ireturn) 1 70 := ⟨by decide +kernel, rfl⟩
theorem dX9_copy_70 : D1 cX9_copy 70 (.iload_n 2) 1 71 := ⟨by decide +kernel, rfl⟩
theorem dX9_copy_71 : DJ cX9_copy 71 (.ifCond .lt) 74 111 := ⟨40, by decide +kernel, rfl, by decide⟩
theorem dX9_copy_74 : D1 cX9_copy 74 (.iload 4) 2 76 := ⟨by decide +kernel, rfl⟩
theorem dX9_copy_76 : DJ cX9_copy 76 (.ifCond .lt) 79 111 := ⟨35, by decide +kernel, rfl, by decide⟩
theorem dX9_copy_79 : D1 cX9_copy 79 (.iload 5) 2 81 := ⟨by decide +kernel, rfl⟩
theorem dX9_copy_81 : DJ cX9_copy 81 (.ifCond .lt) 84 111 := ⟨30, by decide +kernel, rfl, by decide⟩
theorem dX9_copy_84 : D1 cX9_copy 84 (.iload 5) 2 86 := ⟨by decide +kernel, rfl⟩
theorem dX9_copy_86 : D1 cX9_copy 86 (.aload_n 0) 1 87 := ⟨by decide +kernel, rfl⟩
theorem dX9_copy_87 : D1 cX9_copy 87 (.getfield 38) 3 90 := ⟨by decide +kernel, rfl⟩
theorem dX9_copy_90 : D1 cX9_copy 90 (.iload_n 1) 1 91 := ⟨by decide +kernel, rfl⟩
theorem dX9_copy_91 : D1 cX9_copy 91 (.iaload) 1 92 := ⟨by decide +kernel, rfl⟩
theorem dX9_copy_92 : D1 cX9_copy 92 (.iload_n 2) 1 93 := ⟨by decide +kernel, rfl⟩
theorem dX9_copy_93 : D1 cX9_copy 93 (.isub) 1 94 := ⟨by decide +kernel, rfl⟩
theorem dX9_copy_94 : DJ cX9_copy 94 (.if_icmp .gt) 97 111 := ⟨17, by decide +kernel, rfl, by decide⟩
theorem dX9_copy_97 : D1 cX9_copy 97 (.iload 5) 2 99 := ⟨by decide +kernel, rfl⟩
theorem dX9_copy_99 : D1 cX9_copy 99 (.aload_n 0) 1 100 := ⟨by decide +kernel, rfl⟩
theorem dX9_copy_100 : D1 cX9_copy 100 (.getfield 38) 3 103 := ⟨by decide +kernel, rfl⟩
theorem dX9_copy_103 : D1 cX9_copy 103 (.iload_n 3) 1 104 := ⟨by decide +kernel, rfl⟩
theorem dX9_copy_104 : D1 cX9_copy 104 (.iaload) 1 105 := ⟨by decide +kernel, rfl⟩
theorem dX9_copy_105 : D1 cX9_copy 105 (.iload 4) 2 107 := ⟨by decide +kernel, rfl⟩
theorem dX9_copy_107 : D1 cX9_copy 107 (.isub) 1 108 := ⟨by decide +kernel, rfl⟩
theorem dX9_copy_108 : DJ cX9_copy 108 (.if_icmp .le) 111 118 := ⟨10, by decide +kernel, rfl, by decide⟩
theorem dX9_copy_111 : D1 cX9_copy 111 (.aload_n 0) 1 112 := ⟨by decide +kernel, rfl⟩
theorem dX9_copy_112 : D1 cX9_copy 112 (.ldc 47) 2 114 := ⟨by decide +kernel, rfl⟩
theorem dX9_copy_114 : D1 cX9_copy 114 (.invokevirtual 59) 3 117 := ⟨by decide +kernel, rfl⟩
theorem dX9_copy_117 : D1 cX9_copy 117 (.ireturn) 1 118 := ⟨by decide +kernel, rfl⟩
theorem dX9_copy_118 : D1 cX9_copy 118 (.iconst 0) 1 119 := ⟨by decide +kernel, rfl⟩
theorem dX9_copy_119 : D1 cX9_copy 119 (.istore 6) 2 121 := ⟨by decide +kernel, rfl⟩
theorem dX9_copy_121 : D1 cX9_copy 121 (.iload 6) 2 123 := ⟨by decide +kernel, rfl⟩
theorem dX9_copy_123 : D1 cX9_copy 123 (.iload 5) 2 125 := ⟨by decide +kernel, rfl⟩
theorem dX9_copy_125 : DJ cX9_copy 125 (.if_icmp .ge) 128 155 := ⟨30, by decide +kernel, rfl, by decide⟩
theorem dX9_copy_128 : D1 cX9_copy 128 (.aload_n 0) 1 129 := ⟨by decide +kernel, rfl⟩
theorem dX9_copy_129 : D1 cX9_copy 129 (.getfield 44) 3 132 := ⟨by decide +kernel, rfl⟩
theorem dX9_copy_132 : D1 cX9_copy 132 (.iload 6) 2 134 := ⟨by decide +kernel, rfl⟩
theorem dX9_copy_134 : D1 cX9_copy 134 (.aload_n 0) 1 135 := ⟨by decide +kernel, rfl⟩
theorem dX9_copy_135 : D1 cX9_copy 135 (.getfield 41) 3 138 := ⟨by decide +kernel, rfl⟩
theorem dX9_copy_138 : D1 cX9_copy 138 (.bipush 40) 2 140 := ⟨by decide +kernel, rfl⟩
theorem dX9_copy_140 : D1 cX9_copy 140 (.iload_n 1) 1 141 := ⟨by decide +kernel, rfl⟩
theorem dX9_copy_141 : D1 cX9_copy 141 (.imul) 1 142 := ⟨by decide +kernel, rfl⟩
theorem dX9_copy_142 : D1 cX9_copy 142 (.iload_n 2) 1 143 := ⟨by decide +kernel, rfl⟩
theorem dX9_copy_143 : D1 cX9_copy 143 (.iadd) 1 144 := ⟨by decide +kernel, rfl⟩
theorem dX9_copy_144 : D1 cX9_copy 144 (.iload 6) 2 146 := ⟨by decide +kernel, rfl⟩
theorem dX9_copy_146 : D1 cX9_copy 146 (.iadd) 1 147 := ⟨by decide +kernel, rfl⟩
theorem dX9_copy_147 : D1 cX9_copy 147 (.iaload) 1 148 := ⟨by decide +kernel, rfl⟩
theorem dX9_copy_148 : D1 cX9_copy 148 (.iastore) 1 149 := ⟨by decide +kernel, rfl⟩
theorem dX9_copy_149 : D1 cX9_copy 149 (.iinc 6 1) 3 152 := ⟨by decide +kernel, rfl⟩
theorem dX9_copy_152 : DJ cX9_copy 152 .goto 155 121 := ⟨(-31), by decide +kernel, rfl, by decide⟩
theorem dX9_copy_155 : D1 cX9_copy 155 (.iconst 0) 1 156 := ⟨by decide +kernel, rfl⟩
theorem dX9_copy_156 : D1 cX9_copy 156 (.istore 6) 2 158 := ⟨by decide +kernel, rfl⟩
theorem dX9_copy_158 : D1 cX9_copy 158 (.iload 6) 2 160 := ⟨by decide +kernel, rfl⟩
theorem dX9_copy_160 : D1 cX9_copy 160 (.iload 5) 2 162 := ⟨by decide +kernel, rfl⟩
theorem dX9_copy_162 : DJ cX9_copy 162 (.if_icmp .ge) 165 193 := ⟨31, by decide +kernel, rfl, by decide⟩
theorem dX9_copy_165 : D1 cX9_copy 165 (.aload_n 0) 1 166 := ⟨by decide +kernel, rfl⟩
theorem dX9_copy_166 : D1 cX9_copy 166 (.getfield 41) 3 169 := ⟨by decide +kernel, rfl⟩
theorem dX9_copy_169 : D1 cX9_copy 169 (.bipush 40) 2 171 := ⟨by decide +kernel, rfl⟩
theorem dX9_copy_171 : D1 cX9_copy 171 (.iload_n 3) 1 172 := ⟨by decide +kernel, rfl⟩
theorem dX9_copy_172 : D1 cX9_copy 172 (.imul) 1 173 := ⟨by decide +kernel, rfl⟩
theorem dX9_copy_173 : D1 cX9_copy 173 (.iload 4) 2 175 := ⟨by decide +kernel, rfl⟩
theorem dX9_copy_175 : D1 cX9_copy 175 (.iadd) 1 176 := ⟨by decide +kernel, rfl⟩
theorem dX9_copy_176 : D1 cX9_copy 176 (.iload 6) 2 178 := ⟨by decide +kernel, rfl⟩
theorem dX9_copy_178 : D1 cX9_copy 178 (.iadd) 1 179 := ⟨by decide +kernel, rfl⟩
theorem dX9_copy_179 : D1 cX9_copy 179 (.aload_n 0) 1 180 := ⟨by decide +kernel, rfl⟩
theorem dX9_copy_180 : D1 cX9_copy 180 (.getfield 44) 3 183 := ⟨by decide +kernel, rfl⟩
theorem dX9_copy_183 : D1 cX9_copy 183 (.iload 6) 2 185 := ⟨by decide +kernel, rfl⟩
theorem dX9_copy_185 : D1 cX9_copy 185 (.iaload) 1 186 := ⟨by decide +kernel, rfl⟩
theorem dX9_copy_186 : D1 cX9_copy 186 (.iastore) 1 187 := ⟨by decide +kernel, rfl⟩
theorem dX9_copy_187 : D1 cX9_copy 187 (.iinc 6 1) 3 190 := ⟨by decide +kernel, rfl⟩
theorem dX9_copy_190 : DJ cX9_copy 190 .goto 193 158 := ⟨(-32), by decide +kernel, rfl, by decide⟩
theorem dX9_copy_193 : D1 cX9_copy 193 (.iload 5) 2 195 := ⟨by decide +kernel, rfl⟩
theorem dX9_copy_195 : D1 cX9_copy 195 (.ireturn) 1 196 := ⟨by decide +kernel, rfl⟩
theorem dX9_load_0 : D1 cX9_load 0 (.aload_n 0) 1 1 := ⟨by decide +kernel, rfl⟩
theorem dX9_load_1 : D1 cX9_load 1 (.iload_n 1) 1 2 := ⟨by decide +kernel, rfl⟩
theorem dX9_load_2 : D1 cX9_load 2 (.invokevirtual 344) 3 5 := ⟨by decide +kernel, rfl⟩
theorem dX9_load_5 : D1 cX9_load 5 (.istore_n 2) 1 6 := ⟨by decide +kernel, rfl⟩
theorem dX9_load_6 : D1 cX9_load 6 (.iload_n 2) 1 7 := ⟨by decide +kernel, rfl⟩
theorem dX9_load_7 : DJ cX9_load 7 (.ifCond .eq) 10 16 := ⟨9, by decide +kernel, rfl, by decide⟩
theorem dX9_load_10 : D1 cX9_load 10 (.aload_n 0) 1 11 := ⟨by decide +kernel, rfl⟩
theorem dX9_load_11 : D1 cX9_load 11 (.iload_n 2) 1 12 := ⟨by decide +kernel, rfl⟩
theorem dX9_load_12 : D1 cX9_load 12 (.invokevirtual 59) 3 15 := ⟨by decide +kernel, rfl⟩
theorem dX9_load_15 : D1 cX9_load 15 (.ireturn) 1 16 := ⟨by decide +kernel, rfl⟩
theorem dX9_load_16 : D1 cX9_load 16 (.iconst 0) 1 17 := ⟨by decide +kernel, rfl⟩
theorem dX9_load_17 : D1 cX9_load 17 (.istore_n 3) 1 18 := ⟨by decide +kernel, rfl⟩
theorem dX9_load_18 : D1 cX9_load 18 (.iload_n 3) 1 19 := ⟨by decide +kernel, rfl⟩
theorem dX9_load_19 : D1 cX9_load 19 (.aload_n 0) 1 20 := ⟨by decide +kernel, rfl⟩
theorem dX9_load_20 : D1 cX9_load 20 (.getfield 38) 3 23 := ⟨by decide +kernel, rfl⟩
theorem dX9_load_23 : D1 cX9_load 23 (.iload_n 1) 1 24 := ⟨by decide +kernel, rfl⟩
theorem dX9_load_24 : D1 cX9_load 24 (.iaload) 1 25 := ⟨by decide +kernel, rfl⟩
theorem dX9_load_25 : DJ cX9_load 25 (.if_icmp .ge) 28 87 := ⟨62, by decide +kernel, rfl, by decide⟩
theorem dX9_load_28 : D1 cX9_load 28 (.iload_n 3) 1 29 := ⟨by decide +kernel, rfl⟩
theorem dX9_load_29 : D1 cX9_load 29 (.aload_n 0) 1 30 := ⟨by decide +kernel, rfl⟩
theorem dX9_load_30 : D1 cX9_load 30 (.getfield 7) 3 33 := ⟨by decide +kernel, rfl⟩
theorem dX9_load_33 : D1 cX9_load 33 (.iconst 1) 1 34 := ⟨by decide +kernel, rfl⟩
theorem dX9_load_34 : D1 cX9_load 34 (.iaload) 1 35 := ⟨by decide +kernel, rfl⟩
theorem dX9_load_35 : DJ cX9_load 35 (.if_icmp .ge) 38 87 := ⟨52, by decide +kernel, rfl, by decide⟩
theorem dX9_load_38 : D1 cX9_load 38 (.aload_n 0) 1 39 := ⟨by decide +kernel, rfl⟩
theorem dX9_load_39 : D1 cX9_load 39 (.getfield 41) 3 42 := ⟨by decide +kernel, rfl⟩
theorem dX9_load_42 : D1 cX9_load 42 (.bipush 40) 2 44 := ⟨by decide +kernel, rfl⟩
theorem dX9_load_44 : D1 cX9_load 44 (.iload_n 1) 1 45 := ⟨by decide +kernel, rfl⟩
theorem dX9_load_45 : D1 cX9_load 45 (.imul) 1 46 := ⟨by decide +kernel, rfl⟩
theorem dX9_load_46 : D1 cX9_load 46 (.iload_n 3) 1 47 := ⟨by decide +kernel, rfl⟩
theorem dX9_load_47 : D1 cX9_load 47 (.iadd) 1 48 := ⟨by decide +kernel, rfl⟩
theorem dX9_load_48 : D1 cX9_load 48 (.iaload) 1 49 := ⟨by decide +kernel, rfl⟩
theorem dX9_load_49 : D1 cX9_load 49 (.i2l) 1 50 := ⟨by decide +kernel, rfl⟩
theorem dX9_load_50 : D1 cX9_load 50 (.lconst 0) 1 51 := ⟨by decide +kernel, rfl⟩
theorem dX9_load_51 : D1 cX9_load 51 (.ldc2_w 88) 3 54 := ⟨by decide +kernel, rfl⟩
theorem dX9_load_54 : D1 cX9_load 54 (.invokestatic 48) 3 57 := ⟨by decide +kernel, rfl⟩
theorem dX9_load_57 : DJ cX9_load 57 (.ifCond .eq) 60 87 := ⟨30, by decide +kernel, rfl, by decide⟩
theorem dX9_load_60 : D1 cX9_load 60 (.aload_n 0) 1 61 := ⟨by decide +kernel, rfl⟩
theorem dX9_load_61 : D1 cX9_load 61 (.getfield 7) 3 64 := ⟨by decide +kernel, rfl⟩
theorem dX9_load_64 : D1 cX9_load 64 (.iload_n 3) 1 65 := ⟨by decide +kernel, rfl⟩
theorem dX9_load_65 : D1 cX9_load 65 (.iconst 3) 1 66 := ⟨by decide +kernel, rfl⟩
theorem dX9_load_66 : D1 cX9_load 66 (.invokestatic 53) 3 69 := ⟨by decide +kernel, rfl⟩
theorem dX9_load_69 : D1 cX9_load 69 (.aload_n 0) 1 70 := ⟨by decide +kernel, rfl⟩
theorem dX9_load_70 : D1 cX9_load 70 (.getfield 41) 3 73 := ⟨by decide +kernel, rfl⟩
theorem dX9_load_73 : D1 cX9_load 73 (.bipush 40) 2 75 := ⟨by decide +kernel, rfl⟩
theorem dX9_load_75 : D1 cX9_load 75 (.iload_n 1) 1 76 := ⟨by decide +kernel, rfl⟩
theorem dX9_load_76 : D1 cX9_load 76 (.imul) 1 77 := ⟨by decide +kernel, rfl⟩
theorem dX9_load_77 : D1 cX9_load 77 (.iload_n 3) 1 78 := ⟨by decide +kernel, rfl⟩
theorem dX9_load_78 : D1 cX9_load 78 (.iadd) 1 79 := ⟨by decide +kernel, rfl⟩
theorem dX9_load_79 : D1 cX9_load 79 (.iaload) 1 80 := ⟨by decide +kernel, rfl⟩
theorem dX9_load_80 : D1 cX9_load 80 (.iastore) 1 81 := ⟨by decide +kernel, rfl⟩
theorem dX9_load_81 : D1 cX9_load 81 (.iinc 3 1) 3 84 := ⟨by decide +kernel, rfl⟩
theorem dX9_load_84 : DJ cX9_load 84 .goto 87 18 := ⟨(-66), by decide +kernel, rfl, by decide⟩
theorem dX9_load_87 : D1 cX9_load 87 (.iload_n 3) 1 88 := ⟨by decide +kernel, rfl⟩
theorem dX9_load_88 : D1 cX9_load 88 (.ireturn) 1 89 := ⟨by decide +kernel, rfl⟩
theorem dX9_rounds_0 : D1 cX9_rounds 0 (.aload_n 0) 1 1 := ⟨by decide +kernel, rfl⟩
theorem dX9_rounds_1 : D1 cX9_rounds 1 (.iload_n 1) 1 2 := ⟨by decide +kernel, rfl⟩
theorem dX9_rounds_2 : D1 cX9_rounds 2 (.invokevirtual 344) 3 5 := ⟨by decide +kernel, rfl⟩
theorem dX9_rounds_5 : D1 cX9_rounds 5 (.istore_n 3) 1 6 := ⟨by decide +kernel, rfl⟩
theorem dX9_rounds_6 : D1 cX9_rounds 6 (.iload_n 3) 1 7 := ⟨by decide +kernel, rfl⟩
theorem dX9_rounds_7 : DJ cX9_rounds 7 (.ifCond .ne) 10 20 := ⟨13, by decide +kernel, rfl, by decide⟩
theorem dX9_rounds_10 : D1 cX9_rounds 10 (.iload_n 2) 1 11 := ⟨by decide +kernel, rfl⟩
theorem dX9_rounds_11 : D1 cX9_rounds 11 (.invokestatic 221) 3 14 := ⟨by decide +kernel, rfl⟩
theorem dX9_rounds_14 : DJ cX9_rounds 14 (.ifCond .ne) 17 20 := ⟨6, by decide +kernel, rfl, by decide⟩
theorem dX9_rounds_17 : D1 cX9_rounds 17 (.ldc 47) 2 19 := ⟨by decide +kernel, rfl⟩
theorem dX9_rounds_19 : D1 cX9_rounds 19 (.istore_n 3) 1 20 := ⟨by decide +kernel, rfl⟩
theorem dX9_rounds_20 : D1 cX9_rounds 20 (.iconst 0) 1 21 := ⟨by decide +kernel, rfl⟩
theorem dX9_rounds_21 : D1 cX9_rounds 21 (.istore 4) 2 23 := ⟨by decide +kernel, rfl⟩
theorem dX9_rounds_23 : D1 cX9_rounds 23 (.iload_n 3) 1 24 := ⟨by decide +kernel, rfl⟩
theorem dX9_rounds_24 : DJ cX9_rounds 24 (.ifCond .ne) 27 70 := ⟨46, by decide +kernel, rfl, by decide⟩
theorem dX9_rounds_27 : D1 cX9_rounds 27 (.iload 4) 2 29 := ⟨by decide +kernel, rfl⟩
theorem dX9_rounds_29 : D1 cX9_rounds 29 (.aload_n 0) 1 30 := ⟨by decide +kernel, rfl⟩
theorem dX9_rounds_30 : D1 cX9_rounds 30 (.getfield 38) 3 33 := ⟨by decide +kernel, rfl⟩
theorem dX9_rounds_33 : D1 cX9_rounds 33 (.iload_n 1) 1 34 := ⟨by decide +kernel, rfl⟩
theorem dX9_rounds_34 : D1 cX9_rounds 34 (.iaload) 1 35 := ⟨by decide +kernel, rfl⟩
theorem dX9_rounds_35 : DJ cX9_rounds 35 (.if_icmp .ge) 38 70 := ⟨35, by decide +kernel, rfl, by decide⟩
theorem dX9_rounds_38 : D1 cX9_rounds 38 (.aload_n 0) 1 39 := ⟨by decide +kernel, rfl⟩
theorem dX9_rounds_39 : D1 cX9_rounds 39 (.aload_n 0) 1 40 := ⟨by decide +kernel, rfl⟩
theorem dX9_rounds_40 : D1 cX9_rounds 40 (.getfield 41) 3 43 := ⟨by decide +kernel, rfl⟩
theorem dX9_rounds_43 : D1 cX9_rounds 43 (.bipush 40) 2 45 := ⟨by decide +kernel, rfl⟩
theorem dX9_rounds_45 : D1 cX9_rounds 45 (.iload_n 1) 1 46 := ⟨by decide +kernel, rfl⟩
theorem dX9_rounds_46 : D1 cX9_rounds 46 (.imul) 1 47 := ⟨by decide +kernel, rfl⟩
theorem dX9_rounds_47 : D1 cX9_rounds 47 (.iload 4) 2 49 := ⟨by decide +kernel, rfl⟩
theorem dX9_rounds_49 : D1 cX9_rounds 49 (.iadd) 1 50 := ⟨by decide +kernel, rfl⟩
theorem dX9_rounds_50 : D1 cX9_rounds 50 (.iaload) 1 51 := ⟨by decide +kernel, rfl⟩
theorem dX9_rounds_51 : D1 cX9_rounds 51 (.invokevirtual 71) 3 54 := ⟨by decide +kernel, rfl⟩
theorem dX9_rounds_54 : DJ cX9_rounds 54 (.ifCond .eq) 57 61 := ⟨7, by decide +kernel, rfl, by decide⟩
theorem dX9_rounds_57 : D1 cX9_rounds 57 (.iconst 0) 1 58 := ⟨by decide +kernel, rfl⟩
theorem dX9_rounds_58 : DJ cX9_rounds 58 .goto 61 63 := ⟨5, by decide +kernel, rfl, by decide⟩
theorem dX9_rounds_61 : D1 cX9_rounds 61 (.ldc 100) 2 63 := ⟨by decide +kernel, rfl⟩
theorem dX9_rounds_63 : D1 cX9_rounds 63 (.istore_n 3) 1 64 := ⟨by decide +kernel, rfl⟩
theorem dX9_rounds_64 : D1 cX9_rounds 64 (.iinc 4 1) 3 67 := ⟨by decide +kernel, rfl⟩
theorem dX9_rounds_67 : DJ cX9_rounds 67 .goto 70 23 := ⟨(-44), by decide +kernel, rfl, by decide⟩
theorem dX9_rounds_70 : D1 cX9_rounds 70 (.iload_n 3) 1 71 := ⟨by decide +kernel, rfl⟩
theorem dX9_rounds_71 : DJ cX9_rounds 71 (.ifCond .ne) 74 94 := ⟨23, by decide +kernel, rfl, by decide⟩
theorem dX9_rounds_74 : D1 cX9_rounds 74 (.aload_n 0) 1 75 := ⟨by decide +kernel, rfl⟩
theorem dX9_rounds_75 : D1 cX9_rounds 75 (.invokevirtual 104) 3 78 := ⟨by decide +kernel, rfl⟩
theorem dX9_rounds_78 : DJ cX9_rounds 78 (.ifCond .ne) 81 91 := ⟨13, by decide +kernel, rfl, by decide⟩
theorem dX9_rounds_81 : D1 cX9_rounds 81 (.aload_n 0) 1 82 := ⟨by decide +kernel, rfl⟩
theorem dX9_rounds_82 : D1 cX9_rounds 82 (.sipush 4000) 3 85 := ⟨by decide +kernel, rfl⟩
theorem dX9_rounds_85 : D1 cX9_rounds 85 (.invokevirtual 160) 3 88 := ⟨by decide +kernel, rfl⟩
theorem dX9_rounds_88 : DJ cX9_rounds 88 (.ifCond .eq) 91 94 := ⟨6, by decide +kernel, rfl, by decide⟩
theorem dX9_rounds_91 : D1 cX9_rounds 91 (.ldc 100) 2 93 := ⟨by decide +kernel, rfl⟩
theorem dX9_rounds_93 : D1 cX9_rounds 93 (.istore_n 3) 1 94 := ⟨by decide +kernel, rfl⟩
theorem dX9_rounds_94 : D1 cX9_rounds 94 (.iload_n 3) 1 95 := ⟨by decide +kernel, rfl⟩
theorem dX9_rounds_95 : DJ cX9_rounds 95 (.ifCond .eq) 98 104 := ⟨9, by decide +kernel, rfl, by decide⟩
theorem dX9_rounds_98 : D1 cX9_rounds 98 (.aload_n 0) 1 99 := ⟨by decide +kernel, rfl⟩
theorem dX9_rounds_99 : D1 cX9_rounds 99 (.iload_n 3) 1 100 := ⟨by decide +kernel, rfl⟩
theorem dX9_rounds_100 : D1 cX9_rounds 100 (.invokevirtual 59) 3 103 := ⟨by decide +kernel, rfl⟩
theorem dX9_rounds_103 : D1 cX9_rounds 103 (.ireturn) 1 104 := ⟨by decide +kernel, rfl⟩
theorem dX9_rounds_104 : D1 cX9_rounds 104 (.aload_n 0) 1 105 := ⟨by decide +kernel, rfl⟩
theorem dX9_rounds_105 : D1 cX9_rounds 105 (.invokevirtual 144) 3 108 := ⟨by decide +kernel, rfl⟩
theorem dX9_rounds_108 : D1 cX9_rounds 108 (.aload_n 0) 1 109 := ⟨by decide +kernel, rfl⟩
theorem dX9_rounds_109 : D1 cX9_rounds 109 (.invokevirtual 181) 3 112 := ⟨by decide +kernel, rfl⟩
theorem dX9_rounds_112 : D1 cX9_rounds 112 (.iconst 0) 1 113 := ⟨by decide +kernel, rfl⟩
theorem dX9_rounds_113 : D1 cX9_rounds 113 (.istore 4) 2 115 := ⟨by decide +kernel, rfl⟩
theorem dX9_rounds_115 : D1 cX9_rounds 115 (.iload 4) 2 117 := ⟨by decide +kernel, rfl⟩
theorem dX9_rounds_117 : D1 cX9_rounds 117 (.aload_n 0) 1 118 := ⟨by decide +kernel, rfl⟩
theorem dX9_rounds_118 : D1 cX9_rounds 118 (.getfield 38) 3 121 := ⟨by decide +kernel, rfl⟩
theorem dX9_rounds_121 : D1 cX9_rounds 121 (.iload_n 1) 1 122 := ⟨by decide +kernel, rfl⟩
theorem dX9_rounds_122 : D1 cX9_rounds 122 (.iaload) 1 123 := ⟨by decide +kernel, rfl⟩
theorem dX9_rounds_123 : DJ cX9_rounds 123 (.if_icmp .ge) 126 149 := ⟨26, by decide +kernel, rfl, by decide⟩
theorem dX9_rounds_126 : D1 cX9_rounds 126 (.aload_n 0) 1 127 := ⟨by decide +kernel, rfl⟩
theorem dX9_rounds_127 : D1 cX9_rounds 127 (.aload_n 0) 1 128 := ⟨by decide +kernel, rfl⟩
theorem dX9_rounds_128 : D1 cX9_rounds 128 (.getfield 41) 3 131 := ⟨by decide +kernel, rfl⟩
theorem dX9_rounds_131 : D1 cX9_rounds 131 (.bipush 40) 2 133 := ⟨by decide +kernel, rfl⟩
theorem dX9_rounds_133 : D1 cX9_rounds 133 (.iload_n 1) 1 134 := ⟨by decide +kernel, rfl⟩
theorem dX9_rounds_134 : D1 cX9_rounds 134 (.imul) 1 135 := ⟨by decide +kernel, rfl⟩
theorem dX9_rounds_135 : D1 cX9_rounds 135 (.iload 4) 2 137 := ⟨by decide +kernel, rfl⟩
theorem dX9_rounds_137 : D1 cX9_rounds 137 (.iadd) 1 138 := ⟨by decide +kernel, rfl⟩
theorem dX9_rounds_138 : D1 cX9_rounds 138 (.iaload) 1 139 := ⟨by decide +kernel, rfl⟩
theorem dX9_rounds_139 : D1 cX9_rounds 139 (.iload_n 2) 1 140 := ⟨by decide +kernel, rfl⟩
theorem dX9_rounds_140 : D1 cX9_rounds 140 (.invokevirtual 184) 3 143 := ⟨by decide +kernel, rfl⟩
theorem dX9_rounds_143 : D1 cX9_rounds 143 (.iinc 4 1) 3 146 := ⟨by decide +kernel, rfl⟩
theorem dX9_rounds_146 : DJ cX9_rounds 146 .goto 149 115 := ⟨(-31), by decide +kernel, rfl, by decide⟩
theorem dX9_rounds_149 : D1 cX9_rounds 149 (.aload_n 0) 1 150 := ⟨by decide +kernel, rfl⟩
theorem dX9_rounds_150 : D1 cX9_rounds 150 (.invokevirtual 150) 3 153 := ⟨by decide +kernel, rfl⟩
theorem dX9_rounds_153 : D1 cX9_rounds 153 (.aload_n 0) 1 154 := ⟨by decide +kernel, rfl⟩
theorem dX9_rounds_154 : D1 cX9_rounds 154 (.getfield 166) 3 157 := ⟨by decide +kernel, rfl⟩
theorem dX9_rounds_157 : D1 cX9_rounds 157 (.ireturn) 1 158 := ⟨by decide +kernel, rfl⟩
theorem dX9_diary_0 : D1 cX9_diary 0 (.aload_n 0) 1 1 := ⟨by decide +kernel, rfl⟩
theorem dX9_diary_1 : D1 cX9_diary 1 (.iload_n 1) 1 2 := ⟨by decide +kernel, rfl⟩
theorem dX9_diary_2 : D1 cX9_diary 2 (.invokevirtual 344) 3 5 := ⟨by decide +kernel, rfl⟩
theorem dX9_diary_5 : D1 cX9_diary 5 (.istore_n 3) 1 6 := ⟨by decide +kernel, rfl⟩
theorem dX9_diary_6 : D1 cX9_diary 6 (.iload_n 3) 1 7 := ⟨by decide +kernel, rfl⟩
theorem dX9_diary_7 : DJ cX9_diary 7 (.ifCond .ne) 10 36 := ⟨29, by decide +kernel, rfl, by decide⟩
theorem dX9_diary_10 : D1 cX9_diary 10 (.iload_n 2) 1 11 := ⟨by decide +kernel, rfl⟩
theorem dX9_diary_11 : D1 cX9_diary 11 (.invokestatic 221) 3 14 := ⟨by decide +kernel, rfl⟩
theorem dX9_diary_14 : DJ cX9_diary 14 (.ifCond .ne) 17 22 := ⟨8, by decide +kernel, rfl, by decide⟩
theorem dX9_diary_17 : D1 cX9_diary 17 (.ldc 47) 2 19 := ⟨by decide +kernel, rfl⟩
theorem dX9_diary_19 : DJ cX9_diary 19 .goto 22 35 := ⟨16, by decide +kernel, rfl, by decide⟩
theorem dX9_diary_22 : D1 cX9_diary 22 (.aload_n 0) 1 23 := ⟨by decide +kernel, rfl⟩
theorem dX9_diary_23 : D1 cX9_diary 23 (.invokevirtual 224) 3 26 := ⟨by decide +kernel, rfl⟩
theorem dX9_diary_26 : DJ cX9_diary 26 (.ifCond .eq) 29 34 := ⟨8, by decide +kernel, rfl, by decide⟩
theorem dX9_diary_29 : D1 cX9_diary 29 (.ldc 100) 2 31 := ⟨by decide +kernel, rfl⟩
theorem dX9_diary_31 : DJ cX9_diary 31 .goto 34 35 := ⟨4, by decide +kernel, rfl, by decide⟩
theorem dX9_diary_34 : D1 cX9_diary 34 (.iconst 0) 1 35 := ⟨by decide +kernel, rfl⟩
theorem dX9_diary_35 : D1 cX9_diary 35 (.istore_n 3) 1 36 := ⟨by decide +kernel, rfl⟩
theorem dX9_diary_36 : D1 cX9_diary 36 (.iload_n 3) 1 37 := ⟨by decide +kernel, rfl⟩
theorem dX9_diary_37 : DJ cX9_diary 37 (.ifCond .eq) 40 46 := ⟨9, by decide +kernel, rfl, by decide⟩
theorem dX9_diary_40 : D1 cX9_diary 40 (.aload_n 0) 1 41 := ⟨by decide +kernel, rfl⟩
theorem dX9_diary_41 : D1 cX9_diary 41 (.iload_n 3) 1 42 := ⟨by decide +kernel, rfl⟩
theorem dX9_diary_42 : D1 cX9_diary 42 (.invokevirtual 59) 3 45 := ⟨by decide +kernel, rfl⟩
theorem dX9_diary_45 : D1 cX9_diary 45 (.ireturn) 1 46 := ⟨by decide +kernel, rfl⟩
theorem dX9_diary_46 : D1 cX9_diary 46 (.aload_n 0) 1 47 := ⟨by decide +kernel, rfl⟩
theorem dX9_diary_47 : D1 cX9_diary 47 (.iload_n 2) 1 48 := ⟨by decide +kernel, rfl⟩
theorem dX9_diary_48 : D1 cX9_diary 48 (.iconst 2) 1 49 := ⟨by decide +kernel, rfl⟩
theorem dX9_diary_49 : D1 cX9_diary 49 (.iload_n 1) 1 50 := ⟨by decide +kernel, rfl⟩
theorem dX9_diary_50 : D1 cX9_diary 50 (.invokevirtual 230) 3 53 := ⟨by decide +kernel, rfl⟩
theorem dX9_diary_53 : D1 cX9_diary 53 (.aload_n 0) 1 54 := ⟨by decide +kernel, rfl⟩
theorem dX9_diary_54 : D1 cX9_diary 54 (.getfield 196) 3 57 := ⟨by decide +kernel, rfl⟩
theorem dX9_diary_57 : D1 cX9_diary 57 (.ireturn) 1 58 := ⟨by decide +kernel, rfl⟩
theorem dX9_judge_0 : D1 cX9_judge 0 (.aload_n 0) 1 1 := ⟨by decide +kernel, rfl⟩
theorem dX9_judge_1 : D1 cX9_judge 1 (.iload_n 1) 1 2 := ⟨by decide +kernel, rfl⟩
theorem dX9_judge_2 : D1 cX9_judge 2 (.invokevirtual 344) 3 5 := ⟨by decide +kernel, rfl⟩
theorem dX9_judge_5 : D1 cX9_judge 5 (.istore_n 3) 1 6 := ⟨by decide +kernel, rfl⟩
theorem dX9_judge_6 : D1 cX9_judge 6 (.iload_n 3) 1 7 := ⟨by decide +kernel, rfl⟩
theorem dX9_judge_7 : DJ cX9_judge 7 (.ifCond .ne) 10 43 := ⟨36, by decide +kernel, rfl, by decide⟩
theorem dX9_judge_10 : D1 cX9_judge 10 (.aload_n 0) 1 11 := ⟨by decide +kernel, rfl⟩
theorem dX9_judge_11 : D1 cX9_judge 11 (.iload_n 2) 1 12 := ⟨by decide +kernel, rfl⟩
theorem dX9_judge_12 : D1 cX9_judge 12 (.invokevirtual 71) 3 15 := ⟨by decide +kernel, rfl⟩
theorem dX9_judge_15 : DJ cX9_judge 15 (.ifCond .ne) 18 23 := ⟨8, by decide +kernel, rfl, by decide⟩
theorem dX9_judge_18 : D1 cX9_judge 18 (.ldc 47) 2 20 := ⟨by decide +kernel, rfl⟩
theorem dX9_judge_20 : DJ cX9_judge 20 .goto 23 42 := ⟨22, by decide +kernel, rfl, by decide⟩
theorem dX9_judge_23 : D1 cX9_judge 23 (.aload_n 0) 1 24 := ⟨by decide +kernel, rfl⟩
theorem dX9_judge_24 : D1 cX9_judge 24 (.aload_n 0) 1 25 := ⟨by decide +kernel, rfl⟩
theorem dX9_judge_25 : D1 cX9_judge 25 (.getfield 38) 3 28 := ⟨by decide +kernel, rfl⟩
theorem dX9_judge_28 : D1 cX9_judge 28 (.iload_n 1) 1 29 := ⟨by decide +kernel, rfl⟩
theorem dX9_judge_29 : D1 cX9_judge 29 (.iaload) 1 30 := ⟨by decide +kernel, rfl⟩
theorem dX9_judge_30 : D1 cX9_judge 30 (.invokevirtual 128) 3 33 := ⟨by decide +kernel, rfl⟩
theorem dX9_judge_33 : DJ cX9_judge 33 (.ifCond .eq) 36 41 := ⟨8, by decide +kernel, rfl, by decide⟩
theorem dX9_judge_36 : D1 cX9_judge 36 (.ldc 100) 2 38 := ⟨by decide +kernel, rfl⟩
theorem dX9_judge_38 : DJ cX9_judge 38 .goto 41 42 := ⟨4, by decide +kernel, rfl, by decide⟩
theorem dX9_judge_41 : D1 cX9_judge 41 (.iconst 0) 1 42 := ⟨by decide +kernel, rfl⟩
theorem dX9_judge_42 : D1 cX9_judge 42 (.istore_n 3) 1 43 := ⟨by decide +kernel, rfl⟩
theorem dX9_judge_43 : D1 cX9_judge 43 (.iload_n 3) 1 44 := ⟨by decide +kernel, rfl⟩
theorem dX9_judge_44 : DJ cX9_judge 44 (.ifCond .eq) 47 53 := ⟨9, by decide +kernel, rfl, by decide⟩
theorem dX9_judge_47 : D1 cX9_judge 47 (.aload_n 0) 1 48 := ⟨by decide +kernel, rfl⟩
theorem dX9_judge_48 : D1 cX9_judge 48 (.iload_n 3) 1 49 := ⟨by decide +kernel, rfl⟩
theorem dX9_judge_49 : D1 cX9_judge 49 (.invokevirtual 59) 3 52 := ⟨by decide +kernel, rfl⟩
theorem dX9_judge_52 : D1 cX9_judge 52 (.ireturn) 1 53 := ⟨by decide +kernel, rfl⟩
theorem dX9_judge_53 : D1 cX9_judge 53 (.aload_n 0) 1 54 := ⟨by decide +kernel, rfl⟩
theorem dX9_judge_54 : D1 cX9_judge 54 (.invokevirtual 144) 3 57 := ⟨by decide +kernel, rfl⟩
theorem dX9_judge_57 : D1 cX9_judge 57 (.iconst 0) 1 58 := ⟨by decide +kernel, rfl⟩
theorem dX9_judge_58 : D1 cX9_judge 58 (.istore 4) 2 60 := ⟨by decide +kernel, rfl⟩
theorem dX9_judge_60 : D1 cX9_judge 60 (.iconst 1) 1 61 := ⟨by decide +kernel, rfl⟩
theorem dX9_judge_61 : D1 cX9_judge 61 (.istore 5) 2 63 := ⟨by decide +kernel, rfl⟩
theorem dX9_judge_63 : D1 cX9_judge 63 (.iload 5) 2 65 := ⟨by decide +kernel, rfl⟩
theorem dX9_judge_65 : DJ cX9_judge 65 (.ifCond .eq) 68 129 := ⟨64, by decide +kernel, rfl, by decide⟩
theorem dX9_judge_68 : D1 cX9_judge 68 (.iload 4) 2 70 := ⟨by decide +kernel, rfl⟩
theorem dX9_judge_70 : D1 cX9_judge 70 (.aload_n 0) 1 71 := ⟨by decide +kernel, rfl⟩
theorem dX9_judge_71 : D1 cX9_judge 71 (.getfield 38) 3 74 := ⟨by decide +kernel, rfl⟩
theorem dX9_judge_74 : D1 cX9_judge 74 (.iload_n 1) 1 75 := ⟨by decide +kernel, rfl⟩
theorem dX9_judge_75 : D1 cX9_judge 75 (.iaload) 1 76 := ⟨by decide +kernel, rfl⟩
theorem dX9_judge_76 : DJ cX9_judge 76 (.if_icmp .ge) 79 129 := ⟨53, by decide +kernel, rfl, by decide⟩
theorem dX9_judge_79 : D1 cX9_judge 79 (.aload_n 0) 1 80 := ⟨by decide +kernel, rfl⟩
theorem dX9_judge_80 : D1 cX9_judge 80 (.invokevirtual 123) 3 83 := ⟨by decide +kernel, rfl⟩
theorem dX9_judge_83 : D1 cX9_judge 83 (.aload_n 0) 1 84 := ⟨by decide +kernel, rfl⟩
theorem dX9_judge_84 : D1 cX9_judge 84 (.getfield 41) 3 87 := ⟨by decide +kernel, rfl⟩
theorem dX9_judge_87 : D1 cX9_judge 87 (.bipush 40) 2 89 := ⟨by decide +kernel, rfl⟩
theorem dX9_judge_89 : D1 cX9_judge 89 (.iload_n 1) 1 90 := ⟨by decide +kernel, rfl⟩
theorem dX9_judge_90 : D1 cX9_judge 90 (.imul) 1 91 := ⟨by decide +kernel, rfl⟩
theorem dX9_judge_91 : D1 cX9_judge 91 (.iload 4) 2 93 := ⟨by decide +kernel, rfl⟩
theorem dX9_judge_93 : D1 cX9_judge 93 (.iadd) 1 94 := ⟨by decide +kernel, rfl⟩
theorem dX9_judge_94 : D1 cX9_judge 94 (.iaload) 1 95 := ⟨by decide +kernel, rfl⟩
theorem dX9_judge_95 : D1 cX9_judge 95 (.aload_n 0) 1 96 := ⟨by decide +kernel, rfl⟩
theorem dX9_judge_96 : D1 cX9_judge 96 (.iload_n 2) 1 97 := ⟨by decide +kernel, rfl⟩
theorem dX9_judge_97 : D1 cX9_judge 97 (.iconst 1) 1 98 := ⟨by decide +kernel, rfl⟩
theorem dX9_judge_98 : D1 cX9_judge 98 (.invokevirtual 68) 3 101 := ⟨by decide +kernel, rfl⟩
theorem dX9_judge_101 : DJ cX9_judge 101 (.if_icmp .ne) 104 108 := ⟨7, by decide +kernel, rfl, by decide⟩
theorem dX9_judge_104 : D1 cX9_judge 104 (.iconst 1) 1 105 := ⟨by decide +kernel, rfl⟩
theorem dX9_judge_105 : DJ cX9_judge 105 .goto 108 109 := ⟨4, by decide +kernel, rfl, by decide⟩
theorem dX9_judge_108 : D1 cX9_judge 108 (.iconst 0) 1 109 := ⟨by decide +kernel, rfl⟩
theorem dX9_judge_109 : D1 cX9_judge 109 (.istore 5) 2 111 := ⟨by decide +kernel, rfl⟩
theorem dX9_judge_111 : D1 cX9_judge 111 (.iload 4) 2 113 := ⟨by decide +kernel, rfl⟩
theorem dX9_judge_113 : D1 cX9_judge 113 (.iload 5) 2 115 := ⟨by decide +kernel, rfl⟩
theorem dX9_judge_115 : DJ cX9_judge 115 (.ifCond .eq) 118 122 := ⟨7, by decide +kernel, rfl, by decide⟩
theorem dX9_judge_118 : D1 cX9_judge 118 (.iconst 1) 1 119 := ⟨by decide +kernel, rfl⟩
theorem dX9_judge_119 : DJ cX9_judge 119 .goto 122 123 := ⟨4, by decide +kernel, rfl, by decide⟩
theorem dX9_judge_122 : D1 cX9_judge 122 (.iconst 0) 1 123 := ⟨by decide +kernel, rfl⟩
theorem dX9_judge_123 : D1 cX9_judge 123 (.iadd) 1 124 := ⟨by decide +kernel, rfl⟩
theorem dX9_judge_124 : D1 cX9_judge 124 (.istore 4) 2 126 := ⟨by decide +kernel, rfl⟩
theorem dX9_judge_126 : DJ cX9_judge 126 .goto 129 63 := ⟨(-63), by decide +kernel, rfl, by decide⟩
theorem dX9_judge_129 : D1 cX9_judge 129 (.aload_n 0) 1 130 := ⟨by decide +kernel, rfl⟩
theorem dX9_judge_130 : D1 cX9_judge 130 (.invokevirtual 150) 3 133 := ⟨by decide +kernel, rfl⟩
theorem dX9_judge_133 : D1 cX9_judge 133 (.iload 5) 2 135 := ⟨by decide +kernel, rfl⟩
theorem dX9_judge_135 : DJ cX9_judge 135 (.ifCond .eq) 138 142 := ⟨7, by decide +kernel, rfl, by decide⟩
theorem dX9_judge_138 : D1 cX9_judge 138 (.iconst 0) 1 139 := ⟨by decide +kernel, rfl⟩
theorem dX9_judge_139 : DJ cX9_judge 139 .goto 142 146 := ⟨7, by decide +kernel, rfl, by decide⟩
theorem dX9_judge_142 : D1 cX9_judge 142 (.iconst 1) 1 143 := ⟨by decide +kernel, rfl⟩
theorem dX9_judge_143 : D1 cX9_judge 143 (.iload 4) 2 145 := ⟨by decide +kernel, rfl⟩
theorem dX9_judge_145 : D1 cX9_judge 145 (.iadd) 1 146 := ⟨by decide +kernel, rfl⟩
theorem dX9_judge_146 : D1 cX9_judge 146 (.ireturn) 1 147 := ⟨by decide +kernel, rfl⟩
theorem dX9_image_0 : D1 cX9_image 0 (.iconst 0) 1 1 := ⟨by decide +kernel, rfl⟩
theorem dX9_image_1 : D1 cX9_image 1 (.istore_n 1) 1 2 := ⟨by decide +kernel, rfl⟩
theorem dX9_image_2 : D1 cX9_image 2 (.iload_n 1) 1 3 := ⟨by decide +kernel, rfl⟩
theorem dX9_image_3 : D1 cX9_image 3 (.bipush 73) 2 5 := ⟨by decide +kernel, rfl⟩
theorem dX9_image_5 : DJ cX9_image 5 (.if_icmp .ge) 8 26 := ⟨21, by decide +kernel, rfl, by decide⟩
theorem dX9_image_8 : D1 cX9_image 8 (.aload_n 0) 1 9 := ⟨by decide +kernel, rfl⟩
theorem dX9_image_9 : D1 cX9_image 9 (.getfield 13) 3 12 := ⟨by decide +kernel, rfl⟩
theorem dX9_image_12 : D1 cX9_image 12 (.iload_n 1) 1 13 := ⟨by decide +kernel, rfl⟩
theorem dX9_image_13 : D1 cX9_image 13 (.aload_n 0) 1 14 := ⟨by decide +kernel, rfl⟩
theorem dX9_image_14 : D1 cX9_image 14 (.getfield 7) 3 17 := ⟨by decide +kernel, rfl⟩
theorem dX9_image_17 : D1 cX9_image 17 (.iload_n 1) 1 18 := ⟨by decide +kernel, rfl⟩
theorem dX9_image_18 : D1 cX9_image 18 (.iaload) 1 19 := ⟨by decide +kernel, rfl⟩
theorem dX9_image_19 : D1 cX9_image 19 (.iastore) 1 20 := ⟨by decide +kernel, rfl⟩
theorem dX9_image_20 : D1 cX9_image 20 (.iinc 1 1) 3 23 := ⟨by decide +kernel, rfl⟩
theorem dX9_image_23 : DJ cX9_image 23 .goto 26 2 := ⟨(-21), by decide +kernel, rfl, by decide⟩
theorem dX9_image_26 : D1 cX9_image 26 (.aload_n 0) 1 27 := ⟨by decide +kernel, rfl⟩
theorem dX9_image_27 : D1 cX9_image 27 (.iconst 1) 1 28 := ⟨by decide +kernel, rfl⟩
theorem dX9_image_28 : D1 cX9_image 28 (.putfield 350) 3 31 := ⟨by decide +kernel, rfl⟩
theorem dX9_image_31 : D1 cX9_image 31 (.iconst 1) 1 32 := ⟨by decide +kernel, rfl⟩
theorem dX9_image_32 : D1 cX9_image 32 (.ireturn) 1 33 := ⟨by decide +kernel, rfl⟩
theorem dX9_undo_0 : D1 cX9_undo 0 (.aload_n 0) 1 1 := ⟨by decide +kernel, rfl⟩
theorem dX9_undo_1 : D1 cX9_undo 1 (.getfield 350) 3 4 := ⟨by decide +kernel, rfl⟩
theorem dX9_undo_4 : DJ cX9_undo 4 (.ifCond .ne) 7 14 := ⟨10, by decide +kernel, rfl, by decide⟩
theorem dX9_undo_7 : D1 cX9_undo 7 (.aload_n 0) 1 8 := ⟨by decide +kernel, rfl⟩
theorem dX9_undo_8 : D1 cX9_undo 8 (.ldc 153) 2 10 := ⟨by decide +kernel, rfl⟩
theorem dX9_undo_10 : D1 cX9_undo 10 (.invokevirtual 59) 3 13 := ⟨by decide +kernel, rfl⟩
theorem dX9_undo_13 : D1 cX9_undo 13 (.ireturn) 1 14 := ⟨by decide +kernel, rfl⟩
theorem dX9_undo_14 : D1 cX9_undo 14 (.iconst 0) 1 15 := ⟨by decide +kernel, rfl⟩
theorem dX9_undo_15 : D1 cX9_undo 15 (.istore_n 1) 1 16 := ⟨by decide +kernel, rfl⟩
theorem dX9_undo_16 : D1 cX9_undo 16 (.iload_n 1) 1 17 := ⟨by decide +kernel, rfl⟩
theorem dX9_undo_17 : D1 cX9_undo 17 (.bipush 73) 2 19 := ⟨by decide +kernel, rfl⟩
theorem dX9_undo_19 : DJ cX9_undo 19 (.if_icmp .ge) 22 40 := ⟨21, by decide +kernel, rfl, by decide⟩
theorem dX9_undo_22 : D1 cX9_undo 22 (.aload_n 0) 1 23 := ⟨by decide +kernel, rfl⟩
theorem dX9_undo_23 : D1 cX9_undo 23 (.getfield 7) 3 26 := ⟨by decide +kernel, rfl⟩
theorem dX9_undo_26 : D1 cX9_undo 26 (.iload_n 1) 1 27 := ⟨by decide +kernel, rfl⟩
theorem dX9_undo_27 : D1 cX9_undo 27 (.aload_n 0) 1 28 := ⟨by decide +kernel, rfl⟩
theorem dX9_undo_28 : D1 cX9_undo 28 (.getfield 13) 3 31 := ⟨by decide +kernel, rfl⟩
theorem dX9_undo_31 : D1 cX9_undo 31 (.iload_n 1) 1 32 := ⟨by decide +kernel, rfl⟩
theorem dX9_undo_32 : D1 cX9_undo 32 (.iaload) 1 33 := ⟨by decide +kernel, rfl⟩
theorem dX9_undo_33 : D1 cX9_undo 33 (.iastore) 1 34 := ⟨by decide +kernel, rfl⟩
theorem dX9_undo_34 : D1 cX9_undo 34 (.iinc 1 1) 3 37 := ⟨by decide +kernel, rfl⟩
theorem dX9_undo_37 : DJ cX9_undo 37 .goto 40 16 := ⟨(-21), by decide +kernel, rfl, by decide⟩
theorem dX9_undo_40 : D1 cX9_undo 40 (.aload_n 0) 1 41 := ⟨by decide +kernel, rfl⟩
theorem dX9_undo_41 : D1 cX9_undo 41 (.getfield 7) 3 44 := ⟨by decide +kernel, rfl⟩
theorem dX9_undo_44 : D1 cX9_undo 44 (.iconst 0) 1 45 := ⟨by decide +kernel, rfl⟩
theorem dX9_undo_45 : D1 cX9_undo 45 (.iaload) 1 46 := ⟨by decide +kernel, rfl⟩
theorem dX9_undo_46 : D1 cX9_undo 46 (.ireturn) 1 47 := ⟨by decide +kernel, rfl⟩
theorem dX9_tear_0 : D1 cX9_tear 0 (.aload_n 0) 1 1 := ⟨by decide +kernel, rfl⟩
theorem dX9_tear_1 : D1 cX9_tear 1 (.getfield 350) 3 4 := ⟨by decide +kernel, rfl⟩
theorem dX9_tear_4 : DJ cX9_tear 4 (.ifCond .eq) 7 11 := ⟨7, by decide +kernel, rfl, by decide⟩
theorem dX9_tear_7 : D1 cX9_tear 7 (.iconst 1) 1 8 := ⟨by decide +kernel, rfl⟩
theorem dX9_tear_8 : DJ cX9_tear 8 .goto 11 12 := ⟨4, by decide +kernel, rfl, by decide⟩
theorem dX9_tear_11 : D1 cX9_tear 11 (.iconst 0) 1 12 := ⟨by decide +kernel, rfl⟩
theorem dX9_tear_12 : D1 cX9_tear 12 (.istore_n 1) 1 13 := ⟨by decide +kernel, rfl⟩
theorem dX9_tear_13 : D1 cX9_tear 13 (.aload_n 0) 1 14 := ⟨by decide +kernel, rfl⟩
theorem dX9_tear_14 : D1 cX9_tear 14 (.iconst 0) 1 15 := ⟨by decide +kernel, rfl⟩
theorem dX9_tear_15 : D1 cX9_tear 15 (.putfield 350) 3 18 := ⟨by decide +kernel, rfl⟩
theorem dX9_tear_18 : D1 cX9_tear 18 (.iload_n 1) 1 19 := ⟨by decide +kernel, rfl⟩
theorem dX9_tear_19 : D1 cX9_tear 19 (.ireturn) 1 20 := ⟨by decide +kernel, rfl⟩
theorem dX9_held_0 : D1 cX9_held 0 (.iconst 0) 1 1 := ⟨by decide +kernel, rfl⟩
theorem dX9_held_1 : D1 cX9_held 1 (.istore_n 1) 1 2 := ⟨by decide +kernel, rfl⟩
theorem dX9_held_2 : D1 cX9_held 2 (.iconst 0) 1 3 := ⟨by decide +kernel, rfl⟩
theorem dX9_held_3 : D1 cX9_held 3 (.istore_n 2) 1 4 := ⟨by decide +kernel, rfl⟩
theorem dX9_held_4 : D1 cX9_held 4 (.iload_n 2) 1 5 := ⟨by decide +kernel, rfl⟩
theorem dX9_held_5 : D1 cX9_held 5 (.bipush 10) 2 7 := ⟨by decide +kernel, rfl⟩
theorem dX9_held_7 : DJ cX9_held 7 (.if_icmp .ge) 10 36 := ⟨29, by decide +kernel, rfl, by decide⟩
theorem dX9_held_10 : D1 cX9_held 10 (.iload_n 1) 1 11 := ⟨by decide +kernel, rfl⟩
theorem dX9_held_11 : D1 cX9_held 11 (.aload_n 0) 1 12 := ⟨by decide +kernel, rfl⟩
theorem dX9_held_12 : D1 cX9_held 12 (.getfield 7) 3 15 := ⟨by decide +kernel, rfl⟩
theorem dX9_held_15 : D1 cX9_held 15 (.bipush 63) 2 17 := ⟨by decide +kernel, rfl⟩
theorem dX9_held_17 : D1 cX9_held 17 (.iload_n 2) 1 18 := ⟨by decide +kernel, rfl⟩
theorem dX9_held_18 : D1 cX9_held 18 (.iadd) 1 19 := ⟨by decide +kernel, rfl⟩
theorem dX9_held_19 : D1 cX9_held 19 (.iaload) 1 20 := ⟨by decide +kernel, rfl⟩
theorem dX9_held_20 : DJ cX9_held 20 (.ifCond .ge) 23 27 := ⟨7, by decide +kernel, rfl, by decide⟩
theorem dX9_held_23 : D1 cX9_held 23 (.iconst 0) 1 24 := ⟨by decide +kernel, rfl⟩
theorem dX9_held_24 : DJ cX9_held 24 .goto 27 28 := ⟨4, by decide +kernel, rfl, by decide⟩
theorem dX9_held_27 : D1 cX9_held 27 (.iconst 1) 1 28 := ⟨by decide +kernel, rfl⟩
theorem dX9_held_28 : D1 cX9_held 28 (.iadd) 1 29 := ⟨by decide +kernel, rfl⟩
theorem dX9_held_29 : D1 cX9_held 29 (.istore_n 1) 1 30 := ⟨by decide +kernel, rfl⟩
theorem dX9_held_30 : D1 cX9_held 30 (.iinc 2 1) 3 33 := ⟨by decide +kernel, rfl⟩
theorem dX9_held_33 : DJ cX9_held 33 .goto 36 4 := ⟨(-29), by decide +kernel, rfl, by decide⟩
theorem dX9_held_36 : D1 cX9_held 36 (.iload_n 1) 1 37 := ⟨by decide +kernel, rfl⟩
theorem dX9_held_37 : D1 cX9_held 37 (.ireturn) 1 38 := ⟨by decide +kernel, rfl⟩
theorem dX9_count_0 : D1 cX9_count 0 (.iload_n 1) 1 1 := ⟨by decide +kernel, rfl⟩
theorem dX9_count_1 : decode cX9_count 1 = .ok (.tableswitch 97 0 7 #[47, 54, 61, 67, 73, 79, 84, 92], 47) := by decide +kernel
theorem dX9_count_48 : D1 cX9_count 48 (.aload_n 0) 1 49 := ⟨by decide +kernel, rfl⟩
theorem dX9_count_49 : D1 cX9_count 49 (.getfield 7) 3 52 := ⟨by decide +kernel, rfl⟩
theorem dX9_count_52 : D1 cX9_count 52 (.iconst 0) 1 53 := ⟨by decide +kernel, rfl⟩
theorem dX9_count_53 : D1 cX9_count 53 (.iaload) 1 54 := ⟨by decide +kernel, rfl⟩
theorem dX9_count_54 : D1 cX9_count 54 (.ireturn) 1 55 := ⟨by decide +kernel, rfl⟩
theorem dX9_count_55 : D1 cX9_count 55 (.aload_n 0) 1 56 := ⟨by decide +kernel, rfl⟩
theorem dX9_count_56 : D1 cX9_count 56 (.getfield 7) 3 59 := ⟨by decide +kernel, rfl⟩
theorem dX9_count_59 : D1 cX9_count 59 (.iconst 1) 1 60 := ⟨by decide +kernel, rfl⟩
theorem dX9_count_60 : D1 cX9_count 60 (.iaload) 1 61 := ⟨by decide +kernel, rfl⟩
theorem dX9_count_61 : D1 cX9_count 61 (.ireturn) 1 62 := ⟨by decide +kernel, rfl⟩
theorem dX9_count_62 : D1 cX9_count 62 (.aload_n 0) 1 63 := ⟨by decide +kernel, rfl⟩
theorem dX9_count_63 : D1 cX9_count 63 (.iconst 3) 1 64 := ⟨by decide +kernel, rfl⟩
theorem dX9_count_64 : D1 cX9_count 64 (.invokevirtual 131) 3 67 := ⟨by decide +kernel, rfl⟩
theorem dX9_count_67 : D1 cX9_count 67 (.ireturn) 1 68 := ⟨by decide +kernel, rfl⟩
theorem dX9_count_68 : D1 cX9_count 68 (.aload_n 0) 1 69 := ⟨by decide +kernel, rfl⟩
theorem dX9_count_69 : D1 cX9_count 69 (.iconst 5) 1 70 := ⟨by decide +kernel, rfl⟩
theorem dX9_count_70 : D1 cX9_count 70 (.invokevirtual 131) 3 73 := ⟨by decide +kernel, rfl⟩
theorem dX9_count_73 : D1 cX9_count 73 (.ireturn) 1 74 := ⟨by decide +kernel, rfl⟩
theorem dX9_count_74 : D1 cX9_count 74 (.aload_n 0) 1 75 := ⟨by decide +kernel, rfl⟩
theorem dX9_count_75 : D1 cX9_count 75 (.iconst 1) 1 76 := ⟨by decide +kernel, rfl⟩
theorem dX9_count_76 : D1 cX9_count 76 (.invokevirtual 131) 3 79 := ⟨by decide +kernel, rfl⟩
theorem dX9_count_79 : D1 cX9_count 79 (.ireturn) 1 80 := ⟨by decide +kernel, rfl⟩
theorem dX9_count_80 : D1 cX9_count 80 (.aload_n 0) 1 81 := ⟨by decide +kernel, rfl⟩
theorem dX9_count_81 : D1 cX9_count 81 (.getfield 241) 3 84 := ⟨by decide +kernel, rfl⟩
theorem dX9_count_84 : D1 cX9_count 84 (.ireturn) 1 85 := ⟨by decide +kernel, rfl⟩
theorem dX9_count_85 : D1 cX9_count 85 (.aload_n 0) 1 86 := ⟨by decide +kernel, rfl⟩
theorem dX9_count_86 : D1 cX9_count 86 (.getfield 7) 3 89 := ⟨by decide +kernel, rfl⟩
theorem dX9_count_89 : D1 cX9_count 89 (.bipush 7) 2 91 := ⟨by decide +kernel, rfl⟩
theorem dX9_count_91 : D1 cX9_count 91 (.iaload) 1 92 := ⟨by decide +kernel, rfl⟩
theorem dX9_count_92 : D1 cX9_count 92 (.ireturn) 1 93 := ⟨by decide +kernel, rfl⟩
theorem dX9_count_93 : D1 cX9_count 93 (.aload_n 0) 1 94 := ⟨by decide +kernel, rfl⟩
theorem dX9_count_94 : D1 cX9_count 94 (.invokevirtual 353) 3 97 := ⟨by decide +kernel, rfl⟩
theorem dX9_count_97 : D1 cX9_count 97 (.ireturn) 1 98 := ⟨by decide +kernel, rfl⟩
theorem dX9_count_98 : D1 cX9_count 98 (.aload_n 0) 1 99 := ⟨by decide +kernel, rfl⟩
theorem dX9_count_99 : D1 cX9_count 99 (.ldc 47) 2 101 := ⟨by decide +kernel, rfl⟩
theorem dX9_count_101 : D1 cX9_count 101 (.invokevirtual 59) 3 104 := ⟨by decide +kernel, rfl⟩
theorem dX9_count_104 : D1 cX9_count 104 (.ireturn) 1 105 := ⟨by decide +kernel, rfl⟩
theorem dX9_status_0 : D1 cX9_status 0 (.iload_n 1) 1 1 := ⟨by decide +kernel, rfl⟩
theorem dX9_status_1 : D1 cX9_status 1 (.i2l) 1 2 := ⟨by decide +kernel, rfl⟩
theorem dX9_status_2 : D1 cX9_status 2 (.ldc2_w 356) 3 5 := ⟨by decide +kernel, rfl⟩
theorem dX9_status_5 : D1 cX9_status 5 (.ldc2_w 57) 3 8 := ⟨by decide +kernel, rfl⟩
theorem dX9_status_8 : D1 cX9_status 8 (.invokestatic 48) 3 11 := ⟨by decide +kernel, rfl⟩
theorem dX9_status_11 : DJ cX9_status 11 (.ifCond .ne) 14 21 := ⟨10, by decide +kernel, rfl, by decide⟩
theorem dX9_status_14 : D1 cX9_status 14 (.aload_n 0) 1 15 := ⟨by decide +kernel, rfl⟩
theorem dX9_status_15 : D1 cX9_status 15 (.ldc 47) 2 17 := ⟨by decide +kernel, rfl⟩
theorem dX9_status_17 : D1 cX9_status 17 (.invokevirtual 59) 3 20 := ⟨by decide +kernel, rfl⟩
theorem dX9_status_20 : D1 cX9_status 20 (.ireturn) 1 21 := ⟨by decide +kernel, rfl⟩
theorem dX9_status_21 : D1 cX9_status 21 (.iconst 0) 1 22 := ⟨by decide +kernel, rfl⟩
theorem dX9_status_22 : D1 cX9_status 22 (.istore_n 2) 1 23 := ⟨by decide +kernel, rfl⟩
theorem dX9_status_23 : D1 cX9_status 23 (.iconst 0) 1 24 := ⟨by decide +kernel, rfl⟩
theorem dX9_status_24 : D1 cX9_status 24 (.istore_n 3) 1 25 := ⟨by decide +kernel, rfl⟩
theorem dX9_status_25 : D1 cX9_status 25 (.iload_n 3) 1 26 := ⟨by decide +kernel, rfl⟩
theorem dX9_status_26 : D1 cX9_status 26 (.bipush 7) 2 28 := ⟨by decide +kernel, rfl⟩
theorem dX9_status_28 : DJ cX9_status 28 (.if_icmp .ge) 31 59 := ⟨31, by decide +kernel, rfl, by decide⟩
theorem dX9_status_31 : D1 cX9_status 31 (.iload_n 2) 1 32 := ⟨by decide +kernel, rfl⟩
theorem dX9_status_32 : D1 cX9_status 32 (.iload_n 1) 1 33 := ⟨by decide +kernel, rfl⟩
theorem dX9_status_33 : DJ cX9_status 33 (.ifCond .lt) 36 41 := ⟨8, by decide +kernel, rfl, by decide⟩
theorem dX9_status_36 : D1 cX9_status 36 (.iload_n 3) 1 37 := ⟨by decide +kernel, rfl⟩
theorem dX9_status_37 : D1 cX9_status 37 (.iload_n 1) 1 38 := ⟨by decide +kernel, rfl⟩
theorem dX9_status_38 : DJ cX9_status 38 (.if_icmp .ne) 41 50 := ⟨12, by decide +kernel, rfl, by decide⟩
theorem dX9_status_41 : D1 cX9_status 41 (.aload_n 0) 1 42 := ⟨by decide +kernel, rfl⟩
theorem dX9_status_42 : D1 cX9_status 42 (.getfield 19) 3 45 := ⟨by decide +kernel, rfl⟩
theorem dX9_status_45 : D1 cX9_status 45 (.iload_n 3) 1 46 := ⟨by decide +kernel, rfl⟩
theorem dX9_status_46 : D1 cX9_status 46 (.iaload) 1 47 := ⟨by decide +kernel, rfl⟩
theorem dX9_status_47 : DJ cX9_status 47 .goto 50 51 := ⟨4, by decide +kernel, rfl, by decide⟩
theorem dX9_status_50 : D1 cX9_status 50 (.iconst 0) 1 51 := ⟨by decide +kernel, rfl⟩
theorem dX9_status_51 : D1 cX9_status 51 (.iadd) 1 52 := ⟨by decide +kernel, rfl⟩
theorem dX9_status_52 : D1 cX9_status 52 (.istore_n 2) 1 53 := ⟨by decide +kernel, rfl⟩
theorem dX9_status_53 : D1 cX9_status 53 (.iinc 3 1) 3 56 := ⟨by decide +kernel, rfl⟩
theorem dX9_status_56 : DJ cX9_status 56 .goto 59 25 := ⟨(-31), by decide +kernel, rfl, by decide⟩
theorem dX9_status_59 : D1 cX9_status 59 (.iload_n 2) 1 60 := ⟨by decide +kernel, rfl⟩
theorem dX9_status_60 : D1 cX9_status 60 (.ireturn) 1 61 := ⟨by decide +kernel, rfl⟩
end
section
set_option maxRecDepth 20000 in
theorem dlaw_0 : D1 code 0 (.new 7) 3 3 := ⟨by decide +kernel, rfl⟩
set_option maxRecDepth 20000 in
theorem dlaw_3 : D1 code 3 (.dup) 1 4 := ⟨by decide +kernel, rfl⟩
set_option maxRecDepth 20000 in
theorem dlaw_4 : D1 code 4 (.invokespecial 9) 3 7 := ⟨by decide +kernel, rfl⟩
set_option maxRecDepth 20000 in
theorem dlaw_7 : D1 code 7 (.astore_n 1) 1 8 := ⟨by decide +kernel, rfl⟩
set_option maxRecDepth 20000 in
theorem dlaw_8 : D1 code 8 (.new 10) 3 11 := ⟨by decide +kernel, rfl⟩
set_option maxRecDepth 20000 in
theorem dlaw_11 : D1 code 11 (.dup) 1 12 := ⟨by decide +kernel, rfl⟩
set_option maxRecDepth 20000 in
theorem dlaw_12 : D1 code 12 (.invokespecial 12) 3 15 := ⟨by decide +kernel, rfl⟩
set_option maxRecDepth 20000 in
theorem dlaw_15 : D1 code 15 (.astore_n 2) 1 16 := ⟨by decide +kernel, rfl⟩
set_option maxRecDepth 20000 in
theorem dlaw_16 : D1 code 16 (.iconst 0) 1 17 := ⟨by decide +kernel, rfl⟩
set_option maxRecDepth 20000 in
theorem dlaw_17 : D1 code 17 (.istore_n 3) 1 18 := ⟨by decide +kernel, rfl⟩
set_option maxRecDepth 20000 in
theorem dlaw_18 : D1 code 18 (.iload_n 3) 1 19 := ⟨by decide +kernel, rfl⟩
set_option maxRecDepth 20000 in
theorem dlaw_19 : D1 code 19 (.aload_n 0) 1 20 := ⟨by decide +kernel, rfl⟩
set_option maxRecDepth 20000 in
theorem dlaw_20 : D1 code 20 (.arraylength) 1 21 := ⟨by decide +kernel, rfl⟩
set_option maxRecDepth 20000 in
theorem dlaw_21 : D1 code 21 (.bipush 6) 2 23 := ⟨by decide +kernel, rfl⟩
set_option maxRecDepth 20000 in
theorem dlaw_23 : D1 code 23 (.isub) 1 24 := ⟨by decide +kernel, rfl⟩
set_option maxRecDepth 20000 in
theorem dlaw_24 : DJ code 24 (.if_icmp .gt) 27 1496 := ⟨1472, by decide +kernel, rfl, by decide⟩
set_option maxRecDepth 20000 in
theorem dlaw_27 : D1 code 27 (.aload_n 0) 1 28 := ⟨by decide +kernel, rfl⟩
set_option maxRecDepth 20000 in
theorem dlaw_28 : D1 code 28 (.iload_n 3) 1 29 := ⟨by decide +kernel, rfl⟩
set_option maxRecDepth 20000 in
theorem dlaw_29 : D1 code 29 (.iaload) 1 30 := ⟨by decide +kernel, rfl⟩
set_option maxRecDepth 20000 in
theorem dlaw_30 : D1 code 30 (.bipush 63) 2 32 := ⟨by decide +kernel, rfl⟩
set_option maxRecDepth 20000 in
theorem dlaw_32 : D1 code 32 (.iand) 1 33 := ⟨by decide +kernel, rfl⟩
set_option maxRecDepth 20000 in
theorem dlaw_33 : decode code 33 = .ok (.tableswitch 1457 0 45 #[199, 222, 255, 298, 331, 364, 407, 440, 463, 486, 509, 542, 565, 588, 611, 634, 667, 700, 733, 756, 789, 812, 835, 858, 881, 894, 917, 930, 953, 976, 1009, 1022, 1035, 1068, 1101, 1144, 1187, 1250, 1273, 1306, 1339, 1372, 1385, 1398, 1411, 1434], 199) := by decide +kernel
set_option maxRecDepth 20000 in
theorem dlaw_232 : D1 code 232 (.aload_n 1) 1 233 := ⟨by decide +kernel, rfl⟩
set_option maxRecDepth 20000 in
theorem dlaw_233 : D1 code 233 (.aload_n 0) 1 234 := ⟨by decide +kernel, rfl⟩
set_option maxRecDepth 20000 in
theorem dlaw_234 : D1 code 234 (.iload_n 3) 1 235 := ⟨by decide +kernel, rfl⟩
set_option maxRecDepth 20000 in
theorem dlaw_235 : D1 code 235 (.iconst 1) 1 236 := ⟨by decide +kernel, rfl⟩
set_option maxRecDepth 20000 in
theorem dlaw_236 : D1 code 236 (.iadd) 1 237 := ⟨by decide +kernel, rfl⟩
set_option maxRecDepth 20000 in
theorem dlaw_237 : D1 code 237 (.iaload) 1 238 := ⟨by decide +kernel, rfl⟩
set_option maxRecDepth 20000 in
theorem dlaw_238 : D1 code 238 (.invokevirtual 13) 3 241 := ⟨by decide +kernel, rfl⟩
set_option maxRecDepth 20000 in
theorem dlaw_241 : D1 code 241 (.aload_n 2) 1 242 := ⟨by decide +kernel, rfl⟩
set_option maxRecDepth 20000 in
theorem dlaw_242 : D1 code 242 (.aload_n 0) 1 243 := ⟨by decide +kernel, rfl⟩
set_option maxRecDepth 20000 in
theorem dlaw_243 : D1 code 243 (.iload_n 3) 1 244 := ⟨by decide +kernel, rfl⟩
set_option maxRecDepth 20000 in
theorem dlaw_244 : D1 code 244 (.iconst 1) 1 245 := ⟨by decide +kernel, rfl⟩
set_option maxRecDepth 20000 in
theorem dlaw_245 : D1 code 245 (.iadd) 1 246 := ⟨by decide +kernel, rfl⟩
set_option maxRecDepth 20000 in
theorem dlaw_246 : D1 code 246 (.iaload) 1 247 := ⟨by decide +kernel, rfl⟩
set_option maxRecDepth 20000 in
theorem dlaw_247 : D1 code 247 (.invokevirtual 17) 3 250 := ⟨by decide +kernel, rfl⟩
set_option maxRecDepth 20000 in
theorem dlaw_250 : DJ code 250 (.if_icmp .eq) 253 1490 := ⟨1240, by decide +kernel, rfl, by decide⟩
set_option maxRecDepth 20000 in
theorem dlaw_253 : D1 code 253 (.iconst 0) 1 254 := ⟨by decide +kernel, rfl⟩
set_option maxRecDepth 20000 in
theorem dlaw_254 : D1 code 254 (.ireturn) 1 255 := ⟨by decide +kernel, rfl⟩
set_option maxRecDepth 20000 in
theorem dlaw_255 : D1 code 255 (.aload_n 1) 1 256 := ⟨by decide +kernel, rfl⟩
set_option maxRecDepth 20000 in
theorem dlaw_256 : D1 code 256 (.aload_n 0) 1 257 := ⟨by decide +kernel, rfl⟩
set_option maxRecDepth 20000 in
theorem dlaw_257 : D1 code 257 (.iload_n 3) 1 258 := ⟨by decide +kernel, rfl⟩
set_option maxRecDepth 20000 in
theorem dlaw_258 : D1 code 258 (.iconst 1) 1 259 := ⟨by decide +kernel, rfl⟩
set_option maxRecDepth 20000 in
theorem dlaw_259 : D1 code 259 (.iadd) 1 260 := ⟨by decide +kernel, rfl⟩
set_option maxRecDepth 20000 in
theorem dlaw_260 : D1 code 260 (.iaload) 1 261 := ⟨by decide +kernel, rfl⟩
set_option maxRecDepth 20000 in
theorem dlaw_261 : D1 code 261 (.aload_n 0) 1 262 := ⟨by decide +kernel, rfl⟩
set_option maxRecDepth 20000 in
theorem dlaw_262 : D1 code 262 (.iload_n 3) 1 263 := ⟨by decide +kernel, rfl⟩
set_option maxRecDepth 20000 in
theorem dlaw_263 : D1 code 263 (.iconst 2) 1 264 := ⟨by decide +kernel, rfl⟩
set_option maxRecDepth 20000 in
theorem dlaw_264 : D1 code 264 (.iadd) 1 265 := ⟨by decide +kernel, rfl⟩
set_option maxRecDepth 20000 in
theorem dlaw_265 : D1 code 265 (.iaload) 1 266 := ⟨by decide +kernel, rfl⟩
set_option maxRecDepth 20000 in
theorem dlaw_266 : D1 code 266 (.invokevirtual 18) 3 269 := ⟨by decide +kernel, rfl⟩
set_option maxRecDepth 20000 in
theorem dlaw_269 : D1 code 269 (.aload_n 2) 1 270 := ⟨by decide +kernel, rfl⟩
set_option maxRecDepth 20000 in
theorem dlaw_270 : D1 code 270 (.aload_n 0) 1 271 := ⟨by decide +kernel, rfl⟩
set_option maxRecDepth 20000 in
theorem dlaw_271 : D1 code 271 (.iload_n 3) 1 272 := ⟨by decide +kernel, rfl⟩
set_option maxRecDepth 20000 in
theorem dlaw_272 : D1 code 272 (.iconst 1) 1 273 := ⟨by decide +kernel, rfl⟩
set_option maxRecDepth 20000 in
theorem dlaw_273 : D1 code 273 (.iadd) 1 274 := ⟨by decide +kernel, rfl⟩
set_option maxRecDepth 20000 in
theorem dlaw_274 : D1 code 274 (.iaload) 1 275 := ⟨by decide +kernel, rfl⟩
set_option maxRecDepth 20000 in
theorem dlaw_275 : D1 code 275 (.aload_n 0) 1 276 := ⟨by decide +kernel, rfl⟩
set_option maxRecDepth 20000 in
theorem dlaw_276 : D1 code 276 (.iload_n 3) 1 277 := ⟨by decide +kernel, rfl⟩
set_option maxRecDepth 20000 in
theorem dlaw_277 : D1 code 277 (.iconst 2) 1 278 := ⟨by decide +kernel, rfl⟩
set_option maxRecDepth 20000 in
theorem dlaw_278 : D1 code 278 (.iadd) 1 279 := ⟨by decide +kernel, rfl⟩
set_option maxRecDepth 20000 in
theorem dlaw_279 : D1 code 279 (.iaload) 1 280 := ⟨by decide +kernel, rfl⟩
set_option maxRecDepth 20000 in
theorem dlaw_280 : D1 code 280 (.invokevirtual 22) 3 283 := ⟨by decide +kernel, rfl⟩
set_option maxRecDepth 20000 in
theorem dlaw_283 : DJ code 283 (.if_icmp .eq) 286 1490 := ⟨1207, by decide +kernel, rfl, by decide⟩
set_option maxRecDepth 20000 in
theorem dlaw_286 : D1 code 286 (.iconst 0) 1 287 := ⟨by decide +kernel, rfl⟩
set_option maxRecDepth 20000 in
theorem dlaw_287 : D1 code 287 (.ireturn) 1 288 := ⟨by decide +kernel, rfl⟩
set_option maxRecDepth 20000 in
theorem dlaw_288 : D1 code 288 (.aload_n 1) 1 289 := ⟨by decide +kernel, rfl⟩
set_option maxRecDepth 20000 in
theorem dlaw_289 : D1 code 289 (.aload_n 0) 1 290 := ⟨by decide +kernel, rfl⟩
set_option maxRecDepth 20000 in
theorem dlaw_290 : D1 code 290 (.iload_n 3) 1 291 := ⟨by decide +kernel, rfl⟩
set_option maxRecDepth 20000 in
theorem dlaw_291 : D1 code 291 (.iconst 1) 1 292 := ⟨by decide +kernel, rfl⟩
set_option maxRecDepth 20000 in
theorem dlaw_292 : D1 code 292 (.iadd) 1 293 := ⟨by decide +kernel, rfl⟩
set_option maxRecDepth 20000 in
theorem dlaw_293 : D1 code 293 (.iaload) 1 294 := ⟨by decide +kernel, rfl⟩
set_option maxRecDepth 20000 in
theorem dlaw_294 : D1 code 294 (.aload_n 0) 1 295 := ⟨by decide +kernel, rfl⟩
set_option maxRecDepth 20000 in
theorem dlaw_295 : D1 code 295 (.iload_n 3) 1 296 := ⟨by decide +kernel, rfl⟩
set_option maxRecDepth 20000 in
theorem dlaw_296 : D1 code 296 (.iconst 2) 1 297 := ⟨by decide +kernel, rfl⟩
set_option maxRecDepth 20000 in
theorem dlaw_297 : D1 code 297 (.iadd) 1 298 := ⟨by decide +kernel, rfl⟩
set_option maxRecDepth 20000 in
theorem dlaw_298 : D1 code 298 (.iaload) 1 299 := ⟨by decide +kernel, rfl⟩
set_option maxRecDepth 20000 in
theorem dlaw_299 : D1 code 299 (.aload_n 0) 1 300 := ⟨by decide +kernel, rfl⟩
set_option maxRecDepth 20000 in
theorem dlaw_300 : D1 code 300 (.iload_n 3) 1 301 := ⟨by decide +kernel, rfl⟩
set_option maxRecDepth 20000 in
theorem dlaw_301 : D1 code 301 (.iconst 3) 1 302 := ⟨by decide +kernel, rfl⟩
set_option maxRecDepth 20000 in
theorem dlaw_302 : D1 code 302 (.iadd) 1 303 := ⟨by decide +kernel, rfl⟩
set_option maxRecDepth 20000 in
theorem dlaw_303 : D1 code 303 (.iaload) 1 304 := ⟨by decide +kernel, rfl⟩
set_option maxRecDepth 20000 in
theorem dlaw_304 : D1 code 304 (.invokevirtual 23) 3 307 := ⟨by decide +kernel, rfl⟩
set_option maxRecDepth 20000 in
theorem dlaw_307 : D1 code 307 (.aload_n 2) 1 308 := ⟨by decide +kernel, rfl⟩
set_option maxRecDepth 20000 in
theorem dlaw_308 : D1 code 308 (.aload_n 0) 1 309 := ⟨by decide +kernel, rfl⟩
set_option maxRecDepth 20000 in
theorem dlaw_309 : D1 code 309 (.iload_n 3) 1 310 := ⟨by decide +kernel, rfl⟩
set_option maxRecDepth 20000 in
theorem dlaw_310 : D1 code 310 (.iconst 1) 1 311 := ⟨by decide +kernel, rfl⟩
set_option maxRecDepth 20000 in
theorem dlaw_311 : D1 code 311 (.iadd) 1 312 := ⟨by decide +kernel, rfl⟩
set_option maxRecDepth 20000 in
theorem dlaw_312 : D1 code 312 (.iaload) 1 313 := ⟨by decide +kernel, rfl⟩
set_option maxRecDepth 20000 in
theorem dlaw_313 : D1 code 313 (.aload_n 0) 1 314 := ⟨by decide +kernel, rfl⟩
set_option maxRecDepth 20000 in
theorem dlaw_314 : D1 code 314 (.iload_n 3) 1 315 := ⟨by decide +kernel, rfl⟩
set_option maxRecDepth 20000 in
theorem dlaw_315 : D1 code 315 (.iconst 2) 1 316 := ⟨by decide +kernel, rfl⟩
set_option maxRecDepth 20000 in
theorem dlaw_316 : D1 code 316 (.iadd) 1 317 := ⟨by decide +kernel, rfl⟩
set_option maxRecDepth 20000 in
theorem dlaw_317 : D1 code 317 (.iaload) 1 318 := ⟨by decide +kernel, rfl⟩
set_option maxRecDepth 20000 in
theorem dlaw_318 : D1 code 318 (.aload_n 0) 1 319 := ⟨by decide +kernel, rfl⟩
set_option maxRecDepth 20000 in
theorem dlaw_319 : D1 code 319 (.iload_n 3) 1 320 := ⟨by decide +kernel, rfl⟩
set_option maxRecDepth 20000 in
theorem dlaw_320 : D1 code 320 (.iconst 3) 1 321 := ⟨by decide +kernel, rfl⟩
set_option maxRecDepth 20000 in
theorem dlaw_321 : D1 code 321 (.iadd) 1 322 := ⟨by decide +kernel, rfl⟩
set_option maxRecDepth 20000 in
theorem dlaw_322 : D1 code 322 (.iaload) 1 323 := ⟨by decide +kernel, rfl⟩
set_option maxRecDepth 20000 in
theorem dlaw_323 : D1 code 323 (.invokevirtual 27) 3 326 := ⟨by decide +kernel, rfl⟩
set_option maxRecDepth 20000 in
theorem dlaw_326 : DJ code 326 (.if_icmp .eq) 329 1490 := ⟨1164, by decide +kernel, rfl, by decide⟩
set_option maxRecDepth 20000 in
theorem dlaw_329 : D1 code 329 (.iconst 0) 1 330 := ⟨by decide +kernel, rfl⟩
set_option maxRecDepth 20000 in
theorem dlaw_330 : D1 code 330 (.ireturn) 1 331 := ⟨by decide +kernel, rfl⟩
set_option maxRecDepth 20000 in
theorem dlaw_331 : D1 code 331 (.aload_n 1) 1 332 := ⟨by decide +kernel, rfl⟩
set_option maxRecDepth 20000 in
theorem dlaw_332 : D1 code 332 (.aload_n 0) 1 333 := ⟨by decide +kernel, rfl⟩
set_option maxRecDepth 20000 in
theorem dlaw_333 : D1 code 333 (.iload_n 3) 1 334 := ⟨by decide +kernel, rfl⟩
set_option maxRecDepth 20000 in
theorem dlaw_334 : D1 code 334 (.iconst 1) 1 335 := ⟨by decide +kernel, rfl⟩
set_option maxRecDepth 20000 in
theorem dlaw_335 : D1 code 335 (.iadd) 1 336 := ⟨by decide +kernel, rfl⟩
set_option maxRecDepth 20000 in
theorem dlaw_336 : D1 code 336 (.iaload) 1 337 := ⟨by decide +kernel, rfl⟩
set_option maxRecDepth 20000 in
theorem dlaw_337 : D1 code 337 (.aload_n 0) 1 338 := ⟨by decide +kernel, rfl⟩
set_option maxRecDepth 20000 in
theorem dlaw_338 : D1 code 338 (.iload_n 3) 1 339 := ⟨by decide +kernel, rfl⟩
set_option maxRecDepth 20000 in
theorem dlaw_339 : D1 code 339 (.iconst 2) 1 340 := ⟨by decide +kernel, rfl⟩
set_option maxRecDepth 20000 in
theorem dlaw_340 : D1 code 340 (.iadd) 1 341 := ⟨by decide +kernel, rfl⟩
set_option maxRecDepth 20000 in
theorem dlaw_341 : D1 code 341 (.iaload) 1 342 := ⟨by decide +kernel, rfl⟩
set_option maxRecDepth 20000 in
theorem dlaw_342 : D1 code 342 (.invokevirtual 28) 3 345 := ⟨by decide +kernel, rfl⟩
set_option maxRecDepth 20000 in
theorem dlaw_345 : D1 code 345 (.aload_n 2) 1 346 := ⟨by decide +kernel, rfl⟩
set_option maxRecDepth 20000 in
theorem dlaw_346 : D1 code 346 (.aload_n 0) 1 347 := ⟨by decide +kernel, rfl⟩
set_option maxRecDepth 20000 in
theorem dlaw_347 : D1 code 347 (.iload_n 3) 1 348 := ⟨by decide +kernel, rfl⟩
set_option maxRecDepth 20000 in
theorem dlaw_348 : D1 code 348 (.iconst 1) 1 349 := ⟨by decide +kernel, rfl⟩
set_option maxRecDepth 20000 in
theorem dlaw_349 : D1 code 349 (.iadd) 1 350 := ⟨by decide +kernel, rfl⟩
set_option maxRecDepth 20000 in
theorem dlaw_350 : D1 code 350 (.iaload) 1 351 := ⟨by decide +kernel, rfl⟩
set_option maxRecDepth 20000 in
theorem dlaw_351 : D1 code 351 (.aload_n 0) 1 352 := ⟨by decide +kernel, rfl⟩
set_option maxRecDepth 20000 in
theorem dlaw_352 : D1 code 352 (.iload_n 3) 1 353 := ⟨by decide +kernel, rfl⟩
set_option maxRecDepth 20000 in
theorem dlaw_353 : D1 code 353 (.iconst 2) 1 354 := ⟨by decide +kernel, rfl⟩
set_option maxRecDepth 20000 in
theorem dlaw_354 : D1 code 354 (.iadd) 1 355 := ⟨by decide +kernel, rfl⟩
set_option maxRecDepth 20000 in
theorem dlaw_355 : D1 code 355 (.iaload) 1 356 := ⟨by decide +kernel, rfl⟩
set_option maxRecDepth 20000 in
theorem dlaw_356 : D1 code 356 (.invokevirtual 31) 3 359 := ⟨by decide +kernel, rfl⟩
set_option maxRecDepth 20000 in
theorem dlaw_359 : DJ code 359 (.if_icmp .eq) 362 1490 := ⟨1131, by decide +kernel, rfl, by decide⟩
set_option maxRecDepth 20000 in
theorem dlaw_362 : D1 code 362 (.iconst 0) 1 363 := ⟨by decide +kernel, rfl⟩
set_option maxRecDepth 20000 in
theorem dlaw_363 : D1 code 363 (.ireturn) 1 364 := ⟨by decide +kernel, rfl⟩
set_option maxRecDepth 20000 in
theorem dlaw_364 : D1 code 364 (.aload_n 1) 1 365 := ⟨by decide +kernel, rfl⟩
set_option maxRecDepth 20000 in
theorem dlaw_365 : D1 code 365 (.aload_n 0) 1 366 := ⟨by decide +kernel, rfl⟩
set_option maxRecDepth 20000 in
theorem dlaw_366 : D1 code 366 (.iload_n 3) 1 367 := ⟨by decide +kernel, rfl⟩
set_option maxRecDepth 20000 in
theorem dlaw_367 : D1 code 367 (.iconst 1) 1 368 := ⟨by decide +kernel, rfl⟩
set_option maxRecDepth 20000 in
theorem dlaw_368 : D1 code 368 (.iadd) 1 369 := ⟨by decide +kernel, rfl⟩
set_option maxRecDepth 20000 in
theorem dlaw_369 : D1 code 369 (.iaload) 1 370 := ⟨by decide +kernel, rfl⟩
set_option maxRecDepth 20000 in
theorem dlaw_370 : D1 code 370 (.aload_n 0) 1 371 := ⟨by decide +kernel, rfl⟩
set_option maxRecDepth 20000 in
theorem dlaw_371 : D1 code 371 (.iload_n 3) 1 372 := ⟨by decide +kernel, rfl⟩
set_option maxRecDepth 20000 in
theorem dlaw_372 : D1 code 372 (.iconst 2) 1 373 := ⟨by decide +kernel, rfl⟩
set_option maxRecDepth 20000 in
theorem dlaw_373 : D1 code 373 (.iadd) 1 374 := ⟨by decide +kernel, rfl⟩
set_option maxRecDepth 20000 in
theorem dlaw_374 : D1 code 374 (.iaload) 1 375 := ⟨by decide +kernel, rfl⟩
set_option maxRecDepth 20000 in
theorem dlaw_375 : D1 code 375 (.invokevirtual 32) 3 378 := ⟨by decide +kernel, rfl⟩
set_option maxRecDepth 20000 in
theorem dlaw_378 : D1 code 378 (.aload_n 2) 1 379 := ⟨by decide +kernel, rfl⟩
set_option maxRecDepth 20000 in
theorem dlaw_379 : D1 code 379 (.aload_n 0) 1 380 := ⟨by decide +kernel, rfl⟩
set_option maxRecDepth 20000 in
theorem dlaw_380 : D1 code 380 (.iload_n 3) 1 381 := ⟨by decide +kernel, rfl⟩
set_option maxRecDepth 20000 in
theorem dlaw_381 : D1 code 381 (.iconst 1) 1 382 := ⟨by decide +kernel, rfl⟩
set_option maxRecDepth 20000 in
theorem dlaw_382 : D1 code 382 (.iadd) 1 383 := ⟨by decide +kernel, rfl⟩
set_option maxRecDepth 20000 in
theorem dlaw_383 : D1 code 383 (.iaload) 1 384 := ⟨by decide +kernel, rfl⟩
set_option maxRecDepth 20000 in
theorem dlaw_384 : D1 code 384 (.aload_n 0) 1 385 := ⟨by decide +kernel, rfl⟩
set_option maxRecDepth 20000 in
theorem dlaw_385 : D1 code 385 (.iload_n 3) 1 386 := ⟨by decide +kernel, rfl⟩
set_option maxRecDepth 20000 in
theorem dlaw_386 : D1 code 386 (.iconst 2) 1 387 := ⟨by decide +kernel, rfl⟩
set_option maxRecDepth 20000 in
theorem dlaw_387 : D1 code 387 (.iadd) 1 388 := ⟨by decide +kernel, rfl⟩
set_option maxRecDepth 20000 in
theorem dlaw_388 : D1 code 388 (.iaload) 1 389 := ⟨by decide +kernel, rfl⟩
set_option maxRecDepth 20000 in
theorem dlaw_389 : D1 code 389 (.invokevirtual 35) 3 392 := ⟨by decide +kernel, rfl⟩
set_option maxRecDepth 20000 in
theorem dlaw_392 : DJ code 392 (.if_icmp .eq) 395 1490 := ⟨1098, by decide +kernel, rfl, by decide⟩
set_option maxRecDepth 20000 in
theorem dlaw_395 : D1 code 395 (.iconst 0) 1 396 := ⟨by decide +kernel, rfl⟩
set_option maxRecDepth 20000 in
theorem dlaw_396 : D1 code 396 (.ireturn) 1 397 := ⟨by decide +kernel, rfl⟩
set_option maxRecDepth 20000 in
theorem dlaw_397 : D1 code 397 (.aload_n 1) 1 398 := ⟨by decide +kernel, rfl⟩
set_option maxRecDepth 20000 in
theorem dlaw_398 : D1 code 398 (.aload_n 0) 1 399 := ⟨by decide +kernel, rfl⟩
set_option maxRecDepth 20000 in
theorem dlaw_399 : D1 code 399 (.iload_n 3) 1 400 := ⟨by decide +kernel, rfl⟩
set_option maxRecDepth 20000 in
theorem dlaw_400 : D1 code 400 (.iconst 1) 1 401 := ⟨by decide +kernel, rfl⟩
set_option maxRecDepth 20000 in
theorem dlaw_401 : D1 code 401 (.iadd) 1 402 := ⟨by decide +kernel, rfl⟩
set_option maxRecDepth 20000 in
theorem dlaw_402 : D1 code 402 (.iaload) 1 403 := ⟨by decide +kernel, rfl⟩
set_option maxRecDepth 20000 in
theorem dlaw_403 : D1 code 403 (.aload_n 0) 1 404 := ⟨by decide +kernel, rfl⟩
set_option maxRecDepth 20000 in
theorem dlaw_404 : D1 code 404 (.iload_n 3) 1 405 := ⟨by decide +kernel, rfl⟩
set_option maxRecDepth 20000 in
theorem dlaw_405 : D1 code 405 (.iconst 2) 1 406 := ⟨by decide +kernel, rfl⟩
set_option maxRecDepth 20000 in
theorem dlaw_406 : D1 code 406 (.iadd) 1 407 := ⟨by decide +kernel, rfl⟩
set_option maxRecDepth 20000 in
theorem dlaw_407 : D1 code 407 (.iaload) 1 408 := ⟨by decide +kernel, rfl⟩
set_option maxRecDepth 20000 in
theorem dlaw_408 : D1 code 408 (.aload_n 0) 1 409 := ⟨by decide +kernel, rfl⟩
set_option maxRecDepth 20000 in
theorem dlaw_409 : D1 code 409 (.iload_n 3) 1 410 := ⟨by decide +kernel, rfl⟩
set_option maxRecDepth 20000 in
theorem dlaw_410 : D1 code 410 (.iconst 3) 1 411 := ⟨by decide +kernel, rfl⟩
set_option maxRecDepth 20000 in
theorem dlaw_411 : D1 code 411 (.iadd) 1 412 := ⟨by decide +kernel, rfl⟩
set_option maxRecDepth 20000 in
theorem dlaw_412 : D1 code 412 (.iaload) 1 413 := ⟨by decide +kernel, rfl⟩
set_option maxRecDepth 20000 in
theorem dlaw_413 : D1 code 413 (.invokevirtual 36) 3 416 := ⟨by decide +kernel, rfl⟩
set_option maxRecDepth 20000 in
theorem dlaw_416 : D1 code 416 (.aload_n 2) 1 417 := ⟨by decide +kernel, rfl⟩
set_option maxRecDepth 20000 in
theorem dlaw_417 : D1 code 417 (.aload_n 0) 1 418 := ⟨by decide +kernel, rfl⟩
set_option maxRecDepth 20000 in
theorem dlaw_418 : D1 code 418 (.iload_n 3) 1 419 := ⟨by decide +kernel, rfl⟩
set_option maxRecDepth 20000 in
theorem dlaw_419 : D1 code 419 (.iconst 1) 1 420 := ⟨by decide +kernel, rfl⟩
set_option maxRecDepth 20000 in
theorem dlaw_420 : D1 code 420 (.iadd) 1 421 := ⟨by decide +kernel, rfl⟩
set_option maxRecDepth 20000 in
theorem dlaw_421 : D1 code 421 (.iaload) 1 422 := ⟨by decide +kernel, rfl⟩
set_option maxRecDepth 20000 in
theorem dlaw_422 : D1 code 422 (.aload_n 0) 1 423 := ⟨by decide +kernel, rfl⟩
set_option maxRecDepth 20000 in
theorem dlaw_423 : D1 code 423 (.iload_n 3) 1 424 := ⟨by decide +kernel, rfl⟩
set_option maxRecDepth 20000 in
theorem dlaw_424 : D1 code 424 (.iconst 2) 1 425 := ⟨by decide +kernel, rfl⟩
set_option maxRecDepth 20000 in
theorem dlaw_425 : D1 code 425 (.iadd) 1 426 := ⟨by decide +kernel, rfl⟩
set_option maxRecDepth 20000 in
theorem dlaw_426 : D1 code 426 (.iaload) 1 427 := ⟨by decide +kernel, rfl⟩
set_option maxRecDepth 20000 in
theorem dlaw_427 : D1 code 427 (.aload_n 0) 1 428 := ⟨by decide +kernel, rfl⟩
set_option maxRecDepth 20000 in
theorem dlaw_428 : D1 code 428 (.iload_n 3) 1 429 := ⟨by decide +kernel, rfl⟩
set_option maxRecDepth 20000 in
theorem dlaw_429 : D1 code 429 (.iconst 3) 1 430 := ⟨by decide +kernel, rfl⟩
set_option maxRecDepth 20000 in
theorem dlaw_430 : D1 code 430 (.iadd) 1 431 := ⟨by decide +kernel, rfl⟩
set_option maxRecDepth 20000 in
theorem dlaw_431 : D1 code 431 (.iaload) 1 432 := ⟨by decide +kernel, rfl⟩
set_option maxRecDepth 20000 in
theorem dlaw_432 : D1 code 432 (.invokevirtual 39) 3 435 := ⟨by decide +kernel, rfl⟩
set_option maxRecDepth 20000 in
theorem dlaw_435 : DJ code 435 (.if_icmp .eq) 438 1490 := ⟨1055, by decide +kernel, rfl, by decide⟩
set_option maxRecDepth 20000 in
theorem dlaw_438 : D1 code 438 (.iconst 0) 1 439 := ⟨by decide +kernel, rfl⟩
set_option maxRecDepth 20000 in
theorem dlaw_439 : D1 code 439 (.ireturn) 1 440 := ⟨by decide +kernel, rfl⟩
set_option maxRecDepth 20000 in
theorem dlaw_440 : D1 code 440 (.aload_n 1) 1 441 := ⟨by decide +kernel, rfl⟩
set_option maxRecDepth 20000 in
theorem dlaw_441 : D1 code 441 (.aload_n 0) 1 442 := ⟨by decide +kernel, rfl⟩
set_option maxRecDepth 20000 in
theorem dlaw_442 : D1 code 442 (.iload_n 3) 1 443 := ⟨by decide +kernel, rfl⟩
set_option maxRecDepth 20000 in
theorem dlaw_443 : D1 code 443 (.iconst 1) 1 444 := ⟨by decide +kernel, rfl⟩
set_option maxRecDepth 20000 in
theorem dlaw_444 : D1 code 444 (.iadd) 1 445 := ⟨by decide +kernel, rfl⟩
set_option maxRecDepth 20000 in
theorem dlaw_445 : D1 code 445 (.iaload) 1 446 := ⟨by decide +kernel, rfl⟩
set_option maxRecDepth 20000 in
theorem dlaw_446 : D1 code 446 (.aload_n 0) 1 447 := ⟨by decide +kernel, rfl⟩
set_option maxRecDepth 20000 in
theorem dlaw_447 : D1 code 447 (.iload_n 3) 1 448 := ⟨by decide +kernel, rfl⟩
set_option maxRecDepth 20000 in
theorem dlaw_448 : D1 code 448 (.iconst 2) 1 449 := ⟨by decide +kernel, rfl⟩
set_option maxRecDepth 20000 in
theorem dlaw_449 : D1 code 449 (.iadd) 1 450 := ⟨by decide +kernel, rfl⟩
set_option maxRecDepth 20000 in
theorem dlaw_450 : D1 code 450 (.iaload) 1 451 := ⟨by decide +kernel, rfl⟩
set_option maxRecDepth 20000 in
theorem dlaw_451 : D1 code 451 (.invokevirtual 40) 3 454 := ⟨by decide +kernel, rfl⟩
set_option maxRecDepth 20000 in
theorem dlaw_454 : D1 code 454 (.aload_n 2) 1 455 := ⟨by decide +kernel, rfl⟩
set_option maxRecDepth 20000 in
theorem dlaw_455 : D1 code 455 (.aload_n 0) 1 456 := ⟨by decide +kernel, rfl⟩
set_option maxRecDepth 20000 in
theorem dlaw_456 : D1 code 456 (.iload_n 3) 1 457 := ⟨by decide +kernel, rfl⟩
set_option maxRecDepth 20000 in
theorem dlaw_457 : D1 code 457 (.iconst 1) 1 458 := ⟨by decide +kernel, rfl⟩
set_option maxRecDepth 20000 in
theorem dlaw_458 : D1 code 458 (.iadd) 1 459 := ⟨by decide +kernel, rfl⟩
set_option maxRecDepth 20000 in
theorem dlaw_459 : D1 code 459 (.iaload) 1 460 := ⟨by decide +kernel, rfl⟩
set_option maxRecDepth 20000 in
theorem dlaw_460 : D1 code 460 (.aload_n 0) 1 461 := ⟨by decide +kernel, rfl⟩
set_option maxRecDepth 20000 in
theorem dlaw_461 : D1 code 461 (.iload_n 3) 1 462 := ⟨by decide +kernel, rfl⟩
set_option maxRecDepth 20000 in
theorem dlaw_462 : D1 code 462 (.iconst 2) 1 463 := ⟨by decide +kernel, rfl⟩
set_option maxRecDepth 20000 in
theorem dlaw_463 : D1 code 463 (.iadd) 1 464 := ⟨by decide +kernel, rfl⟩
set_option maxRecDepth 20000 in
theorem dlaw_464 : D1 code 464 (.iaload) 1 465 := ⟨by decide +kernel, rfl⟩
set_option maxRecDepth 20000 in
theorem dlaw_465 : D1 code 465 (.invokevirtual 43) 3 468 := ⟨by decide +kernel, rfl⟩
set_option maxRecDepth 20000 in
theorem dlaw_468 : DJ code 468 (.if_icmp .eq) 471 1490 := ⟨1022, by decide +kernel, rfl, by decide⟩
set_option maxRecDepth 20000 in
theorem dlaw_471 : D1 code 471 (.iconst 0) 1 472 := ⟨by decide +kernel, rfl⟩
set_option maxRecDepth 20000 in
theorem dlaw_472 : D1 code 472 (.ireturn) 1 473 := ⟨by decide +kernel, rfl⟩
set_option maxRecDepth 20000 in
theorem dlaw_473 : D1 code 473 (.aload_n 1) 1 474 := ⟨by decide +kernel, rfl⟩
set_option maxRecDepth 20000 in
theorem dlaw_474 : D1 code 474 (.aload_n 0) 1 475 := ⟨by decide +kernel, rfl⟩
set_option maxRecDepth 20000 in
theorem dlaw_475 : D1 code 475 (.iload_n 3) 1 476 := ⟨by decide +kernel, rfl⟩
set_option maxRecDepth 20000 in
theorem dlaw_476 : D1 code 476 (.iconst 1) 1 477 := ⟨by decide +kernel, rfl⟩
set_option maxRecDepth 20000 in
theorem dlaw_477 : D1 code 477 (.iadd) 1 478 := ⟨by decide +kernel, rfl⟩
set_option maxRecDepth 20000 in
theorem dlaw_478 : D1 code 478 (.iaload) 1 479 := ⟨by decide +kernel, rfl⟩
set_option maxRecDepth 20000 in
theorem dlaw_479 : D1 code 479 (.invokevirtual 44) 3 482 := ⟨by decide +kernel, rfl⟩
set_option maxRecDepth 20000 in
theorem dlaw_482 : D1 code 482 (.aload_n 2) 1 483 := ⟨by decide +kernel, rfl⟩
set_option maxRecDepth 20000 in
theorem dlaw_483 : D1 code 483 (.aload_n 0) 1 484 := ⟨by decide +kernel, rfl⟩
set_option maxRecDepth 20000 in
theorem dlaw_484 : D1 code 484 (.iload_n 3) 1 485 := ⟨by decide +kernel, rfl⟩
set_option maxRecDepth 20000 in
theorem dlaw_485 : D1 code 485 (.iconst 1) 1 486 := ⟨by decide +kernel, rfl⟩
set_option maxRecDepth 20000 in
theorem dlaw_486 : D1 code 486 (.iadd) 1 487 := ⟨by decide +kernel, rfl⟩
set_option maxRecDepth 20000 in
theorem dlaw_487 : D1 code 487 (.iaload) 1 488 := ⟨by decide +kernel, rfl⟩
set_option maxRecDepth 20000 in
theorem dlaw_488 : D1 code 488 (.invokevirtual 47) 3 491 := ⟨by decide +kernel, rfl⟩
set_option maxRecDepth 20000 in
theorem dlaw_491 : DJ code 491 (.if_icmp .eq) 494 1490 := ⟨999, by decide +kernel, rfl, by decide⟩
set_option maxRecDepth 20000 in
theorem dlaw_494 : D1 code 494 (.iconst 0) 1 495 := ⟨by decide +kernel, rfl⟩
set_option maxRecDepth 20000 in
theorem dlaw_495 : D1 code 495 (.ireturn) 1 496 := ⟨by decide +kernel, rfl⟩
set_option maxRecDepth 20000 in
theorem dlaw_496 : D1 code 496 (.aload_n 1) 1 497 := ⟨by decide +kernel, rfl⟩
set_option maxRecDepth 20000 in
theorem dlaw_497 : D1 code 497 (.aload_n 0) 1 498 := ⟨by decide +kernel, rfl⟩
set_option maxRecDepth 20000 in
theorem dlaw_498 : D1 code 498 (.iload_n 3) 1 499 := ⟨by decide +kernel, rfl⟩
set_option maxRecDepth 20000 in
theorem dlaw_499 : D1 code 499 (.iconst 1) 1 500 := ⟨by decide +kernel, rfl⟩
set_option maxRecDepth 20000 in
theorem dlaw_500 : D1 code 500 (.iadd) 1 501 := ⟨by decide +kernel, rfl⟩
set_option maxRecDepth 20000 in
theorem dlaw_501 : D1 code 501 (.iaload) 1 502 := ⟨by decide +kernel, rfl⟩
set_option maxRecDepth 20000 in
theorem dlaw_502 : D1 code 502 (.invokevirtual 48) 3 505 := ⟨by decide +kernel, rfl⟩
set_option maxRecDepth 20000 in
theorem dlaw_505 : D1 code 505 (.aload_n 2) 1 506 := ⟨by decide +kernel, rfl⟩
set_option maxRecDepth 20000 in
theorem dlaw_506 : D1 code 506 (.aload_n 0) 1 507 := ⟨by decide +kernel, rfl⟩
set_option maxRecDepth 20000 in
theorem dlaw_507 : D1 code 507 (.iload_n 3) 1 508 := ⟨by decide +kernel, rfl⟩
set_option maxRecDepth 20000 in
theorem dlaw_508 : D1 code 508 (.iconst 1) 1 509 := ⟨by decide +kernel, rfl⟩
set_option maxRecDepth 20000 in
theorem dlaw_509 : D1 code 509 (.iadd) 1 510 := ⟨by decide +kernel, rfl⟩
set_option maxRecDepth 20000 in
theorem dlaw_510 : D1 code 510 (.iaload) 1 511 := ⟨by decide +kernel, rfl⟩
set_option maxRecDepth 20000 in
theorem dlaw_511 : D1 code 511 (.invokevirtual 51) 3 514 := ⟨by decide +kernel, rfl⟩
set_option maxRecDepth 20000 in
theorem dlaw_514 : DJ code 514 (.if_icmp .eq) 517 1490 := ⟨976, by decide +kernel, rfl, by decide⟩
set_option maxRecDepth 20000 in
theorem dlaw_517 : D1 code 517 (.iconst 0) 1 518 := ⟨by decide +kernel, rfl⟩
set_option maxRecDepth 20000 in
theorem dlaw_518 : D1 code 518 (.ireturn) 1 519 := ⟨by decide +kernel, rfl⟩
set_option maxRecDepth 20000 in
theorem dlaw_519 : D1 code 519 (.aload_n 1) 1 520 := ⟨by decide +kernel, rfl⟩
set_option maxRecDepth 20000 in
theorem dlaw_520 : D1 code 520 (.aload_n 0) 1 521 := ⟨by decide +kernel, rfl⟩
set_option maxRecDepth 20000 in
theorem dlaw_521 : D1 code 521 (.iload_n 3) 1 522 := ⟨by decide +kernel, rfl⟩
set_option maxRecDepth 20000 in
theorem dlaw_522 : D1 code 522 (.iconst 1) 1 523 := ⟨by decide +kernel, rfl⟩
set_option maxRecDepth 20000 in
theorem dlaw_523 : D1 code 523 (.iadd) 1 524 := ⟨by decide +kernel, rfl⟩
set_option maxRecDepth 20000 in
theorem dlaw_524 : D1 code 524 (.iaload) 1 525 := ⟨by decide +kernel, rfl⟩
set_option maxRecDepth 20000 in
theorem dlaw_525 : D1 code 525 (.invokevirtual 52) 3 528 := ⟨by decide +kernel, rfl⟩
set_option maxRecDepth 20000 in
theorem dlaw_528 : D1 code 528 (.aload_n 2) 1 529 := ⟨by decide +kernel, rfl⟩
set_option maxRecDepth 20000 in
theorem dlaw_529 : D1 code 529 (.aload_n 0) 1 530 := ⟨by decide +kernel, rfl⟩
set_option maxRecDepth 20000 in
theorem dlaw_530 : D1 code 530 (.iload_n 3) 1 531 := ⟨by decide +kernel, rfl⟩
set_option maxRecDepth 20000 in
theorem dlaw_531 : D1 code 531 (.iconst 1) 1 532 := ⟨by decide +kernel, rfl⟩
set_option maxRecDepth 20000 in
theorem dlaw_532 : D1 code 532 (.iadd) 1 533 := ⟨by decide +kernel, rfl⟩
set_option maxRecDepth 20000 in
theorem dlaw_533 : D1 code 533 (.iaload) 1 534 := ⟨by decide +kernel, rfl⟩
set_option maxRecDepth 20000 in
theorem dlaw_534 : D1 code 534 (.invokevirtual 55) 3 537 := ⟨by decide +kernel, rfl⟩
set_option maxRecDepth 20000 in
theorem dlaw_537 : DJ code 537 (.if_icmp .eq) 540 1490 := ⟨953, by decide +kernel, rfl, by decide⟩
set_option maxRecDepth 20000 in
theorem dlaw_540 : D1 code 540 (.iconst 0) 1 541 := ⟨by decide +kernel, rfl⟩
set_option maxRecDepth 20000 in
theorem dlaw_541 : D1 code 541 (.ireturn) 1 542 := ⟨by decide +kernel, rfl⟩
set_option maxRecDepth 20000 in
theorem dlaw_542 : D1 code 542 (.aload_n 1) 1 543 := ⟨by decide +kernel, rfl⟩
set_option maxRecDepth 20000 in
theorem dlaw_543 : D1 code 543 (.aload_n 0) 1 544 := ⟨by decide +kernel, rfl⟩
set_option maxRecDepth 20000 in
theorem dlaw_544 : D1 code 544 (.iload_n 3) 1 545 := ⟨by decide +kernel, rfl⟩
set_option maxRecDepth 20000 in
theorem dlaw_545 : D1 code 545 (.iconst 1) 1 546 := ⟨by decide +kernel, rfl⟩
set_option maxRecDepth 20000 in
theorem dlaw_546 : D1 code 546 (.iadd) 1 547 := ⟨by decide +kernel, rfl⟩
set_option maxRecDepth 20000 in
theorem dlaw_547 : D1 code 547 (.iaload) 1 548 := ⟨by decide +kernel, rfl⟩
set_option maxRecDepth 20000 in
theorem dlaw_548 : D1 code 548 (.aload_n 0) 1 549 := ⟨by decide +kernel, rfl⟩
set_option maxRecDepth 20000 in
theorem dlaw_549 : D1 code 549 (.iload_n 3) 1 550 := ⟨by decide +kernel, rfl⟩
set_option maxRecDepth 20000 in
theorem dlaw_550 : D1 code 550 (.iconst 2) 1 551 := ⟨by decide +kernel, rfl⟩
set_option maxRecDepth 20000 in
theorem dlaw_551 : D1 code 551 (.iadd) 1 552 := ⟨by decide +kernel, rfl⟩
set_option maxRecDepth 20000 in
theorem dlaw_552 : D1 code 552 (.iaload) 1 553 := ⟨by decide +kernel, rfl⟩
set_option maxRecDepth 20000 in
theorem dlaw_553 : D1 code 553 (.invokevirtual 56) 3 556 := ⟨by decide +kernel, rfl⟩
set_option maxRecDepth 20000 in
theorem dlaw_556 : D1 code 556 (.aload_n 2) 1 557 := ⟨by decide +kernel, rfl⟩
set_option maxRecDepth 20000 in
theorem dlaw_557 : D1 code 557 (.aload_n 0) 1 558 := ⟨by decide +kernel, rfl⟩
set_option maxRecDepth 20000 in
theorem dlaw_558 : D1 code 558 (.iload_n 3) 1 559 := ⟨by decide +kernel, rfl⟩
set_option maxRecDepth 20000 in
theorem dlaw_559 : D1 code 559 (.iconst 1) 1 560 := ⟨by decide +kernel, rfl⟩
set_option maxRecDepth 20000 in
theorem dlaw_560 : D1 code 560 (.iadd) 1 561 := ⟨by decide +kernel, rfl⟩
set_option maxRecDepth 20000 in
theorem dlaw_561 : D1 code 561 (.iaload) 1 562 := ⟨by decide +kernel, rfl⟩
set_option maxRecDepth 20000 in
theorem dlaw_562 : D1 code 562 (.aload_n 0) 1 563 := ⟨by decide +kernel, rfl⟩
set_option maxRecDepth 20000 in
theorem dlaw_563 : D1 code 563 (.iload_n 3) 1 564 := ⟨by decide +kernel, rfl⟩
set_option maxRecDepth 20000 in
theorem dlaw_564 : D1 code 564 (.iconst 2) 1 565 := ⟨by decide +kernel, rfl⟩
set_option maxRecDepth 20000 in
theorem dlaw_565 : D1 code 565 (.iadd) 1 566 := ⟨by decide +kernel, rfl⟩
set_option maxRecDepth 20000 in
theorem dlaw_566 : D1 code 566 (.iaload) 1 567 := ⟨by decide +kernel, rfl⟩
set_option maxRecDepth 20000 in
theorem dlaw_567 : D1 code 567 (.invokevirtual 59) 3 570 := ⟨by decide +kernel, rfl⟩
set_option maxRecDepth 20000 in
theorem dlaw_570 : DJ code 570 (.if_icmp .eq) 573 1490 := ⟨920, by decide +kernel, rfl, by decide⟩
set_option maxRecDepth 20000 in
theorem dlaw_573 : D1 code 573 (.iconst 0) 1 574 := ⟨by decide +kernel, rfl⟩
set_option maxRecDepth 20000 in
theorem dlaw_574 : D1 code 574 (.ireturn) 1 575 := ⟨by decide +kernel, rfl⟩
set_option maxRecDepth 20000 in
theorem dlaw_575 : D1 code 575 (.aload_n 1) 1 576 := ⟨by decide +kernel, rfl⟩
set_option maxRecDepth 20000 in
theorem dlaw_576 : D1 code 576 (.aload_n 0) 1 577 := ⟨by decide +kernel, rfl⟩
set_option maxRecDepth 20000 in
theorem dlaw_577 : D1 code 577 (.iload_n 3) 1 578 := ⟨by decide +kernel, rfl⟩
set_option maxRecDepth 20000 in
theorem dlaw_578 : D1 code 578 (.iconst 1) 1 579 := ⟨by decide +kernel, rfl⟩
set_option maxRecDepth 20000 in
theorem dlaw_579 : D1 code 579 (.iadd) 1 580 := ⟨by decide +kernel, rfl⟩
set_option maxRecDepth 20000 in
theorem dlaw_580 : D1 code 580 (.iaload) 1 581 := ⟨by decide +kernel, rfl⟩
set_option maxRecDepth 20000 in
theorem dlaw_581 : D1 code 581 (.invokevirtual 60) 3 584 := ⟨by decide +kernel, rfl⟩
set_option maxRecDepth 20000 in
theorem dlaw_584 : D1 code 584 (.aload_n 2) 1 585 := ⟨by decide +kernel, rfl⟩
set_option maxRecDepth 20000 in
theorem dlaw_585 : D1 code 585 (.aload_n 0) 1 586 := ⟨by decide +kernel, rfl⟩
set_option maxRecDepth 20000 in
theorem dlaw_586 : D1 code 586 (.iload_n 3) 1 587 := ⟨by decide +kernel, rfl⟩
set_option maxRecDepth 20000 in
theorem dlaw_587 : D1 code 587 (.iconst 1) 1 588 := ⟨by decide +kernel, rfl⟩
set_option maxRecDepth 20000 in
theorem dlaw_588 : D1 code 588 (.iadd) 1 589 := ⟨by decide +kernel, rfl⟩
set_option maxRecDepth 20000 in
theorem dlaw_589 : D1 code 589 (.iaload) 1 590 := ⟨by decide +kernel, rfl⟩
set_option maxRecDepth 20000 in
theorem dlaw_590 : D1 code 590 (.invokevirtual 63) 3 593 := ⟨by decide +kernel, rfl⟩
set_option maxRecDepth 20000 in
theorem dlaw_593 : DJ code 593 (.if_icmp .eq) 596 1490 := ⟨897, by decide +kernel, rfl, by decide⟩
set_option maxRecDepth 20000 in
theorem dlaw_596 : D1 code 596 (.iconst 0) 1 597 := ⟨by decide +kernel, rfl⟩
set_option maxRecDepth 20000 in
theorem dlaw_597 : D1 code 597 (.ireturn) 1 598 := ⟨by decide +kernel, rfl⟩
set_option maxRecDepth 20000 in
theorem dlaw_598 : D1 code 598 (.aload_n 1) 1 599 := ⟨by decide +kernel, rfl⟩
set_option maxRecDepth 20000 in
theorem dlaw_599 : D1 code 599 (.aload_n 0) 1 600 := ⟨by decide +kernel, rfl⟩
set_option maxRecDepth 20000 in
theorem dlaw_600 : D1 code 600 (.iload_n 3) 1 601 := ⟨by decide +kernel, rfl⟩
set_option maxRecDepth 20000 in
theorem dlaw_601 : D1 code 601 (.iconst 1) 1 602 := ⟨by decide +kernel, rfl⟩
set_option maxRecDepth 20000 in
theorem dlaw_602 : D1 code 602 (.iadd) 1 603 := ⟨by decide +kernel, rfl⟩
set_option maxRecDepth 20000 in
theorem dlaw_603 : D1 code 603 (.iaload) 1 604 := ⟨by decide +kernel, rfl⟩
set_option maxRecDepth 20000 in
theorem dlaw_604 : D1 code 604 (.invokevirtual 64) 3 607 := ⟨by decide +kernel, rfl⟩
set_option maxRecDepth 20000 in
theorem dlaw_607 : D1 code 607 (.aload_n 2) 1 608 := ⟨by decide +kernel, rfl⟩
set_option maxRecDepth 20000 in
theorem dlaw_608 : D1 code 608 (.aload_n 0) 1 609 := ⟨by decide +kernel, rfl⟩
set_option maxRecDepth 20000 in
theorem dlaw_609 : D1 code 609 (.iload_n 3) 1 610 := ⟨by decide +kernel, rfl⟩
set_option maxRecDepth 20000 in
theorem dlaw_610 : D1 code 610 (.iconst 1) 1 611 := ⟨by decide +kernel, rfl⟩
set_option maxRecDepth 20000 in
theorem dlaw_611 : D1 code 611 (.iadd) 1 612 := ⟨by decide +kernel, rfl⟩
set_option maxRecDepth 20000 in
theorem dlaw_612 : D1 code 612 (.iaload) 1 613 := ⟨by decide +kernel, rfl⟩
set_option maxRecDepth 20000 in
theorem dlaw_613 : D1 code 613 (.invokevirtual 67) 3 616 := ⟨by decide +kernel, rfl⟩
set_option maxRecDepth 20000 in
theorem dlaw_616 : DJ code 616 (.if_icmp .eq) 619 1490 := ⟨874, by decide +kernel, rfl, by decide⟩
set_option maxRecDepth 20000 in
theorem dlaw_619 : D1 code 619 (.iconst 0) 1 620 := ⟨by decide +kernel, rfl⟩
set_option maxRecDepth 20000 in
theorem dlaw_620 : D1 code 620 (.ireturn) 1 621 := ⟨by decide +kernel, rfl⟩
set_option maxRecDepth 20000 in
theorem dlaw_621 : D1 code 621 (.aload_n 1) 1 622 := ⟨by decide +kernel, rfl⟩
set_option maxRecDepth 20000 in
theorem dlaw_622 : D1 code 622 (.aload_n 0) 1 623 := ⟨by decide +kernel, rfl⟩
set_option maxRecDepth 20000 in
theorem dlaw_623 : D1 code 623 (.iload_n 3) 1 624 := ⟨by decide +kernel, rfl⟩
set_option maxRecDepth 20000 in
theorem dlaw_624 : D1 code 624 (.iconst 1) 1 625 := ⟨by decide +kernel, rfl⟩
set_option maxRecDepth 20000 in
theorem dlaw_625 : D1 code 625 (.iadd) 1 626 := ⟨by decide +kernel, rfl⟩
set_option maxRecDepth 20000 in
theorem dlaw_626 : D1 code 626 (.iaload) 1 627 := ⟨by decide +kernel, rfl⟩
set_option maxRecDepth 20000 in
theorem dlaw_627 : D1 code 627 (.invokevirtual 68) 3 630 := ⟨by decide +kernel, rfl⟩
set_option maxRecDepth 20000 in
theorem dlaw_630 : D1 code 630 (.aload_n 2) 1 631 := ⟨by decide +kernel, rfl⟩
set_option maxRecDepth 20000 in
theorem dlaw_631 : D1 code 631 (.aload_n 0) 1 632 := ⟨by decide +kernel, rfl⟩
set_option maxRecDepth 20000 in
theorem dlaw_632 : D1 code 632 (.iload_n 3) 1 633 := ⟨by decide +kernel, rfl⟩
set_option maxRecDepth 20000 in
theorem dlaw_633 : D1 code 633 (.iconst 1) 1 634 := ⟨by decide +kernel, rfl⟩
set_option maxRecDepth 20000 in
theorem dlaw_634 : D1 code 634 (.iadd) 1 635 := ⟨by decide +kernel, rfl⟩
set_option maxRecDepth 20000 in
theorem dlaw_635 : D1 code 635 (.iaload) 1 636 := ⟨by decide +kernel, rfl⟩
set_option maxRecDepth 20000 in
theorem dlaw_636 : D1 code 636 (.invokevirtual 71) 3 639 := ⟨by decide +kernel, rfl⟩
set_option maxRecDepth 20000 in
theorem dlaw_639 : DJ code 639 (.if_icmp .eq) 642 1490 := ⟨851, by decide +kernel, rfl, by decide⟩
set_option maxRecDepth 20000 in
theorem dlaw_642 : D1 code 642 (.iconst 0) 1 643 := ⟨by decide +kernel, rfl⟩
set_option maxRecDepth 20000 in
theorem dlaw_643 : D1 code 643 (.ireturn) 1 644 := ⟨by decide +kernel, rfl⟩
set_option maxRecDepth 20000 in
theorem dlaw_644 : D1 code 644 (.aload_n 1) 1 645 := ⟨by decide +kernel, rfl⟩
set_option maxRecDepth 20000 in
theorem dlaw_645 : D1 code 645 (.aload_n 0) 1 646 := ⟨by decide +kernel, rfl⟩
set_option maxRecDepth 20000 in
theorem dlaw_646 : D1 code 646 (.iload_n 3) 1 647 := ⟨by decide +kernel, rfl⟩
set_option maxRecDepth 20000 in
theorem dlaw_647 : D1 code 647 (.iconst 1) 1 648 := ⟨by decide +kernel, rfl⟩
set_option maxRecDepth 20000 in
theorem dlaw_648 : D1 code 648 (.iadd) 1 649 := ⟨by decide +kernel, rfl⟩
set_option maxRecDepth 20000 in
theorem dlaw_649 : D1 code 649 (.iaload) 1 650 := ⟨by decide +kernel, rfl⟩
set_option maxRecDepth 20000 in
theorem dlaw_650 : D1 code 650 (.invokevirtual 72) 3 653 := ⟨by decide +kernel, rfl⟩
set_option maxRecDepth 20000 in
theorem dlaw_653 : D1 code 653 (.aload_n 2) 1 654 := ⟨by decide +kernel, rfl⟩
set_option maxRecDepth 20000 in
theorem dlaw_654 : D1 code 654 (.aload_n 0) 1 655 := ⟨by decide +kernel, rfl⟩
set_option maxRecDepth 20000 in
theorem dlaw_655 : D1 code 655 (.iload_n 3) 1 656 := ⟨by decide +kernel, rfl⟩
set_option maxRecDepth 20000 in
theorem dlaw_656 : D1 code 656 (.iconst 1) 1 657 := ⟨by decide +kernel, rfl⟩
set_option maxRecDepth 20000 in
theorem dlaw_657 : D1 code 657 (.iadd) 1 658 := ⟨by decide +kernel, rfl⟩
set_option maxRecDepth 20000 in
theorem dlaw_658 : D1 code 658 (.iaload) 1 659 := ⟨by decide +kernel, rfl⟩
set_option maxRecDepth 20000 in
theorem dlaw_659 : D1 code 659 (.invokevirtual 75) 3 662 := ⟨by decide +kernel, rfl⟩
set_option maxRecDepth 20000 in
theorem dlaw_662 : DJ code 662 (.if_icmp .eq) 665 1490 := ⟨828, by decide +kernel, rfl, by decide⟩
set_option maxRecDepth 20000 in
theorem dlaw_665 : D1 code 665 (.iconst 0) 1 666 := ⟨by decide +kernel, rfl⟩
set_option maxRecDepth 20000 in
theorem dlaw_666 : D1 code 666 (.ireturn) 1 667 := ⟨by decide +kernel, rfl⟩
set_option maxRecDepth 20000 in
theorem dlaw_667 : D1 code 667 (.aload_n 1) 1 668 := ⟨by decide +kernel, rfl⟩
set_option maxRecDepth 20000 in
theorem dlaw_668 : D1 code 668 (.aload_n 0) 1 669 := ⟨by decide +kernel, rfl⟩
set_option maxRecDepth 20000 in
theorem dlaw_669 : D1 code 669 (.iload_n 3) 1 670 := ⟨by decide +kernel, rfl⟩
set_option maxRecDepth 20000 in
theorem dlaw_670 : D1 code 670 (.iconst 1) 1 671 := ⟨by decide +kernel, rfl⟩
set_option maxRecDepth 20000 in
theorem dlaw_671 : D1 code 671 (.iadd) 1 672 := ⟨by decide +kernel, rfl⟩
set_option maxRecDepth 20000 in
theorem dlaw_672 : D1 code 672 (.iaload) 1 673 := ⟨by decide +kernel, rfl⟩
set_option maxRecDepth 20000 in
theorem dlaw_673 : D1 code 673 (.aload_n 0) 1 674 := ⟨by decide +kernel, rfl⟩
set_option maxRecDepth 20000 in
theorem dlaw_674 : D1 code 674 (.iload_n 3) 1 675 := ⟨by decide +kernel, rfl⟩
set_option maxRecDepth 20000 in
theorem dlaw_675 : D1 code 675 (.iconst 2) 1 676 := ⟨by decide +kernel, rfl⟩
set_option maxRecDepth 20000 in
theorem dlaw_676 : D1 code 676 (.iadd) 1 677 := ⟨by decide +kernel, rfl⟩
set_option maxRecDepth 20000 in
theorem dlaw_677 : D1 code 677 (.iaload) 1 678 := ⟨by decide +kernel, rfl⟩
set_option maxRecDepth 20000 in
theorem dlaw_678 : D1 code 678 (.invokevirtual 76) 3 681 := ⟨by decide +kernel, rfl⟩
set_option maxRecDepth 20000 in
theorem dlaw_681 : D1 code 681 (.aload_n 2) 1 682 := ⟨by decide +kernel, rfl⟩
set_option maxRecDepth 20000 in
theorem dlaw_682 : D1 code 682 (.aload_n 0) 1 683 := ⟨by decide +kernel, rfl⟩
set_option maxRecDepth 20000 in
theorem dlaw_683 : D1 code 683 (.iload_n 3) 1 684 := ⟨by decide +kernel, rfl⟩
set_option maxRecDepth 20000 in
theorem dlaw_684 : D1 code 684 (.iconst 1) 1 685 := ⟨by decide +kernel, rfl⟩
set_option maxRecDepth 20000 in
theorem dlaw_685 : D1 code 685 (.iadd) 1 686 := ⟨by decide +kernel, rfl⟩
set_option maxRecDepth 20000 in
theorem dlaw_686 : D1 code 686 (.iaload) 1 687 := ⟨by decide +kernel, rfl⟩
set_option maxRecDepth 20000 in
theorem dlaw_687 : D1 code 687 (.aload_n 0) 1 688 := ⟨by decide +kernel, rfl⟩
set_option maxRecDepth 20000 in
theorem dlaw_688 : D1 code 688 (.iload_n 3) 1 689 := ⟨by decide +kernel, rfl⟩
set_option maxRecDepth 20000 in
theorem dlaw_689 : D1 code 689 (.iconst 2) 1 690 := ⟨by decide +kernel, rfl⟩
set_option maxRecDepth 20000 in
theorem dlaw_690 : D1 code 690 (.iadd) 1 691 := ⟨by decide +kernel, rfl⟩
set_option maxRecDepth 20000 in
theorem dlaw_691 : D1 code 691 (.iaload) 1 692 := ⟨by decide +kernel, rfl⟩
set_option maxRecDepth 20000 in
theorem dlaw_692 : D1 code 692 (.invokevirtual 79) 3 695 := ⟨by decide +kernel, rfl⟩
set_option maxRecDepth 20000 in
theorem dlaw_695 : DJ code 695 (.if_icmp .eq) 698 1490 := ⟨795, by decide +kernel, rfl, by decide⟩
set_option maxRecDepth 20000 in
theorem dlaw_698 : D1 code 698 (.iconst 0) 1 699 := ⟨by decide +kernel, rfl⟩
set_option maxRecDepth 20000 in
theorem dlaw_699 : D1 code 699 (.ireturn) 1 700 := ⟨by decide +kernel, rfl⟩
set_option maxRecDepth 20000 in
theorem dlaw_700 : D1 code 700 (.aload_n 1) 1 701 := ⟨by decide +kernel, rfl⟩
set_option maxRecDepth 20000 in
theorem dlaw_701 : D1 code 701 (.aload_n 0) 1 702 := ⟨by decide +kernel, rfl⟩
set_option maxRecDepth 20000 in
theorem dlaw_702 : D1 code 702 (.iload_n 3) 1 703 := ⟨by decide +kernel, rfl⟩
set_option maxRecDepth 20000 in
theorem dlaw_703 : D1 code 703 (.iconst 1) 1 704 := ⟨by decide +kernel, rfl⟩
set_option maxRecDepth 20000 in
theorem dlaw_704 : D1 code 704 (.iadd) 1 705 := ⟨by decide +kernel, rfl⟩
set_option maxRecDepth 20000 in
theorem dlaw_705 : D1 code 705 (.iaload) 1 706 := ⟨by decide +kernel, rfl⟩
set_option maxRecDepth 20000 in
theorem dlaw_706 : D1 code 706 (.aload_n 0) 1 707 := ⟨by decide +kernel, rfl⟩
set_option maxRecDepth 20000 in
theorem dlaw_707 : D1 code 707 (.iload_n 3) 1 708 := ⟨by decide +kernel, rfl⟩
set_option maxRecDepth 20000 in
theorem dlaw_708 : D1 code 708 (.iconst 2) 1 709 := ⟨by decide +kernel, rfl⟩
set_option maxRecDepth 20000 in
theorem dlaw_709 : D1 code 709 (.iadd) 1 710 := ⟨by decide +kernel, rfl⟩
set_option maxRecDepth 20000 in
theorem dlaw_710 : D1 code 710 (.iaload) 1 711 := ⟨by decide +kernel, rfl⟩
set_option maxRecDepth 20000 in
theorem dlaw_711 : D1 code 711 (.invokevirtual 80) 3 714 := ⟨by decide +kernel, rfl⟩
set_option maxRecDepth 20000 in
theorem dlaw_714 : D1 code 714 (.aload_n 2) 1 715 := ⟨by decide +kernel, rfl⟩
set_option maxRecDepth 20000 in
theorem dlaw_715 : D1 code 715 (.aload_n 0) 1 716 := ⟨by decide +kernel, rfl⟩
set_option maxRecDepth 20000 in
theorem dlaw_716 : D1 code 716 (.iload_n 3) 1 717 := ⟨by decide +kernel, rfl⟩
set_option maxRecDepth 20000 in
theorem dlaw_717 : D1 code 717 (.iconst 1) 1 718 := ⟨by decide +kernel, rfl⟩
set_option maxRecDepth 20000 in
theorem dlaw_718 : D1 code 718 (.iadd) 1 719 := ⟨by decide +kernel, rfl⟩
set_option maxRecDepth 20000 in
theorem dlaw_719 : D1 code 719 (.iaload) 1 720 := ⟨by decide +kernel, rfl⟩
set_option maxRecDepth 20000 in
theorem dlaw_720 : D1 code 720 (.aload_n 0) 1 721 := ⟨by decide +kernel, rfl⟩
set_option maxRecDepth 20000 in
theorem dlaw_721 : D1 code 721 (.iload_n 3) 1 722 := ⟨by decide +kernel, rfl⟩
set_option maxRecDepth 20000 in
theorem dlaw_722 : D1 code 722 (.iconst 2) 1 723 := ⟨by decide +kernel, rfl⟩
set_option maxRecDepth 20000 in
theorem dlaw_723 : D1 code 723 (.iadd) 1 724 := ⟨by decide +kernel, rfl⟩
set_option maxRecDepth 20000 in
theorem dlaw_724 : D1 code 724 (.iaload) 1 725 := ⟨by decide +kernel, rfl⟩
set_option maxRecDepth 20000 in
theorem dlaw_725 : D1 code 725 (.invokevirtual 83) 3 728 := ⟨by decide +kernel, rfl⟩
set_option maxRecDepth 20000 in
theorem dlaw_728 : DJ code 728 (.if_icmp .eq) 731 1490 := ⟨762, by decide +kernel, rfl, by decide⟩
set_option maxRecDepth 20000 in
theorem dlaw_731 : D1 code 731 (.iconst 0) 1 732 := ⟨by decide +kernel, rfl⟩
set_option maxRecDepth 20000 in
theorem dlaw_732 : D1 code 732 (.ireturn) 1 733 := ⟨by decide +kernel, rfl⟩
set_option maxRecDepth 20000 in
theorem dlaw_733 : D1 code 733 (.aload_n 1) 1 734 := ⟨by decide +kernel, rfl⟩
set_option maxRecDepth 20000 in
theorem dlaw_734 : D1 code 734 (.aload_n 0) 1 735 := ⟨by decide +kernel, rfl⟩
set_option maxRecDepth 20000 in
theorem dlaw_735 : D1 code 735 (.iload_n 3) 1 736 := ⟨by decide +kernel, rfl⟩
set_option maxRecDepth 20000 in
theorem dlaw_736 : D1 code 736 (.iconst 1) 1 737 := ⟨by decide +kernel, rfl⟩
set_option maxRecDepth 20000 in
theorem dlaw_737 : D1 code 737 (.iadd) 1 738 := ⟨by decide +kernel, rfl⟩
set_option maxRecDepth 20000 in
theorem dlaw_738 : D1 code 738 (.iaload) 1 739 := ⟨by decide +kernel, rfl⟩
set_option maxRecDepth 20000 in
theorem dlaw_739 : D1 code 739 (.aload_n 0) 1 740 := ⟨by decide +kernel, rfl⟩
set_option maxRecDepth 20000 in
theorem dlaw_740 : D1 code 740 (.iload_n 3) 1 741 := ⟨by decide +kernel, rfl⟩
set_option maxRecDepth 20000 in
theorem dlaw_741 : D1 code 741 (.iconst 2) 1 742 := ⟨by decide +kernel, rfl⟩
set_option maxRecDepth 20000 in
theorem dlaw_742 : D1 code 742 (.iadd) 1 743 := ⟨by decide +kernel, rfl⟩
set_option maxRecDepth 20000 in
theorem dlaw_743 : D1 code 743 (.iaload) 1 744 := ⟨by decide +kernel, rfl⟩
set_option maxRecDepth 20000 in
theorem dlaw_744 : D1 code 744 (.invokevirtual 84) 3 747 := ⟨by decide +kernel, rfl⟩
set_option maxRecDepth 20000 in
theorem dlaw_747 : D1 code 747 (.aload_n 2) 1 748 := ⟨by decide +kernel, rfl⟩
set_option maxRecDepth 20000 in
theorem dlaw_748 : D1 code 748 (.aload_n 0) 1 749 := ⟨by decide +kernel, rfl⟩
set_option maxRecDepth 20000 in
theorem dlaw_749 : D1 code 749 (.iload_n 3) 1 750 := ⟨by decide +kernel, rfl⟩
set_option maxRecDepth 20000 in
theorem dlaw_750 : D1 code 750 (.iconst 1) 1 751 := ⟨by decide +kernel, rfl⟩
set_option maxRecDepth 20000 in
theorem dlaw_751 : D1 code 751 (.iadd) 1 752 := ⟨by decide +kernel, rfl⟩
set_option maxRecDepth 20000 in
theorem dlaw_752 : D1 code 752 (.iaload) 1 753 := ⟨by decide +kernel, rfl⟩
set_option maxRecDepth 20000 in
theorem dlaw_753 : D1 code 753 (.aload_n 0) 1 754 := ⟨by decide +kernel, rfl⟩
set_option maxRecDepth 20000 in
theorem dlaw_754 : D1 code 754 (.iload_n 3) 1 755 := ⟨by decide +kernel, rfl⟩
set_option maxRecDepth 20000 in
theorem dlaw_755 : D1 code 755 (.iconst 2) 1 756 := ⟨by decide +kernel, rfl⟩
set_option maxRecDepth 20000 in
theorem dlaw_756 : D1 code 756 (.iadd) 1 757 := ⟨by decide +kernel, rfl⟩
set_option maxRecDepth 20000 in
theorem dlaw_757 : D1 code 757 (.iaload) 1 758 := ⟨by decide +kernel, rfl⟩
set_option maxRecDepth 20000 in
theorem dlaw_758 : D1 code 758 (.invokevirtual 87) 3 761 := ⟨by decide +kernel, rfl⟩
set_option maxRecDepth 20000 in
theorem dlaw_761 : DJ code 761 (.if_icmp .eq) 764 1490 := ⟨729, by decide +kernel, rfl, by decide⟩
set_option maxRecDepth 20000 in
theorem dlaw_764 : D1 code 764 (.iconst 0) 1 765 := ⟨by decide +kernel, rfl⟩
set_option maxRecDepth 20000 in
theorem dlaw_765 : D1 code 765 (.ireturn) 1 766 := ⟨by decide +kernel, rfl⟩
set_option maxRecDepth 20000 in
theorem dlaw_766 : D1 code 766 (.aload_n 1) 1 767 := ⟨by decide +kernel, rfl⟩
set_option maxRecDepth 20000 in
theorem dlaw_767 : D1 code 767 (.aload_n 0) 1 768 := ⟨by decide +kernel, rfl⟩
set_option maxRecDepth 20000 in
theorem dlaw_768 : D1 code 768 (.iload_n 3) 1 769 := ⟨by decide +kernel, rfl⟩
set_option maxRecDepth 20000 in
theorem dlaw_769 : D1 code 769 (.iconst 1) 1 770 := ⟨by decide +kernel, rfl⟩
set_option maxRecDepth 20000 in
theorem dlaw_770 : D1 code 770 (.iadd) 1 771 := ⟨by decide +kernel, rfl⟩
set_option maxRecDepth 20000 in
theorem dlaw_771 : D1 code 771 (.iaload) 1 772 := ⟨by decide +kernel, rfl⟩
set_option maxRecDepth 20000 in
theorem dlaw_772 : D1 code 772 (.invokevirtual 88) 3 775 := ⟨by decide +kernel, rfl⟩
set_option maxRecDepth 20000 in
theorem dlaw_775 : D1 code 775 (.aload_n 2) 1 776 := ⟨by decide +kernel, rfl⟩
set_option maxRecDepth 20000 in
theorem dlaw_776 : D1 code 776 (.aload_n 0) 1 777 := ⟨by decide +kernel, rfl⟩
set_option maxRecDepth 20000 in
theorem dlaw_777 : D1 code 777 (.iload_n 3) 1 778 := ⟨by decide +kernel, rfl⟩
set_option maxRecDepth 20000 in
theorem dlaw_778 : D1 code 778 (.iconst 1) 1 779 := ⟨by decide +kernel, rfl⟩
set_option maxRecDepth 20000 in
theorem dlaw_779 : D1 code 779 (.iadd) 1 780 := ⟨by decide +kernel, rfl⟩
set_option maxRecDepth 20000 in
theorem dlaw_780 : D1 code 780 (.iaload) 1 781 := ⟨by decide +kernel, rfl⟩
set_option maxRecDepth 20000 in
theorem dlaw_781 : D1 code 781 (.invokevirtual 91) 3 784 := ⟨by decide +kernel, rfl⟩
set_option maxRecDepth 20000 in
theorem dlaw_784 : DJ code 784 (.if_icmp .eq) 787 1490 := ⟨706, by decide +kernel, rfl, by decide⟩
set_option maxRecDepth 20000 in
theorem dlaw_787 : D1 code 787 (.iconst 0) 1 788 := ⟨by decide +kernel, rfl⟩
set_option maxRecDepth 20000 in
theorem dlaw_788 : D1 code 788 (.ireturn) 1 789 := ⟨by decide +kernel, rfl⟩
set_option maxRecDepth 20000 in
theorem dlaw_789 : D1 code 789 (.aload_n 1) 1 790 := ⟨by decide +kernel, rfl⟩
set_option maxRecDepth 20000 in
theorem dlaw_790 : D1 code 790 (.aload_n 0) 1 791 := ⟨by decide +kernel, rfl⟩
set_option maxRecDepth 20000 in
theorem dlaw_791 : D1 code 791 (.iload_n 3) 1 792 := ⟨by decide +kernel, rfl⟩
set_option maxRecDepth 20000 in
theorem dlaw_792 : D1 code 792 (.iconst 1) 1 793 := ⟨by decide +kernel, rfl⟩
set_option maxRecDepth 20000 in
theorem dlaw_793 : D1 code 793 (.iadd) 1 794 := ⟨by decide +kernel, rfl⟩
set_option maxRecDepth 20000 in
theorem dlaw_794 : D1 code 794 (.iaload) 1 795 := ⟨by decide +kernel, rfl⟩
set_option maxRecDepth 20000 in
theorem dlaw_795 : D1 code 795 (.aload_n 0) 1 796 := ⟨by decide +kernel, rfl⟩
set_option maxRecDepth 20000 in
theorem dlaw_796 : D1 code 796 (.iload_n 3) 1 797 := ⟨by decide +kernel, rfl⟩
set_option maxRecDepth 20000 in
theorem dlaw_797 : D1 code 797 (.iconst 2) 1 798 := ⟨by decide +kernel, rfl⟩
set_option maxRecDepth 20000 in
theorem dlaw_798 : D1 code 798 (.iadd) 1 799 := ⟨by decide +kernel, rfl⟩
set_option maxRecDepth 20000 in
theorem dlaw_799 : D1 code 799 (.iaload) 1 800 := ⟨by decide +kernel, rfl⟩
set_option maxRecDepth 20000 in
theorem dlaw_800 : D1 code 800 (.invokevirtual 92) 3 803 := ⟨by decide +kernel, rfl⟩
set_option maxRecDepth 20000 in
theorem dlaw_803 : D1 code 803 (.aload_n 2) 1 804 := ⟨by decide +kernel, rfl⟩
set_option maxRecDepth 20000 in
theorem dlaw_804 : D1 code 804 (.aload_n 0) 1 805 := ⟨by decide +kernel, rfl⟩
set_option maxRecDepth 20000 in
theorem dlaw_805 : D1 code 805 (.iload_n 3) 1 806 := ⟨by decide +kernel, rfl⟩
set_option maxRecDepth 20000 in
theorem dlaw_806 : D1 code 806 (.iconst 1) 1 807 := ⟨by decide +kernel, rfl⟩
set_option maxRecDepth 20000 in
theorem dlaw_807 : D1 code 807 (.iadd) 1 808 := ⟨by decide +kernel, rfl⟩
set_option maxRecDepth 20000 in
theorem dlaw_808 : D1 code 808 (.iaload) 1 809 := ⟨by decide +kernel, rfl⟩
set_option maxRecDepth 20000 in
theorem dlaw_809 : D1 code 809 (.aload_n 0) 1 810 := ⟨by decide +kernel, rfl⟩
set_option maxRecDepth 20000 in
theorem dlaw_810 : D1 code 810 (.iload_n 3) 1 811 := ⟨by decide +kernel, rfl⟩
set_option maxRecDepth 20000 in
theorem dlaw_811 : D1 code 811 (.iconst 2) 1 812 := ⟨by decide +kernel, rfl⟩
set_option maxRecDepth 20000 in
theorem dlaw_812 : D1 code 812 (.iadd) 1 813 := ⟨by decide +kernel, rfl⟩
set_option maxRecDepth 20000 in
theorem dlaw_813 : D1 code 813 (.iaload) 1 814 := ⟨by decide +kernel, rfl⟩
set_option maxRecDepth 20000 in
theorem dlaw_814 : D1 code 814 (.invokevirtual 95) 3 817 := ⟨by decide +kernel, rfl⟩
set_option maxRecDepth 20000 in
theorem dlaw_817 : DJ code 817 (.if_icmp .eq) 820 1490 := ⟨673, by decide +kernel, rfl, by decide⟩
set_option maxRecDepth 20000 in
theorem dlaw_820 : D1 code 820 (.iconst 0) 1 821 := ⟨by decide +kernel, rfl⟩
set_option maxRecDepth 20000 in
theorem dlaw_821 : D1 code 821 (.ireturn) 1 822 := ⟨by decide +kernel, rfl⟩
set_option maxRecDepth 20000 in
theorem dlaw_822 : D1 code 822 (.aload_n 1) 1 823 := ⟨by decide +kernel, rfl⟩
set_option maxRecDepth 20000 in
theorem dlaw_823 : D1 code 823 (.aload_n 0) 1 824 := ⟨by decide +kernel, rfl⟩
set_option maxRecDepth 20000 in
theorem dlaw_824 : D1 code 824 (.iload_n 3) 1 825 := ⟨by decide +kernel, rfl⟩
set_option maxRecDepth 20000 in
theorem dlaw_825 : D1 code 825 (.iconst 1) 1 826 := ⟨by decide +kernel, rfl⟩
set_option maxRecDepth 20000 in
theorem dlaw_826 : D1 code 826 (.iadd) 1 827 := ⟨by decide +kernel, rfl⟩
set_option maxRecDepth 20000 in
theorem dlaw_827 : D1 code 827 (.iaload) 1 828 := ⟨by decide +kernel, rfl⟩
set_option maxRecDepth 20000 in
theorem dlaw_828 : D1 code 828 (.invokevirtual 96) 3 831 := ⟨by decide +kernel, rfl⟩
set_option maxRecDepth 20000 in
theorem dlaw_831 : D1 code 831 (.aload_n 2) 1 832 := ⟨by decide +kernel, rfl⟩
set_option maxRecDepth 20000 in
theorem dlaw_832 : D1 code 832 (.aload_n 0) 1 833 := ⟨by decide +kernel, rfl⟩
set_option maxRecDepth 20000 in
theorem dlaw_833 : D1 code 833 (.iload_n 3) 1 834 := ⟨by decide +kernel, rfl⟩
set_option maxRecDepth 20000 in
theorem dlaw_834 : D1 code 834 (.iconst 1) 1 835 := ⟨by decide +kernel, rfl⟩
set_option maxRecDepth 20000 in
theorem dlaw_835 : D1 code 835 (.iadd) 1 836 := ⟨by decide +kernel, rfl⟩
set_option maxRecDepth 20000 in
theorem dlaw_836 : D1 code 836 (.iaload) 1 837 := ⟨by decide +kernel, rfl⟩
set_option maxRecDepth 20000 in
theorem dlaw_837 : D1 code 837 (.invokevirtual 99) 3 840 := ⟨by decide +kernel, rfl⟩
set_option maxRecDepth 20000 in
theorem dlaw_840 : DJ code 840 (.if_icmp .eq) 843 1490 := ⟨650, by decide +kernel, rfl, by decide⟩
set_option maxRecDepth 20000 in
theorem dlaw_843 : D1 code 843 (.iconst 0) 1 844 := ⟨by decide +kernel, rfl⟩
set_option maxRecDepth 20000 in
theorem dlaw_844 : D1 code 844 (.ireturn) 1 845 := ⟨by decide +kernel, rfl⟩
set_option maxRecDepth 20000 in
theorem dlaw_845 : D1 code 845 (.aload_n 1) 1 846 := ⟨by decide +kernel, rfl⟩
set_option maxRecDepth 20000 in
theorem dlaw_846 : D1 code 846 (.aload_n 0) 1 847 := ⟨by decide +kernel, rfl⟩
set_option maxRecDepth 20000 in
theorem dlaw_847 : D1 code 847 (.iload_n 3) 1 848 := ⟨by decide +kernel, rfl⟩
set_option maxRecDepth 20000 in
theorem dlaw_848 : D1 code 848 (.iconst 1) 1 849 := ⟨by decide +kernel, rfl⟩
set_option maxRecDepth 20000 in
theorem dlaw_849 : D1 code 849 (.iadd) 1 850 := ⟨by decide +kernel, rfl⟩
set_option maxRecDepth 20000 in
theorem dlaw_850 : D1 code 850 (.iaload) 1 851 := ⟨by decide +kernel, rfl⟩
set_option maxRecDepth 20000 in
theorem dlaw_851 : D1 code 851 (.invokevirtual 100) 3 854 := ⟨by decide +kernel, rfl⟩
set_option maxRecDepth 20000 in
theorem dlaw_854 : D1 code 854 (.aload_n 2) 1 855 := ⟨by decide +kernel, rfl⟩
set_option maxRecDepth 20000 in
theorem dlaw_855 : D1 code 855 (.aload_n 0) 1 856 := ⟨by decide +kernel, rfl⟩
set_option maxRecDepth 20000 in
theorem dlaw_856 : D1 code 856 (.iload_n 3) 1 857 := ⟨by decide +kernel, rfl⟩
set_option maxRecDepth 20000 in
theorem dlaw_857 : D1 code 857 (.iconst 1) 1 858 := ⟨by decide +kernel, rfl⟩
set_option maxRecDepth 20000 in
theorem dlaw_858 : D1 code 858 (.iadd) 1 859 := ⟨by decide +kernel, rfl⟩
set_option maxRecDepth 20000 in
theorem dlaw_859 : D1 code 859 (.iaload) 1 860 := ⟨by decide +kernel, rfl⟩
set_option maxRecDepth 20000 in
theorem dlaw_860 : D1 code 860 (.invokevirtual 103) 3 863 := ⟨by decide +kernel, rfl⟩
set_option maxRecDepth 20000 in
theorem dlaw_863 : DJ code 863 (.if_icmp .eq) 866 1490 := ⟨627, by decide +kernel, rfl, by decide⟩
set_option maxRecDepth 20000 in
theorem dlaw_866 : D1 code 866 (.iconst 0) 1 867 := ⟨by decide +kernel, rfl⟩
set_option maxRecDepth 20000 in
theorem dlaw_867 : D1 code 867 (.ireturn) 1 868 := ⟨by decide +kernel, rfl⟩
set_option maxRecDepth 20000 in
theorem dlaw_868 : D1 code 868 (.aload_n 1) 1 869 := ⟨by decide +kernel, rfl⟩
set_option maxRecDepth 20000 in
theorem dlaw_869 : D1 code 869 (.aload_n 0) 1 870 := ⟨by decide +kernel, rfl⟩
set_option maxRecDepth 20000 in
theorem dlaw_870 : D1 code 870 (.iload_n 3) 1 871 := ⟨by decide +kernel, rfl⟩
set_option maxRecDepth 20000 in
theorem dlaw_871 : D1 code 871 (.iconst 1) 1 872 := ⟨by decide +kernel, rfl⟩
set_option maxRecDepth 20000 in
theorem dlaw_872 : D1 code 872 (.iadd) 1 873 := ⟨by decide +kernel, rfl⟩
set_option maxRecDepth 20000 in
theorem dlaw_873 : D1 code 873 (.iaload) 1 874 := ⟨by decide +kernel, rfl⟩
set_option maxRecDepth 20000 in
theorem dlaw_874 : D1 code 874 (.invokevirtual 104) 3 877 := ⟨by decide +kernel, rfl⟩
set_option maxRecDepth 20000 in
theorem dlaw_877 : D1 code 877 (.aload_n 2) 1 878 := ⟨by decide +kernel, rfl⟩
set_option maxRecDepth 20000 in
theorem dlaw_878 : D1 code 878 (.aload_n 0) 1 879 := ⟨by decide +kernel, rfl⟩
set_option maxRecDepth 20000 in
theorem dlaw_879 : D1 code 879 (.iload_n 3) 1 880 := ⟨by decide +kernel, rfl⟩
set_option maxRecDepth 20000 in
theorem dlaw_880 : D1 code 880 (.iconst 1) 1 881 := ⟨by decide +kernel, rfl⟩
set_option maxRecDepth 20000 in
theorem dlaw_881 : D1 code 881 (.iadd) 1 882 := ⟨by decide +kernel, rfl⟩
set_option maxRecDepth 20000 in
theorem dlaw_882 : D1 code 882 (.iaload) 1 883 := ⟨by decide +kernel, rfl⟩
set_option maxRecDepth 20000 in
theorem dlaw_883 : D1 code 883 (.invokevirtual 107) 3 886 := ⟨by decide +kernel, rfl⟩
set_option maxRecDepth 20000 in
theorem dlaw_886 : DJ code 886 (.if_icmp .eq) 889 1490 := ⟨604, by decide +kernel, rfl, by decide⟩
set_option maxRecDepth 20000 in
theorem dlaw_889 : D1 code 889 (.iconst 0) 1 890 := ⟨by decide +kernel, rfl⟩
set_option maxRecDepth 20000 in
theorem dlaw_890 : D1 code 890 (.ireturn) 1 891 := ⟨by decide +kernel, rfl⟩
set_option maxRecDepth 20000 in
theorem dlaw_891 : D1 code 891 (.aload_n 1) 1 892 := ⟨by decide +kernel, rfl⟩
set_option maxRecDepth 20000 in
theorem dlaw_892 : D1 code 892 (.aload_n 0) 1 893 := ⟨by decide +kernel, rfl⟩
set_option maxRecDepth 20000 in
theorem dlaw_893 : D1 code 893 (.iload_n 3) 1 894 := ⟨by decide +kernel, rfl⟩
set_option maxRecDepth 20000 in
theorem dlaw_894 : D1 code 894 (.iconst 1) 1 895 := ⟨by decide +kernel, rfl⟩
set_option maxRecDepth 20000 in
theorem dlaw_895 : D1 code 895 (.iadd) 1 896 := ⟨by decide +kernel, rfl⟩
set_option maxRecDepth 20000 in
theorem dlaw_896 : D1 code 896 (.iaload) 1 897 := ⟨by decide +kernel, rfl⟩
set_option maxRecDepth 20000 in
theorem dlaw_897 : D1 code 897 (.invokevirtual 108) 3 900 := ⟨by decide +kernel, rfl⟩
set_option maxRecDepth 20000 in
theorem dlaw_900 : D1 code 900 (.aload_n 2) 1 901 := ⟨by decide +kernel, rfl⟩
set_option maxRecDepth 20000 in
theorem dlaw_901 : D1 code 901 (.aload_n 0) 1 902 := ⟨by decide +kernel, rfl⟩
set_option maxRecDepth 20000 in
theorem dlaw_902 : D1 code 902 (.iload_n 3) 1 903 := ⟨by decide +kernel, rfl⟩
set_option maxRecDepth 20000 in
theorem dlaw_903 : D1 code 903 (.iconst 1) 1 904 := ⟨by decide +kernel, rfl⟩
set_option maxRecDepth 20000 in
theorem dlaw_904 : D1 code 904 (.iadd) 1 905 := ⟨by decide +kernel, rfl⟩
set_option maxRecDepth 20000 in
theorem dlaw_905 : D1 code 905 (.iaload) 1 906 := ⟨by decide +kernel, rfl⟩
set_option maxRecDepth 20000 in
theorem dlaw_906 : D1 code 906 (.invokevirtual 111) 3 909 := ⟨by decide +kernel, rfl⟩
set_option maxRecDepth 20000 in
theorem dlaw_909 : DJ code 909 (.if_icmp .eq) 912 1490 := ⟨581, by decide +kernel, rfl, by decide⟩
set_option maxRecDepth 20000 in
theorem dlaw_912 : D1 code 912 (.iconst 0) 1 913 := ⟨by decide +kernel, rfl⟩
set_option maxRecDepth 20000 in
theorem dlaw_913 : D1 code 913 (.ireturn) 1 914 := ⟨by decide +kernel, rfl⟩
set_option maxRecDepth 20000 in
theorem dlaw_914 : D1 code 914 (.aload_n 1) 1 915 := ⟨by decide +kernel, rfl⟩
set_option maxRecDepth 20000 in
theorem dlaw_915 : D1 code 915 (.invokevirtual 112) 3 918 := ⟨by decide +kernel, rfl⟩
set_option maxRecDepth 20000 in
theorem dlaw_918 : D1 code 918 (.aload_n 2) 1 919 := ⟨by decide +kernel, rfl⟩
set_option maxRecDepth 20000 in
theorem dlaw_919 : D1 code 919 (.invokevirtual 116) 3 922 := ⟨by decide +kernel, rfl⟩
set_option maxRecDepth 20000 in
theorem dlaw_922 : DJ code 922 (.if_icmp .eq) 925 1490 := ⟨568, by decide +kernel, rfl, by decide⟩
set_option maxRecDepth 20000 in
theorem dlaw_925 : D1 code 925 (.iconst 0) 1 926 := ⟨by decide +kernel, rfl⟩
set_option maxRecDepth 20000 in
theorem dlaw_926 : D1 code 926 (.ireturn) 1 927 := ⟨by decide +kernel, rfl⟩
set_option maxRecDepth 20000 in
theorem dlaw_927 : D1 code 927 (.aload_n 1) 1 928 := ⟨by decide +kernel, rfl⟩
set_option maxRecDepth 20000 in
theorem dlaw_928 : D1 code 928 (.aload_n 0) 1 929 := ⟨by decide +kernel, rfl⟩
set_option maxRecDepth 20000 in
theorem dlaw_929 : D1 code 929 (.iload_n 3) 1 930 := ⟨by decide +kernel, rfl⟩
set_option maxRecDepth 20000 in
theorem dlaw_930 : D1 code 930 (.iconst 1) 1 931 := ⟨by decide +kernel, rfl⟩
set_option maxRecDepth 20000 in
theorem dlaw_931 : D1 code 931 (.iadd) 1 932 := ⟨by decide +kernel, rfl⟩
set_option maxRecDepth 20000 in
theorem dlaw_932 : D1 code 932 (.iaload) 1 933 := ⟨by decide +kernel, rfl⟩
set_option maxRecDepth 20000 in
theorem dlaw_933 : D1 code 933 (.invokevirtual 117) 3 936 := ⟨by decide +kernel, rfl⟩
set_option maxRecDepth 20000 in
theorem dlaw_936 : D1 code 936 (.aload_n 2) 1 937 := ⟨by decide +kernel, rfl⟩
set_option maxRecDepth 20000 in
theorem dlaw_937 : D1 code 937 (.aload_n 0) 1 938 := ⟨by decide +kernel, rfl⟩
set_option maxRecDepth 20000 in
theorem dlaw_938 : D1 code 938 (.iload_n 3) 1 939 := ⟨by decide +kernel, rfl⟩
set_option maxRecDepth 20000 in
theorem dlaw_939 : D1 code 939 (.iconst 1) 1 940 := ⟨by decide +kernel, rfl⟩
set_option maxRecDepth 20000 in
theorem dlaw_940 : D1 code 940 (.iadd) 1 941 := ⟨by decide +kernel, rfl⟩
set_option maxRecDepth 20000 in
theorem dlaw_941 : D1 code 941 (.iaload) 1 942 := ⟨by decide +kernel, rfl⟩
set_option maxRecDepth 20000 in
theorem dlaw_942 : D1 code 942 (.invokevirtual 120) 3 945 := ⟨by decide +kernel, rfl⟩
set_option maxRecDepth 20000 in
theorem dlaw_945 : DJ code 945 (.if_icmp .eq) 948 1490 := ⟨545, by decide +kernel, rfl, by decide⟩
set_option maxRecDepth 20000 in
theorem dlaw_948 : D1 code 948 (.iconst 0) 1 949 := ⟨by decide +kernel, rfl⟩
set_option maxRecDepth 20000 in
theorem dlaw_949 : D1 code 949 (.ireturn) 1 950 := ⟨by decide +kernel, rfl⟩
set_option maxRecDepth 20000 in
theorem dlaw_950 : D1 code 950 (.aload_n 1) 1 951 := ⟨by decide +kernel, rfl⟩
set_option maxRecDepth 20000 in
theorem dlaw_951 : D1 code 951 (.invokevirtual 121) 3 954 := ⟨by decide +kernel, rfl⟩
set_option maxRecDepth 20000 in
theorem dlaw_954 : D1 code 954 (.aload_n 2) 1 955 := ⟨by decide +kernel, rfl⟩
set_option maxRecDepth 20000 in
theorem dlaw_955 : D1 code 955 (.invokevirtual 124) 3 958 := ⟨by decide +kernel, rfl⟩
set_option maxRecDepth 20000 in
theorem dlaw_958 : DJ code 958 (.if_icmp .eq) 961 1490 := ⟨532, by decide +kernel, rfl, by decide⟩
set_option maxRecDepth 20000 in
theorem dlaw_961 : D1 code 961 (.iconst 0) 1 962 := ⟨by decide +kernel, rfl⟩
set_option maxRecDepth 20000 in
theorem dlaw_962 : D1 code 962 (.ireturn) 1 963 := ⟨by decide +kernel, rfl⟩
set_option maxRecDepth 20000 in
theorem dlaw_963 : D1 code 963 (.aload_n 1) 1 964 := ⟨by decide +kernel, rfl⟩
set_option maxRecDepth 20000 in
theorem dlaw_964 : D1 code 964 (.aload_n 0) 1 965 := ⟨by decide +kernel, rfl⟩
set_option maxRecDepth 20000 in
theorem dlaw_965 : D1 code 965 (.iload_n 3) 1 966 := ⟨by decide +kernel, rfl⟩
set_option maxRecDepth 20000 in
theorem dlaw_966 : D1 code 966 (.iconst 1) 1 967 := ⟨by decide +kernel, rfl⟩
set_option maxRecDepth 20000 in
theorem dlaw_967 : D1 code 967 (.iadd) 1 968 := ⟨by decide +kernel, rfl⟩
set_option maxRecDepth 20000 in
theorem dlaw_968 : D1 code 968 (.iaload) 1 969 := ⟨by decide +kernel, rfl⟩
set_option maxRecDepth 20000 in
theorem dlaw_969 : D1 code 969 (.invokevirtual 125) 3 972 := ⟨by decide +kernel, rfl⟩
set_option maxRecDepth 20000 in
theorem dlaw_972 : D1 code 972 (.aload_n 2) 1 973 := ⟨by decide +kernel, rfl⟩
set_option maxRecDepth 20000 in
theorem dlaw_973 : D1 code 973 (.aload_n 0) 1 974 := ⟨by decide +kernel, rfl⟩
set_option maxRecDepth 20000 in
theorem dlaw_974 : D1 code 974 (.iload_n 3) 1 975 := ⟨by decide +kernel, rfl⟩
set_option maxRecDepth 20000 in
theorem dlaw_975 : D1 code 975 (.iconst 1) 1 976 := ⟨by decide +kernel, rfl⟩
set_option maxRecDepth 20000 in
theorem dlaw_976 : D1 code 976 (.iadd) 1 977 := ⟨by decide +kernel, rfl⟩
set_option maxRecDepth 20000 in
theorem dlaw_977 : D1 code 977 (.iaload) 1 978 := ⟨by decide +kernel, rfl⟩
set_option maxRecDepth 20000 in
theorem dlaw_978 : D1 code 978 (.invokevirtual 128) 3 981 := ⟨by decide +kernel, rfl⟩
set_option maxRecDepth 20000 in
theorem dlaw_981 : DJ code 981 (.if_icmp .eq) 984 1490 := ⟨509, by decide +kernel, rfl, by decide⟩
set_option maxRecDepth 20000 in
theorem dlaw_984 : D1 code 984 (.iconst 0) 1 985 := ⟨by decide +kernel, rfl⟩
set_option maxRecDepth 20000 in
theorem dlaw_985 : D1 code 985 (.ireturn) 1 986 := ⟨by decide +kernel, rfl⟩
set_option maxRecDepth 20000 in
theorem dlaw_986 : D1 code 986 (.aload_n 1) 1 987 := ⟨by decide +kernel, rfl⟩
set_option maxRecDepth 20000 in
theorem dlaw_987 : D1 code 987 (.aload_n 0) 1 988 := ⟨by decide +kernel, rfl⟩
set_option maxRecDepth 20000 in
theorem dlaw_988 : D1 code 988 (.iload_n 3) 1 989 := ⟨by decide +kernel, rfl⟩
set_option maxRecDepth 20000 in
theorem dlaw_989 : D1 code 989 (.iconst 1) 1 990 := ⟨by decide +kernel, rfl⟩
set_option maxRecDepth 20000 in
theorem dlaw_990 : D1 code 990 (.iadd) 1 991 := ⟨by decide +kernel, rfl⟩
set_option maxRecDepth 20000 in
theorem dlaw_991 : D1 code 991 (.iaload) 1 992 := ⟨by decide +kernel, rfl⟩
set_option maxRecDepth 20000 in
theorem dlaw_992 : D1 code 992 (.invokevirtual 129) 3 995 := ⟨by decide +kernel, rfl⟩
set_option maxRecDepth 20000 in
theorem dlaw_995 : D1 code 995 (.aload_n 2) 1 996 := ⟨by decide +kernel, rfl⟩
set_option maxRecDepth 20000 in
theorem dlaw_996 : D1 code 996 (.aload_n 0) 1 997 := ⟨by decide +kernel, rfl⟩
set_option maxRecDepth 20000 in
theorem dlaw_997 : D1 code 997 (.iload_n 3) 1 998 := ⟨by decide +kernel, rfl⟩
set_option maxRecDepth 20000 in
theorem dlaw_998 : D1 code 998 (.iconst 1) 1 999 := ⟨by decide +kernel, rfl⟩
set_option maxRecDepth 20000 in
theorem dlaw_999 : D1 code 999 (.iadd) 1 1000 := ⟨by decide +kernel, rfl⟩
set_option maxRecDepth 20000 in
theorem dlaw_1000 : D1 code 1000 (.iaload) 1 1001 := ⟨by decide +kernel, rfl⟩
set_option maxRecDepth 20000 in
theorem dlaw_1001 : D1 code 1001 (.invokevirtual 132) 3 1004 := ⟨by decide +kernel, rfl⟩
set_option maxRecDepth 20000 in
theorem dlaw_1004 : DJ code 1004 (.if_icmp .eq) 1007 1490 := ⟨486, by decide +kernel, rfl, by decide⟩
set_option maxRecDepth 20000 in
theorem dlaw_1007 : D1 code 1007 (.iconst 0) 1 1008 := ⟨by decide +kernel, rfl⟩
set_option maxRecDepth 20000 in
theorem dlaw_1008 : D1 code 1008 (.ireturn) 1 1009 := ⟨by decide +kernel, rfl⟩
set_option maxRecDepth 20000 in
theorem dlaw_1009 : D1 code 1009 (.aload_n 1) 1 1010 := ⟨by decide +kernel, rfl⟩
set_option maxRecDepth 20000 in
theorem dlaw_1010 : D1 code 1010 (.aload_n 0) 1 1011 := ⟨by decide +kernel, rfl⟩
set_option maxRecDepth 20000 in
theorem dlaw_1011 : D1 code 1011 (.iload_n 3) 1 1012 := ⟨by decide +kernel, rfl⟩
set_option maxRecDepth 20000 in
theorem dlaw_1012 : D1 code 1012 (.iconst 1) 1 1013 := ⟨by decide +kernel, rfl⟩
set_option maxRecDepth 20000 in
theorem dlaw_1013 : D1 code 1013 (.iadd) 1 1014 := ⟨by decide +kernel, rfl⟩
set_option maxRecDepth 20000 in
theorem dlaw_1014 : D1 code 1014 (.iaload) 1 1015 := ⟨by decide +kernel, rfl⟩
set_option maxRecDepth 20000 in
theorem dlaw_1015 : D1 code 1015 (.aload_n 0) 1 1016 := ⟨by decide +kernel, rfl⟩
set_option maxRecDepth 20000 in
theorem dlaw_1016 : D1 code 1016 (.iload_n 3) 1 1017 := ⟨by decide +kernel, rfl⟩
set_option maxRecDepth 20000 in
theorem dlaw_1017 : D1 code 1017 (.iconst 2) 1 1018 := ⟨by decide +kernel, rfl⟩
set_option maxRecDepth 20000 in
theorem dlaw_1018 : D1 code 1018 (.iadd) 1 1019 := ⟨by decide +kernel, rfl⟩
set_option maxRecDepth 20000 in
theorem dlaw_1019 : D1 code 1019 (.iaload) 1 1020 := ⟨by decide +kernel, rfl⟩
set_option maxRecDepth 20000 in
theorem dlaw_1020 : D1 code 1020 (.invokevirtual 133) 3 1023 := ⟨by decide +kernel, rfl⟩
set_option maxRecDepth 20000 in
theorem dlaw_1023 : D1 code 1023 (.aload_n 2) 1 1024 := ⟨by decide +kernel, rfl⟩
set_option maxRecDepth 20000 in
theorem dlaw_1024 : D1 code 1024 (.aload_n 0) 1 1025 := ⟨by decide +kernel, rfl⟩
set_option maxRecDepth 20000 in
theorem dlaw_1025 : D1 code 1025 (.iload_n 3) 1 1026 := ⟨by decide +kernel, rfl⟩
set_option maxRecDepth 20000 in
theorem dlaw_1026 : D1 code 1026 (.iconst 1) 1 1027 := ⟨by decide +kernel, rfl⟩
set_option maxRecDepth 20000 in
theorem dlaw_1027 : D1 code 1027 (.iadd) 1 1028 := ⟨by decide +kernel, rfl⟩
set_option maxRecDepth 20000 in
theorem dlaw_1028 : D1 code 1028 (.iaload) 1 1029 := ⟨by decide +kernel, rfl⟩
set_option maxRecDepth 20000 in
theorem dlaw_1029 : D1 code 1029 (.aload_n 0) 1 1030 := ⟨by decide +kernel, rfl⟩
set_option maxRecDepth 20000 in
theorem dlaw_1030 : D1 code 1030 (.iload_n 3) 1 1031 := ⟨by decide +kernel, rfl⟩
set_option maxRecDepth 20000 in
theorem dlaw_1031 : D1 code 1031 (.iconst 2) 1 1032 := ⟨by decide +kernel, rfl⟩
set_option maxRecDepth 20000 in
theorem dlaw_1032 : D1 code 1032 (.iadd) 1 1033 := ⟨by decide +kernel, rfl⟩
set_option maxRecDepth 20000 in
theorem dlaw_1033 : D1 code 1033 (.iaload) 1 1034 := ⟨by decide +kernel, rfl⟩
set_option maxRecDepth 20000 in
theorem dlaw_1034 : D1 code 1034 (.invokevirtual 136) 3 1037 := ⟨by decide +kernel, rfl⟩
set_option maxRecDepth 20000 in
theorem dlaw_1037 : DJ code 1037 (.if_icmp .eq) 1040 1490 := ⟨453, by decide +kernel, rfl, by decide⟩
set_option maxRecDepth 20000 in
theorem dlaw_1040 : D1 code 1040 (.iconst 0) 1 1041 := ⟨by decide +kernel, rfl⟩
set_option maxRecDepth 20000 in
theorem dlaw_1041 : D1 code 1041 (.ireturn) 1 1042 := ⟨by decide +kernel, rfl⟩
set_option maxRecDepth 20000 in
theorem dlaw_1042 : D1 code 1042 (.aload_n 1) 1 1043 := ⟨by decide +kernel, rfl⟩
set_option maxRecDepth 20000 in
theorem dlaw_1043 : D1 code 1043 (.invokevirtual 137) 3 1046 := ⟨by decide +kernel, rfl⟩
set_option maxRecDepth 20000 in
theorem dlaw_1046 : D1 code 1046 (.aload_n 2) 1 1047 := ⟨by decide +kernel, rfl⟩
set_option maxRecDepth 20000 in
theorem dlaw_1047 : D1 code 1047 (.invokevirtual 140) 3 1050 := ⟨by decide +kernel, rfl⟩
set_option maxRecDepth 20000 in
theorem dlaw_1050 : DJ code 1050 (.if_icmp .eq) 1053 1490 := ⟨440, by decide +kernel, rfl, by decide⟩
set_option maxRecDepth 20000 in
theorem dlaw_1053 : D1 code 1053 (.iconst 0) 1 1054 := ⟨by decide +kernel, rfl⟩
set_option maxRecDepth 20000 in
theorem dlaw_1054 : D1 code 1054 (.ireturn) 1 1055 := ⟨by decide +kernel, rfl⟩
set_option maxRecDepth 20000 in
theorem dlaw_1055 : D1 code 1055 (.aload_n 1) 1 1056 := ⟨by decide +kernel, rfl⟩
set_option maxRecDepth 20000 in
theorem dlaw_1056 : D1 code 1056 (.invokevirtual 141) 3 1059 := ⟨by decide +kernel, rfl⟩
set_option maxRecDepth 20000 in
theorem dlaw_1059 : D1 code 1059 (.aload_n 2) 1 1060 := ⟨by decide +kernel, rfl⟩
set_option maxRecDepth 20000 in
theorem dlaw_1060 : D1 code 1060 (.invokevirtual 144) 3 1063 := ⟨by decide +kernel, rfl⟩
set_option maxRecDepth 20000 in
theorem dlaw_1063 : DJ code 1063 (.if_icmp .eq) 1066 1490 := ⟨427, by decide +kernel, rfl, by decide⟩
set_option maxRecDepth 20000 in
theorem dlaw_1066 : D1 code 1066 (.iconst 0) 1 1067 := ⟨by decide +kernel, rfl⟩
set_option maxRecDepth 20000 in
theorem dlaw_1067 : D1 code 1067 (.ireturn) 1 1068 := ⟨by decide +kernel, rfl⟩
set_option maxRecDepth 20000 in
theorem dlaw_1068 : D1 code 1068 (.aload_n 1) 1 1069 := ⟨by decide +kernel, rfl⟩
set_option maxRecDepth 20000 in
theorem dlaw_1069 : D1 code 1069 (.aload_n 0) 1 1070 := ⟨by decide +kernel, rfl⟩
set_option maxRecDepth 20000 in
theorem dlaw_1070 : D1 code 1070 (.iload_n 3) 1 1071 := ⟨by decide +kernel, rfl⟩
set_option maxRecDepth 20000 in
theorem dlaw_1071 : D1 code 1071 (.iconst 1) 1 1072 := ⟨by decide +kernel, rfl⟩
set_option maxRecDepth 20000 in
theorem dlaw_1072 : D1 code 1072 (.iadd) 1 1073 := ⟨by decide +kernel, rfl⟩
set_option maxRecDepth 20000 in
theorem dlaw_1073 : D1 code 1073 (.iaload) 1 1074 := ⟨by decide +kernel, rfl⟩
set_option maxRecDepth 20000 in
theorem dlaw_1074 : D1 code 1074 (.aload_n 0) 1 1075 := ⟨by decide +kernel, rfl⟩
set_option maxRecDepth 20000 in
theorem dlaw_1075 : D1 code 1075 (.iload_n 3) 1 1076 := ⟨by decide +kernel, rfl⟩
set_option maxRecDepth 20000 in
theorem dlaw_1076 : D1 code 1076 (.iconst 2) 1 1077 := ⟨by decide +kernel, rfl⟩
set_option maxRecDepth 20000 in
theorem dlaw_1077 : D1 code 1077 (.iadd) 1 1078 := ⟨by decide +kernel, rfl⟩
set_option maxRecDepth 20000 in
theorem dlaw_1078 : D1 code 1078 (.iaload) 1 1079 := ⟨by decide +kernel, rfl⟩
set_option maxRecDepth 20000 in
theorem dlaw_1079 : D1 code 1079 (.invokevirtual 145) 3 1082 := ⟨by decide +kernel, rfl⟩
set_option maxRecDepth 20000 in
theorem dlaw_1082 : D1 code 1082 (.aload_n 2) 1 1083 := ⟨by decide +kernel, rfl⟩
set_option maxRecDepth 20000 in
theorem dlaw_1083 : D1 code 1083 (.aload_n 0) 1 1084 := ⟨by decide +kernel, rfl⟩
set_option maxRecDepth 20000 in
theorem dlaw_1084 : D1 code 1084 (.iload_n 3) 1 1085 := ⟨by decide +kernel, rfl⟩
set_option maxRecDepth 20000 in
theorem dlaw_1085 : D1 code 1085 (.iconst 1) 1 1086 := ⟨by decide +kernel, rfl⟩
set_option maxRecDepth 20000 in
theorem dlaw_1086 : D1 code 1086 (.iadd) 1 1087 := ⟨by decide +kernel, rfl⟩
set_option maxRecDepth 20000 in
theorem dlaw_1087 : D1 code 1087 (.iaload) 1 1088 := ⟨by decide +kernel, rfl⟩
set_option maxRecDepth 20000 in
theorem dlaw_1088 : D1 code 1088 (.aload_n 0) 1 1089 := ⟨by decide +kernel, rfl⟩
set_option maxRecDepth 20000 in
theorem dlaw_1089 : D1 code 1089 (.iload_n 3) 1 1090 := ⟨by decide +kernel, rfl⟩
set_option maxRecDepth 20000 in
theorem dlaw_1090 : D1 code 1090 (.iconst 2) 1 1091 := ⟨by decide +kernel, rfl⟩
set_option maxRecDepth 20000 in
theorem dlaw_1091 : D1 code 1091 (.iadd) 1 1092 := ⟨by decide +kernel, rfl⟩
set_option maxRecDepth 20000 in
theorem dlaw_1092 : D1 code 1092 (.iaload) 1 1093 := ⟨by decide +kernel, rfl⟩
set_option maxRecDepth 20000 in
theorem dlaw_1093 : D1 code 1093 (.invokevirtual 148) 3 1096 := ⟨by decide +kernel, rfl⟩
set_option maxRecDepth 20000 in
theorem dlaw_1096 : DJ code 1096 (.if_icmp .eq) 1099 1490 := ⟨394, by decide +kernel, rfl, by decide⟩
set_option maxRecDepth 20000 in
theorem dlaw_1099 : D1 code 1099 (.iconst 0) 1 1100 := ⟨by decide +kernel, rfl⟩
set_option maxRecDepth 20000 in
theorem dlaw_1100 : D1 code 1100 (.ireturn) 1 1101 := ⟨by decide +kernel, rfl⟩
set_option maxRecDepth 20000 in
theorem dlaw_1101 : D1 code 1101 (.aload_n 1) 1 1102 := ⟨by decide +kernel, rfl⟩
set_option maxRecDepth 20000 in
theorem dlaw_1102 : D1 code 1102 (.aload_n 0) 1 1103 := ⟨by decide +kernel, rfl⟩
set_option maxRecDepth 20000 in
theorem dlaw_1103 : D1 code 1103 (.iload_n 3) 1 1104 := ⟨by decide +kernel, rfl⟩
set_option maxRecDepth 20000 in
theorem dlaw_1104 : D1 code 1104 (.iconst 1) 1 1105 := ⟨by decide +kernel, rfl⟩
set_option maxRecDepth 20000 in
theorem dlaw_1105 : D1 code 1105 (.iadd) 1 1106 := ⟨by decide +kernel, rfl⟩
set_option maxRecDepth 20000 in
theorem dlaw_1106 : D1 code 1106 (.iaload) 1 1107 := ⟨by decide +kernel, rfl⟩
set_option maxRecDepth 20000 in
theorem dlaw_1107 : D1 code 1107 (.aload_n 0) 1 1108 := ⟨by decide +kernel, rfl⟩
set_option maxRecDepth 20000 in
theorem dlaw_1108 : D1 code 1108 (.iload_n 3) 1 1109 := ⟨by decide +kernel, rfl⟩
set_option maxRecDepth 20000 in
theorem dlaw_1109 : D1 code 1109 (.iconst 2) 1 1110 := ⟨by decide +kernel, rfl⟩
set_option maxRecDepth 20000 in
theorem dlaw_1110 : D1 code 1110 (.iadd) 1 1111 := ⟨by decide +kernel, rfl⟩
set_option maxRecDepth 20000 in
theorem dlaw_1111 : D1 code 1111 (.iaload) 1 1112 := ⟨by decide +kernel, rfl⟩
set_option maxRecDepth 20000 in
theorem dlaw_1112 : D1 code 1112 (.invokevirtual 149) 3 1115 := ⟨by decide +kernel, rfl⟩
set_option maxRecDepth 20000 in
theorem dlaw_1115 : D1 code 1115 (.aload_n 2) 1 1116 := ⟨by decide +kernel, rfl⟩
set_option maxRecDepth 20000 in
theorem dlaw_1116 : D1 code 1116 (.aload_n 0) 1 1117 := ⟨by decide +kernel, rfl⟩
set_option maxRecDepth 20000 in
theorem dlaw_1117 : D1 code 1117 (.iload_n 3) 1 1118 := ⟨by decide +kernel, rfl⟩
set_option maxRecDepth 20000 in
theorem dlaw_1118 : D1 code 1118 (.iconst 1) 1 1119 := ⟨by decide +kernel, rfl⟩
set_option maxRecDepth 20000 in
theorem dlaw_1119 : D1 code 1119 (.iadd) 1 1120 := ⟨by decide +kernel, rfl⟩
set_option maxRecDepth 20000 in
theorem dlaw_1120 : D1 code 1120 (.iaload) 1 1121 := ⟨by decide +kernel, rfl⟩
set_option maxRecDepth 20000 in
theorem dlaw_1121 : D1 code 1121 (.aload_n 0) 1 1122 := ⟨by decide +kernel, rfl⟩
set_option maxRecDepth 20000 in
theorem dlaw_1122 : D1 code 1122 (.iload_n 3) 1 1123 := ⟨by decide +kernel, rfl⟩
set_option maxRecDepth 20000 in
theorem dlaw_1123 : D1 code 1123 (.iconst 2) 1 1124 := ⟨by decide +kernel, rfl⟩
set_option maxRecDepth 20000 in
theorem dlaw_1124 : D1 code 1124 (.iadd) 1 1125 := ⟨by decide +kernel, rfl⟩
set_option maxRecDepth 20000 in
theorem dlaw_1125 : D1 code 1125 (.iaload) 1 1126 := ⟨by decide +kernel, rfl⟩
set_option maxRecDepth 20000 in
theorem dlaw_1126 : D1 code 1126 (.invokevirtual 152) 3 1129 := ⟨by decide +kernel, rfl⟩
set_option maxRecDepth 20000 in
theorem dlaw_1129 : DJ code 1129 (.if_icmp .eq) 1132 1490 := ⟨361, by decide +kernel, rfl, by decide⟩
set_option maxRecDepth 20000 in
theorem dlaw_1132 : D1 code 1132 (.iconst 0) 1 1133 := ⟨by decide +kernel, rfl⟩
set_option maxRecDepth 20000 in
theorem dlaw_1133 : D1 code 1133 (.ireturn) 1 1134 := ⟨by decide +kernel, rfl⟩
set_option maxRecDepth 20000 in
theorem dlaw_1134 : D1 code 1134 (.aload_n 1) 1 1135 := ⟨by decide +kernel, rfl⟩
set_option maxRecDepth 20000 in
theorem dlaw_1135 : D1 code 1135 (.aload_n 0) 1 1136 := ⟨by decide +kernel, rfl⟩
set_option maxRecDepth 20000 in
theorem dlaw_1136 : D1 code 1136 (.iload_n 3) 1 1137 := ⟨by decide +kernel, rfl⟩
set_option maxRecDepth 20000 in
theorem dlaw_1137 : D1 code 1137 (.iconst 1) 1 1138 := ⟨by decide +kernel, rfl⟩
set_option maxRecDepth 20000 in
theorem dlaw_1138 : D1 code 1138 (.iadd) 1 1139 := ⟨by decide +kernel, rfl⟩
set_option maxRecDepth 20000 in
theorem dlaw_1139 : D1 code 1139 (.iaload) 1 1140 := ⟨by decide +kernel, rfl⟩
set_option maxRecDepth 20000 in
theorem dlaw_1140 : D1 code 1140 (.aload_n 0) 1 1141 := ⟨by decide +kernel, rfl⟩
set_option maxRecDepth 20000 in
theorem dlaw_1141 : D1 code 1141 (.iload_n 3) 1 1142 := ⟨by decide +kernel, rfl⟩
set_option maxRecDepth 20000 in
theorem dlaw_1142 : D1 code 1142 (.iconst 2) 1 1143 := ⟨by decide +kernel, rfl⟩
set_option maxRecDepth 20000 in
theorem dlaw_1143 : D1 code 1143 (.iadd) 1 1144 := ⟨by decide +kernel, rfl⟩
set_option maxRecDepth 20000 in
theorem dlaw_1144 : D1 code 1144 (.iaload) 1 1145 := ⟨by decide +kernel, rfl⟩
set_option maxRecDepth 20000 in
theorem dlaw_1145 : D1 code 1145 (.aload_n 0) 1 1146 := ⟨by decide +kernel, rfl⟩
set_option maxRecDepth 20000 in
theorem dlaw_1146 : D1 code 1146 (.iload_n 3) 1 1147 := ⟨by decide +kernel, rfl⟩
set_option maxRecDepth 20000 in
theorem dlaw_1147 : D1 code 1147 (.iconst 3) 1 1148 := ⟨by decide +kernel, rfl⟩
set_option maxRecDepth 20000 in
theorem dlaw_1148 : D1 code 1148 (.iadd) 1 1149 := ⟨by decide +kernel, rfl⟩
set_option maxRecDepth 20000 in
theorem dlaw_1149 : D1 code 1149 (.iaload) 1 1150 := ⟨by decide +kernel, rfl⟩
set_option maxRecDepth 20000 in
theorem dlaw_1150 : D1 code 1150 (.invokevirtual 153) 3 1153 := ⟨by decide +kernel, rfl⟩
set_option maxRecDepth 20000 in
theorem dlaw_1153 : D1 code 1153 (.aload_n 2) 1 1154 := ⟨by decide +kernel, rfl⟩
set_option maxRecDepth 20000 in
theorem dlaw_1154 : D1 code 1154 (.aload_n 0) 1 1155 := ⟨by decide +kernel, rfl⟩
set_option maxRecDepth 20000 in
theorem dlaw_1155 : D1 code 1155 (.iload_n 3) 1 1156 := ⟨by decide +kernel, rfl⟩
set_option maxRecDepth 20000 in
theorem dlaw_1156 : D1 code 1156 (.iconst 1) 1 1157 := ⟨by decide +kernel, rfl⟩
set_option maxRecDepth 20000 in
theorem dlaw_1157 : D1 code 1157 (.iadd) 1 1158 := ⟨by decide +kernel, rfl⟩
set_option maxRecDepth 20000 in
theorem dlaw_1158 : D1 code 1158 (.iaload) 1 1159 := ⟨by decide +kernel, rfl⟩
set_option maxRecDepth 20000 in
theorem dlaw_1159 : D1 code 1159 (.aload_n 0) 1 1160 := ⟨by decide +kernel, rfl⟩
set_option maxRecDepth 20000 in
theorem dlaw_1160 : D1 code 1160 (.iload_n 3) 1 1161 := ⟨by decide +kernel, rfl⟩
set_option maxRecDepth 20000 in
theorem dlaw_1161 : D1 code 1161 (.iconst 2) 1 1162 := ⟨by decide +kernel, rfl⟩
set_option maxRecDepth 20000 in
theorem dlaw_1162 : D1 code 1162 (.iadd) 1 1163 := ⟨by decide +kernel, rfl⟩
set_option maxRecDepth 20000 in
theorem dlaw_1163 : D1 code 1163 (.iaload) 1 1164 := ⟨by decide +kernel, rfl⟩
set_option maxRecDepth 20000 in
theorem dlaw_1164 : D1 code 1164 (.aload_n 0) 1 1165 := ⟨by decide +kernel, rfl⟩
set_option maxRecDepth 20000 in
theorem dlaw_1165 : D1 code 1165 (.iload_n 3) 1 1166 := ⟨by decide +kernel, rfl⟩
set_option maxRecDepth 20000 in
theorem dlaw_1166 : D1 code 1166 (.iconst 3) 1 1167 := ⟨by decide +kernel, rfl⟩
set_option maxRecDepth 20000 in
theorem dlaw_1167 : D1 code 1167 (.iadd) 1 1168 := ⟨by decide +kernel, rfl⟩
set_option maxRecDepth 20000 in
theorem dlaw_1168 : D1 code 1168 (.iaload) 1 1169 := ⟨by decide +kernel, rfl⟩
set_option maxRecDepth 20000 in
theorem dlaw_1169 : D1 code 1169 (.invokevirtual 156) 3 1172 := ⟨by decide +kernel, rfl⟩
set_option maxRecDepth 20000 in
theorem dlaw_1172 : DJ code 1172 (.if_icmp .eq) 1175 1490 := ⟨318, by decide +kernel, rfl, by decide⟩
set_option maxRecDepth 20000 in
theorem dlaw_1175 : D1 code 1175 (.iconst 0) 1 1176 := ⟨by decide +kernel, rfl⟩
set_option maxRecDepth 20000 in
theorem dlaw_1176 : D1 code 1176 (.ireturn) 1 1177 := ⟨by decide +kernel, rfl⟩
set_option maxRecDepth 20000 in
theorem dlaw_1177 : D1 code 1177 (.aload_n 1) 1 1178 := ⟨by decide +kernel, rfl⟩
set_option maxRecDepth 20000 in
theorem dlaw_1178 : D1 code 1178 (.aload_n 0) 1 1179 := ⟨by decide +kernel, rfl⟩
set_option maxRecDepth 20000 in
theorem dlaw_1179 : D1 code 1179 (.iload_n 3) 1 1180 := ⟨by decide +kernel, rfl⟩
set_option maxRecDepth 20000 in
theorem dlaw_1180 : D1 code 1180 (.iconst 1) 1 1181 := ⟨by decide +kernel, rfl⟩
set_option maxRecDepth 20000 in
theorem dlaw_1181 : D1 code 1181 (.iadd) 1 1182 := ⟨by decide +kernel, rfl⟩
set_option maxRecDepth 20000 in
theorem dlaw_1182 : D1 code 1182 (.iaload) 1 1183 := ⟨by decide +kernel, rfl⟩
set_option maxRecDepth 20000 in
theorem dlaw_1183 : D1 code 1183 (.aload_n 0) 1 1184 := ⟨by decide +kernel, rfl⟩
set_option maxRecDepth 20000 in
theorem dlaw_1184 : D1 code 1184 (.iload_n 3) 1 1185 := ⟨by decide +kernel, rfl⟩
set_option maxRecDepth 20000 in
theorem dlaw_1185 : D1 code 1185 (.iconst 2) 1 1186 := ⟨by decide +kernel, rfl⟩
set_option maxRecDepth 20000 in
theorem dlaw_1186 : D1 code 1186 (.iadd) 1 1187 := ⟨by decide +kernel, rfl⟩
set_option maxRecDepth 20000 in
theorem dlaw_1187 : D1 code 1187 (.iaload) 1 1188 := ⟨by decide +kernel, rfl⟩
set_option maxRecDepth 20000 in
theorem dlaw_1188 : D1 code 1188 (.aload_n 0) 1 1189 := ⟨by decide +kernel, rfl⟩
set_option maxRecDepth 20000 in
theorem dlaw_1189 : D1 code 1189 (.iload_n 3) 1 1190 := ⟨by decide +kernel, rfl⟩
set_option maxRecDepth 20000 in
theorem dlaw_1190 : D1 code 1190 (.iconst 3) 1 1191 := ⟨by decide +kernel, rfl⟩
set_option maxRecDepth 20000 in
theorem dlaw_1191 : D1 code 1191 (.iadd) 1 1192 := ⟨by decide +kernel, rfl⟩
set_option maxRecDepth 20000 in
theorem dlaw_1192 : D1 code 1192 (.iaload) 1 1193 := ⟨by decide +kernel, rfl⟩
set_option maxRecDepth 20000 in
theorem dlaw_1193 : D1 code 1193 (.invokevirtual 157) 3 1196 := ⟨by decide +kernel, rfl⟩
set_option maxRecDepth 20000 in
theorem dlaw_1196 : D1 code 1196 (.aload_n 2) 1 1197 := ⟨by decide +kernel, rfl⟩
set_option maxRecDepth 20000 in
theorem dlaw_1197 : D1 code 1197 (.aload_n 0) 1 1198 := ⟨by decide +kernel, rfl⟩
set_option maxRecDepth 20000 in
theorem dlaw_1198 : D1 code 1198 (.iload_n 3) 1 1199 := ⟨by decide +kernel, rfl⟩
set_option maxRecDepth 20000 in
theorem dlaw_1199 : D1 code 1199 (.iconst 1) 1 1200 := ⟨by decide +kernel, rfl⟩
set_option maxRecDepth 20000 in
theorem dlaw_1200 : D1 code 1200 (.iadd) 1 1201 := ⟨by decide +kernel, rfl⟩
set_option maxRecDepth 20000 in
theorem dlaw_1201 : D1 code 1201 (.iaload) 1 1202 := ⟨by decide +kernel, rfl⟩
set_option maxRecDepth 20000 in
theorem dlaw_1202 : D1 code 1202 (.aload_n 0) 1 1203 := ⟨by decide +kernel, rfl⟩
set_option maxRecDepth 20000 in
theorem dlaw_1203 : D1 code 1203 (.iload_n 3) 1 1204 := ⟨by decide +kernel, rfl⟩
set_option maxRecDepth 20000 in
theorem dlaw_1204 : D1 code 1204 (.iconst 2) 1 1205 := ⟨by decide +kernel, rfl⟩
set_option maxRecDepth 20000 in
theorem dlaw_1205 : D1 code 1205 (.iadd) 1 1206 := ⟨by decide +kernel, rfl⟩
set_option maxRecDepth 20000 in
theorem dlaw_1206 : D1 code 1206 (.iaload) 1 1207 := ⟨by decide +kernel, rfl⟩
set_option maxRecDepth 20000 in
theorem dlaw_1207 : D1 code 1207 (.aload_n 0) 1 1208 := ⟨by decide +kernel, rfl⟩
set_option maxRecDepth 20000 in
theorem dlaw_1208 : D1 code 1208 (.iload_n 3) 1 1209 := ⟨by decide +kernel, rfl⟩
set_option maxRecDepth 20000 in
theorem dlaw_1209 : D1 code 1209 (.iconst 3) 1 1210 := ⟨by decide +kernel, rfl⟩
set_option maxRecDepth 20000 in
theorem dlaw_1210 : D1 code 1210 (.iadd) 1 1211 := ⟨by decide +kernel, rfl⟩
set_option maxRecDepth 20000 in
theorem dlaw_1211 : D1 code 1211 (.iaload) 1 1212 := ⟨by decide +kernel, rfl⟩
set_option maxRecDepth 20000 in
theorem dlaw_1212 : D1 code 1212 (.invokevirtual 160) 3 1215 := ⟨by decide +kernel, rfl⟩
set_option maxRecDepth 20000 in
theorem dlaw_1215 : DJ code 1215 (.if_icmp .eq) 1218 1490 := ⟨275, by decide +kernel, rfl, by decide⟩
set_option maxRecDepth 20000 in
theorem dlaw_1218 : D1 code 1218 (.iconst 0) 1 1219 := ⟨by decide +kernel, rfl⟩
set_option maxRecDepth 20000 in
theorem dlaw_1219 : D1 code 1219 (.ireturn) 1 1220 := ⟨by decide +kernel, rfl⟩
set_option maxRecDepth 20000 in
theorem dlaw_1220 : D1 code 1220 (.aload_n 1) 1 1221 := ⟨by decide +kernel, rfl⟩
set_option maxRecDepth 20000 in
theorem dlaw_1221 : D1 code 1221 (.aload_n 0) 1 1222 := ⟨by decide +kernel, rfl⟩
set_option maxRecDepth 20000 in
theorem dlaw_1222 : D1 code 1222 (.iload_n 3) 1 1223 := ⟨by decide +kernel, rfl⟩
set_option maxRecDepth 20000 in
theorem dlaw_1223 : D1 code 1223 (.iconst 1) 1 1224 := ⟨by decide +kernel, rfl⟩
set_option maxRecDepth 20000 in
theorem dlaw_1224 : D1 code 1224 (.iadd) 1 1225 := ⟨by decide +kernel, rfl⟩
set_option maxRecDepth 20000 in
theorem dlaw_1225 : D1 code 1225 (.iaload) 1 1226 := ⟨by decide +kernel, rfl⟩
set_option maxRecDepth 20000 in
theorem dlaw_1226 : D1 code 1226 (.aload_n 0) 1 1227 := ⟨by decide +kernel, rfl⟩
set_option maxRecDepth 20000 in
theorem dlaw_1227 : D1 code 1227 (.iload_n 3) 1 1228 := ⟨by decide +kernel, rfl⟩
set_option maxRecDepth 20000 in
theorem dlaw_1228 : D1 code 1228 (.iconst 2) 1 1229 := ⟨by decide +kernel, rfl⟩
set_option maxRecDepth 20000 in
theorem dlaw_1229 : D1 code 1229 (.iadd) 1 1230 := ⟨by decide +kernel, rfl⟩
set_option maxRecDepth 20000 in
theorem dlaw_1230 : D1 code 1230 (.iaload) 1 1231 := ⟨by decide +kernel, rfl⟩
set_option maxRecDepth 20000 in
theorem dlaw_1231 : D1 code 1231 (.aload_n 0) 1 1232 := ⟨by decide +kernel, rfl⟩
set_option maxRecDepth 20000 in
theorem dlaw_1232 : D1 code 1232 (.iload_n 3) 1 1233 := ⟨by decide +kernel, rfl⟩
set_option maxRecDepth 20000 in
theorem dlaw_1233 : D1 code 1233 (.iconst 3) 1 1234 := ⟨by decide +kernel, rfl⟩
set_option maxRecDepth 20000 in
theorem dlaw_1234 : D1 code 1234 (.iadd) 1 1235 := ⟨by decide +kernel, rfl⟩
set_option maxRecDepth 20000 in
theorem dlaw_1235 : D1 code 1235 (.iaload) 1 1236 := ⟨by decide +kernel, rfl⟩
set_option maxRecDepth 20000 in
theorem dlaw_1236 : D1 code 1236 (.aload_n 0) 1 1237 := ⟨by decide +kernel, rfl⟩
set_option maxRecDepth 20000 in
theorem dlaw_1237 : D1 code 1237 (.iload_n 3) 1 1238 := ⟨by decide +kernel, rfl⟩
set_option maxRecDepth 20000 in
theorem dlaw_1238 : D1 code 1238 (.iconst 4) 1 1239 := ⟨by decide +kernel, rfl⟩
set_option maxRecDepth 20000 in
theorem dlaw_1239 : D1 code 1239 (.iadd) 1 1240 := ⟨by decide +kernel, rfl⟩
set_option maxRecDepth 20000 in
theorem dlaw_1240 : D1 code 1240 (.iaload) 1 1241 := ⟨by decide +kernel, rfl⟩
set_option maxRecDepth 20000 in
theorem dlaw_1241 : D1 code 1241 (.aload_n 0) 1 1242 := ⟨by decide +kernel, rfl⟩
set_option maxRecDepth 20000 in
theorem dlaw_1242 : D1 code 1242 (.iload_n 3) 1 1243 := ⟨by decide +kernel, rfl⟩
set_option maxRecDepth 20000 in
theorem dlaw_1243 : D1 code 1243 (.iconst 5) 1 1244 := ⟨by decide +kernel, rfl⟩
set_option maxRecDepth 20000 in
theorem dlaw_1244 : D1 code 1244 (.iadd) 1 1245 := ⟨by decide +kernel, rfl⟩
set_option maxRecDepth 20000 in
theorem dlaw_1245 : D1 code 1245 (.iaload) 1 1246 := ⟨by decide +kernel, rfl⟩
set_option maxRecDepth 20000 in
theorem dlaw_1246 : D1 code 1246 (.invokevirtual 161) 3 1249 := ⟨by decide +kernel, rfl⟩
set_option maxRecDepth 20000 in
theorem dlaw_1249 : D1 code 1249 (.aload_n 2) 1 1250 := ⟨by decide +kernel, rfl⟩
set_option maxRecDepth 20000 in
theorem dlaw_1250 : D1 code 1250 (.aload_n 0) 1 1251 := ⟨by decide +kernel, rfl⟩
set_option maxRecDepth 20000 in
theorem dlaw_1251 : D1 code 1251 (.iload_n 3) 1 1252 := ⟨by decide +kernel, rfl⟩
set_option maxRecDepth 20000 in
theorem dlaw_1252 : D1 code 1252 (.iconst 1) 1 1253 := ⟨by decide +kernel, rfl⟩
set_option maxRecDepth 20000 in
theorem dlaw_1253 : D1 code 1253 (.iadd) 1 1254 := ⟨by decide +kernel, rfl⟩
set_option maxRecDepth 20000 in
theorem dlaw_1254 : D1 code 1254 (.iaload) 1 1255 := ⟨by decide +kernel, rfl⟩
set_option maxRecDepth 20000 in
theorem dlaw_1255 : D1 code 1255 (.aload_n 0) 1 1256 := ⟨by decide +kernel, rfl⟩
set_option maxRecDepth 20000 in
theorem dlaw_1256 : D1 code 1256 (.iload_n 3) 1 1257 := ⟨by decide +kernel, rfl⟩
set_option maxRecDepth 20000 in
theorem dlaw_1257 : D1 code 1257 (.iconst 2) 1 1258 := ⟨by decide +kernel, rfl⟩
set_option maxRecDepth 20000 in
theorem dlaw_1258 : D1 code 1258 (.iadd) 1 1259 := ⟨by decide +kernel, rfl⟩
set_option maxRecDepth 20000 in
theorem dlaw_1259 : D1 code 1259 (.iaload) 1 1260 := ⟨by decide +kernel, rfl⟩
set_option maxRecDepth 20000 in
theorem dlaw_1260 : D1 code 1260 (.aload_n 0) 1 1261 := ⟨by decide +kernel, rfl⟩
set_option maxRecDepth 20000 in
theorem dlaw_1261 : D1 code 1261 (.iload_n 3) 1 1262 := ⟨by decide +kernel, rfl⟩
set_option maxRecDepth 20000 in
theorem dlaw_1262 : D1 code 1262 (.iconst 3) 1 1263 := ⟨by decide +kernel, rfl⟩
set_option maxRecDepth 20000 in
theorem dlaw_1263 : D1 code 1263 (.iadd) 1 1264 := ⟨by decide +kernel, rfl⟩
set_option maxRecDepth 20000 in
theorem dlaw_1264 : D1 code 1264 (.iaload) 1 1265 := ⟨by decide +kernel, rfl⟩
set_option maxRecDepth 20000 in
theorem dlaw_1265 : D1 code 1265 (.aload_n 0) 1 1266 := ⟨by decide +kernel, rfl⟩
set_option maxRecDepth 20000 in
theorem dlaw_1266 : D1 code 1266 (.iload_n 3) 1 1267 := ⟨by decide +kernel, rfl⟩
set_option maxRecDepth 20000 in
theorem dlaw_1267 : D1 code 1267 (.iconst 4) 1 1268 := ⟨by decide +kernel, rfl⟩
set_option maxRecDepth 20000 in
theorem dlaw_1268 : D1 code 1268 (.iadd) 1 1269 := ⟨by decide +kernel, rfl⟩
set_option maxRecDepth 20000 in
theorem dlaw_1269 : D1 code 1269 (.iaload) 1 1270 := ⟨by decide +kernel, rfl⟩
set_option maxRecDepth 20000 in
theorem dlaw_1270 : D1 code 1270 (.aload_n 0) 1 1271 := ⟨by decide +kernel, rfl⟩
set_option maxRecDepth 20000 in
theorem dlaw_1271 : D1 code 1271 (.iload_n 3) 1 1272 := ⟨by decide +kernel, rfl⟩
set_option maxRecDepth 20000 in
theorem dlaw_1272 : D1 code 1272 (.iconst 5) 1 1273 := ⟨by decide +kernel, rfl⟩
set_option maxRecDepth 20000 in
theorem dlaw_1273 : D1 code 1273 (.iadd) 1 1274 := ⟨by decide +kernel, rfl⟩
set_option maxRecDepth 20000 in
theorem dlaw_1274 : D1 code 1274 (.iaload) 1 1275 := ⟨by decide +kernel, rfl⟩
set_option maxRecDepth 20000 in
theorem dlaw_1275 : D1 code 1275 (.invokevirtual 165) 3 1278 := ⟨by decide +kernel, rfl⟩
set_option maxRecDepth 20000 in
theorem dlaw_1278 : DJ code 1278 (.if_icmp .eq) 1281 1490 := ⟨212, by decide +kernel, rfl, by decide⟩
set_option maxRecDepth 20000 in
theorem dlaw_1281 : D1 code 1281 (.iconst 0) 1 1282 := ⟨by decide +kernel, rfl⟩
set_option maxRecDepth 20000 in
theorem dlaw_1282 : D1 code 1282 (.ireturn) 1 1283 := ⟨by decide +kernel, rfl⟩
set_option maxRecDepth 20000 in
theorem dlaw_1283 : D1 code 1283 (.aload_n 1) 1 1284 := ⟨by decide +kernel, rfl⟩
set_option maxRecDepth 20000 in
theorem dlaw_1284 : D1 code 1284 (.aload_n 0) 1 1285 := ⟨by decide +kernel, rfl⟩
set_option maxRecDepth 20000 in
theorem dlaw_1285 : D1 code 1285 (.iload_n 3) 1 1286 := ⟨by decide +kernel, rfl⟩
set_option maxRecDepth 20000 in
theorem dlaw_1286 : D1 code 1286 (.iconst 1) 1 1287 := ⟨by decide +kernel, rfl⟩
set_option maxRecDepth 20000 in
theorem dlaw_1287 : D1 code 1287 (.iadd) 1 1288 := ⟨by decide +kernel, rfl⟩
set_option maxRecDepth 20000 in
theorem dlaw_1288 : D1 code 1288 (.iaload) 1 1289 := ⟨by decide +kernel, rfl⟩
set_option maxRecDepth 20000 in
theorem dlaw_1289 : D1 code 1289 (.invokevirtual 166) 3 1292 := ⟨by decide +kernel, rfl⟩
set_option maxRecDepth 20000 in
theorem dlaw_1292 : D1 code 1292 (.aload_n 2) 1 1293 := ⟨by decide +kernel, rfl⟩
set_option maxRecDepth 20000 in
theorem dlaw_1293 : D1 code 1293 (.aload_n 0) 1 1294 := ⟨by decide +kernel, rfl⟩
set_option maxRecDepth 20000 in
theorem dlaw_1294 : D1 code 1294 (.iload_n 3) 1 1295 := ⟨by decide +kernel, rfl⟩
set_option maxRecDepth 20000 in
theorem dlaw_1295 : D1 code 1295 (.iconst 1) 1 1296 := ⟨by decide +kernel, rfl⟩
set_option maxRecDepth 20000 in
theorem dlaw_1296 : D1 code 1296 (.iadd) 1 1297 := ⟨by decide +kernel, rfl⟩
set_option maxRecDepth 20000 in
theorem dlaw_1297 : D1 code 1297 (.iaload) 1 1298 := ⟨by decide +kernel, rfl⟩
set_option maxRecDepth 20000 in
theorem dlaw_1298 : D1 code 1298 (.invokevirtual 169) 3 1301 := ⟨by decide +kernel, rfl⟩
set_option maxRecDepth 20000 in
theorem dlaw_1301 : DJ code 1301 (.if_icmp .eq) 1304 1490 := ⟨189, by decide +kernel, rfl, by decide⟩
set_option maxRecDepth 20000 in
theorem dlaw_1304 : D1 code 1304 (.iconst 0) 1 1305 := ⟨by decide +kernel, rfl⟩
set_option maxRecDepth 20000 in
theorem dlaw_1305 : D1 code 1305 (.ireturn) 1 1306 := ⟨by decide +kernel, rfl⟩
set_option maxRecDepth 20000 in
theorem dlaw_1306 : D1 code 1306 (.aload_n 1) 1 1307 := ⟨by decide +kernel, rfl⟩
set_option maxRecDepth 20000 in
theorem dlaw_1307 : D1 code 1307 (.aload_n 0) 1 1308 := ⟨by decide +kernel, rfl⟩
set_option maxRecDepth 20000 in
theorem dlaw_1308 : D1 code 1308 (.iload_n 3) 1 1309 := ⟨by decide +kernel, rfl⟩
set_option maxRecDepth 20000 in
theorem dlaw_1309 : D1 code 1309 (.iconst 1) 1 1310 := ⟨by decide +kernel, rfl⟩
set_option maxRecDepth 20000 in
theorem dlaw_1310 : D1 code 1310 (.iadd) 1 1311 := ⟨by decide +kernel, rfl⟩
set_option maxRecDepth 20000 in
theorem dlaw_1311 : D1 code 1311 (.iaload) 1 1312 := ⟨by decide +kernel, rfl⟩
set_option maxRecDepth 20000 in
theorem dlaw_1312 : D1 code 1312 (.aload_n 0) 1 1313 := ⟨by decide +kernel, rfl⟩
set_option maxRecDepth 20000 in
theorem dlaw_1313 : D1 code 1313 (.iload_n 3) 1 1314 := ⟨by decide +kernel, rfl⟩
set_option maxRecDepth 20000 in
theorem dlaw_1314 : D1 code 1314 (.iconst 2) 1 1315 := ⟨by decide +kernel, rfl⟩
set_option maxRecDepth 20000 in
theorem dlaw_1315 : D1 code 1315 (.iadd) 1 1316 := ⟨by decide +kernel, rfl⟩
set_option maxRecDepth 20000 in
theorem dlaw_1316 : D1 code 1316 (.iaload) 1 1317 := ⟨by decide +kernel, rfl⟩
set_option maxRecDepth 20000 in
theorem dlaw_1317 : D1 code 1317 (.invokevirtual 170) 3 1320 := ⟨by decide +kernel, rfl⟩
set_option maxRecDepth 20000 in
theorem dlaw_1320 : D1 code 1320 (.aload_n 2) 1 1321 := ⟨by decide +kernel, rfl⟩
set_option maxRecDepth 20000 in
theorem dlaw_1321 : D1 code 1321 (.aload_n 0) 1 1322 := ⟨by decide +kernel, rfl⟩
set_option maxRecDepth 20000 in
theorem dlaw_1322 : D1 code 1322 (.iload_n 3) 1 1323 := ⟨by decide +kernel, rfl⟩
set_option maxRecDepth 20000 in
theorem dlaw_1323 : D1 code 1323 (.iconst 1) 1 1324 := ⟨by decide +kernel, rfl⟩
set_option maxRecDepth 20000 in
theorem dlaw_1324 : D1 code 1324 (.iadd) 1 1325 := ⟨by decide +kernel, rfl⟩
set_option maxRecDepth 20000 in
theorem dlaw_1325 : D1 code 1325 (.iaload) 1 1326 := ⟨by decide +kernel, rfl⟩
set_option maxRecDepth 20000 in
theorem dlaw_1326 : D1 code 1326 (.aload_n 0) 1 1327 := ⟨by decide +kernel, rfl⟩
set_option maxRecDepth 20000 in
theorem dlaw_1327 : D1 code 1327 (.iload_n 3) 1 1328 := ⟨by decide +kernel, rfl⟩
set_option maxRecDepth 20000 in
theorem dlaw_1328 : D1 code 1328 (.iconst 2) 1 1329 := ⟨by decide +kernel, rfl⟩
set_option maxRecDepth 20000 in
theorem dlaw_1329 : D1 code 1329 (.iadd) 1 1330 := ⟨by decide +kernel, rfl⟩
set_option maxRecDepth 20000 in
theorem dlaw_1330 : D1 code 1330 (.iaload) 1 1331 := ⟨by decide +kernel, rfl⟩
set_option maxRecDepth 20000 in
theorem dlaw_1331 : D1 code 1331 (.invokevirtual 173) 3 1334 := ⟨by decide +kernel, rfl⟩
set_option maxRecDepth 20000 in
theorem dlaw_1334 : DJ code 1334 (.if_icmp .eq) 1337 1490 := ⟨156, by decide +kernel, rfl, by decide⟩
set_option maxRecDepth 20000 in
theorem dlaw_1337 : D1 code 1337 (.iconst 0) 1 1338 := ⟨by decide +kernel, rfl⟩
set_option maxRecDepth 20000 in
theorem dlaw_1338 : D1 code 1338 (.ireturn) 1 1339 := ⟨by decide +kernel, rfl⟩
set_option maxRecDepth 20000 in
theorem dlaw_1339 : D1 code 1339 (.aload_n 1) 1 1340 := ⟨by decide +kernel, rfl⟩
set_option maxRecDepth 20000 in
theorem dlaw_1340 : D1 code 1340 (.aload_n 0) 1 1341 := ⟨by decide +kernel, rfl⟩
set_option maxRecDepth 20000 in
theorem dlaw_1341 : D1 code 1341 (.iload_n 3) 1 1342 := ⟨by decide +kernel, rfl⟩
set_option maxRecDepth 20000 in
theorem dlaw_1342 : D1 code 1342 (.iconst 1) 1 1343 := ⟨by decide +kernel, rfl⟩
set_option maxRecDepth 20000 in
theorem dlaw_1343 : D1 code 1343 (.iadd) 1 1344 := ⟨by decide +kernel, rfl⟩
set_option maxRecDepth 20000 in
theorem dlaw_1344 : D1 code 1344 (.iaload) 1 1345 := ⟨by decide +kernel, rfl⟩
set_option maxRecDepth 20000 in
theorem dlaw_1345 : D1 code 1345 (.aload_n 0) 1 1346 := ⟨by decide +kernel, rfl⟩
set_option maxRecDepth 20000 in
theorem dlaw_1346 : D1 code 1346 (.iload_n 3) 1 1347 := ⟨by decide +kernel, rfl⟩
set_option maxRecDepth 20000 in
theorem dlaw_1347 : D1 code 1347 (.iconst 2) 1 1348 := ⟨by decide +kernel, rfl⟩
set_option maxRecDepth 20000 in
theorem dlaw_1348 : D1 code 1348 (.iadd) 1 1349 := ⟨by decide +kernel, rfl⟩
set_option maxRecDepth 20000 in
theorem dlaw_1349 : D1 code 1349 (.iaload) 1 1350 := ⟨by decide +kernel, rfl⟩
set_option maxRecDepth 20000 in
theorem dlaw_1350 : D1 code 1350 (.invokevirtual 174) 3 1353 := ⟨by decide +kernel, rfl⟩
set_option maxRecDepth 20000 in
theorem dlaw_1353 : D1 code 1353 (.aload_n 2) 1 1354 := ⟨by decide +kernel, rfl⟩
set_option maxRecDepth 20000 in
theorem dlaw_1354 : D1 code 1354 (.aload_n 0) 1 1355 := ⟨by decide +kernel, rfl⟩
set_option maxRecDepth 20000 in
theorem dlaw_1355 : D1 code 1355 (.iload_n 3) 1 1356 := ⟨by decide +kernel, rfl⟩
set_option maxRecDepth 20000 in
theorem dlaw_1356 : D1 code 1356 (.iconst 1) 1 1357 := ⟨by decide +kernel, rfl⟩
set_option maxRecDepth 20000 in
theorem dlaw_1357 : D1 code 1357 (.iadd) 1 1358 := ⟨by decide +kernel, rfl⟩
set_option maxRecDepth 20000 in
theorem dlaw_1358 : D1 code 1358 (.iaload) 1 1359 := ⟨by decide +kernel, rfl⟩
set_option maxRecDepth 20000 in
theorem dlaw_1359 : D1 code 1359 (.aload_n 0) 1 1360 := ⟨by decide +kernel, rfl⟩
set_option maxRecDepth 20000 in
theorem dlaw_1360 : D1 code 1360 (.iload_n 3) 1 1361 := ⟨by decide +kernel, rfl⟩
set_option maxRecDepth 20000 in
theorem dlaw_1361 : D1 code 1361 (.iconst 2) 1 1362 := ⟨by decide +kernel, rfl⟩
set_option maxRecDepth 20000 in
theorem dlaw_1362 : D1 code 1362 (.iadd) 1 1363 := ⟨by decide +kernel, rfl⟩
set_option maxRecDepth 20000 in
theorem dlaw_1363 : D1 code 1363 (.iaload) 1 1364 := ⟨by decide +kernel, rfl⟩
set_option maxRecDepth 20000 in
theorem dlaw_1364 : D1 code 1364 (.invokevirtual 177) 3 1367 := ⟨by decide +kernel, rfl⟩
set_option maxRecDepth 20000 in
theorem dlaw_1367 : DJ code 1367 (.if_icmp .eq) 1370 1490 := ⟨123, by decide +kernel, rfl, by decide⟩
set_option maxRecDepth 20000 in
theorem dlaw_1370 : D1 code 1370 (.iconst 0) 1 1371 := ⟨by decide +kernel, rfl⟩
set_option maxRecDepth 20000 in
theorem dlaw_1371 : D1 code 1371 (.ireturn) 1 1372 := ⟨by decide +kernel, rfl⟩
set_option maxRecDepth 20000 in
theorem dlaw_1372 : D1 code 1372 (.aload_n 1) 1 1373 := ⟨by decide +kernel, rfl⟩
set_option maxRecDepth 20000 in
theorem dlaw_1373 : D1 code 1373 (.aload_n 0) 1 1374 := ⟨by decide +kernel, rfl⟩
set_option maxRecDepth 20000 in
theorem dlaw_1374 : D1 code 1374 (.iload_n 3) 1 1375 := ⟨by decide +kernel, rfl⟩
set_option maxRecDepth 20000 in
theorem dlaw_1375 : D1 code 1375 (.iconst 1) 1 1376 := ⟨by decide +kernel, rfl⟩
set_option maxRecDepth 20000 in
theorem dlaw_1376 : D1 code 1376 (.iadd) 1 1377 := ⟨by decide +kernel, rfl⟩
set_option maxRecDepth 20000 in
theorem dlaw_1377 : D1 code 1377 (.iaload) 1 1378 := ⟨by decide +kernel, rfl⟩
set_option maxRecDepth 20000 in
theorem dlaw_1378 : D1 code 1378 (.aload_n 0) 1 1379 := ⟨by decide +kernel, rfl⟩
set_option maxRecDepth 20000 in
theorem dlaw_1379 : D1 code 1379 (.iload_n 3) 1 1380 := ⟨by decide +kernel, rfl⟩
set_option maxRecDepth 20000 in
theorem dlaw_1380 : D1 code 1380 (.iconst 2) 1 1381 := ⟨by decide +kernel, rfl⟩
set_option maxRecDepth 20000 in
theorem dlaw_1381 : D1 code 1381 (.iadd) 1 1382 := ⟨by decide +kernel, rfl⟩
set_option maxRecDepth 20000 in
theorem dlaw_1382 : D1 code 1382 (.iaload) 1 1383 := ⟨by decide +kernel, rfl⟩
set_option maxRecDepth 20000 in
theorem dlaw_1383 : D1 code 1383 (.invokevirtual 178) 3 1386 := ⟨by decide +kernel, rfl⟩
set_option maxRecDepth 20000 in
theorem dlaw_1386 : D1 code 1386 (.aload_n 2) 1 1387 := ⟨by decide +kernel, rfl⟩
set_option maxRecDepth 20000 in
theorem dlaw_1387 : D1 code 1387 (.aload_n 0) 1 1388 := ⟨by decide +kernel, rfl⟩
set_option maxRecDepth 20000 in
theorem dlaw_1388 : D1 code 1388 (.iload_n 3) 1 1389 := ⟨by decide +kernel, rfl⟩
set_option maxRecDepth 20000 in
theorem dlaw_1389 : D1 code 1389 (.iconst 1) 1 1390 := ⟨by decide +kernel, rfl⟩
set_option maxRecDepth 20000 in
theorem dlaw_1390 : D1 code 1390 (.iadd) 1 1391 := ⟨by decide +kernel, rfl⟩
set_option maxRecDepth 20000 in
theorem dlaw_1391 : D1 code 1391 (.iaload) 1 1392 := ⟨by decide +kernel, rfl⟩
set_option maxRecDepth 20000 in
theorem dlaw_1392 : D1 code 1392 (.aload_n 0) 1 1393 := ⟨by decide +kernel, rfl⟩
set_option maxRecDepth 20000 in
theorem dlaw_1393 : D1 code 1393 (.iload_n 3) 1 1394 := ⟨by decide +kernel, rfl⟩
set_option maxRecDepth 20000 in
theorem dlaw_1394 : D1 code 1394 (.iconst 2) 1 1395 := ⟨by decide +kernel, rfl⟩
set_option maxRecDepth 20000 in
theorem dlaw_1395 : D1 code 1395 (.iadd) 1 1396 := ⟨by decide +kernel, rfl⟩
set_option maxRecDepth 20000 in
theorem dlaw_1396 : D1 code 1396 (.iaload) 1 1397 := ⟨by decide +kernel, rfl⟩
set_option maxRecDepth 20000 in
theorem dlaw_1397 : D1 code 1397 (.invokevirtual 181) 3 1400 := ⟨by decide +kernel, rfl⟩
set_option maxRecDepth 20000 in
theorem dlaw_1400 : DJ code 1400 (.if_icmp .eq) 1403 1490 := ⟨90, by decide +kernel, rfl, by decide⟩
set_option maxRecDepth 20000 in
theorem dlaw_1403 : D1 code 1403 (.iconst 0) 1 1404 := ⟨by decide +kernel, rfl⟩
set_option maxRecDepth 20000 in
theorem dlaw_1404 : D1 code 1404 (.ireturn) 1 1405 := ⟨by decide +kernel, rfl⟩
set_option maxRecDepth 20000 in
theorem dlaw_1405 : D1 code 1405 (.aload_n 1) 1 1406 := ⟨by decide +kernel, rfl⟩
set_option maxRecDepth 20000 in
theorem dlaw_1406 : D1 code 1406 (.invokevirtual 182) 3 1409 := ⟨by decide +kernel, rfl⟩
set_option maxRecDepth 20000 in
theorem dlaw_1409 : D1 code 1409 (.aload_n 2) 1 1410 := ⟨by decide +kernel, rfl⟩
set_option maxRecDepth 20000 in
theorem dlaw_1410 : D1 code 1410 (.invokevirtual 185) 3 1413 := ⟨by decide +kernel, rfl⟩
set_option maxRecDepth 20000 in
theorem dlaw_1413 : DJ code 1413 (.if_icmp .eq) 1416 1490 := ⟨77, by decide +kernel, rfl, by decide⟩
set_option maxRecDepth 20000 in
theorem dlaw_1416 : D1 code 1416 (.iconst 0) 1 1417 := ⟨by decide +kernel, rfl⟩
set_option maxRecDepth 20000 in
theorem dlaw_1417 : D1 code 1417 (.ireturn) 1 1418 := ⟨by decide +kernel, rfl⟩
set_option maxRecDepth 20000 in
theorem dlaw_1418 : D1 code 1418 (.aload_n 1) 1 1419 := ⟨by decide +kernel, rfl⟩
set_option maxRecDepth 20000 in
theorem dlaw_1419 : D1 code 1419 (.invokevirtual 186) 3 1422 := ⟨by decide +kernel, rfl⟩
set_option maxRecDepth 20000 in
theorem dlaw_1422 : D1 code 1422 (.aload_n 2) 1 1423 := ⟨by decide +kernel, rfl⟩
set_option maxRecDepth 20000 in
theorem dlaw_1423 : D1 code 1423 (.invokevirtual 189) 3 1426 := ⟨by decide +kernel, rfl⟩
set_option maxRecDepth 20000 in
theorem dlaw_1426 : DJ code 1426 (.if_icmp .eq) 1429 1490 := ⟨64, by decide +kernel, rfl, by decide⟩
set_option maxRecDepth 20000 in
theorem dlaw_1429 : D1 code 1429 (.iconst 0) 1 1430 := ⟨by decide +kernel, rfl⟩
set_option maxRecDepth 20000 in
theorem dlaw_1430 : D1 code 1430 (.ireturn) 1 1431 := ⟨by decide +kernel, rfl⟩
set_option maxRecDepth 20000 in
theorem dlaw_1431 : D1 code 1431 (.aload_n 1) 1 1432 := ⟨by decide +kernel, rfl⟩
set_option maxRecDepth 20000 in
theorem dlaw_1432 : D1 code 1432 (.invokevirtual 190) 3 1435 := ⟨by decide +kernel, rfl⟩
set_option maxRecDepth 20000 in
theorem dlaw_1435 : D1 code 1435 (.aload_n 2) 1 1436 := ⟨by decide +kernel, rfl⟩
set_option maxRecDepth 20000 in
theorem dlaw_1436 : D1 code 1436 (.invokevirtual 193) 3 1439 := ⟨by decide +kernel, rfl⟩
set_option maxRecDepth 20000 in
theorem dlaw_1439 : DJ code 1439 (.if_icmp .eq) 1442 1490 := ⟨51, by decide +kernel, rfl, by decide⟩
set_option maxRecDepth 20000 in
theorem dlaw_1442 : D1 code 1442 (.iconst 0) 1 1443 := ⟨by decide +kernel, rfl⟩
set_option maxRecDepth 20000 in
theorem dlaw_1443 : D1 code 1443 (.ireturn) 1 1444 := ⟨by decide +kernel, rfl⟩
set_option maxRecDepth 20000 in
theorem dlaw_1444 : D1 code 1444 (.aload_n 1) 1 1445 := ⟨by decide +kernel, rfl⟩
set_option maxRecDepth 20000 in
theorem dlaw_1445 : D1 code 1445 (.aload_n 0) 1 1446 := ⟨by decide +kernel, rfl⟩
set_option maxRecDepth 20000 in
theorem dlaw_1446 : D1 code 1446 (.iload_n 3) 1 1447 := ⟨by decide +kernel, rfl⟩
set_option maxRecDepth 20000 in
theorem dlaw_1447 : D1 code 1447 (.iconst 1) 1 1448 := ⟨by decide +kernel, rfl⟩
set_option maxRecDepth 20000 in
theorem dlaw_1448 : D1 code 1448 (.iadd) 1 1449 := ⟨by decide +kernel, rfl⟩
set_option maxRecDepth 20000 in
theorem dlaw_1449 : D1 code 1449 (.iaload) 1 1450 := ⟨by decide +kernel, rfl⟩
set_option maxRecDepth 20000 in
theorem dlaw_1450 : D1 code 1450 (.invokevirtual 194) 3 1453 := ⟨by decide +kernel, rfl⟩
set_option maxRecDepth 20000 in
theorem dlaw_1453 : D1 code 1453 (.aload_n 2) 1 1454 := ⟨by decide +kernel, rfl⟩
set_option maxRecDepth 20000 in
theorem dlaw_1454 : D1 code 1454 (.aload_n 0) 1 1455 := ⟨by decide +kernel, rfl⟩
set_option maxRecDepth 20000 in
theorem dlaw_1455 : D1 code 1455 (.iload_n 3) 1 1456 := ⟨by decide +kernel, rfl⟩
set_option maxRecDepth 20000 in
theorem dlaw_1456 : D1 code 1456 (.iconst 1) 1 1457 := ⟨by decide +kernel, rfl⟩
set_option maxRecDepth 20000 in
theorem dlaw_1457 : D1 code 1457 (.iadd) 1 1458 := ⟨by decide +kernel, rfl⟩
set_option maxRecDepth 20000 in
theorem dlaw_1458 : D1 code 1458 (.iaload) 1 1459 := ⟨by decide +kernel, rfl⟩
set_option maxRecDepth 20000 in
theorem dlaw_1459 : D1 code 1459 (.invokevirtual 197) 3 1462 := ⟨by decide +kernel, rfl⟩
set_option maxRecDepth 20000 in
theorem dlaw_1462 : DJ code 1462 (.if_icmp .eq) 1465 1490 := ⟨28, by decide +kernel, rfl, by decide⟩
set_option maxRecDepth 20000 in
theorem dlaw_1465 : D1 code 1465 (.iconst 0) 1 1466 := ⟨by decide +kernel, rfl⟩
set_option maxRecDepth 20000 in
theorem dlaw_1466 : D1 code 1466 (.ireturn) 1 1467 := ⟨by decide +kernel, rfl⟩
set_option maxRecDepth 20000 in
theorem dlaw_1467 : D1 code 1467 (.aload_n 1) 1 1468 := ⟨by decide +kernel, rfl⟩
set_option maxRecDepth 20000 in
theorem dlaw_1468 : D1 code 1468 (.aload_n 0) 1 1469 := ⟨by decide +kernel, rfl⟩
set_option maxRecDepth 20000 in
theorem dlaw_1469 : D1 code 1469 (.iload_n 3) 1 1470 := ⟨by decide +kernel, rfl⟩
set_option maxRecDepth 20000 in
theorem dlaw_1470 : D1 code 1470 (.iconst 1) 1 1471 := ⟨by decide +kernel, rfl⟩
set_option maxRecDepth 20000 in
theorem dlaw_1471 : D1 code 1471 (.iadd) 1 1472 := ⟨by decide +kernel, rfl⟩
set_option maxRecDepth 20000 in
theorem dlaw_1472 : D1 code 1472 (.iaload) 1 1473 := ⟨by decide +kernel, rfl⟩
set_option maxRecDepth 20000 in
theorem dlaw_1473 : D1 code 1473 (.invokevirtual 198) 3 1476 := ⟨by decide +kernel, rfl⟩
set_option maxRecDepth 20000 in
theorem dlaw_1476 : D1 code 1476 (.aload_n 2) 1 1477 := ⟨by decide +kernel, rfl⟩
set_option maxRecDepth 20000 in
theorem dlaw_1477 : D1 code 1477 (.aload_n 0) 1 1478 := ⟨by decide +kernel, rfl⟩
set_option maxRecDepth 20000 in
theorem dlaw_1478 : D1 code 1478 (.iload_n 3) 1 1479 := ⟨by decide +kernel, rfl⟩
set_option maxRecDepth 20000 in
theorem dlaw_1479 : D1 code 1479 (.iconst 1) 1 1480 := ⟨by decide +kernel, rfl⟩
set_option maxRecDepth 20000 in
theorem dlaw_1480 : D1 code 1480 (.iadd) 1 1481 := ⟨by decide +kernel, rfl⟩
set_option maxRecDepth 20000 in
theorem dlaw_1481 : D1 code 1481 (.iaload) 1 1482 := ⟨by decide +kernel, rfl⟩
set_option maxRecDepth 20000 in
theorem dlaw_1482 : D1 code 1482 (.invokevirtual 201) 3 1485 := ⟨by decide +kernel, rfl⟩
set_option maxRecDepth 20000 in
theorem dlaw_1485 : DJ code 1485 (.if_icmp .eq) 1488 1490 := ⟨5, by decide +kernel, rfl, by decide⟩
set_option maxRecDepth 20000 in
theorem dlaw_1488 : D1 code 1488 (.iconst 0) 1 1489 := ⟨by decide +kernel, rfl⟩
set_option maxRecDepth 20000 in
theorem dlaw_1489 : D1 code 1489 (.ireturn) 1 1490 := ⟨by decide +kernel, rfl⟩
set_option maxRecDepth 20000 in
theorem dlaw_1490 : D1 code 1490 (.iinc 3 6) 3 1493 := ⟨by decide +kernel, rfl⟩
set_option maxRecDepth 20000 in
theorem dlaw_1493 : DJ code 1493 .goto 1496 18 := ⟨(-1475), by decide +kernel, rfl, by decide⟩
set_option maxRecDepth 20000 in
theorem dlaw_1496 : D1 code 1496 (.iconst 1) 1 1497 := ⟨by decide +kernel, rfl⟩
set_option maxRecDepth 20000 in
theorem dlaw_1497 : D1 code 1497 (.ireturn) 1 1498 := ⟨by decide +kernel, rfl⟩
end
section
/-! THE JUDGEMENT V: a method's machine seen through a picture P of its heap, positional locals and a stack -/
abbrev Cx : Type := Program × Launch × Env × Room × State × MethodId × Array Value × List Frame × Method × Code × (State → Prop)
abbrev xP (x : Cx) : Program := x.1
abbrev xl (x : Cx) : Launch := x.2.1
abbrev xR (x : Cx) : Room := x.2.2.2.1
abbrev xs (x : Cx) : State := x.2.2.2.2.1
def stOK (L : List (Option Value)) (i : Nat) : Bool := Nat.blt i L.length && (i == 0 || match L[i-1]? with | some (some v) => v.category == 1 | _ => true)
def stOK2 (L : List (Option Value)) (i : Nat) : Bool := Nat.blt (i+1) L.length && (i == 0 || match L[i-1]? with | some (some v) => v.category == 1 | _ => true) && (match L[i+1]? with | some (some _) => false | _ => true)
def lvL : Nat → List (Option Value) → List (Nat × Value)
  | _, [] => []
  | i, none :: L => lvL (i + 1) L
  | i, some v :: L => (i, v) :: lvL (i + 1) L
theorem lvL_mem : ∀ (L : List (Option Value)) (i j : Nat) (v : Value), (j, v) ∈ lvL i L ↔ ∃ k, j = i + k ∧ L[k]? = some (some v) := by
  intro L
  induction L with
  | nil => intro i j v; simp [lvL]
  | cons o L ih =>
    intro i j v
    cases o with
    | none =>
      simp only [lvL, ih]
      constructor
      · rintro ⟨k, rfl, h⟩; exact ⟨k + 1, by omega, by simpa using h⟩
      · rintro ⟨k, rfl, h⟩
        cases k with
        | zero => simp at h
        | succ k => exact ⟨k, by omega, by simpa using h⟩
    | some w =>
      simp only [lvL, List.mem_cons, ih]
      constructor
      · rintro (h | ⟨k, rfl, h⟩)
        · obtain ⟨rfl, rfl⟩ := Prod.mk.inj h; exact ⟨0, by omega, by simp⟩
        · exact ⟨k + 1, by omega, by simpa using h⟩
      · rintro ⟨k, rfl, h⟩
        cases k with
        | zero =>
          have hw : w = v := by simpa using h
          exact Or.inl (by rw [hw]; simp)
        | succ k => exact Or.inr ⟨k, by omega, by simpa using h⟩
theorem stOK_lt {L : List (Option Value)} {i : Nat} (h : stOK L i = true) : i < L.length := by
  unfold stOK at h
  exact Nat.le_of_ble_eq_true (Bool.and_eq_true_iff.mp h).1
def LH (nL : Nat) (L : List (Option Value)) (ls : Array Slot) : Prop := L.length = nL ∧ lv_has ls nL (lvL 0 L)
theorem LH.at {nL : Nat} {L : List (Option Value)} {ls : Array Slot} (h : LH nL L ls) {i : Nat} {v : Value} (hi : L[i]? = some (some v)) : ls[i]? = some (.val v) :=
  h.2.2.2 (i, v) ((lvL_mem L 0 i v).mpr ⟨i, by omega, hi⟩)
theorem LH.st {nL : Nat} {L : List (Option Value)} {ls ls' : Array Slot} (h : LH nL L ls) {i : Nat} {v : Value} (ho : stOK L i = true)
    (h' : lv_has ls' nL ((i, v) :: (lvL 0 L).filter (fun q => !(q.1 == i) && !(q.1 + 1 == i && q.2.category == 2)))) : LH nL (L.set i (some v)) ls' := by
  have hlt := stOK_lt ho
  simp only [stOK, Bool.and_eq_true, Bool.or_eq_true] at ho
  refine ⟨by rw [List.length_set]; exact h.1, h'.1, h'.2.1, fun q hq => h'.2.2 q ?_⟩
  obtain ⟨j, w⟩ := q
  obtain ⟨k, hk, hw⟩ := (lvL_mem _ 0 j w).mp hq
  have hjk : k = j := by omega
  subst hjk
  by_cases hki : k = i
  · subst hki
    rw [List.getElem?_set_self hlt] at hw
    have : v = w := by simpa using hw
    subst this
    exact List.mem_cons_self
  · rw [List.getElem?_set_ne (Ne.symm hki)] at hw
    refine List.mem_cons_of_mem _ (List.mem_filter.mpr ⟨(lvL_mem L 0 k w).mpr ⟨k, by omega, hw⟩, ?_⟩)
    simp only [Bool.and_eq_true, Bool.not_eq_true', beq_eq_false_iff_ne, ne_eq]
    refine ⟨hki, ?_⟩
    by_cases hk1 : k + 1 = i
    · subst hk1
      rcases ho.2 with h0 | h0
      · simp at h0
      · simp only [Nat.add_sub_cancel, hw] at h0
        have h1 : w.category = 1 := by simpa using h0
        simp [h1]
    · simp [hk1]
def V (x : Cx) (A : Nat → Prop) (P : Heap → Prop) (k n pc : Nat) (L : List (Option Value)) (st : List Value) : Prop :=
  match x with
  | (p, l, e, R, s, m, args, below, meth, c, Q) => ∀ (H : Heap) (locs : List Loc) (ls : Array Slot), P H → va_S A s.heap H locs → LH c.maxLocals L ls → W p l e R s m args below meth c H locs k n Q (F0 m pc ls st)
/-- what holds of a method's machine all along -/
def CX (x : Cx) (cc : ByteArray) (own : String) (R : Room) : Prop :=
  match x with
  | (p, _, _, R', s, m, args, _, _, c, _) => p.tables.exec = Jvm.exec ∧ c.code = cc ∧ R' = R ∧ s.vm.findClass own = some m.cls ∧ ∀ w ∈ lw_gd, w.before args s = true
section ROWS
variable {x : Cx} {cc : ByteArray} {own : String} {R : Room} {A : Nat → Prop} {P : Heap → Prop} {k n pc pc' tgt : Nat} {L : List (Option Value)} {st : List Value}
def iush (a b : Int32) : Int32 := (a.toUInt32 >>> (b.toUInt32 &&& Int32.toUInt32 31)).toInt32
theorem V_iload_n (C : CX x cc own R) {i : Fin 4} {a : Int32} (hd : D1 cc pc (.iload_n i) 1 pc') (hl : L[(i : Nat)]? = some (some (.int a))) (h : V x A P k n pc' L (.int a :: st)) : V x A P k n pc L (st) := by
  obtain ⟨p, l, e, R', s, m, args, below, meth, c, Q⟩ := x
  obtain ⟨hx, hb, hR, hown, hts⟩ := C
  obtain ⟨hd, rfl⟩ := hd
  intro H locs ls hP hS hL
  exact lv_iload_n hx hb hd rfl (hL.at hl) (h H locs ls hP hS hL)
theorem V_iload (C : CX x cc own R) {i : Nat} {a : Int32} (hd : D1 cc pc (.iload i) 2 pc') (hl : L[i]? = some (some (.int a))) (h : V x A P k n pc' L (.int a :: st)) : V x A P k n pc L (st) := by
  obtain ⟨p, l, e, R', s, m, args, below, meth, c, Q⟩ := x
  obtain ⟨hx, hb, hR, hown, hts⟩ := C
  obtain ⟨hd, rfl⟩ := hd
  intro H locs ls hP hS hL
  exact lv_iload hx hb hd (hL.at hl) (h H locs ls hP hS hL)
theorem V_aload_n (C : CX x cc own R) {i : Fin 4} {a : Nat} (hd : D1 cc pc (.aload_n i) 1 pc') (hl : L[(i : Nat)]? = some (some (.ref a))) (h : V x A P k n pc' L (.ref a :: st)) : V x A P k n pc L (st) := by
  obtain ⟨p, l, e, R', s, m, args, below, meth, c, Q⟩ := x
  obtain ⟨hx, hb, hR, hown, hts⟩ := C
  obtain ⟨hd, rfl⟩ := hd
  intro H locs ls hP hS hL
  exact lv_aload_n hx hb hd rfl (hL.at hl) (h H locs ls hP hS hL)
theorem V_aload (C : CX x cc own R) {i : Nat} {a : Nat} (hd : D1 cc pc (.aload i) 2 pc') (hl : L[i]? = some (some (.ref a))) (h : V x A P k n pc' L (.ref a :: st)) : V x A P k n pc L (st) := by
  obtain ⟨p, l, e, R', s, m, args, below, meth, c, Q⟩ := x
  obtain ⟨hx, hb, hR, hown, hts⟩ := C
  obtain ⟨hd, rfl⟩ := hd
  intro H locs ls hP hS hL
  exact lv_aload hx hb hd (hL.at hl) (h H locs ls hP hS hL)
theorem V_lload_n (C : CX x cc own R) {i : Fin 4} {a : Int64} (hd : D1 cc pc (.lload_n i) 1 pc') (hl : L[(i : Nat)]? = some (some (.long a))) (h : V x A P k n pc' L (.long a :: st)) : V x A P k n pc L (st) := by
  obtain ⟨p, l, e, R', s, m, args, below, meth, c, Q⟩ := x
  obtain ⟨hx, hb, hR, hown, hts⟩ := C
  obtain ⟨hd, rfl⟩ := hd
  intro H locs ls hP hS hL
  exact lv_lload_n hx hb hd rfl (hL.at hl) (h H locs ls hP hS hL)
theorem V_lload (C : CX x cc own R) {i : Nat} {a : Int64} (hd : D1 cc pc (.lload i) 2 pc') (hl : L[i]? = some (some (.long a))) (h : V x A P k n pc' L (.long a :: st)) : V x A P k n pc L (st) := by
  obtain ⟨p, l, e, R', s, m, args, below, meth, c, Q⟩ := x
  obtain ⟨hx, hb, hR, hown, hts⟩ := C
  obtain ⟨hd, rfl⟩ := hd
  intro H locs ls hP hS hL
  exact lv_lload hx hb hd (hL.at hl) (h H locs ls hP hS hL)
theorem V_aload_nN (C : CX x cc own R) {i : Fin 4} (hd : D1 cc pc (.aload_n i) 1 pc') (hl : L[(i : Nat)]? = some (some .null)) (h : V x A P k n pc' L (.null :: st)) : V x A P k n pc L (st) := by
  obtain ⟨p, l, e, R', s, m, args, below, meth, c, Q⟩ := x
  obtain ⟨hx, hb, hR, hown, hts⟩ := C
  obtain ⟨hd, rfl⟩ := hd
  intro H locs ls hP hS hL
  exact lv_aload_nN hx hb hd rfl (hL.at hl) (h H locs ls hP hS hL)
theorem V_aloadN (C : CX x cc own R) {i : Nat} (hd : D1 cc pc (.aload i) 2 pc') (hl : L[i]? = some (some .null)) (h : V x A P k n pc' L (.null :: st)) : V x A P k n pc L (st) := by
  obtain ⟨p, l, e, R', s, m, args, below, meth, c, Q⟩ := x
  obtain ⟨hx, hb, hR, hown, hts⟩ := C
  obtain ⟨hd, rfl⟩ := hd
  intro H locs ls hP hS hL
  exact lv_aloadN hx hb hd (hL.at hl) (h H locs ls hP hS hL)
theorem V_istore_n (C : CX x cc own R) {i : Fin 4} {a : Int32} (hd : D1 cc pc (.istore_n i) 1 pc') (ho : stOK L (i : Nat) = true) (h : V x A P k n pc' (L.set (i : Nat) (some (.int a))) (st)) : V x A P k n pc L (.int a :: st) := by
  obtain ⟨p, l, e, R', s, m, args, below, meth, c, Q⟩ := x
  obtain ⟨hx, hb, hR, hown, hts⟩ := C
  obtain ⟨hd, rfl⟩ := hd
  intro H locs ls hP hS hL
  exact lv_istore_n hx hb hd rfl hL.2 (by rw [← hL.1]; exact stOK_lt ho) rfl (fun ls hl => h H locs ls hP hS (hL.st ho hl))
theorem V_istore (C : CX x cc own R) {i : Nat} {a : Int32} (hd : D1 cc pc (.istore i) 2 pc') (ho : stOK L i = true) (h : V x A P k n pc' (L.set i (some (.int a))) (st)) : V x A P k n pc L (.int a :: st) := by
  obtain ⟨p, l, e, R', s, m, args, below, meth, c, Q⟩ := x
  obtain ⟨hx, hb, hR, hown, hts⟩ := C
  obtain ⟨hd, rfl⟩ := hd
  intro H locs ls hP hS hL
  exact lv_istore hx hb hd hL.2 (by rw [← hL.1]; exact stOK_lt ho) rfl (fun ls hl => h H locs ls hP hS (hL.st ho hl))
theorem V_astore_n (C : CX x cc own R) {i : Fin 4} {a : Nat} (hd : D1 cc pc (.astore_n i) 1 pc') (ho : stOK L (i : Nat) = true) (h : V x A P k n pc' (L.set (i : Nat) (some (.ref a))) (st)) : V x A P k n pc L (.ref a :: st) := by
  obtain ⟨p, l, e, R', s, m, args, below, meth, c, Q⟩ := x
  obtain ⟨hx, hb, hR, hown, hts⟩ := C
  obtain ⟨hd, rfl⟩ := hd
  intro H locs ls hP hS hL
  exact lv_astore_n hx hb hd rfl hL.2 (by rw [← hL.1]; exact stOK_lt ho) rfl (fun ls hl => h H locs ls hP hS (hL.st ho hl))
theorem V_astore (C : CX x cc own R) {i : Nat} {a : Nat} (hd : D1 cc pc (.astore i) 2 pc') (ho : stOK L i = true) (h : V x A P k n pc' (L.set i (some (.ref a))) (st)) : V x A P k n pc L (.ref a :: st) := by
  obtain ⟨p, l, e, R', s, m, args, below, meth, c, Q⟩ := x
  obtain ⟨hx, hb, hR, hown, hts⟩ := C
  obtain ⟨hd, rfl⟩ := hd
  intro H locs ls hP hS hL
  exact lv_astore hx hb hd hL.2 (by rw [← hL.1]; exact stOK_lt ho) rfl (fun ls hl => h H locs ls hP hS (hL.st ho hl))
theorem V_astore_nN (C : CX x cc own R) {i : Fin 4} (hd : D1 cc pc (.astore_n i) 1 pc') (ho : stOK L (i : Nat) = true) (h : V x A P k n pc' (L.set (i : Nat) (some .null)) (st)) : V x A P k n pc L (.null :: st) := by
  obtain ⟨p, l, e, R', s, m, args, below, meth, c, Q⟩ := x
  obtain ⟨hx, hb, hR, hown, hts⟩ := C
  obtain ⟨hd, rfl⟩ := hd
  intro H locs ls hP hS hL
  exact lv_astore_nN hx hb hd rfl hL.2 (by rw [← hL.1]; exact stOK_lt ho) rfl (fun ls hl => h H locs ls hP hS (hL.st ho hl))
theorem V_astoreN (C : CX x cc own R) {i : Nat} (hd : D1 cc pc (.astore i) 2 pc') (ho : stOK L i = true) (h : V x A P k n pc' (L.set i (some .null)) (st)) : V x A P k n pc L (.null :: st) := by
  obtain ⟨p, l, e, R', s, m, args, below, meth, c, Q⟩ := x
  obtain ⟨hx, hb, hR, hown, hts⟩ := C
  obtain ⟨hd, rfl⟩ := hd
  intro H locs ls hP hS hL
  exact lv_astoreN hx hb hd hL.2 (by rw [← hL.1]; exact stOK_lt ho) rfl (fun ls hl => h H locs ls hP hS (hL.st ho hl))
theorem V_iinc (C : CX x cc own R) {i : Nat} {z : Int} {a : Int32} (b : Int32) (hd : D1 cc pc (.iinc i z) 3 pc') (hl : L[i]? = some (some (.int a))) (hv : Int32.ofInt z = b) (ho : stOK L i = true) (h : V x A P k n pc' (L.set i (some (.int (a + b)))) (st)) : V x A P k n pc L (st) := by
  obtain ⟨p, l, e, R', s, m, args, below, meth, c, Q⟩ := x
  obtain ⟨hx, hb, hR, hown, hts⟩ := C
  obtain ⟨hd, rfl⟩ := hd
  intro H locs ls hP hS hL
  subst hv
  have hm : (i, Value.int a) ∈ lvL 0 L := (lvL_mem L 0 i _).mpr ⟨i, by omega, hl⟩
  obtain ⟨q, hq⟩ := List.getElem?_of_mem hm
  exact lv_iinc hx hb hd hL.2 hq rfl (by rw [← hL.1]; exact stOK_lt ho) rfl (fun ls hl => h H locs ls hP hS (hL.st ho hl))
theorem V_iconst (C : CX x cc own R) {z : Int} (a : Int32) (hd : D1 cc pc (.iconst z) 1 pc') (hv : Int32.ofInt z = a) (h : V x A P k n pc' L (.int a :: st)) : V x A P k n pc L (st) := by
  obtain ⟨p, l, e, R', s, m, args, below, meth, c, Q⟩ := x
  obtain ⟨hx, hb, hR, hown, hts⟩ := C
  obtain ⟨hd, rfl⟩ := hd
  intro H locs ls hP hS hL
  exact lv_iconst hx hb hd hv (h H locs ls hP hS hL)
theorem V_bipush (C : CX x cc own R) {z : Int} (a : Int32) (hd : D1 cc pc (.bipush z) 2 pc') (hv : (Int8.ofInt z).toInt32 = a) (h : V x A P k n pc' L (.int a :: st)) : V x A P k n pc L (st) := by
  obtain ⟨p, l, e, R', s, m, args, below, meth, c, Q⟩ := x
  obtain ⟨hx, hb, hR, hown, hts⟩ := C
  obtain ⟨hd, rfl⟩ := hd
  intro H locs ls hP hS hL
  exact lv_bipush hx hb hd hv (h H locs ls hP hS hL)
theorem V_sipush (C : CX x cc own R) {z : Int} (a : Int32) (hd : D1 cc pc (.sipush z) 3 pc') (hv : (Int16.ofInt z).toInt32 = a) (h : V x A P k n pc' L (.int a :: st)) : V x A P k n pc L (st) := by
  obtain ⟨p, l, e, R', s, m, args, below, meth, c, Q⟩ := x
  obtain ⟨hx, hb, hR, hown, hts⟩ := C
  obtain ⟨hd, rfl⟩ := hd
  intro H locs ls hP hS hL
  exact lv_sipush hx hb hd hv (h H locs ls hP hS hL)
theorem V_ldc (C : CX x cc own R) {i : Nat} {a : Int32} (hd : D1 cc pc (.ldc i) 2 pc') (hw : Cond.constant own i a ∈ lw_gd) (h : V x A P k n pc' L (.int a :: st)) : V x A P k n pc L (st) := by
  obtain ⟨p, l, e, R', s, m, args, below, meth, c, Q⟩ := x
  obtain ⟨hx, hb, hR, hown, hts⟩ := C
  obtain ⟨hd, rfl⟩ := hd
  intro H locs ls hP hS hL
  exact lv_ldc hx hb hown (hts _ hw) hd (h H locs ls hP hS hL)
theorem V_ldc_w (C : CX x cc own R) {i : Nat} {a : Int32} (hd : D1 cc pc (.ldc_w i) 3 pc') (hw : Cond.constant own i a ∈ lw_gd) (h : V x A P k n pc' L (.int a :: st)) : V x A P k n pc L (st) := by
  obtain ⟨p, l, e, R', s, m, args, below, meth, c, Q⟩ := x
  obtain ⟨hx, hb, hR, hown, hts⟩ := C
  obtain ⟨hd, rfl⟩ := hd
  intro H locs ls hP hS hL
  exact lv_ldcw hx hb hown (hts _ hw) hd (h H locs ls hP hS hL)
theorem V_ldc2 (C : CX x cc own R) {i : Nat} {a : Int64} (hd : D1 cc pc (.ldc2_w i) 3 pc') (hw : Cond.constantLong own i a ∈ lw_gd) (h : V x A P k n pc' L (.long a :: st)) : V x A P k n pc L (st) := by
  obtain ⟨p, l, e, R', s, m, args, below, meth, c, Q⟩ := x
  obtain ⟨hx, hb, hR, hown, hts⟩ := C
  obtain ⟨hd, rfl⟩ := hd
  intro H locs ls hP hS hL
  exact lv_ldc2 hx hb hown (hts _ hw) hd (h H locs ls hP hS hL)
theorem V_null (C : CX x cc own R)  (hd : D1 cc pc .aconst_null 1 pc')  (h : V x A P k n pc' L (.null :: st)) : V x A P k n pc L (st) := by
  obtain ⟨p, l, e, R', s, m, args, below, meth, c, Q⟩ := x
  obtain ⟨hx, hb, hR, hown, hts⟩ := C
  obtain ⟨hd, rfl⟩ := hd
  intro H locs ls hP hS hL
  exact lv_null hx hb hd (h H locs ls hP hS hL)
theorem V_iadd (C : CX x cc own R) {a b : Int32} (hd : D1 cc pc .iadd 1 pc')  (h : V x A P k n pc' L (.int (a + b) :: st)) : V x A P k n pc L (.int b :: .int a :: st) := by
  obtain ⟨p, l, e, R', s, m, args, below, meth, c, Q⟩ := x
  obtain ⟨hx, hb, hR, hown, hts⟩ := C
  obtain ⟨hd, rfl⟩ := hd
  intro H locs ls hP hS hL
  exact lv_iadd hx hb hd (h H locs ls hP hS hL)
theorem V_isub (C : CX x cc own R) {a b : Int32} (hd : D1 cc pc .isub 1 pc')  (h : V x A P k n pc' L (.int (a - b) :: st)) : V x A P k n pc L (.int b :: .int a :: st) := by
  obtain ⟨p, l, e, R', s, m, args, below, meth, c, Q⟩ := x
  obtain ⟨hx, hb, hR, hown, hts⟩ := C
  obtain ⟨hd, rfl⟩ := hd
  intro H locs ls hP hS hL
  exact lv_isub hx hb hd (h H locs ls hP hS hL)
theorem V_imul (C : CX x cc own R) {a b : Int32} (hd : D1 cc pc .imul 1 pc')  (h : V x A P k n pc' L (.int (a * b) :: st)) : V x A P k n pc L (.int b :: .int a :: st) := by
  obtain ⟨p, l, e, R', s, m, args, below, meth, c, Q⟩ := x
  obtain ⟨hx, hb, hR, hown, hts⟩ := C
  obtain ⟨hd, rfl⟩ := hd
  intro H locs ls hP hS hL
  exact lv_imul hx hb hd (h H locs ls hP hS hL)
theorem V_iand (C : CX x cc own R) {a b : Int32} (hd : D1 cc pc .iand 1 pc')  (h : V x A P k n pc' L (.int (a &&& b) :: st)) : V x A P k n pc L (.int b :: .int a :: st) := by
  obtain ⟨p, l, e, R', s, m, args, below, meth, c, Q⟩ := x
  obtain ⟨hx, hb, hR, hown, hts⟩ := C
  obtain ⟨hd, rfl⟩ := hd
  intro H locs ls hP hS hL
  exact lv_iand hx hb hd (h H locs ls hP hS hL)
theorem V_ior (C : CX x cc own R) {a b : Int32} (hd : D1 cc pc .ior 1 pc')  (h : V x A P k n pc' L (.int (a ||| b) :: st)) : V x A P k n pc L (.int b :: .int a :: st) := by
  obtain ⟨p, l, e, R', s, m, args, below, meth, c, Q⟩ := x
  obtain ⟨hx, hb, hR, hown, hts⟩ := C
  obtain ⟨hd, rfl⟩ := hd
  intro H locs ls hP hS hL
  exact lv_ior hx hb hd (h H locs ls hP hS hL)
theorem V_ladd (C : CX x cc own R) {a b : Int64} (hd : D1 cc pc .ladd 1 pc')  (h : V x A P k n pc' L (.long (a + b) :: st)) : V x A P k n pc L (.long b :: .long a :: st) := by
  obtain ⟨p, l, e, R', s, m, args, below, meth, c, Q⟩ := x
  obtain ⟨hx, hb, hR, hown, hts⟩ := C
  obtain ⟨hd, rfl⟩ := hd
  intro H locs ls hP hS hL
  exact lv_ladd hx hb hd (h H locs ls hP hS hL)
theorem V_lsub (C : CX x cc own R) {a b : Int64} (hd : D1 cc pc .lsub 1 pc')  (h : V x A P k n pc' L (.long (a - b) :: st)) : V x A P k n pc L (.long b :: .long a :: st) := by
  obtain ⟨p, l, e, R', s, m, args, below, meth, c, Q⟩ := x
  obtain ⟨hx, hb, hR, hown, hts⟩ := C
  obtain ⟨hd, rfl⟩ := hd
  intro H locs ls hP hS hL
  exact lv_lsub hx hb hd (h H locs ls hP hS hL)
theorem V_lmul (C : CX x cc own R) {a b : Int64} (hd : D1 cc pc .lmul 1 pc')  (h : V x A P k n pc' L (.long (a * b) :: st)) : V x A P k n pc L (.long b :: .long a :: st) := by
  obtain ⟨p, l, e, R', s, m, args, below, meth, c, Q⟩ := x
  obtain ⟨hx, hb, hR, hown, hts⟩ := C
  obtain ⟨hd, rfl⟩ := hd
  intro H locs ls hP hS hL
  exact lv_lmul hx hb hd (h H locs ls hP hS hL)
theorem V_dup (C : CX x cc own R) {v : Value} (hd : D1 cc pc .dup 1 pc') (hv : v.category = 1) (h : V x A P k n pc' L (v :: v :: st)) : V x A P k n pc L (v :: st) := by
  obtain ⟨p, l, e, R', s, m, args, below, meth, c, Q⟩ := x
  obtain ⟨hx, hb, hR, hown, hts⟩ := C
  obtain ⟨hd, rfl⟩ := hd
  intro H locs ls hP hS hL
  exact lv_dup hx hb hd hv (h H locs ls hP hS hL)
theorem V_pop (C : CX x cc own R) {v : Value} (hd : D1 cc pc .pop 1 pc') (hv : v.category = 1) (h : V x A P k n pc' L (st)) : V x A P k n pc L (v :: st) := by
  obtain ⟨p, l, e, R', s, m, args, below, meth, c, Q⟩ := x
  obtain ⟨hx, hb, hR, hown, hts⟩ := C
  obtain ⟨hd, rfl⟩ := hd
  intro H locs ls hP hS hL
  exact lv_pop hx hb hd hv (h H locs ls hP hS hL)
theorem V_if_eq (C : CX x cc own R) {a : Int32} (hd : DJ cc pc (.ifCond .eq) pc' tgt) (kt : a = 0 → V x A P k n tgt L st) (kf : ¬ a = 0 → V x A P k n pc' L st) : V x A P k n pc L (.int a :: st) := by
  obtain ⟨p, l, e, R', s, m, args, below, meth, c, Q⟩ := x
  obtain ⟨hx, hb, hR, hown, hts⟩ := C
  obtain ⟨off, hd, rfl, ht⟩ := hd
  intro H locs ls hP hS hL
  exact lv_if_eq hx hb hd ht (fun q => kt q H locs ls hP hS hL) (fun q => kf q H locs ls hP hS hL)
theorem V_if_ne (C : CX x cc own R) {a : Int32} (hd : DJ cc pc (.ifCond .ne) pc' tgt) (kt : ¬ a = 0 → V x A P k n tgt L st) (kf : a = 0 → V x A P k n pc' L st) : V x A P k n pc L (.int a :: st) := by
  obtain ⟨p, l, e, R', s, m, args, below, meth, c, Q⟩ := x
  obtain ⟨hx, hb, hR, hown, hts⟩ := C
  obtain ⟨off, hd, rfl, ht⟩ := hd
  intro H locs ls hP hS hL
  exact lv_if_ne hx hb hd ht (fun q => kt q H locs ls hP hS hL) (fun q => kf q H locs ls hP hS hL)
theorem V_if_lt (C : CX x cc own R) {a : Int32} (hd : DJ cc pc (.ifCond .lt) pc' tgt) (kt : a < 0 → V x A P k n tgt L st) (kf : ¬ a < 0 → V x A P k n pc' L st) : V x A P k n pc L (.int a :: st) := by
  obtain ⟨p, l, e, R', s, m, args, below, meth, c, Q⟩ := x
  obtain ⟨hx, hb, hR, hown, hts⟩ := C
  obtain ⟨off, hd, rfl, ht⟩ := hd
  intro H locs ls hP hS hL
  exact lv_if_lt hx hb hd ht (fun q => kt q H locs ls hP hS hL) (fun q => kf q H locs ls hP hS hL)
theorem V_if_ge (C : CX x cc own R) {a : Int32} (hd : DJ cc pc (.ifCond .ge) pc' tgt) (kt : 0 ≤ a → V x A P k n tgt L st) (kf : ¬ 0 ≤ a → V x A P k n pc' L st) : V x A P k n pc L (.int a :: st) := by
  obtain ⟨p, l, e, R', s, m, args, below, meth, c, Q⟩ := x
  obtain ⟨hx, hb, hR, hown, hts⟩ := C
  obtain ⟨off, hd, rfl, ht⟩ := hd
  intro H locs ls hP hS hL
  exact lv_if_ge hx hb hd ht (fun q => kt q H locs ls hP hS hL) (fun q => kf q H locs ls hP hS hL)
theorem V_if_gt (C : CX x cc own R) {a : Int32} (hd : DJ cc pc (.ifCond .gt) pc' tgt) (kt : 0 < a → V x A P k n tgt L st) (kf : ¬ 0 < a → V x A P k n pc' L st) : V x A P k n pc L (.int a :: st) := by
  obtain ⟨p, l, e, R', s, m, args, below, meth, c, Q⟩ := x
  obtain ⟨hx, hb, hR, hown, hts⟩ := C
  obtain ⟨off, hd, rfl, ht⟩ := hd
  intro H locs ls hP hS hL
  exact lv_if_gt hx hb hd ht (fun q => kt q H locs ls hP hS hL) (fun q => kf q H locs ls hP hS hL)
theorem V_if_le (C : CX x cc own R) {a : Int32} (hd : DJ cc pc (.ifCond .le) pc' tgt) (kt : a ≤ 0 → V x A P k n tgt L st) (kf : ¬ a ≤ 0 → V x A P k n pc' L st) : V x A P k n pc L (.int a :: st) := by
  obtain ⟨p, l, e, R', s, m, args, below, meth, c, Q⟩ := x
  obtain ⟨hx, hb, hR, hown, hts⟩ := C
  obtain ⟨off, hd, rfl, ht⟩ := hd
  intro H locs ls hP hS hL
  exact lv_if_le hx hb hd ht (fun q => kt q H locs ls hP hS hL) (fun q => kf q H locs ls hP hS hL)
theorem V_icmp_eq (C : CX x cc own R) {a b : Int32} (hd : DJ cc pc (.if_icmp .eq) pc' tgt) (kt : a = b → V x A P k n tgt L st) (kf : ¬ a = b → V x A P k n pc' L st) : V x A P k n pc L (.int b :: .int a :: st) := by
  obtain ⟨p, l, e, R', s, m, args, below, meth, c, Q⟩ := x
  obtain ⟨hx, hb, hR, hown, hts⟩ := C
  obtain ⟨off, hd, rfl, ht⟩ := hd
  intro H locs ls hP hS hL
  exact lv_icmp_eq hx hb hd ht (fun q => kt q H locs ls hP hS hL) (fun q => kf q H locs ls hP hS hL)
theorem V_icmp_ne (C : CX x cc own R) {a b : Int32} (hd : DJ cc pc (.if_icmp .ne) pc' tgt) (kt : ¬ a = b → V x A P k n tgt L st) (kf : a = b → V x A P k n pc' L st) : V x A P k n pc L (.int b :: .int a :: st) := by
  obtain ⟨p, l, e, R', s, m, args, below, meth, c, Q⟩ := x
  obtain ⟨hx, hb, hR, hown, hts⟩ := C
  obtain ⟨off, hd, rfl, ht⟩ := hd
  intro H locs ls hP hS hL
  exact lv_icmp_ne hx hb hd ht (fun q => kt q H locs ls hP hS hL) (fun q => kf q H locs ls hP hS hL)
theorem V_icmp_lt (C : CX x cc own R) {a b : Int32} (hd : DJ cc pc (.if_icmp .lt) pc' tgt) (kt : a < b → V x A P k n tgt L st) (kf : ¬ a < b → V x A P k n pc' L st) : V x A P k n pc L (.int b :: .int a :: st) := by
  obtain ⟨p, l, e, R', s, m, args, below, meth, c, Q⟩ := x
  obtain ⟨hx, hb, hR, hown, hts⟩ := C
  obtain ⟨off, hd, rfl, ht⟩ := hd
  intro H locs ls hP hS hL
  exact lv_icmp_lt hx hb hd ht (fun q => kt q H locs ls hP hS hL) (fun q => kf q H locs ls hP hS hL)
theorem V_icmp_ge (C : CX x cc own R) {a b : Int32} (hd : DJ cc pc (.if_icmp .ge) pc' tgt) (kt : b ≤ a → V x A P k n tgt L st) (kf : ¬ b ≤ a → V x A P k n pc' L st) : V x A P k n pc L (.int b :: .int a :: st) := by
  obtain ⟨p, l, e, R', s, m, args, below, meth, c, Q⟩ := x
  obtain ⟨hx, hb, hR, hown, hts⟩ := C
  obtain ⟨off, hd, rfl, ht⟩ := hd
  intro H locs ls hP hS hL
  exact lv_icmp_ge hx hb hd ht (fun q => kt q H locs ls hP hS hL) (fun q => kf q H locs ls hP hS hL)
theorem V_icmp_gt (C : CX x cc own R) {a b : Int32} (hd : DJ cc pc (.if_icmp .gt) pc' tgt) (kt : b < a → V x A P k n tgt L st) (kf : ¬ b < a → V x A P k n pc' L st) : V x A P k n pc L (.int b :: .int a :: st) := by
  obtain ⟨p, l, e, R', s, m, args, below, meth, c, Q⟩ := x
  obtain ⟨hx, hb, hR, hown, hts⟩ := C
  obtain ⟨off, hd, rfl, ht⟩ := hd
  intro H locs ls hP hS hL
  exact lv_icmp_gt hx hb hd ht (fun q => kt q H locs ls hP hS hL) (fun q => kf q H locs ls hP hS hL)
theorem V_icmp_le (C : CX x cc own R) {a b : Int32} (hd : DJ cc pc (.if_icmp .le) pc' tgt) (kt : a ≤ b → V x A P k n tgt L st) (kf : ¬ a ≤ b → V x A P k n pc' L st) : V x A P k n pc L (.int b :: .int a :: st) := by
  obtain ⟨p, l, e, R', s, m, args, below, meth, c, Q⟩ := x
  obtain ⟨hx, hb, hR, hown, hts⟩ := C
  obtain ⟨off, hd, rfl, ht⟩ := hd
  intro H locs ls hP hS hL
  exact lv_icmp_le hx hb hd ht (fun q => kt q H locs ls hP hS hL) (fun q => kf q H locs ls hP hS hL)
theorem V_goto (C : CX x cc own R) (hd : DJ cc pc .goto pc' tgt) (h : V x A P k n tgt L st) : V x A P k n pc L st := by
  obtain ⟨p, l, e, R', s, m, args, below, meth, c, Q⟩ := x
  obtain ⟨hx, hb, hR, hown, hts⟩ := C
  obtain ⟨off, hd, rfl, ht⟩ := hd
  intro H locs ls hP hS hL
  exact lv_goto hx hb hd ht (h H locs ls hP hS hL)
theorem V_ifnull (C : CX x cc own R) {a : Nat} (hd : DJ cc pc .ifnull pc' tgt) (h : V x A P k n pc' L st) : V x A P k n pc L (.ref a :: st) := by
  obtain ⟨p, l, e, R', s, m, args, below, meth, c, Q⟩ := x
  obtain ⟨hx, hb, hR, hown, hts⟩ := C
  obtain ⟨off, hd, rfl, ht⟩ := hd
  intro H locs ls hP hS hL
  exact lv_ifnull hx hb hd (h H locs ls hP hS hL)
theorem V_ifnullN (C : CX x cc own R) (hd : DJ cc pc .ifnull pc' tgt) (h : V x A P k n tgt L st) : V x A P k n pc L (.null :: st) := by
  obtain ⟨p, l, e, R', s, m, args, below, meth, c, Q⟩ := x
  obtain ⟨hx, hb, hR, hown, hts⟩ := C
  obtain ⟨off, hd, rfl, ht⟩ := hd
  intro H locs ls hP hS hL
  exact lv_ifnullN hx hb hd ht (h H locs ls hP hS hL)
theorem V_ifnonnull (C : CX x cc own R) {a : Nat} (hd : DJ cc pc .ifnonnull pc' tgt) (h : V x A P k n tgt L st) : V x A P k n pc L (.ref a :: st) := by
  obtain ⟨p, l, e, R', s, m, args, below, meth, c, Q⟩ := x
  obtain ⟨hx, hb, hR, hown, hts⟩ := C
  obtain ⟨off, hd, rfl, ht⟩ := hd
  intro H locs ls hP hS hL
  exact lv_ifnonnull hx hb hd ht (h H locs ls hP hS hL)
theorem V_ifnonnullN (C : CX x cc own R) (hd : DJ cc pc .ifnonnull pc' tgt) (h : V x A P k n pc' L st) : V x A P k n pc L (.null :: st) := by
  obtain ⟨p, l, e, R', s, m, args, below, meth, c, Q⟩ := x
  obtain ⟨hx, hb, hR, hown, hts⟩ := C
  obtain ⟨off, hd, rfl, ht⟩ := hd
  intro H locs ls hP hS hL
  exact lv_ifnonnullN hx hb hd (h H locs ls hP hS hL)
theorem V_lconst (C : CX x cc own R) {z : Fin 2} (a : Int64) (hd : D1 cc pc (.lconst z) 1 pc') (hv : Int64.ofNat (z : Nat) = a) (h : V x A P k n pc' L (.long a :: st)) : V x A P k n pc L (st) := by
  obtain ⟨p, l, e, R', s, m, args, below, meth, c, Q⟩ := x
  obtain ⟨hx, hb, hR, hown, hts⟩ := C
  obtain ⟨hd, rfl⟩ := hd
  intro H locs ls hP hS hL
  exact lv_lconst hx hb hd hv (h H locs ls hP hS hL)
theorem V_ishl (C : CX x cc own R) {a b : Int32} (hd : D1 cc pc .ishl 1 pc')  (h : V x A P k n pc' L (.int (a <<< (b &&& 31)) :: st)) : V x A P k n pc L (.int b :: .int a :: st) := by
  obtain ⟨p, l, e, R', s, m, args, below, meth, c, Q⟩ := x
  obtain ⟨hx, hb, hR, hown, hts⟩ := C
  obtain ⟨hd, rfl⟩ := hd
  intro H locs ls hP hS hL
  exact lv_ishl hx hb hd (h H locs ls hP hS hL)
theorem V_ishr (C : CX x cc own R) {a b : Int32} (hd : D1 cc pc .ishr 1 pc')  (h : V x A P k n pc' L (.int (a >>> (b &&& 31)) :: st)) : V x A P k n pc L (.int b :: .int a :: st) := by
  obtain ⟨p, l, e, R', s, m, args, below, meth, c, Q⟩ := x
  obtain ⟨hx, hb, hR, hown, hts⟩ := C
  obtain ⟨hd, rfl⟩ := hd
  intro H locs ls hP hS hL
  exact lv_ishr hx hb hd (h H locs ls hP hS hL)
theorem V_iushr (C : CX x cc own R) {a b : Int32} (hd : D1 cc pc .iushr 1 pc')  (h : V x A P k n pc' L (.int (iush a b) :: st)) : V x A P k n pc L (.int b :: .int a :: st) := by
  obtain ⟨p, l, e, R', s, m, args, below, meth, c, Q⟩ := x
  obtain ⟨hx, hb, hR, hown, hts⟩ := C
  obtain ⟨hd, rfl⟩ := hd
  intro H locs ls hP hS hL
  exact lv_iushr hx hb hd rfl (h H locs ls hP hS hL)
theorem V_i2b (C : CX x cc own R) {a : Int32} (hd : D1 cc pc .i2b 1 pc')  (h : V x A P k n pc' L (.int a.toInt8.toInt32 :: st)) : V x A P k n pc L (.int a :: st) := by
  obtain ⟨p, l, e, R', s, m, args, below, meth, c, Q⟩ := x
  obtain ⟨hx, hb, hR, hown, hts⟩ := C
  obtain ⟨hd, rfl⟩ := hd
  intro H locs ls hP hS hL
  exact lv_i2b hx hb hd rfl (h H locs ls hP hS hL)
theorem V_i2s (C : CX x cc own R) {a : Int32} (hd : D1 cc pc .i2s 1 pc')  (h : V x A P k n pc' L (.int a.toInt16.toInt32 :: st)) : V x A P k n pc L (.int a :: st) := by
  obtain ⟨p, l, e, R', s, m, args, below, meth, c, Q⟩ := x
  obtain ⟨hx, hb, hR, hown, hts⟩ := C
  obtain ⟨hd, rfl⟩ := hd
  intro H locs ls hP hS hL
  exact lv_i2s hx hb hd rfl (h H locs ls hP hS hL)
theorem V_i2l (C : CX x cc own R) {a : Int32} (hd : D1 cc pc .i2l 1 pc')  (h : V x A P k n pc' L (.long a.toInt64 :: st)) : V x A P k n pc L (.int a :: st) := by
  obtain ⟨p, l, e, R', s, m, args, below, meth, c, Q⟩ := x
  obtain ⟨hx, hb, hR, hown, hts⟩ := C
  obtain ⟨hd, rfl⟩ := hd
  intro H locs ls hP hS hL
  exact lv_i2l hx hb hd rfl (h H locs ls hP hS hL)
theorem V_lcmp (C : CX x cc own R) {a b : Int64} (hd : D1 cc pc .lcmp 1 pc')  (h : V x A P k n pc' L (.int (lg_cmp a b) :: st)) : V x A P k n pc L (.long b :: .long a :: st) := by
  obtain ⟨p, l, e, R', s, m, args, below, meth, c, Q⟩ := x
  obtain ⟨hx, hb, hR, hown, hts⟩ := C
  obtain ⟨hd, rfl⟩ := hd
  intro H locs ls hP hS hL
  exact W.lcmp hx hb hd (h H locs ls hP hS hL)
theorem V_idiv (C : CX x cc own R) {a b : Int32} (hd : D1 cc pc .idiv 1 pc') (hne : ¬ b = 0) (h : V x A P k n pc' L (.int (a / b) :: st)) : V x A P k n pc L (.int b :: .int a :: st) := by
  obtain ⟨p, l, e, R', s, m, args, below, meth, c, Q⟩ := x
  obtain ⟨hx, hb, hR, hown, hts⟩ := C
  obtain ⟨hd, rfl⟩ := hd
  intro H locs ls hP hS hL
  exact lv_idiv hx hb hd hne (h H locs ls hP hS hL)
theorem V_irem (C : CX x cc own R) {a b : Int32} (hd : D1 cc pc .irem 1 pc') (hne : ¬ b = 0) (h : V x A P k n pc' L (.int (a - a / b * b) :: st)) : V x A P k n pc L (.int b :: .int a :: st) := by
  obtain ⟨p, l, e, R', s, m, args, below, meth, c, Q⟩ := x
  obtain ⟨hx, hb, hR, hown, hts⟩ := C
  obtain ⟨hd, rfl⟩ := hd
  intro H locs ls hP hS hL
  exact lv_irem hx hb hd hne (h H locs ls hP hS hL)
theorem V_dup2 (C : CX x cc own R) {v w : Value} (hd : D1 cc pc .dup2 1 pc') (hv : v.category = 1) (hw : w.category = 1) (h : V x A P k n pc' L (v :: w :: v :: w :: st)) : V x A P k n pc L (v :: w :: st) := by
  obtain ⟨p, l, e, R', s, m, args, below, meth, c, Q⟩ := x
  obtain ⟨hx, hb, hR, hown, hts⟩ := C
  obtain ⟨hd, rfl⟩ := hd
  intro H locs ls hP hS hL
  exact lv_dup2_11 hx hb hd hv hw (h H locs ls hP hS hL)
theorem V_tableIn (C : CX x cc own R) {dflt lo hi off : Int} {offs : Array Int} {len : Nat} {a : Int32} (hd : decode cc pc = .ok (.tableswitch dflt lo hi offs, len)) (h1 : ¬ a.toInt < lo) (h2 : ¬ hi < a.toInt) (ho : offs[(a.toInt - lo).toNat]? = some off) (ht : (pc : Int) + off = (tgt : Int)) (h : V x A P k n tgt L st) : V x A P k n pc L (.int a :: st) := by
  obtain ⟨p, l, e, R', s, m, args, below, meth, c, Q⟩ := x
  obtain ⟨hx, hb, hR, hown, hts⟩ := C
  intro H locs ls hP hS hL
  exact lv_tableIn hx hb hd h1 h2 ho ht (h H locs ls hP hS hL)
theorem V_tableOut (C : CX x cc own R) {dflt lo hi : Int} {offs : Array Int} {len : Nat} {a : Int32} (hd : decode cc pc = .ok (.tableswitch dflt lo hi offs, len)) (h1 : a.toInt < lo ∨ hi < a.toInt) (ht : (pc : Int) + dflt = (tgt : Int)) (h : V x A P k n tgt L st) : V x A P k n pc L (.int a :: st) := by
  obtain ⟨p, l, e, R', s, m, args, below, meth, c, Q⟩ := x
  obtain ⟨hx, hb, hR, hown, hts⟩ := C
  intro H locs ls hP hS hL
  exact lv_tableOut hx hb hd h1 ht (h H locs ls hP hS hL)
/-- the same place by another name of the numbers -/
theorem V_to {P' : Heap → Prop} {L' : List (Option Value)} {st' : List Value} (hP : ∀ H, P H → P' H) (hl : L = L') (hs : st = st') (h : V x A P' k n pc L' st') : V x A P k n pc L st := by
  subst hl; subst hs
  obtain ⟨p, l, e, R', s, m, args, below, meth, c, Q⟩ := x
  intro H locs ls hp hS hL
  exact h H locs ls (hP H hp) hS hL
theorem V_st {st' : List Value} (hs : st = st') (h : V x A P k n pc L st') : V x A P k n pc L st := hs ▸ h
theorem V_L {L' : List (Option Value)} (hl : L = L') (h : V x A P k n pc L' st) : V x A P k n pc L st := hl ▸ h
/-- what the picture says may be used -/
theorem V_use (h : ∀ H, P H → V x A P k n pc L st) : V x A P k n pc L st := by
  obtain ⟨p, l, e, R', s, m, args, below, meth, c, Q⟩ := x
  intro H locs ls hP hS hL
  exact h H hP H locs ls hP hS hL
theorem V_ex {α : Type} {P' : α → Heap → Prop} (hp : ∀ H, P H → ∃ a, P' a H) (h : ∀ a, V x A (P' a) k n pc L st) : V x A P k n pc L st := by
  obtain ⟨p, l, e, R', s, m, args, below, meth, c, Q⟩ := x
  intro H locs ls hP hS hL
  obtain ⟨a, ha⟩ := hp H hP
  exact h a H locs ls ha hS hL
theorem V_widen {k' n' : Nat} (hk : k ≤ k') (hn : n ≤ n') (h : V x A P k' n' pc L st) : V x A P k n pc L st := by
  obtain ⟨p, l, e, R', s, m, args, below, meth, c, Q⟩ := x
  intro H locs ls hP hS hL
  exact W.widen hk hn (h H locs ls hP hS hL)
/-! memory, by what the picture says of one cell -/
/-- at a lies an object of class (C, T, N) whose slot j holds v -/
def RdF (s : State) (P : Heap → Prop) (a : Nat) (C : String) (T : u_T) (N j : Nat) (v : Value) : Prop := ∀ H, P H → ∃ (D : va_G) (cl : List vw_C) (tys : List (ClassId × FieldType)) (ci : Nat) (fs : List Value), va_K D cl tys s ∧ va_P D cl [(a, .inr (ci, fs))] H ∧ cl[ci]? = some (C, T, N) ∧ fs[j]? = some v
/-- writing v into slot j of the object at a turns P into P' -/
def WrF (s : State) (A : Nat → Prop) (P : Heap → Prop) (a : Nat) (C : String) (T : u_T) (N j : Nat) (v : Value) (P' : Heap → Prop) : Prop := ∀ H, P H → ∃ (D : va_G) (cl : List vw_C) (tys : List (ClassId × FieldType)) (ws : va_W) (q0 ci : Nat) (fs : List Value), va_K D cl tys s ∧ va_P D cl ws H ∧ va_D A ws ∧ ws[q0]? = some (a, .inr (ci, fs)) ∧ cl[ci]? = some (C, T, N) ∧ j < fs.length ∧ ∀ H1 : Heap, va_P D cl (ws.set q0 (a, .inr (ci, fs.set j v))) H1 → P' H1
/-- at a lies an int array of nn places, that at q holds v -/
def RdA (s : State) (P : Heap → Prop) (a nn q : Nat) (v : Int32) : Prop := ∀ H, P H → ∃ (D : va_G) (cl : List vw_C) (tys : List (ClassId × FieldType)) (cA t0 : Nat) (f : Nat → Int32), va_K D cl tys s ∧ va_P D cl [(a, .inl (cA, nn, .inl f))] H ∧ tys[t0]? = some (cA, .int) ∧ f q = v
def RdL (s : State) (P : Heap → Prop) (a nn : Nat) : Prop := ∀ H, P H → ∃ (D : va_G) (cl : List vw_C) (tys : List (ClassId × FieldType)) (cA t0 : Nat) (f : Nat → Int32), va_K D cl tys s ∧ va_P D cl [(a, .inl (cA, nn, .inl f))] H ∧ tys[t0]? = some (cA, .int)
def RdQ (s : State) (P : Heap → Prop) (a nn : Nat) (C : String) (f : Nat → Option Nat) : Prop := ∀ H, P H → ∃ (D : va_G) (cl : List vw_C) (tys : List (ClassId × FieldType)) (cA t0 : Nat), va_K D cl tys s ∧ va_P D cl [(a, .inl (cA, nn, .inr (.inr (.inr (.inr f)))))] H ∧ tys[t0]? = some (cA, .object C)
def WrA (s : State) (A : Nat → Prop) (P : Heap → Prop) (a nn i : Nat) (v : Int32) (P' : Heap → Prop) : Prop := ∀ H, P H → ∃ (D : va_G) (cl : List vw_C) (tys : List (ClassId × FieldType)) (ws : va_W) (q0 cA t0 : Nat) (f : Nat → Int32), va_K D cl tys s ∧ va_P D cl ws H ∧ va_D A ws ∧ ws[q0]? = some (a, .inl (cA, nn, .inl f)) ∧ tys[t0]? = some (cA, .int) ∧ ∀ H1 : Heap, va_P D cl (ws.set q0 (a, .inl (cA, nn, .inl (upd f i v)))) H1 → P' H1
theorem va_S_sz {A : Nat → Prop} {H0 H : Heap} {locs : List Loc} (h : va_S A H0 H locs) : H0.size ≤ H.size := h.1
theorem V_get (C : CX x cc own R) {a j N idx : Nat} {ref Cn : String} {T : u_T} {v : Value} (hd : D1 cc pc (.getfield idx) 3 pc') (hr : RdF (xs x) P a Cn T N j v) (hin : ∀ w ∈ u_ws Cn T N, w ∈ lw_gd) (hk : j < N) (hl : Cond.fieldLink own idx ref (T j).2.1 (T j).2.2.1 ∈ lw_gd) (hs : (T j).1 = ref)
    (h : V x A P k n pc' L (v :: st)) : V x A P k n pc L (.ref a :: st) := by
  obtain ⟨p, l, e, R', s, m, args, below, meth, c, Q⟩ := x
  obtain ⟨hx, hb, hR, hown, hts⟩ := C
  obtain ⟨hd, rfl⟩ := hd
  intro H locs ls hP hS hL
  obtain ⟨D, cl, tys, ci, fs, hK, hp, hc, hv⟩ := hr H hP
  exact va_get hx hb hts hin hown hK hp 0 rfl hc j hk (hts _ hl) (fun y hy => by rw [← hs]; exact hy) hv hd (h H locs ls hP hS hL)
theorem V_getN (C : CX x cc own R) {a j N idx : Nat} {ref Cn host : String} {T : u_T} {v : Value} (hd : D1 cc pc (.getfield idx) 3 pc') (hr : RdF (xs x) P a Cn T N j v) (hin : ∀ w ∈ u_ws Cn T N, w ∈ lw_gd) (hk : j < N) (hl : Cond.fieldLinkNest own idx ref (T j).2.1 (T j).2.2.1 host ∈ lw_gd) (hs : (T j).1 = ref)
    (h : V x A P k n pc' L (v :: st)) : V x A P k n pc L (.ref a :: st) := by
  obtain ⟨p, l, e, R', s, m, args, below, meth, c, Q⟩ := x
  obtain ⟨hx, hb, hR, hown, hts⟩ := C
  obtain ⟨hd, rfl⟩ := hd
  intro H locs ls hP hS hL
  obtain ⟨D, cl, tys, ci, fs, hK, hp, hc, hv⟩ := hr H hP
  exact va_getN hx hb hts hin hown hK hp 0 rfl hc j hk (hts _ hl) (fun y hy => by rw [← hs]; exact hy) hv hd (h H locs ls hP hS hL)
/-- a class's field table, as a write wants it -/
def FT (Cn : String) (T : u_T) (N : Nat) (ty0 : Nat → FieldType) : Prop := (∀ w ∈ u_ws Cn T N, w ∈ lw_gd) ∧ (∀ j, j < N → parseFieldDescriptor (T j).2.2.1 = some (ty0 j)) ∧ (∀ a, a < N → ∀ b, b < N → a ≠ b → (T a).2.1 ≠ (T b).2.1)
theorem V_put (C : CX x cc own R) {a j N idx : Nat} {ref Cn : String} {T : u_T} {v : Value} {P' : Heap → Prop} {ty0 : Nat → FieldType} (hd : D1 cc pc (.putfield idx) 3 pc') (hr : WrF (xs x) A P a Cn T N j v P') (hF : FT Cn T N ty0) (hk : j < N) (hl : Cond.fieldLink own idx ref (T j).2.1 (T j).2.2.1 ∈ lw_gd) (hs : (T j).1 = ref) (hfin : (T j).2.2.2 = false) (hn : narrow (ty0 j) v = v) (hf : fits (ty0 j) v = true)
    (h : V x A P' k n pc' L st) : V x A P k n pc L (v :: .ref a :: st) := by
  obtain ⟨p, l, e, R', s, m, args, below, meth, c, Q⟩ := x
  obtain ⟨hx, hb, hR, hown, hts⟩ := C
  obtain ⟨hd, rfl⟩ := hd
  obtain ⟨hin, hty, hnm⟩ := hF
  intro H locs ls hP hS hL
  obtain ⟨D, cl, tys, ws, q0, ci, fs, hK, hp, hD, he, hc, hj, hH⟩ := hr H hP
  exact va_put hx hb hts hin ty0 hty hnm hown hK hp hD hS q0 he hc j hk (hts _ hl) (fun y hy => by rw [← hs]; exact hy) hfin (hty j hk) hn hf hj hd (fun H1 locs1 hp1 _ hS1 => h H1 locs1 ls (hH H1 hp1) hS1 hL)
theorem V_putN (C : CX x cc own R) {a j N idx : Nat} {ref Cn host : String} {T : u_T} {v : Value} {P' : Heap → Prop} {ty0 : Nat → FieldType} (hd : D1 cc pc (.putfield idx) 3 pc') (hr : WrF (xs x) A P a Cn T N j v P') (hF : FT Cn T N ty0) (hk : j < N) (hl : Cond.fieldLinkNest own idx ref (T j).2.1 (T j).2.2.1 host ∈ lw_gd) (hs : (T j).1 = ref) (hfin : (T j).2.2.2 = false) (hn : narrow (ty0 j) v = v) (hf : fits (ty0 j) v = true)
    (h : V x A P' k n pc' L st) : V x A P k n pc L (v :: .ref a :: st) := by
  obtain ⟨p, l, e, R', s, m, args, below, meth, c, Q⟩ := x
  obtain ⟨hx, hb, hR, hown, hts⟩ := C
  obtain ⟨hd, rfl⟩ := hd
  obtain ⟨hin, hty, hnm⟩ := hF
  intro H locs ls hP hS hL
  obtain ⟨D, cl, tys, ws, q0, ci, fs, hK, hp, hD, he, hc, hj, hH⟩ := hr H hP
  exact va_putN hx hb hts hin ty0 hty hnm hown hK hp hD hS q0 he hc j hk (hts _ hl) (fun y hy => by rw [← hs]; exact hy) hfin (hty j hk) hn hf hj hd (fun H1 locs1 hp1 _ hS1 => h H1 locs1 ls (hH H1 hp1) hS1 hL)
theorem V_iald (C : CX x cc own R) {a nn : Nat} {i v : Int32} (q : Nat) (hi : i = nI q) (hq : Nat.ble (q+1) nn = true) (hnn : Nat.ble nn 2147483647 = true) (hd : D1 cc pc .iaload 1 pc') (hr : RdA (xs x) P a nn q v) (h : V x A P k n pc' L (.int v :: st)) : V x A P k n pc L (.int i :: .ref a :: st) := by
  have hq := Nat.le_of_ble_eq_true hq
  have hnn := Nat.le_of_ble_eq_true hnn
  subst hi
  obtain ⟨p, l, e, R', s, m, args, below, meth, c, Q⟩ := x
  obtain ⟨hx, hb, hR, hown, hts⟩ := C
  obtain ⟨hd, rfl⟩ := hd
  intro H locs ls hP hS hL
  obtain ⟨D, cl, tys, cA, t0, f, hK, hp, ht, hv⟩ := hr H hP
  refine va_iald hx hb hK hp 0 t0 rfl ht (vp_in_nI hq (by omega)) hd ?_
  rw [nI_clamp (by omega), hv]
  exact h H locs ls hP hS hL
theorem V_ialdN (C : CX x cc own R) {a nn : Nat} {i v : Int32} (q : Nat) (hi : i = nI q) (hq : q < nn) (hnn : nn < 2147483648) (hd : D1 cc pc .iaload 1 pc') (hr : RdA (xs x) P a nn q v) (h : V x A P k n pc' L (.int v :: st)) : V x A P k n pc L (.int i :: .ref a :: st) :=
  V_iald C q hi (Nat.ble_eq_true_of_le hq) (Nat.ble_eq_true_of_le (by omega)) hd hr h
theorem V_aald (C : CX x cc own R) {a nn : Nat} {Cn : String} {f : Nat → Option Nat} {i : Int32} (hd : D1 cc pc .aaload 1 pc') (hr : RdQ (xs x) P a nn Cn f) (hin : vp_in i nn) (h : V x A P k n pc' L (va_rf (f i.toNatClampNeg) :: st)) : V x A P k n pc L (.int i :: .ref a :: st) := by
  obtain ⟨p, l, e, R', s, m, args, below, meth, c, Q⟩ := x
  obtain ⟨hx, hb, hR, hown, hts⟩ := C
  obtain ⟨hd, rfl⟩ := hd
  intro H locs ls hP hS hL
  obtain ⟨D, cl, tys, cA, t0, hK, hp, ht⟩ := hr H hP
  exact va_aldq hx hb hK hp 0 t0 rfl ht hin hd (h H locs ls hP hS hL)
theorem V_iast (C : CX x cc own R) {a nn : Nat} {i v : Int32} {P' : Heap → Prop} (q : Nat) (hi : i = nI q) (hq : Nat.ble (q+1) nn = true) (hnn : Nat.ble nn 2147483647 = true) (hd : D1 cc pc .iastore 1 pc') (hr : WrA (xs x) A P a nn q v P') (h : V x A P' k n pc' L st) : V x A P k n pc L (.int v :: .int i :: .ref a :: st) := by
  have hq := Nat.le_of_ble_eq_true hq
  have hnn := Nat.le_of_ble_eq_true hnn
  subst hi
  obtain ⟨p, l, e, R', s, m, args, below, meth, c, Q⟩ := x
  obtain ⟨hx, hb, hR, hown, hts⟩ := C
  obtain ⟨hd, rfl⟩ := hd
  intro H locs ls hP hS hL
  obtain ⟨D, cl, tys, ws, q0, cA, t0, f, hK, hp, hD, ha, ht, hH⟩ := hr H hP
  refine va_iast hx hb hK hp hD hS q0 t0 ha ht (vp_in_nI hq (by omega)) hd (fun H1 locs1 hp1 _ hS1 => h H1 locs1 ls (hH H1 ?_) hS1 hL)
  rw [nI_clamp (by omega)] at hp1
  exact hp1
theorem V_iastN (C : CX x cc own R) {a nn : Nat} {i v : Int32} {P' : Heap → Prop} (q : Nat) (hi : i = nI q) (hq : q < nn) (hnn : nn < 2147483648) (hd : D1 cc pc .iastore 1 pc') (hr : WrA (xs x) A P a nn q v P') (h : V x A P' k n pc' L st) : V x A P k n pc L (.int v :: .int i :: .ref a :: st) :=
  V_iast C q hi (Nat.ble_eq_true_of_le hq) (Nat.ble_eq_true_of_le (by omega)) hd hr h
theorem V_alen (C : CX x cc own R) {a nn : Nat} {v : Int32} (hd : D1 cc pc .arraylength 1 pc') (hr : RdL (xs x) P a nn) (hv : Int32.ofNat nn = v) (h : V x A P k n pc' L (.int v :: st)) : V x A P k n pc L (.ref a :: st) := by
  obtain ⟨p, l, e, R', s, m, args, below, meth, c, Q⟩ := x
  obtain ⟨hx, hb, hR, hown, hts⟩ := C
  obtain ⟨hd, rfl⟩ := hd
  intro H locs ls hP hS hL
  obtain ⟨D, cl, tys, cA, t0, f, hK, hp, ht⟩ := hr H hP
  exact va_alen hx hb hK hp 0 t0 rfl ht hv hd (h H locs ls hP hS hL)
theorem V_alenQ (C : CX x cc own R) {a nn : Nat} {Cn : String} {f : Nat → Option Nat} {v : Int32} (hd : D1 cc pc .arraylength 1 pc') (hr : RdQ (xs x) P a nn Cn f) (hv : Int32.ofNat nn = v) (h : V x A P k n pc' L (.int v :: st)) : V x A P k n pc L (.ref a :: st) := by
  obtain ⟨p, l, e, R', s, m, args, below, meth, c, Q⟩ := x
  obtain ⟨hx, hb, hR, hown, hts⟩ := C
  obtain ⟨hd, rfl⟩ := hd
  intro H locs ls hP hS hL
  obtain ⟨D, cl, tys, cA, t0, hK, hp, ht⟩ := hr H hP
  exact va_alen hx hb hK hp 0 t0 rfl ht hv hd (h H locs ls hP hS hL)
theorem V_mmin (C : CX x cc own R) {a b : Int32} {idx : Nat} (hd : D1 cc pc (.invokestatic idx) 3 pc') (hl : Cond.methodLink own idx Lib.Math.min.name ∈ lw_gd) (w1 : Cond.static Lib.Math.min.name ∈ lw_gd) (w2 : Cond.initialized "java/lang/Math" ∈ lw_gd) (w3 : Cond.code Lib.Math.min.name Lib.Math.min.code 2 (some .int) ∈ lw_gd) (hf : Nat.ble 1 R.frames = true) (hlo : Nat.ble ((st.map fun v => v.category).sum + 13) R.locals = true) (hk : k ≤ R.cells) (hn : n ≤ R.slots) (h : V x A P k n pc' L (.int (if b < a then b else a) :: st)) : V x A P k n pc L (.int b :: .int a :: st) := by
  obtain ⟨p, l, e, R', s, m, args, below, meth, c, Q⟩ := x
  obtain ⟨hx, hb, hR, hown, hts⟩ := C
  obtain ⟨hd, rfl⟩ := hd
  have hR : R' = R := hR
  subst hR
  intro H locs ls hP hS hL
  exact va_mmin hx hb hL.2.1.symm hown (hts _ hl) (hts _ w1) (hts _ w2) (hts _ w3) (Nat.le_of_ble_eq_true hf) (Nat.le_of_ble_eq_true hlo) hk hn hd (h H locs ls hP hS hL)
theorem V_mmax (C : CX x cc own R) {a b : Int32} {idx : Nat} (hd : D1 cc pc (.invokestatic idx) 3 pc') (hl : Cond.methodLink own idx Lib.Math.max.name ∈ lw_gd) (w1 : Cond.static Lib.Math.max.name ∈ lw_gd) (w2 : Cond.initialized "java/lang/Math" ∈ lw_gd) (w3 : Cond.code Lib.Math.max.name Lib.Math.max.code 2 (some .int) ∈ lw_gd) (hf : Nat.ble 1 R.frames = true) (hlo : Nat.ble ((st.map fun v => v.category).sum + 13) R.locals = true) (hk : k ≤ R.cells) (hn : n ≤ R.slots) (h : V x A P k n pc' L (.int (if a < b then b else a) :: st)) : V x A P k n pc L (.int b :: .int a :: st) := by
  obtain ⟨p, l, e, R', s, m, args, below, meth, c, Q⟩ := x
  obtain ⟨hx, hb, hR, hown, hts⟩ := C
  obtain ⟨hd, rfl⟩ := hd
  have hR : R' = R := hR
  subst hR
  intro H locs ls hP hS hL
  exact va_mmax hx hb hL.2.1.symm hown (hts _ hl) (hts _ w1) (hts _ w2) (hts _ w3) (Nat.le_of_ble_eq_true hf) (Nat.le_of_ble_eq_true hlo) hk hn hd (h H locs ls hP hS hL)
end ROWS
end
section
/-! THE MEMORY: all cells of the system and of the reference, numbered; their contents as one function ρ (cell, slot) -/
abbrev classes : List vw_C := [(RX0, TX0, 2), (RX1, TX1, 6), (RX2, TX2, 7), (RX3, TX3, 3), (RX4, TX4, 2), (RX5, TX5, 13), (RX6, TX6, 2), (RX7, TX7, 0), (RX8, TX8, 11), (RX9, TX9, 26)]
/-- what is fixed: classes' numbers, the array classes of int, House, Sheet, the first address of ours, which wish there is, the cells' addresses, the texts' -/
abbrev En : Type := va_G × ClassId × ClassId × ClassId × Nat × Nat × (Nat → Nat) × (Nat → Nat) × (Nat → Nat)
abbrev eD (E : En) : va_G := E.1
abbrev eI (E : En) : ClassId := E.2.1
abbrev eH (E : En) : ClassId := E.2.2.1
abbrev eS (E : En) : ClassId := E.2.2.2.1
abbrev eB (E : En) : Nat := E.2.2.2.2.1
abbrev eW (E : En) : Nat := E.2.2.2.2.2.1
abbrev ad (E : En) : Nat → Nat := E.2.2.2.2.2.2.1
abbrev eK (E : En) : Nat → Nat := E.2.2.2.2.2.2.2.1
abbrev eV (E : En) : Nat → Nat := E.2.2.2.2.2.2.2.2
def eA (E : En) : Nat → Prop := fun q => eB E ≤ q
abbrev tysE (E : En) : List (ClassId × FieldType) := [(eI E, .int), (eH E, .object RX1), (eS E, .object RX3)]
abbrev Sg : Type := Nat → Nat → Int32
def arI (E : En) (n : Nat) (f : Nat → Int32) : va_E := .inl (eI E, n, .inl f)
/-- a cell by its number and contents -/
def celf (E : En) (c : Nat) (f : Nat → Int32) : va_E :=
  if c < 60 then
    match c % 12 with
    | 0 => .inr (5, [.ref (ad E (c+1)), .ref (ad E (c+2)), .ref (ad E (c+3)), .int (f 3), .int (f 4), .int (f 5), .int (f 6), .int (f 7), .int (f 8), .int (f 9), .int (f 10), .int (f 11), .int (f 12)])
    | 1 => .inl (eH E, 8, .inr (.inr (.inr (.inr (fun i => if i < 8 then some (ad E (c+3+i)) else none)))))
    | 2 => arI E 7 f
    | 3 => arI E 10 f
    | _ => .inr (1, [.int (f 0), .int (f 1), .int (f 2), .int (f 3), .int (f 4), .int (f 5)])
  else
    match c with
    | 60 => .inr (8, [.ref (ad E 0), .ref (ad E 12), .ref (ad E 24), .ref (ad E 36), .ref (ad E 48), .ref (ad E 61), .ref (ad E 62), .ref (ad E 63), .ref (ad E 64), .int (f 9), .int (f 10)])
    | 61 => .inl (eS E, 4, .inr (.inr (.inr (.inr (fun i => if i < 4 then some (ad E (65+i)) else none)))))
    | 62 => arI E 7 f
    | 63 => arI E 120 f
    | 64 => .inr (2, [.ref (ad E 63), .ref (ad E 24), .int (f 2), .int (f 3), .int (f 4), .int (f 5), .int (f 6)])
    | 65 => .inr (3, [.ref (ad E 69), .int (f 1), .int (f 2)])
    | 66 => .inr (3, [.ref (ad E 70), .int (f 1), .int (f 2)])
    | 67 => .inr (3, [.ref (ad E 71), .int (f 1), .int (f 2)])
    | 68 => .inr (3, [.ref (ad E 72), .int (f 1), .int (f 2)])
    | 69 => arI E 40 f
    | 70 => arI E 40 f
    | 71 => arI E 40 f
    | 72 => arI E 40 f
    | 73 => .inr (9, [.ref (ad E 74), .ref (ad E 75), .ref (ad E 76), .ref (ad E 77), .int (f 4), .int (f 5), .int (f 6), .int (f 7), .int (f 8), .int (f 9), .ref (ad E 78), .ref (ad E 79), .int (f 12), .int (f 13), .int (f 14), .int (f 15), .ref (ad E 80), .int (f 17), .int (f 18), .int (f 19), .int (f 20), .int (f 21), .ref (ad E 81), .ref (ad E 82), .ref (ad E 83), .ref (ad E 84)])
    | 74 => arI E 73 f
    | 75 => arI E 73 f
    | 76 => arI E 73 f
    | 77 => arI E 7 f
    | 78 => arI E 146 f
    | 79 => arI E 2 f
    | 80 => arI E 120 f
    | 81 => arI E 4 f
    | 82 => arI E 4 f
    | 83 => arI E 160 f
    | 84 => arI E 40 f
    | _ => match eW E with
      | 1 => .inr (6, [.int (f 0), .int (f 1)])
      | 2 => .inr (4, [.int (f 0), .int (f 1)])
      | 3 => .inr (0, [.ref (ad E 65), .int (f 1)])
      | 4 => .inr (0, [.ref (ad E 66), .int (f 1)])
      | 5 => .inr (0, [.ref (ad E 67), .int (f 1)])
      | _ => .inr (0, [.ref (ad E 68), .int (f 1)])
/-- how many cells there are: the wish is the last -/
def eN (E : En) : Nat := if eW E = 0 then 85 else 86
def wld (E : En) (ρ : Sg) : va_W := (List.range (eN E)).map (fun c => (ad E c, celf E c (ρ c)))
/-- the memory holds ρ, at apart addresses of ours -/
def PR (E : En) (ρ : Sg) (s : State) (H : Heap) : Prop := va_K (eD E) classes (tysE E) s ∧ va_P (eD E) classes (wld E ρ) H ∧ va_D (eA E) (wld E ρ)
/-- one cell's contents anew -/
def us (ρ : Sg) (c : Nat) (f : Nat → Int32) : Sg := fun c' => if c' = c then f else ρ c'
theorem us_s (ρ : Sg) (c : Nat) (f : Nat → Int32) : us ρ c f c = f := if_pos rfl
theorem us_n {ρ : Sg} {c c' : Nat} {f : Nat → Int32} (h : c' ≠ c) : us ρ c f c' = ρ c' := if_neg h
theorem us_us (ρ : Sg) (c : Nat) (f g : Nat → Int32) : us (us ρ c f) c g = us ρ c g := by
  funext c'; unfold us; split <;> rfl
theorem us_id (ρ : Sg) (c : Nat) : us ρ c (ρ c) = ρ := by
  funext c'; unfold us; split
  · rename_i h; rw [h]
  · rfl
theorem wld_get {E : En} {ρ : Sg} {c : Nat} (h : c < eN E) : (wld E ρ)[c]? = some (ad E c, celf E c (ρ c)) := by
  unfold wld
  rw [List.getElem?_map, List.getElem?_range h]
  rfl
theorem wld_set {E : En} {ρ : Sg} {c : Nat} {f : Nat → Int32} (h : c < eN E) : (wld E ρ).set c (ad E c, celf E c f) = wld E (us ρ c f) := by
  apply List.ext_getElem?
  intro i
  by_cases hi : i = c
  · subst hi
    rw [wld_get h, us_s, List.getElem?_set_self (by unfold wld; rw [List.length_map, List.length_range]; exact h)]
  · rw [List.getElem?_set_ne (Ne.symm hi)]
    by_cases hl : i < eN E
    · rw [wld_get hl, wld_get hl, us_n hi]
    · rw [List.getElem?_eq_none (by unfold wld; rw [List.length_map, List.length_range]; omega), List.getElem?_eq_none (by unfold wld; rw [List.length_map, List.length_range]; omega)]
theorem PR.one {E : En} {ρ : Sg} {s : State} {H : Heap} (h : PR E ρ s H) {c : Nat} (hc : c < eN E) {e : va_E} (he : celf E c (ρ c) = e) : va_P (eD E) classes [(ad E c, e)] H := by
  intro k q hk
  have hz : k < 1 := (List.getElem?_eq_some_iff.mp hk).1
  rw [show k = 0 by omega] at hk
  cases hk
  rw [← he]
  exact h.2.1 c _ (wld_get hc)
theorem PR.moved {E : En} {ρ : Sg} {u U : State} {H : Heap} (hvm : u.vm.Alike U.vm) (h : PR E ρ u H) : PR E ρ U H := ⟨va_K.moved hvm h.1, h.2⟩
abbrev RP (x : Cx) (E : En) (ρ : Sg) : Heap → Prop := fun H => PR E ρ (xs x) H
/-- reading a field -/
theorem rdF {x : Cx} {E : En} {ρ : Sg} {c ci j N : Nat} {Cn : String} {T : u_T} {fs : List Value} {v : Value} (hc : c < eN E) (he : celf E c (ρ c) = .inr (ci, fs)) (hcl : classes[ci]? = some (Cn, T, N)) (hv : fs[j]? = some v) : RdF (xs x) (RP x E ρ) (ad E c) Cn T N j v :=
  fun H hP => ⟨eD E, classes, tysE E, ci, fs, hP.1, hP.one hc he, hcl, hv⟩
theorem wrF {x : Cx} {E : En} {ρ : Sg} {c ci j N : Nat} {Cn : String} {T : u_T} {fs : List Value} {v : Value} {g : Nat → Int32} (hc : c < eN E) (he : celf E c (ρ c) = .inr (ci, fs)) (hcl : classes[ci]? = some (Cn, T, N)) (hj : j < fs.length) (hg : celf E c g = .inr (ci, fs.set j v)) : WrF (xs x) (eA E) (RP x E ρ) (ad E c) Cn T N j v (RP x E (us ρ c g)) :=
  fun H hP => ⟨eD E, classes, tysE E, wld E ρ, c, ci, fs, hP.1, hP.2.1, hP.2.2, by rw [wld_get hc, he], hcl, hj, fun H1 h1 => by
    have e := wld_set (ρ := ρ) (f := g) hc
    rw [hg] at e
    exact ⟨hP.1, by rw [← e]; exact h1, by rw [← e]; exact hP.2.2.set (wld_get hc)⟩⟩
theorem rdA {x : Cx} {E : En} {ρ : Sg} {c nn q : Nat} (hc : c < eN E) (he : celf E c (ρ c) = arI E nn (ρ c)) : RdA (xs x) (RP x E ρ) (ad E c) nn q (ρ c q) :=
  fun H hP => ⟨eD E, classes, tysE E, eI E, 0, ρ c, hP.1, hP.one hc he, rfl, rfl⟩
theorem rdL {x : Cx} {E : En} {ρ : Sg} {c nn : Nat} (hc : c < eN E) (he : celf E c (ρ c) = arI E nn (ρ c)) : RdL (xs x) (RP x E ρ) (ad E c) nn :=
  fun H hP => ⟨eD E, classes, tysE E, eI E, 0, ρ c, hP.1, hP.one hc he, rfl⟩
theorem rdQ {x : Cx} {E : En} {ρ : Sg} {c nn t0 : Nat} {cA : ClassId} {Cn : String} {f : Nat → Option Nat} (hc : c < eN E) (he : celf E c (ρ c) = .inl (cA, nn, .inr (.inr (.inr (.inr f))))) (ht : (tysE E)[t0]? = some (cA, .object Cn)) : RdQ (xs x) (RP x E ρ) (ad E c) nn Cn f :=
  fun H hP => ⟨eD E, classes, tysE E, cA, t0, hP.1, hP.one hc he, ht⟩
theorem wrA {x : Cx} {E : En} {ρ : Sg} {c nn i : Nat} {v : Int32} (hc : c < eN E) (he : ∀ f, celf E c f = arI E nn f) : WrA (xs x) (eA E) (RP x E ρ) (ad E c) nn i v (RP x E (us ρ c (upd (ρ c) i v))) :=
  fun H hP => ⟨eD E, classes, tysE E, wld E ρ, c, eI E, 0, ρ c, hP.1, hP.2.1, hP.2.2, by rw [wld_get hc, he]; rfl, rfl, fun H1 h1 => by
    have e := wld_set (ρ := ρ) (f := upd (ρ c) i v) hc
    rw [he] at e
    exact ⟨hP.1, by rw [← e]; exact h1, by rw [← e]; exact hP.2.2.set (wld_get hc)⟩⟩
/-- a receiver -/
def IsO (s : State) (P : Heap → Prop) (a : Nat) (Cn : String) : Prop := ∀ H, P H → ∃ cell : Cell, H[a]? = some cell ∧ cell.vm.isStatics = false ∧ s.vm.findClass Cn = some cell.cls
theorem isO {x : Cx} {E : En} {ρ : Sg} {c ci N : Nat} {Cn : String} {T : u_T} {fs : List Value} (hc : c < eN E) (he : celf E c (ρ c) = .inr (ci, fs)) (hcl : classes[ci]? = some (Cn, T, N)) : IsO (xs x) (RP x E ρ) (ad E c) Cn :=
  fun H hP => va_recv (q := (Cn, T, N)) hP.1 (hP.one hc he) hcl (q0 := 0) rfl
end
section
/-! CONTRACTS AND CALLS -/
def nTx : Nat := 15
def lenTx : List Nat := [5, 6, 8, 4, 5, 5, 6, 4, 4, 4, 5, 5, 3, 3, 4]
def bytTx : List (List Int32) := [[104, 111, 117, 115, 101], [106, 111, 105, 110, 101, 100], [100, 114, 97, 117, 103, 104, 116, 121], [100, 101, 101, 112], [101, 109, 112, 116, 121], [112, 114, 111, 117, 100], [115, 109, 105, 116, 104, 121], [119, 97, 114, 109], [119, 97, 108, 108], [108, 111, 103, 115], [98, 111, 117, 110, 100], [115, 116, 101, 101, 112], [111, 117, 116], [105, 99, 101], [116, 104, 97, 119]]
def idxTx : List Nat := [69, 71, 73, 75, 77, 79, 81, 87, 93, 95, 97, 47, 56, 61, 63]
def txTx : List String := ["house", "joined", "draughty", "deep", "empty", "proud", "smithy", "warm", "wall", "logs", "bound", "steep", "out", "ice", "thaw"]
/-- texts and the JDK's statics, as the law's start gives them -/
def XS (E : En) (s : State) (H : Heap) : Prop := vk_S nTx lenTx bytTx (eK E) (eV E) (eA E) s H ∧ (∀ i, i < nTx → vk_R RX2 (idxTx.getD i 0) (txTx.getD i "") (eK E i) s) ∧ va_Z "java/lang/String" "COMPACT_STRINGS" "Z" (.int 1) (eA E) s H ∧ va_Zq "jdk/internal/util/Preconditions" "SIOOBE_FORMATTER" "Ljava/util/function/BiFunction;" (eA E) s H
theorem XS.kept {E : En} {s : State} {H H1 : Heap} (h : XS E s H) (hq : ∀ a : Nat, a < H.size → ¬ eA E a → H1[a]? = H[a]?) : XS E s H1 := ⟨h.1.kept hq, h.2.1, h.2.2.1.kept hq, h.2.2.2.kept hq⟩
theorem XS.warm {E : En} {s U : State} {H : Heap} (hW : s.WarmedH U.vm) (h : XS E s H) : XS E U H := ⟨vk_S.moved hW.alike h.1, fun i hi => (h.2.1 i hi).warm hW, va_Z.moved hW.alike h.2.2.1, va_Zq.moved hW.alike h.2.2.2⟩
theorem XS.same {E : En} {u U : State} {H : Heap} (hv : U.vm = u.vm) (h : XS E u H) : XS E U H := ⟨vk_S.moved (hv ▸ Vm.Alike.refl _) h.1, fun i hi => (h.2.1 i hi).same hv, va_Z.moved (hv ▸ Vm.Alike.refl _) h.2.2.1, va_Zq.moved (hv ▸ Vm.Alike.refl _) h.2.2.2⟩
/-- what holds at the start of every method of ours, beside the memory -/
def CE (E : En) (s : State) (H : Heap) : Prop := XS E s H ∧ eB E ≤ H.size
def QG {S : Type} (post : Option Value → S → Prop) (B : S → State → Prop) (A : Nat → Prop) : Array Value → State → Outcome → State → Prop := fun _ st oc t => (∃ (r : Option Value) (u : S), oc = .returned r ∧ post r u ∧ B u t) ∧ va_F A st t
/-- a picture that goes with the machine's tables -/
def PM (P : State → Heap → Prop) : Prop := ∀ (u U : State) (H : Heap), u.vm.Alike U.vm → P u H → P U H
theorem PM_R {E : En} {ρ : Sg} : PM (PR E ρ) := fun _ _ _ hvm h => h.moved hvm
/-- a contract: from P, with the arguments av, the method returns r with post r u, and P' u holds -/
def MG (l : Launch) (y : MethodName) (cc : ByteArray) (nL : Nat) (ret : Option FieldType) (rm : Room) (mc ms : Nat) (E : En) (av : List Value) (P : State → Heap → Prop) {S : Type} (post : Option Value → S → Prop) (P' : S → State → Heap → Prop) : Prop :=
  Met l y (.code y cc nL ret :: lw_gd) rm (va_Pc av (fun U => P U U.heap ∧ CE E U U.heap)) (QG post (fun u t => P' u t t.heap) (eA E)) mc ms (eA E)
/-- how a method ends -/
def RT (x : Cx) (ret : Option FieldType) (E : En) {S : Type} (post : Option Value → S → Prop) (P' : S → State → Heap → Prop) (mc ms : Nat) : Prop :=
  match x with
  | (_, _, _, _, s, _, args, below, meth, _, Q) => Q = MQ below (QG post (fun u t => P' u t t.heap) (eA E)) args s mc ms (eA E) ∧ meth.sig.returnType = ret ∧ meth.locks = false
def lst0 : List Value → List (Option Value)
  | [] => []
  | v :: vs => if v.category = 2 then some v :: none :: lst0 vs else some v :: lst0 vs
def lst (nL : Nat) (av : List Value) : List (Option Value) := lst0 av ++ List.replicate (nL - (lst0 av).length) none
theorem lvL_app : ∀ (a b : List (Option Value)) (i : Nat), lvL i (a ++ b) = lvL i a ++ lvL (i + a.length) b := by
  intro a
  induction a with
  | nil => intro b i; simp [lvL]
  | cons o a ih =>
    intro b i
    cases o with
    | none => simp only [List.cons_append, lvL, ih, List.length_cons]; rw [show i + 1 + a.length = i + (a.length + 1) by omega]
    | some v => simp only [List.cons_append, lvL, ih, List.length_cons]; rw [show i + 1 + a.length = i + (a.length + 1) by omega]
theorem lvL_none (n i : Nat) : lvL i (List.replicate n none) = [] := by
  induction n generalizing i with
  | zero => rfl
  | succ n ih => simp only [List.replicate_succ, lvL, ih]
theorem lvL_lst0 : ∀ (av : List Value) (i : Nat), lvL i (lst0 av) = lv_args i av := by
  intro av
  induction av with
  | nil => intro i; rfl
  | cons v vs ih =>
    intro i
    by_cases hc : v.category = 2
    · simp only [lst0, hc, if_true, lvL, lv_args, ih]
    · simp only [lst0, hc, if_false, lvL, lv_args, ih]
theorem lst0_len : ∀ (av : List Value), (lst0 av).length = (lg_sl av).length := by
  intro av
  induction av with
  | nil => rfl
  | cons v vs ih =>
    by_cases hc : v.category = 2
    · simp only [lst0, hc, if_true, List.length_cons, ih]; simp [lg_sl, hc, ih]
    · simp only [lst0, hc, if_false, List.length_cons, ih]; simp [lg_sl, hc, ih]
theorem MG_of {l : Launch} {y : MethodName} {cc : ByteArray} {nL : Nat} {ret : Option FieldType} {rm : Room} {mc ms : Nat} {E : En} {av : List Value} {P : State → Heap → Prop} {S : Type} {post : Option Value → S → Prop} {P' : S → State → Heap → Prop}
    (hy : plainName y.cls = true) (hn : Nat.ble (lst0 av).length nL = true)
    (body : ∀ x : Cx, CX x cc y.cls rm → CE E (xs x) (xs x).heap → RT x ret E post P' mc ms → V x (eA E) (fun H => P (xs x) H) 0 0 0 (lst nL av) []) : MG l y cc nL ret rm mc ms E av P post P' := by
  refine Met.ofW hy rfl ?_
  intro p e s m args below meth c s₁ B hml hv
  obtain ⟨rfl, hP, hE⟩ := hv
  have hts := atoms_spec (ws := .code y cc nL ret :: lw_gd) B.pre
  have hb := body (p, l, e, rm, s, m, av.toArray, below, meth, c, _) ⟨B.exec, B.bytes, rfl, findClass_of_methodNamed B.named, fun w hw => hts w (List.mem_cons_of_mem _ hw)⟩ hE ⟨rfl, B.returns, B.notSynchronized⟩
  have hn' : (lg_sl av).length ≤ nL := by rw [← lst0_len]; exact Nat.le_of_ble_eq_true hn
  have hl := lv_entry av (n := nL) hn'
  rw [lg_entry_eq]
  refine hb s.heap [] _ hP va_S.rf ?_
  refine ⟨?_, ?_⟩
  · rw [hml]; simp only [lst, List.length_append, List.length_replicate, lst0_len]; omega
  · rw [hml]; unfold lst; rw [lvL_app, lvL_none, List.append_nil, lvL_lst0]; exact hl
section CALLS
variable {x : Cx} {cc : ByteArray} {own : String} {R : Room} {E : En} {k n pc pc' tgt : Nat} {L : List (Option Value)} {st : List Value}
theorem V_iret (C : CX x cc own R) {S : Type} {post : Option Value → S → Prop} {P' : S → State → Heap → Prop} {u : S} {a : Int32} {P : Heap → Prop} (hd : D1 cc pc .ireturn 1 pc') (hT : RT x (some .int) E post P' k n) (hp : post (some (.int a)) u) (hP : ∀ H, P H → P' u (xs x) H) (hM : PM (P' u)) : V x (eA E) P k n pc L [.int a] := by
  obtain ⟨p, l, e, R', s, m, args, below, meth, c, Q⟩ := x
  obtain ⟨hx, hb, hR, hown, hts⟩ := C
  obtain ⟨rfl, hr, hlk⟩ := hT
  intro H locs ls hPH hS hL
  exact W.iret hx hb hr (fun t ht hW => ⟨⟨_, u, rfl, hp, by show P' u t t.heap; rw [ht]; exact hM _ _ _ hW.alike (hP H hPH)⟩, hS.F ht⟩) hS.2.2 hd.1 hlk
theorem V_zret (C : CX x cc own R) {S : Type} {post : Option Value → S → Prop} {P' : S → State → Heap → Prop} {u : S} {a : Int32} {P : Heap → Prop} (hd : D1 cc pc .ireturn 1 pc') (hT : RT x (some .boolean) E post P' k n) (hn : narrow .boolean (.int a) = .int a) (hp : post (some (.int a)) u) (hP : ∀ H, P H → P' u (xs x) H) (hM : PM (P' u)) : V x (eA E) P k n pc L [.int a] := by
  obtain ⟨p, l, e, R', s, m, args, below, meth, c, Q⟩ := x
  obtain ⟨hx, hb, hR, hown, hts⟩ := C
  obtain ⟨rfl, hr, hlk⟩ := hT
  intro H locs ls hPH hS hL
  exact W.zret hx hb hr hn (fun t ht hW => ⟨⟨_, u, rfl, hp, by show P' u t t.heap; rw [ht]; exact hM _ _ _ hW.alike (hP H hPH)⟩, hS.F ht⟩) hS.2.2 hd.1 hlk
theorem V_ret (C : CX x cc own R) {S : Type} {post : Option Value → S → Prop} {P' : S → State → Heap → Prop} {u : S} {P : Heap → Prop} (hd : D1 cc pc .return_ 1 pc') (hT : RT x none E post P' k n) (hp : post none u) (hP : ∀ H, P H → P' u (xs x) H) (hM : PM (P' u)) : V x (eA E) P k n pc L [] := by
  obtain ⟨p, l, e, R', s, m, args, below, meth, c, Q⟩ := x
  obtain ⟨hx, hb, hR, hown, hts⟩ := C
  obtain ⟨rfl, hr, hlk⟩ := hT
  intro H locs ls hPH hS hL
  exact W.vret hx hb hr (fun t ht hW => ⟨⟨_, u, rfl, hp, by show P' u t t.heap; rw [ht]; exact hM _ _ _ hW.alike (hP H hPH)⟩, hS.F ht⟩) hS.2.2 hd.1 hlk
theorem V_aret (C : CX x cc own R) {S : Type} {post : Option Value → S → Prop} {P' : S → State → Heap → Prop} {u : S} {v : Value} {nm : String} {P : Heap → Prop} (hd : D1 cc pc .areturn 1 pc') (hT : RT x (some (.object nm)) E post P' k n) (hv : v = .null ∨ ∃ a, v = .ref a) (hp : post (some v) u) (hP : ∀ H, P H → P' u (xs x) H) (hM : PM (P' u)) : V x (eA E) P k n pc L [v] := by
  obtain ⟨p, l, e, R', s, m, args, below, meth, c, Q⟩ := x
  obtain ⟨hx, hb, hR, hown, hts⟩ := C
  obtain ⟨rfl, hr, hlk⟩ := hT
  intro H locs ls hPH hS hL
  exact W.aret hx hb hr (Or.inl ⟨nm, rfl⟩) hv (fun t ht hW => ⟨⟨_, u, rfl, hp, by show P' u t t.heap; rw [ht]; exact hM _ _ _ hW.alike (hP H hPH)⟩, hS.F ht⟩) hS.2.2 hd.1 hlk
theorem V_lret (C : CX x cc own R) {S : Type} {post : Option Value → S → Prop} {P' : S → State → Heap → Prop} {u : S} {a : Int64} {P : Heap → Prop} (hd : D1 cc pc .lreturn 1 pc') (hT : RT x (some .long) E post P' k n) (hp : post (some (.long a)) u) (hP : ∀ H, P H → P' u (xs x) H) (hM : PM (P' u)) : V x (eA E) P k n pc L [.long a] := by
  obtain ⟨p, l, e, R', s, m, args, below, meth, c, Q⟩ := x
  obtain ⟨hx, hb, hR, hown, hts⟩ := C
  obtain ⟨rfl, hr, hlk⟩ := hT
  intro H locs ls hPH hS hL
  exact W.lret hx hb hr (fun t ht hW => ⟨⟨_, u, rfl, hp, by show P' u t t.heap; rw [ht]; exact hM _ _ _ hW.alike (hP H hPH)⟩, hS.F ht⟩) hS.2.2 hd.1 hlk
theorem callG {p : Program} {l : Launch} {e : Env} {R : Room} {s : State} {m : MethodId} {args : Array Value} {below : List Frame} {meth : Method} {c : Code} {H : Heap} {locs : List Loc} {Q : State → Prop} {ls : Array Slot} {rest st0 : List Value} {a : Array Value} {A : Nat → Prop} {H0 : Heap} {mc ms : Nat} {free : Addr → Prop} {S : Type} {post : Option Value → S → Prop} {B : S → State → Prop}
    (hr : va_Run p l e R s m args below meth c H locs k n mc ms (F0 m pc ls st0) rest (QG post B A a) free) (hS : va_S A H0 H locs) (hf : ∀ q, free q → A q)
    (kk : ∀ (r : Option Value) (u : S) (t : State) (H1 : Heap) (locs1 : List Loc), t.heap = H1 → s.vm.Alike t.vm → post r u → B u t → va_S A H0 H1 locs1 → W p l e R s m args below meth c H1 locs1 (k + mc) (n + ms) Q (F0 m (pc + 3) ls (r.toList ++ rest))) : W p l e R s m args below meth c H locs k n Q (F0 m pc ls st0) := by
  intro T hT X
  obtain ⟨v, st₀, t, T', L, h0, X', hL, e1, e2, ⟨⟨r, u, hv, hp, hb⟩, hz, hk⟩, st⟩ := hr T hT X
  cases hv
  rw [h0] at hz hk
  obtain ⟨t2, a1, b1⟩ := kk v u t T'.heap (locs ++ L) e1.symm (by rw [← e2]; exact X'.warmed.alike) hp hb
    ⟨Nat.le_trans hS.1 (by rw [e1]; exact hz), fun q h1 h2 => by rw [e1, hk q (Nat.lt_of_lt_of_le h1 hS.1) h2]; exact hS.2.1 q h1 h2, fun q hq => by
      rcases List.mem_append.mp hq with h | h
      · exact hS.2.2 q h
      · exact hf _ (hL q h)⟩ T' rfl X'
  exact ⟨t2, st t2 a1, b1⟩
/-- what the tables say of a method that is called on an object -/
def KV (Cn : String) (y : MethodName) (ycc : ByteArray) (ynL : Nat) (ret : Option FieldType) (nn : Nat) : Prop := Cond.instanceMethod y ∈ lw_gd ∧ Cond.selects Cn y y ∈ lw_gd ∧ Cond.initialized Cn ∈ lw_gd ∧ Cond.code y ycc ynL ret ∈ lw_gd ∧ (y.cls = Cn ∧ y.cls ≠ "java/lang/invoke/MethodHandle" ∧ y.cls ≠ "java/lang/invoke/VarHandle" ∧ (parseMethodDescriptor y.desc).map (fun d => d.parameters.length) = some nn)
/-- of a static one -/
def KS (Cn : String) (y : MethodName) (ycc : ByteArray) (ynL : Nat) (ret : Option FieldType) (nn : Nat) : Prop := Cond.static y ∈ lw_gd ∧ Cond.initialized Cn ∈ lw_gd ∧ Cond.code y ycc ynL ret ∈ lw_gd ∧ (y.cls = Cn ∧ y.cls ≠ "java/lang/invoke/MethodHandle" ∧ y.cls ≠ "java/lang/invoke/VarHandle" ∧ (parseMethodDescriptor y.desc).map (fun d => d.parameters.length) = some nn)
/-- the callee's room fits -/
def RO (rm : Room) (ynL : Nat) (R : Room) : Prop := rm.frames + 1 ≤ R.frames ∧ 8 + (ynL + 11) + rm.locals ≤ R.locals
theorem V_call (C : CX x cc own R) (hE : CE E (xs x) (xs x).heap) {idx nn ynL mc ms : Nat} {Cn : String} {b : Nat} {As rest : List Value} {y : MethodName} {ycc : ByteArray} {ret : Option FieldType} {rm : Room} {P : State → Heap → Prop} {S : Type} {post : Option Value → S → Prop} {P' : S → State → Heap → Prop}
    (hd : D1 cc pc (.invokevirtual idx) 3 pc') (hM : MG (xl x) y ycc ynL ret rm mc ms E (.ref b :: As) P post P') (hk : KV Cn y ycc ynL ret nn) (hl : Cond.methodLink own idx y ∈ lw_gd) (ho : IsO (xs x) (fun H => P (xs x) H) b Cn) (hro : RO rm ynL R) (hcc : rm.cells = mc ∧ rm.slots = ms) (hnn : As.length = nn) (hc : k + mc ≤ R.cells ∧ n + ms ≤ R.slots) (hst : st = As.reverse ++ .ref b :: rest) (hrest : (rest.map fun v => v.category).sum ≤ 8) (hPM : PM P) (hPM' : ∀ u, PM (P' u))
    (kk : ∀ (r : Option Value) (u : S), post r u → V x (eA E) (fun H => P' u (xs x) H) (k + mc) (n + ms) pc' L (r.toList ++ rest)) : V x (eA E) (fun H => P (xs x) H) k n pc L st := by
  obtain ⟨p, l, e, R', s, m, args, below, meth, c, Q⟩ := x
  obtain ⟨hx, hb, hR, hown, hts⟩ := C
  obtain ⟨hd, rfl⟩ := hd
  obtain ⟨k1, k2, k3, k4, k5⟩ := hk
  have hR : R' = R := hR
  subst hR
  subst hst
  intro H locs ls hPH hS hL
  have hG : GoodIn lw_gd (wsV own idx Cn y (.code y ycc ynL ret :: lw_gd)) := fun w hw => lw_gd_ok w (by
    unfold wsV at hw
    simp only [List.cons_append, List.nil_append, List.mem_cons] at hw
    rcases hw with rfl | rfl | rfl | rfl | rfl | h <;> assumption)
  refine callG (va_runV (As := As) (rest := rest) (nL := c.maxLocals) ⟨hx, hb, rfl, hown, hts⟩ hM (cwV nn hts hG rfl hcc.1 hcc.2 k5 hro) ⟨?_, ho H hPH, ?_⟩ rfl hnn (by rw [hL.2.1]) rfl (lv_room hrest) hd hc) hS (fun _ h => h) ?_
  · intro a U g mk q
    exact ⟨q.1, hPM _ _ _ (Vm.Alike.refl U.vm) q.2.1, XS.same rfl q.2.2.1, q.2.2.2⟩
  · intro U hU hW
    refine ⟨rfl, by rw [hU]; exact hPM _ _ _ hW.alike hPH, ?_, by rw [hU]; exact Nat.le_trans hE.2 hS.1⟩
    rw [hU]
    exact (hE.1.kept (fun a h1 h2 => hS.2.1 a h1 h2)).warm hW
  · intro r u t H1 locs1 ht hvm hp hB hS1
    exact kk r u hp H1 locs1 ls (by rw [← ht]; exact hPM' u _ _ _ hvm.symm hB) hS1 hL
theorem V_callS (C : CX x cc own R) (hE : CE E (xs x) (xs x).heap) {idx nn ynL mc ms : Nat} {As rest : List Value} {y : MethodName} {ycc : ByteArray} {ret : Option FieldType} {rm : Room} {P : State → Heap → Prop} {S : Type} {post : Option Value → S → Prop} {P' : S → State → Heap → Prop}
    (hd : D1 cc pc (.invokestatic idx) 3 pc') (hM : MG (xl x) y ycc ynL ret rm mc ms E As P post P') (hk : KS own y ycc ynL ret nn) (hl : Cond.methodLink own idx y ∈ lw_gd) (hro : RO rm ynL R) (hcc : rm.cells = mc ∧ rm.slots = ms) (hnn : As.length = nn) (hc : k + mc ≤ R.cells ∧ n + ms ≤ R.slots) (hst : st = As.reverse ++ rest) (hrest : (rest.map fun v => v.category).sum ≤ 8) (hPM : PM P) (hPM' : ∀ u, PM (P' u))
    (kk : ∀ (r : Option Value) (u : S), post r u → V x (eA E) (fun H => P' u (xs x) H) (k + mc) (n + ms) pc' L (r.toList ++ rest)) : V x (eA E) (fun H => P (xs x) H) k n pc L st := by
  obtain ⟨p, l, e, R', s, m, args, below, meth, c, Q⟩ := x
  obtain ⟨hx, hb, hR, hown, hts⟩ := C
  obtain ⟨hd, rfl⟩ := hd
  obtain ⟨k1, k3, k4, k5⟩ := hk
  have hR : R' = R := hR
  subst hR
  subst hst
  intro H locs ls hPH hS hL
  have hG : GoodIn lw_gd (wsS own idx y (.code y ycc ynL ret :: lw_gd)) := fun w hw => lw_gd_ok w (by
    unfold wsS at hw
    simp only [List.cons_append, List.nil_append, List.mem_cons] at hw
    rcases hw with rfl | rfl | rfl | rfl | h <;> assumption)
  refine callG (va_runS (As := As) (rest := rest) (nL := c.maxLocals) ⟨hx, hb, rfl, hown, hts⟩ hM (cwS nn hts hG rfl hcc.1 hcc.2 k5 hro) ⟨?_, ?_⟩ rfl hnn (by rw [hL.2.1]) rfl (lv_room hrest) hd hc) hS (fun _ h => h) ?_
  · intro a U g mk q
    exact ⟨q.1, hPM _ _ _ (Vm.Alike.refl U.vm) q.2.1, XS.same rfl q.2.2.1, q.2.2.2⟩
  · intro U hU hW
    refine ⟨rfl, by rw [hU]; exact hPM _ _ _ hW.alike hPH, ?_, by rw [hU]; exact Nat.le_trans hE.2 hS.1⟩
    rw [hU]
    exact (hE.1.kept (fun a h1 h2 => hS.2.1 a h1 h2)).warm hW
  · intro r u t H1 locs1 ht hvm hp hB hS1
    exact kk r u hp H1 locs1 ls (by rw [← ht]; exact hPM' u _ _ _ hvm.symm hB) hS1 hL
end CALLS
end
section
/-! THE PICTURE: villages as rows of 73 numbers, in the order of the reference; what lies behind the last house is 0 in the picture, and anything in the memory -/
def nh (f : Nat → Int32) : Nat := (f 1).toNatClampNeg
def hf (f : Nat → Int32) (i j : Nat) : Int32 := f (15 + 6 * i + j)
def uh (f : Nat → Int32) (i j : Nat) (y : Int32) : Nat → Int32 := upd f (15 + 6 * i + j) y
def Can (f : Nat → Int32) : Prop := f 1 = nI (nh f) ∧ nh f ≤ 8 ∧ (∀ k, 73 ≤ k → f k = 0) ∧ ∀ i j, nh f ≤ i → i < 8 → j < 6 → hf f i j = 0
def vsl : Nat → Nat
  | 3 => 1
  | 4 => 5
  | 5 => 6
  | 6 => 2
  | 7 => 3
  | 8 => 0
  | 9 => 4
  | _ => 7
theorem upd_s (f : Nat → Int32) (k : Nat) (x : Int32) : upd f k x k = x := by simp [upd]
theorem upd_n {f : Nat → Int32} {k j : Nat} {x : Int32} (h : j ≠ k) : upd f k x j = f j := by simp [upd, h]
theorem upd_id (f : Nat → Int32) (k : Nat) : upd f k (f k) = f := by
  funext j; by_cases h : j = k
  · subst h; rw [upd_s]
  · rw [upd_n h]
theorem upd_upd (f : Nat → Int32) (k : Nat) (x y : Int32) : upd (upd f k x) k y = upd f k y := by
  funext j; by_cases h : j = k
  · subst h; rw [upd_s, upd_s]
  · rw [upd_n h, upd_n h, upd_n h]
theorem hf_uh_s (f : Nat → Int32) (i j : Nat) (y : Int32) : hf (uh f i j y) i j = y := upd_s _ _ _
theorem hf_uh_n {f : Nat → Int32} {i j i' j' : Nat} {y : Int32} (h : ¬ (i' = i ∧ j' = j)) (hj : j < 6) (hj' : j' < 6) : hf (uh f i j y) i' j' = hf f i' j' := by
  unfold hf uh; exact upd_n (by omega)
theorem uh_lo {f : Nat → Int32} {i j k : Nat} {y : Int32} (h : k < 15) : uh f i j y k = f k := upd_n (by omega)
theorem uh_hi {f : Nat → Int32} {i j k : Nat} {y : Int32} (h : 63 ≤ k) (hi : i < 8) (hj : j < 6) : uh f i j y k = f k := upd_n (by omega)
theorem nh_uh {f : Nat → Int32} {i j : Nat} {y : Int32} : nh (uh f i j y) = nh f := by unfold nh; rw [uh_lo (by omega)]
theorem nh_upd {f : Nat → Int32} {k : Nat} {y : Int32} (h : k ≠ 1) : nh (upd f k y) = nh f := by unfold nh; rw [upd_n (Ne.symm h)]
theorem hf_upd {f : Nat → Int32} {k i j : Nat} {y : Int32} (h : k < 15 ∨ 63 ≤ k) (hi : i < 8) (hj : j < 6) : hf (upd f k y) i j = hf f i j := by
  unfold hf; exact upd_n (by omega)
theorem Can_uh {f : Nat → Int32} {i j : Nat} {y : Int32} (h : Can f) (hi : i < nh f) (hj : j < 6) : Can (uh f i j y) := by
  obtain ⟨h1, h2, h3, h4⟩ := h
  refine ⟨by rw [nh_uh, uh_lo (by omega)]; exact h1, by rw [nh_uh]; exact h2, fun k hk => ?_, fun i' j' hi' hi8 hj' => ?_⟩
  · rw [uh_hi (by omega) (by omega) hj]; exact h3 k hk
  · rw [nh_uh] at hi'
    rw [hf_uh_n (by omega) hj hj']; exact h4 i' j' hi' hi8 hj'
theorem Can_upd {f : Nat → Int32} {k : Nat} {y : Int32} (h : Can f) (hk : k ≠ 1) (hk2 : k < 15 ∨ 63 ≤ k) (hk3 : k < 73) : Can (upd f k y) := by
  obtain ⟨h1, h2, h3, h4⟩ := h
  refine ⟨by rw [nh_upd hk, upd_n (Ne.symm hk)]; exact h1, by rw [nh_upd hk]; exact h2, fun k' hk' => ?_, fun i' j' hi' hi8 hj' => ?_⟩
  · rw [upd_n (by omega)]; exact h3 k' hk'
  · rw [nh_upd hk] at hi'
    rw [hf_upd hk2 hi8 hj']; exact h4 i' j' hi' hi8 hj'
/-- a village of the system -/
def AbV (f : Nat → Int32) (ρ : Sg) (v : Nat) : Prop := Can f ∧ (∀ j, 3 ≤ j → j ≤ 10 → ρ (12*v) j = f (vsl j)) ∧ (∀ i, i < 7 → ρ (12*v+2) i = f (8+i)) ∧ (∀ i, i < 10 → ρ (12*v+3) i = f (63+i)) ∧ ∀ i j, i < nh f → j < 6 → ρ (12*v+4+i) j = hf f i j
/-- a row of the reference -/
def Msk (f g : Nat → Int32) : Prop := Can f ∧ (∀ k, k < 15 → g k = f k) ∧ (∀ k, 63 ≤ k → k < 73 → g k = f k) ∧ ∀ i j, i < nh f → j < 6 → g (15+6*i+j) = hf f i j
def ABS (σ ρ : Sg) : Prop := (∀ v, v < 5 → AbV (σ v) ρ v ∧ ρ (12*v) 11 = σ (5+v) 0 ∧ ρ (12*v) 12 = σ (5+v) 1) ∧ (∀ c, 60 ≤ c → c ≠ 74 → c ≠ 75 → c ≠ 76 → c ≠ 78 → σ c = ρ c) ∧ (∀ c, 74 ≤ c → c ≤ 76 → Msk (σ c) (ρ c)) ∧ Msk (σ 10) (ρ 78) ∧ Msk (σ 11) (fun k => ρ 78 (73+k))
theorem AbV.congr {f : Nat → Int32} {ρ ρ' : Sg} {v : Nat} (h : AbV f ρ v) (e : ∀ c, 12*v ≤ c → c < 12*v+12 → ρ' c = ρ c) : AbV f ρ' v := by
  obtain ⟨h1, h2, h3, h4, h5⟩ := h
  refine ⟨h1, fun j a b => by rw [e _ (by omega) (by omega)]; exact h2 j a b, fun i a => by rw [e _ (by omega) (by omega)]; exact h3 i a, fun i a => by rw [e _ (by omega) (by omega)]; exact h4 i a, fun i j a b => ?_⟩
  have := h1.2.1
  rw [e _ (by omega) (by omega)]; exact h5 i j a b
/-- a write into village v's cells -/
theorem ABS.vil {σ ρ : Sg} {v c : Nat} {f g : Nat → Int32} (h : ABS σ ρ) (hv : v < 5) (h1 : 12*v ≤ c) (h2 : c < 12*v+12) (ha : AbV f (us ρ c g) v) (hl : us ρ c g (12*v) 11 = ρ (12*v) 11) (hl2 : us ρ c g (12*v) 12 = ρ (12*v) 12) : ABS (us σ v f) (us ρ c g) := by
  obtain ⟨a, b, d, m, m2⟩ := h
  refine ⟨fun v' hv' => ?_, fun c' q q1 q2 q3 q4 => ?_, fun c' q q1 => ?_, ?_, ?_⟩
  · by_cases e : v' = v
    · subst e
      rw [us_s, us_n (show 5 + v' ≠ v' by omega), hl, hl2]
      exact ⟨ha, (a v' hv').2⟩
    · rw [us_n e, us_n (show 5 + v' ≠ v by omega), us_n (show 12 * v' ≠ c by omega)]
      exact ⟨(a v' hv').1.congr (fun c' _ _ => us_n (by omega)), (a v' hv').2⟩
  · rw [us_n (by omega), us_n (by omega)]; exact b c' q q1 q2 q3 q4
  · rw [us_n (by omega), us_n (by omega)]; exact d c' q q1
  · rw [us_n (by omega), us_n (by omega)]; exact m
  · rw [us_n (show (11:Nat) ≠ v by omega), us_n (show (78:Nat) ≠ c by omega)]; exact m2
theorem abs_house {σ ρ : Sg} {v i j : Nat} {y : Int32} (h : ABS σ ρ) (hv : v < 5) (hi : i < nh (σ v)) (hj : j < 6) : ABS (us σ v (uh (σ v) i j y)) (us ρ (12*v+4+i) (upd (ρ (12*v+4+i)) j y)) := by
  obtain ⟨h1, h2, h3, h4, h5⟩ := (h.1 v hv).1
  have h8 := h1.2.1
  refine h.vil hv (by omega) (by omega) ⟨Can_uh h1 hi hj, fun j' a b => ?_, fun i' a => ?_, fun i' a => ?_, fun i' j' a b => ?_⟩ (by rw [us_n (by omega)]) (by rw [us_n (by omega)])
  · rw [us_n (by omega), h2 j' a b, uh_lo (by unfold vsl; split <;> omega)]
  · rw [us_n (by omega), h3 i' a, uh_lo (by omega)]
  · rw [us_n (by omega), h4 i' a, uh_hi (by omega) (by omega) hj]
  · rw [nh_uh] at a
    by_cases e : i' = i
    · subst e
      rw [us_s]
      by_cases ej : j' = j
      · subst ej; rw [upd_s, hf_uh_s]
      · rw [upd_n ej, hf_uh_n (by omega) hj b]; exact h5 i' j' a b
    · rw [us_n (by omega), hf_uh_n (by omega) hj b]; exact h5 i' j' a b
theorem vsl_inj : ∀ j, j ≤ 10 → ∀ j', j' ≤ 10 → 3 ≤ j → 3 ≤ j' → vsl j = vsl j' → j = j' := by decide
theorem vsl_lt : ∀ j, vsl j < 8 := by intro j; unfold vsl; split <;> omega
theorem vsl_1 : ∀ j, j ≤ 10 → 3 < j → vsl j ≠ 1 := by decide
theorem abs_scal {σ ρ : Sg} {v j : Nat} {y : Int32} (h : ABS σ ρ) (hv : v < 5) (hj : 3 < j) (hj2 : j ≤ 10) : ABS (us σ v (upd (σ v) (vsl j) y)) (us ρ (12*v) (upd (ρ (12*v)) j y)) := by
  obtain ⟨h1, h2, h3, h4, h5⟩ := (h.1 v hv).1
  have h8 := h1.2.1
  have hs := vsl_lt j
  have hs1 := vsl_1 j hj2 hj
  refine h.vil hv (by omega) (by omega) ⟨Can_upd h1 hs1 (by omega) (by omega), fun j' a b => ?_, fun i' a => ?_, fun i' a => ?_, fun i' j' a b => ?_⟩ (by rw [us_s, upd_n (by omega)]) (by rw [us_s, upd_n (by omega)])
  · rw [us_s]
    by_cases e : j' = j
    · subst e; rw [upd_s, upd_s]
    · rw [upd_n e, upd_n (fun q => e (vsl_inj j' b j hj2 a (by omega) q))]; exact h2 j' a b
  · rw [us_n (by omega), h3 i' a, upd_n (by omega)]
  · rw [us_n (by omega), h4 i' a, upd_n (by omega)]
  · rw [nh_upd hs1] at a
    rw [us_n (by omega), hf_upd (by omega) (by omega) b]; exact h5 i' j' a b
theorem abs_steep {σ ρ : Sg} {v i : Nat} {y : Int32} (h : ABS σ ρ) (hv : v < 5) (hi : i < 7) : ABS (us σ v (upd (σ v) (8+i) y)) (us ρ (12*v+2) (upd (ρ (12*v+2)) i y)) := by
  obtain ⟨h1, h2, h3, h4, h5⟩ := (h.1 v hv).1
  have h8 := h1.2.1
  refine h.vil hv (by omega) (by omega) ⟨Can_upd h1 (by omega) (by omega) (by omega), fun j' a b => ?_, fun i' a => ?_, fun i' a => ?_, fun i' j' a b => ?_⟩ (by rw [us_n (by omega)]) (by rw [us_n (by omega)])
  · have := vsl_lt j'
    rw [us_n (by omega), h2 j' a b, upd_n (by omega)]
  · rw [us_s]
    by_cases e : i' = i
    · subst e; rw [upd_s, upd_s]
    · rw [upd_n e, upd_n (by omega)]; exact h3 i' a
  · rw [us_n (by omega), h4 i' a, upd_n (by omega)]
  · rw [nh_upd (by omega)] at a
    rw [us_n (by omega), hf_upd (by omega) (by omega) b]; exact h5 i' j' a b
theorem abs_spot {σ ρ : Sg} {v i : Nat} {y : Int32} (h : ABS σ ρ) (hv : v < 5) (hi : i < 10) : ABS (us σ v (upd (σ v) (63+i) y)) (us ρ (12*v+3) (upd (ρ (12*v+3)) i y)) := by
  obtain ⟨h1, h2, h3, h4, h5⟩ := (h.1 v hv).1
  have h8 := h1.2.1
  refine h.vil hv (by omega) (by omega) ⟨Can_upd h1 (by omega) (by omega) (by omega), fun j' a b => ?_, fun i' a => ?_, fun i' a => ?_, fun i' j' a b => ?_⟩ (by rw [us_n (by omega)]) (by rw [us_n (by omega)])
  · have := vsl_lt j'
    rw [us_n (by omega), h2 j' a b, upd_n (by omega)]
  · rw [us_n (by omega), h3 i' a, upd_n (by omega)]
  · rw [us_s]
    by_cases e : i' = i
    · subst e; rw [upd_s, upd_s]
    · rw [upd_n e, upd_n (by omega)]; exact h4 i' a
  · rw [nh_upd (by omega)] at a
    rw [us_n (by omega), hf_upd (by omega) (by omega) b]; exact h5 i' j' a b
theorem abs_least {σ ρ : Sg} {v j : Nat} {y : Int32} (h : ABS σ ρ) (hv : v < 5) (hj : j < 2) : ABS (us σ (5+v) (upd (σ (5+v)) j y)) (us ρ (12*v) (upd (ρ (12*v)) (11+j) y)) := by
  obtain ⟨a, b, d, m, m2⟩ := h
  refine ⟨fun v' hv' => ?_, fun c' q q1 q2 q3 q4 => ?_, fun c' q q1 => ?_, ?_, ?_⟩
  · obtain ⟨⟨h1, h2, h3, h4, h5⟩, e11, e12⟩ := a v' hv'
    have h8 := h1.2.1
    by_cases e : v' = v
    · subst e
      rw [us_n (show v' ≠ 5 + v' by omega), us_s, us_s]
      refine ⟨⟨h1, fun j' p q => by rw [us_s, upd_n (by omega)]; exact h2 j' p q, fun i p => by rw [us_n (by omega)]; exact h3 i p, fun i p => by rw [us_n (by omega)]; exact h4 i p, fun i j' p q => by rw [us_n (by omega)]; exact h5 i j' p q⟩, ?_, ?_⟩
      · rcases (show j = 0 ∨ j = 1 by omega) with rfl | rfl
        · rw [upd_s, upd_s]
        · rw [upd_n (by omega), upd_n (by omega)]; exact e11
      · rcases (show j = 0 ∨ j = 1 by omega) with rfl | rfl
        · rw [upd_n (by omega), upd_n (by omega)]; exact e12
        · rw [upd_s, upd_s]
    · rw [us_n (show v' ≠ 5 + v by omega), us_n (show 5 + v' ≠ 5 + v by omega), us_n (show 12 * v' ≠ 12 * v by omega)]
      exact ⟨(a v' hv').1.congr (fun c' _ _ => us_n (by omega)), (a v' hv').2⟩
  · rw [us_n (by omega), us_n (by omega)]; exact b c' q q1 q2 q3 q4
  · rw [us_n (by omega), us_n (by omega)]; exact d c' q q1
  · rw [us_n (by omega), us_n (by omega)]; exact m
  · rw [us_n (show (11:Nat) ≠ 5 + v by omega), us_n (show (78:Nat) ≠ 12 * v by omega)]; exact m2
def okc (c : Nat) : Bool := Nat.ble 60 c && !(c == 74) && !(c == 75) && !(c == 76) && !(c == 78)
theorem okc_of {c : Nat} (h : okc c = true) : 60 ≤ c ∧ c ≠ 74 ∧ c ≠ 75 ∧ c ≠ 76 ∧ c ≠ 78 := by
  simp only [okc, Bool.and_eq_true, Bool.not_eq_true', beq_eq_false_iff_ne, ne_eq, Nat.ble_eq] at h
  omega
theorem abs_other {σ ρ : Sg} {c : Nat} {g : Nat → Int32} (h : ABS σ ρ) (hc : okc c = true) : ABS (us σ c g) (us ρ c g) := by
  obtain ⟨c1, c2, c3, c4, c5⟩ := okc_of hc
  obtain ⟨a, b, d, m, m2⟩ := h
  refine ⟨fun v' hv' => ?_, fun c' q q1 q2 q3 q4 => ?_, fun c' q q1 => ?_, ?_, ?_⟩
  · rw [us_n (show v' ≠ c by omega), us_n (show 5 + v' ≠ c by omega), us_n (show 12 * v' ≠ c by omega)]
    exact ⟨(a v' hv').1.congr (fun c' _ _ => us_n (by omega)), (a v' hv').2⟩
  · by_cases e : c' = c
    · subst e; rw [us_s, us_s]
    · rw [us_n e, us_n e]; exact b c' q q1 q2 q3 q4
  · rw [us_n (by omega), us_n (by omega)]; exact d c' q q1
  · rw [us_n (by omega), us_n (by omega)]; exact m
  · rw [us_n (show (11:Nat) ≠ c by omega), us_n (show (78:Nat) ≠ c by omega)]; exact m2
theorem ABS.msk {σ ρ : Sg} {c : Nat} {f g : Nat → Int32} (h : ABS σ ρ) (h1 : 74 ≤ c) (h2 : c ≤ 76) (hm : Msk f g) : ABS (us σ c f) (us ρ c g) := by
  obtain ⟨a, b, d, m, m2⟩ := h
  refine ⟨fun v' hv' => ?_, fun c' q q1 q2 q3 q4 => ?_, fun c' q q1 => ?_, ?_, ?_⟩
  · rw [us_n (show v' ≠ c by omega), us_n (show 5 + v' ≠ c by omega), us_n (show 12 * v' ≠ c by omega)]
    exact ⟨(a v' hv').1.congr (fun c' _ _ => us_n (by omega)), (a v' hv').2⟩
  · rw [us_n (by omega), us_n (by omega)]; exact b c' q q1 q2 q3 q4
  · by_cases e : c' = c
    · subst e; rw [us_s, us_s]; exact hm
    · rw [us_n e, us_n e]; exact d c' q q1
  · rw [us_n (by omega), us_n (by omega)]; exact m
  · rw [us_n (show (11:Nat) ≠ c by omega), us_n (show (78:Nat) ≠ c by omega)]; exact m2
theorem Msk_uh {f g : Nat → Int32} {i j : Nat} {y : Int32} (h : Msk f g) (hi : i < nh f) (hj : j < 6) : Msk (uh f i j y) (upd g (15+6*i+j) y) := by
  obtain ⟨h1, h2, h3, h4⟩ := h
  have h8 := h1.2.1
  refine ⟨Can_uh h1 hi hj, fun k a => by rw [uh_lo a, upd_n (by omega)]; exact h2 k a, fun k a b => by rw [uh_hi a (by omega) hj, upd_n (by omega)]; exact h3 k a b, fun i' j' a b => ?_⟩
  rw [nh_uh] at a
  by_cases e : i' = i ∧ j' = j
  · obtain ⟨rfl, rfl⟩ := e; rw [upd_s, hf_uh_s]
  · rw [hf_uh_n e hj b, upd_n (by omega)]; exact h4 i' j' a b
theorem Msk_upd {f g : Nat → Int32} {k : Nat} {y : Int32} (h : Msk f g) (hk : k ≠ 1) (hk2 : k < 15 ∨ 63 ≤ k) (hk3 : k < 73) : Msk (upd f k y) (upd g k y) := by
  obtain ⟨h1, h2, h3, h4⟩ := h
  have h8 := h1.2.1
  refine ⟨Can_upd h1 hk hk2 hk3, fun k' a => ?_, fun k' a b => ?_, fun i' j' a b => ?_⟩
  · by_cases e : k' = k
    · subst e; rw [upd_s, upd_s]
    · rw [upd_n e, upd_n e]; exact h2 k' a
  · by_cases e : k' = k
    · subst e; rw [upd_s, upd_s]
    · rw [upd_n e, upd_n e]; exact h3 k' a b
  · rw [nh_upd hk] at a
    rw [hf_upd hk2 (by omega) b, upd_n (by omega)]; exact h4 i' j' a b
def PA (E : En) (σ : Sg) (s : State) (H : Heap) : Prop := ∃ ρ, ABS σ ρ ∧ PR E ρ s H
theorem PM_A {E : En} {σ : Sg} : PM (PA E σ) := fun _ _ _ hvm ⟨ρ, h1, h2⟩ => ⟨ρ, h1, h2.moved hvm⟩
abbrev AP (x : Cx) (E : En) (σ : Sg) : Heap → Prop := fun H => PA E σ (xs x) H
/-! reading and writing through the picture -/
theorem ardF {x : Cx} {E : En} {σ : Sg} {a j N : Nat} {Cn : String} {T : u_T} {v : Value} (h : ∀ ρ, ABS σ ρ → RdF (xs x) (RP x E ρ) a Cn T N j v) : RdF (xs x) (AP x E σ) a Cn T N j v := fun H ⟨ρ, h1, h2⟩ => h ρ h1 H h2
theorem ardA {x : Cx} {E : En} {σ : Sg} {a nn q : Nat} {v : Int32} (h : ∀ ρ, ABS σ ρ → RdA (xs x) (RP x E ρ) a nn q v) : RdA (xs x) (AP x E σ) a nn q v := fun H ⟨ρ, h1, h2⟩ => h ρ h1 H h2
theorem ardL {x : Cx} {E : En} {σ : Sg} {a nn : Nat} (h : ∀ ρ, ABS σ ρ → RdL (xs x) (RP x E ρ) a nn) : RdL (xs x) (AP x E σ) a nn := fun H ⟨ρ, h1, h2⟩ => h ρ h1 H h2
theorem ardQ {x : Cx} {E : En} {σ : Sg} {a nn : Nat} {Cn : String} {f : Nat → Option Nat} (h : ∀ ρ, ABS σ ρ → RdQ (xs x) (RP x E ρ) a nn Cn f) : RdQ (xs x) (AP x E σ) a nn Cn f := fun H ⟨ρ, h1, h2⟩ => h ρ h1 H h2
theorem aisO {x : Cx} {E : En} {σ : Sg} {a : Nat} {Cn : String} (h : ∀ ρ, ABS σ ρ → IsO (xs x) (RP x E ρ) a Cn) : IsO (xs x) (AP x E σ) a Cn := fun H ⟨ρ, h1, h2⟩ => h ρ h1 H h2
theorem awrF {x : Cx} {E : En} {σ σ' : Sg} {A : Nat → Prop} {a j N : Nat} {Cn : String} {T : u_T} {v : Value} (h : ∀ ρ, ABS σ ρ → ∃ ρ', ABS σ' ρ' ∧ WrF (xs x) A (RP x E ρ) a Cn T N j v (RP x E ρ')) : WrF (xs x) A (AP x E σ) a Cn T N j v (AP x E σ') := by
  rintro H ⟨ρ, h1, h2⟩
  obtain ⟨ρ', g1, g2⟩ := h ρ h1
  obtain ⟨D, cl, tys, ws, q0, ci, fs, a1, a2, a3, a4, a5, a6, a7⟩ := g2 H h2
  exact ⟨D, cl, tys, ws, q0, ci, fs, a1, a2, a3, a4, a5, a6, fun H1 hH => ⟨ρ', g1, a7 H1 hH⟩⟩
theorem awrA {x : Cx} {E : En} {σ σ' : Sg} {A : Nat → Prop} {a nn i : Nat} {v : Int32} (h : ∀ ρ, ABS σ ρ → ∃ ρ', ABS σ' ρ' ∧ WrA (xs x) A (RP x E ρ) a nn i v (RP x E ρ')) : WrA (xs x) A (AP x E σ) a nn i v (AP x E σ') := by
  rintro H ⟨ρ, h1, h2⟩
  obtain ⟨ρ', g1, g2⟩ := h ρ h1
  obtain ⟨D, cl, tys, ws, q0, cA, t0, f, a1, a2, a3, a4, a5, a7⟩ := g2 H h2
  exact ⟨D, cl, tys, ws, q0, cA, t0, f, a1, a2, a3, a4, a5, fun H1 hH => ⟨ρ', g1, a7 H1 hH⟩⟩
theorem eN_ge (E : En) : 85 ≤ eN E := by unfold eN; split <;> omega
theorem eN_w {E : En} (h : eW E ≠ 0) : eN E = 86 := by unfold eN; rw [if_neg h]
theorem cel_vil {E : En} {v : Nat} {f : Nat → Int32} (hv : v < 5) : celf E (12*v) f = .inr (5, [.ref (ad E (12*v+1)), .ref (ad E (12*v+2)), .ref (ad E (12*v+3)), .int (f 3), .int (f 4), .int (f 5), .int (f 6), .int (f 7), .int (f 8), .int (f 9), .int (f 10), .int (f 11), .int (f 12)]) := by
  unfold celf
  rw [if_pos (by omega), show 12 * v % 12 = 0 by omega]
  try rfl
theorem cel_lane {E : En} {v : Nat} {f : Nat → Int32} (hv : v < 5) : celf E (12*v+1) f = .inl (eH E, 8, .inr (.inr (.inr (.inr (fun i => if i < 8 then some (ad E (12*v+1+3+i)) else none))))) := by
  unfold celf
  rw [if_pos (by omega), show (12 * v + 1) % 12 = 1 by omega]
  try rfl
theorem cel_st {E : En} {v : Nat} {f : Nat → Int32} (hv : v < 5) : celf E (12*v+2) f = arI E 7 f := by
  unfold celf
  rw [if_pos (by omega), show (12 * v + 2) % 12 = 2 by omega]
  try rfl
theorem cel_sp {E : En} {v : Nat} {f : Nat → Int32} (hv : v < 5) : celf E (12*v+3) f = arI E 10 f := by
  unfold celf
  rw [if_pos (by omega), show (12 * v + 3) % 12 = 3 by omega]
  try rfl
theorem cel_house {E : En} {v i : Nat} {f : Nat → Int32} (hv : v < 5) (hi : i < 8) : celf E (12*v+4+i) f = .inr (1, [.int (f 0), .int (f 1), .int (f 2), .int (f 3), .int (f 4), .int (f 5)]) := by
  unfold celf
  rw [if_pos (by omega), show (12 * v + 4 + i) % 12 = i + 4 by omega]
  try rfl
section RDWR
variable {x : Cx} {E : En} {σ : Sg} {v i q c : Nat} {y : Int32}
theorem isoV (hv : v < 5) : IsO (xs x) (AP x E σ) (ad E (12*v)) RX5 := aisO fun ρ _ => isO (by have := eN_ge E; omega) (cel_vil hv) rfl
theorem isoH (hv : v < 5) (hi : i < 8) : IsO (xs x) (AP x E σ) (ad E (12*v+4+i)) RX1 := aisO fun ρ _ => isO (by have := eN_ge E; omega) (cel_house hv hi) rfl
theorem rdLane (hv : v < 5) : RdF (xs x) (AP x E σ) (ad E (12*v)) RX5 TX5 13 0 (.ref (ad E (12*v+1))) := ardF fun ρ _ => rdF (by have := eN_ge E; omega) (cel_vil hv) rfl rfl
theorem rdSteeps (hv : v < 5) : RdF (xs x) (AP x E σ) (ad E (12*v)) RX5 TX5 13 1 (.ref (ad E (12*v+2))) := ardF fun ρ _ => rdF (by have := eN_ge E; omega) (cel_vil hv) rfl rfl
theorem rdSpots (hv : v < 5) : RdF (xs x) (AP x E σ) (ad E (12*v)) RX5 TX5 13 2 (.ref (ad E (12*v+3))) := ardF fun ρ _ => rdF (by have := eN_ge E; omega) (cel_vil hv) rfl rfl
theorem rdV (hv : v < 5) (j : Nat) (k : Nat) (h3 : Nat.ble 3 j = true) (h10 : Nat.ble j 10 = true) (hk : vsl j = k) : RdF (xs x) (AP x E σ) (ad E (12*v)) RX5 TX5 13 j (.int (σ v k)) := by
  have h3 := Nat.le_of_ble_eq_true h3
  have h10 := Nat.le_of_ble_eq_true h10
  subst hk
  exact ardF fun ρ h => rdF (by have := eN_ge E; omega) (cel_vil hv) rfl (by
    rw [← (h.1 v hv).1.2.1 j h3 h10]
    rcases (show j = 3 ∨ j = 4 ∨ j = 5 ∨ j = 6 ∨ j = 7 ∨ j = 8 ∨ j = 9 ∨ j = 10 by omega) with rfl | rfl | rfl | rfl | rfl | rfl | rfl | rfl <;> rfl)
theorem rdLeast (hv : v < 5) : RdF (xs x) (AP x E σ) (ad E (12*v)) RX5 TX5 13 11 (.int (σ (5+v) 0)) := ardF fun ρ h => rdF (by have := eN_ge E; omega) (cel_vil hv) rfl (by rw [← (h.1 v hv).2.1]; rfl)
theorem rdChill (hv : v < 5) : RdF (xs x) (AP x E σ) (ad E (12*v)) RX5 TX5 13 12 (.int (σ (5+v) 1)) := ardF fun ρ h => rdF (by have := eN_ge E; omega) (cel_vil hv) rfl (by rw [← (h.1 v hv).2.2]; rfl)
theorem wrV (hv : v < 5) (j : Nat) (k : Nat) (h3 : Nat.ble 4 j = true) (h10 : Nat.ble j 10 = true) (hk : vsl j = k) : WrF (xs x) (eA E) (AP x E σ) (ad E (12*v)) RX5 TX5 13 j (.int y) (AP x E (us σ v (upd (σ v) k y))) := by
  have h3 := Nat.le_of_ble_eq_true h3
  have h10 := Nat.le_of_ble_eq_true h10
  subst hk
  exact awrF fun ρ h => ⟨_, abs_scal h hv h3 h10, wrF (by have := eN_ge E; omega) (cel_vil hv) rfl (by show j < 13; omega) (by
    rw [cel_vil hv]
    rcases (show j = 4 ∨ j = 5 ∨ j = 6 ∨ j = 7 ∨ j = 8 ∨ j = 9 ∨ j = 10 by omega) with rfl | rfl | rfl | rfl | rfl | rfl | rfl <;> simp [upd])⟩
theorem wrLeast (hv : v < 5) : WrF (xs x) (eA E) (AP x E σ) (ad E (12*v)) RX5 TX5 13 11 (.int y) (AP x E (us σ (5+v) (upd (σ (5+v)) 0 y))) :=
  awrF fun ρ h => ⟨_, abs_least (j := 0) h hv (by omega), wrF (by have := eN_ge E; omega) (cel_vil hv) rfl (by simp) (by rw [cel_vil hv]; simp [upd])⟩
theorem wrChill (hv : v < 5) : WrF (xs x) (eA E) (AP x E σ) (ad E (12*v)) RX5 TX5 13 12 (.int y) (AP x E (us σ (5+v) (upd (σ (5+v)) 1 y))) :=
  awrF fun ρ h => ⟨_, abs_least (j := 1) h hv (by omega), wrF (by have := eN_ge E; omega) (cel_vil hv) rfl (by simp) (by rw [cel_vil hv]; simp [upd])⟩
theorem rdH (hv : v < 5) (hi : i < nh (σ v)) (j : Nat) (hj : Nat.ble j 5 = true) : RdF (xs x) (AP x E σ) (ad E (12*v+4+i)) RX1 TX1 6 j (.int (hf (σ v) i j)) := by
  have hj := Nat.le_of_ble_eq_true hj
  exact ardF fun ρ h => by
    have h8 := (h.1 v hv).1.1.2.1
    exact rdF (by have := eN_ge E; omega) (cel_house hv (by omega)) rfl (by
      rw [← (h.1 v hv).1.2.2.2.2 i j hi (by omega)]
      rcases (show j = 0 ∨ j = 1 ∨ j = 2 ∨ j = 3 ∨ j = 4 ∨ j = 5 by omega) with rfl | rfl | rfl | rfl | rfl | rfl <;> rfl)
theorem wrH (hv : v < 5) (hi : i < nh (σ v)) (j : Nat) (hj : Nat.ble j 5 = true) : WrF (xs x) (eA E) (AP x E σ) (ad E (12*v+4+i)) RX1 TX1 6 j (.int y) (AP x E (us σ v (uh (σ v) i j y))) := by
  have hj := Nat.le_of_ble_eq_true hj
  exact awrF fun ρ h => by
    have h8 := (h.1 v hv).1.1.2.1
    exact ⟨_, abs_house h hv hi (by omega), wrF (by have := eN_ge E; omega) (cel_house hv (by omega)) rfl (by show j < 6; omega) (by
      rw [cel_house hv (by omega)]
      rcases (show j = 0 ∨ j = 1 ∨ j = 2 ∨ j = 3 ∨ j = 4 ∨ j = 5 by omega) with rfl | rfl | rfl | rfl | rfl | rfl <;> simp [upd])⟩
theorem rdSt (hv : v < 5) (hi : i < 7) : RdA (xs x) (AP x E σ) (ad E (12*v+2)) 7 i (σ v (8+i)) := ardA fun ρ h => by rw [← (h.1 v hv).1.2.2.1 i hi]; exact rdA (by have := eN_ge E; omega) (cel_st hv)
theorem rdStL (hv : v < 5) : RdL (xs x) (AP x E σ) (ad E (12*v+2)) 7 := ardL fun ρ h => rdL (by have := eN_ge E; omega) (cel_st hv)
theorem wrSt (hv : v < 5) (hi : i < 7) : WrA (xs x) (eA E) (AP x E σ) (ad E (12*v+2)) 7 i y (AP x E (us σ v (upd (σ v) (8+i) y))) := awrA fun ρ h => ⟨_, abs_steep h hv hi, wrA (by have := eN_ge E; omega) (fun f => cel_st hv)⟩
theorem rdSp (hv : v < 5) (hi : i < 10) : RdA (xs x) (AP x E σ) (ad E (12*v+3)) 10 i (σ v (63+i)) := ardA fun ρ h => by rw [← (h.1 v hv).1.2.2.2.1 i hi]; exact rdA (by have := eN_ge E; omega) (cel_sp hv)
theorem rdSpL (hv : v < 5) : RdL (xs x) (AP x E σ) (ad E (12*v+3)) 10 := ardL fun ρ h => rdL (by have := eN_ge E; omega) (cel_sp hv)
theorem wrSp (hv : v < 5) (hi : i < 10) : WrA (xs x) (eA E) (AP x E σ) (ad E (12*v+3)) 10 i y (AP x E (us σ v (upd (σ v) (63+i) y))) := awrA fun ρ h => ⟨_, abs_spot h hv hi, wrA (by have := eN_ge E; omega) (fun f => cel_sp hv)⟩
theorem rdLq (hv : v < 5) : RdQ (xs x) (AP x E σ) (ad E (12*v+1)) 8 RX1 (fun i => if i < 8 then some (ad E (12*v+1+3+i)) else none) := ardQ fun ρ h => rdQ (t0 := 1) (by have := eN_ge E; omega) (cel_lane hv) rfl
/-- the other cells hold what the picture says -/
theorem rdO {fs : List Value} {ci j N : Nat} {Cn : String} {T : u_T} {w : Value} (c : Nat) (hc : okc c = true) (h85 : Nat.ble c 84 = true) (he : celf E c (σ c) = .inr (ci, fs)) (hcl : classes[ci]? = some (Cn, T, N)) (hv : fs[j]? = some w) : RdF (xs x) (AP x E σ) (ad E c) Cn T N j w := by
  have h85 := Nat.le_of_ble_eq_true h85
  obtain ⟨c1, c2, c3, c4, c5⟩ := okc_of hc
  exact ardF fun ρ h => rdF (by have := eN_ge E; omega) (by rw [← h.2.1 c c1 c2 c3 c4 c5]; exact he) hcl hv
theorem isoO {fs : List Value} {ci N : Nat} {Cn : String} {T : u_T} (c : Nat) (hc : okc c = true) (h85 : Nat.ble c 84 = true) (he : celf E c (σ c) = .inr (ci, fs)) (hcl : classes[ci]? = some (Cn, T, N)) : IsO (xs x) (AP x E σ) (ad E c) Cn := by
  have h85 := Nat.le_of_ble_eq_true h85
  obtain ⟨c1, c2, c3, c4, c5⟩ := okc_of hc
  exact aisO fun ρ h => isO (by have := eN_ge E; omega) (by rw [← h.2.1 c c1 c2 c3 c4 c5]; exact he) hcl
theorem wrO {fs : List Value} {ci j N : Nat} {Cn : String} {T : u_T} (c : Nat) (hc : okc c = true) (h85 : Nat.ble c 84 = true) (he : celf E c (σ c) = .inr (ci, fs)) (hcl : classes[ci]? = some (Cn, T, N)) (hj : Nat.ble (j+1) fs.length = true) (hg : celf E c (upd (σ c) j y) = .inr (ci, fs.set j (.int y))) : WrF (xs x) (eA E) (AP x E σ) (ad E c) Cn T N j (.int y) (AP x E (us σ c (upd (σ c) j y))) := by
  have h85 := Nat.le_of_ble_eq_true h85
  obtain ⟨c1, c2, c3, c4, c5⟩ := okc_of hc
  exact awrF fun ρ h => ⟨_, abs_other h hc, wrF (by have := eN_ge E; omega) (by rw [← h.2.1 c c1 c2 c3 c4 c5]; exact he) hcl (Nat.le_of_ble_eq_true hj) hg⟩
theorem rdOA {nn : Nat} (c : Nat) (hc : okc c = true) (h85 : Nat.ble c 84 = true) (he : celf E c (σ c) = arI E nn (σ c)) : RdA (xs x) (AP x E σ) (ad E c) nn q (σ c q) := by
  have h85 := Nat.le_of_ble_eq_true h85
  obtain ⟨c1, c2, c3, c4, c5⟩ := okc_of hc
  exact ardA fun ρ h => by rw [h.2.1 c c1 c2 c3 c4 c5] at he ⊢; exact rdA (by have := eN_ge E; omega) he
theorem rdOL {nn : Nat} (c : Nat) (hc : okc c = true) (h85 : Nat.ble c 84 = true) (he : celf E c (σ c) = arI E nn (σ c)) : RdL (xs x) (AP x E σ) (ad E c) nn := by
  have h85 := Nat.le_of_ble_eq_true h85
  obtain ⟨c1, c2, c3, c4, c5⟩ := okc_of hc
  exact ardL fun ρ h => by rw [h.2.1 c c1 c2 c3 c4 c5] at he; exact rdL (by have := eN_ge E; omega) he
theorem wrOA {nn : Nat} (c : Nat) (hc : okc c = true) (h85 : Nat.ble c 84 = true) (he : ∀ f, celf E c f = arI E nn f) : WrA (xs x) (eA E) (AP x E σ) (ad E c) nn q y (AP x E (us σ c (upd (σ c) q y))) := by
  have h85 := Nat.le_of_ble_eq_true h85
  obtain ⟨c1, c2, c3, c4, c5⟩ := okc_of hc
  exact awrA fun ρ h => ⟨us ρ c (upd (ρ c) q y), by rw [← h.2.1 c c1 c2 c3 c4 c5]; exact abs_other h hc, wrA (by have := eN_ge E; omega) he⟩
theorem rdSheetsQ : RdQ (xs x) (AP x E σ) (ad E 61) 4 RX3 (fun i => if i < 4 then some (ad E (65+i)) else none) := ardQ fun ρ h => rdQ (t0 := 2) (by have := eN_ge E; omega) rfl rfl
/-- the reference's rows -/
def sc (k : Nat) : Bool := Nat.blt k 15 || (Nat.ble 63 k && Nat.blt k 73)
theorem cel_m {c : Nat} (f : Nat → Int32) (h1 : 74 ≤ c) (h2 : c ≤ 76) : celf E c f = arI E 73 f := by
  rcases (show c = 74 ∨ c = 75 ∨ c = 76 by omega) with rfl | rfl | rfl <;> rfl
theorem rdM (c q : Nat) (h1 : Nat.ble 74 c = true) (h2 : Nat.ble c 76 = true) (hq : sc q = true) : RdA (xs x) (AP x E σ) (ad E c) 73 q (σ c q) := by
  have h1 := Nat.le_of_ble_eq_true h1
  have h2 := Nat.le_of_ble_eq_true h2
  exact ardA fun ρ h => by
    obtain ⟨m1, m2, m3, m4⟩ := h.2.2.1 c h1 h2
    have e : ρ c q = σ c q := by
      simp only [sc, Bool.or_eq_true, Bool.and_eq_true, Nat.ble_eq, Nat.blt] at hq
      rcases hq with g | g
      · exact m2 q (by omega)
      · exact m3 q g.1 (by omega)
    rw [← e]; exact rdA (by have := eN_ge E; omega) (cel_m _ h1 h2)
theorem rdMh (c : Nat) (h1 : Nat.ble 74 c = true) (h2 : Nat.ble c 76 = true) (hi : i < nh (σ c)) (j : Nat) (hj : j < 6) : RdA (xs x) (AP x E σ) (ad E c) 73 (15+6*i+j) (hf (σ c) i j) := by
  have h1 := Nat.le_of_ble_eq_true h1
  have h2 := Nat.le_of_ble_eq_true h2
  exact ardA fun ρ h => by
    obtain ⟨m1, m2, m3, m4⟩ := h.2.2.1 c h1 h2
    rw [← m4 i j hi hj]; exact rdA (by have := eN_ge E; omega) (cel_m _ h1 h2)
theorem wrM (c q : Nat) (h1 : Nat.ble 74 c = true) (h2 : Nat.ble c 76 = true) (hq : sc q = true) (hq1 : (q == 1) = false) : WrA (xs x) (eA E) (AP x E σ) (ad E c) 73 q y (AP x E (us σ c (upd (σ c) q y))) := by
  have h1 := Nat.le_of_ble_eq_true h1
  have h2 := Nat.le_of_ble_eq_true h2
  simp only [sc, Bool.or_eq_true, Bool.and_eq_true, Nat.ble_eq, Nat.blt] at hq
  have hq1 : q ≠ 1 := by simpa using hq1
  exact awrA fun ρ h => ⟨_, h.msk h1 h2 (Msk_upd (h.2.2.1 c h1 h2) hq1 (by omega) (by omega)), wrA (by have := eN_ge E; omega) (fun f => cel_m f h1 h2)⟩
theorem wrMh (c : Nat) (h1 : Nat.ble 74 c = true) (h2 : Nat.ble c 76 = true) (hi : i < nh (σ c)) (j : Nat) (hj : j < 6) : WrA (xs x) (eA E) (AP x E σ) (ad E c) 73 (15+6*i+j) y (AP x E (us σ c (uh (σ c) i j y))) := by
  have h1 := Nat.le_of_ble_eq_true h1
  have h2 := Nat.le_of_ble_eq_true h2
  exact awrA fun ρ h => ⟨_, h.msk h1 h2 (Msk_uh (h.2.2.1 c h1 h2) hi hj), wrA (by have := eN_ge E; omega) (fun f => cel_m f h1 h2)⟩
end RDWR
end
