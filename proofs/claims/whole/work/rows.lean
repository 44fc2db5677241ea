section
-- ===== PART A: goes FIRST, ahead of the names: the tables' words, and 'selects' of the private methods out of them =====
/-- a private method of a class that the tables say can be made, by its rows of tables_1 -/
def lw_okq (q : MethodName × Nat) : Prop := (q.1.cls ≠ "java/lang/invoke/MethodHandle" ∧ q.1.cls ≠ "java/lang/invoke/VarHandle") ∧ Cond.instantiable q.1.cls q.2 ∈ tables_1 ∧ Cond.privateMethod q.1 ∈ tables_1 ∧ Cond.instanceMethod q.1 ∈ tables_1
theorem lw_p0 : lw_okq (⟨"LateSeekers$TapeReader", "advance", "()V"⟩, 6) := ⟨⟨by decide +kernel, by decide +kernel⟩, List.mem_of_getElem? (i := 118) (by decide +kernel), List.mem_of_getElem? (i := 273) (by decide +kernel), List.mem_of_getElem? (i := 274) (by decide +kernel)⟩
theorem lw_p1 : lw_okq (⟨"LateSeekers$TapeReader", "sortAt", "(I)I"⟩, 6) := ⟨⟨by decide +kernel, by decide +kernel⟩, List.mem_of_getElem? (i := 118) (by decide +kernel), List.mem_of_getElem? (i := 277) (by decide +kernel), List.mem_of_getElem? (i := 278) (by decide +kernel)⟩
theorem lw_p2 : lw_okq (⟨"LateSeekers$TapeReader", "readStatement", "(LLateSeekers$Park;)V"⟩, 6) := ⟨⟨by decide +kernel, by decide +kernel⟩, List.mem_of_getElem? (i := 118) (by decide +kernel), List.mem_of_getElem? (i := 281) (by decide +kernel), List.mem_of_getElem? (i := 282) (by decide +kernel)⟩
theorem lw_p3 : lw_okq (⟨"LateSeekers$TapeReader", "isNext", "(Ljava/lang/String;)Z"⟩, 6) := ⟨⟨by decide +kernel, by decide +kernel⟩, List.mem_of_getElem? (i := 118) (by decide +kernel), List.mem_of_getElem? (i := 294) (by decide +kernel), List.mem_of_getElem? (i := 295) (by decide +kernel)⟩
theorem lw_p4 : lw_okq (⟨"LateSeekers$TapeReader", "readPerson", "(LLateSeekers$Park;I)V"⟩, 6) := ⟨⟨by decide +kernel, by decide +kernel⟩, List.mem_of_getElem? (i := 118) (by decide +kernel), List.mem_of_getElem? (i := 346) (by decide +kernel), List.mem_of_getElem? (i := 347) (by decide +kernel)⟩
theorem lw_p5 : lw_okq (⟨"LateSeekers$TapeReader", "fail", "()V"⟩, 6) := ⟨⟨by decide +kernel, by decide +kernel⟩, List.mem_of_getElem? (i := 118) (by decide +kernel), List.mem_of_getElem? (i := 350) (by decide +kernel), List.mem_of_getElem? (i := 351) (by decide +kernel)⟩
theorem lw_p6 : lw_okq (⟨"LateSeekers$TapeReader", "takeName", "(Ljava/lang/String;)V"⟩, 6) := ⟨⟨by decide +kernel, by decide +kernel⟩, List.mem_of_getElem? (i := 118) (by decide +kernel), List.mem_of_getElem? (i := 355) (by decide +kernel), List.mem_of_getElem? (i := 356) (by decide +kernel)⟩
theorem lw_p7 : lw_okq (⟨"LateSeekers$TapeReader", "takeNumber", "(I)I"⟩, 6) := ⟨⟨by decide +kernel, by decide +kernel⟩, List.mem_of_getElem? (i := 118) (by decide +kernel), List.mem_of_getElem? (i := 359) (by decide +kernel), List.mem_of_getElem? (i := 360) (by decide +kernel)⟩
theorem lw_p8 : lw_okq (⟨"LateSeekers$TapeReader", "takeNumberIfNamed", "(Ljava/lang/String;I)I"⟩, 6) := ⟨⟨by decide +kernel, by decide +kernel⟩, List.mem_of_getElem? (i := 118) (by decide +kernel), List.mem_of_getElem? (i := 364) (by decide +kernel), List.mem_of_getElem? (i := 365) (by decide +kernel)⟩
theorem lw_p9 : lw_okq (⟨"LateSeekers$TapeReader", "takeSemicolon", "()V"⟩, 6) := ⟨⟨by decide +kernel, by decide +kernel⟩, List.mem_of_getElem? (i := 118) (by decide +kernel), List.mem_of_getElem? (i := 370) (by decide +kernel), List.mem_of_getElem? (i := 371) (by decide +kernel)⟩
theorem lw_p10 : lw_okq (⟨"LateSeekers$TapeReader", "readLaw", "(LLateSeekers$Park;I)V"⟩, 6) := ⟨⟨by decide +kernel, by decide +kernel⟩, List.mem_of_getElem? (i := 118) (by decide +kernel), List.mem_of_getElem? (i := 389) (by decide +kernel), List.mem_of_getElem? (i := 390) (by decide +kernel)⟩
theorem lw_p11 : lw_okq (⟨"LateSeekers$TapeReader", "readCover", "(LLateSeekers$Park;)V"⟩, 6) := ⟨⟨by decide +kernel, by decide +kernel⟩, List.mem_of_getElem? (i := 118) (by decide +kernel), List.mem_of_getElem? (i := 395) (by decide +kernel), List.mem_of_getElem? (i := 396) (by decide +kernel)⟩
theorem lw_p12 : lw_okq (⟨"LateSeekers$Park", "growOlder", "()V"⟩, 12) := ⟨⟨by decide +kernel, by decide +kernel⟩, List.mem_of_getElem? (i := 32) (by decide +kernel), List.mem_of_getElem? (i := 506) (by decide +kernel), List.mem_of_getElem? (i := 507) (by decide +kernel)⟩
theorem lw_p13 : lw_okq (⟨"LateSeekers$Park", "goSeeking", "(IZ)V"⟩, 12) := ⟨⟨by decide +kernel, by decide +kernel⟩, List.mem_of_getElem? (i := 32) (by decide +kernel), List.mem_of_getElem? (i := 510) (by decide +kernel), List.mem_of_getElem? (i := 511) (by decide +kernel)⟩
theorem lw_p14 : lw_okq (⟨"LateSeekers$Park", "findOne", "(I)V"⟩, 12) := ⟨⟨by decide +kernel, by decide +kernel⟩, List.mem_of_getElem? (i := 32) (by decide +kernel), List.mem_of_getElem? (i := 518) (by decide +kernel), List.mem_of_getElem? (i := 519) (by decide +kernel)⟩
theorem lw_p15 : lw_okq (⟨"LateSeekers$Park", "drawn", "()I"⟩, 12) := ⟨⟨by decide +kernel, by decide +kernel⟩, List.mem_of_getElem? (i := 32) (by decide +kernel), List.mem_of_getElem? (i := 542) (by decide +kernel), List.mem_of_getElem? (i := 543) (by decide +kernel)⟩
def lw_privs_1 : List (MethodName × Nat) := [(⟨"LateSeekers$TapeReader", "advance", "()V"⟩, 6), (⟨"LateSeekers$TapeReader", "sortAt", "(I)I"⟩, 6), (⟨"LateSeekers$TapeReader", "readStatement", "(LLateSeekers$Park;)V"⟩, 6), (⟨"LateSeekers$TapeReader", "isNext", "(Ljava/lang/String;)Z"⟩, 6), (⟨"LateSeekers$TapeReader", "readPerson", "(LLateSeekers$Park;I)V"⟩, 6), (⟨"LateSeekers$TapeReader", "fail", "()V"⟩, 6), (⟨"LateSeekers$TapeReader", "takeName", "(Ljava/lang/String;)V"⟩, 6), (⟨"LateSeekers$TapeReader", "takeNumber", "(I)I"⟩, 6), (⟨"LateSeekers$TapeReader", "takeNumberIfNamed", "(Ljava/lang/String;I)I"⟩, 6), (⟨"LateSeekers$TapeReader", "takeSemicolon", "()V"⟩, 6), (⟨"LateSeekers$TapeReader", "readLaw", "(LLateSeekers$Park;I)V"⟩, 6), (⟨"LateSeekers$TapeReader", "readCover", "(LLateSeekers$Park;)V"⟩, 6), (⟨"LateSeekers$Park", "growOlder", "()V"⟩, 12), (⟨"LateSeekers$Park", "goSeeking", "(IZ)V"⟩, 12), (⟨"LateSeekers$Park", "findOne", "(I)V"⟩, 12), (⟨"LateSeekers$Park", "drawn", "()I"⟩, 12)]
theorem lw_r1 : ∀ q ∈ lw_privs_1, lw_okq q := List.forall_mem_cons.mpr ⟨lw_p0, List.forall_mem_cons.mpr ⟨lw_p1, List.forall_mem_cons.mpr ⟨lw_p2, List.forall_mem_cons.mpr ⟨lw_p3, List.forall_mem_cons.mpr ⟨lw_p4, List.forall_mem_cons.mpr ⟨lw_p5, List.forall_mem_cons.mpr ⟨lw_p6, List.forall_mem_cons.mpr ⟨lw_p7, List.forall_mem_cons.mpr ⟨lw_p8, List.forall_mem_cons.mpr ⟨lw_p9, List.forall_mem_cons.mpr ⟨lw_p10, List.forall_mem_cons.mpr ⟨lw_p11, List.forall_mem_cons.mpr ⟨lw_p12, List.forall_mem_cons.mpr ⟨lw_p13, List.forall_mem_cons.mpr ⟨lw_p14, List.forall_mem_cons.mpr ⟨lw_p15, fun _ h => absurd h List.not_mem_nil⟩⟩⟩⟩⟩⟩⟩⟩⟩⟩⟩⟩⟩⟩⟩⟩
theorem lw_p16 : lw_okq (⟨"LateSeekers$Trials", "yearsUntilShown", "(II)I"⟩, 2) := ⟨⟨by decide +kernel, by decide +kernel⟩, List.mem_of_getElem? (i := 26) (by decide +kernel), List.mem_of_getElem? (i := 581) (by decide +kernel), List.mem_of_getElem? (i := 582) (by decide +kernel)⟩
theorem lw_p17 : lw_okq (⟨"LateSeekers$Trials", "seeksBehind", "(III)Z"⟩, 2) := ⟨⟨by decide +kernel, by decide +kernel⟩, List.mem_of_getElem? (i := 26) (by decide +kernel), List.mem_of_getElem? (i := 643) (by decide +kernel), List.mem_of_getElem? (i := 644) (by decide +kernel)⟩
theorem lw_p18 : lw_okq (⟨"LateSeekers$Actor", "run", "(IIII)I"⟩, 6) := ⟨⟨by decide +kernel, by decide +kernel⟩, List.mem_of_getElem? (i := 198) (by decide +kernel), List.mem_of_getElem? (i := 805) (by decide +kernel), List.mem_of_getElem? (i := 806) (by decide +kernel)⟩
theorem lw_p19 : lw_okq (⟨"LateSeekers$Actor", "quotient", "(II)I"⟩, 6) := ⟨⟨by decide +kernel, by decide +kernel⟩, List.mem_of_getElem? (i := 198) (by decide +kernel), List.mem_of_getElem? (i := 811) (by decide +kernel), List.mem_of_getElem? (i := 812) (by decide +kernel)⟩
theorem lw_p20 : lw_okq (⟨"LateSeekersModel", "begins", "()V"⟩, 27) := ⟨⟨by decide +kernel, by decide +kernel⟩, List.mem_of_getElem? (i := 836) (by decide +kernel), List.mem_of_getElem? (i := 842) (by decide +kernel), List.mem_of_getElem? (i := 843) (by decide +kernel)⟩
theorem lw_p21 : lw_okq (⟨"LateSeekersModel", "nextToken", "()V"⟩, 27) := ⟨⟨by decide +kernel, by decide +kernel⟩, List.mem_of_getElem? (i := 836) (by decide +kernel), List.mem_of_getElem? (i := 944) (by decide +kernel), List.mem_of_getElem? (i := 945) (by decide +kernel)⟩
theorem lw_p22 : lw_okq (⟨"LateSeekersModel", "byteAt", "(I)I"⟩, 27) := ⟨⟨by decide +kernel, by decide +kernel⟩, List.mem_of_getElem? (i := 836) (by decide +kernel), List.mem_of_getElem? (i := 948) (by decide +kernel), List.mem_of_getElem? (i := 949) (by decide +kernel)⟩
theorem lw_p23 : lw_okq (⟨"LateSeekersModel", "itemHere", "()V"⟩, 27) := ⟨⟨by decide +kernel, by decide +kernel⟩, List.mem_of_getElem? (i := 836) (by decide +kernel), List.mem_of_getElem? (i := 958) (by decide +kernel), List.mem_of_getElem? (i := 959) (by decide +kernel)⟩
theorem lw_p24 : lw_okq (⟨"LateSeekersModel", "kindHere", "()I"⟩, 27) := ⟨⟨by decide +kernel, by decide +kernel⟩, List.mem_of_getElem? (i := 836) (by decide +kernel), List.mem_of_getElem? (i := 962) (by decide +kernel), List.mem_of_getElem? (i := 963) (by decide +kernel)⟩
theorem lw_p25 : lw_okq (⟨"LateSeekersModel", "isFive", "(IIIII)Z"⟩, 27) := ⟨⟨by decide +kernel, by decide +kernel⟩, List.mem_of_getElem? (i := 836) (by decide +kernel), List.mem_of_getElem? (i := 966) (by decide +kernel), List.mem_of_getElem? (i := 967) (by decide +kernel)⟩
theorem lw_p26 : lw_okq (⟨"LateSeekersModel", "isName", "(IIIII)Z"⟩, 27) := ⟨⟨by decide +kernel, by decide +kernel⟩, List.mem_of_getElem? (i := 836) (by decide +kernel), List.mem_of_getElem? (i := 970) (by decide +kernel), List.mem_of_getElem? (i := 971) (by decide +kernel)⟩
theorem lw_p27 : lw_okq (⟨"LateSeekersModel", "isSame", "(IIII)Z"⟩, 27) := ⟨⟨by decide +kernel, by decide +kernel⟩, List.mem_of_getElem? (i := 836) (by decide +kernel), List.mem_of_getElem? (i := 974) (by decide +kernel), List.mem_of_getElem? (i := 975) (by decide +kernel)⟩
theorem lw_p28 : lw_okq (⟨"LateSeekersModel", "isFour", "(IIII)Z"⟩, 27) := ⟨⟨by decide +kernel, by decide +kernel⟩, List.mem_of_getElem? (i := 836) (by decide +kernel), List.mem_of_getElem? (i := 978) (by decide +kernel), List.mem_of_getElem? (i := 979) (by decide +kernel)⟩
theorem lw_p29 : lw_okq (⟨"LateSeekersModel", "lawHere", "()I"⟩, 27) := ⟨⟨by decide +kernel, by decide +kernel⟩, List.mem_of_getElem? (i := 836) (by decide +kernel), List.mem_of_getElem? (i := 982) (by decide +kernel), List.mem_of_getElem? (i := 983) (by decide +kernel)⟩
theorem lw_p30 : lw_okq (⟨"LateSeekersModel", "personHere", "(I)V"⟩, 27) := ⟨⟨by decide +kernel, by decide +kernel⟩, List.mem_of_getElem? (i := 836) (by decide +kernel), List.mem_of_getElem? (i := 986) (by decide +kernel), List.mem_of_getElem? (i := 987) (by decide +kernel)⟩
theorem lw_p31 : lw_okq (⟨"LateSeekersModel", "needs", "(Z)V"⟩, 27) := ⟨⟨by decide +kernel, by decide +kernel⟩, List.mem_of_getElem? (i := 836) (by decide +kernel), List.mem_of_getElem? (i := 990) (by decide +kernel), List.mem_of_getElem? (i := 991) (by decide +kernel)⟩
def lw_privs_2 : List (MethodName × Nat) := [(⟨"LateSeekers$Trials", "yearsUntilShown", "(II)I"⟩, 2), (⟨"LateSeekers$Trials", "seeksBehind", "(III)Z"⟩, 2), (⟨"LateSeekers$Actor", "run", "(IIII)I"⟩, 6), (⟨"LateSeekers$Actor", "quotient", "(II)I"⟩, 6), (⟨"LateSeekersModel", "begins", "()V"⟩, 27), (⟨"LateSeekersModel", "nextToken", "()V"⟩, 27), (⟨"LateSeekersModel", "byteAt", "(I)I"⟩, 27), (⟨"LateSeekersModel", "itemHere", "()V"⟩, 27), (⟨"LateSeekersModel", "kindHere", "()I"⟩, 27), (⟨"LateSeekersModel", "isFive", "(IIIII)Z"⟩, 27), (⟨"LateSeekersModel", "isName", "(IIIII)Z"⟩, 27), (⟨"LateSeekersModel", "isSame", "(IIII)Z"⟩, 27), (⟨"LateSeekersModel", "isFour", "(IIII)Z"⟩, 27), (⟨"LateSeekersModel", "lawHere", "()I"⟩, 27), (⟨"LateSeekersModel", "personHere", "(I)V"⟩, 27), (⟨"LateSeekersModel", "needs", "(Z)V"⟩, 27)]
theorem lw_r2 : ∀ q ∈ lw_privs_2, lw_okq q := List.forall_mem_cons.mpr ⟨lw_p16, List.forall_mem_cons.mpr ⟨lw_p17, List.forall_mem_cons.mpr ⟨lw_p18, List.forall_mem_cons.mpr ⟨lw_p19, List.forall_mem_cons.mpr ⟨lw_p20, List.forall_mem_cons.mpr ⟨lw_p21, List.forall_mem_cons.mpr ⟨lw_p22, List.forall_mem_cons.mpr ⟨lw_p23, List.forall_mem_cons.mpr ⟨lw_p24, List.forall_mem_cons.mpr ⟨lw_p25, List.forall_mem_cons.mpr ⟨lw_p26, List.forall_mem_cons.mpr ⟨lw_p27, List.forall_mem_cons.mpr ⟨lw_p28, List.forall_mem_cons.mpr ⟨lw_p29, List.forall_mem_cons.mpr ⟨lw_p30, List.forall_mem_cons.mpr ⟨lw_p31, fun _ h => absurd h List.not_mem_nil⟩⟩⟩⟩⟩⟩⟩⟩⟩⟩⟩⟩⟩⟩⟩⟩
theorem lw_p32 : lw_okq (⟨"LateSeekersModel", "isTwo", "(II)Z"⟩, 27) := ⟨⟨by decide +kernel, by decide +kernel⟩, List.mem_of_getElem? (i := 836) (by decide +kernel), List.mem_of_getElem? (i := 994) (by decide +kernel), List.mem_of_getElem? (i := 995) (by decide +kernel)⟩
theorem lw_p33 : lw_okq (⟨"LateSeekersModel", "numberTo", "(II)V"⟩, 27) := ⟨⟨by decide +kernel, by decide +kernel⟩, List.mem_of_getElem? (i := 836) (by decide +kernel), List.mem_of_getElem? (i := 998) (by decide +kernel), List.mem_of_getElem? (i := 999) (by decide +kernel)⟩
theorem lw_p34 : lw_okq (⟨"LateSeekersModel", "perhaps", "(ZII)V"⟩, 27) := ⟨⟨by decide +kernel, by decide +kernel⟩, List.mem_of_getElem? (i := 836) (by decide +kernel), List.mem_of_getElem? (i := 1002) (by decide +kernel), List.mem_of_getElem? (i := 1003) (by decide +kernel)⟩
theorem lw_p35 : lw_okq (⟨"LateSeekersModel", "coverHere", "()V"⟩, 27) := ⟨⟨by decide +kernel, by decide +kernel⟩, List.mem_of_getElem? (i := 836) (by decide +kernel), List.mem_of_getElem? (i := 1006) (by decide +kernel), List.mem_of_getElem? (i := 1007) (by decide +kernel)⟩
theorem lw_p36 : lw_okq (⟨"LateSeekersModel", "becomes", "(II)I"⟩, 27) := ⟨⟨by decide +kernel, by decide +kernel⟩, List.mem_of_getElem? (i := 836) (by decide +kernel), List.mem_of_getElem? (i := 1018) (by decide +kernel), List.mem_of_getElem? (i := 1019) (by decide +kernel)⟩
theorem lw_p37 : lw_okq (⟨"LateSeekersModel", "isOne", "(I)Z"⟩, 27) := ⟨⟨by decide +kernel, by decide +kernel⟩, List.mem_of_getElem? (i := 836) (by decide +kernel), List.mem_of_getElem? (i := 1040) (by decide +kernel), List.mem_of_getElem? (i := 1041) (by decide +kernel)⟩
theorem lw_p38 : lw_okq (⟨"LateSeekersModel", "its", "(II)I"⟩, 27) := ⟨⟨by decide +kernel, by decide +kernel⟩, List.mem_of_getElem? (i := 836) (by decide +kernel), List.mem_of_getElem? (i := 1044) (by decide +kernel), List.mem_of_getElem? (i := 1045) (by decide +kernel)⟩
theorem lw_p39 : lw_okq (⟨"LateSeekersModel", "hides", "(I)I"⟩, 27) := ⟨⟨by decide +kernel, by decide +kernel⟩, List.mem_of_getElem? (i := 836) (by decide +kernel), List.mem_of_getElem? (i := 1053) (by decide +kernel), List.mem_of_getElem? (i := 1054) (by decide +kernel)⟩
theorem lw_p40 : lw_okq (⟨"LateSeekersModel", "sees", "(I)I"⟩, 27) := ⟨⟨by decide +kernel, by decide +kernel⟩, List.mem_of_getElem? (i := 836) (by decide +kernel), List.mem_of_getElem? (i := 1057) (by decide +kernel), List.mem_of_getElem? (i := 1058) (by decide +kernel)⟩
theorem lw_p41 : lw_okq (⟨"LateSeekersModel", "strides", "(I)I"⟩, 27) := ⟨⟨by decide +kernel, by decide +kernel⟩, List.mem_of_getElem? (i := 836) (by decide +kernel), List.mem_of_getElem? (i := 1061) (by decide +kernel), List.mem_of_getElem? (i := 1062) (by decide +kernel)⟩
theorem lw_p42 : lw_okq (⟨"LateSeekersModel", "thoseAt", "(I)I"⟩, 27) := ⟨⟨by decide +kernel, by decide +kernel⟩, List.mem_of_getElem? (i := 836) (by decide +kernel), List.mem_of_getElem? (i := 1085) (by decide +kernel), List.mem_of_getElem? (i := 1086) (by decide +kernel)⟩
theorem lw_p43 : lw_okq (⟨"LateSeekersModel", "hiddenOnes", "()I"⟩, 27) := ⟨⟨by decide +kernel, by decide +kernel⟩, List.mem_of_getElem? (i := 836) (by decide +kernel), List.mem_of_getElem? (i := 1089) (by decide +kernel), List.mem_of_getElem? (i := 1090) (by decide +kernel)⟩
theorem lw_p44 : lw_okq (⟨"LateSeekersModel", "goes", "(I)V"⟩, 27) := ⟨⟨by decide +kernel, by decide +kernel⟩, List.mem_of_getElem? (i := 836) (by decide +kernel), List.mem_of_getElem? (i := 1105) (by decide +kernel), List.mem_of_getElem? (i := 1106) (by decide +kernel)⟩
theorem lw_p45 : lw_okq (⟨"LateSeekersModel", "goesBy", "(I)V"⟩, 27) := ⟨⟨by decide +kernel, by decide +kernel⟩, List.mem_of_getElem? (i := 836) (by decide +kernel), List.mem_of_getElem? (i := 1109) (by decide +kernel), List.mem_of_getElem? (i := 1110) (by decide +kernel)⟩
theorem lw_p46 : lw_okq (⟨"LateSeekersModel", "seeks", "(IZ)V"⟩, 27) := ⟨⟨by decide +kernel, by decide +kernel⟩, List.mem_of_getElem? (i := 836) (by decide +kernel), List.mem_of_getElem? (i := 1116) (by decide +kernel), List.mem_of_getElem? (i := 1117) (by decide +kernel)⟩
theorem lw_p47 : lw_okq (⟨"LateSeekersModel", "drawn", "()I"⟩, 27) := ⟨⟨by decide +kernel, by decide +kernel⟩, List.mem_of_getElem? (i := 836) (by decide +kernel), List.mem_of_getElem? (i := 1128) (by decide +kernel), List.mem_of_getElem? (i := 1129) (by decide +kernel)⟩
def lw_privs_3 : List (MethodName × Nat) := [(⟨"LateSeekersModel", "isTwo", "(II)Z"⟩, 27), (⟨"LateSeekersModel", "numberTo", "(II)V"⟩, 27), (⟨"LateSeekersModel", "perhaps", "(ZII)V"⟩, 27), (⟨"LateSeekersModel", "coverHere", "()V"⟩, 27), (⟨"LateSeekersModel", "becomes", "(II)I"⟩, 27), (⟨"LateSeekersModel", "isOne", "(I)Z"⟩, 27), (⟨"LateSeekersModel", "its", "(II)I"⟩, 27), (⟨"LateSeekersModel", "hides", "(I)I"⟩, 27), (⟨"LateSeekersModel", "sees", "(I)I"⟩, 27), (⟨"LateSeekersModel", "strides", "(I)I"⟩, 27), (⟨"LateSeekersModel", "thoseAt", "(I)I"⟩, 27), (⟨"LateSeekersModel", "hiddenOnes", "()I"⟩, 27), (⟨"LateSeekersModel", "goes", "(I)V"⟩, 27), (⟨"LateSeekersModel", "goesBy", "(I)V"⟩, 27), (⟨"LateSeekersModel", "seeks", "(IZ)V"⟩, 27), (⟨"LateSeekersModel", "drawn", "()I"⟩, 27)]
theorem lw_r3 : ∀ q ∈ lw_privs_3, lw_okq q := List.forall_mem_cons.mpr ⟨lw_p32, List.forall_mem_cons.mpr ⟨lw_p33, List.forall_mem_cons.mpr ⟨lw_p34, List.forall_mem_cons.mpr ⟨lw_p35, List.forall_mem_cons.mpr ⟨lw_p36, List.forall_mem_cons.mpr ⟨lw_p37, List.forall_mem_cons.mpr ⟨lw_p38, List.forall_mem_cons.mpr ⟨lw_p39, List.forall_mem_cons.mpr ⟨lw_p40, List.forall_mem_cons.mpr ⟨lw_p41, List.forall_mem_cons.mpr ⟨lw_p42, List.forall_mem_cons.mpr ⟨lw_p43, List.forall_mem_cons.mpr ⟨lw_p44, List.forall_mem_cons.mpr ⟨lw_p45, List.forall_mem_cons.mpr ⟨lw_p46, List.forall_mem_cons.mpr ⟨lw_p47, fun _ h => absurd h List.not_mem_nil⟩⟩⟩⟩⟩⟩⟩⟩⟩⟩⟩⟩⟩⟩⟩⟩
theorem lw_p48 : lw_okq (⟨"LateSeekersModel", "sumOf", "(I)I"⟩, 27) := ⟨⟨by decide +kernel, by decide +kernel⟩, List.mem_of_getElem? (i := 836) (by decide +kernel), List.mem_of_getElem? (i := 1143) (by decide +kernel), List.mem_of_getElem? (i := 1144) (by decide +kernel)⟩
theorem lw_p49 : lw_okq (⟨"LateSeekersModel", "hidingPlaces", "()I"⟩, 27) := ⟨⟨by decide +kernel, by decide +kernel⟩, List.mem_of_getElem? (i := 836) (by decide +kernel), List.mem_of_getElem? (i := 1147) (by decide +kernel), List.mem_of_getElem? (i := 1148) (by decide +kernel)⟩
theorem lw_p50 : lw_okq (⟨"LateSeekersModel", "coverOfAll", "()I"⟩, 27) := ⟨⟨by decide +kernel, by decide +kernel⟩, List.mem_of_getElem? (i := 836) (by decide +kernel), List.mem_of_getElem? (i := 1151) (by decide +kernel), List.mem_of_getElem? (i := 1152) (by decide +kernel)⟩
theorem lw_p51 : lw_okq (⟨"LateSeekersModel", "shownBy", "(II)I"⟩, 27) := ⟨⟨by decide +kernel, by decide +kernel⟩, List.mem_of_getElem? (i := 836) (by decide +kernel), List.mem_of_getElem? (i := 1163) (by decide +kernel), List.mem_of_getElem? (i := 1164) (by decide +kernel)⟩
theorem lw_p52 : lw_okq (⟨"LateSeekersModel", "isHiddenBy", "(III)Z"⟩, 27) := ⟨⟨by decide +kernel, by decide +kernel⟩, List.mem_of_getElem? (i := 836) (by decide +kernel), List.mem_of_getElem? (i := 1191) (by decide +kernel), List.mem_of_getElem? (i := 1192) (by decide +kernel)⟩
theorem lw_p53 : lw_okq (⟨"LateSeekersModel", "isTold", "(II)Z"⟩, 27) := ⟨⟨by decide +kernel, by decide +kernel⟩, List.mem_of_getElem? (i := 836) (by decide +kernel), List.mem_of_getElem? (i := 1214) (by decide +kernel), List.mem_of_getElem? (i := 1215) (by decide +kernel)⟩
theorem lw_p54 : lw_okq (⟨"LateSeekersModel", "isRow", "(II)Z"⟩, 27) := ⟨⟨by decide +kernel, by decide +kernel⟩, List.mem_of_getElem? (i := 836) (by decide +kernel), List.mem_of_getElem? (i := 1243) (by decide +kernel), List.mem_of_getElem? (i := 1244) (by decide +kernel)⟩
theorem lw_p55 : lw_okq (⟨"LateSeekersModel", "lacks", "(II)I"⟩, 27) := ⟨⟨by decide +kernel, by decide +kernel⟩, List.mem_of_getElem? (i := 836) (by decide +kernel), List.mem_of_getElem? (i := 1267) (by decide +kernel), List.mem_of_getElem? (i := 1268) (by decide +kernel)⟩
theorem lw_p56 : lw_okq (⟨"LateSeekersModel", "heldOn", "(I)I"⟩, 27) := ⟨⟨by decide +kernel, by decide +kernel⟩, List.mem_of_getElem? (i := 836) (by decide +kernel), List.mem_of_getElem? (i := 1291) (by decide +kernel), List.mem_of_getElem? (i := 1292) (by decide +kernel)⟩
theorem lw_p57 : lw_okq (⟨"LateSeekersModel", "counts", "(I)I"⟩, 27) := ⟨⟨by decide +kernel, by decide +kernel⟩, List.mem_of_getElem? (i := 836) (by decide +kernel), List.mem_of_getElem? (i := 1302) (by decide +kernel), List.mem_of_getElem? (i := 1303) (by decide +kernel)⟩
theorem lw_p58 : lw_okq (⟨"LateSeekersModel", "countsOfKeeper", "(I)I"⟩, 27) := ⟨⟨by decide +kernel, by decide +kernel⟩, List.mem_of_getElem? (i := 836) (by decide +kernel), List.mem_of_getElem? (i := 1306) (by decide +kernel), List.mem_of_getElem? (i := 1307) (by decide +kernel)⟩
theorem lw_p59 : lw_okq (⟨"LateSeekersModel", "runs", "(I)V"⟩, 27) := ⟨⟨by decide +kernel, by decide +kernel⟩, List.mem_of_getElem? (i := 836) (by decide +kernel), List.mem_of_getElem? (i := 1310) (by decide +kernel), List.mem_of_getElem? (i := 1311) (by decide +kernel)⟩
theorem lw_p60 : lw_okq (⟨"LateSeekersModel", "countsPlain", "(I)I"⟩, 27) := ⟨⟨by decide +kernel, by decide +kernel⟩, List.mem_of_getElem? (i := 836) (by decide +kernel), List.mem_of_getElem? (i := 1314) (by decide +kernel), List.mem_of_getElem? (i := 1315) (by decide +kernel)⟩
theorem lw_p61 : lw_okq (⟨"LateSeekersModel", "calls", "(I)I"⟩, 27) := ⟨⟨by decide +kernel, by decide +kernel⟩, List.mem_of_getElem? (i := 836) (by decide +kernel), List.mem_of_getElem? (i := 1318) (by decide +kernel), List.mem_of_getElem? (i := 1319) (by decide +kernel)⟩
theorem lw_p62 : lw_okq (⟨"LateSeekersModel", "callsPlain", "(I)I"⟩, 27) := ⟨⟨by decide +kernel, by decide +kernel⟩, List.mem_of_getElem? (i := 836) (by decide +kernel), List.mem_of_getElem? (i := 1322) (by decide +kernel), List.mem_of_getElem? (i := 1323) (by decide +kernel)⟩
theorem lw_p63 : lw_okq (⟨"LateSeekersModel", "parts", "(I)I"⟩, 27) := ⟨⟨by decide +kernel, by decide +kernel⟩, List.mem_of_getElem? (i := 836) (by decide +kernel), List.mem_of_getElem? (i := 1326) (by decide +kernel), List.mem_of_getElem? (i := 1327) (by decide +kernel)⟩
def lw_privs_4 : List (MethodName × Nat) := [(⟨"LateSeekersModel", "sumOf", "(I)I"⟩, 27), (⟨"LateSeekersModel", "hidingPlaces", "()I"⟩, 27), (⟨"LateSeekersModel", "coverOfAll", "()I"⟩, 27), (⟨"LateSeekersModel", "shownBy", "(II)I"⟩, 27), (⟨"LateSeekersModel", "isHiddenBy", "(III)Z"⟩, 27), (⟨"LateSeekersModel", "isTold", "(II)Z"⟩, 27), (⟨"LateSeekersModel", "isRow", "(II)Z"⟩, 27), (⟨"LateSeekersModel", "lacks", "(II)I"⟩, 27), (⟨"LateSeekersModel", "heldOn", "(I)I"⟩, 27), (⟨"LateSeekersModel", "counts", "(I)I"⟩, 27), (⟨"LateSeekersModel", "countsOfKeeper", "(I)I"⟩, 27), (⟨"LateSeekersModel", "runs", "(I)V"⟩, 27), (⟨"LateSeekersModel", "countsPlain", "(I)I"⟩, 27), (⟨"LateSeekersModel", "calls", "(I)I"⟩, 27), (⟨"LateSeekersModel", "callsPlain", "(I)I"⟩, 27), (⟨"LateSeekersModel", "parts", "(I)I"⟩, 27)]
theorem lw_r4 : ∀ q ∈ lw_privs_4, lw_okq q := List.forall_mem_cons.mpr ⟨lw_p48, List.forall_mem_cons.mpr ⟨lw_p49, List.forall_mem_cons.mpr ⟨lw_p50, List.forall_mem_cons.mpr ⟨lw_p51, List.forall_mem_cons.mpr ⟨lw_p52, List.forall_mem_cons.mpr ⟨lw_p53, List.forall_mem_cons.mpr ⟨lw_p54, List.forall_mem_cons.mpr ⟨lw_p55, List.forall_mem_cons.mpr ⟨lw_p56, List.forall_mem_cons.mpr ⟨lw_p57, List.forall_mem_cons.mpr ⟨lw_p58, List.forall_mem_cons.mpr ⟨lw_p59, List.forall_mem_cons.mpr ⟨lw_p60, List.forall_mem_cons.mpr ⟨lw_p61, List.forall_mem_cons.mpr ⟨lw_p62, List.forall_mem_cons.mpr ⟨lw_p63, fun _ h => absurd h List.not_mem_nil⟩⟩⟩⟩⟩⟩⟩⟩⟩⟩⟩⟩⟩⟩⟩⟩
theorem lw_p64 : lw_okq (⟨"LateSeekersModel", "partsPlain", "(I)I"⟩, 27) := ⟨⟨by decide +kernel, by decide +kernel⟩, List.mem_of_getElem? (i := 836) (by decide +kernel), List.mem_of_getElem? (i := 1330) (by decide +kernel), List.mem_of_getElem? (i := 1331) (by decide +kernel)⟩
theorem lw_p65 : lw_okq (⟨"LateSeekersModel", "looks", "(I)I"⟩, 27) := ⟨⟨by decide +kernel, by decide +kernel⟩, List.mem_of_getElem? (i := 836) (by decide +kernel), List.mem_of_getElem? (i := 1334) (by decide +kernel), List.mem_of_getElem? (i := 1335) (by decide +kernel)⟩
theorem lw_p66 : lw_okq (⟨"LateSeekersModel", "looksPlain", "(I)I"⟩, 27) := ⟨⟨by decide +kernel, by decide +kernel⟩, List.mem_of_getElem? (i := 836) (by decide +kernel), List.mem_of_getElem? (i := 1338) (by decide +kernel), List.mem_of_getElem? (i := 1339) (by decide +kernel)⟩
theorem lw_p67 : lw_okq (⟨"LateSeekersModel", "crowded", "()I"⟩, 27) := ⟨⟨by decide +kernel, by decide +kernel⟩, List.mem_of_getElem? (i := 836) (by decide +kernel), List.mem_of_getElem? (i := 1350) (by decide +kernel), List.mem_of_getElem? (i := 1351) (by decide +kernel)⟩
def lw_privs_5 : List (MethodName × Nat) := [(⟨"LateSeekersModel", "partsPlain", "(I)I"⟩, 27), (⟨"LateSeekersModel", "looks", "(I)I"⟩, 27), (⟨"LateSeekersModel", "looksPlain", "(I)I"⟩, 27), (⟨"LateSeekersModel", "crowded", "()I"⟩, 27)]
theorem lw_r5 : ∀ q ∈ lw_privs_5, lw_okq q := List.forall_mem_cons.mpr ⟨lw_p64, List.forall_mem_cons.mpr ⟨lw_p65, List.forall_mem_cons.mpr ⟨lw_p66, List.forall_mem_cons.mpr ⟨lw_p67, fun _ h => absurd h List.not_mem_nil⟩⟩⟩⟩
def lw_privs : List (MethodName × Nat) := lw_privs_1 ++ (lw_privs_2 ++ (lw_privs_3 ++ (lw_privs_4 ++ (lw_privs_5))))
def lw_tbl : List Cond := k2_sels lw_privs ++ tables_1
theorem lw_privs_ok : ∀ q ∈ lw_privs, lw_okq q := by
  show ∀ q ∈ lw_privs_1 ++ (lw_privs_2 ++ (lw_privs_3 ++ (lw_privs_4 ++ (lw_privs_5)))), lw_okq q
  exact List.forall_mem_append.mpr ⟨lw_r1, List.forall_mem_append.mpr ⟨lw_r2, List.forall_mem_append.mpr ⟨lw_r3, List.forall_mem_append.mpr ⟨lw_r4, lw_r5⟩⟩⟩⟩
end
section
/-! NAMES: the words of the tables that a call keeps; the classes, their fields in the order of the tables (declaring class, name, descriptor, final) -/
def tb : List Cond := lw_tbl.filter goodWord
theorem tb_mem {w : Cond} (i : Nat) (h : lw_tbl[i]? = some w) (hg : goodWord w = true) : w ∈ tb := List.mem_filter.mpr ⟨List.mem_of_getElem? h, hg⟩
def R_LS : String := "LateSeekers"
def F_LS : u_T := fun k => match k with
  | 0 => ("LateSeekers", "now", "LLateSeekers$Park;", true)
  | 1 => ("LateSeekers", "kept", "LLateSeekers$Park;", true)
  | 2 => ("LateSeekers", "anyKept", "Z", false)
  | 3 => ("LateSeekers", "trials", "LLateSeekers$Trials;", true)
  | 4 => ("LateSeekers", "tape", "LLateSeekers$TapeReader;", true)
  | 5 => ("LateSeekers", "rows", "LLateSeekers$Rows;", true)
  | 6 => ("LateSeekers", "sheets", "LLateSeekers$Sheets;", true)
  | 7 => ("LateSeekers", "shelves", "LLateSeekers$Shelves;", true)
  | _ => ("LateSeekers", "actor", "LLateSeekers$Actor;", true)
def t_LS : Nat → FieldType := fun k => match k with
  | 0 => .object "LateSeekers$Park"
  | 1 => .object "LateSeekers$Park"
  | 2 => .boolean
  | 3 => .object "LateSeekers$Trials"
  | 4 => .object "LateSeekers$TapeReader"
  | 5 => .object "LateSeekers$Rows"
  | 6 => .object "LateSeekers$Sheets"
  | 7 => .object "LateSeekers$Shelves"
  | _ => .object "LateSeekers$Actor"
theorem n_LS : ∀ a, a < 9 → ∀ b, b < 9 → a ≠ b → (F_LS a).2.1 ≠ (F_LS b).2.1 := by decide +kernel
theorem t_LS_ok : ∀ k, k < 9 → parseFieldDescriptor (F_LS k).2.2.1 = some (t_LS k) := by decide +kernel
set_option maxRecDepth 20000 in
theorem i_LS : ∀ w ∈ u_ws R_LS F_LS 9, w ∈ tb := by decide +kernel
def R_Pk : String := "LateSeekers$Park"
def F_Pk : u_T := fun k => match k with
  | 0 => ("LateSeekers$Park", "law", "[I", true)
  | 1 => ("LateSeekers$Park", "cover", "[I", true)
  | 2 => ("LateSeekers$Park", "kind", "[I", true)
  | 3 => ("LateSeekers$Park", "age", "[I", true)
  | 4 => ("LateSeekers$Park", "wit", "[I", true)
  | 5 => ("LateSeekers$Park", "at", "[I", true)
  | 6 => ("LateSeekers$Park", "finds", "[I", true)
  | 7 => ("LateSeekers$Park", "finderOf", "[I", true)
  | 8 => ("LateSeekers$Park", "people", "I", false)
  | 9 => ("LateSeekers$Park", "hidden", "I", false)
  | 10 => ("LateSeekers$Park", "yearsGone", "I", false)
  | _ => ("LateSeekers$Park", "z", "I", false)
def t_Pk : Nat → FieldType := fun k => match k with
  | 0 => .array .int
  | 1 => .array .int
  | 2 => .array .int
  | 3 => .array .int
  | 4 => .array .int
  | 5 => .array .int
  | 6 => .array .int
  | 7 => .array .int
  | 8 => .int
  | 9 => .int
  | 10 => .int
  | _ => .int
theorem n_Pk : ∀ a, a < 12 → ∀ b, b < 12 → a ≠ b → (F_Pk a).2.1 ≠ (F_Pk b).2.1 := by decide +kernel
theorem t_Pk_ok : ∀ k, k < 12 → parseFieldDescriptor (F_Pk k).2.2.1 = some (t_Pk k) := by decide +kernel
set_option maxRecDepth 20000 in
theorem i_Pk : ∀ w ∈ u_ws R_Pk F_Pk 12, w ∈ tb := by decide +kernel
def R_Tr : String := "LateSeekers$Trials"
def F_Tr : u_T := fun k => match k with
  | 0 => ("LateSeekers$Trials", "now", "LLateSeekers$Park;", true)
  | _ => ("LateSeekers$Trials", "trial", "LLateSeekers$Park;", true)
def t_Tr : Nat → FieldType := fun k => match k with
  | 0 => .object "LateSeekers$Park"
  | _ => .object "LateSeekers$Park"
theorem n_Tr : ∀ a, a < 2 → ∀ b, b < 2 → a ≠ b → (F_Tr a).2.1 ≠ (F_Tr b).2.1 := by decide +kernel
theorem t_Tr_ok : ∀ k, k < 2 → parseFieldDescriptor (F_Tr k).2.2.1 = some (t_Tr k) := by decide +kernel
set_option maxRecDepth 20000 in
theorem i_Tr : ∀ w ∈ u_ws R_Tr F_Tr 2, w ∈ tb := by decide +kernel
def R_Tp : String := "LateSeekers$TapeReader"
def F_Tp : u_T := fun k => match k with
  | 0 => ("LateSeekers$TapeReader", "bytes", "[B", true)
  | 1 => ("LateSeekers$TapeReader", "size", "I", false)
  | 2 => ("LateSeekers$TapeReader", "sort", "I", false)
  | 3 => ("LateSeekers$TapeReader", "from", "I", false)
  | 4 => ("LateSeekers$TapeReader", "to", "I", false)
  | _ => ("LateSeekers$TapeReader", "fault", "I", false)
def t_Tp : Nat → FieldType := fun k => match k with
  | 0 => .array .byte
  | 1 => .int
  | 2 => .int
  | 3 => .int
  | 4 => .int
  | _ => .int
theorem n_Tp : ∀ a, a < 6 → ∀ b, b < 6 → a ≠ b → (F_Tp a).2.1 ≠ (F_Tp b).2.1 := by decide +kernel
theorem t_Tp_ok : ∀ k, k < 6 → parseFieldDescriptor (F_Tp k).2.2.1 = some (t_Tp k) := by decide +kernel
set_option maxRecDepth 20000 in
theorem i_Tp : ∀ w ∈ u_ws R_Tp F_Tp 6, w ∈ tb := by decide +kernel
def R_Rw : String := "LateSeekers$Rows"
def F_Rw : u_T := fun k => match k with
  | 0 => ("LateSeekers$Rows", "parts", "[I", true)
  | _ => ("LateSeekers$Rows", "size", "I", false)
def t_Rw : Nat → FieldType := fun k => match k with
  | 0 => .array .int
  | _ => .int
theorem n_Rw : ∀ a, a < 2 → ∀ b, b < 2 → a ≠ b → (F_Rw a).2.1 ≠ (F_Rw b).2.1 := by decide +kernel
theorem t_Rw_ok : ∀ k, k < 2 → parseFieldDescriptor (F_Rw k).2.2.1 = some (t_Rw k) := by decide +kernel
set_option maxRecDepth 20000 in
theorem i_Rw : ∀ w ∈ u_ws R_Rw F_Rw 2, w ∈ tb := by decide +kernel
def R_Sh : String := "LateSeekers$Sheets"
def F_Sh : u_T := fun k => match k with
  | 0 => ("LateSeekers$Sheets", "sort", "[I", true)
  | 1 => ("LateSeekers$Sheets", "size", "[I", true)
  | _ => ("LateSeekers$Sheets", "items", "[I", true)
def t_Sh : Nat → FieldType := fun k => match k with
  | 0 => .array .int
  | 1 => .array .int
  | _ => .array .int
theorem n_Sh : ∀ a, a < 3 → ∀ b, b < 3 → a ≠ b → (F_Sh a).2.1 ≠ (F_Sh b).2.1 := by decide +kernel
theorem t_Sh_ok : ∀ k, k < 3 → parseFieldDescriptor (F_Sh k).2.2.1 = some (t_Sh k) := by decide +kernel
set_option maxRecDepth 20000 in
theorem i_Sh : ∀ w ∈ u_ws R_Sh F_Sh 3, w ∈ tb := by decide +kernel
def R_Sv : String := "LateSeekers$Shelves"
def F_Sv : u_T := fun k => match k with
  | 0 => ("LateSeekers$Shelves", "person", "[I", true)
  | 1 => ("LateSeekers$Shelves", "rowSort", "[I", true)
  | _ => ("LateSeekers$Shelves", "rowSize", "[I", true)
def t_Sv : Nat → FieldType := fun k => match k with
  | 0 => .array .int
  | 1 => .array .int
  | _ => .array .int
theorem n_Sv : ∀ a, a < 3 → ∀ b, b < 3 → a ≠ b → (F_Sv a).2.1 ≠ (F_Sv b).2.1 := by decide +kernel
theorem t_Sv_ok : ∀ k, k < 3 → parseFieldDescriptor (F_Sv k).2.2.1 = some (t_Sv k) := by decide +kernel
set_option maxRecDepth 20000 in
theorem i_Sv : ∀ w ∈ u_ws R_Sv F_Sv 3, w ∈ tb := by decide +kernel
def R_Ac : String := "LateSeekers$Actor"
def F_Ac : u_T := fun k => match k with
  | 0 => ("LateSeekers$Actor", "traceOf", "[I", true)
  | 1 => ("LateSeekers$Actor", "traced", "I", false)
  | 2 => ("LateSeekers$Actor", "ownKind", "I", false)
  | 3 => ("LateSeekers$Actor", "n", "I", false)
  | 4 => ("LateSeekers$Actor", "a", "I", false)
  | _ => ("LateSeekers$Actor", "partedByNothing", "Z", false)
def t_Ac : Nat → FieldType := fun k => match k with
  | 0 => .array .int
  | 1 => .int
  | 2 => .int
  | 3 => .int
  | 4 => .int
  | _ => .boolean
theorem n_Ac : ∀ a, a < 6 → ∀ b, b < 6 → a ≠ b → (F_Ac a).2.1 ≠ (F_Ac b).2.1 := by decide +kernel
theorem t_Ac_ok : ∀ k, k < 6 → parseFieldDescriptor (F_Ac k).2.2.1 = some (t_Ac k) := by decide +kernel
set_option maxRecDepth 20000 in
theorem i_Ac : ∀ w ∈ u_ws R_Ac F_Ac 6, w ∈ tb := by decide +kernel
def R_Md : String := "LateSeekersModel"
def F_Md : u_T := fun k => match k with
  | 0 => ("LateSeekersModel", "s", "[I", true)
  | 1 => ("LateSeekersModel", "held", "[I", true)
  | 2 => ("LateSeekersModel", "aside", "[I", true)
  | 3 => ("LateSeekersModel", "before", "[I", true)
  | 4 => ("LateSeekersModel", "isHeld", "Z", false)
  | 5 => ("LateSeekersModel", "tape", "[I", true)
  | 6 => ("LateSeekersModel", "taped", "I", false)
  | 7 => ("LateSeekersModel", "token", "I", false)
  | 8 => ("LateSeekersModel", "from", "I", false)
  | 9 => ("LateSeekersModel", "to", "I", false)
  | 10 => ("LateSeekersModel", "value", "I", false)
  | 11 => ("LateSeekersModel", "isWrong", "Z", false)
  | 12 => ("LateSeekersModel", "foundBy", "[I", true)
  | 13 => ("LateSeekersModel", "rows", "[I", true)
  | 14 => ("LateSeekersModel", "rowN", "I", false)
  | 15 => ("LateSeekersModel", "sortOf", "[I", true)
  | 16 => ("LateSeekersModel", "sizeOf", "[I", true)
  | 17 => ("LateSeekersModel", "numbers", "[I", true)
  | 18 => ("LateSeekersModel", "holdsWhat", "[I", true)
  | 19 => ("LateSeekersModel", "holdsWhich", "[I", true)
  | 20 => ("LateSeekersModel", "holdsMany", "[I", true)
  | 21 => ("LateSeekersModel", "bodies", "[I", true)
  | 22 => ("LateSeekersModel", "ran", "I", false)
  | 23 => ("LateSeekersModel", "actKind", "I", false)
  | 24 => ("LateSeekersModel", "actN", "I", false)
  | 25 => ("LateSeekersModel", "actA", "I", false)
  | _ => ("LateSeekersModel", "isParted", "Z", false)
def t_Md : Nat → FieldType := fun k => match k with
  | 0 => .array .int
  | 1 => .array .int
  | 2 => .array .int
  | 3 => .array .int
  | 4 => .boolean
  | 5 => .array .int
  | 6 => .int
  | 7 => .int
  | 8 => .int
  | 9 => .int
  | 10 => .int
  | 11 => .boolean
  | 12 => .array .int
  | 13 => .array .int
  | 14 => .int
  | 15 => .array .int
  | 16 => .array .int
  | 17 => .array .int
  | 18 => .array .int
  | 19 => .array .int
  | 20 => .array .int
  | 21 => .array .int
  | 22 => .int
  | 23 => .int
  | 24 => .int
  | 25 => .int
  | _ => .boolean
theorem n_Md : ∀ a, a < 27 → ∀ b, b < 27 → a ≠ b → (F_Md a).2.1 ≠ (F_Md b).2.1 := by decide +kernel
theorem t_Md_ok : ∀ k, k < 27 → parseFieldDescriptor (F_Md k).2.2.1 = some (t_Md k) := by decide +kernel
set_option maxRecDepth 20000 in
theorem i_Md : ∀ w ∈ u_ws R_Md F_Md 27, w ∈ tb := by decide +kernel
abbrev classes : List vw_C := [(R_LS, F_LS, 9), (R_Pk, F_Pk, 12), (R_Tr, F_Tr, 2), (R_Tp, F_Tp, 6), (R_Rw, F_Rw, 2), (R_Sh, F_Sh, 3), (R_Sv, F_Sv, 3), (R_Ac, F_Ac, 6), (R_Md, F_Md, 27)]
/-- what is known of class ci: its words are among the tables', its fields' types, their names apart -/
def CF (ci : Nat) : Prop := ∃ (C : String) (T : u_T) (N : Nat) (t : Nat → FieldType), classes[ci]? = some (C, T, N) ∧ (∀ w ∈ u_ws C T N, w ∈ tb) ∧ (∀ k, k < N → parseFieldDescriptor (T k).2.2.1 = some (t k)) ∧ (∀ a, a < N → ∀ b, b < N → a ≠ b → (T a).2.1 ≠ (T b).2.1)
theorem cf_all : ∀ ci, ci < 9 → CF ci := by
  intro ci h
  match ci, h with
  | 0, _ => exact ⟨R_LS, F_LS, 9, t_LS, rfl, i_LS, t_LS_ok, n_LS⟩
  | 1, _ => exact ⟨R_Pk, F_Pk, 12, t_Pk, rfl, i_Pk, t_Pk_ok, n_Pk⟩
  | 2, _ => exact ⟨R_Tr, F_Tr, 2, t_Tr, rfl, i_Tr, t_Tr_ok, n_Tr⟩
  | 3, _ => exact ⟨R_Tp, F_Tp, 6, t_Tp, rfl, i_Tp, t_Tp_ok, n_Tp⟩
  | 4, _ => exact ⟨R_Rw, F_Rw, 2, t_Rw, rfl, i_Rw, t_Rw_ok, n_Rw⟩
  | 5, _ => exact ⟨R_Sh, F_Sh, 3, t_Sh, rfl, i_Sh, t_Sh_ok, n_Sh⟩
  | 6, _ => exact ⟨R_Sv, F_Sv, 3, t_Sv, rfl, i_Sv, t_Sv_ok, n_Sv⟩
  | 7, _ => exact ⟨R_Ac, F_Ac, 6, t_Ac, rfl, i_Ac, t_Ac_ok, n_Ac⟩
  | 8, _ => exact ⟨R_Md, F_Md, 27, t_Md, rfl, i_Md, t_Md_ok, n_Md⟩
end
section
/-! THE FRAME: a store of numbered cells (objects whose references are fixed, arrays of numbers) and a judgement G over it, one row an instruction -/
abbrev Store : Type := Nat → Nat → Int32
abbrev Shape : Type := (Bool × Nat) ⊕ (Nat × List (Option Nat))
abbrev Lay : Type := List Shape
/-- a store with one place written -/
def s_up (σ : Store) (k j : Nat) (v : Int32) : Store := fun a => if a = k then upd (σ a) j v else σ a
theorem s_up_k (σ : Store) (k j : Nat) (v : Int32) : s_up σ k j v k = upd (σ k) j v := by simp [s_up]
theorem s_up_n (σ : Store) {a k : Nat} (j : Nat) (v : Int32) (h : a ≠ k) : s_up σ k j v a = σ a := by simp [s_up, h]
/-- a store with one cell replaced -/
def s_row (σ : Store) (k : Nat) (f : Nat → Int32) : Store := fun a => if a = k then f else σ a
theorem s_row_k (σ : Store) (k : Nat) (f : Nat → Int32) : s_row σ k f k = f := by simp [s_row]
theorem s_row_n (σ : Store) {a k : Nat} (f : Nat → Int32) (h : a ≠ k) : s_row σ k f a = σ a := by simp [s_row, h]
/-- a reference of the store is a cell's number; its address is ad of it -/
def cv (ad : Nat → Nat) : Value → Value
  | .ref k => .ref (ad k)
  | v => v
theorem cv_cat (ad : Nat → Nat) (v : Value) : (cv ad v).category = v.category := by cases v <;> rfl
def fv (ad : Nat → Nat) (v : Nat → Int32) : Nat → List (Option Nat) → List Value
  | _, [] => []
  | j, none :: r => .int (v j) :: fv ad v (j + 1) r
  | j, some k :: r => .ref (ad k) :: fv ad v (j + 1) r
def fo (ad : Nat → Nat) (v : Nat → Int32) (j : Nat) : Option Nat → Value
  | none => .int (v j)
  | some k => .ref (ad k)
theorem fv_get (ad : Nat → Nat) (v : Nat → Int32) : ∀ (fs : List (Option Nat)) (j i : Nat), (fv ad v j fs)[i]? = fs[i]?.map (fo ad v (j + i)) := by
  intro fs
  induction fs with
  | nil => intro j i; simp [fv]
  | cons f r ih =>
    intro j i
    cases i with
    | zero => cases f <;> simp [fv, fo]
    | succ i =>
      have e : j + (i + 1) = (j + 1) + i := by omega
      cases f <;> simp [fv, ih, e]
theorem fv_len (ad : Nat → Nat) (v : Nat → Int32) : ∀ (fs : List (Option Nat)) (j : Nat), (fv ad v j fs).length = fs.length := by
  intro fs
  induction fs with
  | nil => intro j; rfl
  | cons f r ih => intro j; cases f <;> simp [fv, ih]
theorem fv_set (ad : Nat → Nat) (v : Nat → Int32) (fs : List (Option Nat)) {i : Nat} (x : Int32) (h : fs[i]? = some none) : (fv ad v 0 fs).set i (.int x) = fv ad (upd v i x) 0 fs := by
  apply List.ext_getElem?
  intro k
  rw [List.getElem?_set, fv_get, fv_len, fv_get]
  by_cases hk : i = k
  · subst hk
    have hl : i < fs.length := (List.getElem?_eq_some_iff.mp h).1
    have h3 : fs[i] = none := (List.getElem?_eq_some_iff.mp h).2
    simp [hl, h3, fo, upd]
  · rw [if_neg hk]
    cases hf : fs[k]? with
    | none => rfl
    | some o => cases o <;> simp [fo, upd, Ne.symm hk]
def ce (cI cB : ClassId) (ad : Nat → Nat) (v : Nat → Int32) : Shape → va_E
  | .inl (b, n) => .inl (if b then cB else cI, n, .inl v)
  | .inr (ci, fs) => .inr (ci, fv ad v 0 fs)
def wr (cI cB : ClassId) (ad : Nat → Nat) (σ : Store) : Nat → Lay → va_W
  | _, [] => []
  | k, sh :: r => (ad k, ce cI cB ad (σ k) sh) :: wr cI cB ad σ (k + 1) r
theorem wr_get (cI cB : ClassId) (ad : Nat → Nat) (σ : Store) : ∀ (Λ : Lay) (k i : Nat), (wr cI cB ad σ k Λ)[i]? = Λ[i]?.map (fun sh => (ad (k + i), ce cI cB ad (σ (k + i)) sh)) := by
  intro Λ
  induction Λ with
  | nil => intro k i; simp [wr]
  | cons f r ih =>
    intro k i
    cases i with
    | zero => simp [wr]
    | succ i =>
      have e : k + (i + 1) = (k + 1) + i := by omega
      simp [wr, ih, e]
theorem wr_at {cI cB : ClassId} {ad : Nat → Nat} {σ : Store} {Λ : Lay} {i : Nat} {sh : Shape} (h : Λ[i]? = some sh) : (wr cI cB ad σ 0 Λ)[i]? = some (ad i, ce cI cB ad (σ i) sh) := by
  rw [wr_get, h]; simp
theorem wr_len (cI cB : ClassId) (ad : Nat → Nat) (σ : Store) : ∀ (Λ : Lay) (k : Nat), (wr cI cB ad σ k Λ).length = Λ.length := by
  intro Λ
  induction Λ with
  | nil => intro k; rfl
  | cons f r ih => intro k; simp [wr, ih]
theorem wr_set {cI cB : ClassId} {ad : Nat → Nat} {σ : Store} {Λ : Lay} {i : Nat} {sh : Shape} (f : Nat → Int32) (h : Λ[i]? = some sh) : (wr cI cB ad σ 0 Λ).set i (ad i, ce cI cB ad f sh) = wr cI cB ad (s_row σ i f) 0 Λ := by
  apply List.ext_getElem?
  intro k
  rw [List.getElem?_set, wr_get, wr_len, wr_get]
  by_cases hk : i = k
  · subst hk
    have hl : i < Λ.length := (List.getElem?_eq_some_iff.mp h).1
    have h3 : Λ[i] = sh := (List.getElem?_eq_some_iff.mp h).2
    simp [hl, h3, s_row]
  · rw [if_neg hk]
    cases hf : Λ[k]? with
    | none => rfl
    | some o => simp [s_row, Ne.symm hk]
theorem s_row_up (σ : Store) (k j : Nat) (v : Int32) : s_row σ k (upd (σ k) j v) = s_up σ k j v := by
  funext a
  by_cases h : a = k
  · subst h; simp [s_row, s_up]
  · simp [s_row, s_up, h]
/-- the cells' addresses are apart; which they are -/
def Ap (Λ : Lay) (ad : Nat → Nat) : Prop := ∀ i j, i < Λ.length → j < Λ.length → ad i = ad j → i = j
def Aw (Λ : Lay) (ad : Nat → Nat) : Nat → Prop := fun q => ∃ k, k < Λ.length ∧ q = ad k
theorem wr_D {cI cB : ClassId} {ad : Nat → Nat} {σ : Store} {Λ : Lay} {A : Nat → Prop} (h : Ap Λ ad) (hA : ∀ k, k < Λ.length → A (ad k)) : va_D A (wr cI cB ad σ 0 Λ) := by
  have key : ∀ (k : Nat) (q : Nat × va_E), (wr cI cB ad σ 0 Λ)[k]? = some q → k < Λ.length ∧ q.1 = ad k := by
    intro k q hq
    rw [wr_get] at hq
    cases hf : Λ[k]? with
    | none => rw [hf] at hq; cases hq
    | some o =>
      rw [hf] at hq
      have := Option.some.inj hq
      refine ⟨(List.getElem?_eq_some_iff.mp hf).1, ?_⟩
      rw [← this]; simp
  refine ⟨fun i j p q hp hq e => ?_, fun k q hq => ?_⟩
  · obtain ⟨a1, a2⟩ := key i p hp
    obtain ⟨b1, b2⟩ := key j q hq
    exact h i j a1 b1 (by rw [← a2, ← b2]; exact e)
  · obtain ⟨a1, a2⟩ := key k q hq
    rw [a2]; exact hA k a1
-- what nobody writes: static arrays, String constants
def roC : Nat → String × String := fun j => match j with
  | 0 => ("LateSeekers", "LAW_AT_FIRST")
  | 1 => ("LateSeekers", "LAW_MOST")
  | 2 => ("LateSeekers", "KIND_ABOVE")
  | _ => ("LateSeekers$Actor", "BODIES")
def roV : Nat → List Int32 := fun j => match j with
  | 0 => [60, 2, 1, 20]
  | 1 => [99, 9, 9, 99]
  | 2 => [-1, 0, 0, 1, 2, 0]
  | _ => [10, 11, 12, 13, 10, 20, 12, 13, 30, 11, 12, 31, 51, 20, 50, 13, 40, 41, 12, 31, 10, 11, 61, 60]
/-- the String constants: place in the pool, text -/
def strK : List (Nat × String) := [(64, "at"), (74, "age"), (80, "wit"), (82, "seeks"), (98, "cover"), (100, "is"), (120, "child"), (122, "widower"), (124, "keeper"), (126, "grandson"), (128, "scholar"), (130, "lady"), (132, "out"), (134, "dark"), (136, "lamp"), (138, "peep")]
def strB : List (List Int32) := [[97, 116], [97, 103, 101], [119, 105, 116], [115, 101, 101, 107, 115], [99, 111, 118, 101, 114], [105, 115], [99, 104, 105, 108, 100], [119, 105, 100, 111, 119, 101, 114], [107, 101, 101, 112, 101, 114], [103, 114, 97, 110, 100, 115, 111, 110], [115, 99, 104, 111, 108, 97, 114], [108, 97, 100, 121], [111, 117, 116], [100, 97, 114, 107], [108, 97, 109, 112], [112, 101, 101, 112]]
def strL : List Nat := [2, 3, 3, 5, 5, 2, 5, 7, 6, 8, 7, 4, 3, 4, 4, 4]
def RO (ad : Nat → Nat) (A : Nat → Prop) (U : State) : Prop :=
  (∀ j, j < 4 → va_Z (roC j).1 (roC j).2 "[I" (.ref (ad (900 + j))) A U U.heap ∧ va_T .int (ad (900 + j)) (roV j).length (fun i => .int ((roV j).getD i 0)) A U U.heap) ∧
  vk_S 16 strL strB (fun i => ad (1000 + i)) (fun i => ad (1100 + i)) A U U.heap ∧
  (∀ i, i < 16 → vk_R "LateSeekers$TapeReader" (strK.getD i (0, "")).1 (strK.getD i (0, "")).2 (ad (1000 + i)) U) ∧
  va_Z "java/lang/String" "COMPACT_STRINGS" "Z" (.int 1) A U U.heap ∧
  (va_Z "jdk/internal/util/Preconditions" "SIOOBE_FORMATTER" "Ljava/util/function/BiFunction;" .null A U U.heap ∨ va_Z "jdk/internal/util/Preconditions" "SIOOBE_FORMATTER" "Ljava/util/function/BiFunction;" (.ref (ad 1200)) A U U.heap) ∧
  va_Nw (.fieldLinkNest "LateSeekers$Park" 43 "LateSeekers" "LAW_AT_FIRST" "[I" "LateSeekers") U ∧ va_Nw (.fieldLinkNest "LateSeekers$TapeReader" 91 "LateSeekers" "LAW_MOST" "[I" "LateSeekers") U
/-- at a later state of the same run -/
theorem RO.later {ad : Nat → Nat} {A B : Nat → Prop} {s U : State} {H : Heap} {locs : List Loc} (h : RO ad A s) (hS : va_S A s.heap H locs) (hU : U.heap = H) (hW : s.WarmedH U.vm) (hB : ∀ q, B q → A q) : RO ad B U := by
  obtain ⟨h1, h2, h3, h4, h5, h6, h7⟩ := h
  have hv := hW.alike
  subst hU
  refine ⟨fun j hj => ⟨((va_Z.moved hv (h1 j hj).1).kept hS.2.1).narrow hB, ((va_T.moved hv (h1 j hj).2).kept hS.2.1).narrow hB⟩, ((vk_S.moved hv h2).kept hS.2.1).narrow hB, fun i hi => (h3 i hi).warm hW, ((va_Z.moved hv h4).kept hS.2.1).narrow hB, ?_, va_Nw.warmF hW h6, va_Nw.warmF hW h7⟩
  rcases h5 with h | h
  · exact Or.inl (((va_Z.moved hv h).kept hS.2.1).narrow hB)
  · exact Or.inr (((va_Z.moved hv h).kept hS.2.1).narrow hB)
theorem RO.calling {ad : Nat → Nat} {A : Nat → Prop} {U : State} (g : JFrame) (mk : MethodId) (a : Array Value) (h : RO ad A U) : RO ad A (U.calling g mk a) := by
  obtain ⟨h1, h2, h3, h4, h5, h6, h7⟩ := h
  have hv : U.vm.Alike (U.calling g mk a).vm := Vm.Alike.refl U.vm
  refine ⟨fun j hj => ⟨va_Z.moved hv (h1 j hj).1, va_T.moved hv (h1 j hj).2⟩, vk_S.moved hv h2, fun i hi => (h3 i hi).same rfl, va_Z.moved hv h4, ?_, va_Nw.same rfl rfl h6, va_Nw.same rfl rfl h7⟩
  rcases h5 with h | h
  · exact Or.inl (va_Z.moved hv h)
  · exact Or.inr (va_Z.moved hv h)
theorem RO.re {ad ad' : Nat → Nat} {A : Nat → Prop} {U : State} (h : RO ad A U) (he : ∀ k, 900 ≤ k → ad' k = ad k) : RO ad' A U := by
  obtain ⟨h1, h2, h3, h4, h5, h6, h7⟩ := h
  refine ⟨fun j hj => ?_, ⟨fun i hi => ?_, fun i j hi hj e => ?_⟩, fun i hi => ?_, h4, ?_, h6, h7⟩
  · rw [he (900 + j) (by omega)]; exact h1 j hj
  · have := h2.1 i hi
    show va_O _ (ad' (1000 + i)) A U U.heap ∧ va_OF _ _ _ _ (ad' (1000 + i)) A U U.heap ∧ va_OF _ _ _ (.ref (ad' (1100 + i))) (ad' (1000 + i)) A U U.heap ∧ va_T _ (ad' (1100 + i)) _ _ A U U.heap
    rw [he (1000 + i) (by omega), he (1100 + i) (by omega)]
    exact this
  · have e1 : ad' (1000 + i) = ad' (1000 + j) := e
    rw [he (1000 + i) (by omega), he (1000 + j) (by omega)] at e1
    exact h2.2 i j hi hj e1
  · rw [he (1000 + i) (by omega)]; exact h3 i hi
  · rw [he 1200 (by omega)]; exact h5
-- locals by their places
def clr (L : List (Option Value)) : Nat → List (Option Value)
  | 0 => L
  | j + 1 => match L[j]? with
    | some (some (.long _)) => L.set j none
    | some (some (.double _)) => L.set j none
    | _ => L
def st1 (L : List (Option Value)) (i : Nat) (v : Value) : List (Option Value) := (clr L i).set i (some v)
def st2 (L : List (Option Value)) (i : Nat) (v : Value) : List (Option Value) := ((clr L i).set i (some v)).set (i + 1) none
def ent (as : List Value) (n : Nat) : List (Option Value) := let l := as.flatMap (fun v => match v with
    | .long z => [some (.long z), none]
    | .double z => [some (.double z), none]
    | w => [some w]); l ++ List.replicate (n - l.length) none
def lh (ls : Array Slot) (nL : Nat) (ad : Nat → Nat) (L : List (Option Value)) : Prop := ls.size = nL ∧ lv_wf ls ∧ ∀ (i : Nat) (v : Value), L[i]? = some (some v) → ls[i]? = some (.val (cv ad v))
def prs (ad : Nat → Nat) : Nat → List (Option Value) → List (Nat × Value)
  | _, [] => []
  | i, none :: r => prs ad (i + 1) r
  | i, some v :: r => (i, cv ad v) :: prs ad (i + 1) r
theorem prs_mem (ad : Nat → Nat) : ∀ (L : List (Option Value)) (i : Nat) (q : Nat × Value), q ∈ prs ad i L ↔ ∃ (k : Nat) (v : Value), L[k]? = some (some v) ∧ q = (i + k, cv ad v) := by
  intro L
  induction L with
  | nil => intro i q; simp [prs]
  | cons f r ih =>
    intro i q
    have aux : (∃ (k : Nat) (v : Value), r[k]? = some (some v) ∧ q = (i + 1 + k, cv ad v)) ↔ ∃ (k : Nat) (v : Value), (f :: r)[k + 1]? = some (some v) ∧ q = (i + (k + 1), cv ad v) := by
      constructor
      · rintro ⟨k, v, h1, h2⟩; exact ⟨k, v, by simpa using h1, by rw [h2, show i + (k + 1) = i + 1 + k by omega]⟩
      · rintro ⟨k, v, h1, h2⟩; exact ⟨k, v, by simpa using h1, by rw [h2, show i + (k + 1) = i + 1 + k by omega]⟩
    cases f with
    | none =>
      rw [prs, ih, aux]
      constructor
      · rintro ⟨k, v, h1, h2⟩; exact ⟨k + 1, v, h1, h2⟩
      · rintro ⟨k, v, h1, h2⟩
        cases k with
        | zero => simp at h1
        | succ k => exact ⟨k, v, h1, h2⟩
    | some w =>
      rw [prs, List.mem_cons, ih, aux]
      constructor
      · rintro (h | ⟨k, v, h1, h2⟩)
        · exact ⟨0, w, rfl, by rw [h]; simp⟩
        · exact ⟨k + 1, v, h1, h2⟩
      · rintro ⟨k, v, h1, h2⟩
        cases k with
        | zero =>
          have : w = v := by simpa using h1
          subst this
          exact Or.inl (by rw [h2]; simp)
        | succ k => exact Or.inr ⟨k, v, h1, h2⟩
theorem lh_pairs {ls : Array Slot} {nL : Nat} {ad : Nat → Nat} {L : List (Option Value)} (h : lh ls nL ad L) : lv_has ls nL (prs ad 0 L) := by
  refine ⟨h.1, h.2.1, fun q hq => ?_⟩
  obtain ⟨k, v, h1, h2⟩ := (prs_mem ad L 0 q).mp hq
  rw [h2]
  simpa using h.2.2 k v h1
theorem lh_at {ls : Array Slot} {nL : Nat} {ad : Nat → Nat} {L : List (Option Value)} (h : lh ls nL ad L) {i : Nat} {v : Value} (hi : L[i]? = some (some v)) : ls[i]? = some (.val (cv ad v)) := h.2.2 i v hi
theorem set_some {L : List (Option Value)} {j i : Nat} {o : Option Value} {w : Value} (h : (L.set i o)[j]? = some (some w)) : (j = i ∧ o = some w) ∨ (j ≠ i ∧ L[j]? = some (some w)) := by
  rw [List.getElem?_set] at h
  by_cases e : i = j
  · subst e
    rw [if_pos rfl] at h
    by_cases hl : i < L.length
    · rw [if_pos hl] at h
      exact Or.inl ⟨rfl, Option.some.inj h⟩
    · rw [if_neg hl] at h; cases h
  · rw [if_neg e] at h
    exact Or.inr ⟨fun q => e q.symm, h⟩
theorem clr_some {L : List (Option Value)} {i j : Nat} {w : Value} (h : (clr L i)[j]? = some (some w)) : L[j]? = some (some w) ∧ ¬ (j + 1 = i ∧ w.category = 2) := by
  cases i with
  | zero => exact ⟨h, fun q => by omega⟩
  | succ i =>
    have base : ∀ v : Value, L[i]? = some (some v) → v.category = 2 → clr L (i + 1) = L.set i none := by
      intro v hv hc
      show (match L[i]? with
        | some (some (.long _)) => L.set i none
        | some (some (.double _)) => L.set i none
        | _ => L) = _
      rw [hv]
      cases v <;> simp [Value.category] at hc <;> rfl
    by_cases hb : ∃ v : Value, L[i]? = some (some v) ∧ v.category = 2
    · obtain ⟨v, hv, hc⟩ := hb
      rw [base v hv hc] at h
      rcases set_some h with ⟨_, h2⟩ | ⟨h1, h2⟩
      · cases h2
      · exact ⟨h2, fun q => h1 (by omega)⟩
    · have e : clr L (i + 1) = L := by
        show (match L[i]? with
          | some (some (.long _)) => L.set i none
          | some (some (.double _)) => L.set i none
          | _ => L) = _
        split
        · rename_i z hz; exact absurd ⟨_, hz, rfl⟩ hb
        · rename_i z hz; exact absurd ⟨_, hz, rfl⟩ hb
        · rfl
      rw [e] at h
      refine ⟨h, fun q => hb ⟨w, ?_, q.2⟩⟩
      have : j = i := by omega
      rw [← this]; exact h
theorem lh_st1 {ls' : Array Slot} {nL i : Nat} {ad : Nat → Nat} {L L' : List (Option Value)} {v : Value} (h' : lv_has ls' nL ((i, cv ad v) :: (prs ad 0 L).filter (fun q => !(q.1 == i) && !(q.1 + 1 == i && q.2.category == 2)))) (hL : st1 L i v = L') : lh ls' nL ad L' := by
  subst hL
  refine ⟨h'.1, h'.2.1, fun j w hj => ?_⟩
  rcases set_some hj with ⟨h1, h2⟩ | ⟨h1, h2⟩
  · cases h2; subst h1
    exact h'.2.2 _ List.mem_cons_self
  · obtain ⟨h3, h4⟩ := clr_some h2
    refine h'.2.2 (j, cv ad w) (List.mem_cons_of_mem _ (List.mem_filter.mpr ⟨(prs_mem ad L 0 _).mpr ⟨j, w, h3, by simp⟩, ?_⟩))
    rw [cv_cat]
    by_cases e : j + 1 = i
    · have : ¬ w.category = 2 := fun q => h4 ⟨e, q⟩
      simp [h1, this]
    · simp [h1, e]
theorem lh_st2 {ls' : Array Slot} {nL i : Nat} {ad : Nat → Nat} {L L' : List (Option Value)} {v : Value} (h' : lv_has ls' nL ((i, cv ad v) :: (prs ad 0 L).filter (fun q => !(q.1 == i) && (!(q.1 == i + 1) && !(q.1 + 1 == i && q.2.category == 2))))) (hL : st2 L i v = L') : lh ls' nL ad L' := by
  subst hL
  refine ⟨h'.1, h'.2.1, fun j w hj => ?_⟩
  rcases set_some hj with ⟨_, h2⟩ | ⟨h0, hj⟩
  · cases h2
  rcases set_some hj with ⟨h1, h2⟩ | ⟨h1, h2⟩
  · cases h2; subst h1
    exact h'.2.2 _ List.mem_cons_self
  · obtain ⟨h3, h4⟩ := clr_some h2
    refine h'.2.2 (j, cv ad w) (List.mem_cons_of_mem _ (List.mem_filter.mpr ⟨(prs_mem ad L 0 _).mpr ⟨j, w, h3, by simp⟩, ?_⟩))
    rw [cv_cat]
    by_cases e : j + 1 = i
    · have : ¬ w.category = 2 := fun q => h4 ⟨e, q⟩
      simp [h1, h0, this]
    · simp [h1, h0, e]
/-- fewer listed locals -/
def leL : List (Option Value) → List (Option Value) → Prop
  | [], _ => True
  | none :: a, [] => leL a []
  | none :: a, _ :: b => leL a b
  | some _ :: _, [] => False
  | some v :: a, w :: b => w = some v ∧ leL a b
theorem leL_at : ∀ (L M : List (Option Value)), leL L M → ∀ (i : Nat) (v : Value), L[i]? = some (some v) → M[i]? = some (some v) := by
  intro L
  induction L with
  | nil => intro M _ i v h; simp at h
  | cons f r ih =>
    intro M h i v hv
    cases f with
    | none =>
      cases i with
      | zero => simp at hv
      | succ i =>
        cases M with
        | nil => have := ih [] h i v (by simpa using hv); simp at this
        | cons w b => have := ih b h i v (by simpa using hv); simpa using this
    | some u =>
      cases M with
      | nil => exact h.elim
      | cons w b =>
        obtain ⟨h1, h2⟩ := h
        cases i with
        | zero => simp at hv; subst hv; simp [h1]
        | succ i => have := ih b h2 i v (by simpa using hv); simpa using this
theorem lh_sub {ls : Array Slot} {nL : Nat} {ad : Nat → Nat} {L M : List (Option Value)} (h : lh ls nL ad M) (hs : leL L M) : lh ls nL ad L := ⟨h.1, h.2.1, fun i v hv => h.2.2 i v (leL_at L M hs i v hv)⟩
theorem ent_args (ad : Nat → Nat) : ∀ (as : List Value) (i : Nat), ∀ (k : Nat) (v : Value), (as.flatMap (fun v => match v with
    | .long z => [some (.long z), none]
    | .double z => [some (.double z), none]
    | w => [some w]))[k]? = some (some v) → (i + k, cv ad v) ∈ lv_args i (as.map (cv ad)) := by
  intro as
  induction as with
  | nil => intro i k v h; simp at h
  | cons a r ih =>
    intro i k v h
    have one : ∀ (w : Value), w.category = 1 → (some w :: r.flatMap (fun v => match v with
        | .long z => [some (.long z), none]
        | .double z => [some (.double z), none]
        | w => [some w]))[k]? = some (some v) → (i + k, cv ad v) ∈ lv_args i (cv ad w :: r.map (cv ad)) := by
      intro w hw h
      have hc : ¬ (cv ad w).category = 2 := by rw [cv_cat, hw]; decide
      cases k with
      | zero =>
        have : w = v := by simpa using h
        subst this
        exact List.mem_cons_self
      | succ k =>
        have := ih (i + 1) k v (by simpa using h)
        refine List.mem_cons_of_mem _ ?_
        rw [if_neg hc, show i + (k + 1) = i + 1 + k by omega]
        exact this
    have two : ∀ (w : Value), w.category = 2 → (some w :: none :: r.flatMap (fun v => match v with
        | .long z => [some (.long z), none]
        | .double z => [some (.double z), none]
        | w => [some w]))[k]? = some (some v) → (i + k, cv ad v) ∈ lv_args i (cv ad w :: r.map (cv ad)) := by
      intro w hw h
      have hc : (cv ad w).category = 2 := by rw [cv_cat, hw]
      match k, h with
      | 0, h =>
        have : w = v := by simpa using h
        subst this
        exact List.mem_cons_self
      | 1, h => simp at h
      | k + 2, h =>
        have := ih (i + 2) k v (by simpa using h)
        refine List.mem_cons_of_mem _ ?_
        rw [if_pos hc, show i + (k + 2) = i + 2 + k by omega]
        exact this
    cases a with
    | long z => exact two _ rfl h
    | double z => exact two _ rfl h
    | int z => exact one _ rfl h
    | float z => exact one _ rfl h
    | null => exact one _ rfl h
    | ref z => exact one _ rfl h
    | retAddr z => exact one _ rfl h
theorem lh_ent {ls : Array Slot} {n : Nat} {ad : Nat → Nat} {as : List Value} (h : lv_has ls n (lv_args 0 (as.map (cv ad)))) : lh ls n ad (ent as n) := by
  refine ⟨h.1, h.2.1, fun i v hv => ?_⟩
  have hm : (0 + i, cv ad v) ∈ lv_args 0 (as.map (cv ad)) := by
    apply ent_args
    unfold ent at hv
    rw [List.getElem?_append] at hv
    split at hv
    · exact hv
    · rw [List.getElem?_replicate] at hv
      split at hv <;> simp at hv
  have := h.2.2 _ hm
  simpa using this
end
section
/-! THE JUDGEMENT: a method by name, code, locals, answer's type; its machine; G: from here the machine comes to its end -/
abbrev Mt : Type := MethodName × ByteArray × Nat × Option FieldType
abbrev MC : Type := Lay × Mt × Nat
abbrev CX : Type := (Program × Launch × Env × Room) × (State × MethodId × Array Value × List Frame) × (Method × Code × (State → Prop)) × ((Nat → ClassId) × (Nat → Nat → Nat) × ClassId × ClassId) × ((Nat → Nat) × (Nat → Prop) × Nat × Nat)
abbrev tyl (cI cB : ClassId) : List (ClassId × FieldType) := [(cI, .int), (cB, .byte)]
def Ok (Γ : MC) (X : CX) : Prop := match X with
  | ((p, _, _, R), (s, m, args, _), (_, c, _), (dC, dI, cI, cB), (ad, A, cells, slots)) =>
    p.tables.exec = Jvm.exec ∧ c.code = Γ.2.1.2.1 ∧ c.maxLocals = Γ.2.1.2.2.1 ∧ s.vm.findClass Γ.2.1.1.cls = some m.cls ∧ (∀ w ∈ tb, w.before args s = true) ∧ va_K (dC, dI) classes (tyl cI cB) s ∧ Ap Γ.1 ad ∧ (∀ k, k < Γ.1.length → A (ad k)) ∧ RO ad A s ∧ Γ.2.2 ≤ R.frames ∧ 40 * Γ.2.2 ≤ R.locals ∧ cells ≤ R.cells ∧ slots ≤ R.slots
def G (Γ : MC) (X : CX) (σ : Store) (L : List (Option Value)) (st : List Value) (pc : Nat) : Prop := match X with
  | ((p, l, e, R), (s, m, args, below), (meth, c, Q), (dC, dI, cI, cB), (ad, A, cells, slots)) =>
    Ok Γ X → ∀ (H : Heap) (locs : List Loc) (ls : Array Slot), va_P (dC, dI) classes (wr cI cB ad σ 0 Γ.1) H → va_S A s.heap H locs → lh ls Γ.2.1.2.2.1 ad L →
      W p l e R s m args below meth c H locs cells slots Q (F0 m pc ls (st.map (cv ad)))
section GL
variable {Γ : MC} {X : CX} {σ : Store} {L L' : List (Option Value)} {st : List Value} {pc : Nat}
theorem g_sub (hs : leL L' L) (k : G Γ X σ L' st pc) : G Γ X σ L st pc := by
  obtain ⟨⟨p, l, e, R⟩, ⟨s, m, args, below⟩, ⟨meth, c, Q⟩, ⟨dC, dI, cI, cB⟩, ⟨ad, A, cells, slots⟩⟩ := X
  intro ok H locs ls hP hS hl
  exact k ok H locs ls hP hS (lh_sub hl hs)
theorem g_eq {σ' : Store} {st' : List Value} (h1 : σ = σ') (h2 : L = L') (h3 : st = st') (k : G Γ X σ' L' st' pc) : G Γ X σ L st pc := by
  subst h1; subst h2; subst h3; exact k
theorem g_iconst {n : Int} {v : Int32} (hd : decode Γ.2.1.2.1 pc = .ok (.iconst n, 1)) (hv : Int32.ofInt n = v) (k : G Γ X σ L (.int v :: st) (pc + 1)) : G Γ X σ L (st) pc := by
  obtain ⟨⟨p, l, e, R⟩, ⟨s, m, args, below⟩, ⟨meth, c, Q⟩, ⟨dC, dI, cI, cB⟩, ⟨ad, A, cells, slots⟩⟩ := X
  intro ok H locs ls hP hS hl
  have hk := k ok H locs ls hP hS hl
  obtain ⟨hx, hb, -⟩ := ok
  exact lv_iconst hx hb hd hv hk
theorem g_bipush {n : Int} {v : Int32} (hd : decode Γ.2.1.2.1 pc = .ok (.bipush n, 2)) (hv : (Int8.ofInt n).toInt32 = v) (k : G Γ X σ L (.int v :: st) (pc + 2)) : G Γ X σ L (st) pc := by
  obtain ⟨⟨p, l, e, R⟩, ⟨s, m, args, below⟩, ⟨meth, c, Q⟩, ⟨dC, dI, cI, cB⟩, ⟨ad, A, cells, slots⟩⟩ := X
  intro ok H locs ls hP hS hl
  have hk := k ok H locs ls hP hS hl
  obtain ⟨hx, hb, -⟩ := ok
  exact lv_bipush hx hb hd hv hk
theorem g_sipush {n : Int} {v : Int32} (hd : decode Γ.2.1.2.1 pc = .ok (.sipush n, 3)) (hv : (Int16.ofInt n).toInt32 = v) (k : G Γ X σ L (.int v :: st) (pc + 3)) : G Γ X σ L (st) pc := by
  obtain ⟨⟨p, l, e, R⟩, ⟨s, m, args, below⟩, ⟨meth, c, Q⟩, ⟨dC, dI, cI, cB⟩, ⟨ad, A, cells, slots⟩⟩ := X
  intro ok H locs ls hP hS hl
  have hk := k ok H locs ls hP hS hl
  obtain ⟨hx, hb, -⟩ := ok
  exact lv_sipush hx hb hd hv hk
theorem g_lconst {n : Fin 2} {v : Int64} (hd : decode Γ.2.1.2.1 pc = .ok (.lconst n, 1)) (hv : Int64.ofNat (n : Nat) = v) (k : G Γ X σ L (.long v :: st) (pc + 1)) : G Γ X σ L (st) pc := by
  obtain ⟨⟨p, l, e, R⟩, ⟨s, m, args, below⟩, ⟨meth, c, Q⟩, ⟨dC, dI, cI, cB⟩, ⟨ad, A, cells, slots⟩⟩ := X
  intro ok H locs ls hP hS hl
  have hk := k ok H locs ls hP hS hl
  obtain ⟨hx, hb, -⟩ := ok
  exact lv_lconst hx hb hd hv hk
theorem g_iload_n {i : Fin 4} {v : Int32} (hd : decode Γ.2.1.2.1 pc = .ok (.iload_n i, 1)) (h : L[(i : Nat)]? = some (some (.int v))) (k : G Γ X σ L (.int v :: st) (pc + 1)) : G Γ X σ L (st) pc := by
  obtain ⟨⟨p, l, e, R⟩, ⟨s, m, args, below⟩, ⟨meth, c, Q⟩, ⟨dC, dI, cI, cB⟩, ⟨ad, A, cells, slots⟩⟩ := X
  intro ok H locs ls hP hS hl
  have hk := k ok H locs ls hP hS hl
  obtain ⟨hx, hb, -⟩ := ok
  exact lv_iload_n hx hb hd rfl (lh_at hl h) hk
theorem g_iload {i : Nat} {v : Int32} (hd : decode Γ.2.1.2.1 pc = .ok (.iload i, 2)) (h : L[i]? = some (some (.int v))) (k : G Γ X σ L (.int v :: st) (pc + 2)) : G Γ X σ L (st) pc := by
  obtain ⟨⟨p, l, e, R⟩, ⟨s, m, args, below⟩, ⟨meth, c, Q⟩, ⟨dC, dI, cI, cB⟩, ⟨ad, A, cells, slots⟩⟩ := X
  intro ok H locs ls hP hS hl
  have hk := k ok H locs ls hP hS hl
  obtain ⟨hx, hb, -⟩ := ok
  exact lv_iload hx hb hd (lh_at hl h) hk
theorem g_lload_n {i : Fin 4} {v : Int64} (hd : decode Γ.2.1.2.1 pc = .ok (.lload_n i, 1)) (h : L[(i : Nat)]? = some (some (.long v))) (k : G Γ X σ L (.long v :: st) (pc + 1)) : G Γ X σ L (st) pc := by
  obtain ⟨⟨p, l, e, R⟩, ⟨s, m, args, below⟩, ⟨meth, c, Q⟩, ⟨dC, dI, cI, cB⟩, ⟨ad, A, cells, slots⟩⟩ := X
  intro ok H locs ls hP hS hl
  have hk := k ok H locs ls hP hS hl
  obtain ⟨hx, hb, -⟩ := ok
  exact lv_lload_n hx hb hd rfl (lh_at hl h) hk
theorem g_lload {i : Nat} {v : Int64} (hd : decode Γ.2.1.2.1 pc = .ok (.lload i, 2)) (h : L[i]? = some (some (.long v))) (k : G Γ X σ L (.long v :: st) (pc + 2)) : G Γ X σ L (st) pc := by
  obtain ⟨⟨p, l, e, R⟩, ⟨s, m, args, below⟩, ⟨meth, c, Q⟩, ⟨dC, dI, cI, cB⟩, ⟨ad, A, cells, slots⟩⟩ := X
  intro ok H locs ls hP hS hl
  have hk := k ok H locs ls hP hS hl
  obtain ⟨hx, hb, -⟩ := ok
  exact lv_lload hx hb hd (lh_at hl h) hk
theorem g_aload_n {i : Fin 4} {v : Nat} (hd : decode Γ.2.1.2.1 pc = .ok (.aload_n i, 1)) (h : L[(i : Nat)]? = some (some (.ref v))) (k : G Γ X σ L (.ref v :: st) (pc + 1)) : G Γ X σ L (st) pc := by
  obtain ⟨⟨p, l, e, R⟩, ⟨s, m, args, below⟩, ⟨meth, c, Q⟩, ⟨dC, dI, cI, cB⟩, ⟨ad, A, cells, slots⟩⟩ := X
  intro ok H locs ls hP hS hl
  have hk := k ok H locs ls hP hS hl
  obtain ⟨hx, hb, -⟩ := ok
  exact lv_aload_n hx hb hd rfl (lh_at hl h) hk
theorem g_aload {i : Nat} {v : Nat} (hd : decode Γ.2.1.2.1 pc = .ok (.aload i, 2)) (h : L[i]? = some (some (.ref v))) (k : G Γ X σ L (.ref v :: st) (pc + 2)) : G Γ X σ L (st) pc := by
  obtain ⟨⟨p, l, e, R⟩, ⟨s, m, args, below⟩, ⟨meth, c, Q⟩, ⟨dC, dI, cI, cB⟩, ⟨ad, A, cells, slots⟩⟩ := X
  intro ok H locs ls hP hS hl
  have hk := k ok H locs ls hP hS hl
  obtain ⟨hx, hb, -⟩ := ok
  exact lv_aload hx hb hd (lh_at hl h) hk
theorem g_iadd {x y : Int32} (hd : decode Γ.2.1.2.1 pc = .ok (.iadd, 1)) (k : G Γ X σ L (.int (x + y) :: st) (pc + 1)) : G Γ X σ L (.int y :: .int x :: st) pc := by
  obtain ⟨⟨p, l, e, R⟩, ⟨s, m, args, below⟩, ⟨meth, c, Q⟩, ⟨dC, dI, cI, cB⟩, ⟨ad, A, cells, slots⟩⟩ := X
  intro ok H locs ls hP hS hl
  have hk := k ok H locs ls hP hS hl
  obtain ⟨hx, hb, -⟩ := ok
  exact lv_iadd hx hb hd hk
theorem g_isub {x y : Int32} (hd : decode Γ.2.1.2.1 pc = .ok (.isub, 1)) (k : G Γ X σ L (.int (x - y) :: st) (pc + 1)) : G Γ X σ L (.int y :: .int x :: st) pc := by
  obtain ⟨⟨p, l, e, R⟩, ⟨s, m, args, below⟩, ⟨meth, c, Q⟩, ⟨dC, dI, cI, cB⟩, ⟨ad, A, cells, slots⟩⟩ := X
  intro ok H locs ls hP hS hl
  have hk := k ok H locs ls hP hS hl
  obtain ⟨hx, hb, -⟩ := ok
  exact lv_isub hx hb hd hk
theorem g_imul {x y : Int32} (hd : decode Γ.2.1.2.1 pc = .ok (.imul, 1)) (k : G Γ X σ L (.int (x * y) :: st) (pc + 1)) : G Γ X σ L (.int y :: .int x :: st) pc := by
  obtain ⟨⟨p, l, e, R⟩, ⟨s, m, args, below⟩, ⟨meth, c, Q⟩, ⟨dC, dI, cI, cB⟩, ⟨ad, A, cells, slots⟩⟩ := X
  intro ok H locs ls hP hS hl
  have hk := k ok H locs ls hP hS hl
  obtain ⟨hx, hb, -⟩ := ok
  exact lv_imul hx hb hd hk
theorem g_iand {x y : Int32} (hd : decode Γ.2.1.2.1 pc = .ok (.iand, 1)) (k : G Γ X σ L (.int (x &&& y) :: st) (pc + 1)) : G Γ X σ L (.int y :: .int x :: st) pc := by
  obtain ⟨⟨p, l, e, R⟩, ⟨s, m, args, below⟩, ⟨meth, c, Q⟩, ⟨dC, dI, cI, cB⟩, ⟨ad, A, cells, slots⟩⟩ := X
  intro ok H locs ls hP hS hl
  have hk := k ok H locs ls hP hS hl
  obtain ⟨hx, hb, -⟩ := ok
  exact lv_iand hx hb hd hk
theorem g_ior {x y : Int32} (hd : decode Γ.2.1.2.1 pc = .ok (.ior, 1)) (k : G Γ X σ L (.int (x ||| y) :: st) (pc + 1)) : G Γ X σ L (.int y :: .int x :: st) pc := by
  obtain ⟨⟨p, l, e, R⟩, ⟨s, m, args, below⟩, ⟨meth, c, Q⟩, ⟨dC, dI, cI, cB⟩, ⟨ad, A, cells, slots⟩⟩ := X
  intro ok H locs ls hP hS hl
  have hk := k ok H locs ls hP hS hl
  obtain ⟨hx, hb, -⟩ := ok
  exact lv_ior hx hb hd hk
theorem g_ixor {x y : Int32} (hd : decode Γ.2.1.2.1 pc = .ok (.ixor, 1)) (k : G Γ X σ L (.int (x ^^^ y) :: st) (pc + 1)) : G Γ X σ L (.int y :: .int x :: st) pc := by
  obtain ⟨⟨p, l, e, R⟩, ⟨s, m, args, below⟩, ⟨meth, c, Q⟩, ⟨dC, dI, cI, cB⟩, ⟨ad, A, cells, slots⟩⟩ := X
  intro ok H locs ls hP hS hl
  have hk := k ok H locs ls hP hS hl
  obtain ⟨hx, hb, -⟩ := ok
  exact lv_ixor hx hb hd hk
theorem g_idiv {x y : Int32} (hd : decode Γ.2.1.2.1 pc = .ok (.idiv, 1)) (hne : ¬ y = 0) (k : G Γ X σ L (.int (x / y) :: st) (pc + 1)) : G Γ X σ L (.int y :: .int x :: st) pc := by
  obtain ⟨⟨p, l, e, R⟩, ⟨s, m, args, below⟩, ⟨meth, c, Q⟩, ⟨dC, dI, cI, cB⟩, ⟨ad, A, cells, slots⟩⟩ := X
  intro ok H locs ls hP hS hl
  have hk := k ok H locs ls hP hS hl
  obtain ⟨hx, hb, -⟩ := ok
  exact lv_idiv hx hb hd hne hk
theorem g_irem {x y : Int32} (hd : decode Γ.2.1.2.1 pc = .ok (.irem, 1)) (hne : ¬ y = 0) (k : G Γ X σ L (.int (x - x / y * y) :: st) (pc + 1)) : G Γ X σ L (.int y :: .int x :: st) pc := by
  obtain ⟨⟨p, l, e, R⟩, ⟨s, m, args, below⟩, ⟨meth, c, Q⟩, ⟨dC, dI, cI, cB⟩, ⟨ad, A, cells, slots⟩⟩ := X
  intro ok H locs ls hP hS hl
  have hk := k ok H locs ls hP hS hl
  obtain ⟨hx, hb, -⟩ := ok
  exact lv_irem hx hb hd hne hk
theorem g_ladd {x y : Int64} (hd : decode Γ.2.1.2.1 pc = .ok (.ladd, 1)) (k : G Γ X σ L (.long (x + y) :: st) (pc + 1)) : G Γ X σ L (.long y :: .long x :: st) pc := by
  obtain ⟨⟨p, l, e, R⟩, ⟨s, m, args, below⟩, ⟨meth, c, Q⟩, ⟨dC, dI, cI, cB⟩, ⟨ad, A, cells, slots⟩⟩ := X
  intro ok H locs ls hP hS hl
  have hk := k ok H locs ls hP hS hl
  obtain ⟨hx, hb, -⟩ := ok
  exact lv_ladd hx hb hd hk
theorem g_lsub {x y : Int64} (hd : decode Γ.2.1.2.1 pc = .ok (.lsub, 1)) (k : G Γ X σ L (.long (x - y) :: st) (pc + 1)) : G Γ X σ L (.long y :: .long x :: st) pc := by
  obtain ⟨⟨p, l, e, R⟩, ⟨s, m, args, below⟩, ⟨meth, c, Q⟩, ⟨dC, dI, cI, cB⟩, ⟨ad, A, cells, slots⟩⟩ := X
  intro ok H locs ls hP hS hl
  have hk := k ok H locs ls hP hS hl
  obtain ⟨hx, hb, -⟩ := ok
  exact lv_lsub hx hb hd hk
theorem g_lmul {x y : Int64} (hd : decode Γ.2.1.2.1 pc = .ok (.lmul, 1)) (k : G Γ X σ L (.long (x * y) :: st) (pc + 1)) : G Γ X σ L (.long y :: .long x :: st) pc := by
  obtain ⟨⟨p, l, e, R⟩, ⟨s, m, args, below⟩, ⟨meth, c, Q⟩, ⟨dC, dI, cI, cB⟩, ⟨ad, A, cells, slots⟩⟩ := X
  intro ok H locs ls hP hS hl
  have hk := k ok H locs ls hP hS hl
  obtain ⟨hx, hb, -⟩ := ok
  exact lv_lmul hx hb hd hk
theorem g_land {x y : Int64} (hd : decode Γ.2.1.2.1 pc = .ok (.land, 1)) (k : G Γ X σ L (.long (x &&& y) :: st) (pc + 1)) : G Γ X σ L (.long y :: .long x :: st) pc := by
  obtain ⟨⟨p, l, e, R⟩, ⟨s, m, args, below⟩, ⟨meth, c, Q⟩, ⟨dC, dI, cI, cB⟩, ⟨ad, A, cells, slots⟩⟩ := X
  intro ok H locs ls hP hS hl
  have hk := k ok H locs ls hP hS hl
  obtain ⟨hx, hb, -⟩ := ok
  exact lv_land hx hb hd hk
theorem g_lor {x y : Int64} (hd : decode Γ.2.1.2.1 pc = .ok (.lor, 1)) (k : G Γ X σ L (.long (x ||| y) :: st) (pc + 1)) : G Γ X σ L (.long y :: .long x :: st) pc := by
  obtain ⟨⟨p, l, e, R⟩, ⟨s, m, args, below⟩, ⟨meth, c, Q⟩, ⟨dC, dI, cI, cB⟩, ⟨ad, A, cells, slots⟩⟩ := X
  intro ok H locs ls hP hS hl
  have hk := k ok H locs ls hP hS hl
  obtain ⟨hx, hb, -⟩ := ok
  exact lv_lor hx hb hd hk
theorem g_lxor {x y : Int64} (hd : decode Γ.2.1.2.1 pc = .ok (.lxor, 1)) (k : G Γ X σ L (.long (x ^^^ y) :: st) (pc + 1)) : G Γ X σ L (.long y :: .long x :: st) pc := by
  obtain ⟨⟨p, l, e, R⟩, ⟨s, m, args, below⟩, ⟨meth, c, Q⟩, ⟨dC, dI, cI, cB⟩, ⟨ad, A, cells, slots⟩⟩ := X
  intro ok H locs ls hP hS hl
  have hk := k ok H locs ls hP hS hl
  obtain ⟨hx, hb, -⟩ := ok
  exact lv_lxor hx hb hd hk
theorem g_ldiv {x y : Int64} (hd : decode Γ.2.1.2.1 pc = .ok (.ldiv, 1)) (hne : ¬ y = 0) (k : G Γ X σ L (.long (x / y) :: st) (pc + 1)) : G Γ X σ L (.long y :: .long x :: st) pc := by
  obtain ⟨⟨p, l, e, R⟩, ⟨s, m, args, below⟩, ⟨meth, c, Q⟩, ⟨dC, dI, cI, cB⟩, ⟨ad, A, cells, slots⟩⟩ := X
  intro ok H locs ls hP hS hl
  have hk := k ok H locs ls hP hS hl
  obtain ⟨hx, hb, -⟩ := ok
  exact lv_ldiv hx hb hd hne hk
theorem g_lrem {x y : Int64} (hd : decode Γ.2.1.2.1 pc = .ok (.lrem, 1)) (hne : ¬ y = 0) (k : G Γ X σ L (.long (x - x / y * y) :: st) (pc + 1)) : G Γ X σ L (.long y :: .long x :: st) pc := by
  obtain ⟨⟨p, l, e, R⟩, ⟨s, m, args, below⟩, ⟨meth, c, Q⟩, ⟨dC, dI, cI, cB⟩, ⟨ad, A, cells, slots⟩⟩ := X
  intro ok H locs ls hP hS hl
  have hk := k ok H locs ls hP hS hl
  obtain ⟨hx, hb, -⟩ := ok
  exact lv_lrem hx hb hd hne hk
theorem g_ineg {x : Int32} (hd : decode Γ.2.1.2.1 pc = .ok (.ineg, 1)) (k : G Γ X σ L (.int (-x) :: st) (pc + 1)) : G Γ X σ L (.int x :: st) pc := by
  obtain ⟨⟨p, l, e, R⟩, ⟨s, m, args, below⟩, ⟨meth, c, Q⟩, ⟨dC, dI, cI, cB⟩, ⟨ad, A, cells, slots⟩⟩ := X
  intro ok H locs ls hP hS hl
  have hk := k ok H locs ls hP hS hl
  obtain ⟨hx, hb, -⟩ := ok
  exact lv_ineg hx hb hd hk
theorem g_ishl {x y : Int32} (hd : decode Γ.2.1.2.1 pc = .ok (.ishl, 1)) (k : G Γ X σ L (.int (x <<< (y &&& 31)) :: st) (pc + 1)) : G Γ X σ L (.int y :: .int x :: st) pc := by
  obtain ⟨⟨p, l, e, R⟩, ⟨s, m, args, below⟩, ⟨meth, c, Q⟩, ⟨dC, dI, cI, cB⟩, ⟨ad, A, cells, slots⟩⟩ := X
  intro ok H locs ls hP hS hl
  have hk := k ok H locs ls hP hS hl
  obtain ⟨hx, hb, -⟩ := ok
  exact lv_ishl hx hb hd hk
theorem g_ishr {x y : Int32} (hd : decode Γ.2.1.2.1 pc = .ok (.ishr, 1)) (k : G Γ X σ L (.int (x >>> (y &&& 31)) :: st) (pc + 1)) : G Γ X σ L (.int y :: .int x :: st) pc := by
  obtain ⟨⟨p, l, e, R⟩, ⟨s, m, args, below⟩, ⟨meth, c, Q⟩, ⟨dC, dI, cI, cB⟩, ⟨ad, A, cells, slots⟩⟩ := X
  intro ok H locs ls hP hS hl
  have hk := k ok H locs ls hP hS hl
  obtain ⟨hx, hb, -⟩ := ok
  exact lv_ishr hx hb hd hk
theorem g_iushr {x y : Int32} (hd : decode Γ.2.1.2.1 pc = .ok (.iushr, 1)) (k : G Γ X σ L (.int (x.toUInt32 >>> (y.toUInt32 &&& Int32.toUInt32 31)).toInt32 :: st) (pc + 1)) : G Γ X σ L (.int y :: .int x :: st) pc := by
  obtain ⟨⟨p, l, e, R⟩, ⟨s, m, args, below⟩, ⟨meth, c, Q⟩, ⟨dC, dI, cI, cB⟩, ⟨ad, A, cells, slots⟩⟩ := X
  intro ok H locs ls hP hS hl
  have hk := k ok H locs ls hP hS hl
  obtain ⟨hx, hb, -⟩ := ok
  exact lv_iushr hx hb hd rfl hk
theorem g_lushr {x : Int64} {y : Int32} (hd : decode Γ.2.1.2.1 pc = .ok (.lushr, 1)) (k : G Γ X σ L (.long (x.toUInt64 >>> (y.toInt64.toUInt64 &&& Int64.toUInt64 63)).toInt64 :: st) (pc + 1)) : G Γ X σ L (.int y :: .long x :: st) pc := by
  obtain ⟨⟨p, l, e, R⟩, ⟨s, m, args, below⟩, ⟨meth, c, Q⟩, ⟨dC, dI, cI, cB⟩, ⟨ad, A, cells, slots⟩⟩ := X
  intro ok H locs ls hP hS hl
  have hk := k ok H locs ls hP hS hl
  obtain ⟨hx, hb, -⟩ := ok
  exact lv_lushr hx hb hd rfl hk
theorem g_lshl {x : Int64} {y : Int32} (hd : decode Γ.2.1.2.1 pc = .ok (.lshl, 1)) (k : G Γ X σ L (.long (x <<< (y.toInt64 &&& 63)) :: st) (pc + 1)) : G Γ X σ L (.int y :: .long x :: st) pc := by
  obtain ⟨⟨p, l, e, R⟩, ⟨s, m, args, below⟩, ⟨meth, c, Q⟩, ⟨dC, dI, cI, cB⟩, ⟨ad, A, cells, slots⟩⟩ := X
  intro ok H locs ls hP hS hl
  have hk := k ok H locs ls hP hS hl
  obtain ⟨hx, hb, -⟩ := ok
  exact lv_lshl hx hb hd rfl hk
theorem g_lshr {x : Int64} {y : Int32} (hd : decode Γ.2.1.2.1 pc = .ok (.lshr, 1)) (k : G Γ X σ L (.long (x >>> (y.toInt64 &&& 63)) :: st) (pc + 1)) : G Γ X σ L (.int y :: .long x :: st) pc := by
  obtain ⟨⟨p, l, e, R⟩, ⟨s, m, args, below⟩, ⟨meth, c, Q⟩, ⟨dC, dI, cI, cB⟩, ⟨ad, A, cells, slots⟩⟩ := X
  intro ok H locs ls hP hS hl
  have hk := k ok H locs ls hP hS hl
  obtain ⟨hx, hb, -⟩ := ok
  exact lv_lshr hx hb hd rfl hk
theorem g_i2l {x : Int32} (hd : decode Γ.2.1.2.1 pc = .ok (.i2l, 1)) (k : G Γ X σ L (.long x.toInt64 :: st) (pc + 1)) : G Γ X σ L (.int x :: st) pc := by
  obtain ⟨⟨p, l, e, R⟩, ⟨s, m, args, below⟩, ⟨meth, c, Q⟩, ⟨dC, dI, cI, cB⟩, ⟨ad, A, cells, slots⟩⟩ := X
  intro ok H locs ls hP hS hl
  have hk := k ok H locs ls hP hS hl
  obtain ⟨hx, hb, -⟩ := ok
  exact lv_i2l hx hb hd rfl hk
theorem g_l2i {x : Int64} (hd : decode Γ.2.1.2.1 pc = .ok (.l2i, 1)) (k : G Γ X σ L (.int x.toInt32 :: st) (pc + 1)) : G Γ X σ L (.long x :: st) pc := by
  obtain ⟨⟨p, l, e, R⟩, ⟨s, m, args, below⟩, ⟨meth, c, Q⟩, ⟨dC, dI, cI, cB⟩, ⟨ad, A, cells, slots⟩⟩ := X
  intro ok H locs ls hP hS hl
  have hk := k ok H locs ls hP hS hl
  obtain ⟨hx, hb, -⟩ := ok
  exact lv_l2i hx hb hd rfl hk
theorem g_i2b {x : Int32} (hd : decode Γ.2.1.2.1 pc = .ok (.i2b, 1)) (k : G Γ X σ L (.int x.toInt8.toInt32 :: st) (pc + 1)) : G Γ X σ L (.int x :: st) pc := by
  obtain ⟨⟨p, l, e, R⟩, ⟨s, m, args, below⟩, ⟨meth, c, Q⟩, ⟨dC, dI, cI, cB⟩, ⟨ad, A, cells, slots⟩⟩ := X
  intro ok H locs ls hP hS hl
  have hk := k ok H locs ls hP hS hl
  obtain ⟨hx, hb, -⟩ := ok
  exact lv_i2b hx hb hd rfl hk
theorem g_i2s {x : Int32} (hd : decode Γ.2.1.2.1 pc = .ok (.i2s, 1)) (k : G Γ X σ L (.int x.toInt16.toInt32 :: st) (pc + 1)) : G Γ X σ L (.int x :: st) pc := by
  obtain ⟨⟨p, l, e, R⟩, ⟨s, m, args, below⟩, ⟨meth, c, Q⟩, ⟨dC, dI, cI, cB⟩, ⟨ad, A, cells, slots⟩⟩ := X
  intro ok H locs ls hP hS hl
  have hk := k ok H locs ls hP hS hl
  obtain ⟨hx, hb, -⟩ := ok
  exact lv_i2s hx hb hd rfl hk
theorem g_i2c {x : Int32} (hd : decode Γ.2.1.2.1 pc = .ok (.i2c, 1)) (k : G Γ X σ L (.int (x.toUInt32 % 65536).toInt32 :: st) (pc + 1)) : G Γ X σ L (.int x :: st) pc := by
  obtain ⟨⟨p, l, e, R⟩, ⟨s, m, args, below⟩, ⟨meth, c, Q⟩, ⟨dC, dI, cI, cB⟩, ⟨ad, A, cells, slots⟩⟩ := X
  intro ok H locs ls hP hS hl
  have hk := k ok H locs ls hP hS hl
  obtain ⟨hx, hb, -⟩ := ok
  exact lv_i2c hx hb hd rfl hk
theorem g_lcmp {x y : Int64} (hd : decode Γ.2.1.2.1 pc = .ok (.lcmp, 1)) (k : G Γ X σ L (.int (lg_cmp x y) :: st) (pc + 1)) : G Γ X σ L (.long y :: .long x :: st) pc := by
  obtain ⟨⟨p, l, e, R⟩, ⟨s, m, args, below⟩, ⟨meth, c, Q⟩, ⟨dC, dI, cI, cB⟩, ⟨ad, A, cells, slots⟩⟩ := X
  intro ok H locs ls hP hS hl
  have hk := k ok H locs ls hP hS hl
  obtain ⟨hx, hb, -⟩ := ok
  exact W.lcmp hx hb hd hk
theorem g_dup {v : Value} (hd : decode Γ.2.1.2.1 pc = .ok (.dup, 1)) (hc : v.category = 1) (k : G Γ X σ L (v :: v :: st) (pc + 1)) : G Γ X σ L (v :: st) pc := by
  obtain ⟨⟨p, l, e, R⟩, ⟨s, m, args, below⟩, ⟨meth, c, Q⟩, ⟨dC, dI, cI, cB⟩, ⟨ad, A, cells, slots⟩⟩ := X
  intro ok H locs ls hP hS hl
  have hk := k ok H locs ls hP hS hl
  obtain ⟨hx, hb, -⟩ := ok
  exact lv_dup hx hb hd (by rw [cv_cat]; exact hc) hk
theorem g_pop {v : Value} (hd : decode Γ.2.1.2.1 pc = .ok (.pop, 1)) (hc : v.category = 1) (k : G Γ X σ L (st) (pc + 1)) : G Γ X σ L (v :: st) pc := by
  obtain ⟨⟨p, l, e, R⟩, ⟨s, m, args, below⟩, ⟨meth, c, Q⟩, ⟨dC, dI, cI, cB⟩, ⟨ad, A, cells, slots⟩⟩ := X
  intro ok H locs ls hP hS hl
  have hk := k ok H locs ls hP hS hl
  obtain ⟨hx, hb, -⟩ := ok
  exact lv_pop hx hb hd (by rw [cv_cat]; exact hc) hk
theorem g_dup_x1 {v w : Value} (hd : decode Γ.2.1.2.1 pc = .ok (.dup_x1, 1)) (hc : v.category = 1) (hc2 : w.category = 1) (k : G Γ X σ L (v :: w :: v :: st) (pc + 1)) : G Γ X σ L (v :: w :: st) pc := by
  obtain ⟨⟨p, l, e, R⟩, ⟨s, m, args, below⟩, ⟨meth, c, Q⟩, ⟨dC, dI, cI, cB⟩, ⟨ad, A, cells, slots⟩⟩ := X
  intro ok H locs ls hP hS hl
  have hk := k ok H locs ls hP hS hl
  obtain ⟨hx, hb, -⟩ := ok
  exact lv_dup_x1 hx hb hd (by rw [cv_cat]; exact hc) (by rw [cv_cat]; exact hc2) hk
theorem g_dup2 {v w : Value} (hd : decode Γ.2.1.2.1 pc = .ok (.dup2, 1)) (hc : v.category = 1) (hc2 : w.category = 1) (k : G Γ X σ L (v :: w :: v :: w :: st) (pc + 1)) : G Γ X σ L (v :: w :: st) pc := by
  obtain ⟨⟨p, l, e, R⟩, ⟨s, m, args, below⟩, ⟨meth, c, Q⟩, ⟨dC, dI, cI, cB⟩, ⟨ad, A, cells, slots⟩⟩ := X
  intro ok H locs ls hP hS hl
  have hk := k ok H locs ls hP hS hl
  obtain ⟨hx, hb, -⟩ := ok
  exact lv_dup2_11 hx hb hd (by rw [cv_cat]; exact hc) (by rw [cv_cat]; exact hc2) hk
theorem g_istore_n {i : Fin 4} {v : Int32} (hd : decode Γ.2.1.2.1 pc = .ok (.istore_n i, 1)) (hn : (i : Nat) < Γ.2.1.2.2.1) (hL : st1 L (i : Nat) (.int v) = L') (k : G Γ X σ L' st (pc + 1)) : G Γ X σ L (.int v :: st) pc := by
  obtain ⟨⟨p, l, e, R⟩, ⟨s, m, args, below⟩, ⟨meth, c, Q⟩, ⟨dC, dI, cI, cB⟩, ⟨ad, A, cells, slots⟩⟩ := X
  intro ok H locs ls hP hS hl
  have hk := fun ls hl => k ok H locs ls hP hS hl
  obtain ⟨hx, hb, -⟩ := ok
  exact lv_istore_n hx hb hd rfl (lh_pairs hl) hn rfl (fun ls' hl' => hk ls' (lh_st1 hl' hL))
theorem g_istore {i : Nat} {v : Int32} (hd : decode Γ.2.1.2.1 pc = .ok (.istore i, 2)) (hn : i < Γ.2.1.2.2.1) (hL : st1 L i (.int v) = L') (k : G Γ X σ L' st (pc + 2)) : G Γ X σ L (.int v :: st) pc := by
  obtain ⟨⟨p, l, e, R⟩, ⟨s, m, args, below⟩, ⟨meth, c, Q⟩, ⟨dC, dI, cI, cB⟩, ⟨ad, A, cells, slots⟩⟩ := X
  intro ok H locs ls hP hS hl
  have hk := fun ls hl => k ok H locs ls hP hS hl
  obtain ⟨hx, hb, -⟩ := ok
  exact lv_istore hx hb hd (lh_pairs hl) hn rfl (fun ls' hl' => hk ls' (lh_st1 hl' hL))
theorem g_lstore_n {i : Fin 4} {v : Int64} (hd : decode Γ.2.1.2.1 pc = .ok (.lstore_n i, 1)) (hn : (i : Nat) + 1 < Γ.2.1.2.2.1) (hL : st2 L (i : Nat) (.long v) = L') (k : G Γ X σ L' st (pc + 1)) : G Γ X σ L (.long v :: st) pc := by
  obtain ⟨⟨p, l, e, R⟩, ⟨s, m, args, below⟩, ⟨meth, c, Q⟩, ⟨dC, dI, cI, cB⟩, ⟨ad, A, cells, slots⟩⟩ := X
  intro ok H locs ls hP hS hl
  have hk := fun ls hl => k ok H locs ls hP hS hl
  obtain ⟨hx, hb, -⟩ := ok
  exact lv_lstore_n hx hb hd rfl (lh_pairs hl) hn rfl (fun ls' hl' => hk ls' (lh_st2 hl' hL))
theorem g_lstore {i : Nat} {v : Int64} (hd : decode Γ.2.1.2.1 pc = .ok (.lstore i, 2)) (hn : i + 1 < Γ.2.1.2.2.1) (hL : st2 L i (.long v) = L') (k : G Γ X σ L' st (pc + 2)) : G Γ X σ L (.long v :: st) pc := by
  obtain ⟨⟨p, l, e, R⟩, ⟨s, m, args, below⟩, ⟨meth, c, Q⟩, ⟨dC, dI, cI, cB⟩, ⟨ad, A, cells, slots⟩⟩ := X
  intro ok H locs ls hP hS hl
  have hk := fun ls hl => k ok H locs ls hP hS hl
  obtain ⟨hx, hb, -⟩ := ok
  exact lv_lstore hx hb hd (lh_pairs hl) hn rfl (fun ls' hl' => hk ls' (lh_st2 hl' hL))
theorem g_astore_n {i : Fin 4} {v : Nat} (hd : decode Γ.2.1.2.1 pc = .ok (.astore_n i, 1)) (hn : (i : Nat) < Γ.2.1.2.2.1) (hL : st1 L (i : Nat) (.ref v) = L') (k : G Γ X σ L' st (pc + 1)) : G Γ X σ L (.ref v :: st) pc := by
  obtain ⟨⟨p, l, e, R⟩, ⟨s, m, args, below⟩, ⟨meth, c, Q⟩, ⟨dC, dI, cI, cB⟩, ⟨ad, A, cells, slots⟩⟩ := X
  intro ok H locs ls hP hS hl
  have hk := fun ls hl => k ok H locs ls hP hS hl
  obtain ⟨hx, hb, -⟩ := ok
  exact lv_astore_n hx hb hd rfl (lh_pairs hl) hn rfl (fun ls' hl' => hk ls' (lh_st1 hl' hL))
theorem g_astore {i : Nat} {v : Nat} (hd : decode Γ.2.1.2.1 pc = .ok (.astore i, 2)) (hn : i < Γ.2.1.2.2.1) (hL : st1 L i (.ref v) = L') (k : G Γ X σ L' st (pc + 2)) : G Γ X σ L (.ref v :: st) pc := by
  obtain ⟨⟨p, l, e, R⟩, ⟨s, m, args, below⟩, ⟨meth, c, Q⟩, ⟨dC, dI, cI, cB⟩, ⟨ad, A, cells, slots⟩⟩ := X
  intro ok H locs ls hP hS hl
  have hk := fun ls hl => k ok H locs ls hP hS hl
  obtain ⟨hx, hb, -⟩ := ok
  exact lv_astore hx hb hd (lh_pairs hl) hn rfl (fun ls' hl' => hk ls' (lh_st1 hl' hL))
theorem g_iinc {i : Nat} {n : Int} {x v : Int32} (hd : decode Γ.2.1.2.1 pc = .ok (.iinc i n, 3)) (h : L[i]? = some (some (.int x))) (hv : x + Int32.ofInt n = v) (hn : i < Γ.2.1.2.2.1) (hL : st1 L i (.int v) = L') (k : G Γ X σ L' st (pc + 3)) : G Γ X σ L st pc := by
  obtain ⟨⟨p, l, e, R⟩, ⟨s, m, args, below⟩, ⟨meth, c, Q⟩, ⟨dC, dI, cI, cB⟩, ⟨ad, A, cells, slots⟩⟩ := X
  intro ok H locs ls hP hS hl
  have hk := fun ls hl => k ok H locs ls hP hS hl
  obtain ⟨hx, hb, -⟩ := ok
  obtain ⟨q, hq⟩ := List.getElem?_of_mem ((prs_mem ad L 0 (i, cv ad (.int x))).mpr ⟨i, _, h, by simp⟩)
  exact lv_iinc hx hb hd (lh_pairs hl) hq hv hn rfl (fun ls' hl' => hk ls' (lh_st1 hl' hL))
theorem g_if_eq {x : Int32} {off : Int} {tgt : Nat} (hd : decode Γ.2.1.2.1 pc = .ok (.ifCond .eq off, 3)) (ht : (pc : Int) + off = (tgt : Int)) (kt : x = 0 → G Γ X σ L st tgt) (kf : ¬ x = 0 → G Γ X σ L st (pc + 3)) : G Γ X σ L (.int x :: st) pc := by
  obtain ⟨⟨p, l, e, R⟩, ⟨s, m, args, below⟩, ⟨meth, c, Q⟩, ⟨dC, dI, cI, cB⟩, ⟨ad, A, cells, slots⟩⟩ := X
  intro ok H locs ls hP hS hl
  have h1 := fun h => kt h ok H locs ls hP hS hl
  have h2 := fun h => kf h ok H locs ls hP hS hl
  obtain ⟨hx, hb, -⟩ := ok
  exact lv_if_eq hx hb hd ht h1 h2
theorem g_icmp_eq {x y : Int32} {off : Int} {tgt : Nat} (hd : decode Γ.2.1.2.1 pc = .ok (.if_icmp .eq off, 3)) (ht : (pc : Int) + off = (tgt : Int)) (kt : x = y → G Γ X σ L st tgt) (kf : ¬ x = y → G Γ X σ L st (pc + 3)) : G Γ X σ L (.int y :: .int x :: st) pc := by
  obtain ⟨⟨p, l, e, R⟩, ⟨s, m, args, below⟩, ⟨meth, c, Q⟩, ⟨dC, dI, cI, cB⟩, ⟨ad, A, cells, slots⟩⟩ := X
  intro ok H locs ls hP hS hl
  have h1 := fun h => kt h ok H locs ls hP hS hl
  have h2 := fun h => kf h ok H locs ls hP hS hl
  obtain ⟨hx, hb, -⟩ := ok
  exact lv_icmp_eq hx hb hd ht h1 h2
theorem g_if_ne {x : Int32} {off : Int} {tgt : Nat} (hd : decode Γ.2.1.2.1 pc = .ok (.ifCond .ne off, 3)) (ht : (pc : Int) + off = (tgt : Int)) (kt : ¬ x = 0 → G Γ X σ L st tgt) (kf : x = 0 → G Γ X σ L st (pc + 3)) : G Γ X σ L (.int x :: st) pc := by
  obtain ⟨⟨p, l, e, R⟩, ⟨s, m, args, below⟩, ⟨meth, c, Q⟩, ⟨dC, dI, cI, cB⟩, ⟨ad, A, cells, slots⟩⟩ := X
  intro ok H locs ls hP hS hl
  have h1 := fun h => kt h ok H locs ls hP hS hl
  have h2 := fun h => kf h ok H locs ls hP hS hl
  obtain ⟨hx, hb, -⟩ := ok
  exact lv_if_ne hx hb hd ht h1 h2
theorem g_icmp_ne {x y : Int32} {off : Int} {tgt : Nat} (hd : decode Γ.2.1.2.1 pc = .ok (.if_icmp .ne off, 3)) (ht : (pc : Int) + off = (tgt : Int)) (kt : ¬ x = y → G Γ X σ L st tgt) (kf : x = y → G Γ X σ L st (pc + 3)) : G Γ X σ L (.int y :: .int x :: st) pc := by
  obtain ⟨⟨p, l, e, R⟩, ⟨s, m, args, below⟩, ⟨meth, c, Q⟩, ⟨dC, dI, cI, cB⟩, ⟨ad, A, cells, slots⟩⟩ := X
  intro ok H locs ls hP hS hl
  have h1 := fun h => kt h ok H locs ls hP hS hl
  have h2 := fun h => kf h ok H locs ls hP hS hl
  obtain ⟨hx, hb, -⟩ := ok
  exact lv_icmp_ne hx hb hd ht h1 h2
theorem g_if_lt {x : Int32} {off : Int} {tgt : Nat} (hd : decode Γ.2.1.2.1 pc = .ok (.ifCond .lt off, 3)) (ht : (pc : Int) + off = (tgt : Int)) (kt : x < 0 → G Γ X σ L st tgt) (kf : ¬ x < 0 → G Γ X σ L st (pc + 3)) : G Γ X σ L (.int x :: st) pc := by
  obtain ⟨⟨p, l, e, R⟩, ⟨s, m, args, below⟩, ⟨meth, c, Q⟩, ⟨dC, dI, cI, cB⟩, ⟨ad, A, cells, slots⟩⟩ := X
  intro ok H locs ls hP hS hl
  have h1 := fun h => kt h ok H locs ls hP hS hl
  have h2 := fun h => kf h ok H locs ls hP hS hl
  obtain ⟨hx, hb, -⟩ := ok
  exact lv_if_lt hx hb hd ht h1 h2
theorem g_icmp_lt {x y : Int32} {off : Int} {tgt : Nat} (hd : decode Γ.2.1.2.1 pc = .ok (.if_icmp .lt off, 3)) (ht : (pc : Int) + off = (tgt : Int)) (kt : x < y → G Γ X σ L st tgt) (kf : ¬ x < y → G Γ X σ L st (pc + 3)) : G Γ X σ L (.int y :: .int x :: st) pc := by
  obtain ⟨⟨p, l, e, R⟩, ⟨s, m, args, below⟩, ⟨meth, c, Q⟩, ⟨dC, dI, cI, cB⟩, ⟨ad, A, cells, slots⟩⟩ := X
  intro ok H locs ls hP hS hl
  have h1 := fun h => kt h ok H locs ls hP hS hl
  have h2 := fun h => kf h ok H locs ls hP hS hl
  obtain ⟨hx, hb, -⟩ := ok
  exact lv_icmp_lt hx hb hd ht h1 h2
theorem g_if_ge {x : Int32} {off : Int} {tgt : Nat} (hd : decode Γ.2.1.2.1 pc = .ok (.ifCond .ge off, 3)) (ht : (pc : Int) + off = (tgt : Int)) (kt : 0 ≤ x → G Γ X σ L st tgt) (kf : ¬ 0 ≤ x → G Γ X σ L st (pc + 3)) : G Γ X σ L (.int x :: st) pc := by
  obtain ⟨⟨p, l, e, R⟩, ⟨s, m, args, below⟩, ⟨meth, c, Q⟩, ⟨dC, dI, cI, cB⟩, ⟨ad, A, cells, slots⟩⟩ := X
  intro ok H locs ls hP hS hl
  have h1 := fun h => kt h ok H locs ls hP hS hl
  have h2 := fun h => kf h ok H locs ls hP hS hl
  obtain ⟨hx, hb, -⟩ := ok
  exact lv_if_ge hx hb hd ht h1 h2
theorem g_icmp_ge {x y : Int32} {off : Int} {tgt : Nat} (hd : decode Γ.2.1.2.1 pc = .ok (.if_icmp .ge off, 3)) (ht : (pc : Int) + off = (tgt : Int)) (kt : y ≤ x → G Γ X σ L st tgt) (kf : ¬ y ≤ x → G Γ X σ L st (pc + 3)) : G Γ X σ L (.int y :: .int x :: st) pc := by
  obtain ⟨⟨p, l, e, R⟩, ⟨s, m, args, below⟩, ⟨meth, c, Q⟩, ⟨dC, dI, cI, cB⟩, ⟨ad, A, cells, slots⟩⟩ := X
  intro ok H locs ls hP hS hl
  have h1 := fun h => kt h ok H locs ls hP hS hl
  have h2 := fun h => kf h ok H locs ls hP hS hl
  obtain ⟨hx, hb, -⟩ := ok
  exact lv_icmp_ge hx hb hd ht h1 h2
theorem g_if_gt {x : Int32} {off : Int} {tgt : Nat} (hd : decode Γ.2.1.2.1 pc = .ok (.ifCond .gt off, 3)) (ht : (pc : Int) + off = (tgt : Int)) (kt : 0 < x → G Γ X σ L st tgt) (kf : ¬ 0 < x → G Γ X σ L st (pc + 3)) : G Γ X σ L (.int x :: st) pc := by
  obtain ⟨⟨p, l, e, R⟩, ⟨s, m, args, below⟩, ⟨meth, c, Q⟩, ⟨dC, dI, cI, cB⟩, ⟨ad, A, cells, slots⟩⟩ := X
  intro ok H locs ls hP hS hl
  have h1 := fun h => kt h ok H locs ls hP hS hl
  have h2 := fun h => kf h ok H locs ls hP hS hl
  obtain ⟨hx, hb, -⟩ := ok
  exact lv_if_gt hx hb hd ht h1 h2
theorem g_icmp_gt {x y : Int32} {off : Int} {tgt : Nat} (hd : decode Γ.2.1.2.1 pc = .ok (.if_icmp .gt off, 3)) (ht : (pc : Int) + off = (tgt : Int)) (kt : y < x → G Γ X σ L st tgt) (kf : ¬ y < x → G Γ X σ L st (pc + 3)) : G Γ X σ L (.int y :: .int x :: st) pc := by
  obtain ⟨⟨p, l, e, R⟩, ⟨s, m, args, below⟩, ⟨meth, c, Q⟩, ⟨dC, dI, cI, cB⟩, ⟨ad, A, cells, slots⟩⟩ := X
  intro ok H locs ls hP hS hl
  have h1 := fun h => kt h ok H locs ls hP hS hl
  have h2 := fun h => kf h ok H locs ls hP hS hl
  obtain ⟨hx, hb, -⟩ := ok
  exact lv_icmp_gt hx hb hd ht h1 h2
theorem g_if_le {x : Int32} {off : Int} {tgt : Nat} (hd : decode Γ.2.1.2.1 pc = .ok (.ifCond .le off, 3)) (ht : (pc : Int) + off = (tgt : Int)) (kt : x ≤ 0 → G Γ X σ L st tgt) (kf : ¬ x ≤ 0 → G Γ X σ L st (pc + 3)) : G Γ X σ L (.int x :: st) pc := by
  obtain ⟨⟨p, l, e, R⟩, ⟨s, m, args, below⟩, ⟨meth, c, Q⟩, ⟨dC, dI, cI, cB⟩, ⟨ad, A, cells, slots⟩⟩ := X
  intro ok H locs ls hP hS hl
  have h1 := fun h => kt h ok H locs ls hP hS hl
  have h2 := fun h => kf h ok H locs ls hP hS hl
  obtain ⟨hx, hb, -⟩ := ok
  exact lv_if_le hx hb hd ht h1 h2
theorem g_icmp_le {x y : Int32} {off : Int} {tgt : Nat} (hd : decode Γ.2.1.2.1 pc = .ok (.if_icmp .le off, 3)) (ht : (pc : Int) + off = (tgt : Int)) (kt : x ≤ y → G Γ X σ L st tgt) (kf : ¬ x ≤ y → G Γ X σ L st (pc + 3)) : G Γ X σ L (.int y :: .int x :: st) pc := by
  obtain ⟨⟨p, l, e, R⟩, ⟨s, m, args, below⟩, ⟨meth, c, Q⟩, ⟨dC, dI, cI, cB⟩, ⟨ad, A, cells, slots⟩⟩ := X
  intro ok H locs ls hP hS hl
  have h1 := fun h => kt h ok H locs ls hP hS hl
  have h2 := fun h => kf h ok H locs ls hP hS hl
  obtain ⟨hx, hb, -⟩ := ok
  exact lv_icmp_le hx hb hd ht h1 h2
theorem g_goto {off : Int} {tgt : Nat} (hd : decode Γ.2.1.2.1 pc = .ok (.goto off, 3)) (ht : (pc : Int) + off = (tgt : Int)) (k : G Γ X σ L st tgt) : G Γ X σ L st pc := by
  obtain ⟨⟨p, l, e, R⟩, ⟨s, m, args, below⟩, ⟨meth, c, Q⟩, ⟨dC, dI, cI, cB⟩, ⟨ad, A, cells, slots⟩⟩ := X
  intro ok H locs ls hP hS hl
  have hk := k ok H locs ls hP hS hl
  obtain ⟨hx, hb, -⟩ := ok
  exact lv_goto hx hb hd ht hk
theorem g_tableIn {dflt lo hi : Int} {offs : Array Int} {len : Nat} {x : Int32} {off : Int} {tgt : Nat} (hd : decode Γ.2.1.2.1 pc = .ok (.tableswitch dflt lo hi offs, len)) (h1 : ¬ x.toInt < lo) (h2 : ¬ hi < x.toInt) (ho : offs[(x.toInt - lo).toNat]? = some off) (ht : (pc : Int) + off = (tgt : Int)) (k : G Γ X σ L st tgt) : G Γ X σ L (.int x :: st) pc := by
  obtain ⟨⟨p, l, e, R⟩, ⟨s, m, args, below⟩, ⟨meth, c, Q⟩, ⟨dC, dI, cI, cB⟩, ⟨ad, A, cells, slots⟩⟩ := X
  intro ok H locs ls hP hS hl
  have hk := k ok H locs ls hP hS hl
  obtain ⟨hx, hb, -⟩ := ok
  exact lv_tableIn hx hb hd h1 h2 ho ht hk
theorem g_tableOut {dflt lo hi : Int} {offs : Array Int} {len : Nat} {x : Int32} {tgt : Nat} (hd : decode Γ.2.1.2.1 pc = .ok (.tableswitch dflt lo hi offs, len)) (h : x.toInt < lo ∨ hi < x.toInt) (ht : (pc : Int) + dflt = (tgt : Int)) (k : G Γ X σ L st tgt) : G Γ X σ L (.int x :: st) pc := by
  obtain ⟨⟨p, l, e, R⟩, ⟨s, m, args, below⟩, ⟨meth, c, Q⟩, ⟨dC, dI, cI, cB⟩, ⟨ad, A, cells, slots⟩⟩ := X
  intro ok H locs ls hP hS hl
  have hk := k ok H locs ls hP hS hl
  obtain ⟨hx, hb, -⟩ := ok
  exact lv_tableOut hx hb hd h ht hk
theorem g_lookup {dflt : Int} {ps : Array (Int × Int)} {len : Nat} {x : Int32} {off : Int} {tgt : Nat} (hd : decode Γ.2.1.2.1 pc = .ok (.lookupswitch dflt ps, len)) (hp : (ps.toList.zip (ps.toList.drop 1)).all (fun (a, next) => a.1 < next.1) = true) (ho : Op.lookupswitch.offset ps.toList dflt x.toInt = off) (ht : (pc : Int) + off = (tgt : Int)) (k : G Γ X σ L st tgt) : G Γ X σ L (.int x :: st) pc := by
  obtain ⟨⟨p, l, e, R⟩, ⟨s, m, args, below⟩, ⟨meth, c, Q⟩, ⟨dC, dI, cI, cB⟩, ⟨ad, A, cells, slots⟩⟩ := X
  intro ok H locs ls hP hS hl
  have hk := k ok H locs ls hP hS hl
  obtain ⟨hx, hb, -⟩ := ok
  exact lv_lookup hx hb hd hp ho ht hk
theorem g_ldc {i : Nat} {v : Int32} (hd : decode Γ.2.1.2.1 pc = .ok (.ldc i, 2)) (hc : Cond.constant Γ.2.1.1.cls i v ∈ tb) (k : G Γ X σ L (.int v :: st) (pc + 2)) : G Γ X σ L st pc := by
  obtain ⟨⟨p, l, e, R⟩, ⟨s, m, args, below⟩, ⟨meth, c, Q⟩, ⟨dC, dI, cI, cB⟩, ⟨ad, A, cells, slots⟩⟩ := X
  intro ok H locs ls hP hS hl
  have hk := k ok H locs ls hP hS hl
  obtain ⟨hx, hb, hm, hown, hts, -⟩ := ok
  exact lv_ldc hx hb hown (hts _ hc) hd hk
theorem g_ldcw {i : Nat} {v : Int32} (hd : decode Γ.2.1.2.1 pc = .ok (.ldc_w i, 3)) (hc : Cond.constant Γ.2.1.1.cls i v ∈ tb) (k : G Γ X σ L (.int v :: st) (pc + 3)) : G Γ X σ L st pc := by
  obtain ⟨⟨p, l, e, R⟩, ⟨s, m, args, below⟩, ⟨meth, c, Q⟩, ⟨dC, dI, cI, cB⟩, ⟨ad, A, cells, slots⟩⟩ := X
  intro ok H locs ls hP hS hl
  have hk := k ok H locs ls hP hS hl
  obtain ⟨hx, hb, hm, hown, hts, -⟩ := ok
  exact lv_ldcw hx hb hown (hts _ hc) hd hk
theorem g_ldc2 {i : Nat} {v : Int64} (hd : decode Γ.2.1.2.1 pc = .ok (.ldc2_w i, 3)) (hc : Cond.constantLong Γ.2.1.1.cls i v ∈ tb) (k : G Γ X σ L (.long v :: st) (pc + 3)) : G Γ X σ L st pc := by
  obtain ⟨⟨p, l, e, R⟩, ⟨s, m, args, below⟩, ⟨meth, c, Q⟩, ⟨dC, dI, cI, cB⟩, ⟨ad, A, cells, slots⟩⟩ := X
  intro ok H locs ls hP hS hl
  have hk := k ok H locs ls hP hS hl
  obtain ⟨hx, hb, hm, hown, hts, -⟩ := ok
  exact lv_ldc2 hx hb hown (hts _ hc) hd hk
end GL
end
section
/-! fields and arrays of the store; what nobody writes -/
/-- entry i of the pool of class own is field j of class ci, of descriptor d -/
def FL (own : String) (i ci j : Nat) (d : String) : Prop := ci < 9 ∧ ∃ (C : String) (T : u_T) (N : Nat), classes[ci]? = some (C, T, N) ∧ j < N ∧ Cond.fieldLink own i (T j).1 (T j).2.1 (T j).2.2.1 ∈ tb ∧ (T j).2.2.1 = d
def FLp (own : String) (i ci j : Nat) (d : String) : Prop := ci < 9 ∧ ∃ (C : String) (T : u_T) (N : Nat), classes[ci]? = some (C, T, N) ∧ j < N ∧ Cond.fieldLink own i (T j).1 (T j).2.1 (T j).2.2.1 ∈ tb ∧ (T j).2.2.1 = d ∧ (T j).2.2.2 = false
theorem FLp.get {own : String} {i ci j : Nat} {d : String} (h : FLp own i ci j d) : FL own i ci j d := by
  obtain ⟨h0, C, T, N, h1, h2, h3, h4, -⟩ := h
  exact ⟨h0, C, T, N, h1, h2, h3, h4⟩
section GM
variable {Γ : MC} {X : CX} {σ : Store} {L L' : List (Option Value)} {st : List Value} {pc : Nat}
theorem g_get {i ci j k : Nat} {d : String} {fs : List (Option Nat)} {v : Value} (hd : decode Γ.2.1.2.1 pc = .ok (.getfield i, 3)) (hf : FL Γ.2.1.1.cls i ci j d) (hk : Γ.1[k]? = some (.inr (ci, fs))) (hv : ∀ ad, (fs[j]?).map (fo ad (σ k) j) = some (cv ad v)) (kk : G Γ X σ L (v :: st) (pc + 3)) : G Γ X σ L (.ref k :: st) pc := by
  obtain ⟨⟨p, l, e, R⟩, ⟨s, m, args, below⟩, ⟨meth, c, Q⟩, ⟨dC, dI, cI, cB⟩, ⟨ad, A, cells, slots⟩⟩ := X
  intro ok H locs ls hP hS hl
  have h1 := kk ok H locs ls hP hS hl
  obtain ⟨hx, hb, hm, hown, hts, hK, -⟩ := ok
  obtain ⟨h0, C, T, N, hc, hj, hlk, hdd⟩ := hf
  obtain ⟨C', T', N', t', hc', hin, -, -⟩ := cf_all ci h0
  rw [hc] at hc'
  cases hc'
  exact va_get (v := cv ad v) hx hb hts hin hown hK hP k (wr_at hk) hc j hj (hts _ hlk) (fun _ h => h) (by rw [fv_get, Nat.zero_add]; exact hv ad) hd h1
theorem g_getI {i ci j k : Nat} {d : String} {fs : List (Option Nat)} (hd : decode Γ.2.1.2.1 pc = .ok (.getfield i, 3)) (hf : FL Γ.2.1.1.cls i ci j d) (hk : Γ.1[k]? = some (.inr (ci, fs))) (hj : fs[j]? = some none) (kk : G Γ X σ L (.int (σ k j) :: st) (pc + 3)) : G Γ X σ L (.ref k :: st) pc :=
  g_get hd hf hk (fun ad => by rw [hj]; rfl) kk
theorem g_getR {i ci j k r : Nat} {d : String} {fs : List (Option Nat)} (hd : decode Γ.2.1.2.1 pc = .ok (.getfield i, 3)) (hf : FL Γ.2.1.1.cls i ci j d) (hk : Γ.1[k]? = some (.inr (ci, fs))) (hj : fs[j]? = some (some r)) (kk : G Γ X σ L (.ref r :: st) (pc + 3)) : G Γ X σ L (.ref k :: st) pc :=
  g_get hd hf hk (fun ad => by rw [hj]; rfl) kk
theorem g_put {i ci j k : Nat} {d : String} {ty : FieldType} {fs : List (Option Nat)} {v : Int32} (hd : decode Γ.2.1.2.1 pc = .ok (.putfield i, 3)) (hf : FLp Γ.2.1.1.cls i ci j d) (hty : parseFieldDescriptor d = some ty) (hn : narrow ty (.int v) = .int v) (hfit : fits ty (.int v) = true) (hk : Γ.1[k]? = some (.inr (ci, fs))) (hj : fs[j]? = some none) (kk : G Γ X (s_up σ k j v) L st (pc + 3)) : G Γ X σ L (.int v :: .ref k :: st) pc := by
  obtain ⟨⟨p, l, e, R⟩, ⟨s, m, args, below⟩, ⟨meth, c, Q⟩, ⟨dC, dI, cI, cB⟩, ⟨ad, A, cells, slots⟩⟩ := X
  intro ok H locs ls hP hS hl
  have h1 := fun H locs hP hS => kk ok H locs ls hP hS hl
  obtain ⟨hx, hb, hm, hown, hts, hK, hAp, hA, -⟩ := ok
  obtain ⟨h0, C, T, N, hc, hjN, hlk, hdd, hfin⟩ := hf
  obtain ⟨C', T', N', t', hc', hin, hts2, hnm⟩ := cf_all ci h0
  rw [hc] at hc'
  cases hc'
  have hlen : j < (fv ad (σ k) 0 fs).length := by rw [fv_len]; exact (List.getElem?_eq_some_iff.mp hj).1
  refine va_put (v := .int v) (ty := ty) hx hb hts hin t' hts2 hnm hown hK hP (wr_D hAp hA) hS k (wr_at hk) hc j hjN (hts _ hlk) (fun _ h => h) hfin (by rw [hdd]; exact hty) hn hfit hlen hd (fun H1 locs1 hP1 _ hS1 => h1 H1 locs1 ?_ hS1)
  rw [fv_set ad (σ k) fs v hj] at hP1
  have e1 := wr_set (cI := cI) (cB := cB) (ad := ad) (σ := σ) (upd (σ k) j v) hk
  rw [← s_row_up, ← e1]
  exact hP1
theorem g_putI {i ci j k : Nat} {fs : List (Option Nat)} {v : Int32} (hd : decode Γ.2.1.2.1 pc = .ok (.putfield i, 3)) (hf : FLp Γ.2.1.1.cls i ci j "I") (hk : Γ.1[k]? = some (.inr (ci, fs))) (hj : fs[j]? = some none) (kk : G Γ X (s_up σ k j v) L st (pc + 3)) : G Γ X σ L (.int v :: .ref k :: st) pc :=
  g_put hd hf (ty := .int) (by decide +kernel) rfl rfl hk hj kk
theorem g_putZ {i ci j k : Nat} {fs : List (Option Nat)} {v : Int32} (hd : decode Γ.2.1.2.1 pc = .ok (.putfield i, 3)) (hf : FLp Γ.2.1.1.cls i ci j "Z") (hk : Γ.1[k]? = some (.inr (ci, fs))) (hj : fs[j]? = some none) (hv : v = 0 ∨ v = 1) (kk : G Γ X (s_up σ k j v) L st (pc + 3)) : G Γ X σ L (.int v :: .ref k :: st) pc := by
  rcases hv with rfl | rfl
  · exact g_put hd hf (ty := .boolean) (by decide +kernel) (by decide +kernel) (by decide +kernel) hk hj kk
  · exact g_put hd hf (ty := .boolean) (by decide +kernel) (by decide +kernel) (by decide +kernel) hk hj kk
theorem cl_of {i : Int32} {a n : Nat} (h : i = nI a) (ha : a < n) (hn : n < 2 ^ 31) : vp_in i n ∧ i.toNatClampNeg = a := by
  subst h
  exact ⟨vp_in_nI ha hn, nI_clamp (by omega)⟩
theorem g_iaload {k n a : Nat} {i : Int32} (hd : decode Γ.2.1.2.1 pc = .ok (.iaload, 1)) (hk : Γ.1[k]? = some (.inl (false, n))) (hi : i = nI a) (ha : a < n) (hn : n < 2 ^ 31) (kk : G Γ X σ L (.int (σ k a) :: st) (pc + 1)) : G Γ X σ L (.int i :: .ref k :: st) pc := by
  obtain ⟨⟨p, l, e, R⟩, ⟨s, m, args, below⟩, ⟨meth, c, Q⟩, ⟨dC, dI, cI, cB⟩, ⟨ad, A, cells, slots⟩⟩ := X
  intro ok H locs ls hP hS hl
  have h1 := kk ok H locs ls hP hS hl
  obtain ⟨hx, hb, hm, hown, hts, hK, -⟩ := ok
  obtain ⟨h2, h3⟩ := cl_of hi ha hn
  refine va_iald (f := σ k) (n := n) (cA := cI) hx hb hK hP k 0 (wr_at hk) rfl h2 hd ?_
  rw [h3]; exact h1
theorem g_baload {k n a : Nat} {i : Int32} (hd : decode Γ.2.1.2.1 pc = .ok (.baload, 1)) (hk : Γ.1[k]? = some (.inl (true, n))) (hi : i = nI a) (ha : a < n) (hn : n < 2 ^ 31) (kk : G Γ X σ L (.int (σ k a) :: st) (pc + 1)) : G Γ X σ L (.int i :: .ref k :: st) pc := by
  obtain ⟨⟨p, l, e, R⟩, ⟨s, m, args, below⟩, ⟨meth, c, Q⟩, ⟨dC, dI, cI, cB⟩, ⟨ad, A, cells, slots⟩⟩ := X
  intro ok H locs ls hP hS hl
  have h1 := kk ok H locs ls hP hS hl
  obtain ⟨hx, hb, hm, hown, hts, hK, -⟩ := ok
  obtain ⟨h2, h3⟩ := cl_of hi ha hn
  refine va_bald (f := σ k) (n := n) (cA := cB) hx hb hK hP k 1 (wr_at hk) rfl h2 hd ?_
  rw [h3]; exact h1
theorem g_iastore {k n a : Nat} {i v : Int32} (hd : decode Γ.2.1.2.1 pc = .ok (.iastore, 1)) (hk : Γ.1[k]? = some (.inl (false, n))) (hi : i = nI a) (ha : a < n) (hn : n < 2 ^ 31) (kk : G Γ X (s_up σ k a v) L st (pc + 1)) : G Γ X σ L (.int v :: .int i :: .ref k :: st) pc := by
  obtain ⟨⟨p, l, e, R⟩, ⟨s, m, args, below⟩, ⟨meth, c, Q⟩, ⟨dC, dI, cI, cB⟩, ⟨ad, A, cells, slots⟩⟩ := X
  intro ok H locs ls hP hS hl
  have h1 := fun H locs hP hS => kk ok H locs ls hP hS hl
  obtain ⟨hx, hb, hm, hown, hts, hK, hAp, hA, -⟩ := ok
  obtain ⟨h2, h3⟩ := cl_of hi ha hn
  refine va_iast (f := σ k) (n := n) (cA := cI) (x := v) hx hb hK hP (wr_D hAp hA) hS k 0 (wr_at hk) rfl h2 hd (fun H1 locs1 hP1 _ hS1 => h1 H1 locs1 ?_ hS1)
  rw [h3] at hP1
  have e1 := wr_set (cI := cI) (cB := cB) (ad := ad) (σ := σ) (upd (σ k) a v) hk
  rw [← s_row_up, ← e1]
  exact hP1
theorem g_bastore {k n a : Nat} {i v : Int32} (hd : decode Γ.2.1.2.1 pc = .ok (.bastore, 1)) (hk : Γ.1[k]? = some (.inl (true, n))) (hi : i = nI a) (ha : a < n) (hn : n < 2 ^ 31) (kk : G Γ X (s_up σ k a v.toInt8.toInt32) L st (pc + 1)) : G Γ X σ L (.int v :: .int i :: .ref k :: st) pc := by
  obtain ⟨⟨p, l, e, R⟩, ⟨s, m, args, below⟩, ⟨meth, c, Q⟩, ⟨dC, dI, cI, cB⟩, ⟨ad, A, cells, slots⟩⟩ := X
  intro ok H locs ls hP hS hl
  have h1 := fun H locs hP hS => kk ok H locs ls hP hS hl
  obtain ⟨hx, hb, hm, hown, hts, hK, hAp, hA, -⟩ := ok
  obtain ⟨h2, h3⟩ := cl_of hi ha hn
  refine va_bast (f := σ k) (n := n) (cA := cB) (x := v) hx hb hK hP (wr_D hAp hA) hS k 1 (wr_at hk) rfl h2 hd (fun H1 locs1 hP1 _ hS1 => h1 H1 locs1 ?_ hS1)
  rw [h3, vp_nar_byte] at hP1
  have e1 := wr_set (cI := cI) (cB := cB) (ad := ad) (σ := σ) (upd (σ k) a v.toInt8.toInt32) hk
  rw [← s_row_up, ← e1]
  exact hP1
theorem g_alen {k n : Nat} {b : Bool} (hd : decode Γ.2.1.2.1 pc = .ok (.arraylength, 1)) (hk : Γ.1[k]? = some (.inl (b, n))) (kk : G Γ X σ L (.int (nI n) :: st) (pc + 1)) : G Γ X σ L (.ref k :: st) pc := by
  obtain ⟨⟨p, l, e, R⟩, ⟨s, m, args, below⟩, ⟨meth, c, Q⟩, ⟨dC, dI, cI, cB⟩, ⟨ad, A, cells, slots⟩⟩ := X
  intro ok H locs ls hP hS hl
  have h1 := kk ok H locs ls hP hS hl
  obtain ⟨hx, hb, hm, hown, hts, hK, -⟩ := ok
  cases b with
  | false => exact va_alen (x := (n, .inl (σ k))) hx hb hK hP k 0 (wr_at hk) rfl rfl hd h1
  | true => exact va_alen (x := (n, .inl (σ k))) hx hb hK hP k 1 (wr_at hk) rfl rfl hd h1
/-- a static array that nobody writes, by its own class's link -/
theorem g_gets {i j : Nat} (hd : decode Γ.2.1.2.1 pc = .ok (.getstatic i, 3)) (hj : j < 4) (hlk : Cond.fieldLink Γ.2.1.1.cls i (roC j).1 (roC j).2 "[I" ∈ tb) (kk : G Γ X σ L (.ref (900 + j) :: st) (pc + 3)) : G Γ X σ L st pc := by
  obtain ⟨⟨p, l, e, R⟩, ⟨s, m, args, below⟩, ⟨meth, c, Q⟩, ⟨dC, dI, cI, cB⟩, ⟨ad, A, cells, slots⟩⟩ := X
  intro ok H locs ls hP hS hl
  have h1 := kk ok H locs ls hP hS hl
  obtain ⟨hx, hb, hm, hown, hts, hK, hAp, hA, hRO, -⟩ := ok
  exact va_gets hx hb (hRO.1 j hj).1 hS hown (hts _ hlk) (fun _ h => h) hd h1
theorem g_getsN {i j : Nat} (hd : decode Γ.2.1.2.1 pc = .ok (.getstatic i, 3)) (hj : j < 4) (hlk : (Γ.2.1.1.cls, i, j) = ("LateSeekers$Park", 43, 0) ∨ (Γ.2.1.1.cls, i, j) = ("LateSeekers$TapeReader", 91, 1)) (kk : G Γ X σ L (.ref (900 + j) :: st) (pc + 3)) : G Γ X σ L st pc := by
  obtain ⟨⟨p, l, e, R⟩, ⟨s, m, args, below⟩, ⟨meth, c, Q⟩, ⟨dC, dI, cI, cB⟩, ⟨ad, A, cells, slots⟩⟩ := X
  intro ok H locs ls hP hS hl
  have h1 := kk ok H locs ls hP hS hl
  obtain ⟨hx, hb, hm, hown, hts, hK, hAp, hA, hRO, -⟩ := ok
  obtain ⟨r1, -, -, -, -, r6, r7⟩ := hRO
  rcases hlk with h | h
  · obtain ⟨e1, e2, e3⟩ := Prod.mk.inj h |>.imp id Prod.mk.inj
    rw [e1] at hown
    subst e2; subst e3
    exact va_getsN hx hb (r1 0 (by decide)).1 hS hown (va_Nw.use rfl r6) (fun _ h => h) hd h1
  · obtain ⟨e1, e2, e3⟩ := Prod.mk.inj h |>.imp id Prod.mk.inj
    rw [e1] at hown
    subst e2; subst e3
    exact va_getsN hx hb (r1 1 (by decide)).1 hS hown (va_Nw.use rfl r7) (fun _ h => h) hd h1
theorem va_Tld {p : Program} {l : Launch} {e : Env} {R : Room} {s : State} {m : MethodId} {args : Array Value} {below : List Frame} {meth : Method} {c : Code} {H : Heap} {locs : List Loc} {cells slots : Nat} {Q : State → Prop} {cc : ByteArray} {pc : Nat} {ls : Array Slot} {rest : List Value} {A : Nat → Prop} (hx : p.tables.exec = Jvm.exec) (hb : c.code = cc) {t N a : Nat} {f : Nat → Value} (hT : va_T .int t N f A s s.heap) (hS : va_S A s.heap H locs) {i : Int32} (hi : i = nI a) (ha : a < N) (hN : N < 2 ^ 31) (hd : decode cc pc = .ok (.iaload, 1)) (kk : W p l e R s m args below meth c H locs cells slots Q (F0 m (pc + 1) ls (f a :: rest))) : W p l e R s m args below meth c H locs cells slots Q (F0 m pc ls (.int i :: .ref t :: rest)) := by
  obtain ⟨cell, h1, h2, h3, h4, h5, h6, h7⟩ := hT.kept hS.2.1
  obtain ⟨g1, g2⟩ := cl_of hi ha hN
  refine W.iald (v := f a) hx hb h1 h2 h3 (fun q => ?_) (by rw [g2]; exact h6 a ha) rfl rfl hd kk
  rcases q with q | q
  · exact g1 (Or.inl q)
  · rw [g2] at q; omega
theorem g_roload {j a : Nat} {i : Int32} (hd : decode Γ.2.1.2.1 pc = .ok (.iaload, 1)) (hj : j < 4) (hi : i = nI a) (ha : a < (roV j).length) (kk : G Γ X σ L (.int ((roV j).getD a 0) :: st) (pc + 1)) : G Γ X σ L (.int i :: .ref (900 + j) :: st) pc := by
  obtain ⟨⟨p, l, e, R⟩, ⟨s, m, args, below⟩, ⟨meth, c, Q⟩, ⟨dC, dI, cI, cB⟩, ⟨ad, A, cells, slots⟩⟩ := X
  intro ok H locs ls hP hS hl
  have h1 := kk ok H locs ls hP hS hl
  obtain ⟨hx, hb, hm, hown, hts, hK, hAp, hA, hRO, -⟩ := ok
  have hN : (roV j).length < 2 ^ 31 := by
    match j, hj with
    | 0, _ => decide
    | 1, _ => decide
    | 2, _ => decide
    | 3, _ => decide
  exact va_Tld (f := fun i => .int ((roV j).getD i 0)) hx hb (hRO.1 j hj).2 hS hi ha hN hd h1
theorem g_rolen {j : Nat} (hd : decode Γ.2.1.2.1 pc = .ok (.arraylength, 1)) (hj : j < 4) (kk : G Γ X σ L (.int (nI (roV j).length) :: st) (pc + 1)) : G Γ X σ L (.ref (900 + j) :: st) pc := by
  obtain ⟨⟨p, l, e, R⟩, ⟨s, m, args, below⟩, ⟨meth, c, Q⟩, ⟨dC, dI, cI, cB⟩, ⟨ad, A, cells, slots⟩⟩ := X
  intro ok H locs ls hP hS hl
  have h1 := kk ok H locs ls hP hS hl
  obtain ⟨hx, hb, hm, hown, hts, hK, hAp, hA, hRO, -⟩ := ok
  obtain ⟨cell, q1, q2, q3, q4, q5, q6, q7⟩ := (hRO.1 j hj).2.kept hS.2.1
  exact W.alen (n := nI (roV j).length) hx hb q1 q2 q5 rfl rfl hd h1
/-- System.arraycopy of ints from the places 0 on, between two cells -/
theorem g_copy {i k0 k1 n0 n1 n : Nat} {v : Int32} (hd : decode Γ.2.1.2.1 pc = .ok (.invokestatic i, 3)) (hlk : Cond.methodLink Γ.2.1.1.cls i arraycopyName ∈ tb) (h2 : Cond.native arraycopyName ∈ tb ∧ Cond.static arraycopyName ∈ tb ∧ Cond.initialized "java/lang/System" ∈ tb) (hk0 : Γ.1[k0]? = some (.inl (false, n0))) (hk1 : Γ.1[k1]? = some (.inl (false, n1))) (hv : v = nI n) (hn0 : n ≤ n0) (hn1 : n ≤ n1) (hb31 : n < 2 ^ 31) (hdep : 1 ≤ Γ.2.2) (hst : st = []) (kk : G Γ X (s_row σ k1 (va_cpy (σ k0) (σ k1) 0 0 n)) L st (pc + 3)) : G Γ X σ L (.int v :: .int 0 :: .ref k1 :: .int 0 :: .ref k0 :: st) pc := by
  obtain ⟨⟨p, l, e, R⟩, ⟨s, m, args, below⟩, ⟨meth, c, Q⟩, ⟨dC, dI, cI, cB⟩, ⟨ad, A, cells, slots⟩⟩ := X
  intro ok H locs ls hP hS hl
  have h1 := fun H locs hP hS => kk ok H locs ls hP hS hl
  obtain ⟨hx, hb, hm, hown, hts, hK, hAp, hA, hRO, hfr, hlo, -⟩ := ok
  subst hst
  have hc : v.toNatClampNeg = n := by rw [hv]; exact nI_clamp hb31
  have hz : (0 : Int32).toNatClampNeg = 0 := sb_cl0
  refine va_copyi (ty := .int) hx hb (by rw [hm, hl.1]) hown (hts _ hlk) (hts _ h2.1) (hts _ h2.2.1) (hts _ h2.2.2) hK hP (wr_D hAp hA) hS k0 k1 0 0 (wr_at hk0) (wr_at hk1) rfl rfl rfl (by decide) (by decide) (by rw [hv]; exact nI_pos hb31) (by rw [hc, hz]; omega) (by rw [hc, hz]; omega) (fun _ _ => rfl) (by have := hdep; exact Nat.le_trans this hfr) ?_ hd (fun H1 locs1 hP1 _ hS1 => h1 H1 locs1 ?_ hS1)
  · have e1 : (([] : List Value).map (cv ad)).map (fun v => v.category) = [] := rfl
    rw [e1]
    have e2 : nativeFrameWords "java/lang/System" "arraycopy" 5 + 11 ≤ 40 := by decide +kernel
    have e3 : 40 * 1 ≤ 40 * Γ.2.2 := Nat.mul_le_mul_left 40 hdep
    have e4 : ([] : List Nat).sum = 0 := rfl
    omega
  · rw [hc, hz] at hP1
    have e1 := wr_set (cI := cI) (cB := cB) (ad := ad) (σ := σ) (va_cpy (σ k0) (σ k1) 0 0 n) hk1
    rw [← e1]
    exact hP1
end GM
end
section
/-! CONTRACTS over the store, their ends, their calls, and their embedding into a larger store -/
def rmd (d : Nat) : Room := { frames := d, cells := 0, slots := 0, locals := 40 * d }
def Pw (Λ : Lay) (dC : Nat → ClassId) (dI : Nat → Nat → Nat) (cI cB : ClassId) (ad : Nat → Nat) (σ : Store) (U : State) : Prop :=
  va_P (dC, dI) classes (wr cI cB ad σ 0 Λ) U.heap ∧ va_K (dC, dI) classes (tyl cI cB) U ∧ Ap Λ ad ∧ RO ad (Aw Λ ad) U
def Qw (Λ : Lay) (dC : Nat → ClassId) (dI : Nat → Nat → Nat) (cI cB : ClassId) (ad : Nat → Nat) (Post : Option Value → Store → Prop) : Array Value → State → Outcome → State → Prop := fun _ st oc t =>
  (∃ (v : Option Value) (σ : Store), oc = .returned (v.map (cv ad)) ∧ Post v σ ∧ va_P (dC, dI) classes (wr cI cB ad σ 0 Λ) t.heap) ∧ va_F (Aw Λ ad) st t
abbrev wds (μ : Mt) : List Cond := Cond.code μ.1 μ.2.1 μ.2.2.1 μ.2.2.2 :: tb
/-- the contract: from the store σ, with these arguments, the method returns, and Post holds of its answer and the store -/
def Ct (Λ : Lay) (μ : Mt) (d : Nat) (as : List Value) (σ : Store) (Post : Option Value → Store → Prop) : Prop :=
  ∀ (l : Launch) (dC : Nat → ClassId) (dI : Nat → Nat → Nat) (cI cB : ClassId) (ad : Nat → Nat), Met l μ.1 (wds μ) (rmd d) (va_Pc (as.map (cv ad)) (Pw Λ dC dI cI cB ad σ)) (Qw Λ dC dI cI cB ad Post) 0 0 (Aw Λ ad)
def Rt (Γ : MC) (Post : Option Value → Store → Prop) (X : CX) : Prop := match X with
  | (_, (s, _, args, below), (meth, _, Q), (dC, dI, cI, cB), (ad, A, cells, slots)) =>
    meth.sig.returnType = Γ.2.1.2.2.2 ∧ meth.locks = false ∧ A = Aw Γ.1 ad ∧ cells = 0 ∧ slots = 0 ∧ Q = MQ below (Qw Γ.1 dC dI cI cB ad Post) args s 0 0 (Aw Γ.1 ad)
theorem Ct.of {Λ : Lay} {μ : Mt} {d : Nat} {as : List Value} {σ : Store} {Post : Option Value → Store → Prop} (hy : plainName μ.1.cls = true) (hfit : (lg_sl as).length ≤ μ.2.2.1) (body : ∀ X, Rt (Λ, μ, d) Post X → G (Λ, μ, d) X σ (ent as μ.2.2.1) [] 0) : Ct Λ μ d as σ Post := by
  intro l dC dI cI cB ad
  refine Met.ofW (cc := μ.2.1) (maxL := μ.2.2.1) (ret := μ.2.2.2) hy rfl ?_
  intro p e s m args below meth c s₁ B hml hv
  obtain ⟨rfl, hP, hK, hAp, hRO⟩ := hv
  have hts := atoms_spec (ws := wds μ) B.pre
  have hown : s.vm.findClass μ.1.cls = some m.cls := findClass_of_methodNamed B.named
  have hlen : (lg_sl (as.map (cv ad))).length ≤ μ.2.2.1 := by
    have : (lg_sl (as.map (cv ad))).length = (lg_sl as).length := by
      unfold lg_sl
      rw [List.length_flatMap, List.length_flatMap, List.map_map]
      congr 1
      apply List.map_congr_left
      intro v _
      show (if (cv ad v).category = 2 then _ else _ : List Slot).length = _
      rw [cv_cat]
      split <;> rfl
    omega
  have hl := lv_entry (as.map (cv ad)) hlen
  rw [lg_entry_eq]
  generalize (lg_sl (as.map (cv ad)) ++ List.replicate (μ.2.2.1 - (lg_sl (as.map (cv ad))).length) Slot.unset).toArray = ls at hl ⊢
  exact body ((p, l, e, (headSpec (wds μ) (rmd d)).room), (s, m, (as.map (cv ad)).toArray, below), (meth, c, MQ below (Qw Λ dC dI cI cB ad Post) (as.map (cv ad)).toArray s 0 0 (Aw Λ ad)), (dC, dI, cI, cB), (ad, Aw Λ ad, 0, 0))
    ⟨B.returns, B.notSynchronized, rfl, rfl, rfl, rfl⟩ ⟨B.exec, B.bytes, hml, hown, fun w hw => hts w (List.mem_cons_of_mem _ hw), hK, hAp, fun k hk => ⟨k, hk, rfl⟩, hRO, Nat.le_refl _, Nat.le_refl _, Nat.zero_le _, Nat.zero_le _⟩ s.heap [] ls hP va_S.rf (lh_ent hl)
section GR
variable {Γ : MC} {X : CX} {σ : Store} {L L' : List (Option Value)} {st : List Value} {pc : Nat} {Post : Option Value → Store → Prop}
theorem g_vret (hR : Rt Γ Post X) (hd : decode Γ.2.1.2.1 pc = .ok (.return_, 1)) (hr : Γ.2.1.2.2.2 = none) (hp : Post none σ) : G Γ X σ L [] pc := by
  obtain ⟨⟨p, l, e, R⟩, ⟨s, m, args, below⟩, ⟨meth, c, Q⟩, ⟨dC, dI, cI, cB⟩, ⟨ad, A, cells, slots⟩⟩ := X
  obtain ⟨hr2, hlk, hA, hc0, hs0, hQ⟩ := hR
  intro ok H locs ls hP hS hl
  obtain ⟨hx, hb, hm, hown, hts, hK, -⟩ := ok
  subst hA; subst hc0; subst hs0; subst hQ
  exact W.vret hx hb (hr2.trans hr) (fun t ht hW => ⟨⟨none, σ, rfl, hp, by rw [ht]; exact hP⟩, hS.F ht⟩) hS.2.2 hd hlk
theorem g_iret {v : Int32} (hR : Rt Γ Post X) (hd : decode Γ.2.1.2.1 pc = .ok (.ireturn, 1)) (hr : Γ.2.1.2.2.2 = some .int) (hp : Post (some (.int v)) σ) : G Γ X σ L [.int v] pc := by
  obtain ⟨⟨p, l, e, R⟩, ⟨s, m, args, below⟩, ⟨meth, c, Q⟩, ⟨dC, dI, cI, cB⟩, ⟨ad, A, cells, slots⟩⟩ := X
  obtain ⟨hr2, hlk, hA, hc0, hs0, hQ⟩ := hR
  intro ok H locs ls hP hS hl
  obtain ⟨hx, hb, hm, hown, hts, hK, -⟩ := ok
  subst hA; subst hc0; subst hs0; subst hQ
  exact W.iret (v := v) hx hb (hr2.trans hr) (fun t ht hW => ⟨⟨some (.int v), σ, rfl, hp, by rw [ht]; exact hP⟩, hS.F ht⟩) hS.2.2 hd hlk
theorem g_lret {v : Int64} (hR : Rt Γ Post X) (hd : decode Γ.2.1.2.1 pc = .ok (.lreturn, 1)) (hr : Γ.2.1.2.2.2 = some .long) (hp : Post (some (.long v)) σ) : G Γ X σ L [.long v] pc := by
  obtain ⟨⟨p, l, e, R⟩, ⟨s, m, args, below⟩, ⟨meth, c, Q⟩, ⟨dC, dI, cI, cB⟩, ⟨ad, A, cells, slots⟩⟩ := X
  obtain ⟨hr2, hlk, hA, hc0, hs0, hQ⟩ := hR
  intro ok H locs ls hP hS hl
  obtain ⟨hx, hb, hm, hown, hts, hK, -⟩ := ok
  subst hA; subst hc0; subst hs0; subst hQ
  exact W.lret (v := v) hx hb (hr2.trans hr) (fun t ht hW => ⟨⟨some (.long v), σ, rfl, hp, by rw [ht]; exact hP⟩, hS.F ht⟩) hS.2.2 hd hlk
/-- an answer of a narrower type -/
theorem g_nret {v : Int32} {ty : FieldType} (hR : Rt Γ Post X) (hd : decode Γ.2.1.2.1 pc = .ok (.ireturn, 1)) (hr : Γ.2.1.2.2.2 = some ty) (hn : narrow ty (.int v) = .int v) (hp : Post (some (.int v)) σ) : G Γ X σ L [.int v] pc := by
  obtain ⟨⟨p, l, e, R⟩, ⟨s, m, args, below⟩, ⟨meth, c, Q⟩, ⟨dC, dI, cI, cB⟩, ⟨ad, A, cells, slots⟩⟩ := X
  obtain ⟨hr2, hlk, hA, hc0, hs0, hQ⟩ := hR
  intro ok H locs ls hP hS hl
  obtain ⟨hx, hb, hm, hown, hts, hK, -⟩ := ok
  subst hA; subst hc0; subst hs0; subst hQ
  exact W.zret (v := v) hx hb (hr2.trans hr) hn (fun t ht hW => ⟨⟨some (.int v), σ, rfl, hp, by rw [ht]; exact hP⟩, hS.F ht⟩) hS.2.2 hd hlk
theorem g_zret {v : Int32} (hR : Rt Γ Post X) (hd : decode Γ.2.1.2.1 pc = .ok (.ireturn, 1)) (hr : Γ.2.1.2.2.2 = some .boolean) (hv : v = 0 ∨ v = 1) (hp : Post (some (.int v)) σ) : G Γ X σ L [.int v] pc :=
  g_nret hR hd hr (by rcases hv with rfl | rfl <;> decide +kernel) hp
theorem g_aret {k : Nat} {C : String} (hR : Rt Γ Post X) (hd : decode Γ.2.1.2.1 pc = .ok (.areturn, 1)) (hr : Γ.2.1.2.2.2 = some (.object C)) (hp : Post (some (.ref k)) σ) : G Γ X σ L [.ref k] pc := by
  obtain ⟨⟨p, l, e, R⟩, ⟨s, m, args, below⟩, ⟨meth, c, Q⟩, ⟨dC, dI, cI, cB⟩, ⟨ad, A, cells, slots⟩⟩ := X
  obtain ⟨hr2, hlk, hA, hc0, hs0, hQ⟩ := hR
  intro ok H locs ls hP hS hl
  obtain ⟨hx, hb, hm, hown, hts, hK, -⟩ := ok
  subst hA; subst hc0; subst hs0; subst hQ
  exact W.aret (v := .ref (ad k)) hx hb (hr2.trans hr) (Or.inl ⟨C, rfl⟩) (Or.inr ⟨_, rfl⟩) (fun t ht hW => ⟨⟨some (.ref k), σ, rfl, hp, by rw [ht]; exact hP⟩, hS.F ht⟩) hS.2.2 hd hlk
end GR
/-- entry i of own's pool is method ν: of objects, or static; with n parameters -/
def LkV (own : String) (i : Nat) (ν : Mt) (n : Nat) : Prop := Cond.methodLink own i ν.1 ∈ tb ∧ Cond.instanceMethod ν.1 ∈ tb ∧ Cond.selects ν.1.cls ν.1 ν.1 ∈ tb ∧ Cond.initialized ν.1.cls ∈ tb ∧ Cond.code ν.1 ν.2.1 ν.2.2.1 ν.2.2.2 ∈ tb ∧ (ν.1.cls ≠ "java/lang/invoke/MethodHandle" ∧ ν.1.cls ≠ "java/lang/invoke/VarHandle" ∧ (parseMethodDescriptor ν.1.desc).map (fun d => d.parameters.length) = some n) ∧ ν.2.2.1 ≤ 20
def LkS (own : String) (i : Nat) (ν : Mt) (n : Nat) : Prop := Cond.methodLink own i ν.1 ∈ tb ∧ Cond.static ν.1 ∈ tb ∧ Cond.initialized ν.1.cls ∈ tb ∧ Cond.code ν.1 ν.2.1 ν.2.2.1 ν.2.2.2 ∈ tb ∧ (ν.1.cls ≠ "java/lang/invoke/MethodHandle" ∧ ν.1.cls ≠ "java/lang/invoke/VarHandle" ∧ (parseMethodDescriptor ν.1.desc).map (fun d => d.parameters.length) = some n) ∧ ν.2.2.1 ≤ 20
theorem good_tb {ν : Mt} (h : Cond.code ν.1 ν.2.1 ν.2.2.1 ν.2.2.2 ∈ tb) : GoodIn tb (wds ν) := by
  intro w hw
  have hm : w ∈ tb := by
    rcases List.mem_cons.mp hw with e | e
    · rw [e]; exact h
    · exact e
  exact ⟨hm, good_of_word (List.mem_filter.mp hm).2⟩
section GC
variable {Γ : MC} {X : CX} {σ : Store} {L L' : List (Option Value)} {st : List Value} {pc : Nat} {Post : Option Value → Store → Prop}
theorem Pw_blind {Λ : Lay} {dC : Nat → ClassId} {dI : Nat → Nat → Nat} {cI cB : ClassId} {ad : Nat → Nat} {av : List Value} : FrameBlind (va_Pc av (Pw Λ dC dI cI cB ad σ)) := by
  intro a U g mk h
  obtain ⟨h0, h1, h2, h3, h4⟩ := h
  exact ⟨h0, h1, va_K.moved (u := U) (U := U.calling g mk a) (Vm.Alike.refl U.vm) h2, h3, h4.calling g mk a⟩
theorem Pw_at {Λ : Lay} {dC : Nat → ClassId} {dI : Nat → Nat → Nat} {cI cB : ClassId} {ad : Nat → Nat} {A : Nat → Prop} {s U : State} {H : Heap} {locs : List Loc} (hP : va_P (dC, dI) classes (wr cI cB ad σ 0 Λ) H) (hS : va_S A s.heap H locs) (hK : va_K (dC, dI) classes (tyl cI cB) s) (hAp : Ap Λ ad) (hA : ∀ k, k < Λ.length → A (ad k)) (hRO : RO ad A s) (hU : U.heap = H) (hW : s.WarmedH U.vm) : Pw Λ dC dI cI cB ad σ U :=
  ⟨by rw [hU]; exact hP, va_K.moved hW.alike hK, hAp, hRO.later hS hU hW (fun q ⟨k, h1, h2⟩ => by rw [h2]; exact hA k h1)⟩
theorem g_run {p : Program} {l : Launch} {e : Env} {R : Room} {s : State} {m : MethodId} {args : Array Value} {below : List Frame} {meth : Method} {c : Code} {Q : State → Prop} {dC : Nat → ClassId} {dI : Nat → Nat → Nat} {cI cB : ClassId} {ad : Nat → Nat} {A : Nat → Prop} {cells slots : Nat} {H : Heap} {locs : List Loc} {ls : Array Slot} {st0 rest : List Value} {a : Array Value}
    (hr : va_Run p l e R s m args below meth c H locs cells slots 0 0 (F0 m pc ls st0) (rest.map (cv ad)) (Qw Γ.1 dC dI cI cB ad Post a) (Aw Γ.1 ad)) (hS : va_S A s.heap H locs) (hA : ∀ k, k < Γ.1.length → A (ad k)) (kk : ∀ (v : Option Value) (σ' : Store) (H1 : Heap) (locs1 : List Loc), Post v σ' → va_P (dC, dI) classes (wr cI cB ad σ' 0 Γ.1) H1 → va_S A s.heap H1 locs1 → W p l e R s m args below meth c H1 locs1 cells slots Q (F0 m (pc + 3) ls ((v.toList ++ rest).map (cv ad)))) : W p l e R s m args below meth c H locs cells slots Q (F0 m pc ls st0) := by
  have hA' : ∀ q, Aw Γ.1 ad q → A q := fun q ⟨k, h1, h2⟩ => by rw [h2]; exact hA k h1
  intro T hT Y
  obtain ⟨v, st₀, t, T', L, h0, Y', hL, e1, e2, ⟨⟨w, σ', hv, hp, hP1⟩, hz, hk⟩, go⟩ := hr T hT Y
  have hv' : v = w.map (cv ad) := Outcome.returned.inj hv
  subst hv'
  rw [h0] at hz hk
  obtain ⟨t2, a1, b1⟩ := kk w σ' T'.heap (locs ++ L) hp (by rw [e1]; exact hP1)
    ⟨Nat.le_trans hS.1 (by rw [e1]; exact hz), fun q h1 h2 => by rw [e1, hk q (Nat.lt_of_lt_of_le h1 hS.1) (fun z => h2 (hA' q z))]; exact hS.2.1 q h1 h2, fun q hq => by
      rcases List.mem_append.mp hq with h | h
      · exact hS.2.2 q h
      · exact hA' _ (hL q h)⟩ T' rfl Y'
  refine ⟨t2, go t2 ?_, b1⟩
  have e3 : (w.toList ++ rest).map (cv ad) = (w.map (cv ad)).toList ++ rest.map (cv ad) := by cases w <;> simp
  rw [e3] at a1
  exact a1
theorem room_cv {m : MethodId} {pc : Nat} {ls : Array Slot} {stk rest : List Value} (ad : Nat → Nat) (h : (rest.map (fun v => v.category)).sum ≤ 8) : 2 * (F0 m pc ls stk).monitorRoom + ((rest.map (cv ad)).map fun v => v.category).sum ≤ 8 := by
  have e1 : (fun v : Value => v.category) ∘ cv ad = fun v => v.category := by
    funext v
    exact cv_cat ad v
  rw [List.map_map, e1]
  show 2 * 0 + _ ≤ 8
  omega
theorem g_callV {i k ci n d : Nat} {ν : Mt} {As rest : List Value} {fs : List (Option Nat)} {T : u_T} {N : Nat} (hd : decode Γ.2.1.2.1 pc = .ok (.invokevirtual i, 3)) (hlk : LkV Γ.2.1.1.cls i ν n) (hn : As.length = n) (hst : st = As.reverse ++ .ref k :: rest) (hk : Γ.1[k]? = some (.inr (ci, fs))) (hci : classes[ci]? = some (ν.1.cls, T, N)) (hroom : (rest.map (fun v => v.category)).sum ≤ 8) (hdep : d < Γ.2.2) (hC : Ct Γ.1 ν d (.ref k :: As) σ Post) (kk : ∀ (v : Option Value) (σ' : Store), Post v σ' → G Γ X σ' L (v.toList ++ rest) (pc + 3)) : G Γ X σ L st pc := by
  obtain ⟨⟨p, l, e, R⟩, ⟨s, m, args, below⟩, ⟨meth, c, Q⟩, ⟨dC, dI, cI, cB⟩, ⟨ad, A, cells, slots⟩⟩ := X
  intro ok H locs ls hP hS hl
  have h1 := fun v σ' H locs hp hP hS => kk v σ' hp ok H locs ls hP hS hl
  obtain ⟨hx, hb, hm, hown, hts, hK, hAp, hA, hRO, hfr, hlo, hce, hsl⟩ := ok
  obtain ⟨l1, l2, l3, l4, l5, l6, l7⟩ := hlk
  subst hst
  have cw : CallW R s args Γ.2.1.1.cls ν.1.cls i ν.1 ν.2.1 ν.2.2.1 ν.2.2.2 (wds ν) (rmd d) 0 0 n :=
    ⟨callB_of n hts (good_tb l5) rfl rfl rfl (hts _ l4) (hts _ l1) l6 ⟨by show d + 1 ≤ _; omega, by show 8 + (ν.2.2.1 + 11) + 40 * d ≤ _; omega⟩, hts _ l2, hts _ l3⟩
  have hst2 : (As.reverse ++ .ref k :: rest).map (cv ad) = (As.map (cv ad)).reverse ++ .ref (ad k) :: rest.map (cv ad) := by simp [cv]
  have hrm := room_cv (m := m) (pc := pc) (ls := ls) (stk := (As.reverse ++ .ref k :: rest).map (cv ad)) ad hroom
  have hrun := va_runV (p := p) (e := e) (below := below) (meth := meth) (locs := locs) (cells := cells) (slots := slots) (nL := Γ.2.1.2.2.1) (g := F0 m pc ls ((As.reverse ++ .ref k :: rest).map (cv ad))) (As := As.map (cv ad)) (rest := rest.map (cv ad)) (b := ad k) ⟨hx, hb, hm, hown, hts⟩ (hC l dC dI cI cB ad) cw ⟨Pw_blind, va_recv hK hP hci (wr_at hk), fun U hU hW => ⟨rfl, Pw_at hP hS hK hAp hA hRO hU hW⟩⟩ rfl (by rw [List.length_map]; exact hn) hl.1 hst2 hrm hd ⟨hce, hsl⟩
  exact g_run (Γ := Γ) (A := A) (rest := rest) hrun hS hA (fun v σ' H1 locs1 hp hP1 hS1 => h1 v σ' H1 locs1 hp hP1 hS1)
theorem g_callS {i n d : Nat} {ν : Mt} {As rest : List Value} (hd : decode Γ.2.1.2.1 pc = .ok (.invokestatic i, 3)) (hlk : LkS Γ.2.1.1.cls i ν n) (hn : As.length = n) (hst : st = As.reverse ++ rest) (hroom : (rest.map (fun v => v.category)).sum ≤ 8) (hdep : d < Γ.2.2) (hC : Ct Γ.1 ν d As σ Post) (kk : ∀ (v : Option Value) (σ' : Store), Post v σ' → G Γ X σ' L (v.toList ++ rest) (pc + 3)) : G Γ X σ L st pc := by
  obtain ⟨⟨p, l, e, R⟩, ⟨s, m, args, below⟩, ⟨meth, c, Q⟩, ⟨dC, dI, cI, cB⟩, ⟨ad, A, cells, slots⟩⟩ := X
  intro ok H locs ls hP hS hl
  have h1 := fun v σ' H locs hp hP hS => kk v σ' hp ok H locs ls hP hS hl
  obtain ⟨hx, hb, hm, hown, hts, hK, hAp, hA, hRO, hfr, hlo, hce, hsl⟩ := ok
  obtain ⟨l1, l2, l4, l5, l6, l7⟩ := hlk
  subst hst
  have cw : CallB R s args Γ.2.1.1.cls i ν.1 ν.2.1 ν.2.2.1 ν.2.2.2 (wds ν) (rmd d) 0 0 n ∧ (Cond.static ν.1).before args s = true :=
    ⟨callB_of n hts (good_tb l5) rfl rfl rfl (hts _ l4) (hts _ l1) l6 ⟨by show d + 1 ≤ _; omega, by show 8 + (ν.2.2.1 + 11) + 40 * d ≤ _; omega⟩, hts _ l2⟩
  have hst2 : (As.reverse ++ rest).map (cv ad) = (As.map (cv ad)).reverse ++ rest.map (cv ad) := by simp
  have hrm := room_cv (m := m) (pc := pc) (ls := ls) (stk := (As.reverse ++ rest).map (cv ad)) ad hroom
  have hrun := va_runS (p := p) (e := e) (below := below) (meth := meth) (locs := locs) (cells := cells) (slots := slots) (nL := Γ.2.1.2.2.1) (g := F0 m pc ls ((As.reverse ++ rest).map (cv ad))) (As := As.map (cv ad)) (rest := rest.map (cv ad)) ⟨hx, hb, hm, hown, hts⟩ (hC l dC dI cI cB ad) cw ⟨Pw_blind, fun U hU hW => ⟨rfl, Pw_at hP hS hK hAp hA hRO hU hW⟩⟩ rfl (by rw [List.length_map]; exact hn) hl.1 hst2 hrm hd ⟨hce, hsl⟩
  exact g_run (Γ := Γ) (A := A) (rest := rest) hrun hS hA (fun v σ' H1 locs1 hp hP1 hS1 => h1 v σ' H1 locs1 hp hP1 hS1)
end GC
end
section
/-! a contract over a small store serves a larger one that holds its cells: the frame rule -/
theorem Met.conseq {l : Launch} {y : MethodName} {ws : List Cond} {rm : Room} {Pc Pc' : Array Value → State → Prop} {Qc Qc' : Array Value → State → Outcome → State → Prop} {mc ms : Nat} {free free' : Addr → Prop} (h : Met l y ws rm Pc Qc mc ms free) (hP : ∀ a s, Pc' a s → Pc a s) (hQ : ∀ a s o t, Pc' a s → Qc a s o t → Qc' a s o t) (hF : ∀ q, free q → free' q) : Met l y ws rm Pc' Qc' mc ms free' := by
  intro p e h1 h2 h3 s m args below hf happ hp hK
  obtain ⟨n, o, a1, a2, a3, a4, Ls, a5, a6⟩ := h p e h1 h2 h3 s m args below hf happ (hP _ _ hp) hK
  exact ⟨n, o, a1, a2, a3, hQ _ _ _ _ hp a4, Ls, a5, fun q hq => hF _ (a6 q hq)⟩
theorem Ct.post {Λ : Lay} {μ : Mt} {d : Nat} {as : List Value} {σ : Store} {P P' : Option Value → Store → Prop} (h : Ct Λ μ d as σ P) (hp : ∀ v σ', P v σ' → P' v σ') : Ct Λ μ d as σ P' := by
  intro l dC dI cI cB ad
  refine Met.conseq (h l dC dI cI cB ad) (fun _ _ h => h) ?_ (fun _ h => h)
  rintro a s o t _ ⟨⟨v, σ', h1, h2, h3⟩, h4⟩
  exact ⟨⟨v, σ', h1, hp v σ' h2, h3⟩, h4⟩
theorem RO.narrow {ad : Nat → Nat} {A B : Nat → Prop} {U : State} (h : RO ad A U) (hB : ∀ q, B q → A q) : RO ad B U := by
  obtain ⟨h1, h2, h3, h4, h5, h6, h7⟩ := h
  refine ⟨fun j hj => ⟨(h1 j hj).1.narrow hB, (h1 j hj).2.narrow hB⟩, h2.narrow hB, h3, h4.narrow hB, ?_, h6, h7⟩
  rcases h5 with h | h
  · exact Or.inl (h.narrow hB)
  · exact Or.inr (h.narrow hB)
/-- the number in the larger store -/
def io (is : List Nat) (k : Nat) : Nat := is.getD k k
def re (is : List Nat) : Value → Value
  | .ref k => .ref (io is k)
  | v => v
def reS (is : List Nat) : Shape → Shape
  | .inl q => .inl q
  | .inr (ci, fs) => .inr (ci, fs.map (fun o => o.map (io is)))
def sub (is : List Nat) (σ : Store) : Store := fun k => σ (io is k)
def pos (is : List Nat) : Nat → Nat → Option Nat := match is with
  | [] => fun _ _ => none
  | a :: r => fun j k => if a = k then some j else pos r (j + 1) k
def over (σ : Store) (is : List Nat) (τ : Store) : Store := fun k => match pos is 0 k with
  | some j => τ j
  | none => σ k
def embB (Λ1 Λ2 : Lay) (is : List Nat) : Bool := decide (is.length = Λ1.length) && decide (is.length ≤ 900) && decide is.Nodup && (List.range Λ1.length).all (fun k => decide (Λ2[io is k]? = Λ1[k]?.map (reS is)))
theorem pos_some : ∀ (is : List Nat) (j0 k j : Nat), pos is j0 k = some j → j0 ≤ j ∧ is[j - j0]? = some k := by
  intro is
  induction is with
  | nil => intro j0 k j h; cases h
  | cons a r ih =>
    intro j0 k j h
    have h' : (if a = k then some j0 else pos r (j0 + 1) k) = some j := h
    by_cases e : a = k
    · rw [if_pos e] at h'
      cases h'
      refine ⟨Nat.le_refl _, ?_⟩
      rw [Nat.sub_self, e]; rfl
    · rw [if_neg e] at h'
      obtain ⟨h1, h2⟩ := ih _ _ _ h'
      refine ⟨by omega, ?_⟩
      rw [show j - j0 = (j - (j0 + 1)) + 1 by omega]
      exact h2
theorem pos_none : ∀ (is : List Nat) (j0 k : Nat), pos is j0 k = none → k ∉ is := by
  intro is
  induction is with
  | nil => intro j0 k h; exact List.not_mem_nil
  | cons a r ih =>
    intro j0 k h
    have h' : (if a = k then some j0 else pos r (j0 + 1) k) = none := h
    by_cases e : a = k
    · rw [if_pos e] at h'; cases h'
    · rw [if_neg e] at h'
      intro hm
      rcases List.mem_cons.mp hm with q | q
      · exact e q.symm
      · exact ih _ _ h' q
theorem fv_re (is : List Nat) (ad : Nat → Nat) (v : Nat → Int32) : ∀ (fs : List (Option Nat)) (j : Nat), fv ad v j (fs.map (fun o => o.map (io is))) = fv (fun k => ad (io is k)) v j fs := by
  intro fs
  induction fs with
  | nil => intro j; rfl
  | cons f r ih => intro j; cases f <;> simp [fv, ih]
theorem ce_re (is : List Nat) (cI cB : ClassId) (ad : Nat → Nat) (v : Nat → Int32) (sh : Shape) : ce cI cB ad v (reS is sh) = ce cI cB (fun k => ad (io is k)) v sh := by
  rcases sh with ⟨b, n⟩ | ⟨ci, fs⟩
  · rfl
  · simp [reS, ce, fv_re]
theorem cv_re (is : List Nat) (ad : Nat → Nat) (v : Value) : cv ad (re is v) = cv (fun k => ad (io is k)) v := by cases v <;> rfl
theorem io_at {is : List Nat} {k : Nat} (h : k < is.length) : is[k]? = some (io is k) := by
  unfold io
  rw [List.getD_eq_getElem?_getD, List.getElem?_eq_getElem h]; rfl
theorem Ct.emb {Λ1 Λ2 : Lay} {μ : Mt} {d : Nat} {as : List Value} {σ : Store} {Post : Option Value → Store → Prop} (is : List Nat) (hE : embB Λ1 Λ2 is = true) (h : Ct Λ1 μ d as (sub is σ) Post) : Ct Λ2 μ d (as.map (re is)) σ (fun v σ' => ∃ (w : Option Value) (τ : Store), Post w τ ∧ v = w.map (re is) ∧ σ' = over σ is τ) := by
  simp only [embB, Bool.and_eq_true, decide_eq_true_eq, List.all_eq_true, List.mem_range] at hE
  obtain ⟨⟨⟨hlen, h900⟩, hnd⟩, hall⟩ := hE
  have hsh : ∀ (k : Nat) (sh : Shape), Λ1[k]? = some sh → Λ2[io is k]? = some (reS is sh) := by
    intro k sh hk
    have hl : k < Λ1.length := (List.getElem?_eq_some_iff.mp hk).1
    rw [hall k hl, hk]; rfl
  have hin : ∀ k, k < Λ1.length → io is k < Λ2.length := by
    intro k hk
    have := hsh k _ (List.getElem?_eq_getElem hk)
    exact (List.getElem?_eq_some_iff.mp this).1
  have hinj : ∀ i j, i < Λ1.length → j < Λ1.length → io is i = io is j → i = j := by
    intro i j hi hj e
    have h1 := io_at (is := is) (k := i) (by omega)
    have h2 := io_at (is := is) (k := j) (by omega)
    rw [e] at h1
    exact (List.getElem?_inj (i := i) (by omega) hnd).mp (h1.trans h2.symm)
  intro l dC dI cI cB ad
  have hA : ∀ q, Aw Λ1 (fun k => ad (io is k)) q → Aw Λ2 ad q := fun q ⟨k, h1, h2⟩ => ⟨io is k, hin k h1, h2⟩
  refine Met.conseq (h l dC dI cI cB (fun k => ad (io is k))) ?_ ?_ hA
  · rintro a s ⟨ha, hP, hK, hAp, hRO⟩
    refine ⟨?_, ?_, hK, fun i j hi hj e => hinj i j hi hj (hAp _ _ (hin i hi) (hin j hj) e), (hRO.narrow hA).re (fun k hk => ?_)⟩
    · rw [ha, List.map_map]
      congr 1
      apply List.map_congr_left
      intro v _
      exact cv_re is ad v
    · intro k q hq
      rw [wr_get] at hq
      cases hs : Λ1[k]? with
      | none => rw [hs] at hq; cases hq
      | some sh =>
        rw [hs] at hq
        have hq' := Option.some.inj hq
        rw [← hq']
        have h2 := hP (io is k) _ (wr_at (hsh k sh hs))
        rw [ce_re] at h2
        simp only [Nat.zero_add]
        exact h2
    · have : is.length ≤ k := by omega
      show ad (is.getD k k) = ad k
      rw [List.getD_eq_getElem?_getD, List.getElem?_eq_none this]; rfl
  · rintro a s o t ⟨ha, hP, hK, hAp, hRO⟩ ⟨⟨w, τ, h1, h2, h3⟩, hz, hk⟩
    refine ⟨⟨w.map (re is), over σ is τ, ?_, ⟨w, τ, h2, rfl, rfl⟩, ?_⟩, hz, fun q h1 h2 => hk q h1 (fun z => h2 (hA q z))⟩
    · rw [h1, Option.map_map]
      congr 2
      funext v
      exact (cv_re is ad v).symm
    · intro k q hq
      rw [wr_get] at hq
      cases hs : Λ2[k]? with
      | none => rw [hs] at hq; cases hq
      | some sh =>
        rw [hs] at hq
        have hq' := Option.some.inj hq
        rw [← hq']
        simp only [Nat.zero_add]
        cases hp : pos is 0 k with
        | some j =>
          obtain ⟨-, hj⟩ := pos_some is 0 k j hp
          rw [Nat.sub_zero] at hj
          have hjl : j < is.length := (List.getElem?_eq_some_iff.mp hj).1
          have hio : io is j = k := by
            have := io_at hjl
            rw [hj] at this
            exact (Option.some.inj this).symm
          obtain ⟨sh1, hs1⟩ : ∃ sh1, Λ1[j]? = some sh1 := ⟨_, List.getElem?_eq_getElem (by omega)⟩
          have e2 := hsh j sh1 hs1
          rw [hio, hs] at e2
          have e3 : sh = reS is sh1 := Option.some.inj e2
          have h4 := h3 j _ (wr_at hs1)
          have e4 : over σ is τ k = τ j := by simp [over, hp]
          rw [e4, e3, ce_re]
          have e5 : ad k = (fun k => ad (io is k)) j := by show ad k = ad (io is j); rw [hio]
          rw [e5]
          exact h4
        | none =>
          have hn := pos_none is 0 k hp
          have e4 : over σ is τ k = σ k := by simp [over, hp]
          rw [e4]
          have h4 := hP k _ (wr_at hs)
          refine h4.kept (hk (ad k) h4.lt (fun z => ?_))
          obtain ⟨j, hj, e5⟩ := z
          have hkl : k < Λ2.length := (List.getElem?_eq_some_iff.mp hs).1
          have e6 : k = io is j := hAp k (io is j) hkl (hin j hj) e5
          apply hn
          rw [e6]
          exact List.mem_of_getElem? (io_at (by omega))
/-- contracts by the sort of their answer -/
def PI (P : Int32 → Store → Prop) : Option Value → Store → Prop := fun v σ => ∃ r, v = some (.int r) ∧ P r σ
def PL (P : Int64 → Store → Prop) : Option Value → Store → Prop := fun v σ => ∃ r, v = some (.long r) ∧ P r σ
def PV (P : Store → Prop) : Option Value → Store → Prop := fun v σ => v = none ∧ P σ
section GD
variable {Γ : MC} {X : CX} {σ : Store} {L L' : List (Option Value)} {st : List Value} {pc : Nat}
theorem g_callVI {i k ci n d : Nat} {ν : Mt} {rest : List Value} {fs : List (Option Nat)} {T : u_T} {N : Nat} {P : Int32 → Store → Prop} (As : List Value) (hd : decode Γ.2.1.2.1 pc = .ok (.invokevirtual i, 3)) (hlk : LkV Γ.2.1.1.cls i ν n) (hC : Ct Γ.1 ν d (.ref k :: As) σ (PI P)) (hn : As.length = n) (hst : st = As.reverse ++ .ref k :: rest) (hk : Γ.1[k]? = some (.inr (ci, fs))) (hci : classes[ci]? = some (ν.1.cls, T, N)) (hroom : (rest.map (fun v => v.category)).sum ≤ 8) (hdep : d < Γ.2.2) (kk : ∀ (r : Int32) (σ' : Store), P r σ' → G Γ X σ' L (.int r :: rest) (pc + 3)) : G Γ X σ L st pc :=
  g_callV hd hlk hn hst hk hci hroom hdep hC (fun v σ' h => by obtain ⟨r, rfl, h⟩ := h; exact kk r σ' h)
theorem g_callVL {i k ci n d : Nat} {ν : Mt} {rest : List Value} {fs : List (Option Nat)} {T : u_T} {N : Nat} {P : Int64 → Store → Prop} (As : List Value) (hd : decode Γ.2.1.2.1 pc = .ok (.invokevirtual i, 3)) (hlk : LkV Γ.2.1.1.cls i ν n) (hC : Ct Γ.1 ν d (.ref k :: As) σ (PL P)) (hn : As.length = n) (hst : st = As.reverse ++ .ref k :: rest) (hk : Γ.1[k]? = some (.inr (ci, fs))) (hci : classes[ci]? = some (ν.1.cls, T, N)) (hroom : (rest.map (fun v => v.category)).sum ≤ 8) (hdep : d < Γ.2.2) (kk : ∀ (r : Int64) (σ' : Store), P r σ' → G Γ X σ' L (.long r :: rest) (pc + 3)) : G Γ X σ L st pc :=
  g_callV hd hlk hn hst hk hci hroom hdep hC (fun v σ' h => by obtain ⟨r, rfl, h⟩ := h; exact kk r σ' h)
theorem g_callVV {i k ci n d : Nat} {ν : Mt} {rest : List Value} {fs : List (Option Nat)} {T : u_T} {N : Nat} {P : Store → Prop} (As : List Value) (hd : decode Γ.2.1.2.1 pc = .ok (.invokevirtual i, 3)) (hlk : LkV Γ.2.1.1.cls i ν n) (hC : Ct Γ.1 ν d (.ref k :: As) σ (PV P)) (hn : As.length = n) (hst : st = As.reverse ++ .ref k :: rest) (hk : Γ.1[k]? = some (.inr (ci, fs))) (hci : classes[ci]? = some (ν.1.cls, T, N)) (hroom : (rest.map (fun v => v.category)).sum ≤ 8) (hdep : d < Γ.2.2) (kk : ∀ (σ' : Store), P σ' → G Γ X σ' L rest (pc + 3)) : G Γ X σ L st pc :=
  g_callV hd hlk hn hst hk hci hroom hdep hC (fun v σ' h => by obtain ⟨rfl, h⟩ := h; exact kk σ' h)
theorem g_callSI {i n d : Nat} {ν : Mt} {rest : List Value} {P : Int32 → Store → Prop} (As : List Value) (hd : decode Γ.2.1.2.1 pc = .ok (.invokestatic i, 3)) (hlk : LkS Γ.2.1.1.cls i ν n) (hC : Ct Γ.1 ν d As σ (PI P)) (hn : As.length = n) (hst : st = As.reverse ++ rest) (hroom : (rest.map (fun v => v.category)).sum ≤ 8) (hdep : d < Γ.2.2) (kk : ∀ (r : Int32) (σ' : Store), P r σ' → G Γ X σ' L (.int r :: rest) (pc + 3)) : G Γ X σ L st pc :=
  g_callS hd hlk hn hst hroom hdep hC (fun v σ' h => by obtain ⟨r, rfl, h⟩ := h; exact kk r σ' h)
theorem g_callSL {i n d : Nat} {ν : Mt} {rest : List Value} {P : Int64 → Store → Prop} (As : List Value) (hd : decode Γ.2.1.2.1 pc = .ok (.invokestatic i, 3)) (hlk : LkS Γ.2.1.1.cls i ν n) (hC : Ct Γ.1 ν d As σ (PL P)) (hn : As.length = n) (hst : st = As.reverse ++ rest) (hroom : (rest.map (fun v => v.category)).sum ≤ 8) (hdep : d < Γ.2.2) (kk : ∀ (r : Int64) (σ' : Store), P r σ' → G Γ X σ' L (.long r :: rest) (pc + 3)) : G Γ X σ L st pc :=
  g_callS hd hlk hn hst hroom hdep hC (fun v σ' h => by obtain ⟨r, rfl, h⟩ := h; exact kk r σ' h)
theorem g_callSV {i n d : Nat} {ν : Mt} {rest : List Value} {P : Store → Prop} (As : List Value) (hd : decode Γ.2.1.2.1 pc = .ok (.invokestatic i, 3)) (hlk : LkS Γ.2.1.1.cls i ν n) (hC : Ct Γ.1 ν d As σ (PV P)) (hn : As.length = n) (hst : st = As.reverse ++ rest) (hroom : (rest.map (fun v => v.category)).sum ≤ 8) (hdep : d < Γ.2.2) (kk : ∀ (σ' : Store), P σ' → G Γ X σ' L rest (pc + 3)) : G Γ X σ L st pc :=
  g_callS hd hlk hn hst hroom hdep hC (fun v σ' h => by obtain ⟨rfl, h⟩ := h; exact kk σ' h)
end GD
theorem Ct.embI {Λ1 Λ2 : Lay} {μ : Mt} {d : Nat} {as as' : List Value} {σ : Store} {P : Int32 → Store → Prop} (is : List Nat) (h : Ct Λ1 μ d as (sub is σ) (PI P)) (hE : embB Λ1 Λ2 is = true) (ha : as.map (re is) = as') : Ct Λ2 μ d as' σ (PI (fun r σ' => ∃ τ, P r τ ∧ σ' = over σ is τ)) := by
  subst ha
  refine (Ct.emb is hE h).post ?_
  rintro v σ' ⟨w, τ, ⟨r, rfl, h1⟩, rfl, rfl⟩
  exact ⟨r, rfl, τ, h1, rfl⟩
theorem Ct.embV {Λ1 Λ2 : Lay} {μ : Mt} {d : Nat} {as as' : List Value} {σ : Store} {P : Store → Prop} (is : List Nat) (h : Ct Λ1 μ d as (sub is σ) (PV P)) (hE : embB Λ1 Λ2 is = true) (ha : as.map (re is) = as') : Ct Λ2 μ d as' σ (PV (fun σ' => ∃ τ, P τ ∧ σ' = over σ is τ)) := by
  subst ha
  refine (Ct.emb is hE h).post ?_
  rintro v σ' ⟨w, τ, ⟨rfl, h1⟩, rfl, rfl⟩
  exact ⟨rfl, τ, h1, rfl⟩
theorem Ct.embL {Λ1 Λ2 : Lay} {μ : Mt} {d : Nat} {as as' : List Value} {σ : Store} {P : Int64 → Store → Prop} (is : List Nat) (h : Ct Λ1 μ d as (sub is σ) (PL P)) (hE : embB Λ1 Λ2 is = true) (ha : as.map (re is) = as') : Ct Λ2 μ d as' σ (PL (fun r σ' => ∃ τ, P r τ ∧ σ' = over σ is τ)) := by
  subst ha
  refine (Ct.emb is hE h).post ?_
  rintro v σ' ⟨w, τ, ⟨r, rfl, h1⟩, rfl, rfl⟩
  exact ⟨r, rfl, τ, h1, rfl⟩
end
section
/-! rows over small numbers: an int that is nI of a Nat stays so -/
abbrev PB (σ : Store) (q : Prop) : Option Value → Store → Prop := PI (fun r σ' => σ' = σ ∧ ((r = nI 1 ∧ q) ∨ (r = nI 0 ∧ ¬ q)))
/-- a function's answer, the store as it was, or as told -/
abbrev PF (v : Int32) (σ : Store) : Option Value → Store → Prop := PI (fun r σ' => r = v ∧ σ' = σ)
abbrev PFL (v : Int64) (σ : Store) : Option Value → Store → Prop := PL (fun r σ' => r = v ∧ σ' = σ)
abbrev PU (σ : Store) : Option Value → Store → Prop := PV (fun σ' => σ' = σ)
section GN
variable {Γ : MC} {X : CX} {σ : Store} {L L' : List (Option Value)} {st : List Value} {pc : Nat}
theorem g_iaddN {a b : Nat} (hd : decode Γ.2.1.2.1 pc = .ok (.iadd, 1)) (k : G Γ X σ L (.int (nI (a + b)) :: st) (pc + 1)) : G Γ X σ L (.int (nI b) :: .int (nI a) :: st) pc := g_iadd hd (by rw [nI_add]; exact k)
theorem g_isubN {a b : Nat} (hd : decode Γ.2.1.2.1 pc = .ok (.isub, 1)) (h : b ≤ a) (k : G Γ X σ L (.int (nI (a - b)) :: st) (pc + 1)) : G Γ X σ L (.int (nI b) :: .int (nI a) :: st) pc := g_isub hd (by rw [pk_sub h]; exact k)
theorem g_imulN {a b : Nat} (hd : decode Γ.2.1.2.1 pc = .ok (.imul, 1)) (k : G Γ X σ L (.int (nI (a * b)) :: st) (pc + 1)) : G Γ X σ L (.int (nI b) :: .int (nI a) :: st) pc := g_imul hd (by rw [pk_mul]; exact k)
theorem g_idivN {a b : Nat} (hd : decode Γ.2.1.2.1 pc = .ok (.idiv, 1)) (ha : a < 2 ^ 31) (h0 : 0 < b) (hb : b < 2 ^ 31) (k : G Γ X σ L (.int (nI (a / b)) :: st) (pc + 1)) : G Γ X σ L (.int (nI b) :: .int (nI a) :: st) pc := g_idiv hd (nI_ne0 h0 hb) (by rw [pk_div ha h0 hb]; exact k)
theorem g_iremN {a b : Nat} (hd : decode Γ.2.1.2.1 pc = .ok (.irem, 1)) (ha : a < 2 ^ 31) (h0 : 0 < b) (hb : b < 2 ^ 31) (k : G Γ X σ L (.int (nI (a % b)) :: st) (pc + 1)) : G Γ X σ L (.int (nI b) :: .int (nI a) :: st) pc := g_irem hd (nI_ne0 h0 hb) (by rw [pk_rem ha h0 hb]; exact k)
theorem g_i2lN {a : Nat} (hd : decode Γ.2.1.2.1 pc = .ok (.i2l, 1)) (ha : a < 2 ^ 31) (k : G Γ X σ L (.long (lN a) :: st) (pc + 1)) : G Γ X σ L (.int (nI a) :: st) pc := g_i2l hd (by rw [nI_l ha]; exact k)
theorem g_iincN {i a n : Nat} {z : Int} (hd : decode Γ.2.1.2.1 pc = .ok (.iinc i z, 3)) (h : L[i]? = some (some (.int (nI a)))) (hz : Int32.ofInt z = nI n) (hn : i < Γ.2.1.2.2.1) (hL : st1 L i (.int (nI (a + n))) = L') (k : G Γ X σ L' st (pc + 3)) : G Γ X σ L st pc := g_iinc hd h (by rw [hz, nI_add]) hn hL k
theorem g_iincD {i a : Nat} (hd : decode Γ.2.1.2.1 pc = .ok (.iinc i (-1), 3)) (h : L[i]? = some (some (.int (nI (a + 1))))) (hn : i < Γ.2.1.2.2.1) (hL : st1 L i (.int (nI a)) = L') (k : G Γ X σ L' st (pc + 3)) : G Γ X σ L st pc := g_iinc hd h (pk_m1 a) hn hL k
theorem g_icmp_eqN {a b : Nat} {off : Int} {tgt : Nat} (hd : decode Γ.2.1.2.1 pc = .ok (.if_icmp .eq off, 3)) (ht : (pc : Int) + off = (tgt : Int)) (ha : a < 2 ^ 31) (hb : b < 2 ^ 31) (kt : a = b → G Γ X σ L st tgt) (kf : ¬ a = b → G Γ X σ L st (pc + 3)) : G Γ X σ L (.int (nI b) :: .int (nI a) :: st) pc := g_icmp_eq hd ht (fun h => kt ((nI_eq ha hb).mp h)) (fun h => kf (fun q => h ((nI_eq ha hb).mpr q)))
theorem g_icmp_neN {a b : Nat} {off : Int} {tgt : Nat} (hd : decode Γ.2.1.2.1 pc = .ok (.if_icmp .ne off, 3)) (ht : (pc : Int) + off = (tgt : Int)) (ha : a < 2 ^ 31) (hb : b < 2 ^ 31) (kt : ¬ a = b → G Γ X σ L st tgt) (kf : a = b → G Γ X σ L st (pc + 3)) : G Γ X σ L (.int (nI b) :: .int (nI a) :: st) pc := g_icmp_ne hd ht (fun h => kt (fun q => h ((nI_eq ha hb).mpr q))) (fun h => kf ((nI_eq ha hb).mp h))
theorem g_icmp_ltN {a b : Nat} {off : Int} {tgt : Nat} (hd : decode Γ.2.1.2.1 pc = .ok (.if_icmp .lt off, 3)) (ht : (pc : Int) + off = (tgt : Int)) (ha : a < 2 ^ 31) (hb : b < 2 ^ 31) (kt : a < b → G Γ X σ L st tgt) (kf : ¬ a < b → G Γ X σ L st (pc + 3)) : G Γ X σ L (.int (nI b) :: .int (nI a) :: st) pc := g_icmp_lt hd ht (fun h => kt ((nI_ltI ha hb).mp h)) (fun h => kf (fun q => h ((nI_ltI ha hb).mpr q)))
theorem g_icmp_geN {a b : Nat} {off : Int} {tgt : Nat} (hd : decode Γ.2.1.2.1 pc = .ok (.if_icmp .ge off, 3)) (ht : (pc : Int) + off = (tgt : Int)) (ha : a < 2 ^ 31) (hb : b < 2 ^ 31) (kt : b ≤ a → G Γ X σ L st tgt) (kf : ¬ b ≤ a → G Γ X σ L st (pc + 3)) : G Γ X σ L (.int (nI b) :: .int (nI a) :: st) pc := g_icmp_ge hd ht (fun h => kt ((nI_leI hb ha).mp h)) (fun h => kf (fun q => h ((nI_leI hb ha).mpr q)))
theorem g_icmp_gtN {a b : Nat} {off : Int} {tgt : Nat} (hd : decode Γ.2.1.2.1 pc = .ok (.if_icmp .gt off, 3)) (ht : (pc : Int) + off = (tgt : Int)) (ha : a < 2 ^ 31) (hb : b < 2 ^ 31) (kt : b < a → G Γ X σ L st tgt) (kf : ¬ b < a → G Γ X σ L st (pc + 3)) : G Γ X σ L (.int (nI b) :: .int (nI a) :: st) pc := g_icmp_gt hd ht (fun h => kt ((nI_ltI hb ha).mp h)) (fun h => kf (fun q => h ((nI_ltI hb ha).mpr q)))
theorem g_icmp_leN {a b : Nat} {off : Int} {tgt : Nat} (hd : decode Γ.2.1.2.1 pc = .ok (.if_icmp .le off, 3)) (ht : (pc : Int) + off = (tgt : Int)) (ha : a < 2 ^ 31) (hb : b < 2 ^ 31) (kt : a ≤ b → G Γ X σ L st tgt) (kf : ¬ a ≤ b → G Γ X σ L st (pc + 3)) : G Γ X σ L (.int (nI b) :: .int (nI a) :: st) pc := g_icmp_le hd ht (fun h => kt ((nI_leI ha hb).mp h)) (fun h => kf (fun q => h ((nI_leI ha hb).mpr q)))
theorem nI_z {a : Nat} (ha : a < 2 ^ 31) : nI a = 0 ↔ a = 0 := nI_eq ha (by decide)
theorem g_if_eqN {a : Nat} {off : Int} {tgt : Nat} (hd : decode Γ.2.1.2.1 pc = .ok (.ifCond .eq off, 3)) (ht : (pc : Int) + off = (tgt : Int)) (ha : a < 2 ^ 31) (kt : a = 0 → G Γ X σ L st tgt) (kf : ¬ a = 0 → G Γ X σ L st (pc + 3)) : G Γ X σ L (.int (nI a) :: st) pc := g_if_eq hd ht (fun h => kt ((nI_z ha).mp h)) (fun h => kf (fun q => h ((nI_z ha).mpr q)))
theorem g_if_neN {a : Nat} {off : Int} {tgt : Nat} (hd : decode Γ.2.1.2.1 pc = .ok (.ifCond .ne off, 3)) (ht : (pc : Int) + off = (tgt : Int)) (ha : a < 2 ^ 31) (kt : ¬ a = 0 → G Γ X σ L st tgt) (kf : a = 0 → G Γ X σ L st (pc + 3)) : G Γ X σ L (.int (nI a) :: st) pc := g_if_ne hd ht (fun h => kt (fun q => h ((nI_z ha).mpr q))) (fun h => kf ((nI_z ha).mp h))
theorem g_if_ltN {a : Nat} {off : Int} (hd : decode Γ.2.1.2.1 pc = .ok (.ifCond .lt off, 3)) (ht : 0 ≤ (pc : Int) + off) (ha : a < 2 ^ 31) (kf : G Γ X σ L st (pc + 3)) : G Γ X σ L (.int (nI a) :: st) pc := g_if_lt (tgt := ((pc : Int) + off).toNat) hd (by omega) (fun h => absurd h (nI_pos ha)) (fun _ => kf)
theorem g_if_geN {a : Nat} {off : Int} {tgt : Nat} (hd : decode Γ.2.1.2.1 pc = .ok (.ifCond .ge off, 3)) (ht : (pc : Int) + off = (tgt : Int)) (ha : a < 2 ^ 31) (kt : G Γ X σ L st tgt) : G Γ X σ L (.int (nI a) :: st) pc := g_if_ge hd ht (fun _ => kt) (fun h => absurd (nI_pos' ha) h)
theorem g_if_gtN {a : Nat} {off : Int} {tgt : Nat} (hd : decode Γ.2.1.2.1 pc = .ok (.ifCond .gt off, 3)) (ht : (pc : Int) + off = (tgt : Int)) (ha : a < 2 ^ 31) (kt : 0 < a → G Γ X σ L st tgt) (kf : ¬ 0 < a → G Γ X σ L st (pc + 3)) : G Γ X σ L (.int (nI a) :: st) pc := g_if_gt hd ht (fun h => kt ((nI_ltI (a := 0) (by decide) ha).mp h)) (fun h => kf (fun q => h ((nI_ltI (a := 0) (by decide) ha).mpr q)))
theorem g_if_leN {a : Nat} {off : Int} {tgt : Nat} (hd : decode Γ.2.1.2.1 pc = .ok (.ifCond .le off, 3)) (ht : (pc : Int) + off = (tgt : Int)) (ha : a < 2 ^ 31) (kt : a = 0 → G Γ X σ L st tgt) (kf : ¬ a = 0 → G Γ X σ L st (pc + 3)) : G Γ X σ L (.int (nI a) :: st) pc := g_if_le hd ht (fun h => kt (Nat.le_zero.mp ((nI_leI (b := 0) ha (by decide)).mp h))) (fun h => kf (fun q => h ((nI_leI (b := 0) ha (by decide)).mpr (Nat.le_of_eq q))))
/-- a value by another name -/
theorem g_top {v w : Int32} (h : v = w) (k : G Γ X σ L (.int w :: st) pc) : G Γ X σ L (.int v :: st) pc := by rw [h]; exact k
theorem g_topL {v w : Int64} (h : v = w) (k : G Γ X σ L (.long w :: st) pc) : G Γ X σ L (.long v :: st) pc := by rw [h]; exact k
theorem g_sto {σ' : Store} (h : σ = σ') (k : G Γ X σ' L st pc) : G Γ X σ L st pc := by rw [h]; exact k
end GN
theorem zI : nI 0 = 0 := rfl
theorem oI : nI 1 = 1 := rfl
end
section
/-! METHODS (name, code, locals, answer) and LINKS of the pools -/
abbrev mt_LS_init : Mt := (⟨"LateSeekers", "<init>", "()V"⟩, prog_1_method_1_code, 1, none)
abbrev mt_Obj_init : Mt := (⟨"java/lang/Object", "<init>", "()V"⟩, object_method_1_code, 1, none)
abbrev mt_Tr_init : Mt := (⟨"LateSeekers$Trials", "<init>", "()V"⟩, prog_8_method_1_code, 1, none)
abbrev mt_Pk_init : Mt := (⟨"LateSeekers$Park", "<init>", "()V"⟩, prog_3_method_1_code, 1, none)
abbrev mt_Pk_becomeAsAtFirst : Mt := (⟨"LateSeekers$Park", "becomeAsAtFirst", "()V"⟩, prog_3_method_2_code, 2, none)
abbrev mt_Tp_init : Mt := (⟨"LateSeekers$TapeReader", "<init>", "()V"⟩, prog_7_method_1_code, 1, none)
abbrev mt_Rw_init : Mt := (⟨"LateSeekers$Rows", "<init>", "()V"⟩, prog_4_method_1_code, 1, none)
abbrev mt_Sh_init : Mt := (⟨"LateSeekers$Sheets", "<init>", "()V"⟩, prog_5_method_1_code, 1, none)
abbrev mt_Sv_init : Mt := (⟨"LateSeekers$Shelves", "<init>", "()V"⟩, prog_6_method_1_code, 1, none)
abbrev mt_Ac_init : Mt := (⟨"LateSeekers$Actor", "<init>", "()V"⟩, prog_2_method_1_code, 1, none)
abbrev mt_LS_feed : Mt := (⟨"LateSeekers", "feed", "(JI)I"⟩, prog_1_method_8_code, 4, (some .int))
abbrev mt_LS_within : Mt := (⟨"LateSeekers", "within", "(III)Z"⟩, prog_1_method_2_code, 3, (some .boolean))
abbrev mt_Tp_append : Mt := (⟨"LateSeekers$TapeReader", "append", "(JI)V"⟩, prog_7_method_2_code, 5, none)
abbrev mt_LS_park : Mt := (⟨"LateSeekers", "park", "()I"⟩, prog_1_method_9_code, 3, (some .int))
abbrev mt_Tp_readInto : Mt := (⟨"LateSeekers$TapeReader", "readInto", "(LLateSeekers$Park;)I"⟩, prog_7_method_3_code, 3, (some .int))
abbrev mt_Tp_advance : Mt := (⟨"LateSeekers$TapeReader", "advance", "()V"⟩, prog_7_method_14_code, 1, none)
abbrev mt_Tp_sortAt : Mt := (⟨"LateSeekers$TapeReader", "sortAt", "(I)I"⟩, prog_7_method_15_code, 2, (some .int))
abbrev mt_Tp_readStatement : Mt := (⟨"LateSeekers$TapeReader", "readStatement", "(LLateSeekers$Park;)V"⟩, prog_7_method_4_code, 3, none)
abbrev mt_Tp_kindName : Mt := (⟨"LateSeekers$TapeReader", "kindName", "(I)Ljava/lang/String;"⟩, prog_7_method_16_code, 1, (some (.object "java/lang/String")))
abbrev mt_Tp_isNext : Mt := (⟨"LateSeekers$TapeReader", "isNext", "(Ljava/lang/String;)Z"⟩, prog_7_method_13_code, 3, (some .boolean))
abbrev mt_Str_length : Mt := (⟨"java/lang/String", "length", "()I"⟩, prog_13_method_54_code, 1, (some .int))
abbrev mt_Str_coder : Mt := (⟨"java/lang/String", "coder", "()B"⟩, prog_13_method_152_code, 1, (some .byte))
abbrev mt_Str_charAt : Mt := (⟨"java/lang/String", "charAt", "(I)C"⟩, prog_13_method_56_code, 2, (some .char))
abbrev mt_Str_isLatin1 : Mt := (⟨"java/lang/String", "isLatin1", "()Z"⟩, prog_13_method_154_code, 1, (some .boolean))
abbrev mt_Lat_charAt : Mt := (⟨"java/lang/StringLatin1", "charAt", "([BI)C"⟩, prog_14_method_2_code, 2, (some .char))
abbrev mt_Str_checkIndex : Mt := (⟨"java/lang/String", "checkIndex", "(II)V"⟩, prog_13_method_155_code, 2, none)
abbrev mt_Pre_checkIndex : Mt := (⟨"jdk/internal/util/Preconditions", "checkIndex", "(IILjava/util/function/BiFunction;)I"⟩, prog_17_method_11_code, 3, (some .int))
abbrev mt_Utf_charAt : Mt := (⟨"java/lang/StringUTF16", "charAt", "([BI)C"⟩, prog_15_method_83_code, 2, (some .char))
abbrev mt_Utf_checkIndex : Mt := (⟨"java/lang/StringUTF16", "checkIndex", "(I[B)V"⟩, prog_15_method_91_code, 2, none)
abbrev mt_Utf_length : Mt := (⟨"java/lang/StringUTF16", "length", "([B)I"⟩, prog_15_method_6_code, 1, (some .int))
abbrev mt_Utf_getChar : Mt := (⟨"java/lang/StringUTF16", "getChar", "([BI)C"⟩, prog_15_method_5_code, 2, (some .char))
abbrev mt_Tp_readPerson : Mt := (⟨"LateSeekers$TapeReader", "readPerson", "(LLateSeekers$Park;I)V"⟩, prog_7_method_5_code, 7, none)
abbrev mt_Tp_fail : Mt := (⟨"LateSeekers$TapeReader", "fail", "()V"⟩, prog_7_method_12_code, 1, none)
abbrev mt_Tp_takeName : Mt := (⟨"LateSeekers$TapeReader", "takeName", "(Ljava/lang/String;)V"⟩, prog_7_method_8_code, 2, none)
abbrev mt_Tp_takeNumber : Mt := (⟨"LateSeekers$TapeReader", "takeNumber", "(I)I"⟩, prog_7_method_10_code, 4, (some .int))
abbrev mt_Tp_takeNumberIfNamed : Mt := (⟨"LateSeekers$TapeReader", "takeNumberIfNamed", "(Ljava/lang/String;I)I"⟩, prog_7_method_9_code, 3, (some .int))
abbrev mt_Tp_takeSemicolon : Mt := (⟨"LateSeekers$TapeReader", "takeSemicolon", "()V"⟩, prog_7_method_11_code, 1, none)
abbrev mt_Pk_admit : Mt := (⟨"LateSeekers$Park", "admit", "(IIIIZ)V"⟩, prog_3_method_5_code, 7, none)
abbrev mt_Pk_hide : Mt := (⟨"LateSeekers$Park", "hide", "(IZ)V"⟩, prog_3_method_7_code, 3, none)
abbrev mt_Tp_lawName : Mt := (⟨"LateSeekers$TapeReader", "lawName", "(I)Ljava/lang/String;"⟩, prog_7_method_17_code, 1, (some (.object "java/lang/String")))
abbrev mt_Tp_readLaw : Mt := (⟨"LateSeekers$TapeReader", "readLaw", "(LLateSeekers$Park;I)V"⟩, prog_7_method_6_code, 4, none)
abbrev mt_Tp_readCover : Mt := (⟨"LateSeekers$TapeReader", "readCover", "(LLateSeekers$Park;)V"⟩, prog_7_method_7_code, 4, none)
abbrev mt_Pk_become : Mt := (⟨"LateSeekers$Park", "become", "(LLateSeekers$Park;)V"⟩, prog_3_method_3_code, 2, none)
abbrev mt_LS_set : Mt := (⟨"LateSeekers", "set", "(II)I"⟩, prog_1_method_10_code, 4, (some .int))
abbrev mt_LS_isLaw : Mt := (⟨"LateSeekers", "isLaw", "(I)Z"⟩, prog_1_method_5_code, 1, (some .boolean))
abbrev mt_LS_lawOf : Mt := (⟨"LateSeekers", "lawOf", "(I)I"⟩, prog_1_method_11_code, 2, (some .int))
abbrev mt_LS_person : Mt := (⟨"LateSeekers", "person", "(IIIII)I"⟩, prog_1_method_12_code, 7, (some .int))
abbrev mt_LS_isKind : Mt := (⟨"LateSeekers", "isKind", "(I)Z"⟩, prog_1_method_3_code, 1, (some .boolean))
abbrev mt_LS_isPlace : Mt := (⟨"LateSeekers", "isPlace", "(I)Z"⟩, prog_1_method_4_code, 1, (some .boolean))
abbrev mt_LS_of : Mt := (⟨"LateSeekers", "of", "(II)I"⟩, prog_1_method_13_code, 3, (some .int))
abbrev mt_Pk_has : Mt := (⟨"LateSeekers$Park", "has", "(I)Z"⟩, prog_3_method_4_code, 2, (some .boolean))
abbrev mt_Pk_isHidden : Mt := (⟨"LateSeekers$Park", "isHidden", "(I)Z"⟩, prog_3_method_6_code, 2, (some .boolean))
abbrev mt_LS_does : Mt := (⟨"LateSeekers", "does", "(II)I"⟩, prog_1_method_14_code, 3, (some .int))
abbrev mt_Pk_hides : Mt := (⟨"LateSeekers$Park", "hides", "(I)I"⟩, prog_3_method_12_code, 3, (some .int))
abbrev mt_Pk_sees : Mt := (⟨"LateSeekers$Park", "sees", "(I)I"⟩, prog_3_method_13_code, 3, (some .int))
abbrev mt_Pk_strides : Mt := (⟨"LateSeekers$Park", "strides", "(I)I"⟩, prog_3_method_14_code, 2, (some .int))
abbrev mt_LS_mind : Mt := (⟨"LateSeekers", "mind", "(III)I"⟩, prog_1_method_15_code, 5, (some .int))
abbrev mt_LS_age : Mt := (⟨"LateSeekers", "age", "(II)I"⟩, prog_1_method_16_code, 4, (some .int))
abbrev mt_LS_bring : Mt := (⟨"LateSeekers", "bring", "(II)I"⟩, prog_1_method_17_code, 4, (some .int))
abbrev mt_LS_seek : Mt := (⟨"LateSeekers", "seek", "(II)I"⟩, prog_1_method_18_code, 4, (some .int))
abbrev mt_LS_place : Mt := (⟨"LateSeekers", "place", "(II)I"⟩, prog_1_method_19_code, 3, (some .int))
abbrev mt_Pk_peopleAt : Mt := (⟨"LateSeekers$Park", "peopleAt", "(I)I"⟩, prog_3_method_9_code, 4, (some .int))
abbrev mt_Integer_bitCount : Mt := (⟨"java/lang/Integer", "bitCount", "(I)I"⟩, prog_11_method_49_code, 1, (some .int))
abbrev mt_LS_cover : Mt := (⟨"LateSeekers", "cover", "(II)I"⟩, prog_1_method_20_code, 4, (some .int))
abbrev mt_LS_years : Mt := (⟨"LateSeekers", "years", "(I)I"⟩, prog_1_method_21_code, 2, (some .int))
abbrev mt_Pk_passYears : Mt := (⟨"LateSeekers$Park", "passYears", "(II)V"⟩, prog_3_method_15_code, 4, none)
abbrev mt_Pk_passYear : Mt := (⟨"LateSeekers$Park", "passYear", "(I)V"⟩, prog_3_method_16_code, 4, none)
abbrev mt_Pk_growOlder : Mt := (⟨"LateSeekers$Park", "growOlder", "()V"⟩, prog_3_method_17_code, 2, none)
abbrev mt_Pk_goSeeking : Mt := (⟨"LateSeekers$Park", "goSeeking", "(IZ)V"⟩, prog_3_method_18_code, 3, none)
abbrev mt_Math_floorMod : Mt := (⟨"java/lang/Math", "floorMod", "(II)I"⟩, prog_12_method_50_code, 3, (some .int))
abbrev mt_Pk_findOne : Mt := (⟨"LateSeekers$Park", "findOne", "(I)V"⟩, prog_3_method_19_code, 4, none)
abbrev mt_Pk_hiddenOnes : Mt := (⟨"LateSeekers$Park", "hiddenOnes", "()I"⟩, prog_3_method_8_code, 1, (some .int))
abbrev mt_LS_seed : Mt := (⟨"LateSeekers", "seed", "(I)I"⟩, prog_1_method_22_code, 3, (some .int))
abbrev mt_LS_year : Mt := (⟨"LateSeekers", "year", "()I"⟩, prog_1_method_23_code, 1, (some .int))
abbrev mt_Pk_passYearByDraws : Mt := (⟨"LateSeekers$Park", "passYearByDraws", "()V"⟩, prog_3_method_20_code, 2, none)
abbrev mt_Pk_drawn : Mt := (⟨"LateSeekers$Park", "drawn", "()I"⟩, prog_3_method_21_code, 1, (some .int))
abbrev mt_LS_nights : Mt := (⟨"LateSeekers", "nights", "(I)I"⟩, prog_1_method_24_code, 2, (some .int))
abbrev mt_Tr_nightsWithMoreHidden : Mt := (⟨"LateSeekers$Trials", "nightsWithMoreHidden", "(I)I"⟩, prog_8_method_12_code, 5, (some .int))
abbrev mt_LS_state : Mt := (⟨"LateSeekers", "state", "(I)I"⟩, prog_1_method_25_code, 2, (some .int))
abbrev mt_LS_sumOf : Mt := (⟨"LateSeekers", "sumOf", "([II)I"⟩, prog_1_method_26_code, 4, (some .int))
abbrev mt_Pk_hidingPlaces : Mt := (⟨"LateSeekers$Park", "hidingPlaces", "()I"⟩, prog_3_method_10_code, 3, (some .int))
abbrev mt_LS_where : Mt := (⟨"LateSeekers", "where", "(II)I"⟩, prog_1_method_27_code, 3, (some .int))
abbrev mt_LS_shown : Mt := (⟨"LateSeekers", "shown", "(I)I"⟩, prog_1_method_28_code, 3, (some .int))
abbrev mt_Tr_shownBehind : Mt := (⟨"LateSeekers$Trials", "shownBehind", "(II)I"⟩, prog_8_method_2_code, 3, (some .int))
abbrev mt_Tr_yearsUntilShown : Mt := (⟨"LateSeekers$Trials", "yearsUntilShown", "(II)I"⟩, prog_8_method_3_code, 4, (some .int))
abbrev mt_LS_all : Mt := (⟨"LateSeekers", "all", "()I"⟩, prog_1_method_29_code, 2, (some .int))
abbrev mt_Tr_allShownBehind : Mt := (⟨"LateSeekers$Trials", "allShownBehind", "()I"⟩, prog_8_method_4_code, 2, (some .int))
abbrev mt_LS_finder : Mt := (⟨"LateSeekers", "finder", "(I)I"⟩, prog_1_method_30_code, 3, (some .int))
abbrev mt_LS_safeFor : Mt := (⟨"LateSeekers", "safeFor", "(I)I"⟩, prog_1_method_31_code, 2, (some .int))
abbrev mt_Tr_safestPlace : Mt := (⟨"LateSeekers$Trials", "safestPlace", "(I)I"⟩, prog_8_method_5_code, 6, (some .int))
abbrev mt_LS_kindFor : Mt := (⟨"LateSeekers", "kindFor", "(I)I"⟩, prog_1_method_32_code, 2, (some .int))
abbrev mt_Tr_safestKind : Mt := (⟨"LateSeekers$Trials", "safestKind", "(I)I"⟩, prog_8_method_6_code, 6, (some .int))
abbrev mt_LS_witFor : Mt := (⟨"LateSeekers", "witFor", "(II)I"⟩, prog_1_method_33_code, 3, (some .int))
abbrev mt_Tr_leastHidingWit : Mt := (⟨"LateSeekers$Trials", "leastHidingWit", "(II)I"⟩, prog_8_method_7_code, 4, (some .int))
abbrev mt_LS_needed : Mt := (⟨"LateSeekers", "needed", "(I)I"⟩, prog_1_method_34_code, 2, (some .int))
abbrev mt_Tr_mostNeeded : Mt := (⟨"LateSeekers$Trials", "mostNeeded", "(I)I"⟩, prog_8_method_8_code, 6, (some .int))
abbrev mt_LS_fewest : Mt := (⟨"LateSeekers", "fewest", "(II)I"⟩, prog_1_method_35_code, 3, (some .int))
abbrev mt_Tr_fewestFinders : Mt := (⟨"LateSeekers$Trials", "fewestFinders", "(II)I"⟩, prog_8_method_9_code, 6, (some .int))
abbrev mt_Tr_seeksBehind : Mt := (⟨"LateSeekers$Trials", "seeksBehind", "(III)Z"⟩, prog_8_method_10_code, 4, (some .boolean))
abbrev mt_LS_round : Mt := (⟨"LateSeekers", "round", "(I)I"⟩, prog_1_method_36_code, 2, (some .int))
abbrev mt_LS_stepsRound : Mt := (⟨"LateSeekers", "stepsRound", "(II)I"⟩, prog_1_method_37_code, 6, (some .int))
abbrev mt_Math_min : Mt := (⟨"java/lang/Math", "min", "(II)I"⟩, prog_12_method_69_code, 2, (some .int))
abbrev mt_LS_fits : Mt := (⟨"LateSeekers", "fits", "(III)I"⟩, prog_1_method_38_code, 7, (some .int))
abbrev mt_LS_isSheet : Mt := (⟨"LateSeekers", "isSheet", "(I)Z"⟩, prog_1_method_6_code, 1, (some .boolean))
abbrev mt_Sh_isMissing : Mt := (⟨"LateSeekers$Sheets", "isMissing", "(I)Z"⟩, prog_5_method_2_code, 2, (some .boolean))
abbrev mt_Tr_wouldFit : Mt := (⟨"LateSeekers$Trials", "wouldFit", "(IILLateSeekers$Sheets;I)Z"⟩, prog_8_method_11_code, 7, (some .boolean))
abbrev mt_Sh_read : Mt := (⟨"LateSeekers$Sheets", "read", "(II)I"⟩, prog_5_method_6_code, 3, (some .int))
abbrev mt_LS_odds : Mt := (⟨"LateSeekers", "odds", "(III)J"⟩, prog_1_method_39_code, 9, (some .long))
abbrev mt_LS_partOf : Mt := (⟨"LateSeekers", "partOf", "(JJI)J"⟩, prog_1_method_41_code, 7, (some .long))
abbrev mt_LS_commonDivisor : Mt := (⟨"LateSeekers", "commonDivisor", "(JJ)J"⟩, prog_1_method_42_code, 7, (some .long))
abbrev mt_LS_hope : Mt := (⟨"LateSeekers", "hope", "(II)J"⟩, prog_1_method_40_code, 3, (some .long))
abbrev mt_LS_prove : Mt := (⟨"LateSeekers", "prove", "(II)I"⟩, prog_1_method_43_code, 5, (some .int))
abbrev mt_Rw_write : Mt := (⟨"LateSeekers$Rows", "write", "(ILLateSeekers$Park;I)V"⟩, prog_4_method_3_code, 5, none)
abbrev mt_Rw_due : Mt := (⟨"LateSeekers$Rows", "due", "(LLateSeekers$Park;II)I"⟩, prog_4_method_5_code, 3, (some .int))
abbrev mt_LS_row : Mt := (⟨"LateSeekers", "row", "(II)I"⟩, prog_1_method_44_code, 3, (some .int))
abbrev mt_Rw_has : Mt := (⟨"LateSeekers$Rows", "has", "(II)Z"⟩, prog_4_method_2_code, 3, (some .boolean))
abbrev mt_LS_alterRow : Mt := (⟨"LateSeekers", "alterRow", "(III)I"⟩, prog_1_method_45_code, 5, (some .int))
abbrev mt_LS_judge : Mt := (⟨"LateSeekers", "judge", "(I)I"⟩, prog_1_method_46_code, 4, (some .int))
abbrev mt_Rw_isRight : Mt := (⟨"LateSeekers$Rows", "isRight", "(ILLateSeekers$Park;I)Z"⟩, prog_4_method_4_code, 5, (some .boolean))
abbrev mt_LS_minds : Mt := (⟨"LateSeekers", "minds", "(IIII)I"⟩, prog_1_method_47_code, 6, (some .int))
abbrev mt_Math_max : Mt := (⟨"java/lang/Math", "max", "(II)I"⟩, prog_12_method_65_code, 2, (some .int))
abbrev mt_LS_sheet : Mt := (⟨"LateSeekers", "sheet", "(III)I"⟩, prog_1_method_48_code, 4, (some .int))
abbrev mt_Sh_remove : Mt := (⟨"LateSeekers$Sheets", "remove", "(I)V"⟩, prog_5_method_5_code, 2, none)
abbrev mt_Sh_lay : Mt := (⟨"LateSeekers$Sheets", "lay", "(III)V"⟩, prog_5_method_4_code, 5, none)
abbrev mt_LS_put : Mt := (⟨"LateSeekers", "put", "(III)I"⟩, prog_1_method_49_code, 4, (some .int))
abbrev mt_Sh_hasItem : Mt := (⟨"LateSeekers$Sheets", "hasItem", "(II)Z"⟩, prog_5_method_3_code, 3, (some .boolean))
abbrev mt_Sh_write : Mt := (⟨"LateSeekers$Sheets", "write", "(III)V"⟩, prog_5_method_7_code, 4, none)
abbrev mt_Sh_narrowed : Mt := (⟨"LateSeekers$Sheets", "narrowed", "(II)I"⟩, prog_5_method_8_code, 2, (some .int))
abbrev mt_LS_item : Mt := (⟨"LateSeekers", "item", "(III)I"⟩, prog_1_method_50_code, 4, (some .int))
abbrev mt_LS_shelf : Mt := (⟨"LateSeekers", "shelf", "(III)I"⟩, prog_1_method_51_code, 4, (some .int))
abbrev mt_LS_isShelf : Mt := (⟨"LateSeekers", "isShelf", "(I)Z"⟩, prog_1_method_7_code, 1, (some .boolean))
abbrev mt_Sv_holdPerson : Mt := (⟨"LateSeekers$Shelves", "holdPerson", "(II)V"⟩, prog_6_method_3_code, 3, none)
abbrev mt_Sv_holdNothing : Mt := (⟨"LateSeekers$Shelves", "holdNothing", "(I)V"⟩, prog_6_method_5_code, 2, none)
abbrev mt_Sv_holdRow : Mt := (⟨"LateSeekers$Shelves", "holdRow", "(III)V"⟩, prog_6_method_4_code, 4, none)
abbrev mt_LS_taken : Mt := (⟨"LateSeekers", "taken", "(II)I"⟩, prog_1_method_52_code, 5, (some .int))
abbrev mt_Sv_holdsRow : Mt := (⟨"LateSeekers$Shelves", "holdsRow", "(I)Z"⟩, prog_6_method_2_code, 2, (some .boolean))
abbrev mt_LS_isUnder : Mt := (⟨"LateSeekers", "isUnder", "(II)Z"⟩, prog_1_method_53_code, 4, (some .boolean))
abbrev mt_LS_act : Mt := (⟨"LateSeekers", "act", "(III)I"⟩, prog_1_method_54_code, 5, (some .int))
abbrev mt_Ac_perform : Mt := (⟨"LateSeekers$Actor", "perform", "(LLateSeekers$Park;III)I"⟩, prog_2_method_2_code, 6, (some .int))
abbrev mt_Ac_run : Mt := (⟨"LateSeekers$Actor", "run", "(IIII)I"⟩, prog_2_method_3_code, 8, (some .int))
abbrev mt_Ac_quotient : Mt := (⟨"LateSeekers$Actor", "quotient", "(II)I"⟩, prog_2_method_4_code, 3, (some .int))
abbrev mt_LS_trace : Mt := (⟨"LateSeekers", "trace", "(I)I"⟩, prog_1_method_55_code, 2, (some .int))
abbrev mt_LS_many : Mt := (⟨"LateSeekers", "many", "(I)I"⟩, prog_1_method_56_code, 2, (some .int))
abbrev mt_Pk_peopleInCompany : Mt := (⟨"LateSeekers$Park", "peopleInCompany", "()I"⟩, prog_3_method_11_code, 3, (some .int))
abbrev mt_LS_keep : Mt := (⟨"LateSeekers", "keep", "()I"⟩, prog_1_method_57_code, 1, (some .int))
abbrev mt_LS_again : Mt := (⟨"LateSeekers", "again", "()I"⟩, prog_1_method_58_code, 1, (some .int))
abbrev mt_Md_init : Mt := (⟨"LateSeekersModel", "<init>", "()V"⟩, prog_10_method_1_code, 1, none)
abbrev mt_Md_begins : Mt := (⟨"LateSeekersModel", "begins", "()V"⟩, prog_10_method_2_code, 3, none)
abbrev mt_Md_feed : Mt := (⟨"LateSeekersModel", "feed", "(JI)I"⟩, prog_10_method_13_code, 5, (some .int))
abbrev mt_Md_isIn : Mt := (⟨"LateSeekersModel", "isIn", "(JJJ)Z"⟩, prog_10_method_3_code, 6, (some .boolean))
abbrev mt_Md_park : Mt := (⟨"LateSeekersModel", "park", "()I"⟩, prog_10_method_31_code, 1, (some .int))
abbrev mt_Md_copyRow : Mt := (⟨"LateSeekersModel", "copyRow", "([I[I)V"⟩, prog_10_method_8_code, 3, none)
abbrev mt_Md_nextToken : Mt := (⟨"LateSeekersModel", "nextToken", "()V"⟩, prog_10_method_17_code, 2, none)
abbrev mt_Md_byteAt : Mt := (⟨"LateSeekersModel", "byteAt", "(I)I"⟩, prog_10_method_16_code, 2, (some .int))
abbrev mt_Md_isAlpha : Mt := (⟨"LateSeekersModel", "isAlpha", "(I)Z"⟩, prog_10_method_14_code, 1, (some .boolean))
abbrev mt_Md_isDigit : Mt := (⟨"LateSeekersModel", "isDigit", "(I)Z"⟩, prog_10_method_15_code, 1, (some .boolean))
abbrev mt_Md_itemHere : Mt := (⟨"LateSeekersModel", "itemHere", "()V"⟩, prog_10_method_30_code, 3, none)
abbrev mt_Md_kindHere : Mt := (⟨"LateSeekersModel", "kindHere", "()I"⟩, prog_10_method_23_code, 1, (some .int))
abbrev mt_Md_isFive : Mt := (⟨"LateSeekersModel", "isFive", "(IIIII)Z"⟩, prog_10_method_22_code, 6, (some .boolean))
abbrev mt_Md_isName : Mt := (⟨"LateSeekersModel", "isName", "(IIIII)Z"⟩, prog_10_method_19_code, 6, (some .boolean))
abbrev mt_Md_isSame : Mt := (⟨"LateSeekersModel", "isSame", "(IIII)Z"⟩, prog_10_method_20_code, 5, (some .boolean))
abbrev mt_Md_isFour : Mt := (⟨"LateSeekersModel", "isFour", "(IIII)Z"⟩, prog_10_method_21_code, 5, (some .boolean))
abbrev mt_Md_lawHere : Mt := (⟨"LateSeekersModel", "lawHere", "()I"⟩, prog_10_method_29_code, 1, (some .int))
abbrev mt_Md_personHere : Mt := (⟨"LateSeekersModel", "personHere", "(I)V"⟩, prog_10_method_27_code, 3, none)
abbrev mt_Md_needs : Mt := (⟨"LateSeekersModel", "needs", "(Z)V"⟩, prog_10_method_18_code, 2, none)
abbrev mt_Md_isTwo : Mt := (⟨"LateSeekersModel", "isTwo", "(II)Z"⟩, prog_10_method_26_code, 3, (some .boolean))
abbrev mt_Md_numberTo : Mt := (⟨"LateSeekersModel", "numberTo", "(II)V"⟩, prog_10_method_24_code, 4, none)
abbrev mt_Md_perhaps : Mt := (⟨"LateSeekersModel", "perhaps", "(ZII)V"⟩, prog_10_method_25_code, 4, none)
abbrev mt_Md_coverHere : Mt := (⟨"LateSeekersModel", "coverHere", "()V"⟩, prog_10_method_28_code, 2, none)
abbrev mt_Md_set : Mt := (⟨"LateSeekersModel", "set", "(II)I"⟩, prog_10_method_33_code, 3, (some .int))
abbrev mt_Md_mostOf : Mt := (⟨"LateSeekersModel", "mostOf", "(I)I"⟩, prog_10_method_32_code, 1, (some .int))
abbrev mt_Md_becomes : Mt := (⟨"LateSeekersModel", "becomes", "(II)I"⟩, prog_10_method_7_code, 4, (some .int))
abbrev mt_Md_lawOf : Mt := (⟨"LateSeekersModel", "lawOf", "(I)I"⟩, prog_10_method_34_code, 2, (some .int))
abbrev mt_Md_person : Mt := (⟨"LateSeekersModel", "person", "(IIIII)I"⟩, prog_10_method_35_code, 7, (some .int))
abbrev mt_Md_isPlace : Mt := (⟨"LateSeekersModel", "isPlace", "(I)Z"⟩, prog_10_method_4_code, 1, (some .boolean))
abbrev mt_Md_of : Mt := (⟨"LateSeekersModel", "of", "(II)I"⟩, prog_10_method_39_code, 3, (some .int))
abbrev mt_Md_isOne : Mt := (⟨"LateSeekersModel", "isOne", "(I)Z"⟩, prog_10_method_5_code, 2, (some .boolean))
abbrev mt_Md_its : Mt := (⟨"LateSeekersModel", "its", "(II)I"⟩, prog_10_method_6_code, 3, (some .int))
abbrev mt_Md_does : Mt := (⟨"LateSeekersModel", "does", "(II)I"⟩, prog_10_method_40_code, 3, (some .int))
abbrev mt_Md_hides : Mt := (⟨"LateSeekersModel", "hides", "(I)I"⟩, prog_10_method_36_code, 3, (some .int))
abbrev mt_Md_sees : Mt := (⟨"LateSeekersModel", "sees", "(I)I"⟩, prog_10_method_37_code, 3, (some .int))
abbrev mt_Md_strides : Mt := (⟨"LateSeekersModel", "strides", "(I)I"⟩, prog_10_method_38_code, 2, (some .int))
abbrev mt_Md_mind : Mt := (⟨"LateSeekersModel", "mind", "(III)I"⟩, prog_10_method_41_code, 4, (some .int))
abbrev mt_Md_age : Mt := (⟨"LateSeekersModel", "age", "(II)I"⟩, prog_10_method_42_code, 3, (some .int))
abbrev mt_Md_bring : Mt := (⟨"LateSeekersModel", "bring", "(II)I"⟩, prog_10_method_43_code, 3, (some .int))
abbrev mt_Md_seek : Mt := (⟨"LateSeekersModel", "seek", "(II)I"⟩, prog_10_method_44_code, 3, (some .int))
abbrev mt_Md_place : Mt := (⟨"LateSeekersModel", "place", "(II)I"⟩, prog_10_method_47_code, 3, (some .int))
abbrev mt_Md_thoseAt : Mt := (⟨"LateSeekersModel", "thoseAt", "(I)I"⟩, prog_10_method_45_code, 4, (some .int))
abbrev mt_Md_hiddenOnes : Mt := (⟨"LateSeekersModel", "hiddenOnes", "()I"⟩, prog_10_method_46_code, 3, (some .int))
abbrev mt_Md_size : Mt := (⟨"LateSeekersModel", "size", "(I)I"⟩, prog_10_method_11_code, 3, (some .int))
abbrev mt_Md_cover : Mt := (⟨"LateSeekersModel", "cover", "(II)I"⟩, prog_10_method_48_code, 3, (some .int))
abbrev mt_Md_years : Mt := (⟨"LateSeekersModel", "years", "(I)I"⟩, prog_10_method_52_code, 2, (some .int))
abbrev mt_Md_goes : Mt := (⟨"LateSeekersModel", "goes", "(I)V"⟩, prog_10_method_51_code, 3, none)
abbrev mt_Md_goesBy : Mt := (⟨"LateSeekersModel", "goesBy", "(I)V"⟩, prog_10_method_50_code, 4, none)
abbrev mt_Md_least : Mt := (⟨"LateSeekersModel", "least", "(II)I"⟩, prog_10_method_9_code, 2, (some .int))
abbrev mt_Md_seeks : Mt := (⟨"LateSeekersModel", "seeks", "(IZ)V"⟩, prog_10_method_49_code, 4, none)
abbrev mt_Md_seed : Mt := (⟨"LateSeekersModel", "seed", "(I)I"⟩, prog_10_method_53_code, 2, (some .int))
abbrev mt_Md_year : Mt := (⟨"LateSeekersModel", "year", "()I"⟩, prog_10_method_55_code, 2, (some .int))
abbrev mt_Md_drawn : Mt := (⟨"LateSeekersModel", "drawn", "()I"⟩, prog_10_method_54_code, 1, (some .int))
abbrev mt_Md_nights : Mt := (⟨"LateSeekersModel", "nights", "(I)I"⟩, prog_10_method_56_code, 6, (some .int))
abbrev mt_Md_state : Mt := (⟨"LateSeekersModel", "state", "(I)I"⟩, prog_10_method_60_code, 2, (some .int))
abbrev mt_Md_sumOf : Mt := (⟨"LateSeekersModel", "sumOf", "(I)I"⟩, prog_10_method_57_code, 4, (some .int))
abbrev mt_Md_hidingPlaces : Mt := (⟨"LateSeekersModel", "hidingPlaces", "()I"⟩, prog_10_method_58_code, 3, (some .int))
abbrev mt_Md_coverOfAll : Mt := (⟨"LateSeekersModel", "coverOfAll", "()I"⟩, prog_10_method_59_code, 3, (some .int))
abbrev mt_Md_where : Mt := (⟨"LateSeekersModel", "where", "(II)I"⟩, prog_10_method_61_code, 4, (some .int))
abbrev mt_Md_shown : Mt := (⟨"LateSeekersModel", "shown", "(I)I"⟩, prog_10_method_63_code, 3, (some .int))
abbrev mt_Md_shownBy : Mt := (⟨"LateSeekersModel", "shownBy", "(II)I"⟩, prog_10_method_62_code, 4, (some .int))
abbrev mt_Md_all : Mt := (⟨"LateSeekersModel", "all", "()I"⟩, prog_10_method_64_code, 2, (some .int))
abbrev mt_Md_finder : Mt := (⟨"LateSeekersModel", "finder", "(I)I"⟩, prog_10_method_65_code, 3, (some .int))
abbrev mt_Md_safeFor : Mt := (⟨"LateSeekersModel", "safeFor", "(I)I"⟩, prog_10_method_66_code, 9, (some .int))
abbrev mt_Md_kindFor : Mt := (⟨"LateSeekersModel", "kindFor", "(I)I"⟩, prog_10_method_67_code, 8, (some .int))
abbrev mt_Md_witFor : Mt := (⟨"LateSeekersModel", "witFor", "(II)I"⟩, prog_10_method_70_code, 7, (some .int))
abbrev mt_Md_isShort : Mt := (⟨"LateSeekersModel", "isShort", "(I)Z"⟩, prog_10_method_68_code, 1, (some .boolean))
abbrev mt_Md_isHiddenBy : Mt := (⟨"LateSeekersModel", "isHiddenBy", "(III)Z"⟩, prog_10_method_69_code, 5, (some .boolean))
abbrev mt_Md_needed : Mt := (⟨"LateSeekersModel", "needed", "(I)I"⟩, prog_10_method_71_code, 6, (some .int))
abbrev mt_Md_fewest : Mt := (⟨"LateSeekersModel", "fewest", "(II)I"⟩, prog_10_method_72_code, 5, (some .int))
abbrev mt_Md_round : Mt := (⟨"LateSeekersModel", "round", "(I)I"⟩, prog_10_method_73_code, 8, (some .int))
abbrev mt_Md_fits : Mt := (⟨"LateSeekersModel", "fits", "(III)I"⟩, prog_10_method_77_code, 10, (some .int))
abbrev mt_Md_isSheet : Mt := (⟨"LateSeekersModel", "isSheet", "(I)Z"⟩, prog_10_method_85_code, 1, (some .boolean))
abbrev mt_Md_isTold : Mt := (⟨"LateSeekersModel", "isTold", "(II)Z"⟩, prog_10_method_76_code, 5, (some .boolean))
abbrev mt_Md_odds : Mt := (⟨"LateSeekersModel", "odds", "(III)J"⟩, prog_10_method_78_code, 9, (some .long))
abbrev mt_Md_product : Mt := (⟨"LateSeekersModel", "product", "(I)J"⟩, prog_10_method_74_code, 4, (some .long))
abbrev mt_Md_partOf : Mt := (⟨"LateSeekersModel", "partOf", "(JJI)J"⟩, prog_10_method_75_code, 11, (some .long))
abbrev mt_Md_hope : Mt := (⟨"LateSeekersModel", "hope", "(II)J"⟩, prog_10_method_79_code, 3, (some .long))
abbrev mt_Md_prove : Mt := (⟨"LateSeekersModel", "prove", "(II)I"⟩, prog_10_method_80_code, 4, (some .int))
abbrev mt_Md_row : Mt := (⟨"LateSeekersModel", "row", "(II)I"⟩, prog_10_method_82_code, 3, (some .int))
abbrev mt_Md_isRow : Mt := (⟨"LateSeekersModel", "isRow", "(II)Z"⟩, prog_10_method_81_code, 3, (some .boolean))
abbrev mt_Md_alterRow : Mt := (⟨"LateSeekersModel", "alterRow", "(III)I"⟩, prog_10_method_83_code, 5, (some .int))
abbrev mt_Md_judge : Mt := (⟨"LateSeekersModel", "judge", "(I)I"⟩, prog_10_method_84_code, 4, (some .int))
abbrev mt_Md_sheet : Mt := (⟨"LateSeekersModel", "sheet", "(III)I"⟩, prog_10_method_87_code, 5, (some .int))
abbrev mt_Md_put : Mt := (⟨"LateSeekersModel", "put", "(III)I"⟩, prog_10_method_88_code, 4, (some .int))
abbrev mt_Md_item : Mt := (⟨"LateSeekersModel", "item", "(III)I"⟩, prog_10_method_90_code, 4, (some .int))
abbrev mt_Md_lacks : Mt := (⟨"LateSeekersModel", "lacks", "(II)I"⟩, prog_10_method_89_code, 3, (some .int))
abbrev mt_Md_minds : Mt := (⟨"LateSeekersModel", "minds", "(IIII)I"⟩, prog_10_method_91_code, 6, (some .int))
abbrev mt_Md_within : Mt := (⟨"LateSeekersModel", "within", "(I)I"⟩, prog_10_method_10_code, 1, (some .int))
abbrev mt_Md_shelf : Mt := (⟨"LateSeekersModel", "shelf", "(III)I"⟩, prog_10_method_92_code, 5, (some .int))
abbrev mt_Md_isShelf : Mt := (⟨"LateSeekersModel", "isShelf", "(I)Z"⟩, prog_10_method_86_code, 1, (some .boolean))
abbrev mt_Md_taken : Mt := (⟨"LateSeekersModel", "taken", "(II)I"⟩, prog_10_method_94_code, 4, (some .int))
abbrev mt_Md_heldOn : Mt := (⟨"LateSeekersModel", "heldOn", "(I)I"⟩, prog_10_method_93_code, 2, (some .int))
abbrev mt_Md_isUnder : Mt := (⟨"LateSeekersModel", "isUnder", "(II)Z"⟩, prog_10_method_12_code, 2, (some .boolean))
abbrev mt_Md_act : Mt := (⟨"LateSeekersModel", "act", "(III)I"⟩, prog_10_method_105_code, 5, (some .int))
abbrev mt_Md_counts : Mt := (⟨"LateSeekersModel", "counts", "(I)I"⟩, prog_10_method_98_code, 2, (some .int))
abbrev mt_Md_countsOfKeeper : Mt := (⟨"LateSeekersModel", "countsOfKeeper", "(I)I"⟩, prog_10_method_97_code, 2, (some .int))
abbrev mt_Md_runs : Mt := (⟨"LateSeekersModel", "runs", "(I)V"⟩, prog_10_method_95_code, 2, none)
abbrev mt_Md_countsPlain : Mt := (⟨"LateSeekersModel", "countsPlain", "(I)I"⟩, prog_10_method_96_code, 2, (some .int))
abbrev mt_Md_calls : Mt := (⟨"LateSeekersModel", "calls", "(I)I"⟩, prog_10_method_100_code, 3, (some .int))
abbrev mt_Md_callsPlain : Mt := (⟨"LateSeekersModel", "callsPlain", "(I)I"⟩, prog_10_method_99_code, 2, (some .int))
abbrev mt_Md_parts : Mt := (⟨"LateSeekersModel", "parts", "(I)I"⟩, prog_10_method_102_code, 3, (some .int))
abbrev mt_Md_partsPlain : Mt := (⟨"LateSeekersModel", "partsPlain", "(I)I"⟩, prog_10_method_101_code, 2, (some .int))
abbrev mt_Md_looks : Mt := (⟨"LateSeekersModel", "looks", "(I)I"⟩, prog_10_method_104_code, 3, (some .int))
abbrev mt_Md_looksPlain : Mt := (⟨"LateSeekersModel", "looksPlain", "(I)I"⟩, prog_10_method_103_code, 2, (some .int))
abbrev mt_Md_trace : Mt := (⟨"LateSeekersModel", "trace", "(I)I"⟩, prog_10_method_106_code, 2, (some .int))
abbrev mt_Md_many : Mt := (⟨"LateSeekersModel", "many", "(I)I"⟩, prog_10_method_108_code, 2, (some .int))
abbrev mt_Md_crowded : Mt := (⟨"LateSeekersModel", "crowded", "()I"⟩, prog_10_method_107_code, 3, (some .int))
abbrev mt_Md_keep : Mt := (⟨"LateSeekersModel", "keep", "()I"⟩, prog_10_method_109_code, 2, (some .int))
abbrev mt_Md_again : Mt := (⟨"LateSeekersModel", "again", "()I"⟩, prog_10_method_110_code, 2, (some .int))
set_option maxRecDepth 20000 in
theorem fv_Pk_becomeAsAtFirst : Cond.instanceMethod mt_Pk_becomeAsAtFirst.1 ∈ tb ∧ Cond.selects mt_Pk_becomeAsAtFirst.1.cls mt_Pk_becomeAsAtFirst.1 mt_Pk_becomeAsAtFirst.1 ∈ tb ∧ Cond.initialized mt_Pk_becomeAsAtFirst.1.cls ∈ tb ∧ Cond.code mt_Pk_becomeAsAtFirst.1 mt_Pk_becomeAsAtFirst.2.1 mt_Pk_becomeAsAtFirst.2.2.1 mt_Pk_becomeAsAtFirst.2.2.2 ∈ tb := ⟨tb_mem 106 rfl rfl, tb_mem 107 rfl rfl, tb_mem 71 rfl rfl, tb_mem 108 rfl rfl⟩
set_option maxRecDepth 20000 in
theorem fv_LS_feed : Cond.instanceMethod mt_LS_feed.1 ∈ tb ∧ Cond.selects mt_LS_feed.1.cls mt_LS_feed.1 mt_LS_feed.1 ∈ tb ∧ Cond.initialized mt_LS_feed.1.cls ∈ tb ∧ Cond.code mt_LS_feed.1 mt_LS_feed.2.1 mt_LS_feed.2.2.1 mt_LS_feed.2.2.2 ∈ tb := ⟨tb_mem 321 rfl rfl, tb_mem 322 rfl rfl, tb_mem 69 rfl rfl, tb_mem 323 rfl rfl⟩
set_option maxRecDepth 20000 in
theorem fs_LS_within : Cond.static mt_LS_within.1 ∈ tb ∧ Cond.initialized mt_LS_within.1.cls ∈ tb ∧ Cond.code mt_LS_within.1 mt_LS_within.2.1 mt_LS_within.2.2.1 mt_LS_within.2.2.2 ∈ tb := ⟨tb_mem 325 rfl rfl, tb_mem 69 rfl rfl, tb_mem 326 rfl rfl⟩
set_option maxRecDepth 20000 in
theorem fv_Tp_append : Cond.instanceMethod mt_Tp_append.1 ∈ tb ∧ Cond.selects mt_Tp_append.1.cls mt_Tp_append.1 mt_Tp_append.1 ∈ tb ∧ Cond.initialized mt_Tp_append.1.cls ∈ tb ∧ Cond.code mt_Tp_append.1 mt_Tp_append.2.1 mt_Tp_append.2.2.1 mt_Tp_append.2.2.2 ∈ tb := ⟨tb_mem 328 rfl rfl, tb_mem 329 rfl rfl, tb_mem 72 rfl rfl, tb_mem 330 rfl rfl⟩
set_option maxRecDepth 20000 in
theorem fv_LS_park : Cond.instanceMethod mt_LS_park.1 ∈ tb ∧ Cond.selects mt_LS_park.1.cls mt_LS_park.1 mt_LS_park.1 ∈ tb ∧ Cond.initialized mt_LS_park.1.cls ∈ tb ∧ Cond.code mt_LS_park.1 mt_LS_park.2.1 mt_LS_park.2.2.1 mt_LS_park.2.2.2 ∈ tb := ⟨tb_mem 332 rfl rfl, tb_mem 333 rfl rfl, tb_mem 69 rfl rfl, tb_mem 334 rfl rfl⟩
set_option maxRecDepth 20000 in
theorem fv_Tp_readInto : Cond.instanceMethod mt_Tp_readInto.1 ∈ tb ∧ Cond.selects mt_Tp_readInto.1.cls mt_Tp_readInto.1 mt_Tp_readInto.1 ∈ tb ∧ Cond.initialized mt_Tp_readInto.1.cls ∈ tb ∧ Cond.code mt_Tp_readInto.1 mt_Tp_readInto.2.1 mt_Tp_readInto.2.2.1 mt_Tp_readInto.2.2.2 ∈ tb := ⟨tb_mem 337 rfl rfl, tb_mem 338 rfl rfl, tb_mem 72 rfl rfl, tb_mem 339 rfl rfl⟩
set_option maxRecDepth 20000 in
theorem fv_Tp_advance : Cond.instanceMethod mt_Tp_advance.1 ∈ tb ∧ Cond.selects mt_Tp_advance.1.cls mt_Tp_advance.1 mt_Tp_advance.1 ∈ tb ∧ Cond.initialized mt_Tp_advance.1.cls ∈ tb ∧ Cond.code mt_Tp_advance.1 mt_Tp_advance.2.1 mt_Tp_advance.2.2.1 mt_Tp_advance.2.2.2 ∈ tb := ⟨tb_mem 342 rfl rfl, tb_mem 0 rfl rfl, tb_mem 72 rfl rfl, tb_mem 343 rfl rfl⟩
set_option maxRecDepth 20000 in
theorem fv_Tp_sortAt : Cond.instanceMethod mt_Tp_sortAt.1 ∈ tb ∧ Cond.selects mt_Tp_sortAt.1.cls mt_Tp_sortAt.1 mt_Tp_sortAt.1 ∈ tb ∧ Cond.initialized mt_Tp_sortAt.1.cls ∈ tb ∧ Cond.code mt_Tp_sortAt.1 mt_Tp_sortAt.2.1 mt_Tp_sortAt.2.2.1 mt_Tp_sortAt.2.2.2 ∈ tb := ⟨tb_mem 346 rfl rfl, tb_mem 1 rfl rfl, tb_mem 72 rfl rfl, tb_mem 347 rfl rfl⟩
set_option maxRecDepth 20000 in
theorem fv_Tp_readStatement : Cond.instanceMethod mt_Tp_readStatement.1 ∈ tb ∧ Cond.selects mt_Tp_readStatement.1.cls mt_Tp_readStatement.1 mt_Tp_readStatement.1 ∈ tb ∧ Cond.initialized mt_Tp_readStatement.1.cls ∈ tb ∧ Cond.code mt_Tp_readStatement.1 mt_Tp_readStatement.2.1 mt_Tp_readStatement.2.2.1 mt_Tp_readStatement.2.2.2 ∈ tb := ⟨tb_mem 350 rfl rfl, tb_mem 2 rfl rfl, tb_mem 72 rfl rfl, tb_mem 351 rfl rfl⟩
set_option maxRecDepth 20000 in
theorem fs_Tp_kindName : Cond.static mt_Tp_kindName.1 ∈ tb ∧ Cond.initialized mt_Tp_kindName.1.cls ∈ tb ∧ Cond.code mt_Tp_kindName.1 mt_Tp_kindName.2.1 mt_Tp_kindName.2.2.1 mt_Tp_kindName.2.2.2 ∈ tb := ⟨tb_mem 353 rfl rfl, tb_mem 72 rfl rfl, tb_mem 354 rfl rfl⟩
set_option maxRecDepth 20000 in
theorem fv_Tp_isNext : Cond.instanceMethod mt_Tp_isNext.1 ∈ tb ∧ Cond.selects mt_Tp_isNext.1.cls mt_Tp_isNext.1 mt_Tp_isNext.1 ∈ tb ∧ Cond.initialized mt_Tp_isNext.1.cls ∈ tb ∧ Cond.code mt_Tp_isNext.1 mt_Tp_isNext.2.1 mt_Tp_isNext.2.2.1 mt_Tp_isNext.2.2.2 ∈ tb := ⟨tb_mem 363 rfl rfl, tb_mem 3 rfl rfl, tb_mem 72 rfl rfl, tb_mem 364 rfl rfl⟩
set_option maxRecDepth 20000 in
theorem fv_Str_length : Cond.instanceMethod mt_Str_length.1 ∈ tb ∧ Cond.selects mt_Str_length.1.cls mt_Str_length.1 mt_Str_length.1 ∈ tb ∧ Cond.initialized mt_Str_length.1.cls ∈ tb ∧ Cond.code mt_Str_length.1 mt_Str_length.2.1 mt_Str_length.2.2.1 mt_Str_length.2.2.2 ∈ tb := ⟨tb_mem 366 rfl rfl, tb_mem 367 rfl rfl, tb_mem 78 rfl rfl, tb_mem 368 rfl rfl⟩
set_option maxRecDepth 20000 in
theorem fv_Str_coder : Cond.instanceMethod mt_Str_coder.1 ∈ tb ∧ Cond.selects mt_Str_coder.1.cls mt_Str_coder.1 mt_Str_coder.1 ∈ tb ∧ Cond.initialized mt_Str_coder.1.cls ∈ tb ∧ Cond.code mt_Str_coder.1 mt_Str_coder.2.1 mt_Str_coder.2.2.1 mt_Str_coder.2.2.2 ∈ tb := ⟨tb_mem 370 rfl rfl, tb_mem 371 rfl rfl, tb_mem 78 rfl rfl, tb_mem 372 rfl rfl⟩
set_option maxRecDepth 20000 in
theorem fv_Str_charAt : Cond.instanceMethod mt_Str_charAt.1 ∈ tb ∧ Cond.selects mt_Str_charAt.1.cls mt_Str_charAt.1 mt_Str_charAt.1 ∈ tb ∧ Cond.initialized mt_Str_charAt.1.cls ∈ tb ∧ Cond.code mt_Str_charAt.1 mt_Str_charAt.2.1 mt_Str_charAt.2.2.1 mt_Str_charAt.2.2.2 ∈ tb := ⟨tb_mem 376 rfl rfl, tb_mem 377 rfl rfl, tb_mem 78 rfl rfl, tb_mem 378 rfl rfl⟩
set_option maxRecDepth 20000 in
theorem fv_Str_isLatin1 : Cond.instanceMethod mt_Str_isLatin1.1 ∈ tb ∧ Cond.selects mt_Str_isLatin1.1.cls mt_Str_isLatin1.1 mt_Str_isLatin1.1 ∈ tb ∧ Cond.initialized mt_Str_isLatin1.1.cls ∈ tb ∧ Cond.code mt_Str_isLatin1.1 mt_Str_isLatin1.2.1 mt_Str_isLatin1.2.2.1 mt_Str_isLatin1.2.2.2 ∈ tb := ⟨tb_mem 380 rfl rfl, tb_mem 381 rfl rfl, tb_mem 78 rfl rfl, tb_mem 382 rfl rfl⟩
set_option maxRecDepth 20000 in
theorem fs_Lat_charAt : Cond.static mt_Lat_charAt.1 ∈ tb ∧ Cond.initialized mt_Lat_charAt.1.cls ∈ tb ∧ Cond.code mt_Lat_charAt.1 mt_Lat_charAt.2.1 mt_Lat_charAt.2.2.1 mt_Lat_charAt.2.2.2 ∈ tb := ⟨tb_mem 384 rfl rfl, tb_mem 79 rfl rfl, tb_mem 385 rfl rfl⟩
set_option maxRecDepth 20000 in
theorem fs_Str_checkIndex : Cond.static mt_Str_checkIndex.1 ∈ tb ∧ Cond.initialized mt_Str_checkIndex.1.cls ∈ tb ∧ Cond.code mt_Str_checkIndex.1 mt_Str_checkIndex.2.1 mt_Str_checkIndex.2.2.1 mt_Str_checkIndex.2.2.2 ∈ tb := ⟨tb_mem 387 rfl rfl, tb_mem 78 rfl rfl, tb_mem 388 rfl rfl⟩
set_option maxRecDepth 20000 in
theorem fs_Pre_checkIndex : Cond.static mt_Pre_checkIndex.1 ∈ tb ∧ Cond.initialized mt_Pre_checkIndex.1.cls ∈ tb ∧ Cond.code mt_Pre_checkIndex.1 mt_Pre_checkIndex.2.1 mt_Pre_checkIndex.2.2.1 mt_Pre_checkIndex.2.2.2 ∈ tb := ⟨tb_mem 392 rfl rfl, tb_mem 80 rfl rfl, tb_mem 393 rfl rfl⟩
set_option maxRecDepth 20000 in
theorem fs_Utf_charAt : Cond.static mt_Utf_charAt.1 ∈ tb ∧ Cond.initialized mt_Utf_charAt.1.cls ∈ tb ∧ Cond.code mt_Utf_charAt.1 mt_Utf_charAt.2.1 mt_Utf_charAt.2.2.1 mt_Utf_charAt.2.2.2 ∈ tb := ⟨tb_mem 395 rfl rfl, tb_mem 81 rfl rfl, tb_mem 396 rfl rfl⟩
set_option maxRecDepth 20000 in
theorem fs_Utf_checkIndex : Cond.static mt_Utf_checkIndex.1 ∈ tb ∧ Cond.initialized mt_Utf_checkIndex.1.cls ∈ tb ∧ Cond.code mt_Utf_checkIndex.1 mt_Utf_checkIndex.2.1 mt_Utf_checkIndex.2.2.1 mt_Utf_checkIndex.2.2.2 ∈ tb := ⟨tb_mem 398 rfl rfl, tb_mem 81 rfl rfl, tb_mem 399 rfl rfl⟩
set_option maxRecDepth 20000 in
theorem fs_Utf_length : Cond.static mt_Utf_length.1 ∈ tb ∧ Cond.initialized mt_Utf_length.1.cls ∈ tb ∧ Cond.code mt_Utf_length.1 mt_Utf_length.2.1 mt_Utf_length.2.2.1 mt_Utf_length.2.2.2 ∈ tb := ⟨tb_mem 401 rfl rfl, tb_mem 81 rfl rfl, tb_mem 402 rfl rfl⟩
set_option maxRecDepth 20000 in
theorem fs_Utf_getChar : Cond.static mt_Utf_getChar.1 ∈ tb ∧ Cond.initialized mt_Utf_getChar.1.cls ∈ tb ∧ Cond.code mt_Utf_getChar.1 mt_Utf_getChar.2.1 mt_Utf_getChar.2.2.1 mt_Utf_getChar.2.2.2 ∈ tb := ⟨tb_mem 405 rfl rfl, tb_mem 81 rfl rfl, tb_mem 406 rfl rfl⟩
set_option maxRecDepth 20000 in
theorem fv_Tp_readPerson : Cond.instanceMethod mt_Tp_readPerson.1 ∈ tb ∧ Cond.selects mt_Tp_readPerson.1.cls mt_Tp_readPerson.1 mt_Tp_readPerson.1 ∈ tb ∧ Cond.initialized mt_Tp_readPerson.1.cls ∈ tb ∧ Cond.code mt_Tp_readPerson.1 mt_Tp_readPerson.2.1 mt_Tp_readPerson.2.2.1 mt_Tp_readPerson.2.2.2 ∈ tb := ⟨tb_mem 415 rfl rfl, tb_mem 4 rfl rfl, tb_mem 72 rfl rfl, tb_mem 416 rfl rfl⟩
set_option maxRecDepth 20000 in
theorem fv_Tp_fail : Cond.instanceMethod mt_Tp_fail.1 ∈ tb ∧ Cond.selects mt_Tp_fail.1.cls mt_Tp_fail.1 mt_Tp_fail.1 ∈ tb ∧ Cond.initialized mt_Tp_fail.1.cls ∈ tb ∧ Cond.code mt_Tp_fail.1 mt_Tp_fail.2.1 mt_Tp_fail.2.2.1 mt_Tp_fail.2.2.2 ∈ tb := ⟨tb_mem 419 rfl rfl, tb_mem 5 rfl rfl, tb_mem 72 rfl rfl, tb_mem 420 rfl rfl⟩
set_option maxRecDepth 20000 in
theorem fv_Tp_takeName : Cond.instanceMethod mt_Tp_takeName.1 ∈ tb ∧ Cond.selects mt_Tp_takeName.1.cls mt_Tp_takeName.1 mt_Tp_takeName.1 ∈ tb ∧ Cond.initialized mt_Tp_takeName.1.cls ∈ tb ∧ Cond.code mt_Tp_takeName.1 mt_Tp_takeName.2.1 mt_Tp_takeName.2.2.1 mt_Tp_takeName.2.2.2 ∈ tb := ⟨tb_mem 424 rfl rfl, tb_mem 6 rfl rfl, tb_mem 72 rfl rfl, tb_mem 425 rfl rfl⟩
set_option maxRecDepth 20000 in
theorem fv_Tp_takeNumber : Cond.instanceMethod mt_Tp_takeNumber.1 ∈ tb ∧ Cond.selects mt_Tp_takeNumber.1.cls mt_Tp_takeNumber.1 mt_Tp_takeNumber.1 ∈ tb ∧ Cond.initialized mt_Tp_takeNumber.1.cls ∈ tb ∧ Cond.code mt_Tp_takeNumber.1 mt_Tp_takeNumber.2.1 mt_Tp_takeNumber.2.2.1 mt_Tp_takeNumber.2.2.2 ∈ tb := ⟨tb_mem 428 rfl rfl, tb_mem 7 rfl rfl, tb_mem 72 rfl rfl, tb_mem 429 rfl rfl⟩
set_option maxRecDepth 20000 in
theorem fv_Tp_takeNumberIfNamed : Cond.instanceMethod mt_Tp_takeNumberIfNamed.1 ∈ tb ∧ Cond.selects mt_Tp_takeNumberIfNamed.1.cls mt_Tp_takeNumberIfNamed.1 mt_Tp_takeNumberIfNamed.1 ∈ tb ∧ Cond.initialized mt_Tp_takeNumberIfNamed.1.cls ∈ tb ∧ Cond.code mt_Tp_takeNumberIfNamed.1 mt_Tp_takeNumberIfNamed.2.1 mt_Tp_takeNumberIfNamed.2.2.1 mt_Tp_takeNumberIfNamed.2.2.2 ∈ tb := ⟨tb_mem 433 rfl rfl, tb_mem 8 rfl rfl, tb_mem 72 rfl rfl, tb_mem 434 rfl rfl⟩
set_option maxRecDepth 20000 in
theorem fv_Tp_takeSemicolon : Cond.instanceMethod mt_Tp_takeSemicolon.1 ∈ tb ∧ Cond.selects mt_Tp_takeSemicolon.1.cls mt_Tp_takeSemicolon.1 mt_Tp_takeSemicolon.1 ∈ tb ∧ Cond.initialized mt_Tp_takeSemicolon.1.cls ∈ tb ∧ Cond.code mt_Tp_takeSemicolon.1 mt_Tp_takeSemicolon.2.1 mt_Tp_takeSemicolon.2.2.1 mt_Tp_takeSemicolon.2.2.2 ∈ tb := ⟨tb_mem 439 rfl rfl, tb_mem 9 rfl rfl, tb_mem 72 rfl rfl, tb_mem 440 rfl rfl⟩
set_option maxRecDepth 20000 in
theorem fv_Pk_admit : Cond.instanceMethod mt_Pk_admit.1 ∈ tb ∧ Cond.selects mt_Pk_admit.1.cls mt_Pk_admit.1 mt_Pk_admit.1 ∈ tb ∧ Cond.initialized mt_Pk_admit.1.cls ∈ tb ∧ Cond.code mt_Pk_admit.1 mt_Pk_admit.2.1 mt_Pk_admit.2.2.1 mt_Pk_admit.2.2.2 ∈ tb := ⟨tb_mem 442 rfl rfl, tb_mem 443 rfl rfl, tb_mem 71 rfl rfl, tb_mem 444 rfl rfl⟩
set_option maxRecDepth 20000 in
theorem fv_Pk_hide : Cond.instanceMethod mt_Pk_hide.1 ∈ tb ∧ Cond.selects mt_Pk_hide.1.cls mt_Pk_hide.1 mt_Pk_hide.1 ∈ tb ∧ Cond.initialized mt_Pk_hide.1.cls ∈ tb ∧ Cond.code mt_Pk_hide.1 mt_Pk_hide.2.1 mt_Pk_hide.2.2.1 mt_Pk_hide.2.2.2 ∈ tb := ⟨tb_mem 446 rfl rfl, tb_mem 447 rfl rfl, tb_mem 71 rfl rfl, tb_mem 448 rfl rfl⟩
set_option maxRecDepth 20000 in
theorem fs_Tp_lawName : Cond.static mt_Tp_lawName.1 ∈ tb ∧ Cond.initialized mt_Tp_lawName.1.cls ∈ tb ∧ Cond.code mt_Tp_lawName.1 mt_Tp_lawName.2.1 mt_Tp_lawName.2.2.1 mt_Tp_lawName.2.2.2 ∈ tb := ⟨tb_mem 450 rfl rfl, tb_mem 72 rfl rfl, tb_mem 451 rfl rfl⟩
set_option maxRecDepth 20000 in
theorem fv_Tp_readLaw : Cond.instanceMethod mt_Tp_readLaw.1 ∈ tb ∧ Cond.selects mt_Tp_readLaw.1.cls mt_Tp_readLaw.1 mt_Tp_readLaw.1 ∈ tb ∧ Cond.initialized mt_Tp_readLaw.1.cls ∈ tb ∧ Cond.code mt_Tp_readLaw.1 mt_Tp_readLaw.2.1 mt_Tp_readLaw.2.2.1 mt_Tp_readLaw.2.2.2 ∈ tb := ⟨tb_mem 458 rfl rfl, tb_mem 10 rfl rfl, tb_mem 72 rfl rfl, tb_mem 459 rfl rfl⟩
set_option maxRecDepth 20000 in
theorem fv_Tp_readCover : Cond.instanceMethod mt_Tp_readCover.1 ∈ tb ∧ Cond.selects mt_Tp_readCover.1.cls mt_Tp_readCover.1 mt_Tp_readCover.1 ∈ tb ∧ Cond.initialized mt_Tp_readCover.1.cls ∈ tb ∧ Cond.code mt_Tp_readCover.1 mt_Tp_readCover.2.1 mt_Tp_readCover.2.2.1 mt_Tp_readCover.2.2.2 ∈ tb := ⟨tb_mem 464 rfl rfl, tb_mem 11 rfl rfl, tb_mem 72 rfl rfl, tb_mem 465 rfl rfl⟩
set_option maxRecDepth 20000 in
theorem fv_Pk_become : Cond.instanceMethod mt_Pk_become.1 ∈ tb ∧ Cond.selects mt_Pk_become.1.cls mt_Pk_become.1 mt_Pk_become.1 ∈ tb ∧ Cond.initialized mt_Pk_become.1.cls ∈ tb ∧ Cond.code mt_Pk_become.1 mt_Pk_become.2.1 mt_Pk_become.2.2.1 mt_Pk_become.2.2.2 ∈ tb := ⟨tb_mem 469 rfl rfl, tb_mem 470 rfl rfl, tb_mem 71 rfl rfl, tb_mem 471 rfl rfl⟩
set_option maxRecDepth 20000 in
theorem fv_LS_set : Cond.instanceMethod mt_LS_set.1 ∈ tb ∧ Cond.selects mt_LS_set.1.cls mt_LS_set.1 mt_LS_set.1 ∈ tb ∧ Cond.initialized mt_LS_set.1.cls ∈ tb ∧ Cond.code mt_LS_set.1 mt_LS_set.2.1 mt_LS_set.2.2.1 mt_LS_set.2.2.2 ∈ tb := ⟨tb_mem 476 rfl rfl, tb_mem 477 rfl rfl, tb_mem 69 rfl rfl, tb_mem 478 rfl rfl⟩
set_option maxRecDepth 20000 in
theorem fs_LS_isLaw : Cond.static mt_LS_isLaw.1 ∈ tb ∧ Cond.initialized mt_LS_isLaw.1.cls ∈ tb ∧ Cond.code mt_LS_isLaw.1 mt_LS_isLaw.2.1 mt_LS_isLaw.2.2.1 mt_LS_isLaw.2.2.2 ∈ tb := ⟨tb_mem 480 rfl rfl, tb_mem 69 rfl rfl, tb_mem 481 rfl rfl⟩
set_option maxRecDepth 20000 in
theorem fv_LS_lawOf : Cond.instanceMethod mt_LS_lawOf.1 ∈ tb ∧ Cond.selects mt_LS_lawOf.1.cls mt_LS_lawOf.1 mt_LS_lawOf.1 ∈ tb ∧ Cond.initialized mt_LS_lawOf.1.cls ∈ tb ∧ Cond.code mt_LS_lawOf.1 mt_LS_lawOf.2.1 mt_LS_lawOf.2.2.1 mt_LS_lawOf.2.2.2 ∈ tb := ⟨tb_mem 484 rfl rfl, tb_mem 485 rfl rfl, tb_mem 69 rfl rfl, tb_mem 486 rfl rfl⟩
set_option maxRecDepth 20000 in
theorem fv_LS_person : Cond.instanceMethod mt_LS_person.1 ∈ tb ∧ Cond.selects mt_LS_person.1.cls mt_LS_person.1 mt_LS_person.1 ∈ tb ∧ Cond.initialized mt_LS_person.1.cls ∈ tb ∧ Cond.code mt_LS_person.1 mt_LS_person.2.1 mt_LS_person.2.2.1 mt_LS_person.2.2.2 ∈ tb := ⟨tb_mem 488 rfl rfl, tb_mem 489 rfl rfl, tb_mem 69 rfl rfl, tb_mem 490 rfl rfl⟩
set_option maxRecDepth 20000 in
theorem fs_LS_isKind : Cond.static mt_LS_isKind.1 ∈ tb ∧ Cond.initialized mt_LS_isKind.1.cls ∈ tb ∧ Cond.code mt_LS_isKind.1 mt_LS_isKind.2.1 mt_LS_isKind.2.2.1 mt_LS_isKind.2.2.2 ∈ tb := ⟨tb_mem 492 rfl rfl, tb_mem 69 rfl rfl, tb_mem 493 rfl rfl⟩
set_option maxRecDepth 20000 in
theorem fs_LS_isPlace : Cond.static mt_LS_isPlace.1 ∈ tb ∧ Cond.initialized mt_LS_isPlace.1.cls ∈ tb ∧ Cond.code mt_LS_isPlace.1 mt_LS_isPlace.2.1 mt_LS_isPlace.2.2.1 mt_LS_isPlace.2.2.2 ∈ tb := ⟨tb_mem 495 rfl rfl, tb_mem 69 rfl rfl, tb_mem 496 rfl rfl⟩
set_option maxRecDepth 20000 in
theorem fv_LS_of : Cond.instanceMethod mt_LS_of.1 ∈ tb ∧ Cond.selects mt_LS_of.1.cls mt_LS_of.1 mt_LS_of.1 ∈ tb ∧ Cond.initialized mt_LS_of.1.cls ∈ tb ∧ Cond.code mt_LS_of.1 mt_LS_of.2.1 mt_LS_of.2.2.1 mt_LS_of.2.2.2 ∈ tb := ⟨tb_mem 499 rfl rfl, tb_mem 500 rfl rfl, tb_mem 69 rfl rfl, tb_mem 501 rfl rfl⟩
set_option maxRecDepth 20000 in
theorem fv_Pk_has : Cond.instanceMethod mt_Pk_has.1 ∈ tb ∧ Cond.selects mt_Pk_has.1.cls mt_Pk_has.1 mt_Pk_has.1 ∈ tb ∧ Cond.initialized mt_Pk_has.1.cls ∈ tb ∧ Cond.code mt_Pk_has.1 mt_Pk_has.2.1 mt_Pk_has.2.2.1 mt_Pk_has.2.2.2 ∈ tb := ⟨tb_mem 503 rfl rfl, tb_mem 504 rfl rfl, tb_mem 71 rfl rfl, tb_mem 505 rfl rfl⟩
set_option maxRecDepth 20000 in
theorem fv_Pk_isHidden : Cond.instanceMethod mt_Pk_isHidden.1 ∈ tb ∧ Cond.selects mt_Pk_isHidden.1.cls mt_Pk_isHidden.1 mt_Pk_isHidden.1 ∈ tb ∧ Cond.initialized mt_Pk_isHidden.1.cls ∈ tb ∧ Cond.code mt_Pk_isHidden.1 mt_Pk_isHidden.2.1 mt_Pk_isHidden.2.2.1 mt_Pk_isHidden.2.2.2 ∈ tb := ⟨tb_mem 507 rfl rfl, tb_mem 508 rfl rfl, tb_mem 71 rfl rfl, tb_mem 509 rfl rfl⟩
set_option maxRecDepth 20000 in
theorem fv_LS_does : Cond.instanceMethod mt_LS_does.1 ∈ tb ∧ Cond.selects mt_LS_does.1.cls mt_LS_does.1 mt_LS_does.1 ∈ tb ∧ Cond.initialized mt_LS_does.1.cls ∈ tb ∧ Cond.code mt_LS_does.1 mt_LS_does.2.1 mt_LS_does.2.2.1 mt_LS_does.2.2.2 ∈ tb := ⟨tb_mem 511 rfl rfl, tb_mem 512 rfl rfl, tb_mem 69 rfl rfl, tb_mem 513 rfl rfl⟩
set_option maxRecDepth 20000 in
theorem fv_Pk_hides : Cond.instanceMethod mt_Pk_hides.1 ∈ tb ∧ Cond.selects mt_Pk_hides.1.cls mt_Pk_hides.1 mt_Pk_hides.1 ∈ tb ∧ Cond.initialized mt_Pk_hides.1.cls ∈ tb ∧ Cond.code mt_Pk_hides.1 mt_Pk_hides.2.1 mt_Pk_hides.2.2.1 mt_Pk_hides.2.2.2 ∈ tb := ⟨tb_mem 515 rfl rfl, tb_mem 516 rfl rfl, tb_mem 71 rfl rfl, tb_mem 517 rfl rfl⟩
set_option maxRecDepth 20000 in
theorem fv_Pk_sees : Cond.instanceMethod mt_Pk_sees.1 ∈ tb ∧ Cond.selects mt_Pk_sees.1.cls mt_Pk_sees.1 mt_Pk_sees.1 ∈ tb ∧ Cond.initialized mt_Pk_sees.1.cls ∈ tb ∧ Cond.code mt_Pk_sees.1 mt_Pk_sees.2.1 mt_Pk_sees.2.2.1 mt_Pk_sees.2.2.2 ∈ tb := ⟨tb_mem 519 rfl rfl, tb_mem 520 rfl rfl, tb_mem 71 rfl rfl, tb_mem 521 rfl rfl⟩
set_option maxRecDepth 20000 in
theorem fv_Pk_strides : Cond.instanceMethod mt_Pk_strides.1 ∈ tb ∧ Cond.selects mt_Pk_strides.1.cls mt_Pk_strides.1 mt_Pk_strides.1 ∈ tb ∧ Cond.initialized mt_Pk_strides.1.cls ∈ tb ∧ Cond.code mt_Pk_strides.1 mt_Pk_strides.2.1 mt_Pk_strides.2.2.1 mt_Pk_strides.2.2.2 ∈ tb := ⟨tb_mem 523 rfl rfl, tb_mem 524 rfl rfl, tb_mem 71 rfl rfl, tb_mem 525 rfl rfl⟩
set_option maxRecDepth 20000 in
theorem fv_LS_mind : Cond.instanceMethod mt_LS_mind.1 ∈ tb ∧ Cond.selects mt_LS_mind.1.cls mt_LS_mind.1 mt_LS_mind.1 ∈ tb ∧ Cond.initialized mt_LS_mind.1.cls ∈ tb ∧ Cond.code mt_LS_mind.1 mt_LS_mind.2.1 mt_LS_mind.2.2.1 mt_LS_mind.2.2.2 ∈ tb := ⟨tb_mem 527 rfl rfl, tb_mem 528 rfl rfl, tb_mem 69 rfl rfl, tb_mem 529 rfl rfl⟩
set_option maxRecDepth 20000 in
theorem fv_LS_age : Cond.instanceMethod mt_LS_age.1 ∈ tb ∧ Cond.selects mt_LS_age.1.cls mt_LS_age.1 mt_LS_age.1 ∈ tb ∧ Cond.initialized mt_LS_age.1.cls ∈ tb ∧ Cond.code mt_LS_age.1 mt_LS_age.2.1 mt_LS_age.2.2.1 mt_LS_age.2.2.2 ∈ tb := ⟨tb_mem 531 rfl rfl, tb_mem 532 rfl rfl, tb_mem 69 rfl rfl, tb_mem 533 rfl rfl⟩
set_option maxRecDepth 20000 in
theorem fv_LS_bring : Cond.instanceMethod mt_LS_bring.1 ∈ tb ∧ Cond.selects mt_LS_bring.1.cls mt_LS_bring.1 mt_LS_bring.1 ∈ tb ∧ Cond.initialized mt_LS_bring.1.cls ∈ tb ∧ Cond.code mt_LS_bring.1 mt_LS_bring.2.1 mt_LS_bring.2.2.1 mt_LS_bring.2.2.2 ∈ tb := ⟨tb_mem 535 rfl rfl, tb_mem 536 rfl rfl, tb_mem 69 rfl rfl, tb_mem 537 rfl rfl⟩
set_option maxRecDepth 20000 in
theorem fv_LS_seek : Cond.instanceMethod mt_LS_seek.1 ∈ tb ∧ Cond.selects mt_LS_seek.1.cls mt_LS_seek.1 mt_LS_seek.1 ∈ tb ∧ Cond.initialized mt_LS_seek.1.cls ∈ tb ∧ Cond.code mt_LS_seek.1 mt_LS_seek.2.1 mt_LS_seek.2.2.1 mt_LS_seek.2.2.2 ∈ tb := ⟨tb_mem 539 rfl rfl, tb_mem 540 rfl rfl, tb_mem 69 rfl rfl, tb_mem 541 rfl rfl⟩
set_option maxRecDepth 20000 in
theorem fv_LS_place : Cond.instanceMethod mt_LS_place.1 ∈ tb ∧ Cond.selects mt_LS_place.1.cls mt_LS_place.1 mt_LS_place.1 ∈ tb ∧ Cond.initialized mt_LS_place.1.cls ∈ tb ∧ Cond.code mt_LS_place.1 mt_LS_place.2.1 mt_LS_place.2.2.1 mt_LS_place.2.2.2 ∈ tb := ⟨tb_mem 544 rfl rfl, tb_mem 545 rfl rfl, tb_mem 69 rfl rfl, tb_mem 546 rfl rfl⟩
set_option maxRecDepth 20000 in
theorem fv_Pk_peopleAt : Cond.instanceMethod mt_Pk_peopleAt.1 ∈ tb ∧ Cond.selects mt_Pk_peopleAt.1.cls mt_Pk_peopleAt.1 mt_Pk_peopleAt.1 ∈ tb ∧ Cond.initialized mt_Pk_peopleAt.1.cls ∈ tb ∧ Cond.code mt_Pk_peopleAt.1 mt_Pk_peopleAt.2.1 mt_Pk_peopleAt.2.2.1 mt_Pk_peopleAt.2.2.2 ∈ tb := ⟨tb_mem 548 rfl rfl, tb_mem 549 rfl rfl, tb_mem 71 rfl rfl, tb_mem 550 rfl rfl⟩
set_option maxRecDepth 20000 in
theorem fs_Integer_bitCount : Cond.static mt_Integer_bitCount.1 ∈ tb ∧ Cond.initialized mt_Integer_bitCount.1.cls ∈ tb ∧ Cond.code mt_Integer_bitCount.1 mt_Integer_bitCount.2.1 mt_Integer_bitCount.2.2.1 mt_Integer_bitCount.2.2.2 ∈ tb := ⟨tb_mem 552 rfl rfl, tb_mem 83 rfl rfl, tb_mem 553 rfl rfl⟩
set_option maxRecDepth 20000 in
theorem fv_LS_cover : Cond.instanceMethod mt_LS_cover.1 ∈ tb ∧ Cond.selects mt_LS_cover.1.cls mt_LS_cover.1 mt_LS_cover.1 ∈ tb ∧ Cond.initialized mt_LS_cover.1.cls ∈ tb ∧ Cond.code mt_LS_cover.1 mt_LS_cover.2.1 mt_LS_cover.2.2.1 mt_LS_cover.2.2.2 ∈ tb := ⟨tb_mem 558 rfl rfl, tb_mem 559 rfl rfl, tb_mem 69 rfl rfl, tb_mem 560 rfl rfl⟩
set_option maxRecDepth 20000 in
theorem fv_LS_years : Cond.instanceMethod mt_LS_years.1 ∈ tb ∧ Cond.selects mt_LS_years.1.cls mt_LS_years.1 mt_LS_years.1 ∈ tb ∧ Cond.initialized mt_LS_years.1.cls ∈ tb ∧ Cond.code mt_LS_years.1 mt_LS_years.2.1 mt_LS_years.2.2.1 mt_LS_years.2.2.2 ∈ tb := ⟨tb_mem 562 rfl rfl, tb_mem 563 rfl rfl, tb_mem 69 rfl rfl, tb_mem 564 rfl rfl⟩
set_option maxRecDepth 20000 in
theorem fv_Pk_passYears : Cond.instanceMethod mt_Pk_passYears.1 ∈ tb ∧ Cond.selects mt_Pk_passYears.1.cls mt_Pk_passYears.1 mt_Pk_passYears.1 ∈ tb ∧ Cond.initialized mt_Pk_passYears.1.cls ∈ tb ∧ Cond.code mt_Pk_passYears.1 mt_Pk_passYears.2.1 mt_Pk_passYears.2.2.1 mt_Pk_passYears.2.2.2 ∈ tb := ⟨tb_mem 566 rfl rfl, tb_mem 567 rfl rfl, tb_mem 71 rfl rfl, tb_mem 568 rfl rfl⟩
set_option maxRecDepth 20000 in
theorem fv_Pk_passYear : Cond.instanceMethod mt_Pk_passYear.1 ∈ tb ∧ Cond.selects mt_Pk_passYear.1.cls mt_Pk_passYear.1 mt_Pk_passYear.1 ∈ tb ∧ Cond.initialized mt_Pk_passYear.1.cls ∈ tb ∧ Cond.code mt_Pk_passYear.1 mt_Pk_passYear.2.1 mt_Pk_passYear.2.2.1 mt_Pk_passYear.2.2.2 ∈ tb := ⟨tb_mem 570 rfl rfl, tb_mem 571 rfl rfl, tb_mem 71 rfl rfl, tb_mem 572 rfl rfl⟩
set_option maxRecDepth 20000 in
theorem fv_Pk_growOlder : Cond.instanceMethod mt_Pk_growOlder.1 ∈ tb ∧ Cond.selects mt_Pk_growOlder.1.cls mt_Pk_growOlder.1 mt_Pk_growOlder.1 ∈ tb ∧ Cond.initialized mt_Pk_growOlder.1.cls ∈ tb ∧ Cond.code mt_Pk_growOlder.1 mt_Pk_growOlder.2.1 mt_Pk_growOlder.2.2.1 mt_Pk_growOlder.2.2.2 ∈ tb := ⟨tb_mem 575 rfl rfl, tb_mem 12 rfl rfl, tb_mem 71 rfl rfl, tb_mem 576 rfl rfl⟩
set_option maxRecDepth 20000 in
theorem fv_Pk_goSeeking : Cond.instanceMethod mt_Pk_goSeeking.1 ∈ tb ∧ Cond.selects mt_Pk_goSeeking.1.cls mt_Pk_goSeeking.1 mt_Pk_goSeeking.1 ∈ tb ∧ Cond.initialized mt_Pk_goSeeking.1.cls ∈ tb ∧ Cond.code mt_Pk_goSeeking.1 mt_Pk_goSeeking.2.1 mt_Pk_goSeeking.2.2.1 mt_Pk_goSeeking.2.2.2 ∈ tb := ⟨tb_mem 579 rfl rfl, tb_mem 13 rfl rfl, tb_mem 71 rfl rfl, tb_mem 580 rfl rfl⟩
set_option maxRecDepth 20000 in
theorem fs_Math_floorMod : Cond.static mt_Math_floorMod.1 ∈ tb ∧ Cond.initialized mt_Math_floorMod.1.cls ∈ tb ∧ Cond.code mt_Math_floorMod.1 mt_Math_floorMod.2.1 mt_Math_floorMod.2.2.1 mt_Math_floorMod.2.2.2 ∈ tb := ⟨tb_mem 583 rfl rfl, tb_mem 84 rfl rfl, tb_mem 584 rfl rfl⟩
set_option maxRecDepth 20000 in
theorem fv_Pk_findOne : Cond.instanceMethod mt_Pk_findOne.1 ∈ tb ∧ Cond.selects mt_Pk_findOne.1.cls mt_Pk_findOne.1 mt_Pk_findOne.1 ∈ tb ∧ Cond.initialized mt_Pk_findOne.1.cls ∈ tb ∧ Cond.code mt_Pk_findOne.1 mt_Pk_findOne.2.1 mt_Pk_findOne.2.2.1 mt_Pk_findOne.2.2.2 ∈ tb := ⟨tb_mem 587 rfl rfl, tb_mem 14 rfl rfl, tb_mem 71 rfl rfl, tb_mem 588 rfl rfl⟩
set_option maxRecDepth 20000 in
theorem fv_Pk_hiddenOnes : Cond.instanceMethod mt_Pk_hiddenOnes.1 ∈ tb ∧ Cond.selects mt_Pk_hiddenOnes.1.cls mt_Pk_hiddenOnes.1 mt_Pk_hiddenOnes.1 ∈ tb ∧ Cond.initialized mt_Pk_hiddenOnes.1.cls ∈ tb ∧ Cond.code mt_Pk_hiddenOnes.1 mt_Pk_hiddenOnes.2.1 mt_Pk_hiddenOnes.2.2.1 mt_Pk_hiddenOnes.2.2.2 ∈ tb := ⟨tb_mem 593 rfl rfl, tb_mem 594 rfl rfl, tb_mem 71 rfl rfl, tb_mem 595 rfl rfl⟩
set_option maxRecDepth 20000 in
theorem fv_LS_seed : Cond.instanceMethod mt_LS_seed.1 ∈ tb ∧ Cond.selects mt_LS_seed.1.cls mt_LS_seed.1 mt_LS_seed.1 ∈ tb ∧ Cond.initialized mt_LS_seed.1.cls ∈ tb ∧ Cond.code mt_LS_seed.1 mt_LS_seed.2.1 mt_LS_seed.2.2.1 mt_LS_seed.2.2.2 ∈ tb := ⟨tb_mem 598 rfl rfl, tb_mem 599 rfl rfl, tb_mem 69 rfl rfl, tb_mem 600 rfl rfl⟩
set_option maxRecDepth 20000 in
theorem fv_LS_year : Cond.instanceMethod mt_LS_year.1 ∈ tb ∧ Cond.selects mt_LS_year.1.cls mt_LS_year.1 mt_LS_year.1 ∈ tb ∧ Cond.initialized mt_LS_year.1.cls ∈ tb ∧ Cond.code mt_LS_year.1 mt_LS_year.2.1 mt_LS_year.2.2.1 mt_LS_year.2.2.2 ∈ tb := ⟨tb_mem 602 rfl rfl, tb_mem 603 rfl rfl, tb_mem 69 rfl rfl, tb_mem 604 rfl rfl⟩
set_option maxRecDepth 20000 in
theorem fv_Pk_passYearByDraws : Cond.instanceMethod mt_Pk_passYearByDraws.1 ∈ tb ∧ Cond.selects mt_Pk_passYearByDraws.1.cls mt_Pk_passYearByDraws.1 mt_Pk_passYearByDraws.1 ∈ tb ∧ Cond.initialized mt_Pk_passYearByDraws.1.cls ∈ tb ∧ Cond.code mt_Pk_passYearByDraws.1 mt_Pk_passYearByDraws.2.1 mt_Pk_passYearByDraws.2.2.1 mt_Pk_passYearByDraws.2.2.2 ∈ tb := ⟨tb_mem 606 rfl rfl, tb_mem 607 rfl rfl, tb_mem 71 rfl rfl, tb_mem 608 rfl rfl⟩
set_option maxRecDepth 20000 in
theorem fv_Pk_drawn : Cond.instanceMethod mt_Pk_drawn.1 ∈ tb ∧ Cond.selects mt_Pk_drawn.1.cls mt_Pk_drawn.1 mt_Pk_drawn.1 ∈ tb ∧ Cond.initialized mt_Pk_drawn.1.cls ∈ tb ∧ Cond.code mt_Pk_drawn.1 mt_Pk_drawn.2.1 mt_Pk_drawn.2.2.1 mt_Pk_drawn.2.2.2 ∈ tb := ⟨tb_mem 611 rfl rfl, tb_mem 15 rfl rfl, tb_mem 71 rfl rfl, tb_mem 612 rfl rfl⟩
set_option maxRecDepth 20000 in
theorem fv_LS_nights : Cond.instanceMethod mt_LS_nights.1 ∈ tb ∧ Cond.selects mt_LS_nights.1.cls mt_LS_nights.1 mt_LS_nights.1 ∈ tb ∧ Cond.initialized mt_LS_nights.1.cls ∈ tb ∧ Cond.code mt_LS_nights.1 mt_LS_nights.2.1 mt_LS_nights.2.2.1 mt_LS_nights.2.2.2 ∈ tb := ⟨tb_mem 615 rfl rfl, tb_mem 616 rfl rfl, tb_mem 69 rfl rfl, tb_mem 617 rfl rfl⟩
set_option maxRecDepth 20000 in
theorem fv_Tr_nightsWithMoreHidden : Cond.instanceMethod mt_Tr_nightsWithMoreHidden.1 ∈ tb ∧ Cond.selects mt_Tr_nightsWithMoreHidden.1.cls mt_Tr_nightsWithMoreHidden.1 mt_Tr_nightsWithMoreHidden.1 ∈ tb ∧ Cond.initialized mt_Tr_nightsWithMoreHidden.1.cls ∈ tb ∧ Cond.code mt_Tr_nightsWithMoreHidden.1 mt_Tr_nightsWithMoreHidden.2.1 mt_Tr_nightsWithMoreHidden.2.2.1 mt_Tr_nightsWithMoreHidden.2.2.2 ∈ tb := ⟨tb_mem 619 rfl rfl, tb_mem 620 rfl rfl, tb_mem 70 rfl rfl, tb_mem 621 rfl rfl⟩
set_option maxRecDepth 20000 in
theorem fv_LS_state : Cond.instanceMethod mt_LS_state.1 ∈ tb ∧ Cond.selects mt_LS_state.1.cls mt_LS_state.1 mt_LS_state.1 ∈ tb ∧ Cond.initialized mt_LS_state.1.cls ∈ tb ∧ Cond.code mt_LS_state.1 mt_LS_state.2.1 mt_LS_state.2.2.1 mt_LS_state.2.2.2 ∈ tb := ⟨tb_mem 626 rfl rfl, tb_mem 627 rfl rfl, tb_mem 69 rfl rfl, tb_mem 628 rfl rfl⟩
set_option maxRecDepth 20000 in
theorem fs_LS_sumOf : Cond.static mt_LS_sumOf.1 ∈ tb ∧ Cond.initialized mt_LS_sumOf.1.cls ∈ tb ∧ Cond.code mt_LS_sumOf.1 mt_LS_sumOf.2.1 mt_LS_sumOf.2.2.1 mt_LS_sumOf.2.2.2 ∈ tb := ⟨tb_mem 630 rfl rfl, tb_mem 69 rfl rfl, tb_mem 631 rfl rfl⟩
set_option maxRecDepth 20000 in
theorem fv_Pk_hidingPlaces : Cond.instanceMethod mt_Pk_hidingPlaces.1 ∈ tb ∧ Cond.selects mt_Pk_hidingPlaces.1.cls mt_Pk_hidingPlaces.1 mt_Pk_hidingPlaces.1 ∈ tb ∧ Cond.initialized mt_Pk_hidingPlaces.1.cls ∈ tb ∧ Cond.code mt_Pk_hidingPlaces.1 mt_Pk_hidingPlaces.2.1 mt_Pk_hidingPlaces.2.2.1 mt_Pk_hidingPlaces.2.2.2 ∈ tb := ⟨tb_mem 633 rfl rfl, tb_mem 634 rfl rfl, tb_mem 71 rfl rfl, tb_mem 635 rfl rfl⟩
set_option maxRecDepth 20000 in
theorem fv_LS_where : Cond.instanceMethod mt_LS_where.1 ∈ tb ∧ Cond.selects mt_LS_where.1.cls mt_LS_where.1 mt_LS_where.1 ∈ tb ∧ Cond.initialized mt_LS_where.1.cls ∈ tb ∧ Cond.code mt_LS_where.1 mt_LS_where.2.1 mt_LS_where.2.2.1 mt_LS_where.2.2.2 ∈ tb := ⟨tb_mem 637 rfl rfl, tb_mem 638 rfl rfl, tb_mem 69 rfl rfl, tb_mem 639 rfl rfl⟩
set_option maxRecDepth 20000 in
theorem fv_LS_shown : Cond.instanceMethod mt_LS_shown.1 ∈ tb ∧ Cond.selects mt_LS_shown.1.cls mt_LS_shown.1 mt_LS_shown.1 ∈ tb ∧ Cond.initialized mt_LS_shown.1.cls ∈ tb ∧ Cond.code mt_LS_shown.1 mt_LS_shown.2.1 mt_LS_shown.2.2.1 mt_LS_shown.2.2.2 ∈ tb := ⟨tb_mem 641 rfl rfl, tb_mem 642 rfl rfl, tb_mem 69 rfl rfl, tb_mem 643 rfl rfl⟩
set_option maxRecDepth 20000 in
theorem fv_Tr_shownBehind : Cond.instanceMethod mt_Tr_shownBehind.1 ∈ tb ∧ Cond.selects mt_Tr_shownBehind.1.cls mt_Tr_shownBehind.1 mt_Tr_shownBehind.1 ∈ tb ∧ Cond.initialized mt_Tr_shownBehind.1.cls ∈ tb ∧ Cond.code mt_Tr_shownBehind.1 mt_Tr_shownBehind.2.1 mt_Tr_shownBehind.2.2.1 mt_Tr_shownBehind.2.2.2 ∈ tb := ⟨tb_mem 645 rfl rfl, tb_mem 646 rfl rfl, tb_mem 70 rfl rfl, tb_mem 647 rfl rfl⟩
set_option maxRecDepth 20000 in
theorem fv_Tr_yearsUntilShown : Cond.instanceMethod mt_Tr_yearsUntilShown.1 ∈ tb ∧ Cond.selects mt_Tr_yearsUntilShown.1.cls mt_Tr_yearsUntilShown.1 mt_Tr_yearsUntilShown.1 ∈ tb ∧ Cond.initialized mt_Tr_yearsUntilShown.1.cls ∈ tb ∧ Cond.code mt_Tr_yearsUntilShown.1 mt_Tr_yearsUntilShown.2.1 mt_Tr_yearsUntilShown.2.2.1 mt_Tr_yearsUntilShown.2.2.2 ∈ tb := ⟨tb_mem 650 rfl rfl, tb_mem 16 rfl rfl, tb_mem 70 rfl rfl, tb_mem 651 rfl rfl⟩
set_option maxRecDepth 20000 in
theorem fv_LS_all : Cond.instanceMethod mt_LS_all.1 ∈ tb ∧ Cond.selects mt_LS_all.1.cls mt_LS_all.1 mt_LS_all.1 ∈ tb ∧ Cond.initialized mt_LS_all.1.cls ∈ tb ∧ Cond.code mt_LS_all.1 mt_LS_all.2.1 mt_LS_all.2.2.1 mt_LS_all.2.2.2 ∈ tb := ⟨tb_mem 655 rfl rfl, tb_mem 656 rfl rfl, tb_mem 69 rfl rfl, tb_mem 657 rfl rfl⟩
set_option maxRecDepth 20000 in
theorem fv_Tr_allShownBehind : Cond.instanceMethod mt_Tr_allShownBehind.1 ∈ tb ∧ Cond.selects mt_Tr_allShownBehind.1.cls mt_Tr_allShownBehind.1 mt_Tr_allShownBehind.1 ∈ tb ∧ Cond.initialized mt_Tr_allShownBehind.1.cls ∈ tb ∧ Cond.code mt_Tr_allShownBehind.1 mt_Tr_allShownBehind.2.1 mt_Tr_allShownBehind.2.2.1 mt_Tr_allShownBehind.2.2.2 ∈ tb := ⟨tb_mem 659 rfl rfl, tb_mem 660 rfl rfl, tb_mem 70 rfl rfl, tb_mem 661 rfl rfl⟩
set_option maxRecDepth 20000 in
theorem fv_LS_finder : Cond.instanceMethod mt_LS_finder.1 ∈ tb ∧ Cond.selects mt_LS_finder.1.cls mt_LS_finder.1 mt_LS_finder.1 ∈ tb ∧ Cond.initialized mt_LS_finder.1.cls ∈ tb ∧ Cond.code mt_LS_finder.1 mt_LS_finder.2.1 mt_LS_finder.2.2.1 mt_LS_finder.2.2.2 ∈ tb := ⟨tb_mem 663 rfl rfl, tb_mem 664 rfl rfl, tb_mem 69 rfl rfl, tb_mem 665 rfl rfl⟩
set_option maxRecDepth 20000 in
theorem fv_LS_safeFor : Cond.instanceMethod mt_LS_safeFor.1 ∈ tb ∧ Cond.selects mt_LS_safeFor.1.cls mt_LS_safeFor.1 mt_LS_safeFor.1 ∈ tb ∧ Cond.initialized mt_LS_safeFor.1.cls ∈ tb ∧ Cond.code mt_LS_safeFor.1 mt_LS_safeFor.2.1 mt_LS_safeFor.2.2.1 mt_LS_safeFor.2.2.2 ∈ tb := ⟨tb_mem 667 rfl rfl, tb_mem 668 rfl rfl, tb_mem 69 rfl rfl, tb_mem 669 rfl rfl⟩
set_option maxRecDepth 20000 in
theorem fv_Tr_safestPlace : Cond.instanceMethod mt_Tr_safestPlace.1 ∈ tb ∧ Cond.selects mt_Tr_safestPlace.1.cls mt_Tr_safestPlace.1 mt_Tr_safestPlace.1 ∈ tb ∧ Cond.initialized mt_Tr_safestPlace.1.cls ∈ tb ∧ Cond.code mt_Tr_safestPlace.1 mt_Tr_safestPlace.2.1 mt_Tr_safestPlace.2.2.1 mt_Tr_safestPlace.2.2.2 ∈ tb := ⟨tb_mem 671 rfl rfl, tb_mem 672 rfl rfl, tb_mem 70 rfl rfl, tb_mem 673 rfl rfl⟩
set_option maxRecDepth 20000 in
theorem fv_LS_kindFor : Cond.instanceMethod mt_LS_kindFor.1 ∈ tb ∧ Cond.selects mt_LS_kindFor.1.cls mt_LS_kindFor.1 mt_LS_kindFor.1 ∈ tb ∧ Cond.initialized mt_LS_kindFor.1.cls ∈ tb ∧ Cond.code mt_LS_kindFor.1 mt_LS_kindFor.2.1 mt_LS_kindFor.2.2.1 mt_LS_kindFor.2.2.2 ∈ tb := ⟨tb_mem 676 rfl rfl, tb_mem 677 rfl rfl, tb_mem 69 rfl rfl, tb_mem 678 rfl rfl⟩
set_option maxRecDepth 20000 in
theorem fv_Tr_safestKind : Cond.instanceMethod mt_Tr_safestKind.1 ∈ tb ∧ Cond.selects mt_Tr_safestKind.1.cls mt_Tr_safestKind.1 mt_Tr_safestKind.1 ∈ tb ∧ Cond.initialized mt_Tr_safestKind.1.cls ∈ tb ∧ Cond.code mt_Tr_safestKind.1 mt_Tr_safestKind.2.1 mt_Tr_safestKind.2.2.1 mt_Tr_safestKind.2.2.2 ∈ tb := ⟨tb_mem 680 rfl rfl, tb_mem 681 rfl rfl, tb_mem 70 rfl rfl, tb_mem 682 rfl rfl⟩
set_option maxRecDepth 20000 in
theorem fv_LS_witFor : Cond.instanceMethod mt_LS_witFor.1 ∈ tb ∧ Cond.selects mt_LS_witFor.1.cls mt_LS_witFor.1 mt_LS_witFor.1 ∈ tb ∧ Cond.initialized mt_LS_witFor.1.cls ∈ tb ∧ Cond.code mt_LS_witFor.1 mt_LS_witFor.2.1 mt_LS_witFor.2.2.1 mt_LS_witFor.2.2.2 ∈ tb := ⟨tb_mem 684 rfl rfl, tb_mem 685 rfl rfl, tb_mem 69 rfl rfl, tb_mem 686 rfl rfl⟩
set_option maxRecDepth 20000 in
theorem fv_Tr_leastHidingWit : Cond.instanceMethod mt_Tr_leastHidingWit.1 ∈ tb ∧ Cond.selects mt_Tr_leastHidingWit.1.cls mt_Tr_leastHidingWit.1 mt_Tr_leastHidingWit.1 ∈ tb ∧ Cond.initialized mt_Tr_leastHidingWit.1.cls ∈ tb ∧ Cond.code mt_Tr_leastHidingWit.1 mt_Tr_leastHidingWit.2.1 mt_Tr_leastHidingWit.2.2.1 mt_Tr_leastHidingWit.2.2.2 ∈ tb := ⟨tb_mem 688 rfl rfl, tb_mem 689 rfl rfl, tb_mem 70 rfl rfl, tb_mem 690 rfl rfl⟩
set_option maxRecDepth 20000 in
theorem fv_LS_needed : Cond.instanceMethod mt_LS_needed.1 ∈ tb ∧ Cond.selects mt_LS_needed.1.cls mt_LS_needed.1 mt_LS_needed.1 ∈ tb ∧ Cond.initialized mt_LS_needed.1.cls ∈ tb ∧ Cond.code mt_LS_needed.1 mt_LS_needed.2.1 mt_LS_needed.2.2.1 mt_LS_needed.2.2.2 ∈ tb := ⟨tb_mem 693 rfl rfl, tb_mem 694 rfl rfl, tb_mem 69 rfl rfl, tb_mem 695 rfl rfl⟩
set_option maxRecDepth 20000 in
theorem fv_Tr_mostNeeded : Cond.instanceMethod mt_Tr_mostNeeded.1 ∈ tb ∧ Cond.selects mt_Tr_mostNeeded.1.cls mt_Tr_mostNeeded.1 mt_Tr_mostNeeded.1 ∈ tb ∧ Cond.initialized mt_Tr_mostNeeded.1.cls ∈ tb ∧ Cond.code mt_Tr_mostNeeded.1 mt_Tr_mostNeeded.2.1 mt_Tr_mostNeeded.2.2.1 mt_Tr_mostNeeded.2.2.2 ∈ tb := ⟨tb_mem 697 rfl rfl, tb_mem 698 rfl rfl, tb_mem 70 rfl rfl, tb_mem 699 rfl rfl⟩
set_option maxRecDepth 20000 in
theorem fv_LS_fewest : Cond.instanceMethod mt_LS_fewest.1 ∈ tb ∧ Cond.selects mt_LS_fewest.1.cls mt_LS_fewest.1 mt_LS_fewest.1 ∈ tb ∧ Cond.initialized mt_LS_fewest.1.cls ∈ tb ∧ Cond.code mt_LS_fewest.1 mt_LS_fewest.2.1 mt_LS_fewest.2.2.1 mt_LS_fewest.2.2.2 ∈ tb := ⟨tb_mem 702 rfl rfl, tb_mem 703 rfl rfl, tb_mem 69 rfl rfl, tb_mem 704 rfl rfl⟩
set_option maxRecDepth 20000 in
theorem fv_Tr_fewestFinders : Cond.instanceMethod mt_Tr_fewestFinders.1 ∈ tb ∧ Cond.selects mt_Tr_fewestFinders.1.cls mt_Tr_fewestFinders.1 mt_Tr_fewestFinders.1 ∈ tb ∧ Cond.initialized mt_Tr_fewestFinders.1.cls ∈ tb ∧ Cond.code mt_Tr_fewestFinders.1 mt_Tr_fewestFinders.2.1 mt_Tr_fewestFinders.2.2.1 mt_Tr_fewestFinders.2.2.2 ∈ tb := ⟨tb_mem 706 rfl rfl, tb_mem 707 rfl rfl, tb_mem 70 rfl rfl, tb_mem 708 rfl rfl⟩
set_option maxRecDepth 20000 in
theorem fv_Tr_seeksBehind : Cond.instanceMethod mt_Tr_seeksBehind.1 ∈ tb ∧ Cond.selects mt_Tr_seeksBehind.1.cls mt_Tr_seeksBehind.1 mt_Tr_seeksBehind.1 ∈ tb ∧ Cond.initialized mt_Tr_seeksBehind.1.cls ∈ tb ∧ Cond.code mt_Tr_seeksBehind.1 mt_Tr_seeksBehind.2.1 mt_Tr_seeksBehind.2.2.1 mt_Tr_seeksBehind.2.2.2 ∈ tb := ⟨tb_mem 712 rfl rfl, tb_mem 17 rfl rfl, tb_mem 70 rfl rfl, tb_mem 713 rfl rfl⟩
set_option maxRecDepth 20000 in
theorem fv_LS_round : Cond.instanceMethod mt_LS_round.1 ∈ tb ∧ Cond.selects mt_LS_round.1.cls mt_LS_round.1 mt_LS_round.1 ∈ tb ∧ Cond.initialized mt_LS_round.1.cls ∈ tb ∧ Cond.code mt_LS_round.1 mt_LS_round.2.1 mt_LS_round.2.2.1 mt_LS_round.2.2.2 ∈ tb := ⟨tb_mem 715 rfl rfl, tb_mem 716 rfl rfl, tb_mem 69 rfl rfl, tb_mem 717 rfl rfl⟩
set_option maxRecDepth 20000 in
theorem fs_LS_stepsRound : Cond.static mt_LS_stepsRound.1 ∈ tb ∧ Cond.initialized mt_LS_stepsRound.1.cls ∈ tb ∧ Cond.code mt_LS_stepsRound.1 mt_LS_stepsRound.2.1 mt_LS_stepsRound.2.2.1 mt_LS_stepsRound.2.2.2 ∈ tb := ⟨tb_mem 719 rfl rfl, tb_mem 69 rfl rfl, tb_mem 720 rfl rfl⟩
set_option maxRecDepth 20000 in
theorem fs_Math_min : Cond.static mt_Math_min.1 ∈ tb ∧ Cond.initialized mt_Math_min.1.cls ∈ tb ∧ Cond.code mt_Math_min.1 mt_Math_min.2.1 mt_Math_min.2.2.1 mt_Math_min.2.2.2 ∈ tb := ⟨tb_mem 722 rfl rfl, tb_mem 84 rfl rfl, tb_mem 723 rfl rfl⟩
set_option maxRecDepth 20000 in
theorem fv_LS_fits : Cond.instanceMethod mt_LS_fits.1 ∈ tb ∧ Cond.selects mt_LS_fits.1.cls mt_LS_fits.1 mt_LS_fits.1 ∈ tb ∧ Cond.initialized mt_LS_fits.1.cls ∈ tb ∧ Cond.code mt_LS_fits.1 mt_LS_fits.2.1 mt_LS_fits.2.2.1 mt_LS_fits.2.2.2 ∈ tb := ⟨tb_mem 725 rfl rfl, tb_mem 726 rfl rfl, tb_mem 69 rfl rfl, tb_mem 727 rfl rfl⟩
set_option maxRecDepth 20000 in
theorem fs_LS_isSheet : Cond.static mt_LS_isSheet.1 ∈ tb ∧ Cond.initialized mt_LS_isSheet.1.cls ∈ tb ∧ Cond.code mt_LS_isSheet.1 mt_LS_isSheet.2.1 mt_LS_isSheet.2.2.1 mt_LS_isSheet.2.2.2 ∈ tb := ⟨tb_mem 729 rfl rfl, tb_mem 69 rfl rfl, tb_mem 730 rfl rfl⟩
set_option maxRecDepth 20000 in
theorem fv_Sh_isMissing : Cond.instanceMethod mt_Sh_isMissing.1 ∈ tb ∧ Cond.selects mt_Sh_isMissing.1.cls mt_Sh_isMissing.1 mt_Sh_isMissing.1 ∈ tb ∧ Cond.initialized mt_Sh_isMissing.1.cls ∈ tb ∧ Cond.code mt_Sh_isMissing.1 mt_Sh_isMissing.2.1 mt_Sh_isMissing.2.2.1 mt_Sh_isMissing.2.2.2 ∈ tb := ⟨tb_mem 732 rfl rfl, tb_mem 733 rfl rfl, tb_mem 74 rfl rfl, tb_mem 734 rfl rfl⟩
set_option maxRecDepth 20000 in
theorem fv_Tr_wouldFit : Cond.instanceMethod mt_Tr_wouldFit.1 ∈ tb ∧ Cond.selects mt_Tr_wouldFit.1.cls mt_Tr_wouldFit.1 mt_Tr_wouldFit.1 ∈ tb ∧ Cond.initialized mt_Tr_wouldFit.1.cls ∈ tb ∧ Cond.code mt_Tr_wouldFit.1 mt_Tr_wouldFit.2.1 mt_Tr_wouldFit.2.2.1 mt_Tr_wouldFit.2.2.2 ∈ tb := ⟨tb_mem 736 rfl rfl, tb_mem 737 rfl rfl, tb_mem 70 rfl rfl, tb_mem 738 rfl rfl⟩
set_option maxRecDepth 20000 in
theorem fv_Sh_read : Cond.instanceMethod mt_Sh_read.1 ∈ tb ∧ Cond.selects mt_Sh_read.1.cls mt_Sh_read.1 mt_Sh_read.1 ∈ tb ∧ Cond.initialized mt_Sh_read.1.cls ∈ tb ∧ Cond.code mt_Sh_read.1 mt_Sh_read.2.1 mt_Sh_read.2.2.1 mt_Sh_read.2.2.2 ∈ tb := ⟨tb_mem 740 rfl rfl, tb_mem 741 rfl rfl, tb_mem 74 rfl rfl, tb_mem 742 rfl rfl⟩
set_option maxRecDepth 20000 in
theorem fv_LS_odds : Cond.instanceMethod mt_LS_odds.1 ∈ tb ∧ Cond.selects mt_LS_odds.1.cls mt_LS_odds.1 mt_LS_odds.1 ∈ tb ∧ Cond.initialized mt_LS_odds.1.cls ∈ tb ∧ Cond.code mt_LS_odds.1 mt_LS_odds.2.1 mt_LS_odds.2.2.1 mt_LS_odds.2.2.2 ∈ tb := ⟨tb_mem 744 rfl rfl, tb_mem 745 rfl rfl, tb_mem 69 rfl rfl, tb_mem 746 rfl rfl⟩
set_option maxRecDepth 20000 in
theorem fs_LS_partOf : Cond.static mt_LS_partOf.1 ∈ tb ∧ Cond.initialized mt_LS_partOf.1.cls ∈ tb ∧ Cond.code mt_LS_partOf.1 mt_LS_partOf.2.1 mt_LS_partOf.2.2.1 mt_LS_partOf.2.2.2 ∈ tb := ⟨tb_mem 750 rfl rfl, tb_mem 69 rfl rfl, tb_mem 751 rfl rfl⟩
set_option maxRecDepth 20000 in
theorem fs_LS_commonDivisor : Cond.static mt_LS_commonDivisor.1 ∈ tb ∧ Cond.initialized mt_LS_commonDivisor.1.cls ∈ tb ∧ Cond.code mt_LS_commonDivisor.1 mt_LS_commonDivisor.2.1 mt_LS_commonDivisor.2.2.1 mt_LS_commonDivisor.2.2.2 ∈ tb := ⟨tb_mem 753 rfl rfl, tb_mem 69 rfl rfl, tb_mem 754 rfl rfl⟩
set_option maxRecDepth 20000 in
theorem fv_LS_hope : Cond.instanceMethod mt_LS_hope.1 ∈ tb ∧ Cond.selects mt_LS_hope.1.cls mt_LS_hope.1 mt_LS_hope.1 ∈ tb ∧ Cond.initialized mt_LS_hope.1.cls ∈ tb ∧ Cond.code mt_LS_hope.1 mt_LS_hope.2.1 mt_LS_hope.2.2.1 mt_LS_hope.2.2.2 ∈ tb := ⟨tb_mem 756 rfl rfl, tb_mem 757 rfl rfl, tb_mem 69 rfl rfl, tb_mem 758 rfl rfl⟩
set_option maxRecDepth 20000 in
theorem fv_LS_prove : Cond.instanceMethod mt_LS_prove.1 ∈ tb ∧ Cond.selects mt_LS_prove.1.cls mt_LS_prove.1 mt_LS_prove.1 ∈ tb ∧ Cond.initialized mt_LS_prove.1.cls ∈ tb ∧ Cond.code mt_LS_prove.1 mt_LS_prove.2.1 mt_LS_prove.2.2.1 mt_LS_prove.2.2.2 ∈ tb := ⟨tb_mem 760 rfl rfl, tb_mem 761 rfl rfl, tb_mem 69 rfl rfl, tb_mem 762 rfl rfl⟩
set_option maxRecDepth 20000 in
theorem fv_Rw_write : Cond.instanceMethod mt_Rw_write.1 ∈ tb ∧ Cond.selects mt_Rw_write.1.cls mt_Rw_write.1 mt_Rw_write.1 ∈ tb ∧ Cond.initialized mt_Rw_write.1.cls ∈ tb ∧ Cond.code mt_Rw_write.1 mt_Rw_write.2.1 mt_Rw_write.2.2.1 mt_Rw_write.2.2.2 ∈ tb := ⟨tb_mem 765 rfl rfl, tb_mem 766 rfl rfl, tb_mem 73 rfl rfl, tb_mem 767 rfl rfl⟩
set_option maxRecDepth 20000 in
theorem fs_Rw_due : Cond.static mt_Rw_due.1 ∈ tb ∧ Cond.initialized mt_Rw_due.1.cls ∈ tb ∧ Cond.code mt_Rw_due.1 mt_Rw_due.2.1 mt_Rw_due.2.2.1 mt_Rw_due.2.2.2 ∈ tb := ⟨tb_mem 769 rfl rfl, tb_mem 73 rfl rfl, tb_mem 770 rfl rfl⟩
set_option maxRecDepth 20000 in
theorem fv_LS_row : Cond.instanceMethod mt_LS_row.1 ∈ tb ∧ Cond.selects mt_LS_row.1.cls mt_LS_row.1 mt_LS_row.1 ∈ tb ∧ Cond.initialized mt_LS_row.1.cls ∈ tb ∧ Cond.code mt_LS_row.1 mt_LS_row.2.1 mt_LS_row.2.2.1 mt_LS_row.2.2.2 ∈ tb := ⟨tb_mem 773 rfl rfl, tb_mem 774 rfl rfl, tb_mem 69 rfl rfl, tb_mem 775 rfl rfl⟩
set_option maxRecDepth 20000 in
theorem fv_Rw_has : Cond.instanceMethod mt_Rw_has.1 ∈ tb ∧ Cond.selects mt_Rw_has.1.cls mt_Rw_has.1 mt_Rw_has.1 ∈ tb ∧ Cond.initialized mt_Rw_has.1.cls ∈ tb ∧ Cond.code mt_Rw_has.1 mt_Rw_has.2.1 mt_Rw_has.2.2.1 mt_Rw_has.2.2.2 ∈ tb := ⟨tb_mem 777 rfl rfl, tb_mem 778 rfl rfl, tb_mem 73 rfl rfl, tb_mem 779 rfl rfl⟩
set_option maxRecDepth 20000 in
theorem fv_LS_alterRow : Cond.instanceMethod mt_LS_alterRow.1 ∈ tb ∧ Cond.selects mt_LS_alterRow.1.cls mt_LS_alterRow.1 mt_LS_alterRow.1 ∈ tb ∧ Cond.initialized mt_LS_alterRow.1.cls ∈ tb ∧ Cond.code mt_LS_alterRow.1 mt_LS_alterRow.2.1 mt_LS_alterRow.2.2.1 mt_LS_alterRow.2.2.2 ∈ tb := ⟨tb_mem 781 rfl rfl, tb_mem 782 rfl rfl, tb_mem 69 rfl rfl, tb_mem 783 rfl rfl⟩
set_option maxRecDepth 20000 in
theorem fv_LS_judge : Cond.instanceMethod mt_LS_judge.1 ∈ tb ∧ Cond.selects mt_LS_judge.1.cls mt_LS_judge.1 mt_LS_judge.1 ∈ tb ∧ Cond.initialized mt_LS_judge.1.cls ∈ tb ∧ Cond.code mt_LS_judge.1 mt_LS_judge.2.1 mt_LS_judge.2.2.1 mt_LS_judge.2.2.2 ∈ tb := ⟨tb_mem 785 rfl rfl, tb_mem 786 rfl rfl, tb_mem 69 rfl rfl, tb_mem 787 rfl rfl⟩
set_option maxRecDepth 20000 in
theorem fv_Rw_isRight : Cond.instanceMethod mt_Rw_isRight.1 ∈ tb ∧ Cond.selects mt_Rw_isRight.1.cls mt_Rw_isRight.1 mt_Rw_isRight.1 ∈ tb ∧ Cond.initialized mt_Rw_isRight.1.cls ∈ tb ∧ Cond.code mt_Rw_isRight.1 mt_Rw_isRight.2.1 mt_Rw_isRight.2.2.1 mt_Rw_isRight.2.2.2 ∈ tb := ⟨tb_mem 789 rfl rfl, tb_mem 790 rfl rfl, tb_mem 73 rfl rfl, tb_mem 791 rfl rfl⟩
set_option maxRecDepth 20000 in
theorem fv_LS_minds : Cond.instanceMethod mt_LS_minds.1 ∈ tb ∧ Cond.selects mt_LS_minds.1.cls mt_LS_minds.1 mt_LS_minds.1 ∈ tb ∧ Cond.initialized mt_LS_minds.1.cls ∈ tb ∧ Cond.code mt_LS_minds.1 mt_LS_minds.2.1 mt_LS_minds.2.2.1 mt_LS_minds.2.2.2 ∈ tb := ⟨tb_mem 793 rfl rfl, tb_mem 794 rfl rfl, tb_mem 69 rfl rfl, tb_mem 795 rfl rfl⟩
set_option maxRecDepth 20000 in
theorem fs_Math_max : Cond.static mt_Math_max.1 ∈ tb ∧ Cond.initialized mt_Math_max.1.cls ∈ tb ∧ Cond.code mt_Math_max.1 mt_Math_max.2.1 mt_Math_max.2.2.1 mt_Math_max.2.2.2 ∈ tb := ⟨tb_mem 798 rfl rfl, tb_mem 84 rfl rfl, tb_mem 799 rfl rfl⟩
set_option maxRecDepth 20000 in
theorem fv_LS_sheet : Cond.instanceMethod mt_LS_sheet.1 ∈ tb ∧ Cond.selects mt_LS_sheet.1.cls mt_LS_sheet.1 mt_LS_sheet.1 ∈ tb ∧ Cond.initialized mt_LS_sheet.1.cls ∈ tb ∧ Cond.code mt_LS_sheet.1 mt_LS_sheet.2.1 mt_LS_sheet.2.2.1 mt_LS_sheet.2.2.2 ∈ tb := ⟨tb_mem 801 rfl rfl, tb_mem 802 rfl rfl, tb_mem 69 rfl rfl, tb_mem 803 rfl rfl⟩
set_option maxRecDepth 20000 in
theorem fv_Sh_remove : Cond.instanceMethod mt_Sh_remove.1 ∈ tb ∧ Cond.selects mt_Sh_remove.1.cls mt_Sh_remove.1 mt_Sh_remove.1 ∈ tb ∧ Cond.initialized mt_Sh_remove.1.cls ∈ tb ∧ Cond.code mt_Sh_remove.1 mt_Sh_remove.2.1 mt_Sh_remove.2.2.1 mt_Sh_remove.2.2.2 ∈ tb := ⟨tb_mem 805 rfl rfl, tb_mem 806 rfl rfl, tb_mem 74 rfl rfl, tb_mem 807 rfl rfl⟩
set_option maxRecDepth 20000 in
theorem fv_Sh_lay : Cond.instanceMethod mt_Sh_lay.1 ∈ tb ∧ Cond.selects mt_Sh_lay.1.cls mt_Sh_lay.1 mt_Sh_lay.1 ∈ tb ∧ Cond.initialized mt_Sh_lay.1.cls ∈ tb ∧ Cond.code mt_Sh_lay.1 mt_Sh_lay.2.1 mt_Sh_lay.2.2.1 mt_Sh_lay.2.2.2 ∈ tb := ⟨tb_mem 809 rfl rfl, tb_mem 810 rfl rfl, tb_mem 74 rfl rfl, tb_mem 811 rfl rfl⟩
set_option maxRecDepth 20000 in
theorem fv_LS_put : Cond.instanceMethod mt_LS_put.1 ∈ tb ∧ Cond.selects mt_LS_put.1.cls mt_LS_put.1 mt_LS_put.1 ∈ tb ∧ Cond.initialized mt_LS_put.1.cls ∈ tb ∧ Cond.code mt_LS_put.1 mt_LS_put.2.1 mt_LS_put.2.2.1 mt_LS_put.2.2.2 ∈ tb := ⟨tb_mem 813 rfl rfl, tb_mem 814 rfl rfl, tb_mem 69 rfl rfl, tb_mem 815 rfl rfl⟩
set_option maxRecDepth 20000 in
theorem fv_Sh_hasItem : Cond.instanceMethod mt_Sh_hasItem.1 ∈ tb ∧ Cond.selects mt_Sh_hasItem.1.cls mt_Sh_hasItem.1 mt_Sh_hasItem.1 ∈ tb ∧ Cond.initialized mt_Sh_hasItem.1.cls ∈ tb ∧ Cond.code mt_Sh_hasItem.1 mt_Sh_hasItem.2.1 mt_Sh_hasItem.2.2.1 mt_Sh_hasItem.2.2.2 ∈ tb := ⟨tb_mem 817 rfl rfl, tb_mem 818 rfl rfl, tb_mem 74 rfl rfl, tb_mem 819 rfl rfl⟩
set_option maxRecDepth 20000 in
theorem fv_Sh_write : Cond.instanceMethod mt_Sh_write.1 ∈ tb ∧ Cond.selects mt_Sh_write.1.cls mt_Sh_write.1 mt_Sh_write.1 ∈ tb ∧ Cond.initialized mt_Sh_write.1.cls ∈ tb ∧ Cond.code mt_Sh_write.1 mt_Sh_write.2.1 mt_Sh_write.2.2.1 mt_Sh_write.2.2.2 ∈ tb := ⟨tb_mem 821 rfl rfl, tb_mem 822 rfl rfl, tb_mem 74 rfl rfl, tb_mem 823 rfl rfl⟩
set_option maxRecDepth 20000 in
theorem fs_Sh_narrowed : Cond.static mt_Sh_narrowed.1 ∈ tb ∧ Cond.initialized mt_Sh_narrowed.1.cls ∈ tb ∧ Cond.code mt_Sh_narrowed.1 mt_Sh_narrowed.2.1 mt_Sh_narrowed.2.2.1 mt_Sh_narrowed.2.2.2 ∈ tb := ⟨tb_mem 825 rfl rfl, tb_mem 74 rfl rfl, tb_mem 826 rfl rfl⟩
set_option maxRecDepth 20000 in
theorem fv_LS_item : Cond.instanceMethod mt_LS_item.1 ∈ tb ∧ Cond.selects mt_LS_item.1.cls mt_LS_item.1 mt_LS_item.1 ∈ tb ∧ Cond.initialized mt_LS_item.1.cls ∈ tb ∧ Cond.code mt_LS_item.1 mt_LS_item.2.1 mt_LS_item.2.2.1 mt_LS_item.2.2.2 ∈ tb := ⟨tb_mem 828 rfl rfl, tb_mem 829 rfl rfl, tb_mem 69 rfl rfl, tb_mem 830 rfl rfl⟩
set_option maxRecDepth 20000 in
theorem fv_LS_shelf : Cond.instanceMethod mt_LS_shelf.1 ∈ tb ∧ Cond.selects mt_LS_shelf.1.cls mt_LS_shelf.1 mt_LS_shelf.1 ∈ tb ∧ Cond.initialized mt_LS_shelf.1.cls ∈ tb ∧ Cond.code mt_LS_shelf.1 mt_LS_shelf.2.1 mt_LS_shelf.2.2.1 mt_LS_shelf.2.2.2 ∈ tb := ⟨tb_mem 832 rfl rfl, tb_mem 833 rfl rfl, tb_mem 69 rfl rfl, tb_mem 834 rfl rfl⟩
set_option maxRecDepth 20000 in
theorem fs_LS_isShelf : Cond.static mt_LS_isShelf.1 ∈ tb ∧ Cond.initialized mt_LS_isShelf.1.cls ∈ tb ∧ Cond.code mt_LS_isShelf.1 mt_LS_isShelf.2.1 mt_LS_isShelf.2.2.1 mt_LS_isShelf.2.2.2 ∈ tb := ⟨tb_mem 836 rfl rfl, tb_mem 69 rfl rfl, tb_mem 837 rfl rfl⟩
set_option maxRecDepth 20000 in
theorem fv_Sv_holdPerson : Cond.instanceMethod mt_Sv_holdPerson.1 ∈ tb ∧ Cond.selects mt_Sv_holdPerson.1.cls mt_Sv_holdPerson.1 mt_Sv_holdPerson.1 ∈ tb ∧ Cond.initialized mt_Sv_holdPerson.1.cls ∈ tb ∧ Cond.code mt_Sv_holdPerson.1 mt_Sv_holdPerson.2.1 mt_Sv_holdPerson.2.2.1 mt_Sv_holdPerson.2.2.2 ∈ tb := ⟨tb_mem 839 rfl rfl, tb_mem 840 rfl rfl, tb_mem 75 rfl rfl, tb_mem 841 rfl rfl⟩
set_option maxRecDepth 20000 in
theorem fv_Sv_holdNothing : Cond.instanceMethod mt_Sv_holdNothing.1 ∈ tb ∧ Cond.selects mt_Sv_holdNothing.1.cls mt_Sv_holdNothing.1 mt_Sv_holdNothing.1 ∈ tb ∧ Cond.initialized mt_Sv_holdNothing.1.cls ∈ tb ∧ Cond.code mt_Sv_holdNothing.1 mt_Sv_holdNothing.2.1 mt_Sv_holdNothing.2.2.1 mt_Sv_holdNothing.2.2.2 ∈ tb := ⟨tb_mem 843 rfl rfl, tb_mem 844 rfl rfl, tb_mem 75 rfl rfl, tb_mem 845 rfl rfl⟩
set_option maxRecDepth 20000 in
theorem fv_Sv_holdRow : Cond.instanceMethod mt_Sv_holdRow.1 ∈ tb ∧ Cond.selects mt_Sv_holdRow.1.cls mt_Sv_holdRow.1 mt_Sv_holdRow.1 ∈ tb ∧ Cond.initialized mt_Sv_holdRow.1.cls ∈ tb ∧ Cond.code mt_Sv_holdRow.1 mt_Sv_holdRow.2.1 mt_Sv_holdRow.2.2.1 mt_Sv_holdRow.2.2.2 ∈ tb := ⟨tb_mem 847 rfl rfl, tb_mem 848 rfl rfl, tb_mem 75 rfl rfl, tb_mem 849 rfl rfl⟩
set_option maxRecDepth 20000 in
theorem fv_LS_taken : Cond.instanceMethod mt_LS_taken.1 ∈ tb ∧ Cond.selects mt_LS_taken.1.cls mt_LS_taken.1 mt_LS_taken.1 ∈ tb ∧ Cond.initialized mt_LS_taken.1.cls ∈ tb ∧ Cond.code mt_LS_taken.1 mt_LS_taken.2.1 mt_LS_taken.2.2.1 mt_LS_taken.2.2.2 ∈ tb := ⟨tb_mem 852 rfl rfl, tb_mem 853 rfl rfl, tb_mem 69 rfl rfl, tb_mem 854 rfl rfl⟩
set_option maxRecDepth 20000 in
theorem fv_Sv_holdsRow : Cond.instanceMethod mt_Sv_holdsRow.1 ∈ tb ∧ Cond.selects mt_Sv_holdsRow.1.cls mt_Sv_holdsRow.1 mt_Sv_holdsRow.1 ∈ tb ∧ Cond.initialized mt_Sv_holdsRow.1.cls ∈ tb ∧ Cond.code mt_Sv_holdsRow.1 mt_Sv_holdsRow.2.1 mt_Sv_holdsRow.2.2.1 mt_Sv_holdsRow.2.2.2 ∈ tb := ⟨tb_mem 856 rfl rfl, tb_mem 857 rfl rfl, tb_mem 75 rfl rfl, tb_mem 858 rfl rfl⟩
set_option maxRecDepth 20000 in
theorem fs_LS_isUnder : Cond.static mt_LS_isUnder.1 ∈ tb ∧ Cond.initialized mt_LS_isUnder.1.cls ∈ tb ∧ Cond.code mt_LS_isUnder.1 mt_LS_isUnder.2.1 mt_LS_isUnder.2.2.1 mt_LS_isUnder.2.2.2 ∈ tb := ⟨tb_mem 860 rfl rfl, tb_mem 69 rfl rfl, tb_mem 861 rfl rfl⟩
set_option maxRecDepth 20000 in
theorem fv_LS_act : Cond.instanceMethod mt_LS_act.1 ∈ tb ∧ Cond.selects mt_LS_act.1.cls mt_LS_act.1 mt_LS_act.1 ∈ tb ∧ Cond.initialized mt_LS_act.1.cls ∈ tb ∧ Cond.code mt_LS_act.1 mt_LS_act.2.1 mt_LS_act.2.2.1 mt_LS_act.2.2.2 ∈ tb := ⟨tb_mem 865 rfl rfl, tb_mem 866 rfl rfl, tb_mem 69 rfl rfl, tb_mem 867 rfl rfl⟩
set_option maxRecDepth 20000 in
theorem fv_Ac_perform : Cond.instanceMethod mt_Ac_perform.1 ∈ tb ∧ Cond.selects mt_Ac_perform.1.cls mt_Ac_perform.1 mt_Ac_perform.1 ∈ tb ∧ Cond.initialized mt_Ac_perform.1.cls ∈ tb ∧ Cond.code mt_Ac_perform.1 mt_Ac_perform.2.1 mt_Ac_perform.2.2.1 mt_Ac_perform.2.2.2 ∈ tb := ⟨tb_mem 869 rfl rfl, tb_mem 870 rfl rfl, tb_mem 76 rfl rfl, tb_mem 871 rfl rfl⟩
set_option maxRecDepth 20000 in
theorem fv_Ac_run : Cond.instanceMethod mt_Ac_run.1 ∈ tb ∧ Cond.selects mt_Ac_run.1.cls mt_Ac_run.1 mt_Ac_run.1 ∈ tb ∧ Cond.initialized mt_Ac_run.1.cls ∈ tb ∧ Cond.code mt_Ac_run.1 mt_Ac_run.2.1 mt_Ac_run.2.2.1 mt_Ac_run.2.2.2 ∈ tb := ⟨tb_mem 874 rfl rfl, tb_mem 18 rfl rfl, tb_mem 76 rfl rfl, tb_mem 875 rfl rfl⟩
set_option maxRecDepth 20000 in
theorem fv_Ac_quotient : Cond.instanceMethod mt_Ac_quotient.1 ∈ tb ∧ Cond.selects mt_Ac_quotient.1.cls mt_Ac_quotient.1 mt_Ac_quotient.1 ∈ tb ∧ Cond.initialized mt_Ac_quotient.1.cls ∈ tb ∧ Cond.code mt_Ac_quotient.1 mt_Ac_quotient.2.1 mt_Ac_quotient.2.2.1 mt_Ac_quotient.2.2.2 ∈ tb := ⟨tb_mem 880 rfl rfl, tb_mem 19 rfl rfl, tb_mem 76 rfl rfl, tb_mem 881 rfl rfl⟩
set_option maxRecDepth 20000 in
theorem fv_LS_trace : Cond.instanceMethod mt_LS_trace.1 ∈ tb ∧ Cond.selects mt_LS_trace.1.cls mt_LS_trace.1 mt_LS_trace.1 ∈ tb ∧ Cond.initialized mt_LS_trace.1.cls ∈ tb ∧ Cond.code mt_LS_trace.1 mt_LS_trace.2.1 mt_LS_trace.2.2.1 mt_LS_trace.2.2.2 ∈ tb := ⟨tb_mem 883 rfl rfl, tb_mem 884 rfl rfl, tb_mem 69 rfl rfl, tb_mem 885 rfl rfl⟩
set_option maxRecDepth 20000 in
theorem fv_LS_many : Cond.instanceMethod mt_LS_many.1 ∈ tb ∧ Cond.selects mt_LS_many.1.cls mt_LS_many.1 mt_LS_many.1 ∈ tb ∧ Cond.initialized mt_LS_many.1.cls ∈ tb ∧ Cond.code mt_LS_many.1 mt_LS_many.2.1 mt_LS_many.2.2.1 mt_LS_many.2.2.2 ∈ tb := ⟨tb_mem 887 rfl rfl, tb_mem 888 rfl rfl, tb_mem 69 rfl rfl, tb_mem 889 rfl rfl⟩
set_option maxRecDepth 20000 in
theorem fv_Pk_peopleInCompany : Cond.instanceMethod mt_Pk_peopleInCompany.1 ∈ tb ∧ Cond.selects mt_Pk_peopleInCompany.1.cls mt_Pk_peopleInCompany.1 mt_Pk_peopleInCompany.1 ∈ tb ∧ Cond.initialized mt_Pk_peopleInCompany.1.cls ∈ tb ∧ Cond.code mt_Pk_peopleInCompany.1 mt_Pk_peopleInCompany.2.1 mt_Pk_peopleInCompany.2.2.1 mt_Pk_peopleInCompany.2.2.2 ∈ tb := ⟨tb_mem 891 rfl rfl, tb_mem 892 rfl rfl, tb_mem 71 rfl rfl, tb_mem 893 rfl rfl⟩
set_option maxRecDepth 20000 in
theorem fv_LS_keep : Cond.instanceMethod mt_LS_keep.1 ∈ tb ∧ Cond.selects mt_LS_keep.1.cls mt_LS_keep.1 mt_LS_keep.1 ∈ tb ∧ Cond.initialized mt_LS_keep.1.cls ∈ tb ∧ Cond.code mt_LS_keep.1 mt_LS_keep.2.1 mt_LS_keep.2.2.1 mt_LS_keep.2.2.2 ∈ tb := ⟨tb_mem 896 rfl rfl, tb_mem 897 rfl rfl, tb_mem 69 rfl rfl, tb_mem 898 rfl rfl⟩
set_option maxRecDepth 20000 in
theorem fv_LS_again : Cond.instanceMethod mt_LS_again.1 ∈ tb ∧ Cond.selects mt_LS_again.1.cls mt_LS_again.1 mt_LS_again.1 ∈ tb ∧ Cond.initialized mt_LS_again.1.cls ∈ tb ∧ Cond.code mt_LS_again.1 mt_LS_again.2.1 mt_LS_again.2.2.1 mt_LS_again.2.2.2 ∈ tb := ⟨tb_mem 900 rfl rfl, tb_mem 901 rfl rfl, tb_mem 69 rfl rfl, tb_mem 902 rfl rfl⟩
set_option maxRecDepth 20000 in
theorem fv_Md_begins : Cond.instanceMethod mt_Md_begins.1 ∈ tb ∧ Cond.selects mt_Md_begins.1.cls mt_Md_begins.1 mt_Md_begins.1 ∈ tb ∧ Cond.initialized mt_Md_begins.1.cls ∈ tb ∧ Cond.code mt_Md_begins.1 mt_Md_begins.2.1 mt_Md_begins.2.2.1 mt_Md_begins.2.2.2 ∈ tb := ⟨tb_mem 911 rfl rfl, tb_mem 20 rfl rfl, tb_mem 77 rfl rfl, tb_mem 912 rfl rfl⟩
set_option maxRecDepth 20000 in
theorem fv_Md_feed : Cond.instanceMethod mt_Md_feed.1 ∈ tb ∧ Cond.selects mt_Md_feed.1.cls mt_Md_feed.1 mt_Md_feed.1 ∈ tb ∧ Cond.initialized mt_Md_feed.1.cls ∈ tb ∧ Cond.code mt_Md_feed.1 mt_Md_feed.2.1 mt_Md_feed.2.2.1 mt_Md_feed.2.2.2 ∈ tb := ⟨tb_mem 996 rfl rfl, tb_mem 997 rfl rfl, tb_mem 77 rfl rfl, tb_mem 998 rfl rfl⟩
set_option maxRecDepth 20000 in
theorem fs_Md_isIn : Cond.static mt_Md_isIn.1 ∈ tb ∧ Cond.initialized mt_Md_isIn.1.cls ∈ tb ∧ Cond.code mt_Md_isIn.1 mt_Md_isIn.2.1 mt_Md_isIn.2.2.1 mt_Md_isIn.2.2.2 ∈ tb := ⟨tb_mem 1001 rfl rfl, tb_mem 77 rfl rfl, tb_mem 1002 rfl rfl⟩
set_option maxRecDepth 20000 in
theorem fv_Md_park : Cond.instanceMethod mt_Md_park.1 ∈ tb ∧ Cond.selects mt_Md_park.1.cls mt_Md_park.1 mt_Md_park.1 ∈ tb ∧ Cond.initialized mt_Md_park.1.cls ∈ tb ∧ Cond.code mt_Md_park.1 mt_Md_park.2.1 mt_Md_park.2.2.1 mt_Md_park.2.2.2 ∈ tb := ⟨tb_mem 1005 rfl rfl, tb_mem 1006 rfl rfl, tb_mem 77 rfl rfl, tb_mem 1007 rfl rfl⟩
set_option maxRecDepth 20000 in
theorem fs_Md_copyRow : Cond.static mt_Md_copyRow.1 ∈ tb ∧ Cond.initialized mt_Md_copyRow.1.cls ∈ tb ∧ Cond.code mt_Md_copyRow.1 mt_Md_copyRow.2.1 mt_Md_copyRow.2.2.1 mt_Md_copyRow.2.2.2 ∈ tb := ⟨tb_mem 1009 rfl rfl, tb_mem 77 rfl rfl, tb_mem 1010 rfl rfl⟩
set_option maxRecDepth 20000 in
theorem fv_Md_nextToken : Cond.instanceMethod mt_Md_nextToken.1 ∈ tb ∧ Cond.selects mt_Md_nextToken.1.cls mt_Md_nextToken.1 mt_Md_nextToken.1 ∈ tb ∧ Cond.initialized mt_Md_nextToken.1.cls ∈ tb ∧ Cond.code mt_Md_nextToken.1 mt_Md_nextToken.2.1 mt_Md_nextToken.2.2.1 mt_Md_nextToken.2.2.2 ∈ tb := ⟨tb_mem 1013 rfl rfl, tb_mem 21 rfl rfl, tb_mem 77 rfl rfl, tb_mem 1014 rfl rfl⟩
set_option maxRecDepth 20000 in
theorem fv_Md_byteAt : Cond.instanceMethod mt_Md_byteAt.1 ∈ tb ∧ Cond.selects mt_Md_byteAt.1.cls mt_Md_byteAt.1 mt_Md_byteAt.1 ∈ tb ∧ Cond.initialized mt_Md_byteAt.1.cls ∈ tb ∧ Cond.code mt_Md_byteAt.1 mt_Md_byteAt.2.1 mt_Md_byteAt.2.2.1 mt_Md_byteAt.2.2.2 ∈ tb := ⟨tb_mem 1017 rfl rfl, tb_mem 22 rfl rfl, tb_mem 77 rfl rfl, tb_mem 1018 rfl rfl⟩
set_option maxRecDepth 20000 in
theorem fs_Md_isAlpha : Cond.static mt_Md_isAlpha.1 ∈ tb ∧ Cond.initialized mt_Md_isAlpha.1.cls ∈ tb ∧ Cond.code mt_Md_isAlpha.1 mt_Md_isAlpha.2.1 mt_Md_isAlpha.2.2.1 mt_Md_isAlpha.2.2.2 ∈ tb := ⟨tb_mem 1020 rfl rfl, tb_mem 77 rfl rfl, tb_mem 1021 rfl rfl⟩
set_option maxRecDepth 20000 in
theorem fs_Md_isDigit : Cond.static mt_Md_isDigit.1 ∈ tb ∧ Cond.initialized mt_Md_isDigit.1.cls ∈ tb ∧ Cond.code mt_Md_isDigit.1 mt_Md_isDigit.2.1 mt_Md_isDigit.2.2.1 mt_Md_isDigit.2.2.2 ∈ tb := ⟨tb_mem 1023 rfl rfl, tb_mem 77 rfl rfl, tb_mem 1024 rfl rfl⟩
set_option maxRecDepth 20000 in
theorem fv_Md_itemHere : Cond.instanceMethod mt_Md_itemHere.1 ∈ tb ∧ Cond.selects mt_Md_itemHere.1.cls mt_Md_itemHere.1 mt_Md_itemHere.1 ∈ tb ∧ Cond.initialized mt_Md_itemHere.1.cls ∈ tb ∧ Cond.code mt_Md_itemHere.1 mt_Md_itemHere.2.1 mt_Md_itemHere.2.2.1 mt_Md_itemHere.2.2.2 ∈ tb := ⟨tb_mem 1027 rfl rfl, tb_mem 23 rfl rfl, tb_mem 77 rfl rfl, tb_mem 1028 rfl rfl⟩
set_option maxRecDepth 20000 in
theorem fv_Md_kindHere : Cond.instanceMethod mt_Md_kindHere.1 ∈ tb ∧ Cond.selects mt_Md_kindHere.1.cls mt_Md_kindHere.1 mt_Md_kindHere.1 ∈ tb ∧ Cond.initialized mt_Md_kindHere.1.cls ∈ tb ∧ Cond.code mt_Md_kindHere.1 mt_Md_kindHere.2.1 mt_Md_kindHere.2.2.1 mt_Md_kindHere.2.2.2 ∈ tb := ⟨tb_mem 1031 rfl rfl, tb_mem 24 rfl rfl, tb_mem 77 rfl rfl, tb_mem 1032 rfl rfl⟩
set_option maxRecDepth 20000 in
theorem fv_Md_isFive : Cond.instanceMethod mt_Md_isFive.1 ∈ tb ∧ Cond.selects mt_Md_isFive.1.cls mt_Md_isFive.1 mt_Md_isFive.1 ∈ tb ∧ Cond.initialized mt_Md_isFive.1.cls ∈ tb ∧ Cond.code mt_Md_isFive.1 mt_Md_isFive.2.1 mt_Md_isFive.2.2.1 mt_Md_isFive.2.2.2 ∈ tb := ⟨tb_mem 1035 rfl rfl, tb_mem 25 rfl rfl, tb_mem 77 rfl rfl, tb_mem 1036 rfl rfl⟩
set_option maxRecDepth 20000 in
theorem fv_Md_isName : Cond.instanceMethod mt_Md_isName.1 ∈ tb ∧ Cond.selects mt_Md_isName.1.cls mt_Md_isName.1 mt_Md_isName.1 ∈ tb ∧ Cond.initialized mt_Md_isName.1.cls ∈ tb ∧ Cond.code mt_Md_isName.1 mt_Md_isName.2.1 mt_Md_isName.2.2.1 mt_Md_isName.2.2.2 ∈ tb := ⟨tb_mem 1039 rfl rfl, tb_mem 26 rfl rfl, tb_mem 77 rfl rfl, tb_mem 1040 rfl rfl⟩
set_option maxRecDepth 20000 in
theorem fv_Md_isSame : Cond.instanceMethod mt_Md_isSame.1 ∈ tb ∧ Cond.selects mt_Md_isSame.1.cls mt_Md_isSame.1 mt_Md_isSame.1 ∈ tb ∧ Cond.initialized mt_Md_isSame.1.cls ∈ tb ∧ Cond.code mt_Md_isSame.1 mt_Md_isSame.2.1 mt_Md_isSame.2.2.1 mt_Md_isSame.2.2.2 ∈ tb := ⟨tb_mem 1043 rfl rfl, tb_mem 27 rfl rfl, tb_mem 77 rfl rfl, tb_mem 1044 rfl rfl⟩
set_option maxRecDepth 20000 in
theorem fv_Md_isFour : Cond.instanceMethod mt_Md_isFour.1 ∈ tb ∧ Cond.selects mt_Md_isFour.1.cls mt_Md_isFour.1 mt_Md_isFour.1 ∈ tb ∧ Cond.initialized mt_Md_isFour.1.cls ∈ tb ∧ Cond.code mt_Md_isFour.1 mt_Md_isFour.2.1 mt_Md_isFour.2.2.1 mt_Md_isFour.2.2.2 ∈ tb := ⟨tb_mem 1047 rfl rfl, tb_mem 28 rfl rfl, tb_mem 77 rfl rfl, tb_mem 1048 rfl rfl⟩
set_option maxRecDepth 20000 in
theorem fv_Md_lawHere : Cond.instanceMethod mt_Md_lawHere.1 ∈ tb ∧ Cond.selects mt_Md_lawHere.1.cls mt_Md_lawHere.1 mt_Md_lawHere.1 ∈ tb ∧ Cond.initialized mt_Md_lawHere.1.cls ∈ tb ∧ Cond.code mt_Md_lawHere.1 mt_Md_lawHere.2.1 mt_Md_lawHere.2.2.1 mt_Md_lawHere.2.2.2 ∈ tb := ⟨tb_mem 1051 rfl rfl, tb_mem 29 rfl rfl, tb_mem 77 rfl rfl, tb_mem 1052 rfl rfl⟩
set_option maxRecDepth 20000 in
theorem fv_Md_personHere : Cond.instanceMethod mt_Md_personHere.1 ∈ tb ∧ Cond.selects mt_Md_personHere.1.cls mt_Md_personHere.1 mt_Md_personHere.1 ∈ tb ∧ Cond.initialized mt_Md_personHere.1.cls ∈ tb ∧ Cond.code mt_Md_personHere.1 mt_Md_personHere.2.1 mt_Md_personHere.2.2.1 mt_Md_personHere.2.2.2 ∈ tb := ⟨tb_mem 1055 rfl rfl, tb_mem 30 rfl rfl, tb_mem 77 rfl rfl, tb_mem 1056 rfl rfl⟩
set_option maxRecDepth 20000 in
theorem fv_Md_needs : Cond.instanceMethod mt_Md_needs.1 ∈ tb ∧ Cond.selects mt_Md_needs.1.cls mt_Md_needs.1 mt_Md_needs.1 ∈ tb ∧ Cond.initialized mt_Md_needs.1.cls ∈ tb ∧ Cond.code mt_Md_needs.1 mt_Md_needs.2.1 mt_Md_needs.2.2.1 mt_Md_needs.2.2.2 ∈ tb := ⟨tb_mem 1059 rfl rfl, tb_mem 31 rfl rfl, tb_mem 77 rfl rfl, tb_mem 1060 rfl rfl⟩
set_option maxRecDepth 20000 in
theorem fv_Md_isTwo : Cond.instanceMethod mt_Md_isTwo.1 ∈ tb ∧ Cond.selects mt_Md_isTwo.1.cls mt_Md_isTwo.1 mt_Md_isTwo.1 ∈ tb ∧ Cond.initialized mt_Md_isTwo.1.cls ∈ tb ∧ Cond.code mt_Md_isTwo.1 mt_Md_isTwo.2.1 mt_Md_isTwo.2.2.1 mt_Md_isTwo.2.2.2 ∈ tb := ⟨tb_mem 1063 rfl rfl, tb_mem 32 rfl rfl, tb_mem 77 rfl rfl, tb_mem 1064 rfl rfl⟩
set_option maxRecDepth 20000 in
theorem fv_Md_numberTo : Cond.instanceMethod mt_Md_numberTo.1 ∈ tb ∧ Cond.selects mt_Md_numberTo.1.cls mt_Md_numberTo.1 mt_Md_numberTo.1 ∈ tb ∧ Cond.initialized mt_Md_numberTo.1.cls ∈ tb ∧ Cond.code mt_Md_numberTo.1 mt_Md_numberTo.2.1 mt_Md_numberTo.2.2.1 mt_Md_numberTo.2.2.2 ∈ tb := ⟨tb_mem 1067 rfl rfl, tb_mem 33 rfl rfl, tb_mem 77 rfl rfl, tb_mem 1068 rfl rfl⟩
set_option maxRecDepth 20000 in
theorem fv_Md_perhaps : Cond.instanceMethod mt_Md_perhaps.1 ∈ tb ∧ Cond.selects mt_Md_perhaps.1.cls mt_Md_perhaps.1 mt_Md_perhaps.1 ∈ tb ∧ Cond.initialized mt_Md_perhaps.1.cls ∈ tb ∧ Cond.code mt_Md_perhaps.1 mt_Md_perhaps.2.1 mt_Md_perhaps.2.2.1 mt_Md_perhaps.2.2.2 ∈ tb := ⟨tb_mem 1071 rfl rfl, tb_mem 34 rfl rfl, tb_mem 77 rfl rfl, tb_mem 1072 rfl rfl⟩
set_option maxRecDepth 20000 in
theorem fv_Md_coverHere : Cond.instanceMethod mt_Md_coverHere.1 ∈ tb ∧ Cond.selects mt_Md_coverHere.1.cls mt_Md_coverHere.1 mt_Md_coverHere.1 ∈ tb ∧ Cond.initialized mt_Md_coverHere.1.cls ∈ tb ∧ Cond.code mt_Md_coverHere.1 mt_Md_coverHere.2.1 mt_Md_coverHere.2.2.1 mt_Md_coverHere.2.2.2 ∈ tb := ⟨tb_mem 1075 rfl rfl, tb_mem 35 rfl rfl, tb_mem 77 rfl rfl, tb_mem 1076 rfl rfl⟩
set_option maxRecDepth 20000 in
theorem fv_Md_set : Cond.instanceMethod mt_Md_set.1 ∈ tb ∧ Cond.selects mt_Md_set.1.cls mt_Md_set.1 mt_Md_set.1 ∈ tb ∧ Cond.initialized mt_Md_set.1.cls ∈ tb ∧ Cond.code mt_Md_set.1 mt_Md_set.2.1 mt_Md_set.2.2.1 mt_Md_set.2.2.2 ∈ tb := ⟨tb_mem 1078 rfl rfl, tb_mem 1079 rfl rfl, tb_mem 77 rfl rfl, tb_mem 1080 rfl rfl⟩
set_option maxRecDepth 20000 in
theorem fs_Md_mostOf : Cond.static mt_Md_mostOf.1 ∈ tb ∧ Cond.initialized mt_Md_mostOf.1.cls ∈ tb ∧ Cond.code mt_Md_mostOf.1 mt_Md_mostOf.2.1 mt_Md_mostOf.2.2.1 mt_Md_mostOf.2.2.2 ∈ tb := ⟨tb_mem 1083 rfl rfl, tb_mem 77 rfl rfl, tb_mem 1084 rfl rfl⟩
set_option maxRecDepth 20000 in
theorem fv_Md_becomes : Cond.instanceMethod mt_Md_becomes.1 ∈ tb ∧ Cond.selects mt_Md_becomes.1.cls mt_Md_becomes.1 mt_Md_becomes.1 ∈ tb ∧ Cond.initialized mt_Md_becomes.1.cls ∈ tb ∧ Cond.code mt_Md_becomes.1 mt_Md_becomes.2.1 mt_Md_becomes.2.2.1 mt_Md_becomes.2.2.2 ∈ tb := ⟨tb_mem 1087 rfl rfl, tb_mem 36 rfl rfl, tb_mem 77 rfl rfl, tb_mem 1088 rfl rfl⟩
set_option maxRecDepth 20000 in
theorem fv_Md_lawOf : Cond.instanceMethod mt_Md_lawOf.1 ∈ tb ∧ Cond.selects mt_Md_lawOf.1.cls mt_Md_lawOf.1 mt_Md_lawOf.1 ∈ tb ∧ Cond.initialized mt_Md_lawOf.1.cls ∈ tb ∧ Cond.code mt_Md_lawOf.1 mt_Md_lawOf.2.1 mt_Md_lawOf.2.2.1 mt_Md_lawOf.2.2.2 ∈ tb := ⟨tb_mem 1090 rfl rfl, tb_mem 1091 rfl rfl, tb_mem 77 rfl rfl, tb_mem 1092 rfl rfl⟩
set_option maxRecDepth 20000 in
theorem fv_Md_person : Cond.instanceMethod mt_Md_person.1 ∈ tb ∧ Cond.selects mt_Md_person.1.cls mt_Md_person.1 mt_Md_person.1 ∈ tb ∧ Cond.initialized mt_Md_person.1.cls ∈ tb ∧ Cond.code mt_Md_person.1 mt_Md_person.2.1 mt_Md_person.2.2.1 mt_Md_person.2.2.2 ∈ tb := ⟨tb_mem 1094 rfl rfl, tb_mem 1095 rfl rfl, tb_mem 77 rfl rfl, tb_mem 1096 rfl rfl⟩
set_option maxRecDepth 20000 in
theorem fs_Md_isPlace : Cond.static mt_Md_isPlace.1 ∈ tb ∧ Cond.initialized mt_Md_isPlace.1.cls ∈ tb ∧ Cond.code mt_Md_isPlace.1 mt_Md_isPlace.2.1 mt_Md_isPlace.2.2.1 mt_Md_isPlace.2.2.2 ∈ tb := ⟨tb_mem 1101 rfl rfl, tb_mem 77 rfl rfl, tb_mem 1102 rfl rfl⟩
set_option maxRecDepth 20000 in
theorem fv_Md_of : Cond.instanceMethod mt_Md_of.1 ∈ tb ∧ Cond.selects mt_Md_of.1.cls mt_Md_of.1 mt_Md_of.1 ∈ tb ∧ Cond.initialized mt_Md_of.1.cls ∈ tb ∧ Cond.code mt_Md_of.1 mt_Md_of.2.1 mt_Md_of.2.2.1 mt_Md_of.2.2.2 ∈ tb := ⟨tb_mem 1104 rfl rfl, tb_mem 1105 rfl rfl, tb_mem 77 rfl rfl, tb_mem 1106 rfl rfl⟩
set_option maxRecDepth 20000 in
theorem fv_Md_isOne : Cond.instanceMethod mt_Md_isOne.1 ∈ tb ∧ Cond.selects mt_Md_isOne.1.cls mt_Md_isOne.1 mt_Md_isOne.1 ∈ tb ∧ Cond.initialized mt_Md_isOne.1.cls ∈ tb ∧ Cond.code mt_Md_isOne.1 mt_Md_isOne.2.1 mt_Md_isOne.2.2.1 mt_Md_isOne.2.2.2 ∈ tb := ⟨tb_mem 1109 rfl rfl, tb_mem 37 rfl rfl, tb_mem 77 rfl rfl, tb_mem 1110 rfl rfl⟩
set_option maxRecDepth 20000 in
theorem fv_Md_its : Cond.instanceMethod mt_Md_its.1 ∈ tb ∧ Cond.selects mt_Md_its.1.cls mt_Md_its.1 mt_Md_its.1 ∈ tb ∧ Cond.initialized mt_Md_its.1.cls ∈ tb ∧ Cond.code mt_Md_its.1 mt_Md_its.2.1 mt_Md_its.2.2.1 mt_Md_its.2.2.2 ∈ tb := ⟨tb_mem 1113 rfl rfl, tb_mem 38 rfl rfl, tb_mem 77 rfl rfl, tb_mem 1114 rfl rfl⟩
set_option maxRecDepth 20000 in
theorem fv_Md_does : Cond.instanceMethod mt_Md_does.1 ∈ tb ∧ Cond.selects mt_Md_does.1.cls mt_Md_does.1 mt_Md_does.1 ∈ tb ∧ Cond.initialized mt_Md_does.1.cls ∈ tb ∧ Cond.code mt_Md_does.1 mt_Md_does.2.1 mt_Md_does.2.2.1 mt_Md_does.2.2.2 ∈ tb := ⟨tb_mem 1116 rfl rfl, tb_mem 1117 rfl rfl, tb_mem 77 rfl rfl, tb_mem 1118 rfl rfl⟩
set_option maxRecDepth 20000 in
theorem fv_Md_hides : Cond.instanceMethod mt_Md_hides.1 ∈ tb ∧ Cond.selects mt_Md_hides.1.cls mt_Md_hides.1 mt_Md_hides.1 ∈ tb ∧ Cond.initialized mt_Md_hides.1.cls ∈ tb ∧ Cond.code mt_Md_hides.1 mt_Md_hides.2.1 mt_Md_hides.2.2.1 mt_Md_hides.2.2.2 ∈ tb := ⟨tb_mem 1122 rfl rfl, tb_mem 39 rfl rfl, tb_mem 77 rfl rfl, tb_mem 1123 rfl rfl⟩
set_option maxRecDepth 20000 in
theorem fv_Md_sees : Cond.instanceMethod mt_Md_sees.1 ∈ tb ∧ Cond.selects mt_Md_sees.1.cls mt_Md_sees.1 mt_Md_sees.1 ∈ tb ∧ Cond.initialized mt_Md_sees.1.cls ∈ tb ∧ Cond.code mt_Md_sees.1 mt_Md_sees.2.1 mt_Md_sees.2.2.1 mt_Md_sees.2.2.2 ∈ tb := ⟨tb_mem 1126 rfl rfl, tb_mem 40 rfl rfl, tb_mem 77 rfl rfl, tb_mem 1127 rfl rfl⟩
set_option maxRecDepth 20000 in
theorem fv_Md_strides : Cond.instanceMethod mt_Md_strides.1 ∈ tb ∧ Cond.selects mt_Md_strides.1.cls mt_Md_strides.1 mt_Md_strides.1 ∈ tb ∧ Cond.initialized mt_Md_strides.1.cls ∈ tb ∧ Cond.code mt_Md_strides.1 mt_Md_strides.2.1 mt_Md_strides.2.2.1 mt_Md_strides.2.2.2 ∈ tb := ⟨tb_mem 1130 rfl rfl, tb_mem 41 rfl rfl, tb_mem 77 rfl rfl, tb_mem 1131 rfl rfl⟩
set_option maxRecDepth 20000 in
theorem fv_Md_mind : Cond.instanceMethod mt_Md_mind.1 ∈ tb ∧ Cond.selects mt_Md_mind.1.cls mt_Md_mind.1 mt_Md_mind.1 ∈ tb ∧ Cond.initialized mt_Md_mind.1.cls ∈ tb ∧ Cond.code mt_Md_mind.1 mt_Md_mind.2.1 mt_Md_mind.2.2.1 mt_Md_mind.2.2.2 ∈ tb := ⟨tb_mem 1133 rfl rfl, tb_mem 1134 rfl rfl, tb_mem 77 rfl rfl, tb_mem 1135 rfl rfl⟩
set_option maxRecDepth 20000 in
theorem fv_Md_age : Cond.instanceMethod mt_Md_age.1 ∈ tb ∧ Cond.selects mt_Md_age.1.cls mt_Md_age.1 mt_Md_age.1 ∈ tb ∧ Cond.initialized mt_Md_age.1.cls ∈ tb ∧ Cond.code mt_Md_age.1 mt_Md_age.2.1 mt_Md_age.2.2.1 mt_Md_age.2.2.2 ∈ tb := ⟨tb_mem 1137 rfl rfl, tb_mem 1138 rfl rfl, tb_mem 77 rfl rfl, tb_mem 1139 rfl rfl⟩
set_option maxRecDepth 20000 in
theorem fv_Md_bring : Cond.instanceMethod mt_Md_bring.1 ∈ tb ∧ Cond.selects mt_Md_bring.1.cls mt_Md_bring.1 mt_Md_bring.1 ∈ tb ∧ Cond.initialized mt_Md_bring.1.cls ∈ tb ∧ Cond.code mt_Md_bring.1 mt_Md_bring.2.1 mt_Md_bring.2.2.1 mt_Md_bring.2.2.2 ∈ tb := ⟨tb_mem 1141 rfl rfl, tb_mem 1142 rfl rfl, tb_mem 77 rfl rfl, tb_mem 1143 rfl rfl⟩
set_option maxRecDepth 20000 in
theorem fv_Md_seek : Cond.instanceMethod mt_Md_seek.1 ∈ tb ∧ Cond.selects mt_Md_seek.1.cls mt_Md_seek.1 mt_Md_seek.1 ∈ tb ∧ Cond.initialized mt_Md_seek.1.cls ∈ tb ∧ Cond.code mt_Md_seek.1 mt_Md_seek.2.1 mt_Md_seek.2.2.1 mt_Md_seek.2.2.2 ∈ tb := ⟨tb_mem 1145 rfl rfl, tb_mem 1146 rfl rfl, tb_mem 77 rfl rfl, tb_mem 1147 rfl rfl⟩
set_option maxRecDepth 20000 in
theorem fv_Md_place : Cond.instanceMethod mt_Md_place.1 ∈ tb ∧ Cond.selects mt_Md_place.1.cls mt_Md_place.1 mt_Md_place.1 ∈ tb ∧ Cond.initialized mt_Md_place.1.cls ∈ tb ∧ Cond.code mt_Md_place.1 mt_Md_place.2.1 mt_Md_place.2.2.1 mt_Md_place.2.2.2 ∈ tb := ⟨tb_mem 1149 rfl rfl, tb_mem 1150 rfl rfl, tb_mem 77 rfl rfl, tb_mem 1151 rfl rfl⟩
set_option maxRecDepth 20000 in
theorem fv_Md_thoseAt : Cond.instanceMethod mt_Md_thoseAt.1 ∈ tb ∧ Cond.selects mt_Md_thoseAt.1.cls mt_Md_thoseAt.1 mt_Md_thoseAt.1 ∈ tb ∧ Cond.initialized mt_Md_thoseAt.1.cls ∈ tb ∧ Cond.code mt_Md_thoseAt.1 mt_Md_thoseAt.2.1 mt_Md_thoseAt.2.2.1 mt_Md_thoseAt.2.2.2 ∈ tb := ⟨tb_mem 1154 rfl rfl, tb_mem 42 rfl rfl, tb_mem 77 rfl rfl, tb_mem 1155 rfl rfl⟩
set_option maxRecDepth 20000 in
theorem fv_Md_hiddenOnes : Cond.instanceMethod mt_Md_hiddenOnes.1 ∈ tb ∧ Cond.selects mt_Md_hiddenOnes.1.cls mt_Md_hiddenOnes.1 mt_Md_hiddenOnes.1 ∈ tb ∧ Cond.initialized mt_Md_hiddenOnes.1.cls ∈ tb ∧ Cond.code mt_Md_hiddenOnes.1 mt_Md_hiddenOnes.2.1 mt_Md_hiddenOnes.2.2.1 mt_Md_hiddenOnes.2.2.2 ∈ tb := ⟨tb_mem 1158 rfl rfl, tb_mem 43 rfl rfl, tb_mem 77 rfl rfl, tb_mem 1159 rfl rfl⟩
set_option maxRecDepth 20000 in
theorem fs_Md_size : Cond.static mt_Md_size.1 ∈ tb ∧ Cond.initialized mt_Md_size.1.cls ∈ tb ∧ Cond.code mt_Md_size.1 mt_Md_size.2.1 mt_Md_size.2.2.1 mt_Md_size.2.2.2 ∈ tb := ⟨tb_mem 1161 rfl rfl, tb_mem 77 rfl rfl, tb_mem 1162 rfl rfl⟩
set_option maxRecDepth 20000 in
theorem fv_Md_cover : Cond.instanceMethod mt_Md_cover.1 ∈ tb ∧ Cond.selects mt_Md_cover.1.cls mt_Md_cover.1 mt_Md_cover.1 ∈ tb ∧ Cond.initialized mt_Md_cover.1.cls ∈ tb ∧ Cond.code mt_Md_cover.1 mt_Md_cover.2.1 mt_Md_cover.2.2.1 mt_Md_cover.2.2.2 ∈ tb := ⟨tb_mem 1164 rfl rfl, tb_mem 1165 rfl rfl, tb_mem 77 rfl rfl, tb_mem 1166 rfl rfl⟩
set_option maxRecDepth 20000 in
theorem fv_Md_years : Cond.instanceMethod mt_Md_years.1 ∈ tb ∧ Cond.selects mt_Md_years.1.cls mt_Md_years.1 mt_Md_years.1 ∈ tb ∧ Cond.initialized mt_Md_years.1.cls ∈ tb ∧ Cond.code mt_Md_years.1 mt_Md_years.2.1 mt_Md_years.2.2.1 mt_Md_years.2.2.2 ∈ tb := ⟨tb_mem 1168 rfl rfl, tb_mem 1169 rfl rfl, tb_mem 77 rfl rfl, tb_mem 1170 rfl rfl⟩
set_option maxRecDepth 20000 in
theorem fv_Md_goes : Cond.instanceMethod mt_Md_goes.1 ∈ tb ∧ Cond.selects mt_Md_goes.1.cls mt_Md_goes.1 mt_Md_goes.1 ∈ tb ∧ Cond.initialized mt_Md_goes.1.cls ∈ tb ∧ Cond.code mt_Md_goes.1 mt_Md_goes.2.1 mt_Md_goes.2.2.1 mt_Md_goes.2.2.2 ∈ tb := ⟨tb_mem 1174 rfl rfl, tb_mem 44 rfl rfl, tb_mem 77 rfl rfl, tb_mem 1175 rfl rfl⟩
set_option maxRecDepth 20000 in
theorem fv_Md_goesBy : Cond.instanceMethod mt_Md_goesBy.1 ∈ tb ∧ Cond.selects mt_Md_goesBy.1.cls mt_Md_goesBy.1 mt_Md_goesBy.1 ∈ tb ∧ Cond.initialized mt_Md_goesBy.1.cls ∈ tb ∧ Cond.code mt_Md_goesBy.1 mt_Md_goesBy.2.1 mt_Md_goesBy.2.2.1 mt_Md_goesBy.2.2.2 ∈ tb := ⟨tb_mem 1178 rfl rfl, tb_mem 45 rfl rfl, tb_mem 77 rfl rfl, tb_mem 1179 rfl rfl⟩
set_option maxRecDepth 20000 in
theorem fs_Md_least : Cond.static mt_Md_least.1 ∈ tb ∧ Cond.initialized mt_Md_least.1.cls ∈ tb ∧ Cond.code mt_Md_least.1 mt_Md_least.2.1 mt_Md_least.2.2.1 mt_Md_least.2.2.2 ∈ tb := ⟨tb_mem 1181 rfl rfl, tb_mem 77 rfl rfl, tb_mem 1182 rfl rfl⟩
set_option maxRecDepth 20000 in
theorem fv_Md_seeks : Cond.instanceMethod mt_Md_seeks.1 ∈ tb ∧ Cond.selects mt_Md_seeks.1.cls mt_Md_seeks.1 mt_Md_seeks.1 ∈ tb ∧ Cond.initialized mt_Md_seeks.1.cls ∈ tb ∧ Cond.code mt_Md_seeks.1 mt_Md_seeks.2.1 mt_Md_seeks.2.2.1 mt_Md_seeks.2.2.2 ∈ tb := ⟨tb_mem 1185 rfl rfl, tb_mem 46 rfl rfl, tb_mem 77 rfl rfl, tb_mem 1186 rfl rfl⟩
set_option maxRecDepth 20000 in
theorem fv_Md_seed : Cond.instanceMethod mt_Md_seed.1 ∈ tb ∧ Cond.selects mt_Md_seed.1.cls mt_Md_seed.1 mt_Md_seed.1 ∈ tb ∧ Cond.initialized mt_Md_seed.1.cls ∈ tb ∧ Cond.code mt_Md_seed.1 mt_Md_seed.2.1 mt_Md_seed.2.2.1 mt_Md_seed.2.2.2 ∈ tb := ⟨tb_mem 1188 rfl rfl, tb_mem 1189 rfl rfl, tb_mem 77 rfl rfl, tb_mem 1190 rfl rfl⟩
set_option maxRecDepth 20000 in
theorem fv_Md_year : Cond.instanceMethod mt_Md_year.1 ∈ tb ∧ Cond.selects mt_Md_year.1.cls mt_Md_year.1 mt_Md_year.1 ∈ tb ∧ Cond.initialized mt_Md_year.1.cls ∈ tb ∧ Cond.code mt_Md_year.1 mt_Md_year.2.1 mt_Md_year.2.2.1 mt_Md_year.2.2.2 ∈ tb := ⟨tb_mem 1192 rfl rfl, tb_mem 1193 rfl rfl, tb_mem 77 rfl rfl, tb_mem 1194 rfl rfl⟩
set_option maxRecDepth 20000 in
theorem fv_Md_drawn : Cond.instanceMethod mt_Md_drawn.1 ∈ tb ∧ Cond.selects mt_Md_drawn.1.cls mt_Md_drawn.1 mt_Md_drawn.1 ∈ tb ∧ Cond.initialized mt_Md_drawn.1.cls ∈ tb ∧ Cond.code mt_Md_drawn.1 mt_Md_drawn.2.1 mt_Md_drawn.2.2.1 mt_Md_drawn.2.2.2 ∈ tb := ⟨tb_mem 1197 rfl rfl, tb_mem 47 rfl rfl, tb_mem 77 rfl rfl, tb_mem 1198 rfl rfl⟩
set_option maxRecDepth 20000 in
theorem fv_Md_nights : Cond.instanceMethod mt_Md_nights.1 ∈ tb ∧ Cond.selects mt_Md_nights.1.cls mt_Md_nights.1 mt_Md_nights.1 ∈ tb ∧ Cond.initialized mt_Md_nights.1.cls ∈ tb ∧ Cond.code mt_Md_nights.1 mt_Md_nights.2.1 mt_Md_nights.2.2.1 mt_Md_nights.2.2.2 ∈ tb := ⟨tb_mem 1201 rfl rfl, tb_mem 1202 rfl rfl, tb_mem 77 rfl rfl, tb_mem 1203 rfl rfl⟩
set_option maxRecDepth 20000 in
theorem fv_Md_state : Cond.instanceMethod mt_Md_state.1 ∈ tb ∧ Cond.selects mt_Md_state.1.cls mt_Md_state.1 mt_Md_state.1 ∈ tb ∧ Cond.initialized mt_Md_state.1.cls ∈ tb ∧ Cond.code mt_Md_state.1 mt_Md_state.2.1 mt_Md_state.2.2.1 mt_Md_state.2.2.2 ∈ tb := ⟨tb_mem 1207 rfl rfl, tb_mem 1208 rfl rfl, tb_mem 77 rfl rfl, tb_mem 1209 rfl rfl⟩
set_option maxRecDepth 20000 in
theorem fv_Md_sumOf : Cond.instanceMethod mt_Md_sumOf.1 ∈ tb ∧ Cond.selects mt_Md_sumOf.1.cls mt_Md_sumOf.1 mt_Md_sumOf.1 ∈ tb ∧ Cond.initialized mt_Md_sumOf.1.cls ∈ tb ∧ Cond.code mt_Md_sumOf.1 mt_Md_sumOf.2.1 mt_Md_sumOf.2.2.1 mt_Md_sumOf.2.2.2 ∈ tb := ⟨tb_mem 1212 rfl rfl, tb_mem 48 rfl rfl, tb_mem 77 rfl rfl, tb_mem 1213 rfl rfl⟩
set_option maxRecDepth 20000 in
theorem fv_Md_hidingPlaces : Cond.instanceMethod mt_Md_hidingPlaces.1 ∈ tb ∧ Cond.selects mt_Md_hidingPlaces.1.cls mt_Md_hidingPlaces.1 mt_Md_hidingPlaces.1 ∈ tb ∧ Cond.initialized mt_Md_hidingPlaces.1.cls ∈ tb ∧ Cond.code mt_Md_hidingPlaces.1 mt_Md_hidingPlaces.2.1 mt_Md_hidingPlaces.2.2.1 mt_Md_hidingPlaces.2.2.2 ∈ tb := ⟨tb_mem 1216 rfl rfl, tb_mem 49 rfl rfl, tb_mem 77 rfl rfl, tb_mem 1217 rfl rfl⟩
set_option maxRecDepth 20000 in
theorem fv_Md_coverOfAll : Cond.instanceMethod mt_Md_coverOfAll.1 ∈ tb ∧ Cond.selects mt_Md_coverOfAll.1.cls mt_Md_coverOfAll.1 mt_Md_coverOfAll.1 ∈ tb ∧ Cond.initialized mt_Md_coverOfAll.1.cls ∈ tb ∧ Cond.code mt_Md_coverOfAll.1 mt_Md_coverOfAll.2.1 mt_Md_coverOfAll.2.2.1 mt_Md_coverOfAll.2.2.2 ∈ tb := ⟨tb_mem 1220 rfl rfl, tb_mem 50 rfl rfl, tb_mem 77 rfl rfl, tb_mem 1221 rfl rfl⟩
set_option maxRecDepth 20000 in
theorem fv_Md_where : Cond.instanceMethod mt_Md_where.1 ∈ tb ∧ Cond.selects mt_Md_where.1.cls mt_Md_where.1 mt_Md_where.1 ∈ tb ∧ Cond.initialized mt_Md_where.1.cls ∈ tb ∧ Cond.code mt_Md_where.1 mt_Md_where.2.1 mt_Md_where.2.2.1 mt_Md_where.2.2.2 ∈ tb := ⟨tb_mem 1223 rfl rfl, tb_mem 1224 rfl rfl, tb_mem 77 rfl rfl, tb_mem 1225 rfl rfl⟩
set_option maxRecDepth 20000 in
theorem fv_Md_shown : Cond.instanceMethod mt_Md_shown.1 ∈ tb ∧ Cond.selects mt_Md_shown.1.cls mt_Md_shown.1 mt_Md_shown.1 ∈ tb ∧ Cond.initialized mt_Md_shown.1.cls ∈ tb ∧ Cond.code mt_Md_shown.1 mt_Md_shown.2.1 mt_Md_shown.2.2.1 mt_Md_shown.2.2.2 ∈ tb := ⟨tb_mem 1227 rfl rfl, tb_mem 1228 rfl rfl, tb_mem 77 rfl rfl, tb_mem 1229 rfl rfl⟩
set_option maxRecDepth 20000 in
theorem fv_Md_shownBy : Cond.instanceMethod mt_Md_shownBy.1 ∈ tb ∧ Cond.selects mt_Md_shownBy.1.cls mt_Md_shownBy.1 mt_Md_shownBy.1 ∈ tb ∧ Cond.initialized mt_Md_shownBy.1.cls ∈ tb ∧ Cond.code mt_Md_shownBy.1 mt_Md_shownBy.2.1 mt_Md_shownBy.2.2.1 mt_Md_shownBy.2.2.2 ∈ tb := ⟨tb_mem 1232 rfl rfl, tb_mem 51 rfl rfl, tb_mem 77 rfl rfl, tb_mem 1233 rfl rfl⟩
set_option maxRecDepth 20000 in
theorem fv_Md_all : Cond.instanceMethod mt_Md_all.1 ∈ tb ∧ Cond.selects mt_Md_all.1.cls mt_Md_all.1 mt_Md_all.1 ∈ tb ∧ Cond.initialized mt_Md_all.1.cls ∈ tb ∧ Cond.code mt_Md_all.1 mt_Md_all.2.1 mt_Md_all.2.2.1 mt_Md_all.2.2.2 ∈ tb := ⟨tb_mem 1235 rfl rfl, tb_mem 1236 rfl rfl, tb_mem 77 rfl rfl, tb_mem 1237 rfl rfl⟩
set_option maxRecDepth 20000 in
theorem fv_Md_finder : Cond.instanceMethod mt_Md_finder.1 ∈ tb ∧ Cond.selects mt_Md_finder.1.cls mt_Md_finder.1 mt_Md_finder.1 ∈ tb ∧ Cond.initialized mt_Md_finder.1.cls ∈ tb ∧ Cond.code mt_Md_finder.1 mt_Md_finder.2.1 mt_Md_finder.2.2.1 mt_Md_finder.2.2.2 ∈ tb := ⟨tb_mem 1239 rfl rfl, tb_mem 1240 rfl rfl, tb_mem 77 rfl rfl, tb_mem 1241 rfl rfl⟩
set_option maxRecDepth 20000 in
theorem fv_Md_safeFor : Cond.instanceMethod mt_Md_safeFor.1 ∈ tb ∧ Cond.selects mt_Md_safeFor.1.cls mt_Md_safeFor.1 mt_Md_safeFor.1 ∈ tb ∧ Cond.initialized mt_Md_safeFor.1.cls ∈ tb ∧ Cond.code mt_Md_safeFor.1 mt_Md_safeFor.2.1 mt_Md_safeFor.2.2.1 mt_Md_safeFor.2.2.2 ∈ tb := ⟨tb_mem 1243 rfl rfl, tb_mem 1244 rfl rfl, tb_mem 77 rfl rfl, tb_mem 1245 rfl rfl⟩
set_option maxRecDepth 20000 in
theorem fv_Md_kindFor : Cond.instanceMethod mt_Md_kindFor.1 ∈ tb ∧ Cond.selects mt_Md_kindFor.1.cls mt_Md_kindFor.1 mt_Md_kindFor.1 ∈ tb ∧ Cond.initialized mt_Md_kindFor.1.cls ∈ tb ∧ Cond.code mt_Md_kindFor.1 mt_Md_kindFor.2.1 mt_Md_kindFor.2.2.1 mt_Md_kindFor.2.2.2 ∈ tb := ⟨tb_mem 1247 rfl rfl, tb_mem 1248 rfl rfl, tb_mem 77 rfl rfl, tb_mem 1249 rfl rfl⟩
set_option maxRecDepth 20000 in
theorem fv_Md_witFor : Cond.instanceMethod mt_Md_witFor.1 ∈ tb ∧ Cond.selects mt_Md_witFor.1.cls mt_Md_witFor.1 mt_Md_witFor.1 ∈ tb ∧ Cond.initialized mt_Md_witFor.1.cls ∈ tb ∧ Cond.code mt_Md_witFor.1 mt_Md_witFor.2.1 mt_Md_witFor.2.2.1 mt_Md_witFor.2.2.2 ∈ tb := ⟨tb_mem 1251 rfl rfl, tb_mem 1252 rfl rfl, tb_mem 77 rfl rfl, tb_mem 1253 rfl rfl⟩
set_option maxRecDepth 20000 in
theorem fs_Md_isShort : Cond.static mt_Md_isShort.1 ∈ tb ∧ Cond.initialized mt_Md_isShort.1.cls ∈ tb ∧ Cond.code mt_Md_isShort.1 mt_Md_isShort.2.1 mt_Md_isShort.2.2.1 mt_Md_isShort.2.2.2 ∈ tb := ⟨tb_mem 1255 rfl rfl, tb_mem 77 rfl rfl, tb_mem 1256 rfl rfl⟩
set_option maxRecDepth 20000 in
theorem fv_Md_isHiddenBy : Cond.instanceMethod mt_Md_isHiddenBy.1 ∈ tb ∧ Cond.selects mt_Md_isHiddenBy.1.cls mt_Md_isHiddenBy.1 mt_Md_isHiddenBy.1 ∈ tb ∧ Cond.initialized mt_Md_isHiddenBy.1.cls ∈ tb ∧ Cond.code mt_Md_isHiddenBy.1 mt_Md_isHiddenBy.2.1 mt_Md_isHiddenBy.2.2.1 mt_Md_isHiddenBy.2.2.2 ∈ tb := ⟨tb_mem 1260 rfl rfl, tb_mem 52 rfl rfl, tb_mem 77 rfl rfl, tb_mem 1261 rfl rfl⟩
set_option maxRecDepth 20000 in
theorem fv_Md_needed : Cond.instanceMethod mt_Md_needed.1 ∈ tb ∧ Cond.selects mt_Md_needed.1.cls mt_Md_needed.1 mt_Md_needed.1 ∈ tb ∧ Cond.initialized mt_Md_needed.1.cls ∈ tb ∧ Cond.code mt_Md_needed.1 mt_Md_needed.2.1 mt_Md_needed.2.2.1 mt_Md_needed.2.2.2 ∈ tb := ⟨tb_mem 1263 rfl rfl, tb_mem 1264 rfl rfl, tb_mem 77 rfl rfl, tb_mem 1265 rfl rfl⟩
set_option maxRecDepth 20000 in
theorem fv_Md_fewest : Cond.instanceMethod mt_Md_fewest.1 ∈ tb ∧ Cond.selects mt_Md_fewest.1.cls mt_Md_fewest.1 mt_Md_fewest.1 ∈ tb ∧ Cond.initialized mt_Md_fewest.1.cls ∈ tb ∧ Cond.code mt_Md_fewest.1 mt_Md_fewest.2.1 mt_Md_fewest.2.2.1 mt_Md_fewest.2.2.2 ∈ tb := ⟨tb_mem 1267 rfl rfl, tb_mem 1268 rfl rfl, tb_mem 77 rfl rfl, tb_mem 1269 rfl rfl⟩
set_option maxRecDepth 20000 in
theorem fv_Md_round : Cond.instanceMethod mt_Md_round.1 ∈ tb ∧ Cond.selects mt_Md_round.1.cls mt_Md_round.1 mt_Md_round.1 ∈ tb ∧ Cond.initialized mt_Md_round.1.cls ∈ tb ∧ Cond.code mt_Md_round.1 mt_Md_round.2.1 mt_Md_round.2.2.1 mt_Md_round.2.2.2 ∈ tb := ⟨tb_mem 1271 rfl rfl, tb_mem 1272 rfl rfl, tb_mem 77 rfl rfl, tb_mem 1273 rfl rfl⟩
set_option maxRecDepth 20000 in
theorem fv_Md_fits : Cond.instanceMethod mt_Md_fits.1 ∈ tb ∧ Cond.selects mt_Md_fits.1.cls mt_Md_fits.1 mt_Md_fits.1 ∈ tb ∧ Cond.initialized mt_Md_fits.1.cls ∈ tb ∧ Cond.code mt_Md_fits.1 mt_Md_fits.2.1 mt_Md_fits.2.2.1 mt_Md_fits.2.2.2 ∈ tb := ⟨tb_mem 1275 rfl rfl, tb_mem 1276 rfl rfl, tb_mem 77 rfl rfl, tb_mem 1277 rfl rfl⟩
set_option maxRecDepth 20000 in
theorem fs_Md_isSheet : Cond.static mt_Md_isSheet.1 ∈ tb ∧ Cond.initialized mt_Md_isSheet.1.cls ∈ tb ∧ Cond.code mt_Md_isSheet.1 mt_Md_isSheet.2.1 mt_Md_isSheet.2.2.1 mt_Md_isSheet.2.2.2 ∈ tb := ⟨tb_mem 1279 rfl rfl, tb_mem 77 rfl rfl, tb_mem 1280 rfl rfl⟩
set_option maxRecDepth 20000 in
theorem fv_Md_isTold : Cond.instanceMethod mt_Md_isTold.1 ∈ tb ∧ Cond.selects mt_Md_isTold.1.cls mt_Md_isTold.1 mt_Md_isTold.1 ∈ tb ∧ Cond.initialized mt_Md_isTold.1.cls ∈ tb ∧ Cond.code mt_Md_isTold.1 mt_Md_isTold.2.1 mt_Md_isTold.2.2.1 mt_Md_isTold.2.2.2 ∈ tb := ⟨tb_mem 1283 rfl rfl, tb_mem 53 rfl rfl, tb_mem 77 rfl rfl, tb_mem 1284 rfl rfl⟩
set_option maxRecDepth 20000 in
theorem fv_Md_odds : Cond.instanceMethod mt_Md_odds.1 ∈ tb ∧ Cond.selects mt_Md_odds.1.cls mt_Md_odds.1 mt_Md_odds.1 ∈ tb ∧ Cond.initialized mt_Md_odds.1.cls ∈ tb ∧ Cond.code mt_Md_odds.1 mt_Md_odds.2.1 mt_Md_odds.2.2.1 mt_Md_odds.2.2.2 ∈ tb := ⟨tb_mem 1286 rfl rfl, tb_mem 1287 rfl rfl, tb_mem 77 rfl rfl, tb_mem 1288 rfl rfl⟩
set_option maxRecDepth 20000 in
theorem fs_Md_product : Cond.static mt_Md_product.1 ∈ tb ∧ Cond.initialized mt_Md_product.1.cls ∈ tb ∧ Cond.code mt_Md_product.1 mt_Md_product.2.1 mt_Md_product.2.2.1 mt_Md_product.2.2.2 ∈ tb := ⟨tb_mem 1291 rfl rfl, tb_mem 77 rfl rfl, tb_mem 1292 rfl rfl⟩
set_option maxRecDepth 20000 in
theorem fs_Md_partOf : Cond.static mt_Md_partOf.1 ∈ tb ∧ Cond.initialized mt_Md_partOf.1.cls ∈ tb ∧ Cond.code mt_Md_partOf.1 mt_Md_partOf.2.1 mt_Md_partOf.2.2.1 mt_Md_partOf.2.2.2 ∈ tb := ⟨tb_mem 1295 rfl rfl, tb_mem 77 rfl rfl, tb_mem 1296 rfl rfl⟩
set_option maxRecDepth 20000 in
theorem fv_Md_hope : Cond.instanceMethod mt_Md_hope.1 ∈ tb ∧ Cond.selects mt_Md_hope.1.cls mt_Md_hope.1 mt_Md_hope.1 ∈ tb ∧ Cond.initialized mt_Md_hope.1.cls ∈ tb ∧ Cond.code mt_Md_hope.1 mt_Md_hope.2.1 mt_Md_hope.2.2.1 mt_Md_hope.2.2.2 ∈ tb := ⟨tb_mem 1298 rfl rfl, tb_mem 1299 rfl rfl, tb_mem 77 rfl rfl, tb_mem 1300 rfl rfl⟩
set_option maxRecDepth 20000 in
theorem fv_Md_prove : Cond.instanceMethod mt_Md_prove.1 ∈ tb ∧ Cond.selects mt_Md_prove.1.cls mt_Md_prove.1 mt_Md_prove.1 ∈ tb ∧ Cond.initialized mt_Md_prove.1.cls ∈ tb ∧ Cond.code mt_Md_prove.1 mt_Md_prove.2.1 mt_Md_prove.2.2.1 mt_Md_prove.2.2.2 ∈ tb := ⟨tb_mem 1302 rfl rfl, tb_mem 1303 rfl rfl, tb_mem 77 rfl rfl, tb_mem 1304 rfl rfl⟩
set_option maxRecDepth 20000 in
theorem fv_Md_row : Cond.instanceMethod mt_Md_row.1 ∈ tb ∧ Cond.selects mt_Md_row.1.cls mt_Md_row.1 mt_Md_row.1 ∈ tb ∧ Cond.initialized mt_Md_row.1.cls ∈ tb ∧ Cond.code mt_Md_row.1 mt_Md_row.2.1 mt_Md_row.2.2.1 mt_Md_row.2.2.2 ∈ tb := ⟨tb_mem 1307 rfl rfl, tb_mem 1308 rfl rfl, tb_mem 77 rfl rfl, tb_mem 1309 rfl rfl⟩
set_option maxRecDepth 20000 in
theorem fv_Md_isRow : Cond.instanceMethod mt_Md_isRow.1 ∈ tb ∧ Cond.selects mt_Md_isRow.1.cls mt_Md_isRow.1 mt_Md_isRow.1 ∈ tb ∧ Cond.initialized mt_Md_isRow.1.cls ∈ tb ∧ Cond.code mt_Md_isRow.1 mt_Md_isRow.2.1 mt_Md_isRow.2.2.1 mt_Md_isRow.2.2.2 ∈ tb := ⟨tb_mem 1312 rfl rfl, tb_mem 54 rfl rfl, tb_mem 77 rfl rfl, tb_mem 1313 rfl rfl⟩
set_option maxRecDepth 20000 in
theorem fv_Md_alterRow : Cond.instanceMethod mt_Md_alterRow.1 ∈ tb ∧ Cond.selects mt_Md_alterRow.1.cls mt_Md_alterRow.1 mt_Md_alterRow.1 ∈ tb ∧ Cond.initialized mt_Md_alterRow.1.cls ∈ tb ∧ Cond.code mt_Md_alterRow.1 mt_Md_alterRow.2.1 mt_Md_alterRow.2.2.1 mt_Md_alterRow.2.2.2 ∈ tb := ⟨tb_mem 1315 rfl rfl, tb_mem 1316 rfl rfl, tb_mem 77 rfl rfl, tb_mem 1317 rfl rfl⟩
set_option maxRecDepth 20000 in
theorem fv_Md_judge : Cond.instanceMethod mt_Md_judge.1 ∈ tb ∧ Cond.selects mt_Md_judge.1.cls mt_Md_judge.1 mt_Md_judge.1 ∈ tb ∧ Cond.initialized mt_Md_judge.1.cls ∈ tb ∧ Cond.code mt_Md_judge.1 mt_Md_judge.2.1 mt_Md_judge.2.2.1 mt_Md_judge.2.2.2 ∈ tb := ⟨tb_mem 1319 rfl rfl, tb_mem 1320 rfl rfl, tb_mem 77 rfl rfl, tb_mem 1321 rfl rfl⟩
set_option maxRecDepth 20000 in
theorem fv_Md_sheet : Cond.instanceMethod mt_Md_sheet.1 ∈ tb ∧ Cond.selects mt_Md_sheet.1.cls mt_Md_sheet.1 mt_Md_sheet.1 ∈ tb ∧ Cond.initialized mt_Md_sheet.1.cls ∈ tb ∧ Cond.code mt_Md_sheet.1 mt_Md_sheet.2.1 mt_Md_sheet.2.2.1 mt_Md_sheet.2.2.2 ∈ tb := ⟨tb_mem 1323 rfl rfl, tb_mem 1324 rfl rfl, tb_mem 77 rfl rfl, tb_mem 1325 rfl rfl⟩
set_option maxRecDepth 20000 in
theorem fv_Md_put : Cond.instanceMethod mt_Md_put.1 ∈ tb ∧ Cond.selects mt_Md_put.1.cls mt_Md_put.1 mt_Md_put.1 ∈ tb ∧ Cond.initialized mt_Md_put.1.cls ∈ tb ∧ Cond.code mt_Md_put.1 mt_Md_put.2.1 mt_Md_put.2.2.1 mt_Md_put.2.2.2 ∈ tb := ⟨tb_mem 1327 rfl rfl, tb_mem 1328 rfl rfl, tb_mem 77 rfl rfl, tb_mem 1329 rfl rfl⟩
set_option maxRecDepth 20000 in
theorem fv_Md_item : Cond.instanceMethod mt_Md_item.1 ∈ tb ∧ Cond.selects mt_Md_item.1.cls mt_Md_item.1 mt_Md_item.1 ∈ tb ∧ Cond.initialized mt_Md_item.1.cls ∈ tb ∧ Cond.code mt_Md_item.1 mt_Md_item.2.1 mt_Md_item.2.2.1 mt_Md_item.2.2.2 ∈ tb := ⟨tb_mem 1331 rfl rfl, tb_mem 1332 rfl rfl, tb_mem 77 rfl rfl, tb_mem 1333 rfl rfl⟩
set_option maxRecDepth 20000 in
theorem fv_Md_lacks : Cond.instanceMethod mt_Md_lacks.1 ∈ tb ∧ Cond.selects mt_Md_lacks.1.cls mt_Md_lacks.1 mt_Md_lacks.1 ∈ tb ∧ Cond.initialized mt_Md_lacks.1.cls ∈ tb ∧ Cond.code mt_Md_lacks.1 mt_Md_lacks.2.1 mt_Md_lacks.2.2.1 mt_Md_lacks.2.2.2 ∈ tb := ⟨tb_mem 1336 rfl rfl, tb_mem 55 rfl rfl, tb_mem 77 rfl rfl, tb_mem 1337 rfl rfl⟩
set_option maxRecDepth 20000 in
theorem fv_Md_minds : Cond.instanceMethod mt_Md_minds.1 ∈ tb ∧ Cond.selects mt_Md_minds.1.cls mt_Md_minds.1 mt_Md_minds.1 ∈ tb ∧ Cond.initialized mt_Md_minds.1.cls ∈ tb ∧ Cond.code mt_Md_minds.1 mt_Md_minds.2.1 mt_Md_minds.2.2.1 mt_Md_minds.2.2.2 ∈ tb := ⟨tb_mem 1339 rfl rfl, tb_mem 1340 rfl rfl, tb_mem 77 rfl rfl, tb_mem 1341 rfl rfl⟩
set_option maxRecDepth 20000 in
theorem fs_Md_within : Cond.static mt_Md_within.1 ∈ tb ∧ Cond.initialized mt_Md_within.1.cls ∈ tb ∧ Cond.code mt_Md_within.1 mt_Md_within.2.1 mt_Md_within.2.2.1 mt_Md_within.2.2.2 ∈ tb := ⟨tb_mem 1343 rfl rfl, tb_mem 77 rfl rfl, tb_mem 1344 rfl rfl⟩
set_option maxRecDepth 20000 in
theorem fv_Md_shelf : Cond.instanceMethod mt_Md_shelf.1 ∈ tb ∧ Cond.selects mt_Md_shelf.1.cls mt_Md_shelf.1 mt_Md_shelf.1 ∈ tb ∧ Cond.initialized mt_Md_shelf.1.cls ∈ tb ∧ Cond.code mt_Md_shelf.1 mt_Md_shelf.2.1 mt_Md_shelf.2.2.1 mt_Md_shelf.2.2.2 ∈ tb := ⟨tb_mem 1346 rfl rfl, tb_mem 1347 rfl rfl, tb_mem 77 rfl rfl, tb_mem 1348 rfl rfl⟩
set_option maxRecDepth 20000 in
theorem fs_Md_isShelf : Cond.static mt_Md_isShelf.1 ∈ tb ∧ Cond.initialized mt_Md_isShelf.1.cls ∈ tb ∧ Cond.code mt_Md_isShelf.1 mt_Md_isShelf.2.1 mt_Md_isShelf.2.2.1 mt_Md_isShelf.2.2.2 ∈ tb := ⟨tb_mem 1350 rfl rfl, tb_mem 77 rfl rfl, tb_mem 1351 rfl rfl⟩
set_option maxRecDepth 20000 in
theorem fv_Md_taken : Cond.instanceMethod mt_Md_taken.1 ∈ tb ∧ Cond.selects mt_Md_taken.1.cls mt_Md_taken.1 mt_Md_taken.1 ∈ tb ∧ Cond.initialized mt_Md_taken.1.cls ∈ tb ∧ Cond.code mt_Md_taken.1 mt_Md_taken.2.1 mt_Md_taken.2.2.1 mt_Md_taken.2.2.2 ∈ tb := ⟨tb_mem 1353 rfl rfl, tb_mem 1354 rfl rfl, tb_mem 77 rfl rfl, tb_mem 1355 rfl rfl⟩
set_option maxRecDepth 20000 in
theorem fv_Md_heldOn : Cond.instanceMethod mt_Md_heldOn.1 ∈ tb ∧ Cond.selects mt_Md_heldOn.1.cls mt_Md_heldOn.1 mt_Md_heldOn.1 ∈ tb ∧ Cond.initialized mt_Md_heldOn.1.cls ∈ tb ∧ Cond.code mt_Md_heldOn.1 mt_Md_heldOn.2.1 mt_Md_heldOn.2.2.1 mt_Md_heldOn.2.2.2 ∈ tb := ⟨tb_mem 1360 rfl rfl, tb_mem 56 rfl rfl, tb_mem 77 rfl rfl, tb_mem 1361 rfl rfl⟩
set_option maxRecDepth 20000 in
theorem fs_Md_isUnder : Cond.static mt_Md_isUnder.1 ∈ tb ∧ Cond.initialized mt_Md_isUnder.1.cls ∈ tb ∧ Cond.code mt_Md_isUnder.1 mt_Md_isUnder.2.1 mt_Md_isUnder.2.2.1 mt_Md_isUnder.2.2.2 ∈ tb := ⟨tb_mem 1363 rfl rfl, tb_mem 77 rfl rfl, tb_mem 1364 rfl rfl⟩
set_option maxRecDepth 20000 in
theorem fv_Md_act : Cond.instanceMethod mt_Md_act.1 ∈ tb ∧ Cond.selects mt_Md_act.1.cls mt_Md_act.1 mt_Md_act.1 ∈ tb ∧ Cond.initialized mt_Md_act.1.cls ∈ tb ∧ Cond.code mt_Md_act.1 mt_Md_act.2.1 mt_Md_act.2.2.1 mt_Md_act.2.2.2 ∈ tb := ⟨tb_mem 1366 rfl rfl, tb_mem 1367 rfl rfl, tb_mem 77 rfl rfl, tb_mem 1368 rfl rfl⟩
set_option maxRecDepth 20000 in
theorem fv_Md_counts : Cond.instanceMethod mt_Md_counts.1 ∈ tb ∧ Cond.selects mt_Md_counts.1.cls mt_Md_counts.1 mt_Md_counts.1 ∈ tb ∧ Cond.initialized mt_Md_counts.1.cls ∈ tb ∧ Cond.code mt_Md_counts.1 mt_Md_counts.2.1 mt_Md_counts.2.2.1 mt_Md_counts.2.2.2 ∈ tb := ⟨tb_mem 1371 rfl rfl, tb_mem 57 rfl rfl, tb_mem 77 rfl rfl, tb_mem 1372 rfl rfl⟩
set_option maxRecDepth 20000 in
theorem fv_Md_countsOfKeeper : Cond.instanceMethod mt_Md_countsOfKeeper.1 ∈ tb ∧ Cond.selects mt_Md_countsOfKeeper.1.cls mt_Md_countsOfKeeper.1 mt_Md_countsOfKeeper.1 ∈ tb ∧ Cond.initialized mt_Md_countsOfKeeper.1.cls ∈ tb ∧ Cond.code mt_Md_countsOfKeeper.1 mt_Md_countsOfKeeper.2.1 mt_Md_countsOfKeeper.2.2.1 mt_Md_countsOfKeeper.2.2.2 ∈ tb := ⟨tb_mem 1375 rfl rfl, tb_mem 58 rfl rfl, tb_mem 77 rfl rfl, tb_mem 1376 rfl rfl⟩
set_option maxRecDepth 20000 in
theorem fv_Md_runs : Cond.instanceMethod mt_Md_runs.1 ∈ tb ∧ Cond.selects mt_Md_runs.1.cls mt_Md_runs.1 mt_Md_runs.1 ∈ tb ∧ Cond.initialized mt_Md_runs.1.cls ∈ tb ∧ Cond.code mt_Md_runs.1 mt_Md_runs.2.1 mt_Md_runs.2.2.1 mt_Md_runs.2.2.2 ∈ tb := ⟨tb_mem 1379 rfl rfl, tb_mem 59 rfl rfl, tb_mem 77 rfl rfl, tb_mem 1380 rfl rfl⟩
set_option maxRecDepth 20000 in
theorem fv_Md_countsPlain : Cond.instanceMethod mt_Md_countsPlain.1 ∈ tb ∧ Cond.selects mt_Md_countsPlain.1.cls mt_Md_countsPlain.1 mt_Md_countsPlain.1 ∈ tb ∧ Cond.initialized mt_Md_countsPlain.1.cls ∈ tb ∧ Cond.code mt_Md_countsPlain.1 mt_Md_countsPlain.2.1 mt_Md_countsPlain.2.2.1 mt_Md_countsPlain.2.2.2 ∈ tb := ⟨tb_mem 1383 rfl rfl, tb_mem 60 rfl rfl, tb_mem 77 rfl rfl, tb_mem 1384 rfl rfl⟩
set_option maxRecDepth 20000 in
theorem fv_Md_calls : Cond.instanceMethod mt_Md_calls.1 ∈ tb ∧ Cond.selects mt_Md_calls.1.cls mt_Md_calls.1 mt_Md_calls.1 ∈ tb ∧ Cond.initialized mt_Md_calls.1.cls ∈ tb ∧ Cond.code mt_Md_calls.1 mt_Md_calls.2.1 mt_Md_calls.2.2.1 mt_Md_calls.2.2.2 ∈ tb := ⟨tb_mem 1387 rfl rfl, tb_mem 61 rfl rfl, tb_mem 77 rfl rfl, tb_mem 1388 rfl rfl⟩
set_option maxRecDepth 20000 in
theorem fv_Md_callsPlain : Cond.instanceMethod mt_Md_callsPlain.1 ∈ tb ∧ Cond.selects mt_Md_callsPlain.1.cls mt_Md_callsPlain.1 mt_Md_callsPlain.1 ∈ tb ∧ Cond.initialized mt_Md_callsPlain.1.cls ∈ tb ∧ Cond.code mt_Md_callsPlain.1 mt_Md_callsPlain.2.1 mt_Md_callsPlain.2.2.1 mt_Md_callsPlain.2.2.2 ∈ tb := ⟨tb_mem 1391 rfl rfl, tb_mem 62 rfl rfl, tb_mem 77 rfl rfl, tb_mem 1392 rfl rfl⟩
set_option maxRecDepth 20000 in
theorem fv_Md_parts : Cond.instanceMethod mt_Md_parts.1 ∈ tb ∧ Cond.selects mt_Md_parts.1.cls mt_Md_parts.1 mt_Md_parts.1 ∈ tb ∧ Cond.initialized mt_Md_parts.1.cls ∈ tb ∧ Cond.code mt_Md_parts.1 mt_Md_parts.2.1 mt_Md_parts.2.2.1 mt_Md_parts.2.2.2 ∈ tb := ⟨tb_mem 1395 rfl rfl, tb_mem 63 rfl rfl, tb_mem 77 rfl rfl, tb_mem 1396 rfl rfl⟩
set_option maxRecDepth 20000 in
theorem fv_Md_partsPlain : Cond.instanceMethod mt_Md_partsPlain.1 ∈ tb ∧ Cond.selects mt_Md_partsPlain.1.cls mt_Md_partsPlain.1 mt_Md_partsPlain.1 ∈ tb ∧ Cond.initialized mt_Md_partsPlain.1.cls ∈ tb ∧ Cond.code mt_Md_partsPlain.1 mt_Md_partsPlain.2.1 mt_Md_partsPlain.2.2.1 mt_Md_partsPlain.2.2.2 ∈ tb := ⟨tb_mem 1399 rfl rfl, tb_mem 64 rfl rfl, tb_mem 77 rfl rfl, tb_mem 1400 rfl rfl⟩
set_option maxRecDepth 20000 in
theorem fv_Md_looks : Cond.instanceMethod mt_Md_looks.1 ∈ tb ∧ Cond.selects mt_Md_looks.1.cls mt_Md_looks.1 mt_Md_looks.1 ∈ tb ∧ Cond.initialized mt_Md_looks.1.cls ∈ tb ∧ Cond.code mt_Md_looks.1 mt_Md_looks.2.1 mt_Md_looks.2.2.1 mt_Md_looks.2.2.2 ∈ tb := ⟨tb_mem 1403 rfl rfl, tb_mem 65 rfl rfl, tb_mem 77 rfl rfl, tb_mem 1404 rfl rfl⟩
set_option maxRecDepth 20000 in
theorem fv_Md_looksPlain : Cond.instanceMethod mt_Md_looksPlain.1 ∈ tb ∧ Cond.selects mt_Md_looksPlain.1.cls mt_Md_looksPlain.1 mt_Md_looksPlain.1 ∈ tb ∧ Cond.initialized mt_Md_looksPlain.1.cls ∈ tb ∧ Cond.code mt_Md_looksPlain.1 mt_Md_looksPlain.2.1 mt_Md_looksPlain.2.2.1 mt_Md_looksPlain.2.2.2 ∈ tb := ⟨tb_mem 1407 rfl rfl, tb_mem 66 rfl rfl, tb_mem 77 rfl rfl, tb_mem 1408 rfl rfl⟩
set_option maxRecDepth 20000 in
theorem fv_Md_trace : Cond.instanceMethod mt_Md_trace.1 ∈ tb ∧ Cond.selects mt_Md_trace.1.cls mt_Md_trace.1 mt_Md_trace.1 ∈ tb ∧ Cond.initialized mt_Md_trace.1.cls ∈ tb ∧ Cond.code mt_Md_trace.1 mt_Md_trace.2.1 mt_Md_trace.2.2.1 mt_Md_trace.2.2.2 ∈ tb := ⟨tb_mem 1410 rfl rfl, tb_mem 1411 rfl rfl, tb_mem 77 rfl rfl, tb_mem 1412 rfl rfl⟩
set_option maxRecDepth 20000 in
theorem fv_Md_many : Cond.instanceMethod mt_Md_many.1 ∈ tb ∧ Cond.selects mt_Md_many.1.cls mt_Md_many.1 mt_Md_many.1 ∈ tb ∧ Cond.initialized mt_Md_many.1.cls ∈ tb ∧ Cond.code mt_Md_many.1 mt_Md_many.2.1 mt_Md_many.2.2.1 mt_Md_many.2.2.2 ∈ tb := ⟨tb_mem 1414 rfl rfl, tb_mem 1415 rfl rfl, tb_mem 77 rfl rfl, tb_mem 1416 rfl rfl⟩
set_option maxRecDepth 20000 in
theorem fv_Md_crowded : Cond.instanceMethod mt_Md_crowded.1 ∈ tb ∧ Cond.selects mt_Md_crowded.1.cls mt_Md_crowded.1 mt_Md_crowded.1 ∈ tb ∧ Cond.initialized mt_Md_crowded.1.cls ∈ tb ∧ Cond.code mt_Md_crowded.1 mt_Md_crowded.2.1 mt_Md_crowded.2.2.1 mt_Md_crowded.2.2.2 ∈ tb := ⟨tb_mem 1419 rfl rfl, tb_mem 67 rfl rfl, tb_mem 77 rfl rfl, tb_mem 1420 rfl rfl⟩
set_option maxRecDepth 20000 in
theorem fv_Md_keep : Cond.instanceMethod mt_Md_keep.1 ∈ tb ∧ Cond.selects mt_Md_keep.1.cls mt_Md_keep.1 mt_Md_keep.1 ∈ tb ∧ Cond.initialized mt_Md_keep.1.cls ∈ tb ∧ Cond.code mt_Md_keep.1 mt_Md_keep.2.1 mt_Md_keep.2.2.1 mt_Md_keep.2.2.2 ∈ tb := ⟨tb_mem 1422 rfl rfl, tb_mem 1423 rfl rfl, tb_mem 77 rfl rfl, tb_mem 1424 rfl rfl⟩
set_option maxRecDepth 20000 in
theorem fv_Md_again : Cond.instanceMethod mt_Md_again.1 ∈ tb ∧ Cond.selects mt_Md_again.1.cls mt_Md_again.1 mt_Md_again.1 ∈ tb ∧ Cond.initialized mt_Md_again.1.cls ∈ tb ∧ Cond.code mt_Md_again.1 mt_Md_again.2.1 mt_Md_again.2.2.1 mt_Md_again.2.2.2 ∈ tb := ⟨tb_mem 1426 rfl rfl, tb_mem 1427 rfl rfl, tb_mem 77 rfl rfl, tb_mem 1428 rfl rfl⟩
set_option maxRecDepth 20000 in
theorem lk_Pk_40 : LkV "LateSeekers$Park" 40 mt_Pk_becomeAsAtFirst 0 := ⟨tb_mem 105 rfl rfl, fv_Pk_becomeAsAtFirst.1, fv_Pk_becomeAsAtFirst.2.1, fv_Pk_becomeAsAtFirst.2.2.1, fv_Pk_becomeAsAtFirst.2.2.2, ⟨by decide, by decide, by decide +kernel⟩, by decide⟩
set_option maxRecDepth 20000 in
theorem lk_Law_15 : LkV "LateSeekersLaw" 15 mt_LS_feed 2 := ⟨tb_mem 320 rfl rfl, fv_LS_feed.1, fv_LS_feed.2.1, fv_LS_feed.2.2.1, fv_LS_feed.2.2.2, ⟨by decide, by decide, by decide +kernel⟩, by decide⟩
set_option maxRecDepth 20000 in
theorem lk_LS_62 : LkS "LateSeekers" 62 mt_LS_within 3 := ⟨tb_mem 324 rfl rfl, fs_LS_within.1, fs_LS_within.2.1, fs_LS_within.2.2, ⟨by decide, by decide, by decide +kernel⟩, by decide⟩
set_option maxRecDepth 20000 in
theorem lk_LS_70 : LkV "LateSeekers" 70 mt_Tp_append 2 := ⟨tb_mem 327 rfl rfl, fv_Tp_append.1, fv_Tp_append.2.1, fv_Tp_append.2.2.1, fv_Tp_append.2.2.2, ⟨by decide, by decide, by decide +kernel⟩, by decide⟩
set_option maxRecDepth 20000 in
theorem lk_Law_20 : LkV "LateSeekersLaw" 20 mt_LS_park 0 := ⟨tb_mem 331 rfl rfl, fv_LS_park.1, fv_LS_park.2.1, fv_LS_park.2.2.1, fv_LS_park.2.2.2, ⟨by decide, by decide, by decide +kernel⟩, by decide⟩
set_option maxRecDepth 20000 in
theorem lk_LS_77 : LkV "LateSeekers" 77 mt_Pk_becomeAsAtFirst 0 := ⟨tb_mem 335 rfl rfl, fv_Pk_becomeAsAtFirst.1, fv_Pk_becomeAsAtFirst.2.1, fv_Pk_becomeAsAtFirst.2.2.1, fv_Pk_becomeAsAtFirst.2.2.2, ⟨by decide, by decide, by decide +kernel⟩, by decide⟩
set_option maxRecDepth 20000 in
theorem lk_LS_80 : LkV "LateSeekers" 80 mt_Tp_readInto 1 := ⟨tb_mem 336 rfl rfl, fv_Tp_readInto.1, fv_Tp_readInto.2.1, fv_Tp_readInto.2.2.1, fv_Tp_readInto.2.2.2, ⟨by decide, by decide, by decide +kernel⟩, by decide⟩
set_option maxRecDepth 20000 in
theorem lk_Tp_25 : LkV "LateSeekers$TapeReader" 25 mt_Tp_advance 0 := ⟨tb_mem 340 rfl rfl, fv_Tp_advance.1, fv_Tp_advance.2.1, fv_Tp_advance.2.2.1, fv_Tp_advance.2.2.2, ⟨by decide, by decide, by decide +kernel⟩, by decide⟩
set_option maxRecDepth 20000 in
theorem lk_Tp_117 : LkV "LateSeekers$TapeReader" 117 mt_Tp_sortAt 1 := ⟨tb_mem 344 rfl rfl, fv_Tp_sortAt.1, fv_Tp_sortAt.2.1, fv_Tp_sortAt.2.2.1, fv_Tp_sortAt.2.2.2, ⟨by decide, by decide, by decide +kernel⟩, by decide⟩
set_option maxRecDepth 20000 in
theorem lk_Tp_31 : LkV "LateSeekers$TapeReader" 31 mt_Tp_readStatement 1 := ⟨tb_mem 348 rfl rfl, fv_Tp_readStatement.1, fv_Tp_readStatement.2.1, fv_Tp_readStatement.2.2.1, fv_Tp_readStatement.2.2.2, ⟨by decide, by decide, by decide +kernel⟩, by decide⟩
set_option maxRecDepth 20000 in
theorem lk_Tp_35 : LkS "LateSeekers$TapeReader" 35 mt_Tp_kindName 1 := ⟨tb_mem 352 rfl rfl, fs_Tp_kindName.1, fs_Tp_kindName.2.1, fs_Tp_kindName.2.2, ⟨by decide, by decide, by decide +kernel⟩, by decide⟩
set_option maxRecDepth 20000 in
theorem lk_Tp_39 : LkV "LateSeekers$TapeReader" 39 mt_Tp_isNext 1 := ⟨tb_mem 361 rfl rfl, fv_Tp_isNext.1, fv_Tp_isNext.2.1, fv_Tp_isNext.2.2.1, fv_Tp_isNext.2.2.2, ⟨by decide, by decide, by decide +kernel⟩, by decide⟩
set_option maxRecDepth 20000 in
theorem lk_Tp_107 : LkV "LateSeekers$TapeReader" 107 mt_Str_length 0 := ⟨tb_mem 365 rfl rfl, fv_Str_length.1, fv_Str_length.2.1, fv_Str_length.2.2.1, fv_Str_length.2.2.2, ⟨by decide, by decide, by decide +kernel⟩, by decide⟩
set_option maxRecDepth 20000 in
theorem lk_Str_335 : LkV "java/lang/String" 335 mt_Str_coder 0 := ⟨tb_mem 369 rfl rfl, fv_Str_coder.1, fv_Str_coder.2.1, fv_Str_coder.2.2.1, fv_Str_coder.2.2.2, ⟨by decide, by decide, by decide +kernel⟩, by decide⟩
set_option maxRecDepth 20000 in
theorem lk_Tp_113 : LkV "LateSeekers$TapeReader" 113 mt_Str_charAt 1 := ⟨tb_mem 375 rfl rfl, fv_Str_charAt.1, fv_Str_charAt.2.1, fv_Str_charAt.2.2.1, fv_Str_charAt.2.2.2, ⟨by decide, by decide, by decide +kernel⟩, by decide⟩
set_option maxRecDepth 20000 in
theorem lk_Str_492 : LkV "java/lang/String" 492 mt_Str_isLatin1 0 := ⟨tb_mem 379 rfl rfl, fv_Str_isLatin1.1, fv_Str_isLatin1.2.1, fv_Str_isLatin1.2.2.1, fv_Str_isLatin1.2.2.2, ⟨by decide, by decide, by decide +kernel⟩, by decide⟩
set_option maxRecDepth 20000 in
theorem lk_Str_495 : LkS "java/lang/String" 495 mt_Lat_charAt 2 := ⟨tb_mem 383 rfl rfl, fs_Lat_charAt.1, fs_Lat_charAt.2.1, fs_Lat_charAt.2.2, ⟨by decide, by decide, by decide +kernel⟩, by decide⟩
set_option maxRecDepth 20000 in
theorem lk_Lat_9 : LkS "java/lang/StringLatin1" 9 mt_Str_checkIndex 2 := ⟨tb_mem 386 rfl rfl, fs_Str_checkIndex.1, fs_Str_checkIndex.2.1, fs_Str_checkIndex.2.2, ⟨by decide, by decide, by decide +kernel⟩, by decide⟩
set_option maxRecDepth 20000 in
theorem lk_Str_1059 : LkS "java/lang/String" 1059 mt_Pre_checkIndex 3 := ⟨tb_mem 391 rfl rfl, fs_Pre_checkIndex.1, fs_Pre_checkIndex.2.1, fs_Pre_checkIndex.2.2, ⟨by decide, by decide, by decide +kernel⟩, by decide⟩
set_option maxRecDepth 20000 in
theorem lk_Str_498 : LkS "java/lang/String" 498 mt_Utf_charAt 2 := ⟨tb_mem 394 rfl rfl, fs_Utf_charAt.1, fs_Utf_charAt.2.1, fs_Utf_charAt.2.2, ⟨by decide, by decide, by decide +kernel⟩, by decide⟩
set_option maxRecDepth 20000 in
theorem lk_Utf_67 : LkS "java/lang/StringUTF16" 67 mt_Utf_checkIndex 2 := ⟨tb_mem 397 rfl rfl, fs_Utf_checkIndex.1, fs_Utf_checkIndex.2.1, fs_Utf_checkIndex.2.2, ⟨by decide, by decide, by decide +kernel⟩, by decide⟩
set_option maxRecDepth 20000 in
theorem lk_Utf_48 : LkS "java/lang/StringUTF16" 48 mt_Utf_length 1 := ⟨tb_mem 400 rfl rfl, fs_Utf_length.1, fs_Utf_length.2.1, fs_Utf_length.2.2, ⟨by decide, by decide, by decide +kernel⟩, by decide⟩
set_option maxRecDepth 20000 in
theorem lk_Utf_414 : LkS "java/lang/StringUTF16" 414 mt_Str_checkIndex 2 := ⟨tb_mem 403 rfl rfl, fs_Str_checkIndex.1, fs_Str_checkIndex.2.1, fs_Str_checkIndex.2.2, ⟨by decide, by decide, by decide +kernel⟩, by decide⟩
set_option maxRecDepth 20000 in
theorem lk_Utf_71 : LkS "java/lang/StringUTF16" 71 mt_Utf_getChar 2 := ⟨tb_mem 404 rfl rfl, fs_Utf_getChar.1, fs_Utf_getChar.2.1, fs_Utf_getChar.2.2, ⟨by decide, by decide, by decide +kernel⟩, by decide⟩
set_option maxRecDepth 20000 in
theorem lk_Tp_43 : LkV "LateSeekers$TapeReader" 43 mt_Tp_readPerson 2 := ⟨tb_mem 413 rfl rfl, fv_Tp_readPerson.1, fv_Tp_readPerson.2.1, fv_Tp_readPerson.2.2.1, fv_Tp_readPerson.2.2.2, ⟨by decide, by decide, by decide +kernel⟩, by decide⟩
set_option maxRecDepth 20000 in
theorem lk_Tp_61 : LkV "LateSeekers$TapeReader" 61 mt_Tp_fail 0 := ⟨tb_mem 417 rfl rfl, fv_Tp_fail.1, fv_Tp_fail.2.1, fv_Tp_fail.2.2.1, fv_Tp_fail.2.2.2, ⟨by decide, by decide, by decide +kernel⟩, by decide⟩
set_option maxRecDepth 20000 in
theorem lk_Tp_66 : LkV "LateSeekers$TapeReader" 66 mt_Tp_takeName 1 := ⟨tb_mem 422 rfl rfl, fv_Tp_takeName.1, fv_Tp_takeName.2.1, fv_Tp_takeName.2.2.1, fv_Tp_takeName.2.2.2, ⟨by decide, by decide, by decide +kernel⟩, by decide⟩
set_option maxRecDepth 20000 in
theorem lk_Tp_70 : LkV "LateSeekers$TapeReader" 70 mt_Tp_takeNumber 1 := ⟨tb_mem 426 rfl rfl, fv_Tp_takeNumber.1, fv_Tp_takeNumber.2.1, fv_Tp_takeNumber.2.2.1, fv_Tp_takeNumber.2.2.2, ⟨by decide, by decide, by decide +kernel⟩, by decide⟩
set_option maxRecDepth 20000 in
theorem lk_Tp_76 : LkV "LateSeekers$TapeReader" 76 mt_Tp_takeNumberIfNamed 2 := ⟨tb_mem 431 rfl rfl, fv_Tp_takeNumberIfNamed.1, fv_Tp_takeNumberIfNamed.2.1, fv_Tp_takeNumberIfNamed.2.2.1, fv_Tp_takeNumberIfNamed.2.2.2, ⟨by decide, by decide, by decide +kernel⟩, by decide⟩
set_option maxRecDepth 20000 in
theorem lk_Tp_84 : LkV "LateSeekers$TapeReader" 84 mt_Tp_takeSemicolon 0 := ⟨tb_mem 437 rfl rfl, fv_Tp_takeSemicolon.1, fv_Tp_takeSemicolon.2.1, fv_Tp_takeSemicolon.2.2.1, fv_Tp_takeSemicolon.2.2.2, ⟨by decide, by decide, by decide +kernel⟩, by decide⟩
set_option maxRecDepth 20000 in
theorem lk_Tp_87 : LkV "LateSeekers$TapeReader" 87 mt_Pk_admit 5 := ⟨tb_mem 441 rfl rfl, fv_Pk_admit.1, fv_Pk_admit.2.1, fv_Pk_admit.2.2.1, fv_Pk_admit.2.2.2, ⟨by decide, by decide, by decide +kernel⟩, by decide⟩
set_option maxRecDepth 20000 in
theorem lk_Pk_61 : LkV "LateSeekers$Park" 61 mt_Pk_hide 2 := ⟨tb_mem 445 rfl rfl, fv_Pk_hide.1, fv_Pk_hide.2.1, fv_Pk_hide.2.2.1, fv_Pk_hide.2.2.2, ⟨by decide, by decide, by decide +kernel⟩, by decide⟩
set_option maxRecDepth 20000 in
theorem lk_Tp_47 : LkS "LateSeekers$TapeReader" 47 mt_Tp_lawName 1 := ⟨tb_mem 449 rfl rfl, fs_Tp_lawName.1, fs_Tp_lawName.2.1, fs_Tp_lawName.2.2, ⟨by decide, by decide, by decide +kernel⟩, by decide⟩
set_option maxRecDepth 20000 in
theorem lk_Tp_50 : LkV "LateSeekers$TapeReader" 50 mt_Tp_readLaw 2 := ⟨tb_mem 456 rfl rfl, fv_Tp_readLaw.1, fv_Tp_readLaw.2.1, fv_Tp_readLaw.2.2.1, fv_Tp_readLaw.2.2.2, ⟨by decide, by decide, by decide +kernel⟩, by decide⟩
set_option maxRecDepth 20000 in
theorem lk_Tp_53 : LkV "LateSeekers$TapeReader" 53 mt_Tp_readCover 1 := ⟨tb_mem 462 rfl rfl, fv_Tp_readCover.1, fv_Tp_readCover.2.1, fv_Tp_readCover.2.2.1, fv_Tp_readCover.2.2.2, ⟨by decide, by decide, by decide +kernel⟩, by decide⟩
set_option maxRecDepth 20000 in
theorem lk_LS_87 : LkV "LateSeekers" 87 mt_Pk_become 1 := ⟨tb_mem 468 rfl rfl, fv_Pk_become.1, fv_Pk_become.2.1, fv_Pk_become.2.2.1, fv_Pk_become.2.2.2, ⟨by decide, by decide, by decide +kernel⟩, by decide⟩
set_option maxRecDepth 20000 in
theorem lk_Law_25 : LkV "LateSeekersLaw" 25 mt_LS_set 2 := ⟨tb_mem 475 rfl rfl, fv_LS_set.1, fv_LS_set.2.1, fv_LS_set.2.2.1, fv_LS_set.2.2.2, ⟨by decide, by decide, by decide +kernel⟩, by decide⟩
set_option maxRecDepth 20000 in
theorem lk_LS_95 : LkS "LateSeekers" 95 mt_LS_isLaw 1 := ⟨tb_mem 479 rfl rfl, fs_LS_isLaw.1, fs_LS_isLaw.2.1, fs_LS_isLaw.2.2, ⟨by decide, by decide, by decide +kernel⟩, by decide⟩
set_option maxRecDepth 20000 in
theorem lk_Law_30 : LkV "LateSeekersLaw" 30 mt_LS_lawOf 1 := ⟨tb_mem 483 rfl rfl, fv_LS_lawOf.1, fv_LS_lawOf.2.1, fv_LS_lawOf.2.2.1, fv_LS_lawOf.2.2.2, ⟨by decide, by decide, by decide +kernel⟩, by decide⟩
set_option maxRecDepth 20000 in
theorem lk_Law_35 : LkV "LateSeekersLaw" 35 mt_LS_person 5 := ⟨tb_mem 487 rfl rfl, fv_LS_person.1, fv_LS_person.2.1, fv_LS_person.2.2.1, fv_LS_person.2.2.2, ⟨by decide, by decide, by decide +kernel⟩, by decide⟩
set_option maxRecDepth 20000 in
theorem lk_LS_106 : LkS "LateSeekers" 106 mt_LS_isKind 1 := ⟨tb_mem 491 rfl rfl, fs_LS_isKind.1, fs_LS_isKind.2.1, fs_LS_isKind.2.2, ⟨by decide, by decide, by decide +kernel⟩, by decide⟩
set_option maxRecDepth 20000 in
theorem lk_LS_109 : LkS "LateSeekers" 109 mt_LS_isPlace 1 := ⟨tb_mem 494 rfl rfl, fs_LS_isPlace.1, fs_LS_isPlace.2.1, fs_LS_isPlace.2.2, ⟨by decide, by decide, by decide +kernel⟩, by decide⟩
set_option maxRecDepth 20000 in
theorem lk_LS_112 : LkV "LateSeekers" 112 mt_Pk_admit 5 := ⟨tb_mem 497 rfl rfl, fv_Pk_admit.1, fv_Pk_admit.2.1, fv_Pk_admit.2.2.1, fv_Pk_admit.2.2.2, ⟨by decide, by decide, by decide +kernel⟩, by decide⟩
set_option maxRecDepth 20000 in
theorem lk_Law_40 : LkV "LateSeekersLaw" 40 mt_LS_of 2 := ⟨tb_mem 498 rfl rfl, fv_LS_of.1, fv_LS_of.2.1, fv_LS_of.2.2.1, fv_LS_of.2.2.2, ⟨by decide, by decide, by decide +kernel⟩, by decide⟩
set_option maxRecDepth 20000 in
theorem lk_LS_116 : LkV "LateSeekers" 116 mt_Pk_has 1 := ⟨tb_mem 502 rfl rfl, fv_Pk_has.1, fv_Pk_has.2.1, fv_Pk_has.2.2.1, fv_Pk_has.2.2.2, ⟨by decide, by decide, by decide +kernel⟩, by decide⟩
set_option maxRecDepth 20000 in
theorem lk_LS_131 : LkV "LateSeekers" 131 mt_Pk_isHidden 1 := ⟨tb_mem 506 rfl rfl, fv_Pk_isHidden.1, fv_Pk_isHidden.2.1, fv_Pk_isHidden.2.2.1, fv_Pk_isHidden.2.2.2, ⟨by decide, by decide, by decide +kernel⟩, by decide⟩
set_option maxRecDepth 20000 in
theorem lk_Law_44 : LkV "LateSeekersLaw" 44 mt_LS_does 2 := ⟨tb_mem 510 rfl rfl, fv_LS_does.1, fv_LS_does.2.1, fv_LS_does.2.2.1, fv_LS_does.2.2.2, ⟨by decide, by decide, by decide +kernel⟩, by decide⟩
set_option maxRecDepth 20000 in
theorem lk_LS_137 : LkV "LateSeekers" 137 mt_Pk_hides 1 := ⟨tb_mem 514 rfl rfl, fv_Pk_hides.1, fv_Pk_hides.2.1, fv_Pk_hides.2.2.1, fv_Pk_hides.2.2.2, ⟨by decide, by decide, by decide +kernel⟩, by decide⟩
set_option maxRecDepth 20000 in
theorem lk_LS_141 : LkV "LateSeekers" 141 mt_Pk_sees 1 := ⟨tb_mem 518 rfl rfl, fv_Pk_sees.1, fv_Pk_sees.2.1, fv_Pk_sees.2.2.1, fv_Pk_sees.2.2.2, ⟨by decide, by decide, by decide +kernel⟩, by decide⟩
set_option maxRecDepth 20000 in
theorem lk_LS_144 : LkV "LateSeekers" 144 mt_Pk_strides 1 := ⟨tb_mem 522 rfl rfl, fv_Pk_strides.1, fv_Pk_strides.2.1, fv_Pk_strides.2.2.1, fv_Pk_strides.2.2.2, ⟨by decide, by decide, by decide +kernel⟩, by decide⟩
set_option maxRecDepth 20000 in
theorem lk_Law_48 : LkV "LateSeekersLaw" 48 mt_LS_mind 3 := ⟨tb_mem 526 rfl rfl, fv_LS_mind.1, fv_LS_mind.2.1, fv_LS_mind.2.2.1, fv_LS_mind.2.2.2, ⟨by decide, by decide, by decide +kernel⟩, by decide⟩
set_option maxRecDepth 20000 in
theorem lk_Law_53 : LkV "LateSeekersLaw" 53 mt_LS_age 2 := ⟨tb_mem 530 rfl rfl, fv_LS_age.1, fv_LS_age.2.1, fv_LS_age.2.2.1, fv_LS_age.2.2.2, ⟨by decide, by decide, by decide +kernel⟩, by decide⟩
set_option maxRecDepth 20000 in
theorem lk_Law_57 : LkV "LateSeekersLaw" 57 mt_LS_bring 2 := ⟨tb_mem 534 rfl rfl, fv_LS_bring.1, fv_LS_bring.2.1, fv_LS_bring.2.2.1, fv_LS_bring.2.2.2, ⟨by decide, by decide, by decide +kernel⟩, by decide⟩
set_option maxRecDepth 20000 in
theorem lk_Law_61 : LkV "LateSeekersLaw" 61 mt_LS_seek 2 := ⟨tb_mem 538 rfl rfl, fv_LS_seek.1, fv_LS_seek.2.1, fv_LS_seek.2.2.1, fv_LS_seek.2.2.2, ⟨by decide, by decide, by decide +kernel⟩, by decide⟩
set_option maxRecDepth 20000 in
theorem lk_LS_147 : LkV "LateSeekers" 147 mt_Pk_hide 2 := ⟨tb_mem 542 rfl rfl, fv_Pk_hide.1, fv_Pk_hide.2.1, fv_Pk_hide.2.2.1, fv_Pk_hide.2.2.2, ⟨by decide, by decide, by decide +kernel⟩, by decide⟩
set_option maxRecDepth 20000 in
theorem lk_Law_65 : LkV "LateSeekersLaw" 65 mt_LS_place 2 := ⟨tb_mem 543 rfl rfl, fv_LS_place.1, fv_LS_place.2.1, fv_LS_place.2.2.1, fv_LS_place.2.2.2, ⟨by decide, by decide, by decide +kernel⟩, by decide⟩
set_option maxRecDepth 20000 in
theorem lk_LS_154 : LkV "LateSeekers" 154 mt_Pk_peopleAt 1 := ⟨tb_mem 547 rfl rfl, fv_Pk_peopleAt.1, fv_Pk_peopleAt.2.1, fv_Pk_peopleAt.2.2.1, fv_Pk_peopleAt.2.2.2, ⟨by decide, by decide, by decide +kernel⟩, by decide⟩
set_option maxRecDepth 20000 in
theorem lk_LS_160 : LkS "LateSeekers" 160 mt_Integer_bitCount 1 := ⟨tb_mem 551 rfl rfl, fs_Integer_bitCount.1, fs_Integer_bitCount.2.1, fs_Integer_bitCount.2.2, ⟨by decide, by decide, by decide +kernel⟩, by decide⟩
set_option maxRecDepth 20000 in
theorem lk_Law_69 : LkV "LateSeekersLaw" 69 mt_LS_cover 2 := ⟨tb_mem 557 rfl rfl, fv_LS_cover.1, fv_LS_cover.2.1, fv_LS_cover.2.2.1, fv_LS_cover.2.2.2, ⟨by decide, by decide, by decide +kernel⟩, by decide⟩
set_option maxRecDepth 20000 in
theorem lk_Law_73 : LkV "LateSeekersLaw" 73 mt_LS_years 1 := ⟨tb_mem 561 rfl rfl, fv_LS_years.1, fv_LS_years.2.1, fv_LS_years.2.2.1, fv_LS_years.2.2.2, ⟨by decide, by decide, by decide +kernel⟩, by decide⟩
set_option maxRecDepth 20000 in
theorem lk_LS_165 : LkV "LateSeekers" 165 mt_Pk_passYears 2 := ⟨tb_mem 565 rfl rfl, fv_Pk_passYears.1, fv_Pk_passYears.2.1, fv_Pk_passYears.2.2.1, fv_Pk_passYears.2.2.2, ⟨by decide, by decide, by decide +kernel⟩, by decide⟩
set_option maxRecDepth 20000 in
theorem lk_Pk_78 : LkV "LateSeekers$Park" 78 mt_Pk_passYear 1 := ⟨tb_mem 569 rfl rfl, fv_Pk_passYear.1, fv_Pk_passYear.2.1, fv_Pk_passYear.2.2.1, fv_Pk_passYear.2.2.2, ⟨by decide, by decide, by decide +kernel⟩, by decide⟩
set_option maxRecDepth 20000 in
theorem lk_Pk_82 : LkV "LateSeekers$Park" 82 mt_Pk_growOlder 0 := ⟨tb_mem 573 rfl rfl, fv_Pk_growOlder.1, fv_Pk_growOlder.2.1, fv_Pk_growOlder.2.2.1, fv_Pk_growOlder.2.2.2, ⟨by decide, by decide, by decide +kernel⟩, by decide⟩
set_option maxRecDepth 20000 in
theorem lk_Pk_85 : LkV "LateSeekers$Park" 85 mt_Pk_goSeeking 2 := ⟨tb_mem 577 rfl rfl, fv_Pk_goSeeking.1, fv_Pk_goSeeking.2.1, fv_Pk_goSeeking.2.2.1, fv_Pk_goSeeking.2.2.2, ⟨by decide, by decide, by decide +kernel⟩, by decide⟩
set_option maxRecDepth 20000 in
theorem lk_Pk_88 : LkV "LateSeekers$Park" 88 mt_Pk_strides 1 := ⟨tb_mem 581 rfl rfl, fv_Pk_strides.1, fv_Pk_strides.2.1, fv_Pk_strides.2.2.1, fv_Pk_strides.2.2.2, ⟨by decide, by decide, by decide +kernel⟩, by decide⟩
set_option maxRecDepth 20000 in
theorem lk_Pk_91 : LkS "LateSeekers$Park" 91 mt_Math_floorMod 2 := ⟨tb_mem 582 rfl rfl, fs_Math_floorMod.1, fs_Math_floorMod.2.1, fs_Math_floorMod.2.2, ⟨by decide, by decide, by decide +kernel⟩, by decide⟩
set_option maxRecDepth 20000 in
theorem lk_Pk_97 : LkV "LateSeekers$Park" 97 mt_Pk_findOne 1 := ⟨tb_mem 585 rfl rfl, fv_Pk_findOne.1, fv_Pk_findOne.2.1, fv_Pk_findOne.2.2.1, fv_Pk_findOne.2.2.2, ⟨by decide, by decide, by decide +kernel⟩, by decide⟩
set_option maxRecDepth 20000 in
theorem lk_Pk_100 : LkV "LateSeekers$Park" 100 mt_Pk_sees 1 := ⟨tb_mem 589 rfl rfl, fv_Pk_sees.1, fv_Pk_sees.2.1, fv_Pk_sees.2.2.1, fv_Pk_sees.2.2.2, ⟨by decide, by decide, by decide +kernel⟩, by decide⟩
set_option maxRecDepth 20000 in
theorem lk_Pk_71 : LkV "LateSeekers$Park" 71 mt_Pk_isHidden 1 := ⟨tb_mem 590 rfl rfl, fv_Pk_isHidden.1, fv_Pk_isHidden.2.1, fv_Pk_isHidden.2.2.1, fv_Pk_isHidden.2.2.2, ⟨by decide, by decide, by decide +kernel⟩, by decide⟩
set_option maxRecDepth 20000 in
theorem lk_Pk_103 : LkV "LateSeekers$Park" 103 mt_Pk_hides 1 := ⟨tb_mem 591 rfl rfl, fv_Pk_hides.1, fv_Pk_hides.2.1, fv_Pk_hides.2.2.1, fv_Pk_hides.2.2.2, ⟨by decide, by decide, by decide +kernel⟩, by decide⟩
set_option maxRecDepth 20000 in
theorem lk_LS_169 : LkV "LateSeekers" 169 mt_Pk_hiddenOnes 0 := ⟨tb_mem 592 rfl rfl, fv_Pk_hiddenOnes.1, fv_Pk_hiddenOnes.2.1, fv_Pk_hiddenOnes.2.2.1, fv_Pk_hiddenOnes.2.2.2, ⟨by decide, by decide, by decide +kernel⟩, by decide⟩
set_option maxRecDepth 20000 in
theorem lk_Pk_65 : LkS "LateSeekers$Park" 65 mt_Integer_bitCount 1 := ⟨tb_mem 596 rfl rfl, fs_Integer_bitCount.1, fs_Integer_bitCount.2.1, fs_Integer_bitCount.2.2, ⟨by decide, by decide, by decide +kernel⟩, by decide⟩
set_option maxRecDepth 20000 in
theorem lk_Law_77 : LkV "LateSeekersLaw" 77 mt_LS_seed 1 := ⟨tb_mem 597 rfl rfl, fv_LS_seed.1, fv_LS_seed.2.1, fv_LS_seed.2.2.1, fv_LS_seed.2.2.2, ⟨by decide, by decide, by decide +kernel⟩, by decide⟩
set_option maxRecDepth 20000 in
theorem lk_Law_81 : LkV "LateSeekersLaw" 81 mt_LS_year 0 := ⟨tb_mem 601 rfl rfl, fv_LS_year.1, fv_LS_year.2.1, fv_LS_year.2.2.1, fv_LS_year.2.2.2, ⟨by decide, by decide, by decide +kernel⟩, by decide⟩
set_option maxRecDepth 20000 in
theorem lk_LS_173 : LkV "LateSeekers" 173 mt_Pk_passYearByDraws 0 := ⟨tb_mem 605 rfl rfl, fv_Pk_passYearByDraws.1, fv_Pk_passYearByDraws.2.1, fv_Pk_passYearByDraws.2.2.1, fv_Pk_passYearByDraws.2.2.2, ⟨by decide, by decide, by decide +kernel⟩, by decide⟩
set_option maxRecDepth 20000 in
theorem lk_Pk_106 : LkV "LateSeekers$Park" 106 mt_Pk_drawn 0 := ⟨tb_mem 609 rfl rfl, fv_Pk_drawn.1, fv_Pk_drawn.2.1, fv_Pk_drawn.2.2.1, fv_Pk_drawn.2.2.2, ⟨by decide, by decide, by decide +kernel⟩, by decide⟩
set_option maxRecDepth 20000 in
theorem lk_Law_85 : LkV "LateSeekersLaw" 85 mt_LS_nights 1 := ⟨tb_mem 614 rfl rfl, fv_LS_nights.1, fv_LS_nights.2.1, fv_LS_nights.2.2.1, fv_LS_nights.2.2.2, ⟨by decide, by decide, by decide +kernel⟩, by decide⟩
set_option maxRecDepth 20000 in
theorem lk_LS_176 : LkV "LateSeekers" 176 mt_Tr_nightsWithMoreHidden 1 := ⟨tb_mem 618 rfl rfl, fv_Tr_nightsWithMoreHidden.1, fv_Tr_nightsWithMoreHidden.2.1, fv_Tr_nightsWithMoreHidden.2.2.1, fv_Tr_nightsWithMoreHidden.2.2.2, ⟨by decide, by decide, by decide +kernel⟩, by decide⟩
set_option maxRecDepth 20000 in
theorem lk_Tr_21 : LkV "LateSeekers$Trials" 21 mt_Pk_become 1 := ⟨tb_mem 622 rfl rfl, fv_Pk_become.1, fv_Pk_become.2.1, fv_Pk_become.2.2.1, fv_Pk_become.2.2.2, ⟨by decide, by decide, by decide +kernel⟩, by decide⟩
set_option maxRecDepth 20000 in
theorem lk_Tr_86 : LkV "LateSeekers$Trials" 86 mt_Pk_passYearByDraws 0 := ⟨tb_mem 623 rfl rfl, fv_Pk_passYearByDraws.1, fv_Pk_passYearByDraws.2.1, fv_Pk_passYearByDraws.2.2.1, fv_Pk_passYearByDraws.2.2.2, ⟨by decide, by decide, by decide +kernel⟩, by decide⟩
set_option maxRecDepth 20000 in
theorem lk_Tr_89 : LkV "LateSeekers$Trials" 89 mt_Pk_hiddenOnes 0 := ⟨tb_mem 624 rfl rfl, fv_Pk_hiddenOnes.1, fv_Pk_hiddenOnes.2.1, fv_Pk_hiddenOnes.2.2.1, fv_Pk_hiddenOnes.2.2.2, ⟨by decide, by decide, by decide +kernel⟩, by decide⟩
set_option maxRecDepth 20000 in
theorem lk_Law_89 : LkV "LateSeekersLaw" 89 mt_LS_state 1 := ⟨tb_mem 625 rfl rfl, fv_LS_state.1, fv_LS_state.2.1, fv_LS_state.2.2.1, fv_LS_state.2.2.2, ⟨by decide, by decide, by decide +kernel⟩, by decide⟩
set_option maxRecDepth 20000 in
theorem lk_LS_182 : LkS "LateSeekers" 182 mt_LS_sumOf 2 := ⟨tb_mem 629 rfl rfl, fs_LS_sumOf.1, fs_LS_sumOf.2.1, fs_LS_sumOf.2.2, ⟨by decide, by decide, by decide +kernel⟩, by decide⟩
set_option maxRecDepth 20000 in
theorem lk_LS_186 : LkV "LateSeekers" 186 mt_Pk_hidingPlaces 0 := ⟨tb_mem 632 rfl rfl, fv_Pk_hidingPlaces.1, fv_Pk_hidingPlaces.2.1, fv_Pk_hidingPlaces.2.2.1, fv_Pk_hidingPlaces.2.2.2, ⟨by decide, by decide, by decide +kernel⟩, by decide⟩
set_option maxRecDepth 20000 in
theorem lk_Law_93 : LkV "LateSeekersLaw" 93 mt_LS_where 2 := ⟨tb_mem 636 rfl rfl, fv_LS_where.1, fv_LS_where.2.1, fv_LS_where.2.2.1, fv_LS_where.2.2.2, ⟨by decide, by decide, by decide +kernel⟩, by decide⟩
set_option maxRecDepth 20000 in
theorem lk_Law_97 : LkV "LateSeekersLaw" 97 mt_LS_shown 1 := ⟨tb_mem 640 rfl rfl, fv_LS_shown.1, fv_LS_shown.2.1, fv_LS_shown.2.2.1, fv_LS_shown.2.2.2, ⟨by decide, by decide, by decide +kernel⟩, by decide⟩
set_option maxRecDepth 20000 in
theorem lk_LS_189 : LkV "LateSeekers" 189 mt_Tr_shownBehind 2 := ⟨tb_mem 644 rfl rfl, fv_Tr_shownBehind.1, fv_Tr_shownBehind.2.1, fv_Tr_shownBehind.2.2.1, fv_Tr_shownBehind.2.2.2, ⟨by decide, by decide, by decide +kernel⟩, by decide⟩
set_option maxRecDepth 20000 in
theorem lk_Tr_25 : LkV "LateSeekers$Trials" 25 mt_Tr_yearsUntilShown 2 := ⟨tb_mem 648 rfl rfl, fv_Tr_yearsUntilShown.1, fv_Tr_yearsUntilShown.2.1, fv_Tr_yearsUntilShown.2.2.1, fv_Tr_yearsUntilShown.2.2.2, ⟨by decide, by decide, by decide +kernel⟩, by decide⟩
set_option maxRecDepth 20000 in
theorem lk_Tr_29 : LkV "LateSeekers$Trials" 29 mt_Pk_isHidden 1 := ⟨tb_mem 652 rfl rfl, fv_Pk_isHidden.1, fv_Pk_isHidden.2.1, fv_Pk_isHidden.2.2.1, fv_Pk_isHidden.2.2.2, ⟨by decide, by decide, by decide +kernel⟩, by decide⟩
set_option maxRecDepth 20000 in
theorem lk_Tr_33 : LkV "LateSeekers$Trials" 33 mt_Pk_passYear 1 := ⟨tb_mem 653 rfl rfl, fv_Pk_passYear.1, fv_Pk_passYear.2.1, fv_Pk_passYear.2.2.1, fv_Pk_passYear.2.2.2, ⟨by decide, by decide, by decide +kernel⟩, by decide⟩
set_option maxRecDepth 20000 in
theorem lk_Law_101 : LkV "LateSeekersLaw" 101 mt_LS_all 0 := ⟨tb_mem 654 rfl rfl, fv_LS_all.1, fv_LS_all.2.1, fv_LS_all.2.2.1, fv_LS_all.2.2.2, ⟨by decide, by decide, by decide +kernel⟩, by decide⟩
set_option maxRecDepth 20000 in
theorem lk_LS_193 : LkV "LateSeekers" 193 mt_Tr_allShownBehind 0 := ⟨tb_mem 658 rfl rfl, fv_Tr_allShownBehind.1, fv_Tr_allShownBehind.2.1, fv_Tr_allShownBehind.2.2.1, fv_Tr_allShownBehind.2.2.2, ⟨by decide, by decide, by decide +kernel⟩, by decide⟩
set_option maxRecDepth 20000 in
theorem lk_Law_105 : LkV "LateSeekersLaw" 105 mt_LS_finder 1 := ⟨tb_mem 662 rfl rfl, fv_LS_finder.1, fv_LS_finder.2.1, fv_LS_finder.2.2.1, fv_LS_finder.2.2.2, ⟨by decide, by decide, by decide +kernel⟩, by decide⟩
set_option maxRecDepth 20000 in
theorem lk_Law_109 : LkV "LateSeekersLaw" 109 mt_LS_safeFor 1 := ⟨tb_mem 666 rfl rfl, fv_LS_safeFor.1, fv_LS_safeFor.2.1, fv_LS_safeFor.2.2.1, fv_LS_safeFor.2.2.2, ⟨by decide, by decide, by decide +kernel⟩, by decide⟩
set_option maxRecDepth 20000 in
theorem lk_LS_199 : LkV "LateSeekers" 199 mt_Tr_safestPlace 1 := ⟨tb_mem 670 rfl rfl, fv_Tr_safestPlace.1, fv_Tr_safestPlace.2.1, fv_Tr_safestPlace.2.2.1, fv_Tr_safestPlace.2.2.2, ⟨by decide, by decide, by decide +kernel⟩, by decide⟩
set_option maxRecDepth 20000 in
theorem lk_Tr_45 : LkV "LateSeekers$Trials" 45 mt_Pk_hide 2 := ⟨tb_mem 674 rfl rfl, fv_Pk_hide.1, fv_Pk_hide.2.1, fv_Pk_hide.2.2.1, fv_Pk_hide.2.2.2, ⟨by decide, by decide, by decide +kernel⟩, by decide⟩
set_option maxRecDepth 20000 in
theorem lk_Law_113 : LkV "LateSeekersLaw" 113 mt_LS_kindFor 1 := ⟨tb_mem 675 rfl rfl, fv_LS_kindFor.1, fv_LS_kindFor.2.1, fv_LS_kindFor.2.2.1, fv_LS_kindFor.2.2.2, ⟨by decide, by decide, by decide +kernel⟩, by decide⟩
set_option maxRecDepth 20000 in
theorem lk_LS_202 : LkV "LateSeekers" 202 mt_Tr_safestKind 1 := ⟨tb_mem 679 rfl rfl, fv_Tr_safestKind.1, fv_Tr_safestKind.2.1, fv_Tr_safestKind.2.2.1, fv_Tr_safestKind.2.2.2, ⟨by decide, by decide, by decide +kernel⟩, by decide⟩
set_option maxRecDepth 20000 in
theorem lk_Law_117 : LkV "LateSeekersLaw" 117 mt_LS_witFor 2 := ⟨tb_mem 683 rfl rfl, fv_LS_witFor.1, fv_LS_witFor.2.1, fv_LS_witFor.2.2.1, fv_LS_witFor.2.2.2, ⟨by decide, by decide, by decide +kernel⟩, by decide⟩
set_option maxRecDepth 20000 in
theorem lk_LS_205 : LkV "LateSeekers" 205 mt_Tr_leastHidingWit 2 := ⟨tb_mem 687 rfl rfl, fv_Tr_leastHidingWit.1, fv_Tr_leastHidingWit.2.1, fv_Tr_leastHidingWit.2.2.1, fv_Tr_leastHidingWit.2.2.2, ⟨by decide, by decide, by decide +kernel⟩, by decide⟩
set_option maxRecDepth 20000 in
theorem lk_Tr_55 : LkV "LateSeekers$Trials" 55 mt_Pk_passYears 2 := ⟨tb_mem 691 rfl rfl, fv_Pk_passYears.1, fv_Pk_passYears.2.1, fv_Pk_passYears.2.2.1, fv_Pk_passYears.2.2.2, ⟨by decide, by decide, by decide +kernel⟩, by decide⟩
set_option maxRecDepth 20000 in
theorem lk_Law_121 : LkV "LateSeekersLaw" 121 mt_LS_needed 1 := ⟨tb_mem 692 rfl rfl, fv_LS_needed.1, fv_LS_needed.2.1, fv_LS_needed.2.2.1, fv_LS_needed.2.2.2, ⟨by decide, by decide, by decide +kernel⟩, by decide⟩
set_option maxRecDepth 20000 in
theorem lk_LS_208 : LkV "LateSeekers" 208 mt_Tr_mostNeeded 1 := ⟨tb_mem 696 rfl rfl, fv_Tr_mostNeeded.1, fv_Tr_mostNeeded.2.1, fv_Tr_mostNeeded.2.2.1, fv_Tr_mostNeeded.2.2.2, ⟨by decide, by decide, by decide +kernel⟩, by decide⟩
set_option maxRecDepth 20000 in
theorem lk_Tr_59 : LkV "LateSeekers$Trials" 59 mt_Tr_shownBehind 2 := ⟨tb_mem 700 rfl rfl, fv_Tr_shownBehind.1, fv_Tr_shownBehind.2.1, fv_Tr_shownBehind.2.2.1, fv_Tr_shownBehind.2.2.2, ⟨by decide, by decide, by decide +kernel⟩, by decide⟩
set_option maxRecDepth 20000 in
theorem lk_Law_125 : LkV "LateSeekersLaw" 125 mt_LS_fewest 2 := ⟨tb_mem 701 rfl rfl, fv_LS_fewest.1, fv_LS_fewest.2.1, fv_LS_fewest.2.2.1, fv_LS_fewest.2.2.2, ⟨by decide, by decide, by decide +kernel⟩, by decide⟩
set_option maxRecDepth 20000 in
theorem lk_LS_211 : LkV "LateSeekers" 211 mt_Tr_fewestFinders 2 := ⟨tb_mem 705 rfl rfl, fv_Tr_fewestFinders.1, fv_Tr_fewestFinders.2.1, fv_Tr_fewestFinders.2.2.1, fv_Tr_fewestFinders.2.2.2, ⟨by decide, by decide, by decide +kernel⟩, by decide⟩
set_option maxRecDepth 20000 in
theorem lk_Tr_65 : LkS "LateSeekers$Trials" 65 mt_Integer_bitCount 1 := ⟨tb_mem 709 rfl rfl, fs_Integer_bitCount.1, fs_Integer_bitCount.2.1, fs_Integer_bitCount.2.2, ⟨by decide, by decide, by decide +kernel⟩, by decide⟩
set_option maxRecDepth 20000 in
theorem lk_Tr_71 : LkV "LateSeekers$Trials" 71 mt_Tr_seeksBehind 3 := ⟨tb_mem 710 rfl rfl, fv_Tr_seeksBehind.1, fv_Tr_seeksBehind.2.1, fv_Tr_seeksBehind.2.2.1, fv_Tr_seeksBehind.2.2.2, ⟨by decide, by decide, by decide +kernel⟩, by decide⟩
set_option maxRecDepth 20000 in
theorem lk_Law_129 : LkV "LateSeekersLaw" 129 mt_LS_round 1 := ⟨tb_mem 714 rfl rfl, fv_LS_round.1, fv_LS_round.2.1, fv_LS_round.2.2.1, fv_LS_round.2.2.2, ⟨by decide, by decide, by decide +kernel⟩, by decide⟩
set_option maxRecDepth 20000 in
theorem lk_LS_214 : LkS "LateSeekers" 214 mt_LS_stepsRound 2 := ⟨tb_mem 718 rfl rfl, fs_LS_stepsRound.1, fs_LS_stepsRound.2.1, fs_LS_stepsRound.2.2, ⟨by decide, by decide, by decide +kernel⟩, by decide⟩
set_option maxRecDepth 20000 in
theorem lk_LS_217 : LkS "LateSeekers" 217 mt_Math_min 2 := ⟨tb_mem 721 rfl rfl, fs_Math_min.1, fs_Math_min.2.1, fs_Math_min.2.2, ⟨by decide, by decide, by decide +kernel⟩, by decide⟩
set_option maxRecDepth 20000 in
theorem lk_Law_133 : LkV "LateSeekersLaw" 133 mt_LS_fits 3 := ⟨tb_mem 724 rfl rfl, fv_LS_fits.1, fv_LS_fits.2.1, fv_LS_fits.2.2.1, fv_LS_fits.2.2.2, ⟨by decide, by decide, by decide +kernel⟩, by decide⟩
set_option maxRecDepth 20000 in
theorem lk_LS_222 : LkS "LateSeekers" 222 mt_LS_isSheet 1 := ⟨tb_mem 728 rfl rfl, fs_LS_isSheet.1, fs_LS_isSheet.2.1, fs_LS_isSheet.2.2, ⟨by decide, by decide, by decide +kernel⟩, by decide⟩
set_option maxRecDepth 20000 in
theorem lk_LS_225 : LkV "LateSeekers" 225 mt_Sh_isMissing 1 := ⟨tb_mem 731 rfl rfl, fv_Sh_isMissing.1, fv_Sh_isMissing.2.1, fv_Sh_isMissing.2.2.1, fv_Sh_isMissing.2.2.2, ⟨by decide, by decide, by decide +kernel⟩, by decide⟩
set_option maxRecDepth 20000 in
theorem lk_LS_228 : LkV "LateSeekers" 228 mt_Tr_wouldFit 4 := ⟨tb_mem 735 rfl rfl, fv_Tr_wouldFit.1, fv_Tr_wouldFit.2.1, fv_Tr_wouldFit.2.2.1, fv_Tr_wouldFit.2.2.2, ⟨by decide, by decide, by decide +kernel⟩, by decide⟩
set_option maxRecDepth 20000 in
theorem lk_Tr_80 : LkV "LateSeekers$Trials" 80 mt_Sh_read 2 := ⟨tb_mem 739 rfl rfl, fv_Sh_read.1, fv_Sh_read.2.1, fv_Sh_read.2.2.1, fv_Sh_read.2.2.2, ⟨by decide, by decide, by decide +kernel⟩, by decide⟩
set_option maxRecDepth 20000 in
theorem lk_Law_137 : LkV "LateSeekersLaw" 137 mt_LS_odds 3 := ⟨tb_mem 743 rfl rfl, fv_LS_odds.1, fv_LS_odds.2.1, fv_LS_odds.2.2.1, fv_LS_odds.2.2.2, ⟨by decide, by decide, by decide +kernel⟩, by decide⟩
set_option maxRecDepth 20000 in
theorem lk_LS_236 : LkS "LateSeekers" 236 mt_LS_partOf 3 := ⟨tb_mem 749 rfl rfl, fs_LS_partOf.1, fs_LS_partOf.2.1, fs_LS_partOf.2.2, ⟨by decide, by decide, by decide +kernel⟩, by decide⟩
set_option maxRecDepth 20000 in
theorem lk_LS_240 : LkS "LateSeekers" 240 mt_LS_commonDivisor 2 := ⟨tb_mem 752 rfl rfl, fs_LS_commonDivisor.1, fs_LS_commonDivisor.2.1, fs_LS_commonDivisor.2.2, ⟨by decide, by decide, by decide +kernel⟩, by decide⟩
set_option maxRecDepth 20000 in
theorem lk_Law_142 : LkV "LateSeekersLaw" 142 mt_LS_hope 2 := ⟨tb_mem 755 rfl rfl, fv_LS_hope.1, fv_LS_hope.2.1, fv_LS_hope.2.2.1, fv_LS_hope.2.2.2, ⟨by decide, by decide, by decide +kernel⟩, by decide⟩
set_option maxRecDepth 20000 in
theorem lk_Law_147 : LkV "LateSeekersLaw" 147 mt_LS_prove 2 := ⟨tb_mem 759 rfl rfl, fv_LS_prove.1, fv_LS_prove.2.1, fv_LS_prove.2.2.1, fv_LS_prove.2.2.2, ⟨by decide, by decide, by decide +kernel⟩, by decide⟩
set_option maxRecDepth 20000 in
theorem lk_LS_244 : LkV "LateSeekers" 244 mt_Pk_passYear 1 := ⟨tb_mem 763 rfl rfl, fv_Pk_passYear.1, fv_Pk_passYear.2.1, fv_Pk_passYear.2.2.1, fv_Pk_passYear.2.2.2, ⟨by decide, by decide, by decide +kernel⟩, by decide⟩
set_option maxRecDepth 20000 in
theorem lk_LS_248 : LkV "LateSeekers" 248 mt_Rw_write 3 := ⟨tb_mem 764 rfl rfl, fv_Rw_write.1, fv_Rw_write.2.1, fv_Rw_write.2.2.1, fv_Rw_write.2.2.2, ⟨by decide, by decide, by decide +kernel⟩, by decide⟩
set_option maxRecDepth 20000 in
theorem lk_Rw_19 : LkS "LateSeekers$Rows" 19 mt_Rw_due 3 := ⟨tb_mem 768 rfl rfl, fs_Rw_due.1, fs_Rw_due.2.1, fs_Rw_due.2.2, ⟨by decide, by decide, by decide +kernel⟩, by decide⟩
set_option maxRecDepth 20000 in
theorem lk_Rw_28 : LkV "LateSeekers$Rows" 28 mt_Pk_isHidden 1 := ⟨tb_mem 771 rfl rfl, fv_Pk_isHidden.1, fv_Pk_isHidden.2.1, fv_Pk_isHidden.2.2.1, fv_Pk_isHidden.2.2.2, ⟨by decide, by decide, by decide +kernel⟩, by decide⟩
set_option maxRecDepth 20000 in
theorem lk_Law_151 : LkV "LateSeekersLaw" 151 mt_LS_row 2 := ⟨tb_mem 772 rfl rfl, fv_LS_row.1, fv_LS_row.2.1, fv_LS_row.2.2.1, fv_LS_row.2.2.2, ⟨by decide, by decide, by decide +kernel⟩, by decide⟩
set_option maxRecDepth 20000 in
theorem lk_LS_252 : LkV "LateSeekers" 252 mt_Rw_has 2 := ⟨tb_mem 776 rfl rfl, fv_Rw_has.1, fv_Rw_has.2.1, fv_Rw_has.2.2.1, fv_Rw_has.2.2.2, ⟨by decide, by decide, by decide +kernel⟩, by decide⟩
set_option maxRecDepth 20000 in
theorem lk_Law_155 : LkV "LateSeekersLaw" 155 mt_LS_alterRow 3 := ⟨tb_mem 780 rfl rfl, fv_LS_alterRow.1, fv_LS_alterRow.2.1, fv_LS_alterRow.2.2.1, fv_LS_alterRow.2.2.2, ⟨by decide, by decide, by decide +kernel⟩, by decide⟩
set_option maxRecDepth 20000 in
theorem lk_Law_159 : LkV "LateSeekersLaw" 159 mt_LS_judge 1 := ⟨tb_mem 784 rfl rfl, fv_LS_judge.1, fv_LS_judge.2.1, fv_LS_judge.2.2.1, fv_LS_judge.2.2.2, ⟨by decide, by decide, by decide +kernel⟩, by decide⟩
set_option maxRecDepth 20000 in
theorem lk_LS_258 : LkV "LateSeekers" 258 mt_Rw_isRight 3 := ⟨tb_mem 788 rfl rfl, fv_Rw_isRight.1, fv_Rw_isRight.2.1, fv_Rw_isRight.2.2.1, fv_Rw_isRight.2.2.2, ⟨by decide, by decide, by decide +kernel⟩, by decide⟩
set_option maxRecDepth 20000 in
theorem lk_Law_163 : LkV "LateSeekersLaw" 163 mt_LS_minds 4 := ⟨tb_mem 792 rfl rfl, fv_LS_minds.1, fv_LS_minds.2.1, fv_LS_minds.2.2.1, fv_LS_minds.2.2.2, ⟨by decide, by decide, by decide +kernel⟩, by decide⟩
set_option maxRecDepth 20000 in
theorem lk_LS_267 : LkV "LateSeekers" 267 mt_Sh_read 2 := ⟨tb_mem 796 rfl rfl, fv_Sh_read.1, fv_Sh_read.2.1, fv_Sh_read.2.2.1, fv_Sh_read.2.2.2, ⟨by decide, by decide, by decide +kernel⟩, by decide⟩
set_option maxRecDepth 20000 in
theorem lk_LS_270 : LkS "LateSeekers" 270 mt_Math_max 2 := ⟨tb_mem 797 rfl rfl, fs_Math_max.1, fs_Math_max.2.1, fs_Math_max.2.2, ⟨by decide, by decide, by decide +kernel⟩, by decide⟩
set_option maxRecDepth 20000 in
theorem lk_Law_168 : LkV "LateSeekersLaw" 168 mt_LS_sheet 3 := ⟨tb_mem 800 rfl rfl, fv_LS_sheet.1, fv_LS_sheet.2.1, fv_LS_sheet.2.2.1, fv_LS_sheet.2.2.2, ⟨by decide, by decide, by decide +kernel⟩, by decide⟩
set_option maxRecDepth 20000 in
theorem lk_LS_273 : LkV "LateSeekers" 273 mt_Sh_remove 1 := ⟨tb_mem 804 rfl rfl, fv_Sh_remove.1, fv_Sh_remove.2.1, fv_Sh_remove.2.2.1, fv_Sh_remove.2.2.2, ⟨by decide, by decide, by decide +kernel⟩, by decide⟩
set_option maxRecDepth 20000 in
theorem lk_LS_276 : LkV "LateSeekers" 276 mt_Sh_lay 3 := ⟨tb_mem 808 rfl rfl, fv_Sh_lay.1, fv_Sh_lay.2.1, fv_Sh_lay.2.2.1, fv_Sh_lay.2.2.2, ⟨by decide, by decide, by decide +kernel⟩, by decide⟩
set_option maxRecDepth 20000 in
theorem lk_Law_172 : LkV "LateSeekersLaw" 172 mt_LS_put 3 := ⟨tb_mem 812 rfl rfl, fv_LS_put.1, fv_LS_put.2.1, fv_LS_put.2.2.1, fv_LS_put.2.2.2, ⟨by decide, by decide, by decide +kernel⟩, by decide⟩
set_option maxRecDepth 20000 in
theorem lk_LS_280 : LkV "LateSeekers" 280 mt_Sh_hasItem 2 := ⟨tb_mem 816 rfl rfl, fv_Sh_hasItem.1, fv_Sh_hasItem.2.1, fv_Sh_hasItem.2.2.1, fv_Sh_hasItem.2.2.2, ⟨by decide, by decide, by decide +kernel⟩, by decide⟩
set_option maxRecDepth 20000 in
theorem lk_LS_283 : LkV "LateSeekers" 283 mt_Sh_write 3 := ⟨tb_mem 820 rfl rfl, fv_Sh_write.1, fv_Sh_write.2.1, fv_Sh_write.2.2.1, fv_Sh_write.2.2.2, ⟨by decide, by decide, by decide +kernel⟩, by decide⟩
set_option maxRecDepth 20000 in
theorem lk_Sh_21 : LkS "LateSeekers$Sheets" 21 mt_Sh_narrowed 2 := ⟨tb_mem 824 rfl rfl, fs_Sh_narrowed.1, fs_Sh_narrowed.2.1, fs_Sh_narrowed.2.2, ⟨by decide, by decide, by decide +kernel⟩, by decide⟩
set_option maxRecDepth 20000 in
theorem lk_Law_176 : LkV "LateSeekersLaw" 176 mt_LS_item 3 := ⟨tb_mem 827 rfl rfl, fv_LS_item.1, fv_LS_item.2.1, fv_LS_item.2.2.1, fv_LS_item.2.2.2, ⟨by decide, by decide, by decide +kernel⟩, by decide⟩
set_option maxRecDepth 20000 in
theorem lk_Law_180 : LkV "LateSeekersLaw" 180 mt_LS_shelf 3 := ⟨tb_mem 831 rfl rfl, fv_LS_shelf.1, fv_LS_shelf.2.1, fv_LS_shelf.2.2.1, fv_LS_shelf.2.2.2, ⟨by decide, by decide, by decide +kernel⟩, by decide⟩
set_option maxRecDepth 20000 in
theorem lk_LS_285 : LkS "LateSeekers" 285 mt_LS_isShelf 1 := ⟨tb_mem 835 rfl rfl, fs_LS_isShelf.1, fs_LS_isShelf.2.1, fs_LS_isShelf.2.2, ⟨by decide, by decide, by decide +kernel⟩, by decide⟩
set_option maxRecDepth 20000 in
theorem lk_LS_288 : LkV "LateSeekers" 288 mt_Sv_holdPerson 2 := ⟨tb_mem 838 rfl rfl, fv_Sv_holdPerson.1, fv_Sv_holdPerson.2.1, fv_Sv_holdPerson.2.2.1, fv_Sv_holdPerson.2.2.2, ⟨by decide, by decide, by decide +kernel⟩, by decide⟩
set_option maxRecDepth 20000 in
theorem lk_Sv_21 : LkV "LateSeekers$Shelves" 21 mt_Sv_holdNothing 1 := ⟨tb_mem 842 rfl rfl, fv_Sv_holdNothing.1, fv_Sv_holdNothing.2.1, fv_Sv_holdNothing.2.2.1, fv_Sv_holdNothing.2.2.2, ⟨by decide, by decide, by decide +kernel⟩, by decide⟩
set_option maxRecDepth 20000 in
theorem lk_LS_291 : LkV "LateSeekers" 291 mt_Sv_holdRow 3 := ⟨tb_mem 846 rfl rfl, fv_Sv_holdRow.1, fv_Sv_holdRow.2.1, fv_Sv_holdRow.2.2.1, fv_Sv_holdRow.2.2.2, ⟨by decide, by decide, by decide +kernel⟩, by decide⟩
set_option maxRecDepth 20000 in
theorem lk_LS_294 : LkV "LateSeekers" 294 mt_Sv_holdNothing 1 := ⟨tb_mem 850 rfl rfl, fv_Sv_holdNothing.1, fv_Sv_holdNothing.2.1, fv_Sv_holdNothing.2.2.1, fv_Sv_holdNothing.2.2.2, ⟨by decide, by decide, by decide +kernel⟩, by decide⟩
set_option maxRecDepth 20000 in
theorem lk_Law_184 : LkV "LateSeekersLaw" 184 mt_LS_taken 2 := ⟨tb_mem 851 rfl rfl, fv_LS_taken.1, fv_LS_taken.2.1, fv_LS_taken.2.2.1, fv_LS_taken.2.2.2, ⟨by decide, by decide, by decide +kernel⟩, by decide⟩
set_option maxRecDepth 20000 in
theorem lk_LS_297 : LkV "LateSeekers" 297 mt_Sv_holdsRow 1 := ⟨tb_mem 855 rfl rfl, fv_Sv_holdsRow.1, fv_Sv_holdsRow.2.1, fv_Sv_holdsRow.2.2.1, fv_Sv_holdsRow.2.2.2, ⟨by decide, by decide, by decide +kernel⟩, by decide⟩
set_option maxRecDepth 20000 in
theorem lk_LS_309 : LkS "LateSeekers" 309 mt_LS_isUnder 2 := ⟨tb_mem 859 rfl rfl, fs_LS_isUnder.1, fs_LS_isUnder.2.1, fs_LS_isUnder.2.2, ⟨by decide, by decide, by decide +kernel⟩, by decide⟩
set_option maxRecDepth 20000 in
theorem lk_Law_188 : LkV "LateSeekersLaw" 188 mt_LS_act 3 := ⟨tb_mem 864 rfl rfl, fv_LS_act.1, fv_LS_act.2.1, fv_LS_act.2.2.1, fv_LS_act.2.2.2, ⟨by decide, by decide, by decide +kernel⟩, by decide⟩
set_option maxRecDepth 20000 in
theorem lk_LS_318 : LkV "LateSeekers" 318 mt_Ac_perform 4 := ⟨tb_mem 868 rfl rfl, fv_Ac_perform.1, fv_Ac_perform.2.1, fv_Ac_perform.2.2.1, fv_Ac_perform.2.2.2, ⟨by decide, by decide, by decide +kernel⟩, by decide⟩
set_option maxRecDepth 20000 in
theorem lk_Ac_37 : LkV "LateSeekers$Actor" 37 mt_Ac_run 4 := ⟨tb_mem 872 rfl rfl, fv_Ac_run.1, fv_Ac_run.2.1, fv_Ac_run.2.2.1, fv_Ac_run.2.2.2, ⟨by decide, by decide, by decide +kernel⟩, by decide⟩
set_option maxRecDepth 20000 in
theorem lk_Ac_47 : LkV "LateSeekers$Actor" 47 mt_Ac_quotient 2 := ⟨tb_mem 878 rfl rfl, fv_Ac_quotient.1, fv_Ac_quotient.2.1, fv_Ac_quotient.2.2.1, fv_Ac_quotient.2.2.2, ⟨by decide, by decide, by decide +kernel⟩, by decide⟩
set_option maxRecDepth 20000 in
theorem lk_Law_192 : LkV "LateSeekersLaw" 192 mt_LS_trace 1 := ⟨tb_mem 882 rfl rfl, fv_LS_trace.1, fv_LS_trace.2.1, fv_LS_trace.2.2.1, fv_LS_trace.2.2.2, ⟨by decide, by decide, by decide +kernel⟩, by decide⟩
set_option maxRecDepth 20000 in
theorem lk_Law_196 : LkV "LateSeekersLaw" 196 mt_LS_many 1 := ⟨tb_mem 886 rfl rfl, fv_LS_many.1, fv_LS_many.2.1, fv_LS_many.2.2.1, fv_LS_many.2.2.2, ⟨by decide, by decide, by decide +kernel⟩, by decide⟩
set_option maxRecDepth 20000 in
theorem lk_LS_325 : LkV "LateSeekers" 325 mt_Pk_peopleInCompany 0 := ⟨tb_mem 890 rfl rfl, fv_Pk_peopleInCompany.1, fv_Pk_peopleInCompany.2.1, fv_Pk_peopleInCompany.2.2.1, fv_Pk_peopleInCompany.2.2.2, ⟨by decide, by decide, by decide +kernel⟩, by decide⟩
set_option maxRecDepth 20000 in
theorem lk_Pk_75 : LkV "LateSeekers$Park" 75 mt_Pk_peopleAt 1 := ⟨tb_mem 894 rfl rfl, fv_Pk_peopleAt.1, fv_Pk_peopleAt.2.1, fv_Pk_peopleAt.2.2.1, fv_Pk_peopleAt.2.2.2, ⟨by decide, by decide, by decide +kernel⟩, by decide⟩
set_option maxRecDepth 20000 in
theorem lk_Law_200 : LkV "LateSeekersLaw" 200 mt_LS_keep 0 := ⟨tb_mem 895 rfl rfl, fv_LS_keep.1, fv_LS_keep.2.1, fv_LS_keep.2.2.1, fv_LS_keep.2.2.2, ⟨by decide, by decide, by decide +kernel⟩, by decide⟩
set_option maxRecDepth 20000 in
theorem lk_Law_204 : LkV "LateSeekersLaw" 204 mt_LS_again 0 := ⟨tb_mem 899 rfl rfl, fv_LS_again.1, fv_LS_again.2.1, fv_LS_again.2.2.1, fv_LS_again.2.2.2, ⟨by decide, by decide, by decide +kernel⟩, by decide⟩
set_option maxRecDepth 20000 in
theorem lk_Md_52 : LkV "LateSeekersModel" 52 mt_Md_begins 0 := ⟨tb_mem 909 rfl rfl, fv_Md_begins.1, fv_Md_begins.2.1, fv_Md_begins.2.2.1, fv_Md_begins.2.2.2, ⟨by decide, by decide, by decide +kernel⟩, by decide⟩
set_option maxRecDepth 20000 in
theorem lk_Law_19 : LkV "LateSeekersLaw" 19 mt_Md_feed 2 := ⟨tb_mem 995 rfl rfl, fv_Md_feed.1, fv_Md_feed.2.1, fv_Md_feed.2.2.1, fv_Md_feed.2.2.2, ⟨by decide, by decide, by decide +kernel⟩, by decide⟩
set_option maxRecDepth 20000 in
theorem lk_Md_57 : LkS "LateSeekersModel" 57 mt_Md_isIn 3 := ⟨tb_mem 1000 rfl rfl, fs_Md_isIn.1, fs_Md_isIn.2.1, fs_Md_isIn.2.2, ⟨by decide, by decide, by decide +kernel⟩, by decide⟩
set_option maxRecDepth 20000 in
theorem lk_Law_24 : LkV "LateSeekersLaw" 24 mt_Md_park 0 := ⟨tb_mem 1004 rfl rfl, fv_Md_park.1, fv_Md_park.2.1, fv_Md_park.2.2.1, fv_Md_park.2.2.2, ⟨by decide, by decide, by decide +kernel⟩, by decide⟩
set_option maxRecDepth 20000 in
theorem lk_Md_141 : LkS "LateSeekersModel" 141 mt_Md_copyRow 2 := ⟨tb_mem 1008 rfl rfl, fs_Md_copyRow.1, fs_Md_copyRow.2.1, fs_Md_copyRow.2.2, ⟨by decide, by decide, by decide +kernel⟩, by decide⟩
set_option maxRecDepth 20000 in
theorem lk_Md_94 : LkV "LateSeekersModel" 94 mt_Md_nextToken 0 := ⟨tb_mem 1011 rfl rfl, fv_Md_nextToken.1, fv_Md_nextToken.2.1, fv_Md_nextToken.2.2.1, fv_Md_nextToken.2.2.2, ⟨by decide, by decide, by decide +kernel⟩, by decide⟩
set_option maxRecDepth 20000 in
theorem lk_Md_73 : LkV "LateSeekersModel" 73 mt_Md_byteAt 1 := ⟨tb_mem 1015 rfl rfl, fv_Md_byteAt.1, fv_Md_byteAt.2.1, fv_Md_byteAt.2.2.1, fv_Md_byteAt.2.2.2, ⟨by decide, by decide, by decide +kernel⟩, by decide⟩
set_option maxRecDepth 20000 in
theorem lk_Md_77 : LkS "LateSeekersModel" 77 mt_Md_isAlpha 1 := ⟨tb_mem 1019 rfl rfl, fs_Md_isAlpha.1, fs_Md_isAlpha.2.1, fs_Md_isAlpha.2.2, ⟨by decide, by decide, by decide +kernel⟩, by decide⟩
set_option maxRecDepth 20000 in
theorem lk_Md_81 : LkS "LateSeekersModel" 81 mt_Md_isDigit 1 := ⟨tb_mem 1022 rfl rfl, fs_Md_isDigit.1, fs_Md_isDigit.2.1, fs_Md_isDigit.2.2, ⟨by decide, by decide, by decide +kernel⟩, by decide⟩
set_option maxRecDepth 20000 in
theorem lk_Md_145 : LkV "LateSeekersModel" 145 mt_Md_itemHere 0 := ⟨tb_mem 1025 rfl rfl, fv_Md_itemHere.1, fv_Md_itemHere.2.1, fv_Md_itemHere.2.2.1, fv_Md_itemHere.2.2.2, ⟨by decide, by decide, by decide +kernel⟩, by decide⟩
set_option maxRecDepth 20000 in
theorem lk_Md_127 : LkV "LateSeekersModel" 127 mt_Md_kindHere 0 := ⟨tb_mem 1029 rfl rfl, fv_Md_kindHere.1, fv_Md_kindHere.2.1, fv_Md_kindHere.2.2.1, fv_Md_kindHere.2.2.2, ⟨by decide, by decide, by decide +kernel⟩, by decide⟩
set_option maxRecDepth 20000 in
theorem lk_Md_101 : LkV "LateSeekersModel" 101 mt_Md_isFive 5 := ⟨tb_mem 1033 rfl rfl, fv_Md_isFive.1, fv_Md_isFive.2.1, fv_Md_isFive.2.2.1, fv_Md_isFive.2.2.2, ⟨by decide, by decide, by decide +kernel⟩, by decide⟩
set_option maxRecDepth 20000 in
theorem lk_Md_97 : LkV "LateSeekersModel" 97 mt_Md_isName 5 := ⟨tb_mem 1037 rfl rfl, fv_Md_isName.1, fv_Md_isName.2.1, fv_Md_isName.2.2.1, fv_Md_isName.2.2.2, ⟨by decide, by decide, by decide +kernel⟩, by decide⟩
set_option maxRecDepth 20000 in
theorem lk_Md_104 : LkV "LateSeekersModel" 104 mt_Md_isSame 4 := ⟨tb_mem 1041 rfl rfl, fv_Md_isSame.1, fv_Md_isSame.2.1, fv_Md_isSame.2.2.1, fv_Md_isSame.2.2.2, ⟨by decide, by decide, by decide +kernel⟩, by decide⟩
set_option maxRecDepth 20000 in
theorem lk_Md_108 : LkV "LateSeekersModel" 108 mt_Md_isFour 4 := ⟨tb_mem 1045 rfl rfl, fv_Md_isFour.1, fv_Md_isFour.2.1, fv_Md_isFour.2.2.1, fv_Md_isFour.2.2.2, ⟨by decide, by decide, by decide +kernel⟩, by decide⟩
set_option maxRecDepth 20000 in
theorem lk_Md_131 : LkV "LateSeekersModel" 131 mt_Md_lawHere 0 := ⟨tb_mem 1049 rfl rfl, fv_Md_lawHere.1, fv_Md_lawHere.2.1, fv_Md_lawHere.2.2.1, fv_Md_lawHere.2.2.2, ⟨by decide, by decide, by decide +kernel⟩, by decide⟩
set_option maxRecDepth 20000 in
theorem lk_Md_134 : LkV "LateSeekersModel" 134 mt_Md_personHere 1 := ⟨tb_mem 1053 rfl rfl, fv_Md_personHere.1, fv_Md_personHere.2.1, fv_Md_personHere.2.2.1, fv_Md_personHere.2.2.2, ⟨by decide, by decide, by decide +kernel⟩, by decide⟩
set_option maxRecDepth 20000 in
theorem lk_Md_111 : LkV "LateSeekersModel" 111 mt_Md_needs 1 := ⟨tb_mem 1057 rfl rfl, fv_Md_needs.1, fv_Md_needs.2.1, fv_Md_needs.2.2.1, fv_Md_needs.2.2.2, ⟨by decide, by decide, by decide +kernel⟩, by decide⟩
set_option maxRecDepth 20000 in
theorem lk_Md_119 : LkV "LateSeekersModel" 119 mt_Md_isTwo 2 := ⟨tb_mem 1061 rfl rfl, fv_Md_isTwo.1, fv_Md_isTwo.2.1, fv_Md_isTwo.2.2.1, fv_Md_isTwo.2.2.2, ⟨by decide, by decide, by decide +kernel⟩, by decide⟩
set_option maxRecDepth 20000 in
theorem lk_Md_115 : LkV "LateSeekersModel" 115 mt_Md_numberTo 2 := ⟨tb_mem 1065 rfl rfl, fv_Md_numberTo.1, fv_Md_numberTo.2.1, fv_Md_numberTo.2.2.1, fv_Md_numberTo.2.2.2, ⟨by decide, by decide, by decide +kernel⟩, by decide⟩
set_option maxRecDepth 20000 in
theorem lk_Md_123 : LkV "LateSeekersModel" 123 mt_Md_perhaps 3 := ⟨tb_mem 1069 rfl rfl, fv_Md_perhaps.1, fv_Md_perhaps.2.1, fv_Md_perhaps.2.2.1, fv_Md_perhaps.2.2.2, ⟨by decide, by decide, by decide +kernel⟩, by decide⟩
set_option maxRecDepth 20000 in
theorem lk_Md_138 : LkV "LateSeekersModel" 138 mt_Md_coverHere 0 := ⟨tb_mem 1073 rfl rfl, fv_Md_coverHere.1, fv_Md_coverHere.2.1, fv_Md_coverHere.2.2.1, fv_Md_coverHere.2.2.2, ⟨by decide, by decide, by decide +kernel⟩, by decide⟩
set_option maxRecDepth 20000 in
theorem lk_Law_29 : LkV "LateSeekersLaw" 29 mt_Md_set 2 := ⟨tb_mem 1077 rfl rfl, fv_Md_set.1, fv_Md_set.2.1, fv_Md_set.2.2.1, fv_Md_set.2.2.2, ⟨by decide, by decide, by decide +kernel⟩, by decide⟩
set_option maxRecDepth 20000 in
theorem lk_Md_153 : LkS "LateSeekersModel" 153 mt_Md_mostOf 1 := ⟨tb_mem 1082 rfl rfl, fs_Md_mostOf.1, fs_Md_mostOf.2.1, fs_Md_mostOf.2.2, ⟨by decide, by decide, by decide +kernel⟩, by decide⟩
set_option maxRecDepth 20000 in
theorem lk_Md_156 : LkV "LateSeekersModel" 156 mt_Md_becomes 2 := ⟨tb_mem 1085 rfl rfl, fv_Md_becomes.1, fv_Md_becomes.2.1, fv_Md_becomes.2.2.1, fv_Md_becomes.2.2.2, ⟨by decide, by decide, by decide +kernel⟩, by decide⟩
set_option maxRecDepth 20000 in
theorem lk_Law_34 : LkV "LateSeekersLaw" 34 mt_Md_lawOf 1 := ⟨tb_mem 1089 rfl rfl, fv_Md_lawOf.1, fv_Md_lawOf.2.1, fv_Md_lawOf.2.2.1, fv_Md_lawOf.2.2.2, ⟨by decide, by decide, by decide +kernel⟩, by decide⟩
set_option maxRecDepth 20000 in
theorem lk_Law_39 : LkV "LateSeekersLaw" 39 mt_Md_person 5 := ⟨tb_mem 1093 rfl rfl, fv_Md_person.1, fv_Md_person.2.1, fv_Md_person.2.2.1, fv_Md_person.2.2.2, ⟨by decide, by decide, by decide +kernel⟩, by decide⟩
set_option maxRecDepth 20000 in
theorem lk_Md_166 : LkS "LateSeekersModel" 166 mt_Md_isPlace 1 := ⟨tb_mem 1100 rfl rfl, fs_Md_isPlace.1, fs_Md_isPlace.2.1, fs_Md_isPlace.2.2, ⟨by decide, by decide, by decide +kernel⟩, by decide⟩
set_option maxRecDepth 20000 in
theorem lk_Law_43 : LkV "LateSeekersLaw" 43 mt_Md_of 2 := ⟨tb_mem 1103 rfl rfl, fv_Md_of.1, fv_Md_of.2.1, fv_Md_of.2.2.1, fv_Md_of.2.2.2, ⟨by decide, by decide, by decide +kernel⟩, by decide⟩
set_option maxRecDepth 20000 in
theorem lk_Md_172 : LkV "LateSeekersModel" 172 mt_Md_isOne 1 := ⟨tb_mem 1107 rfl rfl, fv_Md_isOne.1, fv_Md_isOne.2.1, fv_Md_isOne.2.2.1, fv_Md_isOne.2.2.2, ⟨by decide, by decide, by decide +kernel⟩, by decide⟩
set_option maxRecDepth 20000 in
theorem lk_Md_169 : LkV "LateSeekersModel" 169 mt_Md_its 2 := ⟨tb_mem 1111 rfl rfl, fv_Md_its.1, fv_Md_its.2.1, fv_Md_its.2.2.1, fv_Md_its.2.2.2, ⟨by decide, by decide, by decide +kernel⟩, by decide⟩
set_option maxRecDepth 20000 in
theorem lk_Law_47 : LkV "LateSeekersLaw" 47 mt_Md_does 2 := ⟨tb_mem 1115 rfl rfl, fv_Md_does.1, fv_Md_does.2.1, fv_Md_does.2.2.1, fv_Md_does.2.2.2, ⟨by decide, by decide, by decide +kernel⟩, by decide⟩
set_option maxRecDepth 20000 in
theorem lk_Md_177 : LkV "LateSeekersModel" 177 mt_Md_hides 1 := ⟨tb_mem 1120 rfl rfl, fv_Md_hides.1, fv_Md_hides.2.1, fv_Md_hides.2.2.1, fv_Md_hides.2.2.2, ⟨by decide, by decide, by decide +kernel⟩, by decide⟩
set_option maxRecDepth 20000 in
theorem lk_Md_180 : LkV "LateSeekersModel" 180 mt_Md_sees 1 := ⟨tb_mem 1124 rfl rfl, fv_Md_sees.1, fv_Md_sees.2.1, fv_Md_sees.2.2.1, fv_Md_sees.2.2.2, ⟨by decide, by decide, by decide +kernel⟩, by decide⟩
set_option maxRecDepth 20000 in
theorem lk_Md_183 : LkV "LateSeekersModel" 183 mt_Md_strides 1 := ⟨tb_mem 1128 rfl rfl, fv_Md_strides.1, fv_Md_strides.2.1, fv_Md_strides.2.2.1, fv_Md_strides.2.2.2, ⟨by decide, by decide, by decide +kernel⟩, by decide⟩
set_option maxRecDepth 20000 in
theorem lk_Law_52 : LkV "LateSeekersLaw" 52 mt_Md_mind 3 := ⟨tb_mem 1132 rfl rfl, fv_Md_mind.1, fv_Md_mind.2.1, fv_Md_mind.2.2.1, fv_Md_mind.2.2.2, ⟨by decide, by decide, by decide +kernel⟩, by decide⟩
set_option maxRecDepth 20000 in
theorem lk_Law_56 : LkV "LateSeekersLaw" 56 mt_Md_age 2 := ⟨tb_mem 1136 rfl rfl, fv_Md_age.1, fv_Md_age.2.1, fv_Md_age.2.2.1, fv_Md_age.2.2.2, ⟨by decide, by decide, by decide +kernel⟩, by decide⟩
set_option maxRecDepth 20000 in
theorem lk_Law_60 : LkV "LateSeekersLaw" 60 mt_Md_bring 2 := ⟨tb_mem 1140 rfl rfl, fv_Md_bring.1, fv_Md_bring.2.1, fv_Md_bring.2.2.1, fv_Md_bring.2.2.2, ⟨by decide, by decide, by decide +kernel⟩, by decide⟩
set_option maxRecDepth 20000 in
theorem lk_Law_64 : LkV "LateSeekersLaw" 64 mt_Md_seek 2 := ⟨tb_mem 1144 rfl rfl, fv_Md_seek.1, fv_Md_seek.2.1, fv_Md_seek.2.2.1, fv_Md_seek.2.2.2, ⟨by decide, by decide, by decide +kernel⟩, by decide⟩
set_option maxRecDepth 20000 in
theorem lk_Law_68 : LkV "LateSeekersLaw" 68 mt_Md_place 2 := ⟨tb_mem 1148 rfl rfl, fv_Md_place.1, fv_Md_place.2.1, fv_Md_place.2.2.1, fv_Md_place.2.2.2, ⟨by decide, by decide, by decide +kernel⟩, by decide⟩
set_option maxRecDepth 20000 in
theorem lk_Md_186 : LkV "LateSeekersModel" 186 mt_Md_thoseAt 1 := ⟨tb_mem 1152 rfl rfl, fv_Md_thoseAt.1, fv_Md_thoseAt.2.1, fv_Md_thoseAt.2.2.1, fv_Md_thoseAt.2.2.2, ⟨by decide, by decide, by decide +kernel⟩, by decide⟩
set_option maxRecDepth 20000 in
theorem lk_Md_189 : LkV "LateSeekersModel" 189 mt_Md_hiddenOnes 0 := ⟨tb_mem 1156 rfl rfl, fv_Md_hiddenOnes.1, fv_Md_hiddenOnes.2.1, fv_Md_hiddenOnes.2.2.1, fv_Md_hiddenOnes.2.2.2, ⟨by decide, by decide, by decide +kernel⟩, by decide⟩
set_option maxRecDepth 20000 in
theorem lk_Md_192 : LkS "LateSeekersModel" 192 mt_Md_size 1 := ⟨tb_mem 1160 rfl rfl, fs_Md_size.1, fs_Md_size.2.1, fs_Md_size.2.2, ⟨by decide, by decide, by decide +kernel⟩, by decide⟩
set_option maxRecDepth 20000 in
theorem lk_Law_72 : LkV "LateSeekersLaw" 72 mt_Md_cover 2 := ⟨tb_mem 1163 rfl rfl, fv_Md_cover.1, fv_Md_cover.2.1, fv_Md_cover.2.2.1, fv_Md_cover.2.2.2, ⟨by decide, by decide, by decide +kernel⟩, by decide⟩
set_option maxRecDepth 20000 in
theorem lk_Law_76 : LkV "LateSeekersLaw" 76 mt_Md_years 1 := ⟨tb_mem 1167 rfl rfl, fv_Md_years.1, fv_Md_years.2.1, fv_Md_years.2.2.1, fv_Md_years.2.2.2, ⟨by decide, by decide, by decide +kernel⟩, by decide⟩
set_option maxRecDepth 20000 in
theorem lk_Md_207 : LkV "LateSeekersModel" 207 mt_Md_goes 1 := ⟨tb_mem 1172 rfl rfl, fv_Md_goes.1, fv_Md_goes.2.1, fv_Md_goes.2.2.1, fv_Md_goes.2.2.2, ⟨by decide, by decide, by decide +kernel⟩, by decide⟩
set_option maxRecDepth 20000 in
theorem lk_Md_202 : LkV "LateSeekersModel" 202 mt_Md_goesBy 1 := ⟨tb_mem 1176 rfl rfl, fv_Md_goesBy.1, fv_Md_goesBy.2.1, fv_Md_goesBy.2.2.1, fv_Md_goesBy.2.2.2, ⟨by decide, by decide, by decide +kernel⟩, by decide⟩
set_option maxRecDepth 20000 in
theorem lk_Md_195 : LkS "LateSeekersModel" 195 mt_Md_least 2 := ⟨tb_mem 1180 rfl rfl, fs_Md_least.1, fs_Md_least.2.1, fs_Md_least.2.2, ⟨by decide, by decide, by decide +kernel⟩, by decide⟩
set_option maxRecDepth 20000 in
theorem lk_Md_198 : LkV "LateSeekersModel" 198 mt_Md_seeks 2 := ⟨tb_mem 1183 rfl rfl, fv_Md_seeks.1, fv_Md_seeks.2.1, fv_Md_seeks.2.2.1, fv_Md_seeks.2.2.2, ⟨by decide, by decide, by decide +kernel⟩, by decide⟩
set_option maxRecDepth 20000 in
theorem lk_Law_80 : LkV "LateSeekersLaw" 80 mt_Md_seed 1 := ⟨tb_mem 1187 rfl rfl, fv_Md_seed.1, fv_Md_seed.2.1, fv_Md_seed.2.2.1, fv_Md_seed.2.2.2, ⟨by decide, by decide, by decide +kernel⟩, by decide⟩
set_option maxRecDepth 20000 in
theorem lk_Law_84 : LkV "LateSeekersLaw" 84 mt_Md_year 0 := ⟨tb_mem 1191 rfl rfl, fv_Md_year.1, fv_Md_year.2.1, fv_Md_year.2.2.1, fv_Md_year.2.2.2, ⟨by decide, by decide, by decide +kernel⟩, by decide⟩
set_option maxRecDepth 20000 in
theorem lk_Md_211 : LkV "LateSeekersModel" 211 mt_Md_drawn 0 := ⟨tb_mem 1195 rfl rfl, fv_Md_drawn.1, fv_Md_drawn.2.1, fv_Md_drawn.2.2.1, fv_Md_drawn.2.2.2, ⟨by decide, by decide, by decide +kernel⟩, by decide⟩
set_option maxRecDepth 20000 in
theorem lk_Law_88 : LkV "LateSeekersLaw" 88 mt_Md_nights 1 := ⟨tb_mem 1200 rfl rfl, fv_Md_nights.1, fv_Md_nights.2.1, fv_Md_nights.2.2.1, fv_Md_nights.2.2.2, ⟨by decide, by decide, by decide +kernel⟩, by decide⟩
set_option maxRecDepth 20000 in
theorem lk_Md_216 : LkV "LateSeekersModel" 216 mt_Md_year 0 := ⟨tb_mem 1205 rfl rfl, fv_Md_year.1, fv_Md_year.2.1, fv_Md_year.2.2.1, fv_Md_year.2.2.2, ⟨by decide, by decide, by decide +kernel⟩, by decide⟩
set_option maxRecDepth 20000 in
theorem lk_Law_92 : LkV "LateSeekersLaw" 92 mt_Md_state 1 := ⟨tb_mem 1206 rfl rfl, fv_Md_state.1, fv_Md_state.2.1, fv_Md_state.2.2.1, fv_Md_state.2.2.2, ⟨by decide, by decide, by decide +kernel⟩, by decide⟩
set_option maxRecDepth 20000 in
theorem lk_Md_219 : LkV "LateSeekersModel" 219 mt_Md_sumOf 1 := ⟨tb_mem 1210 rfl rfl, fv_Md_sumOf.1, fv_Md_sumOf.2.1, fv_Md_sumOf.2.2.1, fv_Md_sumOf.2.2.2, ⟨by decide, by decide, by decide +kernel⟩, by decide⟩
set_option maxRecDepth 20000 in
theorem lk_Md_222 : LkV "LateSeekersModel" 222 mt_Md_hidingPlaces 0 := ⟨tb_mem 1214 rfl rfl, fv_Md_hidingPlaces.1, fv_Md_hidingPlaces.2.1, fv_Md_hidingPlaces.2.2.1, fv_Md_hidingPlaces.2.2.2, ⟨by decide, by decide, by decide +kernel⟩, by decide⟩
set_option maxRecDepth 20000 in
theorem lk_Md_225 : LkV "LateSeekersModel" 225 mt_Md_coverOfAll 0 := ⟨tb_mem 1218 rfl rfl, fv_Md_coverOfAll.1, fv_Md_coverOfAll.2.1, fv_Md_coverOfAll.2.2.1, fv_Md_coverOfAll.2.2.2, ⟨by decide, by decide, by decide +kernel⟩, by decide⟩
set_option maxRecDepth 20000 in
theorem lk_Law_96 : LkV "LateSeekersLaw" 96 mt_Md_where 2 := ⟨tb_mem 1222 rfl rfl, fv_Md_where.1, fv_Md_where.2.1, fv_Md_where.2.2.1, fv_Md_where.2.2.2, ⟨by decide, by decide, by decide +kernel⟩, by decide⟩
set_option maxRecDepth 20000 in
theorem lk_Law_100 : LkV "LateSeekersLaw" 100 mt_Md_shown 1 := ⟨tb_mem 1226 rfl rfl, fv_Md_shown.1, fv_Md_shown.2.1, fv_Md_shown.2.2.1, fv_Md_shown.2.2.2, ⟨by decide, by decide, by decide +kernel⟩, by decide⟩
set_option maxRecDepth 20000 in
theorem lk_Md_228 : LkV "LateSeekersModel" 228 mt_Md_shownBy 2 := ⟨tb_mem 1230 rfl rfl, fv_Md_shownBy.1, fv_Md_shownBy.2.1, fv_Md_shownBy.2.2.1, fv_Md_shownBy.2.2.2, ⟨by decide, by decide, by decide +kernel⟩, by decide⟩
set_option maxRecDepth 20000 in
theorem lk_Law_104 : LkV "LateSeekersLaw" 104 mt_Md_all 0 := ⟨tb_mem 1234 rfl rfl, fv_Md_all.1, fv_Md_all.2.1, fv_Md_all.2.2.1, fv_Md_all.2.2.2, ⟨by decide, by decide, by decide +kernel⟩, by decide⟩
set_option maxRecDepth 20000 in
theorem lk_Law_108 : LkV "LateSeekersLaw" 108 mt_Md_finder 1 := ⟨tb_mem 1238 rfl rfl, fv_Md_finder.1, fv_Md_finder.2.1, fv_Md_finder.2.2.1, fv_Md_finder.2.2.2, ⟨by decide, by decide, by decide +kernel⟩, by decide⟩
set_option maxRecDepth 20000 in
theorem lk_Law_112 : LkV "LateSeekersLaw" 112 mt_Md_safeFor 1 := ⟨tb_mem 1242 rfl rfl, fv_Md_safeFor.1, fv_Md_safeFor.2.1, fv_Md_safeFor.2.2.1, fv_Md_safeFor.2.2.2, ⟨by decide, by decide, by decide +kernel⟩, by decide⟩
set_option maxRecDepth 20000 in
theorem lk_Law_116 : LkV "LateSeekersLaw" 116 mt_Md_kindFor 1 := ⟨tb_mem 1246 rfl rfl, fv_Md_kindFor.1, fv_Md_kindFor.2.1, fv_Md_kindFor.2.2.1, fv_Md_kindFor.2.2.2, ⟨by decide, by decide, by decide +kernel⟩, by decide⟩
set_option maxRecDepth 20000 in
theorem lk_Law_120 : LkV "LateSeekersLaw" 120 mt_Md_witFor 2 := ⟨tb_mem 1250 rfl rfl, fv_Md_witFor.1, fv_Md_witFor.2.1, fv_Md_witFor.2.2.1, fv_Md_witFor.2.2.2, ⟨by decide, by decide, by decide +kernel⟩, by decide⟩
set_option maxRecDepth 20000 in
theorem lk_Md_233 : LkS "LateSeekersModel" 233 mt_Md_isShort 1 := ⟨tb_mem 1254 rfl rfl, fs_Md_isShort.1, fs_Md_isShort.2.1, fs_Md_isShort.2.2, ⟨by decide, by decide, by decide +kernel⟩, by decide⟩
set_option maxRecDepth 20000 in
theorem lk_Md_236 : LkV "LateSeekersModel" 236 mt_Md_isHiddenBy 3 := ⟨tb_mem 1258 rfl rfl, fv_Md_isHiddenBy.1, fv_Md_isHiddenBy.2.1, fv_Md_isHiddenBy.2.2.1, fv_Md_isHiddenBy.2.2.2, ⟨by decide, by decide, by decide +kernel⟩, by decide⟩
set_option maxRecDepth 20000 in
theorem lk_Law_124 : LkV "LateSeekersLaw" 124 mt_Md_needed 1 := ⟨tb_mem 1262 rfl rfl, fv_Md_needed.1, fv_Md_needed.2.1, fv_Md_needed.2.2.1, fv_Md_needed.2.2.2, ⟨by decide, by decide, by decide +kernel⟩, by decide⟩
set_option maxRecDepth 20000 in
theorem lk_Law_128 : LkV "LateSeekersLaw" 128 mt_Md_fewest 2 := ⟨tb_mem 1266 rfl rfl, fv_Md_fewest.1, fv_Md_fewest.2.1, fv_Md_fewest.2.2.1, fv_Md_fewest.2.2.2, ⟨by decide, by decide, by decide +kernel⟩, by decide⟩
set_option maxRecDepth 20000 in
theorem lk_Law_132 : LkV "LateSeekersLaw" 132 mt_Md_round 1 := ⟨tb_mem 1270 rfl rfl, fv_Md_round.1, fv_Md_round.2.1, fv_Md_round.2.2.1, fv_Md_round.2.2.2, ⟨by decide, by decide, by decide +kernel⟩, by decide⟩
set_option maxRecDepth 20000 in
theorem lk_Law_136 : LkV "LateSeekersLaw" 136 mt_Md_fits 3 := ⟨tb_mem 1274 rfl rfl, fv_Md_fits.1, fv_Md_fits.2.1, fv_Md_fits.2.2.1, fv_Md_fits.2.2.2, ⟨by decide, by decide, by decide +kernel⟩, by decide⟩
set_option maxRecDepth 20000 in
theorem lk_Md_240 : LkS "LateSeekersModel" 240 mt_Md_isSheet 1 := ⟨tb_mem 1278 rfl rfl, fs_Md_isSheet.1, fs_Md_isSheet.2.1, fs_Md_isSheet.2.2, ⟨by decide, by decide, by decide +kernel⟩, by decide⟩
set_option maxRecDepth 20000 in
theorem lk_Md_243 : LkV "LateSeekersModel" 243 mt_Md_isTold 2 := ⟨tb_mem 1281 rfl rfl, fv_Md_isTold.1, fv_Md_isTold.2.1, fv_Md_isTold.2.2.1, fv_Md_isTold.2.2.2, ⟨by decide, by decide, by decide +kernel⟩, by decide⟩
set_option maxRecDepth 20000 in
theorem lk_Law_141 : LkV "LateSeekersLaw" 141 mt_Md_odds 3 := ⟨tb_mem 1285 rfl rfl, fv_Md_odds.1, fv_Md_odds.2.1, fv_Md_odds.2.2.1, fv_Md_odds.2.2.2, ⟨by decide, by decide, by decide +kernel⟩, by decide⟩
set_option maxRecDepth 20000 in
theorem lk_Md_248 : LkS "LateSeekersModel" 248 mt_Md_product 1 := ⟨tb_mem 1290 rfl rfl, fs_Md_product.1, fs_Md_product.2.1, fs_Md_product.2.2, ⟨by decide, by decide, by decide +kernel⟩, by decide⟩
set_option maxRecDepth 20000 in
theorem lk_Md_254 : LkS "LateSeekersModel" 254 mt_Md_partOf 3 := ⟨tb_mem 1294 rfl rfl, fs_Md_partOf.1, fs_Md_partOf.2.1, fs_Md_partOf.2.2, ⟨by decide, by decide, by decide +kernel⟩, by decide⟩
set_option maxRecDepth 20000 in
theorem lk_Law_146 : LkV "LateSeekersLaw" 146 mt_Md_hope 2 := ⟨tb_mem 1297 rfl rfl, fv_Md_hope.1, fv_Md_hope.2.1, fv_Md_hope.2.2.1, fv_Md_hope.2.2.2, ⟨by decide, by decide, by decide +kernel⟩, by decide⟩
set_option maxRecDepth 20000 in
theorem lk_Law_150 : LkV "LateSeekersLaw" 150 mt_Md_prove 2 := ⟨tb_mem 1301 rfl rfl, fv_Md_prove.1, fv_Md_prove.2.1, fv_Md_prove.2.2.1, fv_Md_prove.2.2.2, ⟨by decide, by decide, by decide +kernel⟩, by decide⟩
set_option maxRecDepth 20000 in
theorem lk_Law_154 : LkV "LateSeekersLaw" 154 mt_Md_row 2 := ⟨tb_mem 1306 rfl rfl, fv_Md_row.1, fv_Md_row.2.1, fv_Md_row.2.2.1, fv_Md_row.2.2.2, ⟨by decide, by decide, by decide +kernel⟩, by decide⟩
set_option maxRecDepth 20000 in
theorem lk_Md_260 : LkV "LateSeekersModel" 260 mt_Md_isRow 2 := ⟨tb_mem 1310 rfl rfl, fv_Md_isRow.1, fv_Md_isRow.2.1, fv_Md_isRow.2.2.1, fv_Md_isRow.2.2.2, ⟨by decide, by decide, by decide +kernel⟩, by decide⟩
set_option maxRecDepth 20000 in
theorem lk_Law_158 : LkV "LateSeekersLaw" 158 mt_Md_alterRow 3 := ⟨tb_mem 1314 rfl rfl, fv_Md_alterRow.1, fv_Md_alterRow.2.1, fv_Md_alterRow.2.2.1, fv_Md_alterRow.2.2.2, ⟨by decide, by decide, by decide +kernel⟩, by decide⟩
set_option maxRecDepth 20000 in
theorem lk_Law_162 : LkV "LateSeekersLaw" 162 mt_Md_judge 1 := ⟨tb_mem 1318 rfl rfl, fv_Md_judge.1, fv_Md_judge.2.1, fv_Md_judge.2.2.1, fv_Md_judge.2.2.2, ⟨by decide, by decide, by decide +kernel⟩, by decide⟩
set_option maxRecDepth 20000 in
theorem lk_Law_171 : LkV "LateSeekersLaw" 171 mt_Md_sheet 3 := ⟨tb_mem 1322 rfl rfl, fv_Md_sheet.1, fv_Md_sheet.2.1, fv_Md_sheet.2.2.1, fv_Md_sheet.2.2.2, ⟨by decide, by decide, by decide +kernel⟩, by decide⟩
set_option maxRecDepth 20000 in
theorem lk_Law_175 : LkV "LateSeekersLaw" 175 mt_Md_put 3 := ⟨tb_mem 1326 rfl rfl, fv_Md_put.1, fv_Md_put.2.1, fv_Md_put.2.2.1, fv_Md_put.2.2.2, ⟨by decide, by decide, by decide +kernel⟩, by decide⟩
set_option maxRecDepth 20000 in
theorem lk_Law_179 : LkV "LateSeekersLaw" 179 mt_Md_item 3 := ⟨tb_mem 1330 rfl rfl, fv_Md_item.1, fv_Md_item.2.1, fv_Md_item.2.2.1, fv_Md_item.2.2.2, ⟨by decide, by decide, by decide +kernel⟩, by decide⟩
set_option maxRecDepth 20000 in
theorem lk_Md_263 : LkV "LateSeekersModel" 263 mt_Md_lacks 2 := ⟨tb_mem 1334 rfl rfl, fv_Md_lacks.1, fv_Md_lacks.2.1, fv_Md_lacks.2.2.1, fv_Md_lacks.2.2.2, ⟨by decide, by decide, by decide +kernel⟩, by decide⟩
set_option maxRecDepth 20000 in
theorem lk_Law_167 : LkV "LateSeekersLaw" 167 mt_Md_minds 4 := ⟨tb_mem 1338 rfl rfl, fv_Md_minds.1, fv_Md_minds.2.1, fv_Md_minds.2.2.1, fv_Md_minds.2.2.2, ⟨by decide, by decide, by decide +kernel⟩, by decide⟩
set_option maxRecDepth 20000 in
theorem lk_Md_266 : LkS "LateSeekersModel" 266 mt_Md_within 1 := ⟨tb_mem 1342 rfl rfl, fs_Md_within.1, fs_Md_within.2.1, fs_Md_within.2.2, ⟨by decide, by decide, by decide +kernel⟩, by decide⟩
set_option maxRecDepth 20000 in
theorem lk_Law_183 : LkV "LateSeekersLaw" 183 mt_Md_shelf 3 := ⟨tb_mem 1345 rfl rfl, fv_Md_shelf.1, fv_Md_shelf.2.1, fv_Md_shelf.2.2.1, fv_Md_shelf.2.2.2, ⟨by decide, by decide, by decide +kernel⟩, by decide⟩
set_option maxRecDepth 20000 in
theorem lk_Md_269 : LkS "LateSeekersModel" 269 mt_Md_isShelf 1 := ⟨tb_mem 1349 rfl rfl, fs_Md_isShelf.1, fs_Md_isShelf.2.1, fs_Md_isShelf.2.2, ⟨by decide, by decide, by decide +kernel⟩, by decide⟩
set_option maxRecDepth 20000 in
theorem lk_Law_187 : LkV "LateSeekersLaw" 187 mt_Md_taken 2 := ⟨tb_mem 1352 rfl rfl, fv_Md_taken.1, fv_Md_taken.2.1, fv_Md_taken.2.2.1, fv_Md_taken.2.2.2, ⟨by decide, by decide, by decide +kernel⟩, by decide⟩
set_option maxRecDepth 20000 in
theorem lk_Md_276 : LkV "LateSeekersModel" 276 mt_Md_heldOn 1 := ⟨tb_mem 1358 rfl rfl, fv_Md_heldOn.1, fv_Md_heldOn.2.1, fv_Md_heldOn.2.2.1, fv_Md_heldOn.2.2.2, ⟨by decide, by decide, by decide +kernel⟩, by decide⟩
set_option maxRecDepth 20000 in
theorem lk_Md_279 : LkS "LateSeekersModel" 279 mt_Md_isUnder 2 := ⟨tb_mem 1362 rfl rfl, fs_Md_isUnder.1, fs_Md_isUnder.2.1, fs_Md_isUnder.2.2, ⟨by decide, by decide, by decide +kernel⟩, by decide⟩
set_option maxRecDepth 20000 in
theorem lk_Law_191 : LkV "LateSeekersLaw" 191 mt_Md_act 3 := ⟨tb_mem 1365 rfl rfl, fv_Md_act.1, fv_Md_act.2.1, fv_Md_act.2.2.1, fv_Md_act.2.2.2, ⟨by decide, by decide, by decide +kernel⟩, by decide⟩
set_option maxRecDepth 20000 in
theorem lk_Md_300 : LkV "LateSeekersModel" 300 mt_Md_counts 1 := ⟨tb_mem 1369 rfl rfl, fv_Md_counts.1, fv_Md_counts.2.1, fv_Md_counts.2.2.1, fv_Md_counts.2.2.2, ⟨by decide, by decide, by decide +kernel⟩, by decide⟩
set_option maxRecDepth 20000 in
theorem lk_Md_297 : LkV "LateSeekersModel" 297 mt_Md_countsOfKeeper 1 := ⟨tb_mem 1373 rfl rfl, fv_Md_countsOfKeeper.1, fv_Md_countsOfKeeper.2.1, fv_Md_countsOfKeeper.2.2.1, fv_Md_countsOfKeeper.2.2.2, ⟨by decide, by decide, by decide +kernel⟩, by decide⟩
set_option maxRecDepth 20000 in
theorem lk_Md_285 : LkV "LateSeekersModel" 285 mt_Md_runs 1 := ⟨tb_mem 1377 rfl rfl, fv_Md_runs.1, fv_Md_runs.2.1, fv_Md_runs.2.2.1, fv_Md_runs.2.2.2, ⟨by decide, by decide, by decide +kernel⟩, by decide⟩
set_option maxRecDepth 20000 in
theorem lk_Md_291 : LkV "LateSeekersModel" 291 mt_Md_countsPlain 1 := ⟨tb_mem 1381 rfl rfl, fv_Md_countsPlain.1, fv_Md_countsPlain.2.1, fv_Md_countsPlain.2.2.1, fv_Md_countsPlain.2.2.2, ⟨by decide, by decide, by decide +kernel⟩, by decide⟩
set_option maxRecDepth 20000 in
theorem lk_Md_315 : LkV "LateSeekersModel" 315 mt_Md_calls 1 := ⟨tb_mem 1385 rfl rfl, fv_Md_calls.1, fv_Md_calls.2.1, fv_Md_calls.2.2.1, fv_Md_calls.2.2.2, ⟨by decide, by decide, by decide +kernel⟩, by decide⟩
set_option maxRecDepth 20000 in
theorem lk_Md_306 : LkV "LateSeekersModel" 306 mt_Md_callsPlain 1 := ⟨tb_mem 1389 rfl rfl, fv_Md_callsPlain.1, fv_Md_callsPlain.2.1, fv_Md_callsPlain.2.2.1, fv_Md_callsPlain.2.2.2, ⟨by decide, by decide, by decide +kernel⟩, by decide⟩
set_option maxRecDepth 20000 in
theorem lk_Md_321 : LkV "LateSeekersModel" 321 mt_Md_parts 1 := ⟨tb_mem 1393 rfl rfl, fv_Md_parts.1, fv_Md_parts.2.1, fv_Md_parts.2.2.1, fv_Md_parts.2.2.2, ⟨by decide, by decide, by decide +kernel⟩, by decide⟩
set_option maxRecDepth 20000 in
theorem lk_Md_312 : LkV "LateSeekersModel" 312 mt_Md_partsPlain 1 := ⟨tb_mem 1397 rfl rfl, fv_Md_partsPlain.1, fv_Md_partsPlain.2.1, fv_Md_partsPlain.2.2.1, fv_Md_partsPlain.2.2.2, ⟨by decide, by decide, by decide +kernel⟩, by decide⟩
set_option maxRecDepth 20000 in
theorem lk_Md_324 : LkV "LateSeekersModel" 324 mt_Md_looks 1 := ⟨tb_mem 1401 rfl rfl, fv_Md_looks.1, fv_Md_looks.2.1, fv_Md_looks.2.2.1, fv_Md_looks.2.2.2, ⟨by decide, by decide, by decide +kernel⟩, by decide⟩
set_option maxRecDepth 20000 in
theorem lk_Md_318 : LkV "LateSeekersModel" 318 mt_Md_looksPlain 1 := ⟨tb_mem 1405 rfl rfl, fv_Md_looksPlain.1, fv_Md_looksPlain.2.1, fv_Md_looksPlain.2.2.1, fv_Md_looksPlain.2.2.2, ⟨by decide, by decide, by decide +kernel⟩, by decide⟩
set_option maxRecDepth 20000 in
theorem lk_Law_195 : LkV "LateSeekersLaw" 195 mt_Md_trace 1 := ⟨tb_mem 1409 rfl rfl, fv_Md_trace.1, fv_Md_trace.2.1, fv_Md_trace.2.2.1, fv_Md_trace.2.2.2, ⟨by decide, by decide, by decide +kernel⟩, by decide⟩
set_option maxRecDepth 20000 in
theorem lk_Law_199 : LkV "LateSeekersLaw" 199 mt_Md_many 1 := ⟨tb_mem 1413 rfl rfl, fv_Md_many.1, fv_Md_many.2.1, fv_Md_many.2.2.1, fv_Md_many.2.2.2, ⟨by decide, by decide, by decide +kernel⟩, by decide⟩
set_option maxRecDepth 20000 in
theorem lk_Md_327 : LkV "LateSeekersModel" 327 mt_Md_crowded 0 := ⟨tb_mem 1417 rfl rfl, fv_Md_crowded.1, fv_Md_crowded.2.1, fv_Md_crowded.2.2.1, fv_Md_crowded.2.2.2, ⟨by decide, by decide, by decide +kernel⟩, by decide⟩
set_option maxRecDepth 20000 in
theorem lk_Law_203 : LkV "LateSeekersLaw" 203 mt_Md_keep 0 := ⟨tb_mem 1421 rfl rfl, fv_Md_keep.1, fv_Md_keep.2.1, fv_Md_keep.2.2.1, fv_Md_keep.2.2.2, ⟨by decide, by decide, by decide +kernel⟩, by decide⟩
set_option maxRecDepth 20000 in
theorem lk_Law_207 : LkV "LateSeekersLaw" 207 mt_Md_again 0 := ⟨tb_mem 1425 rfl rfl, fv_Md_again.1, fv_Md_again.2.1, fv_Md_again.2.2.1, fv_Md_again.2.2.2, ⟨by decide, by decide, by decide +kernel⟩, by decide⟩
set_option maxRecDepth 20000 in
theorem fl_Pk_9 : FL "LateSeekers$Park" 9 1 0 "[I" := ⟨by decide, R_Pk, F_Pk, 12, rfl, by decide, tb_mem 111 rfl rfl, rfl⟩
set_option maxRecDepth 20000 in
theorem fl_Tp_95 : FL "LateSeekers$TapeReader" 95 1 0 "[I" := ⟨by decide, R_Pk, F_Pk, 12, rfl, by decide, tb_mem 112 rfl rfl, rfl⟩
set_option maxRecDepth 20000 in
theorem fl_LS_103 : FL "LateSeekers" 103 1 0 "[I" := ⟨by decide, R_Pk, F_Pk, 12, rfl, by decide, tb_mem 113 rfl rfl, rfl⟩
set_option maxRecDepth 20000 in
theorem fl_Pk_15 : FL "LateSeekers$Park" 15 1 1 "[I" := ⟨by decide, R_Pk, F_Pk, 12, rfl, by decide, tb_mem 114 rfl rfl, rfl⟩
set_option maxRecDepth 20000 in
theorem fl_Tp_102 : FL "LateSeekers$TapeReader" 102 1 1 "[I" := ⟨by decide, R_Pk, F_Pk, 12, rfl, by decide, tb_mem 115 rfl rfl, rfl⟩
set_option maxRecDepth 20000 in
theorem fl_LS_151 : FL "LateSeekers" 151 1 1 "[I" := ⟨by decide, R_Pk, F_Pk, 12, rfl, by decide, tb_mem 116 rfl rfl, rfl⟩
set_option maxRecDepth 20000 in
theorem fl_Pk_18 : FL "LateSeekers$Park" 18 1 2 "[I" := ⟨by decide, R_Pk, F_Pk, 12, rfl, by decide, tb_mem 117 rfl rfl, rfl⟩
set_option maxRecDepth 20000 in
theorem fl_Ac_19 : FL "LateSeekers$Actor" 19 1 2 "[I" := ⟨by decide, R_Pk, F_Pk, 12, rfl, by decide, tb_mem 118 rfl rfl, rfl⟩
set_option maxRecDepth 20000 in
theorem fl_Tr_49 : FL "LateSeekers$Trials" 49 1 2 "[I" := ⟨by decide, R_Pk, F_Pk, 12, rfl, by decide, tb_mem 119 rfl rfl, rfl⟩
set_option maxRecDepth 20000 in
theorem fl_LS_119 : FL "LateSeekers" 119 1 2 "[I" := ⟨by decide, R_Pk, F_Pk, 12, rfl, by decide, tb_mem 120 rfl rfl, rfl⟩
set_option maxRecDepth 20000 in
theorem fl_Pk_21 : FL "LateSeekers$Park" 21 1 3 "[I" := ⟨by decide, R_Pk, F_Pk, 12, rfl, by decide, tb_mem 121 rfl rfl, rfl⟩
set_option maxRecDepth 20000 in
theorem fl_LS_122 : FL "LateSeekers" 122 1 3 "[I" := ⟨by decide, R_Pk, F_Pk, 12, rfl, by decide, tb_mem 122 rfl rfl, rfl⟩
set_option maxRecDepth 20000 in
theorem fl_Pk_24 : FL "LateSeekers$Park" 24 1 4 "[I" := ⟨by decide, R_Pk, F_Pk, 12, rfl, by decide, tb_mem 123 rfl rfl, rfl⟩
set_option maxRecDepth 20000 in
theorem fl_Ac_31 : FL "LateSeekers$Actor" 31 1 4 "[I" := ⟨by decide, R_Pk, F_Pk, 12, rfl, by decide, tb_mem 124 rfl rfl, rfl⟩
set_option maxRecDepth 20000 in
theorem fl_Tr_52 : FL "LateSeekers$Trials" 52 1 4 "[I" := ⟨by decide, R_Pk, F_Pk, 12, rfl, by decide, tb_mem 125 rfl rfl, rfl⟩
set_option maxRecDepth 20000 in
theorem fl_LS_125 : FL "LateSeekers" 125 1 4 "[I" := ⟨by decide, R_Pk, F_Pk, 12, rfl, by decide, tb_mem 126 rfl rfl, rfl⟩
set_option maxRecDepth 20000 in
theorem fl_Pk_27 : FL "LateSeekers$Park" 27 1 5 "[I" := ⟨by decide, R_Pk, F_Pk, 12, rfl, by decide, tb_mem 127 rfl rfl, rfl⟩
set_option maxRecDepth 20000 in
theorem fl_Tr_41 : FL "LateSeekers$Trials" 41 1 5 "[I" := ⟨by decide, R_Pk, F_Pk, 12, rfl, by decide, tb_mem 128 rfl rfl, rfl⟩
set_option maxRecDepth 20000 in
theorem fl_Rw_23 : FL "LateSeekers$Rows" 23 1 5 "[I" := ⟨by decide, R_Pk, F_Pk, 12, rfl, by decide, tb_mem 129 rfl rfl, rfl⟩
set_option maxRecDepth 20000 in
theorem fl_LS_128 : FL "LateSeekers" 128 1 5 "[I" := ⟨by decide, R_Pk, F_Pk, 12, rfl, by decide, tb_mem 130 rfl rfl, rfl⟩
set_option maxRecDepth 20000 in
theorem fl_Pk_30 : FL "LateSeekers$Park" 30 1 6 "[I" := ⟨by decide, R_Pk, F_Pk, 12, rfl, by decide, tb_mem 131 rfl rfl, rfl⟩
set_option maxRecDepth 20000 in
theorem fl_Rw_32 : FL "LateSeekers$Rows" 32 1 6 "[I" := ⟨by decide, R_Pk, F_Pk, 12, rfl, by decide, tb_mem 132 rfl rfl, rfl⟩
set_option maxRecDepth 20000 in
theorem fl_LS_134 : FL "LateSeekers" 134 1 6 "[I" := ⟨by decide, R_Pk, F_Pk, 12, rfl, by decide, tb_mem 133 rfl rfl, rfl⟩
set_option maxRecDepth 20000 in
theorem fl_Pk_33 : FL "LateSeekers$Park" 33 1 7 "[I" := ⟨by decide, R_Pk, F_Pk, 12, rfl, by decide, tb_mem 134 rfl rfl, rfl⟩
set_option maxRecDepth 20000 in
theorem fl_LS_196 : FL "LateSeekers" 196 1 7 "[I" := ⟨by decide, R_Pk, F_Pk, 12, rfl, by decide, tb_mem 135 rfl rfl, rfl⟩
set_option maxRecDepth 20000 in
theorem fl_Pk_46 : FLp "LateSeekers$Park" 46 1 8 "I" := ⟨by decide, R_Pk, F_Pk, 12, rfl, by decide, tb_mem 136 rfl rfl, rfl, rfl⟩
set_option maxRecDepth 20000 in
theorem fl_Tp_56 : FLp "LateSeekers$TapeReader" 56 1 8 "I" := ⟨by decide, R_Pk, F_Pk, 12, rfl, by decide, tb_mem 137 rfl rfl, rfl, rfl⟩
set_option maxRecDepth 20000 in
theorem fl_Tr_62 : FLp "LateSeekers$Trials" 62 1 8 "I" := ⟨by decide, R_Pk, F_Pk, 12, rfl, by decide, tb_mem 138 rfl rfl, rfl, rfl⟩
set_option maxRecDepth 20000 in
theorem fl_LS_92 : FLp "LateSeekers" 92 1 8 "I" := ⟨by decide, R_Pk, F_Pk, 12, rfl, by decide, tb_mem 139 rfl rfl, rfl, rfl⟩
set_option maxRecDepth 20000 in
theorem fl_Pk_49 : FLp "LateSeekers$Park" 49 1 9 "I" := ⟨by decide, R_Pk, F_Pk, 12, rfl, by decide, tb_mem 140 rfl rfl, rfl, rfl⟩
set_option maxRecDepth 20000 in
theorem fl_Tr_37 : FLp "LateSeekers$Trials" 37 1 9 "I" := ⟨by decide, R_Pk, F_Pk, 12, rfl, by decide, tb_mem 141 rfl rfl, rfl, rfl⟩
set_option maxRecDepth 20000 in
theorem fl_LS_157 : FLp "LateSeekers" 157 1 9 "I" := ⟨by decide, R_Pk, F_Pk, 12, rfl, by decide, tb_mem 142 rfl rfl, rfl, rfl⟩
set_option maxRecDepth 20000 in
theorem fl_Pk_52 : FLp "LateSeekers$Park" 52 1 10 "I" := ⟨by decide, R_Pk, F_Pk, 12, rfl, by decide, tb_mem 143 rfl rfl, rfl, rfl⟩
set_option maxRecDepth 20000 in
theorem fl_LS_179 : FLp "LateSeekers" 179 1 10 "I" := ⟨by decide, R_Pk, F_Pk, 12, rfl, by decide, tb_mem 144 rfl rfl, rfl, rfl⟩
set_option maxRecDepth 20000 in
theorem fl_Pk_36 : FLp "LateSeekers$Park" 36 1 11 "I" := ⟨by decide, R_Pk, F_Pk, 12, rfl, by decide, tb_mem 145 rfl rfl, rfl, rfl⟩
set_option maxRecDepth 20000 in
theorem fl_LS_84 : FLp "LateSeekers" 84 1 11 "I" := ⟨by decide, R_Pk, F_Pk, 12, rfl, by decide, tb_mem 146 rfl rfl, rfl, rfl⟩
set_option maxRecDepth 20000 in
theorem fl_Tr_83 : FLp "LateSeekers$Trials" 83 1 11 "I" := ⟨by decide, R_Pk, F_Pk, 12, rfl, by decide, tb_mem 147 rfl rfl, rfl, rfl⟩
set_option maxRecDepth 20000 in
theorem fl_Tr_12 : FL "LateSeekers$Trials" 12 2 0 "LLateSeekers$Park;" := ⟨by decide, R_Tr, F_Tr, 2, rfl, by decide, tb_mem 174 rfl rfl, rfl⟩
set_option maxRecDepth 20000 in
theorem fl_LS_16 : FL "LateSeekers" 16 2 0 "LLateSeekers$Park;" := ⟨by decide, R_Tr, F_Tr, 2, rfl, by decide, tb_mem 175 rfl rfl, rfl⟩
set_option maxRecDepth 20000 in
theorem fl_Tr_18 : FL "LateSeekers$Trials" 18 2 1 "LLateSeekers$Park;" := ⟨by decide, R_Tr, F_Tr, 2, rfl, by decide, tb_mem 176 rfl rfl, rfl⟩
set_option maxRecDepth 20000 in
theorem fl_LS_74 : FL "LateSeekers" 74 2 1 "LLateSeekers$Park;" := ⟨by decide, R_Tr, F_Tr, 2, rfl, by decide, tb_mem 177 rfl rfl, rfl⟩
set_option maxRecDepth 20000 in
theorem fl_Tp_9 : FL "LateSeekers$TapeReader" 9 3 0 "[B" := ⟨by decide, R_Tp, F_Tp, 6, rfl, by decide, tb_mem 191 rfl rfl, rfl⟩
set_option maxRecDepth 20000 in
theorem fl_Tp_15 : FLp "LateSeekers$TapeReader" 15 3 1 "I" := ⟨by decide, R_Tp, F_Tp, 6, rfl, by decide, tb_mem 192 rfl rfl, rfl, rfl⟩
set_option maxRecDepth 20000 in
theorem fl_LS_66 : FLp "LateSeekers" 66 3 1 "I" := ⟨by decide, R_Tp, F_Tp, 6, rfl, by decide, tb_mem 193 rfl rfl, rfl, rfl⟩
set_option maxRecDepth 20000 in
theorem fl_Tp_28 : FLp "LateSeekers$TapeReader" 28 3 2 "I" := ⟨by decide, R_Tp, F_Tp, 6, rfl, by decide, tb_mem 194 rfl rfl, rfl, rfl⟩
set_option maxRecDepth 20000 in
theorem fl_Tp_104 : FLp "LateSeekers$TapeReader" 104 3 3 "I" := ⟨by decide, R_Tp, F_Tp, 6, rfl, by decide, tb_mem 195 rfl rfl, rfl, rfl⟩
set_option maxRecDepth 20000 in
theorem fl_Tp_22 : FLp "LateSeekers$TapeReader" 22 3 4 "I" := ⟨by decide, R_Tp, F_Tp, 6, rfl, by decide, tb_mem 196 rfl rfl, rfl, rfl⟩
set_option maxRecDepth 20000 in
theorem fl_Tp_19 : FLp "LateSeekers$TapeReader" 19 3 5 "I" := ⟨by decide, R_Tp, F_Tp, 6, rfl, by decide, tb_mem 197 rfl rfl, rfl, rfl⟩
set_option maxRecDepth 20000 in
theorem fl_Rw_9 : FL "LateSeekers$Rows" 9 4 0 "[I" := ⟨by decide, R_Rw, F_Rw, 2, rfl, by decide, tb_mem 218 rfl rfl, rfl⟩
set_option maxRecDepth 20000 in
theorem fl_LS_255 : FL "LateSeekers" 255 4 0 "[I" := ⟨by decide, R_Rw, F_Rw, 2, rfl, by decide, tb_mem 219 rfl rfl, rfl⟩
set_option maxRecDepth 20000 in
theorem fl_Rw_15 : FLp "LateSeekers$Rows" 15 4 1 "I" := ⟨by decide, R_Rw, F_Rw, 2, rfl, by decide, tb_mem 220 rfl rfl, rfl, rfl⟩
set_option maxRecDepth 20000 in
theorem fl_LS_91 : FLp "LateSeekers" 91 4 1 "I" := ⟨by decide, R_Rw, F_Rw, 2, rfl, by decide, tb_mem 221 rfl rfl, rfl, rfl⟩
set_option maxRecDepth 20000 in
theorem fl_Sh_9 : FL "LateSeekers$Sheets" 9 5 0 "[I" := ⟨by decide, R_Sh, F_Sh, 3, rfl, by decide, tb_mem 233 rfl rfl, rfl⟩
set_option maxRecDepth 20000 in
theorem fl_LS_262 : FL "LateSeekers" 262 5 0 "[I" := ⟨by decide, R_Sh, F_Sh, 3, rfl, by decide, tb_mem 234 rfl rfl, rfl⟩
set_option maxRecDepth 20000 in
theorem fl_Sh_15 : FL "LateSeekers$Sheets" 15 5 1 "[I" := ⟨by decide, R_Sh, F_Sh, 3, rfl, by decide, tb_mem 235 rfl rfl, rfl⟩
set_option maxRecDepth 20000 in
theorem fl_Tr_75 : FL "LateSeekers$Trials" 75 5 1 "[I" := ⟨by decide, R_Sh, F_Sh, 3, rfl, by decide, tb_mem 236 rfl rfl, rfl⟩
set_option maxRecDepth 20000 in
theorem fl_LS_265 : FL "LateSeekers" 265 5 1 "[I" := ⟨by decide, R_Sh, F_Sh, 3, rfl, by decide, tb_mem 237 rfl rfl, rfl⟩
set_option maxRecDepth 20000 in
theorem fl_Sh_18 : FL "LateSeekers$Sheets" 18 5 2 "[I" := ⟨by decide, R_Sh, F_Sh, 3, rfl, by decide, tb_mem 238 rfl rfl, rfl⟩
set_option maxRecDepth 20000 in
theorem fl_Sv_11 : FL "LateSeekers$Shelves" 11 6 0 "[I" := ⟨by decide, R_Sv, F_Sv, 3, rfl, by decide, tb_mem 252 rfl rfl, rfl⟩
set_option maxRecDepth 20000 in
theorem fl_LS_306 : FL "LateSeekers" 306 6 0 "[I" := ⟨by decide, R_Sv, F_Sv, 3, rfl, by decide, tb_mem 253 rfl rfl, rfl⟩
set_option maxRecDepth 20000 in
theorem fl_Sv_15 : FL "LateSeekers$Shelves" 15 6 1 "[I" := ⟨by decide, R_Sv, F_Sv, 3, rfl, by decide, tb_mem 254 rfl rfl, rfl⟩
set_option maxRecDepth 20000 in
theorem fl_LS_300 : FL "LateSeekers" 300 6 1 "[I" := ⟨by decide, R_Sv, F_Sv, 3, rfl, by decide, tb_mem 255 rfl rfl, rfl⟩
set_option maxRecDepth 20000 in
theorem fl_Sv_18 : FL "LateSeekers$Shelves" 18 6 2 "[I" := ⟨by decide, R_Sv, F_Sv, 3, rfl, by decide, tb_mem 256 rfl rfl, rfl⟩
set_option maxRecDepth 20000 in
theorem fl_LS_303 : FL "LateSeekers" 303 6 2 "[I" := ⟨by decide, R_Sv, F_Sv, 3, rfl, by decide, tb_mem 257 rfl rfl, rfl⟩
set_option maxRecDepth 20000 in
theorem fl_Ac_9 : FL "LateSeekers$Actor" 9 7 0 "[I" := ⟨by decide, R_Ac, F_Ac, 6, rfl, by decide, tb_mem 271 rfl rfl, rfl⟩
set_option maxRecDepth 20000 in
theorem fl_LS_322 : FL "LateSeekers" 322 7 0 "[I" := ⟨by decide, R_Ac, F_Ac, 6, rfl, by decide, tb_mem 272 rfl rfl, rfl⟩
set_option maxRecDepth 20000 in
theorem fl_Ac_44 : FLp "LateSeekers$Actor" 44 7 1 "I" := ⟨by decide, R_Ac, F_Ac, 6, rfl, by decide, tb_mem 273 rfl rfl, rfl, rfl⟩
set_option maxRecDepth 20000 in
theorem fl_LS_315 : FLp "LateSeekers" 315 7 1 "I" := ⟨by decide, R_Ac, F_Ac, 6, rfl, by decide, tb_mem 274 rfl rfl, rfl, rfl⟩
set_option maxRecDepth 20000 in
theorem fl_Ac_24 : FLp "LateSeekers$Actor" 24 7 2 "I" := ⟨by decide, R_Ac, F_Ac, 6, rfl, by decide, tb_mem 275 rfl rfl, rfl, rfl⟩
set_option maxRecDepth 20000 in
theorem fl_Ac_28 : FLp "LateSeekers$Actor" 28 7 3 "I" := ⟨by decide, R_Ac, F_Ac, 6, rfl, by decide, tb_mem 276 rfl rfl, rfl, rfl⟩
set_option maxRecDepth 20000 in
theorem fl_Ac_34 : FLp "LateSeekers$Actor" 34 7 4 "I" := ⟨by decide, R_Ac, F_Ac, 6, rfl, by decide, tb_mem 277 rfl rfl, rfl, rfl⟩
set_option maxRecDepth 20000 in
theorem fl_Ac_15 : FLp "LateSeekers$Actor" 15 7 5 "Z" := ⟨by decide, R_Ac, F_Ac, 6, rfl, by decide, tb_mem 278 rfl rfl, rfl, rfl⟩
set_option maxRecDepth 20000 in
theorem fl_LS_20 : FL "LateSeekers" 20 0 0 "LLateSeekers$Park;" := ⟨by decide, R_LS, F_LS, 9, rfl, by decide, tb_mem 292 rfl rfl, rfl⟩
set_option maxRecDepth 20000 in
theorem fl_LS_24 : FL "LateSeekers" 24 0 1 "LLateSeekers$Park;" := ⟨by decide, R_LS, F_LS, 9, rfl, by decide, tb_mem 293 rfl rfl, rfl⟩
set_option maxRecDepth 20000 in
theorem fl_LS_328 : FLp "LateSeekers" 328 0 2 "Z" := ⟨by decide, R_LS, F_LS, 9, rfl, by decide, tb_mem 294 rfl rfl, rfl, rfl⟩
set_option maxRecDepth 20000 in
theorem fl_LS_12 : FL "LateSeekers" 12 0 3 "LLateSeekers$Trials;" := ⟨by decide, R_LS, F_LS, 9, rfl, by decide, tb_mem 295 rfl rfl, rfl⟩
set_option maxRecDepth 20000 in
theorem fl_LS_30 : FL "LateSeekers" 30 0 4 "LLateSeekers$TapeReader;" := ⟨by decide, R_LS, F_LS, 9, rfl, by decide, tb_mem 296 rfl rfl, rfl⟩
set_option maxRecDepth 20000 in
theorem fl_LS_37 : FL "LateSeekers" 37 0 5 "LLateSeekers$Rows;" := ⟨by decide, R_LS, F_LS, 9, rfl, by decide, tb_mem 297 rfl rfl, rfl⟩
set_option maxRecDepth 20000 in
theorem fl_LS_44 : FL "LateSeekers" 44 0 6 "LLateSeekers$Sheets;" := ⟨by decide, R_LS, F_LS, 9, rfl, by decide, tb_mem 298 rfl rfl, rfl⟩
set_option maxRecDepth 20000 in
theorem fl_LS_51 : FL "LateSeekers" 51 0 7 "LLateSeekers$Shelves;" := ⟨by decide, R_LS, F_LS, 9, rfl, by decide, tb_mem 299 rfl rfl, rfl⟩
set_option maxRecDepth 20000 in
theorem fl_LS_58 : FL "LateSeekers" 58 0 8 "LLateSeekers$Actor;" := ⟨by decide, R_LS, F_LS, 9, rfl, by decide, tb_mem 300 rfl rfl, rfl⟩
set_option maxRecDepth 20000 in
theorem fl_Md_7 : FL "LateSeekersModel" 7 8 0 "[I" := ⟨by decide, R_Md, F_Md, 27, rfl, by decide, tb_mem 913 rfl rfl, rfl⟩
set_option maxRecDepth 20000 in
theorem fl_Md_13 : FL "LateSeekersModel" 13 8 1 "[I" := ⟨by decide, R_Md, F_Md, 27, rfl, by decide, tb_mem 914 rfl rfl, rfl⟩
set_option maxRecDepth 20000 in
theorem fl_Md_16 : FL "LateSeekersModel" 16 8 2 "[I" := ⟨by decide, R_Md, F_Md, 27, rfl, by decide, tb_mem 915 rfl rfl, rfl⟩
set_option maxRecDepth 20000 in
theorem fl_Md_19 : FL "LateSeekersModel" 19 8 3 "[I" := ⟨by decide, R_Md, F_Md, 27, rfl, by decide, tb_mem 916 rfl rfl, rfl⟩
set_option maxRecDepth 20000 in
theorem fl_Md_330 : FLp "LateSeekersModel" 330 8 4 "Z" := ⟨by decide, R_Md, F_Md, 27, rfl, by decide, tb_mem 917 rfl rfl, rfl, rfl⟩
set_option maxRecDepth 20000 in
theorem fl_Md_22 : FL "LateSeekersModel" 22 8 5 "[I" := ⟨by decide, R_Md, F_Md, 27, rfl, by decide, tb_mem 918 rfl rfl, rfl⟩
set_option maxRecDepth 20000 in
theorem fl_Md_61 : FLp "LateSeekersModel" 61 8 6 "I" := ⟨by decide, R_Md, F_Md, 27, rfl, by decide, tb_mem 919 rfl rfl, rfl, rfl⟩
set_option maxRecDepth 20000 in
theorem fl_Md_84 : FLp "LateSeekersModel" 84 8 7 "I" := ⟨by decide, R_Md, F_Md, 27, rfl, by decide, tb_mem 920 rfl rfl, rfl, rfl⟩
set_option maxRecDepth 20000 in
theorem fl_Md_70 : FLp "LateSeekersModel" 70 8 8 "I" := ⟨by decide, R_Md, F_Md, 27, rfl, by decide, tb_mem 921 rfl rfl, rfl, rfl⟩
set_option maxRecDepth 20000 in
theorem fl_Md_67 : FLp "LateSeekersModel" 67 8 9 "I" := ⟨by decide, R_Md, F_Md, 27, rfl, by decide, tb_mem 922 rfl rfl, rfl, rfl⟩
set_option maxRecDepth 20000 in
theorem fl_Md_87 : FLp "LateSeekersModel" 87 8 10 "I" := ⟨by decide, R_Md, F_Md, 27, rfl, by decide, tb_mem 923 rfl rfl, rfl, rfl⟩
set_option maxRecDepth 20000 in
theorem fl_Md_90 : FLp "LateSeekersModel" 90 8 11 "Z" := ⟨by decide, R_Md, F_Md, 27, rfl, by decide, tb_mem 924 rfl rfl, rfl, rfl⟩
set_option maxRecDepth 20000 in
theorem fl_Md_25 : FL "LateSeekersModel" 25 8 12 "[I" := ⟨by decide, R_Md, F_Md, 27, rfl, by decide, tb_mem 925 rfl rfl, rfl⟩
set_option maxRecDepth 20000 in
theorem fl_Md_28 : FL "LateSeekersModel" 28 8 13 "[I" := ⟨by decide, R_Md, F_Md, 27, rfl, by decide, tb_mem 926 rfl rfl, rfl⟩
set_option maxRecDepth 20000 in
theorem fl_Md_148 : FLp "LateSeekersModel" 148 8 14 "I" := ⟨by decide, R_Md, F_Md, 27, rfl, by decide, tb_mem 927 rfl rfl, rfl, rfl⟩
set_option maxRecDepth 20000 in
theorem fl_Md_31 : FL "LateSeekersModel" 31 8 15 "[I" := ⟨by decide, R_Md, F_Md, 27, rfl, by decide, tb_mem 928 rfl rfl, rfl⟩
set_option maxRecDepth 20000 in
theorem fl_Md_34 : FL "LateSeekersModel" 34 8 16 "[I" := ⟨by decide, R_Md, F_Md, 27, rfl, by decide, tb_mem 929 rfl rfl, rfl⟩
set_option maxRecDepth 20000 in
theorem fl_Md_37 : FL "LateSeekersModel" 37 8 17 "[I" := ⟨by decide, R_Md, F_Md, 27, rfl, by decide, tb_mem 930 rfl rfl, rfl⟩
set_option maxRecDepth 20000 in
theorem fl_Md_40 : FL "LateSeekersModel" 40 8 18 "[I" := ⟨by decide, R_Md, F_Md, 27, rfl, by decide, tb_mem 931 rfl rfl, rfl⟩
set_option maxRecDepth 20000 in
theorem fl_Md_43 : FL "LateSeekersModel" 43 8 19 "[I" := ⟨by decide, R_Md, F_Md, 27, rfl, by decide, tb_mem 932 rfl rfl, rfl⟩
set_option maxRecDepth 20000 in
theorem fl_Md_46 : FL "LateSeekersModel" 46 8 20 "[I" := ⟨by decide, R_Md, F_Md, 27, rfl, by decide, tb_mem 933 rfl rfl, rfl⟩
set_option maxRecDepth 20000 in
theorem fl_Md_49 : FL "LateSeekersModel" 49 8 21 "[I" := ⟨by decide, R_Md, F_Md, 27, rfl, by decide, tb_mem 934 rfl rfl, rfl⟩
set_option maxRecDepth 20000 in
theorem fl_Md_282 : FLp "LateSeekersModel" 282 8 22 "I" := ⟨by decide, R_Md, F_Md, 27, rfl, by decide, tb_mem 935 rfl rfl, rfl, rfl⟩
set_option maxRecDepth 20000 in
theorem fl_Md_294 : FLp "LateSeekersModel" 294 8 23 "I" := ⟨by decide, R_Md, F_Md, 27, rfl, by decide, tb_mem 936 rfl rfl, rfl, rfl⟩
set_option maxRecDepth 20000 in
theorem fl_Md_288 : FLp "LateSeekersModel" 288 8 24 "I" := ⟨by decide, R_Md, F_Md, 27, rfl, by decide, tb_mem 937 rfl rfl, rfl, rfl⟩
set_option maxRecDepth 20000 in
theorem fl_Md_303 : FLp "LateSeekersModel" 303 8 25 "I" := ⟨by decide, R_Md, F_Md, 27, rfl, by decide, tb_mem 938 rfl rfl, rfl, rfl⟩
set_option maxRecDepth 20000 in
theorem fl_Md_309 : FLp "LateSeekersModel" 309 8 26 "Z" := ⟨by decide, R_Md, F_Md, 27, rfl, by decide, tb_mem 939 rfl rfl, rfl, rfl⟩
set_option maxRecDepth 20000 in
theorem kc_Integer_265 : Cond.constant "java/lang/Integer" 265 1431655765 ∈ tb := tb_mem 554 rfl rfl
set_option maxRecDepth 20000 in
theorem kc_Integer_266 : Cond.constant "java/lang/Integer" 266 858993459 ∈ tb := tb_mem 555 rfl rfl
set_option maxRecDepth 20000 in
theorem kc_Integer_267 : Cond.constant "java/lang/Integer" 267 252645135 ∈ tb := tb_mem 556 rfl rfl
set_option maxRecDepth 20000 in
theorem kc_Pk_110 : Cond.constant "LateSeekers$Park" 110 1103515245 ∈ tb := tb_mem 613 rfl rfl
set_option maxRecDepth 20000 in
theorem kc_Md_210 : Cond.constant "LateSeekersModel" 210 1103515245 ∈ tb := tb_mem 1199 rfl rfl
set_option maxRecDepth 20000 in
theorem kc_LS_232 : Cond.constantLong "LateSeekers" 232 (-1) ∈ tb := tb_mem 747 rfl rfl
set_option maxRecDepth 20000 in
theorem kc_LS_234 : Cond.constantLong "LateSeekers" 234 100 ∈ tb := tb_mem 748 rfl rfl
set_option maxRecDepth 20000 in
theorem kc_Md_55 : Cond.constantLong "LateSeekersModel" 55 8 ∈ tb := tb_mem 999 rfl rfl
set_option maxRecDepth 20000 in
theorem kc_Md_65 : Cond.constantLong "LateSeekersModel" 65 255 ∈ tb := tb_mem 1003 rfl rfl
set_option maxRecDepth 20000 in
theorem kc_Md_151 : Cond.constantLong "LateSeekersModel" 151 3 ∈ tb := tb_mem 1081 rfl rfl
set_option maxRecDepth 20000 in
theorem kc_Md_160 : Cond.constantLong "LateSeekersModel" 160 5 ∈ tb := tb_mem 1097 rfl rfl
set_option maxRecDepth 20000 in
theorem kc_Md_162 : Cond.constantLong "LateSeekersModel" 162 99 ∈ tb := tb_mem 1098 rfl rfl
set_option maxRecDepth 20000 in
theorem kc_Md_164 : Cond.constantLong "LateSeekersModel" 164 9 ∈ tb := tb_mem 1099 rfl rfl
set_option maxRecDepth 20000 in
theorem kc_Md_175 : Cond.constantLong "LateSeekersModel" 175 2 ∈ tb := tb_mem 1119 rfl rfl
set_option maxRecDepth 20000 in
theorem kc_Md_205 : Cond.constantLong "LateSeekersModel" 205 60 ∈ tb := tb_mem 1171 rfl rfl
set_option maxRecDepth 20000 in
theorem kc_Md_214 : Cond.constantLong "LateSeekersModel" 214 30 ∈ tb := tb_mem 1204 rfl rfl
set_option maxRecDepth 20000 in
theorem kc_Md_231 : Cond.constantLong "LateSeekersModel" 231 20 ∈ tb := tb_mem 1257 rfl rfl
set_option maxRecDepth 20000 in
theorem kc_Md_246 : Cond.constantLong "LateSeekersModel" 246 (-1) ∈ tb := tb_mem 1289 rfl rfl
set_option maxRecDepth 20000 in
theorem kc_Md_252 : Cond.constantLong "LateSeekersModel" 252 100 ∈ tb := tb_mem 1293 rfl rfl
set_option maxRecDepth 20000 in
theorem kc_Md_258 : Cond.constantLong "LateSeekersModel" 258 10 ∈ tb := tb_mem 1305 rfl rfl
set_option maxRecDepth 20000 in
theorem kc_Md_272 : Cond.constantLong "LateSeekersModel" 272 13 ∈ tb := tb_mem 1356 rfl rfl
set_option maxRecDepth 20000 in
theorem kc_Md_274 : Cond.constantLong "LateSeekersModel" 274 6 ∈ tb := tb_mem 1357 rfl rfl
set_option maxRecDepth 20000 in
theorem kc_Law_13 : Cond.constantLong "LateSeekersLaw" 13 4294967295 ∈ tb := tb_mem 1429 rfl rfl
set_option maxRecDepth 20000 in
theorem sl_LS_99 : Cond.fieldLink "LateSeekers" 99 (roC 1).1 (roC 1).2 "[I" ∈ tb := tb_mem 482 rfl rfl
set_option maxRecDepth 20000 in
theorem sl_LS_312 : Cond.fieldLink "LateSeekers" 312 (roC 2).1 (roC 2).2 "[I" ∈ tb := tb_mem 862 rfl rfl
set_option maxRecDepth 20000 in
theorem sl_Ac_41 : Cond.fieldLink "LateSeekers$Actor" 41 (roC 3).1 (roC 3).2 "[I" ∈ tb := tb_mem 876 rfl rfl
set_option maxRecDepth 20000 in
theorem ac_Pk_55 : Cond.methodLink "LateSeekers$Park" 55 arraycopyName ∈ tb := tb_mem 472 rfl rfl
set_option maxRecDepth 20000 in
theorem ac_all : Cond.native arraycopyName ∈ tb ∧ Cond.static arraycopyName ∈ tb ∧ Cond.initialized "java/lang/System" ∈ tb := ⟨tb_mem 474 rfl rfl, tb_mem 473 rfl rfl, tb_mem 82 rfl rfl⟩
end
section
/-! THE REFERENCE, its small methods -/
abbrev ΛM : Lay := [.inr (8, [some 1, some 2, some 3, some 4, none, some 5, none, none, none, none, none, none, some 6, some 7, none, some 8, some 9, some 10, some 11, some 12, some 13, some 14, none, none, none, none, none]), .inl (false, 67), .inl (false, 67), .inl (false, 67), .inl (false, 67), .inl (false, 200), .inl (false, 8), .inl (false, 30), .inl (false, 4), .inl (false, 4), .inl (false, 160), .inl (false, 4), .inl (false, 4), .inl (false, 4), .inl (false, 30)]
/-- stores that agree in all places of the layout are the same world -/
def szS : Shape → Nat
  | .inl q => q.2
  | .inr q => q.2.length
def Eqv (Λ : Lay) (σ τ : Store) : Prop := ∀ (k : Nat) (sh : Shape), Λ[k]? = some sh → ∀ j, j < szS sh → σ k j = τ k j
theorem Eqv.rf {Λ : Lay} {σ : Store} : Eqv Λ σ σ := fun _ _ _ _ _ => rfl
theorem Eqv.sy {Λ : Lay} {σ τ : Store} (h : Eqv Λ σ τ) : Eqv Λ τ σ := fun k sh hk j hj => (h k sh hk j hj).symm
theorem Eqv.tr {Λ : Lay} {σ τ ρ : Store} (h : Eqv Λ σ τ) (g : Eqv Λ τ ρ) : Eqv Λ σ ρ := fun k sh hk j hj => (h k sh hk j hj).trans (g k sh hk j hj)
theorem fv_eqv (ad : Nat → Nat) {v w : Nat → Int32} : ∀ (fs : List (Option Nat)) (j : Nat), (∀ i, i < fs.length → v (j + i) = w (j + i)) → fv ad v j fs = fv ad w j fs := by
  intro fs
  induction fs with
  | nil => intro j _; rfl
  | cons f r ih =>
    intro j h
    have h1 := ih (j + 1) (fun i hi => by have := h (i + 1) (by simp; omega); rwa [show j + (i + 1) = j + 1 + i by omega] at this)
    have h0 := h 0 (by simp)
    rw [Nat.add_zero] at h0
    cases f <;> simp [fv, h1, h0]
theorem va_at_eqv {D : va_G} {cI cB : ClassId} {ad : Nat → Nat} {a : Nat} {v w : Nat → Int32} {sh : Shape} {H : Heap} (h : ∀ j, j < szS sh → v j = w j) (hP : va_at D classes (a, ce cI cB ad v sh) H) : va_at D classes (a, ce cI cB ad w sh) H := by
  rcases sh with ⟨b, n⟩ | ⟨ci, fs⟩
  · have e : vp_cell (if b then cB else cI) (n, .inl v) = vp_cell (if b then cB else cI) (n, .inl w) := by
      rw [vp_cell_i, vp_cell_i]
      unfold arrV
      congr 2
      funext j
      show Value.int (v j.val) = Value.int (w j.val)
      rw [h j.val j.isLt]
    show H[a]? = some (vp_cell _ _)
    rw [← e]
    exact hP
  · have e : fv ad v 0 fs = fv ad w 0 fs := fv_eqv ad fs 0 (fun i hi => by simpa using h i hi)
    show va_at D classes (a, .inr (ci, fv ad w 0 fs)) H
    rw [← e]
    exact hP
theorem va_P_eqv {D : va_G} {cI cB : ClassId} {ad : Nat → Nat} {σ τ : Store} {Λ : Lay} {H : Heap} (h : Eqv Λ σ τ) (hP : va_P D classes (wr cI cB ad σ 0 Λ) H) : va_P D classes (wr cI cB ad τ 0 Λ) H := by
  intro k q hq
  rw [wr_get] at hq
  cases hs : Λ[k]? with
  | none => rw [hs] at hq; cases hq
  | some sh =>
    rw [hs] at hq
    have hq' := Option.some.inj hq
    rw [← hq']
    simp only [Nat.zero_add]
    exact va_at_eqv (h k sh hs) (hP k _ (wr_at hs))
theorem g_eqv {Γ : MC} {X : CX} {σ τ : Store} {L : List (Option Value)} {st : List Value} {pc : Nat} (h : Eqv Γ.1 σ τ) (k : G Γ X τ L st pc) : G Γ X σ L st pc := by
  obtain ⟨⟨p, l, e, R⟩, ⟨s, m, args, below⟩, ⟨meth, c, Q⟩, ⟨dC, dI, cI, cB⟩, ⟨ad, A, cells, slots⟩⟩ := X
  intro ok H locs ls hP hS hl
  exact k ok H locs ls (va_P_eqv h hP) hS hl
theorem Ct.eqv {Λ : Lay} {μ : Mt} {d : Nat} {as : List Value} {σ τ : Store} {P : Option Value → Store → Prop} (h : Eqv Λ σ τ) (hC : Ct Λ μ d as τ P) : Ct Λ μ d as σ P := by
  intro l dC dI cI cB ad
  refine Met.conseq (hC l dC dI cI cB ad) ?_ (fun _ _ _ _ _ h => h) (fun _ h => h)
  rintro a s ⟨h1, h2, h3⟩
  exact ⟨h1, va_P_eqv h h2, h3⟩
theorem Ct.eqvP {Λ : Lay} {μ : Mt} {d : Nat} {as : List Value} {σ : Store} {P P' : Option Value → Store → Prop} (hC : Ct Λ μ d as σ P) (h : ∀ v τ, P v τ → ∃ τ', Eqv Λ τ τ' ∧ P' v τ') : Ct Λ μ d as σ P' := by
  intro l dC dI cI cB ad
  refine Met.conseq (hC l dC dI cI cB ad) (fun _ _ h => h) ?_ (fun _ h => h)
  rintro a s o t _ ⟨⟨v, τ, h1, h2, h3⟩, h4⟩
  obtain ⟨τ', h5, h6⟩ := h v τ h2
  exact ⟨⟨v, τ', h1, h6, va_P_eqv h5 h3⟩, h4⟩
theorem i64_in (x : Int32) (a b : Nat) (hb : b < 2 ^ 31) (hab : a ≤ b) : (lN a ≤ x.toInt64 ∧ x.toInt64 ≤ lN b) ↔ ∃ j, a ≤ j ∧ j ≤ b ∧ x = nI j := by
  have hx : x.toInt64.toInt = x.toInt := by simp
  rw [Int64.le_iff_toInt_le, Int64.le_iff_toInt_le, hx, lN_toInt (by omega), lN_toInt hb]
  constructor
  · rintro ⟨h1, h2⟩
    refine ⟨x.toInt.toNat, by omega, by omega, ?_⟩
    apply Int32.toInt_inj.mp
    rw [nI_toInt (by omega)]; omega
  · rintro ⟨j, h1, h2, rfl⟩
    rw [nI_toInt (by omega)]; omega
theorem i32_lt (x : Int32) {b : Nat} (hb : b < 2 ^ 31) : (0 ≤ x ∧ x < nI b) ↔ ∃ j, j < b ∧ x = nI j := by
  rw [Int32.le_iff_toInt_le, Int32.lt_iff_toInt_lt, nI_toInt hb, Int32.toInt_zero]
  constructor
  · rintro ⟨h1, h2⟩
    refine ⟨x.toInt.toNat, by omega, ?_⟩
    apply Int32.toInt_inj.mp
    rw [nI_toInt (by omega)]; omega
  · rintro ⟨j, h1, rfl⟩
    rw [nI_toInt (by omega)]; omega
theorem lg_lt0 {x y : Int64} : lg_cmp x y < 0 ↔ x < y := by
  have t : ∀ a b : Int64, a < b ↔ a.toInt < b.toInt := fun a b => Int64.lt_iff_toInt_lt
  unfold lg_cmp
  split
  · rename_i h
    have h' : y.toInt < x.toInt := (t y x).mp h
    rw [t]
    exact ⟨fun q => absurd q (by decide), fun q => by omega⟩
  · rename_i h
    have h' : ¬ y.toInt < x.toInt := fun q => h ((t y x).mpr q)
    split
    · rename_i h2; subst h2; rw [t]; exact ⟨fun q => absurd q (by decide), fun q => by omega⟩
    · rename_i h2
      have h3 : x.toInt ≠ y.toInt := fun q => h2 (Int64.toInt_inj.mp q)
      rw [t]; exact ⟨fun _ => by omega, fun _ => by decide⟩
theorem lg_gt0 {x y : Int64} : 0 < lg_cmp x y ↔ y < x := by
  unfold lg_cmp
  split
  · rename_i h; exact ⟨fun _ => h, fun _ => by decide⟩
  · rename_i h
    split
    · exact ⟨fun q => absurd q (by decide), fun q => absurd q h⟩
    · exact ⟨fun q => absurd q (by decide), fun q => absurd q h⟩
theorem lg_ne0 {x y : Int64} : lg_cmp x y = 0 ↔ x = y := by
  unfold lg_cmp
  split
  · rename_i h; exact ⟨fun q => absurd q (by decide), fun q => by subst q; exact absurd h (by rw [gt_iff_lt, Int64.lt_iff_toInt_lt]; omega)⟩
  · split
    · rename_i h2; exact ⟨fun _ => h2, fun _ => rfl⟩
    · rename_i h2; exact ⟨fun q => absurd q (by decide), fun q => absurd q h2⟩
set_option maxRecDepth 20000 in
theorem m_isIn (Λ : Lay) (σ : Store) (x y z : Int64) : Ct Λ mt_Md_isIn 0 [.long x, .long y, .long z] σ (PB σ (y ≤ x ∧ x ≤ z)) := by
  refine Ct.of (by decide) (Nat.le_of_ble_eq_true rfl) (fun X hR => ?_)
  show G (Λ, mt_Md_isIn, 0) X σ [some (.long x), none, some (.long y), none, some (.long z), none] [] 0
  refine g_lload_n (by decide +kernel : decode prog_10_method_3_code 0 = .ok (.lload_n 0, 1)) rfl ?_
  refine g_lload_n (by decide +kernel : decode prog_10_method_3_code 1 = .ok (.lload_n 2, 1)) rfl ?_
  refine g_lcmp (by decide +kernel : decode prog_10_method_3_code 2 = .ok (.lcmp, 1)) ?_
  refine g_if_lt (tgt := 17) (by decide +kernel : decode prog_10_method_3_code 3 = .ok (.ifCond .lt 14, 3)) (by decide) (fun h3 => ?_) (fun h3 => ?_)
  · refine g_iconst (v := nI 0) (by decide +kernel : decode prog_10_method_3_code 17 = .ok (.iconst 0, 1)) (by decide) ?_
    exact g_zret hR (by decide +kernel : decode prog_10_method_3_code 18 = .ok (.ireturn, 1)) rfl (by decide) ⟨_, rfl, ⟨rfl, Or.inr ⟨rfl, by first | exact fun q => absurd q.1 (Int64.not_le.mpr (lg_lt0.mp h3)) | exact fun q => absurd q.2 (Int64.not_le.mpr (lg_gt0.mp h10))⟩⟩⟩
  · refine g_lload_n (by decide +kernel : decode prog_10_method_3_code 6 = .ok (.lload_n 0, 1)) rfl ?_
    refine g_lload (by decide +kernel : decode prog_10_method_3_code 7 = .ok (.lload 4, 2)) rfl ?_
    refine g_lcmp (by decide +kernel : decode prog_10_method_3_code 9 = .ok (.lcmp, 1)) ?_
    refine g_if_gt (tgt := 17) (by decide +kernel : decode prog_10_method_3_code 10 = .ok (.ifCond .gt 7, 3)) (by decide) (fun h10 => ?_) (fun h10 => ?_)
    · refine g_iconst (v := nI 0) (by decide +kernel : decode prog_10_method_3_code 17 = .ok (.iconst 0, 1)) (by decide) ?_
      exact g_zret hR (by decide +kernel : decode prog_10_method_3_code 18 = .ok (.ireturn, 1)) rfl (by decide) ⟨_, rfl, ⟨rfl, Or.inr ⟨rfl, by first | exact fun q => absurd q.1 (Int64.not_le.mpr (lg_lt0.mp h3)) | exact fun q => absurd q.2 (Int64.not_le.mpr (lg_gt0.mp h10))⟩⟩⟩
    · refine g_iconst (v := nI 1) (by decide +kernel : decode prog_10_method_3_code 13 = .ok (.iconst 1, 1)) (by decide) ?_
      refine g_goto (tgt := 18) (by decide +kernel : decode prog_10_method_3_code 14 = .ok (.goto 4, 3)) (by decide) ?_
      exact g_zret hR (by decide +kernel : decode prog_10_method_3_code 18 = .ok (.ireturn, 1)) rfl (by decide) ⟨_, rfl, ⟨rfl, Or.inl ⟨rfl, ⟨Int64.not_lt.mp (fun q => h3 (lg_lt0.mpr q)), Int64.not_lt.mp (fun q => h10 (lg_gt0.mpr q))⟩⟩⟩⟩
theorem PB.of {Λ : Lay} {μ : Mt} {d : Nat} {as : List Value} {σ τ : Store} {p q : Prop} (h : Ct Λ μ d as σ (PB τ p)) (e : p ↔ q) : Ct Λ μ d as σ (PB τ q) := by
  refine h.post ?_
  rintro v σ' ⟨r, h1, h2, h3⟩
  refine ⟨r, h1, h2, ?_⟩
  rcases h3 with ⟨a, b⟩ | ⟨a, b⟩
  · exact Or.inl ⟨a, e.mp b⟩
  · exact Or.inr ⟨a, fun z => b (e.mpr z)⟩
/-- an int between a and b -/
theorem m_isInN (Λ : Lay) (σ : Store) (x : Int32) (a b : Nat) (hb : b < 2 ^ 31 := by decide) (hab : a ≤ b := by decide) : Ct Λ mt_Md_isIn 0 [.long x.toInt64, .long (lN a), .long (lN b)] σ (PB σ (∃ j, a ≤ j ∧ j ≤ b ∧ x = nI j)) := PB.of (m_isIn Λ σ _ _ _) (i64_in x a b hb hab)
theorem m_isInK (Λ : Lay) (σ : Store) (k a b : Nat) (hk : k < 2 ^ 31) (ha : a < 2 ^ 31) (hb : b < 2 ^ 31) : Ct Λ mt_Md_isIn 0 [.long (lN k), .long (lN a), .long (lN b)] σ (PB σ (a ≤ k ∧ k ≤ b)) := PB.of (m_isIn Λ σ _ _ _) (by rw [lN_le ha hk, lN_le hk hb])
set_option maxRecDepth 20000 in
theorem m_isPlace (Λ : Lay) (σ : Store) (x : Int32) : Ct Λ mt_Md_isPlace 0 [.int x] σ (PB σ (∃ j, j < 12 ∧ x = nI j)) := by
  refine Ct.of (by decide) (Nat.le_of_ble_eq_true rfl) (fun X hR => ?_)
  show G (Λ, mt_Md_isPlace, 0) X σ [some (.int x)] [] 0
  refine g_iload_n (by decide +kernel : decode prog_10_method_4_code 0 = .ok (.iload_n 0, 1)) rfl ?_
  refine g_if_lt (tgt := 14) (by decide +kernel : decode prog_10_method_4_code 1 = .ok (.ifCond .lt 13, 3)) (by decide) (fun h1 => ?_) (fun h1 => ?_)
  · refine g_iconst (v := nI 0) (by decide +kernel : decode prog_10_method_4_code 14 = .ok (.iconst 0, 1)) (by decide) ?_
    exact g_zret hR (by decide +kernel : decode prog_10_method_4_code 15 = .ok (.ireturn, 1)) rfl (by decide) ⟨_, rfl, ⟨rfl, Or.inr ⟨rfl, by first | exact fun q => absurd ((i32_lt x (by decide)).mpr q).1 (Int32.not_le.mpr h1) | exact fun q => absurd ((i32_lt x (by decide)).mpr q).2 (Int32.not_lt.mpr h7)⟩⟩⟩
  · refine g_iload_n (by decide +kernel : decode prog_10_method_4_code 4 = .ok (.iload_n 0, 1)) rfl ?_
    refine g_bipush (v := nI 12) (by decide +kernel : decode prog_10_method_4_code 5 = .ok (.bipush 12, 2)) (by decide) ?_
    refine g_icmp_ge (tgt := 14) (by decide +kernel : decode prog_10_method_4_code 7 = .ok (.if_icmp .ge 7, 3)) (by decide) (fun h7 => ?_) (fun h7 => ?_)
    · refine g_iconst (v := nI 0) (by decide +kernel : decode prog_10_method_4_code 14 = .ok (.iconst 0, 1)) (by decide) ?_
      exact g_zret hR (by decide +kernel : decode prog_10_method_4_code 15 = .ok (.ireturn, 1)) rfl (by decide) ⟨_, rfl, ⟨rfl, Or.inr ⟨rfl, by first | exact fun q => absurd ((i32_lt x (by decide)).mpr q).1 (Int32.not_le.mpr h1) | exact fun q => absurd ((i32_lt x (by decide)).mpr q).2 (Int32.not_lt.mpr h7)⟩⟩⟩
    · refine g_iconst (v := nI 1) (by decide +kernel : decode prog_10_method_4_code 10 = .ok (.iconst 1, 1)) (by decide) ?_
      refine g_goto (tgt := 15) (by decide +kernel : decode prog_10_method_4_code 11 = .ok (.goto 4, 3)) (by decide) ?_
      exact g_zret hR (by decide +kernel : decode prog_10_method_4_code 15 = .ok (.ireturn, 1)) rfl (by decide) ⟨_, rfl, ⟨rfl, Or.inl ⟨rfl, (i32_lt x (by decide)).mp ⟨Int32.not_lt.mp h1, Int32.not_le.mp h7⟩⟩⟩⟩
set_option maxRecDepth 20000 in
theorem m_isOne (σ : Store) (x : Int32) {n : Nat} (hn : σ 1 0 = nI n) (hb : n < 2 ^ 31) : Ct ΛM mt_Md_isOne 0 [.ref 0, .int x] σ (PB σ (∃ j, j < n ∧ x = nI j)) := by
  refine Ct.of (by decide) (Nat.le_of_ble_eq_true rfl) (fun X hR => ?_)
  show G (ΛM, mt_Md_isOne, 0) X σ [some (.ref 0), some (.int x)] [] 0
  refine g_iload_n (by decide +kernel : decode prog_10_method_5_code 0 = .ok (.iload_n 1, 1)) rfl ?_
  refine g_if_lt (tgt := 18) (by decide +kernel : decode prog_10_method_5_code 1 = .ok (.ifCond .lt 17, 3)) (by decide) (fun h1 => ?_) (fun h1 => ?_)
  · refine g_iconst (v := nI 0) (by decide +kernel : decode prog_10_method_5_code 18 = .ok (.iconst 0, 1)) (by decide) ?_
    exact g_zret hR (by decide +kernel : decode prog_10_method_5_code 19 = .ok (.ireturn, 1)) rfl (by decide) ⟨_, rfl, ⟨rfl, Or.inr ⟨rfl, by first | exact fun q => absurd ((i32_lt x hb).mpr q).1 (Int32.not_le.mpr h1) | exact fun q => absurd ((i32_lt x hb).mpr q).2 (Int32.not_lt.mpr h11)⟩⟩⟩
  · refine g_iload_n (by decide +kernel : decode prog_10_method_5_code 4 = .ok (.iload_n 1, 1)) rfl ?_
    refine g_aload_n (by decide +kernel : decode prog_10_method_5_code 5 = .ok (.aload_n 0, 1)) rfl ?_
    refine g_getR (by decide +kernel : decode prog_10_method_5_code 6 = .ok (.getfield 7, 3)) fl_Md_7 rfl rfl ?_
    refine g_iconst (v := nI 0) (by decide +kernel : decode prog_10_method_5_code 9 = .ok (.iconst 0, 1)) (by decide) ?_
    refine g_iaload (a := 0) (by decide +kernel : decode prog_10_method_5_code 10 = .ok (.iaload, 1)) rfl rfl (by decide) (by decide) ?_
    refine g_top (w := nI n) hn ?_
    refine g_icmp_ge (tgt := 18) (by decide +kernel : decode prog_10_method_5_code 11 = .ok (.if_icmp .ge 7, 3)) (by decide) (fun h11 => ?_) (fun h11 => ?_)
    · refine g_iconst (v := nI 0) (by decide +kernel : decode prog_10_method_5_code 18 = .ok (.iconst 0, 1)) (by decide) ?_
      exact g_zret hR (by decide +kernel : decode prog_10_method_5_code 19 = .ok (.ireturn, 1)) rfl (by decide) ⟨_, rfl, ⟨rfl, Or.inr ⟨rfl, by first | exact fun q => absurd ((i32_lt x hb).mpr q).1 (Int32.not_le.mpr h1) | exact fun q => absurd ((i32_lt x hb).mpr q).2 (Int32.not_lt.mpr h11)⟩⟩⟩
    · refine g_iconst (v := nI 1) (by decide +kernel : decode prog_10_method_5_code 14 = .ok (.iconst 1, 1)) (by decide) ?_
      refine g_goto (tgt := 19) (by decide +kernel : decode prog_10_method_5_code 15 = .ok (.goto 4, 3)) (by decide) ?_
      exact g_zret hR (by decide +kernel : decode prog_10_method_5_code 19 = .ok (.ireturn, 1)) rfl (by decide) ⟨_, rfl, ⟨rfl, Or.inl ⟨rfl, (i32_lt x hb).mp ⟨Int32.not_lt.mp h1, Int32.not_le.mp h11⟩⟩⟩⟩
set_option maxRecDepth 20000 in
theorem m_its (σ : Store) (o w : Nat) {v : Int32} (hv : σ 1 (19 + 6 * o + w) = v) (hb : 19 + 6 * o + w < 67) : Ct ΛM mt_Md_its 0 [.ref 0, .int (nI o), .int (nI w)] σ (PF v σ) := by
  refine Ct.of (by decide) (Nat.le_of_ble_eq_true rfl) (fun X hR => ?_)
  show G (ΛM, mt_Md_its, 0) X σ [some (.ref 0), some (.int (nI o)), some (.int (nI w))] [] 0
  refine g_aload_n (by decide +kernel : decode prog_10_method_6_code 0 = .ok (.aload_n 0, 1)) rfl ?_
  refine g_getR (by decide +kernel : decode prog_10_method_6_code 1 = .ok (.getfield 7, 3)) fl_Md_7 rfl rfl ?_
  refine g_bipush (v := nI 19) (by decide +kernel : decode prog_10_method_6_code 4 = .ok (.bipush 19, 2)) (by decide) ?_
  refine g_bipush (v := nI 6) (by decide +kernel : decode prog_10_method_6_code 6 = .ok (.bipush 6, 2)) (by decide) ?_
  refine g_iload_n (by decide +kernel : decode prog_10_method_6_code 8 = .ok (.iload_n 1, 1)) rfl ?_
  refine g_imulN (by decide +kernel : decode prog_10_method_6_code 9 = .ok (.imul, 1)) ?_
  refine g_iaddN (by decide +kernel : decode prog_10_method_6_code 10 = .ok (.iadd, 1)) ?_
  refine g_iload_n (by decide +kernel : decode prog_10_method_6_code 11 = .ok (.iload_n 2, 1)) rfl ?_
  refine g_iaddN (by decide +kernel : decode prog_10_method_6_code 12 = .ok (.iadd, 1)) ?_
  refine g_iaload (a := 19 + 6 * o + w) (by decide +kernel : decode prog_10_method_6_code 13 = .ok (.iaload, 1)) rfl rfl (by omega) (by decide) ?_
  exact g_iret hR (by decide +kernel : decode prog_10_method_6_code 14 = .ok (.ireturn, 1)) rfl ⟨_, rfl, ⟨hv, rfl⟩⟩
set_option maxRecDepth 20000 in
theorem m_becomes (σ : Store) (a : Nat) (x : Int32) {v : Int32} (hv : σ 1 a = v) (hb : a < 67) : Ct ΛM mt_Md_becomes 0 [.ref 0, .int (nI a), .int x] σ (PF v (s_up σ 1 a x)) := by
  refine Ct.of (by decide) (Nat.le_of_ble_eq_true rfl) (fun X hR => ?_)
  show G (ΛM, mt_Md_becomes, 0) X σ [some (.ref 0), some (.int (nI a)), some (.int x), none] [] 0
  refine g_aload_n (by decide +kernel : decode prog_10_method_7_code 0 = .ok (.aload_n 0, 1)) rfl ?_
  refine g_getR (by decide +kernel : decode prog_10_method_7_code 1 = .ok (.getfield 7, 3)) fl_Md_7 rfl rfl ?_
  refine g_iload_n (by decide +kernel : decode prog_10_method_7_code 4 = .ok (.iload_n 1, 1)) rfl ?_
  refine g_iaload (a := a) (by decide +kernel : decode prog_10_method_7_code 5 = .ok (.iaload, 1)) rfl rfl (by omega) (by decide) ?_
  refine g_istore_n (L' := [some (.ref 0), some (.int (nI a)), some (.int x), some (.int (σ 1 a))]) (by decide +kernel : decode prog_10_method_7_code 6 = .ok (.istore_n 3, 1)) (Nat.le_of_ble_eq_true rfl) rfl ?_
  refine g_aload_n (by decide +kernel : decode prog_10_method_7_code 7 = .ok (.aload_n 0, 1)) rfl ?_
  refine g_getR (by decide +kernel : decode prog_10_method_7_code 8 = .ok (.getfield 7, 3)) fl_Md_7 rfl rfl ?_
  refine g_iload_n (by decide +kernel : decode prog_10_method_7_code 11 = .ok (.iload_n 1, 1)) rfl ?_
  refine g_iload_n (by decide +kernel : decode prog_10_method_7_code 12 = .ok (.iload_n 2, 1)) rfl ?_
  refine g_iastore (a := a) (by decide +kernel : decode prog_10_method_7_code 13 = .ok (.iastore, 1)) rfl rfl (by omega) (by decide) ?_
  refine g_iload_n (by decide +kernel : decode prog_10_method_7_code 14 = .ok (.iload_n 3, 1)) rfl ?_
  exact g_iret hR (by decide +kernel : decode prog_10_method_7_code 15 = .ok (.ireturn, 1)) rfl ⟨_, rfl, ⟨hv, rfl⟩⟩
set_option maxRecDepth 20000 in
theorem m_least (Λ : Lay) (σ : Store) (x y : Int32) : Ct Λ mt_Md_least 0 [.int x, .int y] σ (PF (if x < y then x else y) σ) := by
  refine Ct.of (by decide) (Nat.le_of_ble_eq_true rfl) (fun X hR => ?_)
  show G (Λ, mt_Md_least, 0) X σ [some (.int x), some (.int y)] [] 0
  refine g_iload_n (by decide +kernel : decode prog_10_method_9_code 0 = .ok (.iload_n 0, 1)) rfl ?_
  refine g_iload_n (by decide +kernel : decode prog_10_method_9_code 1 = .ok (.iload_n 1, 1)) rfl ?_
  refine g_icmp_ge (tgt := 9) (by decide +kernel : decode prog_10_method_9_code 2 = .ok (.if_icmp .ge 7, 3)) (by decide) (fun h2 => ?_) (fun h2 => ?_)
  · refine g_iload_n (by decide +kernel : decode prog_10_method_9_code 9 = .ok (.iload_n 1, 1)) rfl ?_
    exact g_iret hR (by decide +kernel : decode prog_10_method_9_code 10 = .ok (.ireturn, 1)) rfl ⟨_, rfl, ⟨by simp [Int32.not_lt.mpr h2], rfl⟩⟩
  · refine g_iload_n (by decide +kernel : decode prog_10_method_9_code 5 = .ok (.iload_n 0, 1)) rfl ?_
    refine g_goto (tgt := 10) (by decide +kernel : decode prog_10_method_9_code 6 = .ok (.goto 4, 3)) (by decide) ?_
    exact g_iret hR (by decide +kernel : decode prog_10_method_9_code 10 = .ok (.ireturn, 1)) rfl ⟨_, rfl, ⟨by simp [Int32.not_le.mp h2], rfl⟩⟩
set_option maxRecDepth 20000 in
theorem m_within (Λ : Lay) (σ : Store) (x : Int32) : Ct Λ mt_Md_within 0 [.int x] σ (PF (if 0 ≤ x then (if x ≤ nI 9 then x else nI 9) else nI 0) σ) := by
  refine Ct.of (by decide) (Nat.le_of_ble_eq_true rfl) (fun X hR => ?_)
  show G (Λ, mt_Md_within, 0) X σ [some (.int x)] [] 0
  refine g_iload_n (by decide +kernel : decode prog_10_method_10_code 0 = .ok (.iload_n 0, 1)) rfl ?_
  refine g_if_ge (tgt := 8) (by decide +kernel : decode prog_10_method_10_code 1 = .ok (.ifCond .ge 7, 3)) (by decide) (fun h1 => ?_) (fun h1 => ?_)
  · refine g_iload_n (by decide +kernel : decode prog_10_method_10_code 8 = .ok (.iload_n 0, 1)) rfl ?_
    refine g_bipush (v := nI 9) (by decide +kernel : decode prog_10_method_10_code 9 = .ok (.bipush 9, 2)) (by decide) ?_
    refine g_icmp_le (tgt := 19) (by decide +kernel : decode prog_10_method_10_code 11 = .ok (.if_icmp .le 8, 3)) (by decide) (fun h11 => ?_) (fun h11 => ?_)
    · refine g_iload_n (by decide +kernel : decode prog_10_method_10_code 19 = .ok (.iload_n 0, 1)) rfl ?_
      exact g_iret hR (by decide +kernel : decode prog_10_method_10_code 20 = .ok (.ireturn, 1)) rfl ⟨_, rfl, ⟨by simp only [h1, h11, ↓reduceIte, not_true_eq_false, not_false_eq_true, false_or, true_or, or_true, or_false, and_true, true_and, false_and, and_false], rfl⟩⟩
    · refine g_bipush (v := nI 9) (by decide +kernel : decode prog_10_method_10_code 14 = .ok (.bipush 9, 2)) (by decide) ?_
      refine g_goto (tgt := 20) (by decide +kernel : decode prog_10_method_10_code 16 = .ok (.goto 4, 3)) (by decide) ?_
      exact g_iret hR (by decide +kernel : decode prog_10_method_10_code 20 = .ok (.ireturn, 1)) rfl ⟨_, rfl, ⟨by simp only [h1, h11, ↓reduceIte, not_true_eq_false, not_false_eq_true, false_or, true_or, or_true, or_false, and_true, true_and, false_and, and_false], rfl⟩⟩
  · refine g_iconst (v := nI 0) (by decide +kernel : decode prog_10_method_10_code 4 = .ok (.iconst 0, 1)) (by decide) ?_
    refine g_goto (tgt := 20) (by decide +kernel : decode prog_10_method_10_code 5 = .ok (.goto 15, 3)) (by decide) ?_
    exact g_iret hR (by decide +kernel : decode prog_10_method_10_code 20 = .ok (.ireturn, 1)) rfl ⟨_, rfl, ⟨by simp only [h1, ↓reduceIte, not_true_eq_false, not_false_eq_true, false_or, true_or, or_true, or_false, and_true, true_and, false_and, and_false], rfl⟩⟩
set_option maxRecDepth 20000 in
theorem m_isAlpha (Λ : Lay) (σ : Store) (x : Int32) : Ct Λ mt_Md_isAlpha 0 [.int x] σ (PB σ (97 ≤ x ∧ x ≤ 122)) := by
  refine Ct.of (by decide) (Nat.le_of_ble_eq_true rfl) (fun X hR => ?_)
  show G (Λ, mt_Md_isAlpha, 0) X σ [some (.int x)] [] 0
  refine g_iload_n (by decide +kernel : decode prog_10_method_14_code 0 = .ok (.iload_n 0, 1)) rfl ?_
  refine g_bipush (v := nI 97) (by decide +kernel : decode prog_10_method_14_code 1 = .ok (.bipush 97, 2)) (by decide) ?_
  refine g_icmp_lt (tgt := 16) (by decide +kernel : decode prog_10_method_14_code 3 = .ok (.if_icmp .lt 13, 3)) (by decide) (fun h3 => ?_) (fun h3 => ?_)
  · refine g_iconst (v := nI 0) (by decide +kernel : decode prog_10_method_14_code 16 = .ok (.iconst 0, 1)) (by decide) ?_
    exact g_zret hR (by decide +kernel : decode prog_10_method_14_code 17 = .ok (.ireturn, 1)) rfl (by decide) ⟨_, rfl, ⟨rfl, Or.inr ⟨rfl, by intro q; first | exact absurd q.1 (Int32.not_le.mpr (by assumption)) | exact absurd q.2 (Int32.not_le.mpr (by assumption)) | (simp_all; done)⟩⟩⟩
  · refine g_iload_n (by decide +kernel : decode prog_10_method_14_code 6 = .ok (.iload_n 0, 1)) rfl ?_
    refine g_bipush (v := nI 122) (by decide +kernel : decode prog_10_method_14_code 7 = .ok (.bipush 122, 2)) (by decide) ?_
    refine g_icmp_gt (tgt := 16) (by decide +kernel : decode prog_10_method_14_code 9 = .ok (.if_icmp .gt 7, 3)) (by decide) (fun h9 => ?_) (fun h9 => ?_)
    · refine g_iconst (v := nI 0) (by decide +kernel : decode prog_10_method_14_code 16 = .ok (.iconst 0, 1)) (by decide) ?_
      exact g_zret hR (by decide +kernel : decode prog_10_method_14_code 17 = .ok (.ireturn, 1)) rfl (by decide) ⟨_, rfl, ⟨rfl, Or.inr ⟨rfl, by intro q; first | exact absurd q.1 (Int32.not_le.mpr (by assumption)) | exact absurd q.2 (Int32.not_le.mpr (by assumption)) | (simp_all; done)⟩⟩⟩
    · refine g_iconst (v := nI 1) (by decide +kernel : decode prog_10_method_14_code 12 = .ok (.iconst 1, 1)) (by decide) ?_
      refine g_goto (tgt := 17) (by decide +kernel : decode prog_10_method_14_code 13 = .ok (.goto 4, 3)) (by decide) ?_
      exact g_zret hR (by decide +kernel : decode prog_10_method_14_code 17 = .ok (.ireturn, 1)) rfl (by decide) ⟨_, rfl, ⟨rfl, Or.inl ⟨rfl, by refine ⟨?_, ?_⟩ <;> first | exact Int32.not_lt.mp (by assumption) | assumption⟩⟩⟩
set_option maxRecDepth 20000 in
theorem m_isDigit (Λ : Lay) (σ : Store) (x : Int32) : Ct Λ mt_Md_isDigit 0 [.int x] σ (PB σ (48 ≤ x ∧ x ≤ 57)) := by
  refine Ct.of (by decide) (Nat.le_of_ble_eq_true rfl) (fun X hR => ?_)
  show G (Λ, mt_Md_isDigit, 0) X σ [some (.int x)] [] 0
  refine g_iload_n (by decide +kernel : decode prog_10_method_15_code 0 = .ok (.iload_n 0, 1)) rfl ?_
  refine g_bipush (v := nI 48) (by decide +kernel : decode prog_10_method_15_code 1 = .ok (.bipush 48, 2)) (by decide) ?_
  refine g_icmp_lt (tgt := 16) (by decide +kernel : decode prog_10_method_15_code 3 = .ok (.if_icmp .lt 13, 3)) (by decide) (fun h3 => ?_) (fun h3 => ?_)
  · refine g_iconst (v := nI 0) (by decide +kernel : decode prog_10_method_15_code 16 = .ok (.iconst 0, 1)) (by decide) ?_
    exact g_zret hR (by decide +kernel : decode prog_10_method_15_code 17 = .ok (.ireturn, 1)) rfl (by decide) ⟨_, rfl, ⟨rfl, Or.inr ⟨rfl, by intro q; first | exact absurd q.1 (Int32.not_le.mpr (by assumption)) | exact absurd q.2 (Int32.not_le.mpr (by assumption)) | (simp_all; done)⟩⟩⟩
  · refine g_iload_n (by decide +kernel : decode prog_10_method_15_code 6 = .ok (.iload_n 0, 1)) rfl ?_
    refine g_bipush (v := nI 57) (by decide +kernel : decode prog_10_method_15_code 7 = .ok (.bipush 57, 2)) (by decide) ?_
    refine g_icmp_gt (tgt := 16) (by decide +kernel : decode prog_10_method_15_code 9 = .ok (.if_icmp .gt 7, 3)) (by decide) (fun h9 => ?_) (fun h9 => ?_)
    · refine g_iconst (v := nI 0) (by decide +kernel : decode prog_10_method_15_code 16 = .ok (.iconst 0, 1)) (by decide) ?_
      exact g_zret hR (by decide +kernel : decode prog_10_method_15_code 17 = .ok (.ireturn, 1)) rfl (by decide) ⟨_, rfl, ⟨rfl, Or.inr ⟨rfl, by intro q; first | exact absurd q.1 (Int32.not_le.mpr (by assumption)) | exact absurd q.2 (Int32.not_le.mpr (by assumption)) | (simp_all; done)⟩⟩⟩
    · refine g_iconst (v := nI 1) (by decide +kernel : decode prog_10_method_15_code 12 = .ok (.iconst 1, 1)) (by decide) ?_
      refine g_goto (tgt := 17) (by decide +kernel : decode prog_10_method_15_code 13 = .ok (.goto 4, 3)) (by decide) ?_
      exact g_zret hR (by decide +kernel : decode prog_10_method_15_code 17 = .ok (.ireturn, 1)) rfl (by decide) ⟨_, rfl, ⟨rfl, Or.inl ⟨rfl, by refine ⟨?_, ?_⟩ <;> first | exact Int32.not_lt.mp (by assumption) | assumption⟩⟩⟩
set_option maxRecDepth 20000 in
theorem m_mostOf (Λ : Lay) (σ : Store) (x : Int32) : Ct Λ mt_Md_mostOf 0 [.int x] σ (PF (if x = 0 then nI 99 else if x = nI 3 then nI 99 else nI 9) σ) := by
  refine Ct.of (by decide) (Nat.le_of_ble_eq_true rfl) (fun X hR => ?_)
  show G (Λ, mt_Md_mostOf, 0) X σ [some (.int x)] [] 0
  refine g_iload_n (by decide +kernel : decode prog_10_method_32_code 0 = .ok (.iload_n 0, 1)) rfl ?_
  refine g_if_eq (tgt := 9) (by decide +kernel : decode prog_10_method_32_code 1 = .ok (.ifCond .eq 8, 3)) (by decide) (fun h1 => ?_) (fun h1 => ?_)
  · refine g_bipush (v := nI 99) (by decide +kernel : decode prog_10_method_32_code 9 = .ok (.bipush 99, 2)) (by decide) ?_
    refine g_goto (tgt := 16) (by decide +kernel : decode prog_10_method_32_code 11 = .ok (.goto 5, 3)) (by decide) ?_
    exact g_iret hR (by decide +kernel : decode prog_10_method_32_code 16 = .ok (.ireturn, 1)) rfl ⟨_, rfl, ⟨by first | rw [if_pos h1] | rw [if_neg h1, if_pos h6] | rw [if_neg h1, if_neg h6], rfl⟩⟩
  · refine g_iload_n (by decide +kernel : decode prog_10_method_32_code 4 = .ok (.iload_n 0, 1)) rfl ?_
    refine g_iconst (v := nI 3) (by decide +kernel : decode prog_10_method_32_code 5 = .ok (.iconst 3, 1)) (by decide) ?_
    refine g_icmp_ne (tgt := 14) (by decide +kernel : decode prog_10_method_32_code 6 = .ok (.if_icmp .ne 8, 3)) (by decide) (fun h6 => ?_) (fun h6 => ?_)
    · refine g_bipush (v := nI 9) (by decide +kernel : decode prog_10_method_32_code 14 = .ok (.bipush 9, 2)) (by decide) ?_
      exact g_iret hR (by decide +kernel : decode prog_10_method_32_code 16 = .ok (.ireturn, 1)) rfl ⟨_, rfl, ⟨by first | rw [if_pos h1] | rw [if_neg h1, if_pos h6] | rw [if_neg h1, if_neg h6], rfl⟩⟩
    · refine g_bipush (v := nI 99) (by decide +kernel : decode prog_10_method_32_code 9 = .ok (.bipush 99, 2)) (by decide) ?_
      refine g_goto (tgt := 16) (by decide +kernel : decode prog_10_method_32_code 11 = .ok (.goto 5, 3)) (by decide) ?_
      exact g_iret hR (by decide +kernel : decode prog_10_method_32_code 16 = .ok (.ireturn, 1)) rfl ⟨_, rfl, ⟨by first | rw [if_pos h1] | rw [if_neg h1, if_pos h6] | rw [if_neg h1, if_neg h6], rfl⟩⟩
def popF : Nat → Nat → Nat
  | 0, _ => 0
  | f + 1, a => if a = 0 then 0 else 1 + popF f (a &&& (a - 1))
def popc (a : Nat) : Nat := popF 13 a
theorem popc_0 : popc 0 = 0 := rfl
set_option maxRecDepth 100000 in
theorem popc_s0 : ∀ a : Fin 4096, a.val ≠ 0 → popc a.val = 1 + popc (a.val &&& (a.val - 1)) := by decide +kernel
theorem popc_s {a : Nat} (h : a < 4096) (h0 : a ≠ 0) : popc a = 1 + popc (a &&& (a - 1)) := popc_s0 ⟨a, h⟩ h0
theorem and_pred_lt {a : Nat} (h0 : a ≠ 0) : a &&& (a - 1) < a := Nat.lt_of_le_of_lt Nat.and_le_right (by omega)
theorem nI_and (a b : Nat) : nI a &&& nI b = nI (a &&& b) := by
  apply Int32.toBitVec_inj.mp
  show BitVec.ofNat 32 a &&& BitVec.ofNat 32 b = BitVec.ofNat 32 (a &&& b)
  exact (BitVec.ofNat_and).symm
theorem popF_le : ∀ f a, popF f a ≤ f := by
  intro f
  induction f with
  | zero => intro a; exact Nat.le_refl _
  | succ f ih =>
    intro a
    unfold popF
    split
    · omega
    · have := ih (a &&& (a - 1)); omega
theorem popc_le (a : Nat) : popc a ≤ 13 := popF_le 13 a
set_option maxRecDepth 20000 in
theorem m_size_lp {Λ : Lay} {X : CX} {σ : Store} {t : Nat} : ∀ (b a c : Nat), a < b → a < 4096 → c + popc a = t → t < 1000 → Rt (Λ, mt_Md_size, 0) (PF (nI t) σ) X → G (Λ, mt_Md_size, 0) X σ [none, some (.int (nI c)), some (.int (nI a))] [] 4 := by
  intro b
  induction b with
  | zero => intro a c h; omega
  | succ b ih =>
  intro a c hb ha hc ht hR
  refine g_iload_n (by decide +kernel : decode prog_10_method_11_code 4 = .ok (.iload_n 2, 1)) rfl ?_
  refine g_if_eqN (tgt := 20) (by decide +kernel : decode prog_10_method_11_code 5 = .ok (.ifCond .eq 15, 3)) (by decide) (by omega) (fun h5 => ?_) (fun h5 => ?_)
  · refine g_iload_n (by decide +kernel : decode prog_10_method_11_code 20 = .ok (.iload_n 1, 1)) rfl ?_
    exact g_iret hR (by decide +kernel : decode prog_10_method_11_code 21 = .ok (.ireturn, 1)) rfl ⟨_, rfl, ⟨by rw [← hc, h5, popc_0]; rfl, rfl⟩⟩
  · refine g_iincN (n := 1) (L' := [none, some (.int (nI (c + 1))), some (.int (nI a))]) (by decide +kernel : decode prog_10_method_11_code 8 = .ok (.iinc 1 1, 3)) rfl (by decide) (Nat.le_of_ble_eq_true rfl) rfl ?_
    refine g_iload_n (by decide +kernel : decode prog_10_method_11_code 11 = .ok (.iload_n 2, 1)) rfl ?_
    refine g_iload_n (by decide +kernel : decode prog_10_method_11_code 12 = .ok (.iload_n 2, 1)) rfl ?_
    refine g_iconst (v := nI 1) (by decide +kernel : decode prog_10_method_11_code 13 = .ok (.iconst 1, 1)) (by decide) ?_
    refine g_isubN (by decide +kernel : decode prog_10_method_11_code 14 = .ok (.isub, 1)) (by omega) ?_
    refine g_iand (by decide +kernel : decode prog_10_method_11_code 15 = .ok (.iand, 1)) ?_
    refine g_top (w := nI (a &&& (a - 1))) (nI_and _ _) ?_
    refine g_istore_n (L' := [none, some (.int (nI (c + 1))), some (.int (nI (a &&& (a - 1))))]) (by decide +kernel : decode prog_10_method_11_code 16 = .ok (.istore_n 2, 1)) (Nat.le_of_ble_eq_true rfl) rfl ?_
    refine g_goto (tgt := 4) (by decide +kernel : decode prog_10_method_11_code 17 = .ok (.goto (-13), 3)) (by decide) ?_
    exact ih _ _ (Nat.lt_of_lt_of_le (and_pred_lt h5) (by omega)) (Nat.lt_trans (and_pred_lt h5) ha) (by rw [← hc, popc_s ha h5]; omega) ht hR
set_option maxRecDepth 20000 in
theorem m_size (Λ : Lay) (σ : Store) (a : Nat) (ha : a < 4096) : Ct Λ mt_Md_size 0 [.int (nI a)] σ (PF (nI (popc a)) σ) := by
  refine Ct.of (by decide) (Nat.le_of_ble_eq_true rfl) (fun X hR => ?_)
  show G (Λ, mt_Md_size, 0) X σ [some (.int (nI a)), none, none] [] 0
  refine g_iconst (v := nI 0) (by decide +kernel : decode prog_10_method_11_code 0 = .ok (.iconst 0, 1)) (by decide) ?_
  refine g_istore_n (L' := [some (.int (nI a)), some (.int (nI 0)), none]) (by decide +kernel : decode prog_10_method_11_code 1 = .ok (.istore_n 1, 1)) (Nat.le_of_ble_eq_true rfl) rfl ?_
  refine g_iload_n (by decide +kernel : decode prog_10_method_11_code 2 = .ok (.iload_n 0, 1)) rfl ?_
  refine g_istore_n (L' := [some (.int (nI a)), some (.int (nI 0)), some (.int (nI a))]) (by decide +kernel : decode prog_10_method_11_code 3 = .ok (.istore_n 2, 1)) (Nat.le_of_ble_eq_true rfl) rfl ?_
  exact g_sub (L' := [none, some (.int (nI 0)), some (.int (nI a))]) ⟨rfl, rfl, trivial⟩ (m_size_lp (a + 1) a 0 (by omega) ha (by omega) (by have := popc_le a; omega) hR)
end
section
/-! THE MATHEMATICS of a park, on the reference's row of numbers -/
def tn (x : Int32) : Nat := x.toNatClampNeg
theorem tn_nI {a : Nat} (h : a < 2 ^ 31) : tn (nI a) = a := nI_clamp h
def Rng (x : Int32) (m : Nat) : Prop := ∃ k, k ≤ m ∧ x = nI k
theorem Rng.e {x : Int32} {m : Nat} (h : Rng x m) (hm : m < 2 ^ 31 := by decide) : x = nI (tn x) ∧ tn x ≤ m := by
  obtain ⟨k, h1, rfl⟩ := h
  rw [tn_nI (by omega)]
  exact ⟨rfl, h1⟩
theorem Rng.of {k m : Nat} (h : k ≤ m) : Rng (nI k) m := ⟨k, h, rfl⟩
theorem Rng.le {x : Int32} {m m' : Nat} (h : Rng x m) (hm : m ≤ m') : Rng x m' := by
  obtain ⟨k, h1, rfl⟩ := h
  exact ⟨k, by omega, rfl⟩
def mx (w : Nat) : Nat := match w with
  | 0 => 5
  | 1 => 99
  | 2 => 9
  | 3 => 11
  | 4 => 1
  | _ => 99
def lm (i : Nat) : Nat := match i with
  | 0 => 99
  | 1 => 9
  | 2 => 9
  | _ => 99
abbrev Row : Type := Nat → Int32
abbrev nn (f : Row) : Nat := tn (f 0)
/-- the row holds numbers as the document has them -/
def Inv (f : Row) : Prop := Rng (f 0) 8 ∧ (∀ o, o < nn f → ∀ w, w < 6 → Rng (f (19 + 6 * o + w)) (mx w)) ∧ (∀ i, i < 4 → Rng (f (3 + i)) (lm i)) ∧ (∀ p, p < 12 → Rng (f (7 + p)) 9)
theorem Inv.n {f : Row} (h : Inv f) : f 0 = nI (nn f) ∧ nn f ≤ 8 := h.1.e
theorem mx_lt (w : Nat) : mx w < 2 ^ 31 := by unfold mx; split <;> decide
theorem Inv.p {f : Row} (h : Inv f) {o : Nat} (ho : o < nn f) (w : Nat) (hw : w < 6 := by decide) : f (19 + 6 * o + w) = nI (tn (f (19 + 6 * o + w))) ∧ tn (f (19 + 6 * o + w)) ≤ mx w := (h.2.1 o ho w hw).e (mx_lt w)
theorem upd_s {f : Row} {k : Nat} {v : Int32} : upd f k v k = v := pk_us
theorem upd_n {f : Row} {k j : Nat} {v : Int32} (h : j ≠ k) : upd f k v j = f j := pk_un h
theorem upd_upd {f : Row} {k : Nat} {v w : Int32} : upd (upd f k v) k w = upd f k w := by
  funext j; unfold upd; split <;> simp_all
theorem upd_self {f : Row} {k : Nat} : upd f k (f k) = f := by
  funext j; unfold upd; split <;> simp_all
theorem upd_comm {f : Row} {i k : Nat} {v w : Int32} (h : i ≠ k) : upd (upd f i v) k w = upd (upd f k w) i v := by
  funext j; unfold upd
  by_cases h1 : j = k
  · subst h1; simp [Ne.symm h]
  · simp [h1]
theorem Inv.up {f : Row} (h : Inv f) {o w : Nat} {v : Int32} (hw : w < 6) (hv : Rng v (mx w)) : Inv (upd f (19 + 6 * o + w) v) := by
  have h0 : upd f (19 + 6 * o + w) v 0 = f 0 := upd_n (by omega)
  refine ⟨by rw [h0]; exact h.1, fun o' ho' w' hw' => ?_, fun i hi => by rw [upd_n (by omega)]; exact h.2.2.1 i hi, fun p hp => by rw [upd_n (by omega)]; exact h.2.2.2 p hp⟩
  have ho2 : o' < nn f := by
    have : nn (upd f (19 + 6 * o + w) v) = nn f := by show tn _ = tn _; rw [h0]
    omega
  by_cases e : 19 + 6 * o' + w' = 19 + 6 * o + w
  · have e1 : w' = w := by omega
    rw [e, upd_s, e1]; exact hv
  · rw [upd_n e]; exact h.2.1 o' ho2 w' hw'
theorem nn_up {f : Row} {k : Nat} {v : Int32} (h : k ≠ 0) : nn (upd f k v) = nn f := by show tn _ = tn _; rw [upd_n (Ne.symm h)]
theorem Inv.yr {f : Row} (h : Inv f) (v : Int32) : Inv (upd f 1 v) := by
  have h0 : upd f 1 v 0 = f 0 := upd_n (by decide)
  refine ⟨by rw [h0]; exact h.1, fun o' ho' w' hw' => ?_, fun i hi => by rw [upd_n (by omega)]; exact h.2.2.1 i hi, fun p hp => by rw [upd_n (by omega)]; exact h.2.2.2 p hp⟩
  rw [upd_n (by omega)]
  exact h.2.1 o' (by have := nn_up (f := f) (k := 1) (v := v) (by decide); omega) w' hw'
theorem Inv.z {f : Row} (h : Inv f) (v : Int32) : Inv (upd f 2 v) := by
  have h0 : upd f 2 v 0 = f 0 := upd_n (by decide)
  refine ⟨by rw [h0]; exact h.1, fun o' ho' w' hw' => ?_, fun i hi => by rw [upd_n (by omega)]; exact h.2.2.1 i hi, fun p hp => by rw [upd_n (by omega)]; exact h.2.2.2 p hp⟩
  rw [upd_n (by omega)]
  exact h.2.1 o' (by have := nn_up (f := f) (k := 2) (v := v) (by decide); omega) w' hw'
theorem Inv.law {f : Row} (h : Inv f) {i : Nat} {v : Int32} (hi : i < 4) (hv : Rng v (lm i)) : Inv (upd f (3 + i) v) := by
  have h0 : upd f (3 + i) v 0 = f 0 := upd_n (by omega)
  refine ⟨by rw [h0]; exact h.1, fun o' ho' w' hw' => ?_, fun j hj => ?_, fun p hp => by rw [upd_n (by omega)]; exact h.2.2.2 p hp⟩
  · rw [upd_n (by omega)]
    exact h.2.1 o' (by have := nn_up (f := f) (k := 3 + i) (v := v) (by omega); omega) w' hw'
  · by_cases e : j = i
    · subst e; rw [upd_s]; exact hv
    · rw [upd_n (by omega)]; exact h.2.2.1 j hj
theorem Inv.cov {f : Row} (h : Inv f) {p : Nat} {v : Int32} (hi : p < 12) (hv : Rng v 9) : Inv (upd f (7 + p) v) := by
  have h0 : upd f (7 + p) v 0 = f 0 := upd_n (by omega)
  refine ⟨by rw [h0]; exact h.1, fun o' ho' w' hw' => ?_, fun j hj => by rw [upd_n (by omega)]; exact h.2.2.1 j hj, fun j hp => ?_⟩
  · rw [upd_n (by omega)]
    exact h.2.1 o' (by have := nn_up (f := f) (k := 7 + p) (v := v) (by omega); omega) w' hw'
  · by_cases e : j = p
    · subst e; rw [upd_s]; exact hv
    · rw [upd_n (by omega)]; exact h.2.2.2 j hp
-- what one does
def hidesF (f : Row) (o : Nat) : Int32 :=
  let c := f (7 + tn (f (19 + 6 * o + 3))) + f (19 + 6 * o + 2)
  match tn (f (19 + 6 * o + 0)) with
  | 1 => c / nI 2
  | 2 => c - nI 3
  | 3 => c / nI 2 + nI 2
  | 4 => c - nI 3 + f (19 + 6 * o + 1) / nI 10
  | 5 => c + f 4
  | _ => c
def seesF (f : Row) (o : Nat) : Int32 :=
  let c := nI 3 + f (19 + 6 * o + 2)
  match tn (f (19 + 6 * o + 0)) with
  | 1 => c + f 5
  | 2 => c + nI 4
  | 3 => nI 2 * (c + f 5)
  | 4 => c + nI 4 - f 4
  | 5 => if f 1 - f 1 / nI 2 * nI 2 = 0 then c else nI 0
  | _ => c
def stridesF (f : Row) (o : Nat) : Int32 :=
  match tn (f (19 + 6 * o + 0)) with
  | 1 => nI 2
  | 2 => -1
  | 3 => nI 3
  | 4 => -2
  | 5 => nI 0
  | _ => nI 1
def lst (x y : Int32) : Int32 := if x < y then x else y
def grow1 (f : Row) (o : Nat) : Row :=
  let g := upd f (19 + 6 * o + 1) (lst (nI 99) (f (19 + 6 * o + 1) + nI 1))
  upd g (19 + 6 * o + 4) (if g (19 + 6 * o + 1) < g 3 then g (19 + 6 * o + 4) else nI 0)
def growN (f : Row) : Nat → Row
  | 0 => f
  | k + 1 => grow1 (growN f k) k
/-- those hidden, as a set -/
def msk (f : Row) : Nat → Nat
  | 0 => 0
  | k + 1 => msk f k + tn (f (19 + 6 * k + 4)) * 2 ^ k
def go1 (f : Row) (o : Nat) : Row :=
  let v := f (19 + 6 * o + 3) + stridesF f o + nI 12
  upd f (19 + 6 * o + 3) (v - v / nI 12 * nI 12)
def isQ (f : Row) (o q : Nat) : Prop := f (19 + 6 * q + 4) = nI 1 ∧ f (19 + 6 * q + 3) = f (19 + 6 * o + 3) ∧ hidesF f q < seesF f o
def findQ (f : Row) (o : Nat) : Nat → Nat → Option Nat
  | 0, _ => none
  | k + 1, q => if f (19 + 6 * q + 4) = nI 1 ∧ f (19 + 6 * q + 3) = f (19 + 6 * o + 3) ∧ hidesF f q < seesF f o then some q else findQ f o k (q + 1)
def fnd (f : Row) (o q : Nat) : Row :=
  let g := upd (upd f (19 + 6 * q + 4) (nI 0)) (19 + 6 * o + 4) (nI 1)
  upd g (19 + 6 * o + 5) (lst (nI 99) (g (19 + 6 * o + 5) + nI 1))
def seekF (f : Row) (o : Nat) : Option Nat → Row
  | none => f
  | some q => fnd f o q
def seekB (b : Row) (o : Nat) : Option Nat → Row
  | none => b
  | some q => upd b q (nI o)
def seekQ (f : Row) (o : Nat) (may : Bool) : Option Nat := if may then findQ (go1 f o) o (nn f) 0 else none
/-- the seekers in their order: h those hidden as the walk begins, m those who may find -/
def seekN (m h : Nat) (f b : Row) : Nat → Row × Row
  | 0 => (f, b)
  | k + 1 => let r := seekN m h f b k
    if h.testBit k then r else (seekF (go1 r.1 k) k (seekQ r.1 k (m.testBit k)), seekB r.2 k (seekQ r.1 k (m.testBit k)))
def rstB (b : Row) : Nat → Row
  | 0 => b
  | k + 1 => upd (rstB b k) k (-1)
/-- a year in which just those of m may find -/
def yr (m : Nat) (f b : Row) : Row × Row :=
  let n := nn f
  let g := growN f n
  let r := seekN m (msk g n) g (rstB b n) n
  (upd r.1 1 (r.1 1 + nI 1), r.2)
-- sizes
theorem lst_rng {x : Int32} (h : Rng x 99) : Rng (lst (nI 99) (x + nI 1)) 99 := by
  obtain ⟨k, hk, rfl⟩ := h
  rw [nI_add]
  unfold lst
  split
  · exact Rng.of (by decide)
  · rename_i h
    exact Rng.of (by have := mt (nI_ltI (a := 99) (b := k + 1) (by decide) (by omega)).mpr h; omega)
theorem grow1_0 (f : Row) (o : Nat) : nn (grow1 f o) = nn f := by
  unfold grow1; dsimp only; rw [nn_up (by omega), nn_up (by omega)]
theorem grow1_inv {f : Row} (h : Inv f) {o : Nat} (ho : o < nn f) : Inv (grow1 f o) := by
  unfold grow1
  dsimp only
  have h1 := h.up (o := o) (w := 1) (by decide) (lst_rng (h.2.1 o ho 1 (by decide)))
  refine h1.up (by decide) ?_
  split
  · exact h1.2.1 o (by rw [nn_up (by omega)]; exact ho) 4 (by decide)
  · exact Rng.of (by decide)
theorem growN_inv {f : Row} (h : Inv f) : ∀ k, k ≤ nn f → Inv (growN f k) ∧ nn (growN f k) = nn f := by
  intro k
  induction k with
  | zero => intro _; exact ⟨h, rfl⟩
  | succ k ih =>
    intro hk
    obtain ⟨h1, h2⟩ := ih (by omega)
    exact ⟨grow1_inv h1 (by omega), (grow1_0 _ _).trans h2⟩
theorem tmod12 : ∀ a : Fin 12, ∀ k : Fin 6, let s := (match k.val with
    | 1 => nI 2
    | 2 => (-1 : Int32)
    | 3 => nI 3
    | 4 => -2
    | 5 => nI 0
    | _ => nI 1)
    let v := nI a.val + s + nI 12
    ∃ b : Fin 12, v - v / nI 12 * nI 12 = nI b.val := by decide +kernel
theorem go1_rng {f : Row} (h : Inv f) {o : Nat} (ho : o < nn f) : Rng (let v := f (19 + 6 * o + 3) + stridesF f o + nI 12
    v - v / nI 12 * nI 12) 11 := by
  obtain ⟨e0, l0⟩ := h.p ho 0
  obtain ⟨e3, l3⟩ := h.p ho 3
  obtain ⟨b, hb⟩ := tmod12 ⟨tn (f (19 + 6 * o + 3)), by show _ < 12; have : mx 3 = 11 := rfl; omega⟩ ⟨tn (f (19 + 6 * o + 0)), by show _ < 6; have : mx 0 = 5 := rfl; omega⟩
  refine ⟨b.val, by have := b.isLt; omega, ?_⟩
  rw [← hb]
  rw [← e3]
  rfl
theorem go1_inv {f : Row} (h : Inv f) {o : Nat} (ho : o < nn f) : Inv (go1 f o) ∧ nn (go1 f o) = nn f := by
  unfold go1
  exact ⟨h.up (by decide) (go1_rng h ho), nn_up (by omega)⟩
theorem fnd_inv {f : Row} (h : Inv f) {o q : Nat} (ho : o < nn f) : Inv (fnd f o q) ∧ nn (fnd f o q) = nn f := by
  unfold fnd
  dsimp only
  have h1 := (h.up (o := q) (w := 4) (by decide) (Rng.of (k := 0) (by decide))).up (o := o) (w := 4) (v := nI 1) (by decide) (Rng.of (by decide))
  refine ⟨h1.up (by decide) (lst_rng (h1.2.1 o (by rw [nn_up (by omega), nn_up (by omega)]; exact ho) 5 (by decide))), ?_⟩
  rw [nn_up (by omega), nn_up (by omega), nn_up (by omega)]
theorem findQ_lt {f : Row} {o : Nat} : ∀ k q r, findQ f o k q = some r → q ≤ r ∧ r < q + k := by
  intro k
  induction k with
  | zero => intro q r h; cases h
  | succ k ih =>
    intro q r h
    unfold findQ at h
    split at h
    · cases h; omega
    · have := ih _ _ h; omega
theorem seekF_inv {f : Row} (h : Inv f) {o : Nat} (ho : o < nn f) (r : Option Nat) : Inv (seekF f o r) ∧ nn (seekF f o r) = nn f := by
  cases r with
  | none => exact ⟨h, rfl⟩
  | some q => exact fnd_inv h ho
theorem seekN_inv {m hh : Nat} {f b : Row} (h : Inv f) : ∀ k, k ≤ nn f → Inv (seekN m hh f b k).1 ∧ nn (seekN m hh f b k).1 = nn f := by
  intro k
  induction k with
  | zero => intro _; exact ⟨h, rfl⟩
  | succ k ih =>
    intro hk
    obtain ⟨h1, h2⟩ := ih (by omega)
    unfold seekN
    dsimp only
    split
    · exact ⟨h1, h2⟩
    · have g := go1_inv h1 (o := k) (by omega)
      have g2 := seekF_inv g.1 (o := k) (by omega) (seekQ (seekN m hh f b k).1 k (m.testBit k))
      exact ⟨g2.1, g2.2.trans (g.2.trans h2)⟩
theorem yr_inv {m : Nat} {f b : Row} (h : Inv f) : Inv (yr m f b).1 ∧ nn (yr m f b).1 = nn f := by
  unfold yr
  dsimp only
  have h1 := growN_inv h (nn f) (Nat.le_refl _)
  have h2 := seekN_inv (m := m) (hh := msk (growN f (nn f)) (nn f)) (b := rstB b (nn f)) h1.1 (nn f) (by omega)
  exact ⟨h2.1.yr _, by rw [nn_up (by decide)]; omega⟩
theorem msk_lt {f : Row} : ∀ k, (∀ o, o < k → tn (f (19 + 6 * o + 4)) ≤ 1) → msk f k < 2 ^ k := by
  intro k
  induction k with
  | zero => intro _; show 0 < 1; decide
  | succ k ih =>
    intro h
    have h1 := ih (fun o ho => h o (by omega))
    have h2 := h k (by omega)
    unfold msk
    have h3 : tn (f (19 + 6 * k + 4)) * 2 ^ k ≤ 1 * 2 ^ k := Nat.mul_le_mul_right _ h2
    rw [Nat.pow_succ]; omega
theorem Inv.msk {f : Row} (h : Inv f) {k : Nat} (hk : k ≤ nn f) : msk f k < 2 ^ k := msk_lt k (fun o ho => (h.p (o := o) (by omega) 4).2)
theorem msk_bit {f : Row} : ∀ k, (∀ o, o < k → tn (f (19 + 6 * o + 4)) ≤ 1) → ∀ i, (msk f k).testBit i = (decide (i < k) && decide (tn (f (19 + 6 * i + 4)) = 1)) := by
  intro k
  induction k with
  | zero => intro _ i; simp [msk]
  | succ k ih =>
    intro h i
    have h1 := ih (fun o ho => h o (by omega)) i
    have h2 := h k (by omega)
    have h3 := msk_lt k (fun o ho => h o (by omega))
    unfold msk
    by_cases e : tn (f (19 + 6 * k + 4)) = 1
    · have e9 : msk f k + 1 * 2 ^ k = 2 ^ k ||| msk f k := by
        have := Nat.two_pow_add_eq_or_of_lt h3 1
        rw [Nat.mul_one] at this
        omega
      rw [e, e9, Nat.testBit_or, h1, Nat.testBit_two_pow]
      by_cases hk : k = i
      · subst hk; simp [e]
      · have : (i < k + 1) = (i < k) := by simp; omega
        simp [hk, this]
    · have e0 : tn (f (19 + 6 * k + 4)) = 0 := by omega
      rw [e0, Nat.zero_mul, Nat.add_zero, h1]
      by_cases hk : k = i
      · subst hk; simp [e]
      · have : (i < k + 1) = (i < k) := by simp; omega
        simp [this]
theorem nI_shl1 : ∀ h : Fin 2, ∀ k : Fin 12, nI h.val <<< (nI k.val &&& 31) = nI (h.val * 2 ^ k.val) := by decide +kernel
theorem nI_or (a b : Nat) : nI a ||| nI b = nI (a ||| b) := by
  apply Int32.toBitVec_inj.mp
  show BitVec.ofNat 32 a ||| BitVec.ofNat 32 b = BitVec.ofNat 32 (a ||| b)
  exact (BitVec.ofNat_or).symm
theorem or_add {a h k : Nat} (ha : a < 2 ^ k) (hh : h ≤ 1) : a ||| h * 2 ^ k = a + h * 2 ^ k := by
  rcases (show h = 0 ∨ h = 1 by omega) with rfl | rfl
  · simp
  · rw [Nat.one_mul, Nat.add_comm, Nat.or_comm]
    have := Nat.two_pow_add_eq_or_of_lt ha 1
    simpa using this.symm
/-- bit k of a small set -/
theorem nI_bit {a k : Nat} (ha : a < 2 ^ 31) (hk : k < 31) : nI a >>> (nI k &&& 31) &&& nI 1 = nI (if a.testBit k then 1 else 0) := by
  have e1 : nI a >>> (nI k &&& 31) = nI (a / 2 ^ k) := pk_shrN ha _ k (by
    have : ∀ k : Fin 32, ((nI k.val &&& 31).toBitVec.smod 32).toNat = k.val := by decide +kernel
    exact this ⟨k, by omega⟩)
  rw [e1, nI_and]
  congr 1
  rw [Nat.and_one_is_mod, Nat.testBit_eq_decide_div_mod_eq]
  split
  · rename_i h; simpa using h
  · rename_i h
    have : a / 2 ^ k % 2 ≠ 1 := by simpa using h
    omega
end
section
/-! THE REFERENCE: what one does, sets, a year -/
/-- the reference's store with the row f and the found-by b -/
def mS (σ : Store) (f b : Row) : Store := s_row (s_row σ 1 f) 6 b
theorem mS_u1 (σ : Store) (f b : Row) (i : Nat) (v : Int32) : s_up (mS σ f b) 1 i v = mS σ (upd f i v) b := by
  funext k
  unfold mS s_up s_row
  by_cases h : k = 1
  · subst h; rfl
  · simp [h]
theorem mS_u6 (σ : Store) (f b : Row) (i : Nat) (v : Int32) : s_up (mS σ f b) 6 i v = mS σ f (upd b i v) := by
  funext k
  unfold mS s_up s_row
  by_cases h : k = 6
  · subst h; rfl
  · simp [h]
theorem mS_self (σ : Store) : mS σ (σ 1) (σ 6) = σ := by
  funext k
  unfold mS s_row
  by_cases h : k = 6
  · subst h; rfl
  · by_cases h1 : k = 1
    · subst h1; rfl
    · simp [h, h1]
theorem m_lst (Λ : Lay) (σ : Store) (x y : Int32) : Ct Λ mt_Md_least 0 [.int x, .int y] σ (PF (lst x y) σ) := m_least Λ σ x y
set_option maxRecDepth 20000 in
theorem m_hides (σ : Store) (f b : Row) (hI : Inv f) (o : Nat) (ho : o < nn f) : Ct ΛM mt_Md_hides 1 [.ref 0, .int (nI o)] (mS σ f b) (PF (hidesF f o) (mS σ f b)) := by
  refine Ct.of (by decide) (Nat.le_of_ble_eq_true rfl) (fun X hR => ?_)
  show G (ΛM, mt_Md_hides, 1) X (mS σ f b) [some (.ref 0), some (.int (nI o)), none] [] 0
  obtain ⟨k, hk, ek⟩ := hI.2.1 o ho 0 (by decide)
  have hk6 : k ≤ 5 := hk
  have hn8 := hI.n.2
  have h3 : tn (f (19 + 6 * o + 3)) ≤ 11 := (hI.p ho 3).2
  refine g_aload_n (by decide +kernel : decode prog_10_method_36_code 0 = .ok (.aload_n 0, 1)) rfl ?_
  refine g_getR (by decide +kernel : decode prog_10_method_36_code 1 = .ok (.getfield 7, 3)) fl_Md_7 rfl rfl ?_
  refine g_bipush (v := nI 7) (by decide +kernel : decode prog_10_method_36_code 4 = .ok (.bipush 7, 2)) (by decide) ?_
  refine g_aload_n (by decide +kernel : decode prog_10_method_36_code 6 = .ok (.aload_n 0, 1)) rfl ?_
  refine g_iload_n (by decide +kernel : decode prog_10_method_36_code 7 = .ok (.iload_n 1, 1)) rfl ?_
  refine g_iconst (v := nI 3) (by decide +kernel : decode prog_10_method_36_code 8 = .ok (.iconst 3, 1)) (by decide) ?_
  refine g_callVI [.int (nI o), .int (nI 3)] (by decide +kernel : decode prog_10_method_36_code 9 = .ok (.invokevirtual 169, 3)) lk_Md_169 (m_its (mS σ f b) o 3 (hI.p ho 3).1 (by omega)) rfl rfl rfl rfl (Nat.le_of_ble_eq_true rfl) (Nat.le_of_ble_eq_true rfl) (fun r9 s9 h9 => ?_)
  obtain ⟨rfl, rfl⟩ := h9
  refine g_iaddN (by decide +kernel : decode prog_10_method_36_code 12 = .ok (.iadd, 1)) ?_
  refine g_iaload (a := 7 + (tn (f (19 + 6 * o + 3)))) (by decide +kernel : decode prog_10_method_36_code 13 = .ok (.iaload, 1)) rfl rfl (by omega) (by decide) ?_
  refine g_top (w := f (7 + (tn (f (19 + 6 * o + 3))))) (rfl) ?_
  refine g_aload_n (by decide +kernel : decode prog_10_method_36_code 14 = .ok (.aload_n 0, 1)) rfl ?_
  refine g_iload_n (by decide +kernel : decode prog_10_method_36_code 15 = .ok (.iload_n 1, 1)) rfl ?_
  refine g_iconst (v := nI 2) (by decide +kernel : decode prog_10_method_36_code 16 = .ok (.iconst 2, 1)) (by decide) ?_
  refine g_callVI [.int (nI o), .int (nI 2)] (by decide +kernel : decode prog_10_method_36_code 17 = .ok (.invokevirtual 169, 3)) lk_Md_169 (m_its (mS σ f b) o 2 (v := f (19 + 6 * o + 2)) rfl (by omega)) rfl rfl rfl rfl (Nat.le_of_ble_eq_true rfl) (Nat.le_of_ble_eq_true rfl) (fun r17 s17 h17 => ?_)
  obtain ⟨rfl, rfl⟩ := h17
  refine g_iadd (by decide +kernel : decode prog_10_method_36_code 20 = .ok (.iadd, 1)) ?_
  refine g_istore_n (L' := [some (.ref 0), some (.int (nI o)), some (.int ((f (7 + (tn (f (19 + 6 * o + 3))))) + (f (19 + 6 * o + 2))))]) (by decide +kernel : decode prog_10_method_36_code 21 = .ok (.istore_n 2, 1)) (Nat.le_of_ble_eq_true rfl) rfl ?_
  refine g_aload_n (by decide +kernel : decode prog_10_method_36_code 22 = .ok (.aload_n 0, 1)) rfl ?_
  refine g_iload_n (by decide +kernel : decode prog_10_method_36_code 23 = .ok (.iload_n 1, 1)) rfl ?_
  refine g_iconst (v := nI 0) (by decide +kernel : decode prog_10_method_36_code 24 = .ok (.iconst 0, 1)) (by decide) ?_
  refine g_callVI [.int (nI o), .int (nI 0)] (by decide +kernel : decode prog_10_method_36_code 25 = .ok (.invokevirtual 169, 3)) lk_Md_169 (m_its (mS σ f b) o 0 (v := nI k) ek (by omega)) rfl rfl rfl rfl (Nat.le_of_ble_eq_true rfl) (Nat.le_of_ble_eq_true rfl) (fun r25 s25 h25 => ?_)
  obtain ⟨rfl, rfl⟩ := h25
  rcases (show k = 0 ∨ k = 1 ∨ k = 2 ∨ k = 3 ∨ k = 4 ∨ k = 5 by omega) with rfl | rfl | rfl | rfl | rfl | rfl
  · refine g_tableOut (x := nI 0) (tgt := 101) (by decide +kernel : decode prog_10_method_36_code 28 = .ok (.tableswitch 73 1 5 #[36, 40, 44, 50, 64], 36)) (by decide) (by decide) ?_
    refine g_iload_n (by decide +kernel : decode prog_10_method_36_code 101 = .ok (.iload_n 2, 1)) rfl ?_
    exact g_iret hR (by decide +kernel : decode prog_10_method_36_code 102 = .ok (.ireturn, 1)) rfl ⟨_, rfl, ⟨by simp only [hidesF, ek, tn_nI (show 0 < 2 ^ 31 by decide)], rfl⟩⟩
  · refine g_tableIn (x := nI 1) (off := 36) (tgt := 64) (by decide +kernel : decode prog_10_method_36_code 28 = .ok (.tableswitch 73 1 5 #[36, 40, 44, 50, 64], 36)) (by decide) (by decide) rfl (by decide) ?_
    refine g_iload_n (by decide +kernel : decode prog_10_method_36_code 64 = .ok (.iload_n 2, 1)) rfl ?_
    refine g_iconst (v := nI 2) (by decide +kernel : decode prog_10_method_36_code 65 = .ok (.iconst 2, 1)) (by decide) ?_
    refine g_idiv (by decide +kernel : decode prog_10_method_36_code 66 = .ok (.idiv, 1)) (by decide) ?_
    exact g_iret hR (by decide +kernel : decode prog_10_method_36_code 67 = .ok (.ireturn, 1)) rfl ⟨_, rfl, ⟨by simp only [hidesF, ek, tn_nI (show 1 < 2 ^ 31 by decide)], rfl⟩⟩
  · refine g_tableIn (x := nI 2) (off := 40) (tgt := 68) (by decide +kernel : decode prog_10_method_36_code 28 = .ok (.tableswitch 73 1 5 #[36, 40, 44, 50, 64], 36)) (by decide) (by decide) rfl (by decide) ?_
    refine g_iload_n (by decide +kernel : decode prog_10_method_36_code 68 = .ok (.iload_n 2, 1)) rfl ?_
    refine g_iconst (v := nI 3) (by decide +kernel : decode prog_10_method_36_code 69 = .ok (.iconst 3, 1)) (by decide) ?_
    refine g_isub (by decide +kernel : decode prog_10_method_36_code 70 = .ok (.isub, 1)) ?_
    exact g_iret hR (by decide +kernel : decode prog_10_method_36_code 71 = .ok (.ireturn, 1)) rfl ⟨_, rfl, ⟨by simp only [hidesF, ek, tn_nI (show 2 < 2 ^ 31 by decide)], rfl⟩⟩
  · refine g_tableIn (x := nI 3) (off := 44) (tgt := 72) (by decide +kernel : decode prog_10_method_36_code 28 = .ok (.tableswitch 73 1 5 #[36, 40, 44, 50, 64], 36)) (by decide) (by decide) rfl (by decide) ?_
    refine g_iload_n (by decide +kernel : decode prog_10_method_36_code 72 = .ok (.iload_n 2, 1)) rfl ?_
    refine g_iconst (v := nI 2) (by decide +kernel : decode prog_10_method_36_code 73 = .ok (.iconst 2, 1)) (by decide) ?_
    refine g_idiv (by decide +kernel : decode prog_10_method_36_code 74 = .ok (.idiv, 1)) (by decide) ?_
    refine g_iconst (v := nI 2) (by decide +kernel : decode prog_10_method_36_code 75 = .ok (.iconst 2, 1)) (by decide) ?_
    refine g_iadd (by decide +kernel : decode prog_10_method_36_code 76 = .ok (.iadd, 1)) ?_
    exact g_iret hR (by decide +kernel : decode prog_10_method_36_code 77 = .ok (.ireturn, 1)) rfl ⟨_, rfl, ⟨by simp only [hidesF, ek, tn_nI (show 3 < 2 ^ 31 by decide)], rfl⟩⟩
  · refine g_tableIn (x := nI 4) (off := 50) (tgt := 78) (by decide +kernel : decode prog_10_method_36_code 28 = .ok (.tableswitch 73 1 5 #[36, 40, 44, 50, 64], 36)) (by decide) (by decide) rfl (by decide) ?_
    refine g_iload_n (by decide +kernel : decode prog_10_method_36_code 78 = .ok (.iload_n 2, 1)) rfl ?_
    refine g_iconst (v := nI 3) (by decide +kernel : decode prog_10_method_36_code 79 = .ok (.iconst 3, 1)) (by decide) ?_
    refine g_isub (by decide +kernel : decode prog_10_method_36_code 80 = .ok (.isub, 1)) ?_
    refine g_aload_n (by decide +kernel : decode prog_10_method_36_code 81 = .ok (.aload_n 0, 1)) rfl ?_
    refine g_iload_n (by decide +kernel : decode prog_10_method_36_code 82 = .ok (.iload_n 1, 1)) rfl ?_
    refine g_iconst (v := nI 1) (by decide +kernel : decode prog_10_method_36_code 83 = .ok (.iconst 1, 1)) (by decide) ?_
    refine g_callVI [.int (nI o), .int (nI 1)] (by decide +kernel : decode prog_10_method_36_code 84 = .ok (.invokevirtual 169, 3)) lk_Md_169 (m_its (mS σ f b) o 1 (v := f (19 + 6 * o + 1)) rfl (by omega)) rfl rfl rfl rfl (Nat.le_of_ble_eq_true rfl) (Nat.le_of_ble_eq_true rfl) (fun r84 s84 h84 => ?_)
    obtain ⟨rfl, rfl⟩ := h84
    refine g_bipush (v := nI 10) (by decide +kernel : decode prog_10_method_36_code 87 = .ok (.bipush 10, 2)) (by decide) ?_
    refine g_idiv (by decide +kernel : decode prog_10_method_36_code 89 = .ok (.idiv, 1)) (by decide) ?_
    refine g_iadd (by decide +kernel : decode prog_10_method_36_code 90 = .ok (.iadd, 1)) ?_
    exact g_iret hR (by decide +kernel : decode prog_10_method_36_code 91 = .ok (.ireturn, 1)) rfl ⟨_, rfl, ⟨by simp only [hidesF, ek, tn_nI (show 4 < 2 ^ 31 by decide)], rfl⟩⟩
  · refine g_tableIn (x := nI 5) (off := 64) (tgt := 92) (by decide +kernel : decode prog_10_method_36_code 28 = .ok (.tableswitch 73 1 5 #[36, 40, 44, 50, 64], 36)) (by decide) (by decide) rfl (by decide) ?_
    refine g_iload_n (by decide +kernel : decode prog_10_method_36_code 92 = .ok (.iload_n 2, 1)) rfl ?_
    refine g_aload_n (by decide +kernel : decode prog_10_method_36_code 93 = .ok (.aload_n 0, 1)) rfl ?_
    refine g_getR (by decide +kernel : decode prog_10_method_36_code 94 = .ok (.getfield 7, 3)) fl_Md_7 rfl rfl ?_
    refine g_iconst (v := nI 4) (by decide +kernel : decode prog_10_method_36_code 97 = .ok (.iconst 4, 1)) (by decide) ?_
    refine g_iaload (a := 4) (by decide +kernel : decode prog_10_method_36_code 98 = .ok (.iaload, 1)) rfl rfl (by decide) (by decide) ?_
    refine g_top (w := f 4) (rfl) ?_
    refine g_iadd (by decide +kernel : decode prog_10_method_36_code 99 = .ok (.iadd, 1)) ?_
    exact g_iret hR (by decide +kernel : decode prog_10_method_36_code 100 = .ok (.ireturn, 1)) rfl ⟨_, rfl, ⟨by simp only [hidesF, ek, tn_nI (show 5 < 2 ^ 31 by decide)], rfl⟩⟩
set_option maxRecDepth 20000 in
theorem m_strides (σ : Store) (f b : Row) (hI : Inv f) (o : Nat) (ho : o < nn f) : Ct ΛM mt_Md_strides 1 [.ref 0, .int (nI o)] (mS σ f b) (PF (stridesF f o) (mS σ f b)) := by
  refine Ct.of (by decide) (Nat.le_of_ble_eq_true rfl) (fun X hR => ?_)
  show G (ΛM, mt_Md_strides, 1) X (mS σ f b) [some (.ref 0), some (.int (nI o))] [] 0
  obtain ⟨k, hk, ek⟩ := hI.2.1 o ho 0 (by decide)
  have hk6 : k ≤ 5 := hk
  have hn8 := hI.n.2
  have h3 : tn (f (19 + 6 * o + 3)) ≤ 11 := (hI.p ho 3).2
  refine g_aload_n (by decide +kernel : decode prog_10_method_38_code 0 = .ok (.aload_n 0, 1)) rfl ?_
  refine g_iload_n (by decide +kernel : decode prog_10_method_38_code 1 = .ok (.iload_n 1, 1)) rfl ?_
  refine g_iconst (v := nI 0) (by decide +kernel : decode prog_10_method_38_code 2 = .ok (.iconst 0, 1)) (by decide) ?_
  refine g_callVI [.int (nI o), .int (nI 0)] (by decide +kernel : decode prog_10_method_38_code 3 = .ok (.invokevirtual 169, 3)) lk_Md_169 (m_its (mS σ f b) o 0 (v := nI k) ek (by omega)) rfl rfl rfl rfl (Nat.le_of_ble_eq_true rfl) (Nat.le_of_ble_eq_true rfl) (fun r3 s3 h3 => ?_)
  obtain ⟨rfl, rfl⟩ := h3
  rcases (show k = 0 ∨ k = 1 ∨ k = 2 ∨ k = 3 ∨ k = 4 ∨ k = 5 by omega) with rfl | rfl | rfl | rfl | rfl | rfl
  · refine g_tableOut (x := nI 0) (tgt := 51) (by decide +kernel : decode prog_10_method_38_code 6 = .ok (.tableswitch 45 1 5 #[34, 36, 38, 40, 43], 34)) (by decide) (by decide) ?_
    refine g_iconst (v := nI 1) (by decide +kernel : decode prog_10_method_38_code 51 = .ok (.iconst 1, 1)) (by decide) ?_
    exact g_iret hR (by decide +kernel : decode prog_10_method_38_code 52 = .ok (.ireturn, 1)) rfl ⟨_, rfl, ⟨by simp only [stridesF, ek, tn_nI (show 0 < 2 ^ 31 by decide)], rfl⟩⟩
  · refine g_tableIn (x := nI 1) (off := 34) (tgt := 40) (by decide +kernel : decode prog_10_method_38_code 6 = .ok (.tableswitch 45 1 5 #[34, 36, 38, 40, 43], 34)) (by decide) (by decide) rfl (by decide) ?_
    refine g_iconst (v := nI 2) (by decide +kernel : decode prog_10_method_38_code 40 = .ok (.iconst 2, 1)) (by decide) ?_
    exact g_iret hR (by decide +kernel : decode prog_10_method_38_code 41 = .ok (.ireturn, 1)) rfl ⟨_, rfl, ⟨by simp only [stridesF, ek, tn_nI (show 1 < 2 ^ 31 by decide)], rfl⟩⟩
  · refine g_tableIn (x := nI 2) (off := 36) (tgt := 42) (by decide +kernel : decode prog_10_method_38_code 6 = .ok (.tableswitch 45 1 5 #[34, 36, 38, 40, 43], 34)) (by decide) (by decide) rfl (by decide) ?_
    refine g_iconst (v := (-1)) (by decide +kernel : decode prog_10_method_38_code 42 = .ok (.iconst (-1), 1)) (by decide) ?_
    exact g_iret hR (by decide +kernel : decode prog_10_method_38_code 43 = .ok (.ireturn, 1)) rfl ⟨_, rfl, ⟨by simp only [stridesF, ek, tn_nI (show 2 < 2 ^ 31 by decide)], rfl⟩⟩
  · refine g_tableIn (x := nI 3) (off := 38) (tgt := 44) (by decide +kernel : decode prog_10_method_38_code 6 = .ok (.tableswitch 45 1 5 #[34, 36, 38, 40, 43], 34)) (by decide) (by decide) rfl (by decide) ?_
    refine g_iconst (v := nI 3) (by decide +kernel : decode prog_10_method_38_code 44 = .ok (.iconst 3, 1)) (by decide) ?_
    exact g_iret hR (by decide +kernel : decode prog_10_method_38_code 45 = .ok (.ireturn, 1)) rfl ⟨_, rfl, ⟨by simp only [stridesF, ek, tn_nI (show 3 < 2 ^ 31 by decide)], rfl⟩⟩
  · refine g_tableIn (x := nI 4) (off := 40) (tgt := 46) (by decide +kernel : decode prog_10_method_38_code 6 = .ok (.tableswitch 45 1 5 #[34, 36, 38, 40, 43], 34)) (by decide) (by decide) rfl (by decide) ?_
    refine g_bipush (v := (-2)) (by decide +kernel : decode prog_10_method_38_code 46 = .ok (.bipush (-2), 2)) (by decide) ?_
    exact g_iret hR (by decide +kernel : decode prog_10_method_38_code 48 = .ok (.ireturn, 1)) rfl ⟨_, rfl, ⟨by simp only [stridesF, ek, tn_nI (show 4 < 2 ^ 31 by decide)], rfl⟩⟩
  · refine g_tableIn (x := nI 5) (off := 43) (tgt := 49) (by decide +kernel : decode prog_10_method_38_code 6 = .ok (.tableswitch 45 1 5 #[34, 36, 38, 40, 43], 34)) (by decide) (by decide) rfl (by decide) ?_
    refine g_iconst (v := nI 0) (by decide +kernel : decode prog_10_method_38_code 49 = .ok (.iconst 0, 1)) (by decide) ?_
    exact g_iret hR (by decide +kernel : decode prog_10_method_38_code 50 = .ok (.ireturn, 1)) rfl ⟨_, rfl, ⟨by simp only [stridesF, ek, tn_nI (show 5 < 2 ^ 31 by decide)], rfl⟩⟩
set_option maxRecDepth 20000 in
theorem m_sees (σ : Store) (f b : Row) (hI : Inv f) (o : Nat) (ho : o < nn f) : Ct ΛM mt_Md_sees 1 [.ref 0, .int (nI o)] (mS σ f b) (PF (seesF f o) (mS σ f b)) := by
  refine Ct.of (by decide) (Nat.le_of_ble_eq_true rfl) (fun X hR => ?_)
  show G (ΛM, mt_Md_sees, 1) X (mS σ f b) [some (.ref 0), some (.int (nI o)), none] [] 0
  obtain ⟨k, hk, ek⟩ := hI.2.1 o ho 0 (by decide)
  have hk6 : k ≤ 5 := hk
  have hn8 := hI.n.2
  have h3 : tn (f (19 + 6 * o + 3)) ≤ 11 := (hI.p ho 3).2
  refine g_iconst (v := nI 3) (by decide +kernel : decode prog_10_method_37_code 0 = .ok (.iconst 3, 1)) (by decide) ?_
  refine g_aload_n (by decide +kernel : decode prog_10_method_37_code 1 = .ok (.aload_n 0, 1)) rfl ?_
  refine g_iload_n (by decide +kernel : decode prog_10_method_37_code 2 = .ok (.iload_n 1, 1)) rfl ?_
  refine g_iconst (v := nI 2) (by decide +kernel : decode prog_10_method_37_code 3 = .ok (.iconst 2, 1)) (by decide) ?_
  refine g_callVI [.int (nI o), .int (nI 2)] (by decide +kernel : decode prog_10_method_37_code 4 = .ok (.invokevirtual 169, 3)) lk_Md_169 (m_its (mS σ f b) o 2 (v := f (19 + 6 * o + 2)) rfl (by omega)) rfl rfl rfl rfl (Nat.le_of_ble_eq_true rfl) (Nat.le_of_ble_eq_true rfl) (fun r4 s4 h4 => ?_)
  obtain ⟨rfl, rfl⟩ := h4
  refine g_iadd (by decide +kernel : decode prog_10_method_37_code 7 = .ok (.iadd, 1)) ?_
  refine g_istore_n (L' := [some (.ref 0), some (.int (nI o)), some (.int ((nI 3) + (f (19 + 6 * o + 2))))]) (by decide +kernel : decode prog_10_method_37_code 8 = .ok (.istore_n 2, 1)) (Nat.le_of_ble_eq_true rfl) rfl ?_
  refine g_aload_n (by decide +kernel : decode prog_10_method_37_code 9 = .ok (.aload_n 0, 1)) rfl ?_
  refine g_iload_n (by decide +kernel : decode prog_10_method_37_code 10 = .ok (.iload_n 1, 1)) rfl ?_
  refine g_iconst (v := nI 0) (by decide +kernel : decode prog_10_method_37_code 11 = .ok (.iconst 0, 1)) (by decide) ?_
  refine g_callVI [.int (nI o), .int (nI 0)] (by decide +kernel : decode prog_10_method_37_code 12 = .ok (.invokevirtual 169, 3)) lk_Md_169 (m_its (mS σ f b) o 0 (v := nI k) ek (by omega)) rfl rfl rfl rfl (Nat.le_of_ble_eq_true rfl) (Nat.le_of_ble_eq_true rfl) (fun r12 s12 h12 => ?_)
  obtain ⟨rfl, rfl⟩ := h12
  rcases (show k = 0 ∨ k = 1 ∨ k = 2 ∨ k = 3 ∨ k = 4 ∨ k = 5 by omega) with rfl | rfl | rfl | rfl | rfl | rfl
  · refine g_tableOut (x := nI 0) (tgt := 100) (by decide +kernel : decode prog_10_method_37_code 15 = .ok (.tableswitch 85 1 5 #[33, 42, 46, 57, 68], 33)) (by decide) (by decide) ?_
    refine g_iload_n (by decide +kernel : decode prog_10_method_37_code 100 = .ok (.iload_n 2, 1)) rfl ?_
    exact g_iret hR (by decide +kernel : decode prog_10_method_37_code 101 = .ok (.ireturn, 1)) rfl ⟨_, rfl, ⟨by simp only [seesF, ek, tn_nI (show 0 < 2 ^ 31 by decide)], rfl⟩⟩
  · refine g_tableIn (x := nI 1) (off := 33) (tgt := 48) (by decide +kernel : decode prog_10_method_37_code 15 = .ok (.tableswitch 85 1 5 #[33, 42, 46, 57, 68], 33)) (by decide) (by decide) rfl (by decide) ?_
    refine g_iload_n (by decide +kernel : decode prog_10_method_37_code 48 = .ok (.iload_n 2, 1)) rfl ?_
    refine g_aload_n (by decide +kernel : decode prog_10_method_37_code 49 = .ok (.aload_n 0, 1)) rfl ?_
    refine g_getR (by decide +kernel : decode prog_10_method_37_code 50 = .ok (.getfield 7, 3)) fl_Md_7 rfl rfl ?_
    refine g_iconst (v := nI 5) (by decide +kernel : decode prog_10_method_37_code 53 = .ok (.iconst 5, 1)) (by decide) ?_
    refine g_iaload (a := 5) (by decide +kernel : decode prog_10_method_37_code 54 = .ok (.iaload, 1)) rfl rfl (by decide) (by decide) ?_
    refine g_top (w := f 5) (rfl) ?_
    refine g_iadd (by decide +kernel : decode prog_10_method_37_code 55 = .ok (.iadd, 1)) ?_
    exact g_iret hR (by decide +kernel : decode prog_10_method_37_code 56 = .ok (.ireturn, 1)) rfl ⟨_, rfl, ⟨by simp only [seesF, ek, tn_nI (show 1 < 2 ^ 31 by decide)], rfl⟩⟩
  · refine g_tableIn (x := nI 2) (off := 42) (tgt := 57) (by decide +kernel : decode prog_10_method_37_code 15 = .ok (.tableswitch 85 1 5 #[33, 42, 46, 57, 68], 33)) (by decide) (by decide) rfl (by decide) ?_
    refine g_iload_n (by decide +kernel : decode prog_10_method_37_code 57 = .ok (.iload_n 2, 1)) rfl ?_
    refine g_iconst (v := nI 4) (by decide +kernel : decode prog_10_method_37_code 58 = .ok (.iconst 4, 1)) (by decide) ?_
    refine g_iadd (by decide +kernel : decode prog_10_method_37_code 59 = .ok (.iadd, 1)) ?_
    exact g_iret hR (by decide +kernel : decode prog_10_method_37_code 60 = .ok (.ireturn, 1)) rfl ⟨_, rfl, ⟨by simp only [seesF, ek, tn_nI (show 2 < 2 ^ 31 by decide)], rfl⟩⟩
  · refine g_tableIn (x := nI 3) (off := 46) (tgt := 61) (by decide +kernel : decode prog_10_method_37_code 15 = .ok (.tableswitch 85 1 5 #[33, 42, 46, 57, 68], 33)) (by decide) (by decide) rfl (by decide) ?_
    refine g_iconst (v := nI 2) (by decide +kernel : decode prog_10_method_37_code 61 = .ok (.iconst 2, 1)) (by decide) ?_
    refine g_iload_n (by decide +kernel : decode prog_10_method_37_code 62 = .ok (.iload_n 2, 1)) rfl ?_
    refine g_aload_n (by decide +kernel : decode prog_10_method_37_code 63 = .ok (.aload_n 0, 1)) rfl ?_
    refine g_getR (by decide +kernel : decode prog_10_method_37_code 64 = .ok (.getfield 7, 3)) fl_Md_7 rfl rfl ?_
    refine g_iconst (v := nI 5) (by decide +kernel : decode prog_10_method_37_code 67 = .ok (.iconst 5, 1)) (by decide) ?_
    refine g_iaload (a := 5) (by decide +kernel : decode prog_10_method_37_code 68 = .ok (.iaload, 1)) rfl rfl (by decide) (by decide) ?_
    refine g_top (w := f 5) (rfl) ?_
    refine g_iadd (by decide +kernel : decode prog_10_method_37_code 69 = .ok (.iadd, 1)) ?_
    refine g_imul (by decide +kernel : decode prog_10_method_37_code 70 = .ok (.imul, 1)) ?_
    exact g_iret hR (by decide +kernel : decode prog_10_method_37_code 71 = .ok (.ireturn, 1)) rfl ⟨_, rfl, ⟨by simp only [seesF, ek, tn_nI (show 3 < 2 ^ 31 by decide)], rfl⟩⟩
  · refine g_tableIn (x := nI 4) (off := 57) (tgt := 72) (by decide +kernel : decode prog_10_method_37_code 15 = .ok (.tableswitch 85 1 5 #[33, 42, 46, 57, 68], 33)) (by decide) (by decide) rfl (by decide) ?_
    refine g_iload_n (by decide +kernel : decode prog_10_method_37_code 72 = .ok (.iload_n 2, 1)) rfl ?_
    refine g_iconst (v := nI 4) (by decide +kernel : decode prog_10_method_37_code 73 = .ok (.iconst 4, 1)) (by decide) ?_
    refine g_iadd (by decide +kernel : decode prog_10_method_37_code 74 = .ok (.iadd, 1)) ?_
    refine g_aload_n (by decide +kernel : decode prog_10_method_37_code 75 = .ok (.aload_n 0, 1)) rfl ?_
    refine g_getR (by decide +kernel : decode prog_10_method_37_code 76 = .ok (.getfield 7, 3)) fl_Md_7 rfl rfl ?_
    refine g_iconst (v := nI 4) (by decide +kernel : decode prog_10_method_37_code 79 = .ok (.iconst 4, 1)) (by decide) ?_
    refine g_iaload (a := 4) (by decide +kernel : decode prog_10_method_37_code 80 = .ok (.iaload, 1)) rfl rfl (by decide) (by decide) ?_
    refine g_top (w := f 4) (rfl) ?_
    refine g_isub (by decide +kernel : decode prog_10_method_37_code 81 = .ok (.isub, 1)) ?_
    exact g_iret hR (by decide +kernel : decode prog_10_method_37_code 82 = .ok (.ireturn, 1)) rfl ⟨_, rfl, ⟨by simp only [seesF, ek, tn_nI (show 4 < 2 ^ 31 by decide)], rfl⟩⟩
  · refine g_tableIn (x := nI 5) (off := 68) (tgt := 83) (by decide +kernel : decode prog_10_method_37_code 15 = .ok (.tableswitch 85 1 5 #[33, 42, 46, 57, 68], 33)) (by decide) (by decide) rfl (by decide) ?_
    refine g_aload_n (by decide +kernel : decode prog_10_method_37_code 83 = .ok (.aload_n 0, 1)) rfl ?_
    refine g_getR (by decide +kernel : decode prog_10_method_37_code 84 = .ok (.getfield 7, 3)) fl_Md_7 rfl rfl ?_
    refine g_iconst (v := nI 1) (by decide +kernel : decode prog_10_method_37_code 87 = .ok (.iconst 1, 1)) (by decide) ?_
    refine g_iaload (a := 1) (by decide +kernel : decode prog_10_method_37_code 88 = .ok (.iaload, 1)) rfl rfl (by decide) (by decide) ?_
    refine g_top (w := f 1) (rfl) ?_
    refine g_iconst (v := nI 2) (by decide +kernel : decode prog_10_method_37_code 89 = .ok (.iconst 2, 1)) (by decide) ?_
    refine g_irem (by decide +kernel : decode prog_10_method_37_code 90 = .ok (.irem, 1)) (by decide) ?_
    refine g_if_ne (tgt := 98) (by decide +kernel : decode prog_10_method_37_code 91 = .ok (.ifCond .ne 7, 3)) (by decide) (fun h91 => ?_) (fun h91 => ?_)
    · refine g_iconst (v := nI 0) (by decide +kernel : decode prog_10_method_37_code 98 = .ok (.iconst 0, 1)) (by decide) ?_
      exact g_iret hR (by decide +kernel : decode prog_10_method_37_code 99 = .ok (.ireturn, 1)) rfl ⟨_, rfl, ⟨by simp only [seesF, ek, tn_nI (show 5 < 2 ^ 31 by decide), h91, ↓reduceIte], rfl⟩⟩
    · refine g_iload_n (by decide +kernel : decode prog_10_method_37_code 94 = .ok (.iload_n 2, 1)) rfl ?_
      refine g_goto (tgt := 99) (by decide +kernel : decode prog_10_method_37_code 95 = .ok (.goto 4, 3)) (by decide) ?_
      exact g_iret hR (by decide +kernel : decode prog_10_method_37_code 99 = .ok (.ireturn, 1)) rfl ⟨_, rfl, ⟨by simp only [seesF, ek, tn_nI (show 5 < 2 ^ 31 by decide), h91, ↓reduceIte], rfl⟩⟩
set_option maxRecDepth 20000 in
theorem m_hid_lp {X : CX} {σ : Store} {f b : Row} (hI : Inv f) : ∀ (b9 k : Nat), k ≤ nn f → nn f - k < b9 → Rt (ΛM, mt_Md_hiddenOnes, 1) (PF (nI (msk f (nn f))) (mS σ f b)) X → G (ΛM, mt_Md_hiddenOnes, 1) X (mS σ f b) [some (.ref 0), some (.int (nI (msk f k))), some (.int (nI k))] [] 4 := by
  have hn8 := hI.n.2
  intro b9
  induction b9 with
  | zero => intro k hk hb hR; omega
  | succ b9 ih =>
  intro k hk hb hR
  refine g_iload_n (by decide +kernel : decode prog_10_method_46_code 4 = .ok (.iload_n 2, 1)) rfl ?_
  refine g_aload_n (by decide +kernel : decode prog_10_method_46_code 5 = .ok (.aload_n 0, 1)) rfl ?_
  refine g_getR (by decide +kernel : decode prog_10_method_46_code 6 = .ok (.getfield 7, 3)) fl_Md_7 rfl rfl ?_
  refine g_iconst (v := nI 0) (by decide +kernel : decode prog_10_method_46_code 9 = .ok (.iconst 0, 1)) (by decide) ?_
  refine g_iaload (a := 0) (by decide +kernel : decode prog_10_method_46_code 10 = .ok (.iaload, 1)) rfl rfl (by decide) (by decide) ?_
  refine g_top (w := nI (nn f)) (hI.n.1) ?_
  refine g_icmp_geN (tgt := 31) (by decide +kernel : decode prog_10_method_46_code 11 = .ok (.if_icmp .ge 20, 3)) (by decide) (by omega) (by omega) (fun h11 => ?_) (fun h11 => ?_)
  · refine g_iload_n (by decide +kernel : decode prog_10_method_46_code 31 = .ok (.iload_n 1, 1)) rfl ?_
    exact g_iret hR (by decide +kernel : decode prog_10_method_46_code 32 = .ok (.ireturn, 1)) rfl ⟨_, rfl, ⟨by rw [show k = nn f by omega], rfl⟩⟩
  · refine g_iload_n (by decide +kernel : decode prog_10_method_46_code 14 = .ok (.iload_n 1, 1)) rfl ?_
    refine g_aload_n (by decide +kernel : decode prog_10_method_46_code 15 = .ok (.aload_n 0, 1)) rfl ?_
    refine g_iload_n (by decide +kernel : decode prog_10_method_46_code 16 = .ok (.iload_n 2, 1)) rfl ?_
    refine g_iconst (v := nI 4) (by decide +kernel : decode prog_10_method_46_code 17 = .ok (.iconst 4, 1)) (by decide) ?_
    refine g_callVI [.int (nI k), .int (nI 4)] (by decide +kernel : decode prog_10_method_46_code 18 = .ok (.invokevirtual 169, 3)) lk_Md_169 (m_its (mS σ f b) k 4 (hI.p (o := k) (by omega) 4).1 (by omega)) rfl rfl rfl rfl (Nat.le_of_ble_eq_true rfl) (Nat.le_of_ble_eq_true rfl) (fun r18 s18 h18 => ?_)
    obtain ⟨rfl, rfl⟩ := h18
    refine g_iload_n (by decide +kernel : decode prog_10_method_46_code 21 = .ok (.iload_n 2, 1)) rfl ?_
    refine g_ishl (by decide +kernel : decode prog_10_method_46_code 22 = .ok (.ishl, 1)) ?_
    refine g_top (w := nI (tn (f (19 + 6 * k + 4)) * 2 ^ k)) (nI_shl1 ⟨_, Nat.lt_succ_of_le (hI.p (o := k) (by omega) 4).2⟩ ⟨k, by omega⟩) ?_
    refine g_ior (by decide +kernel : decode prog_10_method_46_code 23 = .ok (.ior, 1)) ?_
    refine g_top (w := nI (msk f (k + 1))) (by rw [nI_or, or_add (hI.msk hk) (hI.p (o := k) (by omega) 4).2]; rfl) ?_
    refine g_istore_n (L' := [some (.ref 0), some (.int (nI (msk f (k + 1)))), some (.int (nI k))]) (by decide +kernel : decode prog_10_method_46_code 24 = .ok (.istore_n 1, 1)) (Nat.le_of_ble_eq_true rfl) rfl ?_
    refine g_iincN (n := 1) (L' := [some (.ref 0), some (.int (nI (msk f (k + 1)))), some (.int (nI (k + 1)))]) (by decide +kernel : decode prog_10_method_46_code 25 = .ok (.iinc 2 1, 3)) rfl (by decide) (Nat.le_of_ble_eq_true rfl) rfl ?_
    refine g_goto (tgt := 4) (by decide +kernel : decode prog_10_method_46_code 28 = .ok (.goto (-24), 3)) (by decide) ?_
    exact ih (k + 1) (by omega) (by omega) hR
set_option maxRecDepth 20000 in
theorem m_hiddenOnes (σ : Store) (f b : Row) (hI : Inv f) : Ct ΛM mt_Md_hiddenOnes 1 [.ref 0] (mS σ f b) (PF (nI (msk f (nn f))) (mS σ f b)) := by
  refine Ct.of (by decide) (Nat.le_of_ble_eq_true rfl) (fun X hR => ?_)
  show G (ΛM, mt_Md_hiddenOnes, 1) X (mS σ f b) [some (.ref 0), none, none] [] 0
  refine g_iconst (v := nI 0) (by decide +kernel : decode prog_10_method_46_code 0 = .ok (.iconst 0, 1)) (by decide) ?_
  refine g_istore_n (L' := [some (.ref 0), some (.int (nI 0)), none]) (by decide +kernel : decode prog_10_method_46_code 1 = .ok (.istore_n 1, 1)) (Nat.le_of_ble_eq_true rfl) rfl ?_
  refine g_iconst (v := nI 0) (by decide +kernel : decode prog_10_method_46_code 2 = .ok (.iconst 0, 1)) (by decide) ?_
  refine g_istore_n (L' := [some (.ref 0), some (.int (nI 0)), some (.int (nI 0))]) (by decide +kernel : decode prog_10_method_46_code 3 = .ok (.istore_n 2, 1)) (Nat.le_of_ble_eq_true rfl) rfl ?_
  exact m_hid_lp hI (nn f + 1) 0 (Nat.zero_le _) (by omega) hR
/-- those at a place -/
def atm (f : Row) (p : Nat) : Nat → Nat
  | 0 => 0
  | k + 1 => atm f p k + (if tn (f (19 + 6 * k + 3)) = p then 1 else 0) * 2 ^ k
theorem ite1 (c : Prop) [Decidable c] : (if c then 1 else 0 : Nat) ≤ 1 := by split <;> decide
theorem atm_lt (f : Row) (p : Nat) : ∀ k, atm f p k < 2 ^ k := by
  intro k
  induction k with
  | zero => show 0 < 1; decide
  | succ k ih =>
    unfold atm
    have := Nat.mul_le_mul_right (2 ^ k) (ite1 (tn (f (19 + 6 * k + 3)) = p))
    rw [Nat.pow_succ]; omega
theorem nI_1shl {k : Nat} (h : k < 12) : nI 1 <<< (nI k &&& 31) = nI (1 * 2 ^ k) := nI_shl1 1 ⟨k, h⟩
set_option maxRecDepth 20000 in
theorem m_thoseAt_lp {X : CX} {σ : Store} {f b : Row} (hI : Inv f) {p : Nat} (hp : p < 12) : ∀ (b9 k : Nat), k ≤ nn f → nn f - k < b9 → Rt (ΛM, mt_Md_thoseAt, 1) (PF (nI (atm f p (nn f))) (mS σ f b)) X → G (ΛM, mt_Md_thoseAt, 1) X (mS σ f b) [some (.ref 0), some (.int (nI p)), some (.int (nI (atm f p k))), some (.int (nI k))] [] 4 := by
  have hn8 := hI.n.2
  intro b9
  induction b9 with
  | zero => intro k hk hb hR; omega
  | succ b9 ih =>
  intro k hk hb hR
  refine g_iload_n (by decide +kernel : decode prog_10_method_45_code 4 = .ok (.iload_n 3, 1)) rfl ?_
  refine g_aload_n (by decide +kernel : decode prog_10_method_45_code 5 = .ok (.aload_n 0, 1)) rfl ?_
  refine g_getR (by decide +kernel : decode prog_10_method_45_code 6 = .ok (.getfield 7, 3)) fl_Md_7 rfl rfl ?_
  refine g_iconst (v := nI 0) (by decide +kernel : decode prog_10_method_45_code 9 = .ok (.iconst 0, 1)) (by decide) ?_
  refine g_iaload (a := 0) (by decide +kernel : decode prog_10_method_45_code 10 = .ok (.iaload, 1)) rfl rfl (by decide) (by decide) ?_
  refine g_top (w := nI (nn f)) (hI.n.1) ?_
  refine g_icmp_geN (tgt := 40) (by decide +kernel : decode prog_10_method_45_code 11 = .ok (.if_icmp .ge 29, 3)) (by decide) (by first | omega | (have h9 : tn (f (19 + 6 * k + 3)) ≤ 11 := (hI.p (o := k) (by omega) 3).2; omega)) (by first | omega | (have h9 : tn (f (19 + 6 * k + 3)) ≤ 11 := (hI.p (o := k) (by omega) 3).2; omega)) (fun h11 => ?_) (fun h11 => ?_)
  · refine g_iload_n (by decide +kernel : decode prog_10_method_45_code 40 = .ok (.iload_n 2, 1)) rfl ?_
    exact g_iret hR (by decide +kernel : decode prog_10_method_45_code 41 = .ok (.ireturn, 1)) rfl ⟨_, rfl, ⟨by rw [show k = nn f by omega], rfl⟩⟩
  · refine g_iload_n (by decide +kernel : decode prog_10_method_45_code 14 = .ok (.iload_n 2, 1)) rfl ?_
    refine g_aload_n (by decide +kernel : decode prog_10_method_45_code 15 = .ok (.aload_n 0, 1)) rfl ?_
    refine g_iload_n (by decide +kernel : decode prog_10_method_45_code 16 = .ok (.iload_n 3, 1)) rfl ?_
    refine g_iconst (v := nI 3) (by decide +kernel : decode prog_10_method_45_code 17 = .ok (.iconst 3, 1)) (by decide) ?_
    refine g_callVI [.int (nI k), .int (nI 3)] (by decide +kernel : decode prog_10_method_45_code 18 = .ok (.invokevirtual 169, 3)) lk_Md_169 (m_its (mS σ f b) k 3 (hI.p (o := k) (by omega) 3).1 (by omega)) rfl rfl rfl rfl (Nat.le_of_ble_eq_true rfl) (Nat.le_of_ble_eq_true rfl) (fun r18 s18 h18 => ?_)
    obtain ⟨rfl, rfl⟩ := h18
    refine g_iload_n (by decide +kernel : decode prog_10_method_45_code 21 = .ok (.iload_n 1, 1)) rfl ?_
    have J22 : G (ΛM, mt_Md_thoseAt, 1) X (mS σ f b) [some (.ref 0), some (.int (nI p)), some (.int (nI (atm f p k))), some (.int (nI k))] [.int (nI ((if tn (f (19 + 6 * k + 3)) = p then 1 else 0) * 2 ^ k)), .int (nI (atm f p k))] 32 := by
      refine g_ior (by decide +kernel : decode prog_10_method_45_code 32 = .ok (.ior, 1)) ?_
      refine g_top (w := nI (atm f p (k + 1))) (by rw [nI_or, or_add (atm_lt f p k) (ite1 _)]; rfl) ?_
      refine g_istore_n (L' := [some (.ref 0), some (.int (nI p)), some (.int (nI (atm f p (k + 1)))), some (.int (nI k))]) (by decide +kernel : decode prog_10_method_45_code 33 = .ok (.istore_n 2, 1)) (Nat.le_of_ble_eq_true rfl) rfl ?_
      refine g_iincN (n := 1) (L' := [some (.ref 0), some (.int (nI p)), some (.int (nI (atm f p (k + 1)))), some (.int (nI (k + 1)))]) (by decide +kernel : decode prog_10_method_45_code 34 = .ok (.iinc 3 1, 3)) rfl (by decide) (Nat.le_of_ble_eq_true rfl) rfl ?_
      refine g_goto (tgt := 4) (by decide +kernel : decode prog_10_method_45_code 37 = .ok (.goto (-33), 3)) (by decide) ?_
      exact ih (k + 1) (by omega) (by omega) hR
    refine g_icmp_neN (tgt := 31) (by decide +kernel : decode prog_10_method_45_code 22 = .ok (.if_icmp .ne 9, 3)) (by decide) (by first | omega | (have h9 : tn (f (19 + 6 * k + 3)) ≤ 11 := (hI.p (o := k) (by omega) 3).2; omega)) (by first | omega | (have h9 : tn (f (19 + 6 * k + 3)) ≤ 11 := (hI.p (o := k) (by omega) 3).2; omega)) (fun h22 => ?_) (fun h22 => ?_)
    · refine g_iconst (v := nI 0) (by decide +kernel : decode prog_10_method_45_code 31 = .ok (.iconst 0, 1)) (by decide) ?_
      exact g_top (by rw [if_neg h22, Nat.zero_mul]) J22
    · refine g_iconst (v := nI 1) (by decide +kernel : decode prog_10_method_45_code 25 = .ok (.iconst 1, 1)) (by decide) ?_
      refine g_iload_n (by decide +kernel : decode prog_10_method_45_code 26 = .ok (.iload_n 3, 1)) rfl ?_
      refine g_ishl (by decide +kernel : decode prog_10_method_45_code 27 = .ok (.ishl, 1)) ?_
      refine g_goto (tgt := 32) (by decide +kernel : decode prog_10_method_45_code 28 = .ok (.goto 4, 3)) (by decide) ?_
      exact g_top (by rw [if_pos h22]; exact nI_1shl (by omega)) J22
set_option maxRecDepth 20000 in
theorem m_thoseAt (σ : Store) (f b : Row) (hI : Inv f) (p : Nat) (hp : p < 12) : Ct ΛM mt_Md_thoseAt 1 [.ref 0, .int (nI p)] (mS σ f b) (PF (nI (atm f p (nn f))) (mS σ f b)) := by
  refine Ct.of (by decide) (Nat.le_of_ble_eq_true rfl) (fun X hR => ?_)
  show G (ΛM, mt_Md_thoseAt, 1) X (mS σ f b) [some (.ref 0), some (.int (nI p)), none, none] [] 0
  refine g_iconst (v := nI 0) (by decide +kernel : decode prog_10_method_45_code 0 = .ok (.iconst 0, 1)) (by decide) ?_
  refine g_istore_n (L' := [some (.ref 0), some (.int (nI p)), some (.int (nI 0)), none]) (by decide +kernel : decode prog_10_method_45_code 1 = .ok (.istore_n 2, 1)) (Nat.le_of_ble_eq_true rfl) rfl ?_
  refine g_iconst (v := nI 0) (by decide +kernel : decode prog_10_method_45_code 2 = .ok (.iconst 0, 1)) (by decide) ?_
  refine g_istore_n (L' := [some (.ref 0), some (.int (nI p)), some (.int (nI 0)), some (.int (nI 0))]) (by decide +kernel : decode prog_10_method_45_code 3 = .ok (.istore_n 3, 1)) (Nat.le_of_ble_eq_true rfl) rfl ?_
  exact m_thoseAt_lp hI hp (nn f + 1) 0 (Nat.zero_le _) (by omega) hR
end
section
/-! THE REFERENCE: a year -/
theorem mS_1 (σ : Store) (f b : Row) : mS σ f b 1 = f := rfl
theorem mS_6 (σ : Store) (f b : Row) : mS σ f b 6 = b := rfl
theorem inv_m256 {f : Row} (h : Inv f) : msk f (nn f) < 256 := by
  have h1 : 2 ^ nn f ≤ 2 ^ 8 := Nat.pow_le_pow_right (by decide) h.n.2
  have h2 := h.msk (Nat.le_refl _)
  omega
theorem findQ_no {f : Row} {o q n : Nat} (hq : q < n) (h : ¬ (f (19 + 6 * q + 4) = nI 1 ∧ f (19 + 6 * q + 3) = f (19 + 6 * o + 3) ∧ hidesF f q < seesF f o)) : findQ f o (n - q) q = findQ f o (n - (q + 1)) (q + 1) := by
  rw [show n - q = (n - (q + 1)) + 1 by omega]
  show (if _ then _ else _) = _
  rw [if_neg h]
theorem findQ_yes {f : Row} {o q n : Nat} (hq : q < n) (h : f (19 + 6 * q + 4) = nI 1 ∧ f (19 + 6 * q + 3) = f (19 + 6 * o + 3) ∧ hidesF f q < seesF f o) : findQ f o (n - q) q = some q := by
  rw [show n - q = (n - (q + 1)) + 1 by omega]
  show (if _ then _ else _) = _
  rw [if_pos h]
set_option maxRecDepth 20000 in
theorem m_seeks_lp {X : CX} {σ : Store} {f b : Row} (hI : Inv f) {o : Nat} (ho : o < nn f) {r : Option Nat} : ∀ (b9 q : Nat), q ≤ nn f → nn f - q < b9 → findQ f o (nn f - q) q = r → Rt (ΛM, mt_Md_seeks, 2) (PU (mS σ (seekF f o r) (seekB b o r))) X → G (ΛM, mt_Md_seeks, 2) X (mS σ f b) [some (.ref 0), some (.int (nI o)), some (.int (nI 1)), some (.int (nI q))] [] 34 := by
  have hn8 := hI.n.2
  intro b9
  induction b9 with
  | zero => intro q hq hb hr hR; omega
  | succ b9 ih =>
  intro q hq hb hr hR
  refine g_iload_n (by decide +kernel : decode prog_10_method_49_code 34 = .ok (.iload_n 3, 1)) rfl ?_
  refine g_aload_n (by decide +kernel : decode prog_10_method_49_code 35 = .ok (.aload_n 0, 1)) rfl ?_
  refine g_getR (by decide +kernel : decode prog_10_method_49_code 36 = .ok (.getfield 7, 3)) fl_Md_7 rfl rfl ?_
  refine g_iconst (v := nI 0) (by decide +kernel : decode prog_10_method_49_code 39 = .ok (.iconst 0, 1)) (by decide) ?_
  refine g_iaload (a := 0) (by decide +kernel : decode prog_10_method_49_code 40 = .ok (.iaload, 1)) rfl rfl (by decide) (by decide) ?_
  refine g_top (w := nI (nn f)) (hI.n.1) ?_
  refine g_icmp_geN (tgt := 157) (by decide +kernel : decode prog_10_method_49_code 41 = .ok (.if_icmp .ge 116, 3)) (by decide) (by omega) (by omega) (fun h41 => ?_) (fun h41 => ?_)
  · exact g_vret hR (by decide +kernel : decode prog_10_method_49_code 157 = .ok (.return_, 1)) rfl ⟨rfl, by rw [← hr, show nn f - q = 0 by omega]; rfl⟩
  · refine g_iload_n (by decide +kernel : decode prog_10_method_49_code 44 = .ok (.iload_n 2, 1)) rfl ?_
    refine g_if_eqN (tgt := 157) (by decide +kernel : decode prog_10_method_49_code 45 = .ok (.ifCond .eq 112, 3)) (by decide) (by decide) (fun h => absurd h (by decide)) (fun _ => ?_)
    refine g_aload_n (by decide +kernel : decode prog_10_method_49_code 48 = .ok (.aload_n 0, 1)) rfl ?_
    refine g_iload_n (by decide +kernel : decode prog_10_method_49_code 49 = .ok (.iload_n 3, 1)) rfl ?_
    refine g_iconst (v := nI 4) (by decide +kernel : decode prog_10_method_49_code 50 = .ok (.iconst 4, 1)) (by decide) ?_
    refine g_callVI [.int (nI q), .int (nI 4)] (by decide +kernel : decode prog_10_method_49_code 51 = .ok (.invokevirtual 169, 3)) lk_Md_169 (m_its (mS σ f b) q 4 (v := f (19 + 6 * q + 4)) rfl (by omega)) rfl rfl rfl rfl (Nat.le_of_ble_eq_true rfl) (Nat.le_of_ble_eq_true rfl) (fun r51 s51 h51 => ?_)
    obtain ⟨rfl, rfl⟩ := h51
    refine g_iconst (v := nI 1) (by decide +kernel : decode prog_10_method_49_code 54 = .ok (.iconst 1, 1)) (by decide) ?_
    refine g_icmp_ne (tgt := 151) (by decide +kernel : decode prog_10_method_49_code 55 = .ok (.if_icmp .ne 96, 3)) (by decide) (fun h55 => ?_) (fun h55 => ?_)
    · refine g_iincN (n := 1) (L' := [some (.ref 0), some (.int (nI o)), some (.int (nI 1)), some (.int (nI (q + 1)))]) (by decide +kernel : decode prog_10_method_49_code 151 = .ok (.iinc 3 1, 3)) rfl (by decide) (Nat.le_of_ble_eq_true rfl) rfl ?_
      refine g_goto (tgt := 34) (by decide +kernel : decode prog_10_method_49_code 154 = .ok (.goto (-120), 3)) (by decide) ?_
      exact ih (q + 1) (by omega) (by omega) (by rw [← hr]; exact (findQ_no (by omega) (fun z => h55 z.1)).symm) hR
    · refine g_aload_n (by decide +kernel : decode prog_10_method_49_code 58 = .ok (.aload_n 0, 1)) rfl ?_
      refine g_iload_n (by decide +kernel : decode prog_10_method_49_code 59 = .ok (.iload_n 3, 1)) rfl ?_
      refine g_iconst (v := nI 3) (by decide +kernel : decode prog_10_method_49_code 60 = .ok (.iconst 3, 1)) (by decide) ?_
      refine g_callVI [.int (nI q), .int (nI 3)] (by decide +kernel : decode prog_10_method_49_code 61 = .ok (.invokevirtual 169, 3)) lk_Md_169 (m_its (mS σ f b) q 3 (v := f (19 + 6 * q + 3)) rfl (by omega)) rfl rfl rfl rfl (Nat.le_of_ble_eq_true rfl) (Nat.le_of_ble_eq_true rfl) (fun r61 s61 h61 => ?_)
      obtain ⟨rfl, rfl⟩ := h61
      refine g_aload_n (by decide +kernel : decode prog_10_method_49_code 64 = .ok (.aload_n 0, 1)) rfl ?_
      refine g_iload_n (by decide +kernel : decode prog_10_method_49_code 65 = .ok (.iload_n 1, 1)) rfl ?_
      refine g_iconst (v := nI 3) (by decide +kernel : decode prog_10_method_49_code 66 = .ok (.iconst 3, 1)) (by decide) ?_
      refine g_callVI [.int (nI o), .int (nI 3)] (by decide +kernel : decode prog_10_method_49_code 67 = .ok (.invokevirtual 169, 3)) lk_Md_169 (m_its (mS σ f b) o 3 (v := f (19 + 6 * o + 3)) rfl (by omega)) rfl rfl rfl rfl (Nat.le_of_ble_eq_true rfl) (Nat.le_of_ble_eq_true rfl) (fun r67 s67 h67 => ?_)
      obtain ⟨rfl, rfl⟩ := h67
      refine g_icmp_ne (tgt := 151) (by decide +kernel : decode prog_10_method_49_code 70 = .ok (.if_icmp .ne 81, 3)) (by decide) (fun h70 => ?_) (fun h70 => ?_)
      · refine g_iincN (n := 1) (L' := [some (.ref 0), some (.int (nI o)), some (.int (nI 1)), some (.int (nI (q + 1)))]) (by decide +kernel : decode prog_10_method_49_code 151 = .ok (.iinc 3 1, 3)) rfl (by decide) (Nat.le_of_ble_eq_true rfl) rfl ?_
        refine g_goto (tgt := 34) (by decide +kernel : decode prog_10_method_49_code 154 = .ok (.goto (-120), 3)) (by decide) ?_
        exact ih (q + 1) (by omega) (by omega) (by rw [← hr]; exact (findQ_no (by omega) (fun z => h70 z.2.1)).symm) hR
      · refine g_aload_n (by decide +kernel : decode prog_10_method_49_code 73 = .ok (.aload_n 0, 1)) rfl ?_
        refine g_iload_n (by decide +kernel : decode prog_10_method_49_code 74 = .ok (.iload_n 3, 1)) rfl ?_
        refine g_callVI [.int (nI q)] (by decide +kernel : decode prog_10_method_49_code 75 = .ok (.invokevirtual 177, 3)) lk_Md_177 (m_hides σ f b hI q (by omega)) rfl rfl rfl rfl (Nat.le_of_ble_eq_true rfl) (Nat.le_of_ble_eq_true rfl) (fun r75 s75 h75 => ?_)
        obtain ⟨rfl, rfl⟩ := h75
        refine g_aload_n (by decide +kernel : decode prog_10_method_49_code 78 = .ok (.aload_n 0, 1)) rfl ?_
        refine g_iload_n (by decide +kernel : decode prog_10_method_49_code 79 = .ok (.iload_n 1, 1)) rfl ?_
        refine g_callVI [.int (nI o)] (by decide +kernel : decode prog_10_method_49_code 80 = .ok (.invokevirtual 180, 3)) lk_Md_180 (m_sees σ f b hI o (by omega)) rfl rfl rfl rfl (Nat.le_of_ble_eq_true rfl) (Nat.le_of_ble_eq_true rfl) (fun r80 s80 h80 => ?_)
        obtain ⟨rfl, rfl⟩ := h80
        refine g_icmp_ge (tgt := 151) (by decide +kernel : decode prog_10_method_49_code 83 = .ok (.if_icmp .ge 68, 3)) (by decide) (fun h83 => ?_) (fun h83 => ?_)
        · refine g_iincN (n := 1) (L' := [some (.ref 0), some (.int (nI o)), some (.int (nI 1)), some (.int (nI (q + 1)))]) (by decide +kernel : decode prog_10_method_49_code 151 = .ok (.iinc 3 1, 3)) rfl (by decide) (Nat.le_of_ble_eq_true rfl) rfl ?_
          refine g_goto (tgt := 34) (by decide +kernel : decode prog_10_method_49_code 154 = .ok (.goto (-120), 3)) (by decide) ?_
          exact ih (q + 1) (by omega) (by omega) (by rw [← hr]; exact (findQ_no (by omega) (fun z => absurd h83 (Int32.not_le.mpr z.2.2))).symm) hR
        · refine g_aload_n (by decide +kernel : decode prog_10_method_49_code 86 = .ok (.aload_n 0, 1)) rfl ?_
          refine g_getR (by decide +kernel : decode prog_10_method_49_code 87 = .ok (.getfield 7, 3)) fl_Md_7 rfl rfl ?_
          refine g_bipush (v := nI 19) (by decide +kernel : decode prog_10_method_49_code 90 = .ok (.bipush 19, 2)) (by decide) ?_
          refine g_bipush (v := nI 6) (by decide +kernel : decode prog_10_method_49_code 92 = .ok (.bipush 6, 2)) (by decide) ?_
          refine g_iload_n (by decide +kernel : decode prog_10_method_49_code 94 = .ok (.iload_n 3, 1)) rfl ?_
          refine g_imulN (by decide +kernel : decode prog_10_method_49_code 95 = .ok (.imul, 1)) ?_
          refine g_iaddN (by decide +kernel : decode prog_10_method_49_code 96 = .ok (.iadd, 1)) ?_
          refine g_iconst (v := nI 4) (by decide +kernel : decode prog_10_method_49_code 97 = .ok (.iconst 4, 1)) (by decide) ?_
          refine g_iaddN (by decide +kernel : decode prog_10_method_49_code 98 = .ok (.iadd, 1)) ?_
          refine g_iconst (v := nI 0) (by decide +kernel : decode prog_10_method_49_code 99 = .ok (.iconst 0, 1)) (by decide) ?_
          refine g_iastore (a := 19 + 6 * q + 4) (by decide +kernel : decode prog_10_method_49_code 100 = .ok (.iastore, 1)) rfl rfl (by omega) (by decide) ?_
          refine g_sto (mS_u1 _ _ _ _ _) ?_
          refine g_aload_n (by decide +kernel : decode prog_10_method_49_code 101 = .ok (.aload_n 0, 1)) rfl ?_
          refine g_getR (by decide +kernel : decode prog_10_method_49_code 102 = .ok (.getfield 7, 3)) fl_Md_7 rfl rfl ?_
          refine g_bipush (v := nI 19) (by decide +kernel : decode prog_10_method_49_code 105 = .ok (.bipush 19, 2)) (by decide) ?_
          refine g_bipush (v := nI 6) (by decide +kernel : decode prog_10_method_49_code 107 = .ok (.bipush 6, 2)) (by decide) ?_
          refine g_iload_n (by decide +kernel : decode prog_10_method_49_code 109 = .ok (.iload_n 1, 1)) rfl ?_
          refine g_imulN (by decide +kernel : decode prog_10_method_49_code 110 = .ok (.imul, 1)) ?_
          refine g_iaddN (by decide +kernel : decode prog_10_method_49_code 111 = .ok (.iadd, 1)) ?_
          refine g_iconst (v := nI 4) (by decide +kernel : decode prog_10_method_49_code 112 = .ok (.iconst 4, 1)) (by decide) ?_
          refine g_iaddN (by decide +kernel : decode prog_10_method_49_code 113 = .ok (.iadd, 1)) ?_
          refine g_iconst (v := nI 1) (by decide +kernel : decode prog_10_method_49_code 114 = .ok (.iconst 1, 1)) (by decide) ?_
          refine g_iastore (a := 19 + 6 * o + 4) (by decide +kernel : decode prog_10_method_49_code 115 = .ok (.iastore, 1)) rfl rfl (by omega) (by decide) ?_
          refine g_sto (mS_u1 _ _ _ _ _) ?_
          refine g_aload_n (by decide +kernel : decode prog_10_method_49_code 116 = .ok (.aload_n 0, 1)) rfl ?_
          refine g_getR (by decide +kernel : decode prog_10_method_49_code 117 = .ok (.getfield 7, 3)) fl_Md_7 rfl rfl ?_
          refine g_bipush (v := nI 19) (by decide +kernel : decode prog_10_method_49_code 120 = .ok (.bipush 19, 2)) (by decide) ?_
          refine g_bipush (v := nI 6) (by decide +kernel : decode prog_10_method_49_code 122 = .ok (.bipush 6, 2)) (by decide) ?_
          refine g_iload_n (by decide +kernel : decode prog_10_method_49_code 124 = .ok (.iload_n 1, 1)) rfl ?_
          refine g_imulN (by decide +kernel : decode prog_10_method_49_code 125 = .ok (.imul, 1)) ?_
          refine g_iaddN (by decide +kernel : decode prog_10_method_49_code 126 = .ok (.iadd, 1)) ?_
          refine g_iconst (v := nI 5) (by decide +kernel : decode prog_10_method_49_code 127 = .ok (.iconst 5, 1)) (by decide) ?_
          refine g_iaddN (by decide +kernel : decode prog_10_method_49_code 128 = .ok (.iadd, 1)) ?_
          refine g_bipush (v := nI 99) (by decide +kernel : decode prog_10_method_49_code 129 = .ok (.bipush 99, 2)) (by decide) ?_
          refine g_aload_n (by decide +kernel : decode prog_10_method_49_code 131 = .ok (.aload_n 0, 1)) rfl ?_
          refine g_iload_n (by decide +kernel : decode prog_10_method_49_code 132 = .ok (.iload_n 1, 1)) rfl ?_
          refine g_iconst (v := nI 5) (by decide +kernel : decode prog_10_method_49_code 133 = .ok (.iconst 5, 1)) (by decide) ?_
          refine g_callVI [.int (nI o), .int (nI 5)] (by decide +kernel : decode prog_10_method_49_code 134 = .ok (.invokevirtual 169, 3)) lk_Md_169 (m_its (mS σ (upd (upd f (19 + 6 * q + 4) (nI 0)) (19 + 6 * o + 4) (nI 1)) b) o 5 (v := (upd (upd f (19 + 6 * q + 4) (nI 0)) (19 + 6 * o + 4) (nI 1)) (19 + 6 * o + 5)) rfl (by omega)) rfl rfl rfl rfl (Nat.le_of_ble_eq_true rfl) (Nat.le_of_ble_eq_true rfl) (fun r134 s134 h134 => ?_)
          obtain ⟨rfl, rfl⟩ := h134
          refine g_iconst (v := nI 1) (by decide +kernel : decode prog_10_method_49_code 137 = .ok (.iconst 1, 1)) (by decide) ?_
          refine g_iadd (by decide +kernel : decode prog_10_method_49_code 138 = .ok (.iadd, 1)) ?_
          refine g_callSI [.int (nI 99), .int (((upd (upd f (19 + 6 * q + 4) (nI 0)) (19 + 6 * o + 4) (nI 1)) (19 + 6 * o + 5)) + (nI 1))] (by decide +kernel : decode prog_10_method_49_code 139 = .ok (.invokestatic 195, 3)) lk_Md_195 (m_lst ΛM (mS σ (upd (upd f (19 + 6 * q + 4) (nI 0)) (19 + 6 * o + 4) (nI 1)) b) (nI 99) (((upd (upd f (19 + 6 * q + 4) (nI 0)) (19 + 6 * o + 4) (nI 1)) (19 + 6 * o + 5)) + (nI 1))) rfl rfl (Nat.le_of_ble_eq_true rfl) (Nat.le_of_ble_eq_true rfl) (fun r139 s139 h139 => ?_)
          obtain ⟨rfl, rfl⟩ := h139
          refine g_iastore (a := 19 + 6 * o + 5) (by decide +kernel : decode prog_10_method_49_code 142 = .ok (.iastore, 1)) rfl rfl (by omega) (by decide) ?_
          refine g_sto (mS_u1 _ _ _ _ _) ?_
          refine g_aload_n (by decide +kernel : decode prog_10_method_49_code 143 = .ok (.aload_n 0, 1)) rfl ?_
          refine g_getR (by decide +kernel : decode prog_10_method_49_code 144 = .ok (.getfield 25, 3)) fl_Md_25 rfl rfl ?_
          refine g_iload_n (by decide +kernel : decode prog_10_method_49_code 147 = .ok (.iload_n 3, 1)) rfl ?_
          refine g_iload_n (by decide +kernel : decode prog_10_method_49_code 148 = .ok (.iload_n 1, 1)) rfl ?_
          refine g_iastore (a := q) (by decide +kernel : decode prog_10_method_49_code 149 = .ok (.iastore, 1)) rfl rfl (by omega) (by decide) ?_
          refine g_sto (mS_u6 _ _ _ _ _) ?_
          exact g_vret hR (by decide +kernel : decode prog_10_method_49_code 150 = .ok (.return_, 1)) rfl ⟨rfl, by rw [← hr, findQ_yes (by omega) ⟨h55, h70, Int32.not_le.mp h83⟩]; rfl⟩
set_option maxRecDepth 20000 in
theorem m_seeks1 (σ : Store) (f b : Row) (hI : Inv f) (o : Nat) (ho : o < nn f) : Ct ΛM mt_Md_seeks 2 [.ref 0, .int (nI o), .int (nI 1)] (mS σ f b) (PU (mS σ (seekF (go1 f o) o (seekQ f o true)) (seekB b o (seekQ f o true)))) := by
  refine Ct.of (by decide) (Nat.le_of_ble_eq_true rfl) (fun X hR => ?_)
  show G (ΛM, mt_Md_seeks, 2) X (mS σ f b) [some (.ref 0), some (.int (nI o)), some (.int (nI 1)), none] [] 0
  have hn8 := hI.n.2
  refine g_aload_n (by decide +kernel : decode prog_10_method_49_code 0 = .ok (.aload_n 0, 1)) rfl ?_
  refine g_getR (by decide +kernel : decode prog_10_method_49_code 1 = .ok (.getfield 7, 3)) fl_Md_7 rfl rfl ?_
  refine g_bipush (v := nI 19) (by decide +kernel : decode prog_10_method_49_code 4 = .ok (.bipush 19, 2)) (by decide) ?_
  refine g_bipush (v := nI 6) (by decide +kernel : decode prog_10_method_49_code 6 = .ok (.bipush 6, 2)) (by decide) ?_
  refine g_iload_n (by decide +kernel : decode prog_10_method_49_code 8 = .ok (.iload_n 1, 1)) rfl ?_
  refine g_imulN (by decide +kernel : decode prog_10_method_49_code 9 = .ok (.imul, 1)) ?_
  refine g_iaddN (by decide +kernel : decode prog_10_method_49_code 10 = .ok (.iadd, 1)) ?_
  refine g_iconst (v := nI 3) (by decide +kernel : decode prog_10_method_49_code 11 = .ok (.iconst 3, 1)) (by decide) ?_
  refine g_iaddN (by decide +kernel : decode prog_10_method_49_code 12 = .ok (.iadd, 1)) ?_
  refine g_aload_n (by decide +kernel : decode prog_10_method_49_code 13 = .ok (.aload_n 0, 1)) rfl ?_
  refine g_iload_n (by decide +kernel : decode prog_10_method_49_code 14 = .ok (.iload_n 1, 1)) rfl ?_
  refine g_iconst (v := nI 3) (by decide +kernel : decode prog_10_method_49_code 15 = .ok (.iconst 3, 1)) (by decide) ?_
  refine g_callVI [.int (nI o), .int (nI 3)] (by decide +kernel : decode prog_10_method_49_code 16 = .ok (.invokevirtual 169, 3)) lk_Md_169 (m_its (mS σ f b) o 3 (v := f (19 + 6 * o + 3)) rfl (by omega)) rfl rfl rfl rfl (Nat.le_of_ble_eq_true rfl) (Nat.le_of_ble_eq_true rfl) (fun r16 s16 h16 => ?_)
  obtain ⟨rfl, rfl⟩ := h16
  refine g_aload_n (by decide +kernel : decode prog_10_method_49_code 19 = .ok (.aload_n 0, 1)) rfl ?_
  refine g_iload_n (by decide +kernel : decode prog_10_method_49_code 20 = .ok (.iload_n 1, 1)) rfl ?_
  refine g_callVI [.int (nI o)] (by decide +kernel : decode prog_10_method_49_code 21 = .ok (.invokevirtual 183, 3)) lk_Md_183 (m_strides σ f b hI o ho) rfl rfl rfl rfl (Nat.le_of_ble_eq_true rfl) (Nat.le_of_ble_eq_true rfl) (fun r21 s21 h21 => ?_)
  obtain ⟨rfl, rfl⟩ := h21
  refine g_iadd (by decide +kernel : decode prog_10_method_49_code 24 = .ok (.iadd, 1)) ?_
  refine g_bipush (v := nI 12) (by decide +kernel : decode prog_10_method_49_code 25 = .ok (.bipush 12, 2)) (by decide) ?_
  refine g_iadd (by decide +kernel : decode prog_10_method_49_code 27 = .ok (.iadd, 1)) ?_
  refine g_bipush (v := nI 12) (by decide +kernel : decode prog_10_method_49_code 28 = .ok (.bipush 12, 2)) (by decide) ?_
  refine g_irem (by decide +kernel : decode prog_10_method_49_code 30 = .ok (.irem, 1)) (by decide) ?_
  refine g_iastore (a := 19 + 6 * o + 3) (by decide +kernel : decode prog_10_method_49_code 31 = .ok (.iastore, 1)) rfl rfl (by omega) (by decide) ?_
  refine g_sto (mS_u1 _ _ _ _ _) ?_
  refine g_iconst (v := nI 0) (by decide +kernel : decode prog_10_method_49_code 32 = .ok (.iconst 0, 1)) (by decide) ?_
  refine g_istore_n (L' := [some (.ref 0), some (.int (nI o)), some (.int (nI 1)), some (.int (nI 0))]) (by decide +kernel : decode prog_10_method_49_code 33 = .ok (.istore_n 3, 1)) (Nat.le_of_ble_eq_true rfl) rfl ?_
  exact m_seeks_lp (f := go1 f o) (go1_inv hI ho).1 (by rw [(go1_inv hI ho).2]; exact ho) (nn (go1 f o) + 1) 0 (Nat.zero_le _) (by omega) (by rw [(go1_inv hI ho).2]; rfl) hR
set_option maxRecDepth 20000 in
theorem m_seeks0 (σ : Store) (f b : Row) (hI : Inv f) (o : Nat) (ho : o < nn f) : Ct ΛM mt_Md_seeks 2 [.ref 0, .int (nI o), .int (nI 0)] (mS σ f b) (PU (mS σ (go1 f o) b)) := by
  refine Ct.of (by decide) (Nat.le_of_ble_eq_true rfl) (fun X hR => ?_)
  show G (ΛM, mt_Md_seeks, 2) X (mS σ f b) [some (.ref 0), some (.int (nI o)), some (.int (nI 0)), none] [] 0
  have hn8 := hI.n.2
  refine g_aload_n (by decide +kernel : decode prog_10_method_49_code 0 = .ok (.aload_n 0, 1)) rfl ?_
  refine g_getR (by decide +kernel : decode prog_10_method_49_code 1 = .ok (.getfield 7, 3)) fl_Md_7 rfl rfl ?_
  refine g_bipush (v := nI 19) (by decide +kernel : decode prog_10_method_49_code 4 = .ok (.bipush 19, 2)) (by decide) ?_
  refine g_bipush (v := nI 6) (by decide +kernel : decode prog_10_method_49_code 6 = .ok (.bipush 6, 2)) (by decide) ?_
  refine g_iload_n (by decide +kernel : decode prog_10_method_49_code 8 = .ok (.iload_n 1, 1)) rfl ?_
  refine g_imulN (by decide +kernel : decode prog_10_method_49_code 9 = .ok (.imul, 1)) ?_
  refine g_iaddN (by decide +kernel : decode prog_10_method_49_code 10 = .ok (.iadd, 1)) ?_
  refine g_iconst (v := nI 3) (by decide +kernel : decode prog_10_method_49_code 11 = .ok (.iconst 3, 1)) (by decide) ?_
  refine g_iaddN (by decide +kernel : decode prog_10_method_49_code 12 = .ok (.iadd, 1)) ?_
  refine g_aload_n (by decide +kernel : decode prog_10_method_49_code 13 = .ok (.aload_n 0, 1)) rfl ?_
  refine g_iload_n (by decide +kernel : decode prog_10_method_49_code 14 = .ok (.iload_n 1, 1)) rfl ?_
  refine g_iconst (v := nI 3) (by decide +kernel : decode prog_10_method_49_code 15 = .ok (.iconst 3, 1)) (by decide) ?_
  refine g_callVI [.int (nI o), .int (nI 3)] (by decide +kernel : decode prog_10_method_49_code 16 = .ok (.invokevirtual 169, 3)) lk_Md_169 (m_its (mS σ f b) o 3 (v := f (19 + 6 * o + 3)) rfl (by omega)) rfl rfl rfl rfl (Nat.le_of_ble_eq_true rfl) (Nat.le_of_ble_eq_true rfl) (fun r16 s16 h16 => ?_)
  obtain ⟨rfl, rfl⟩ := h16
  refine g_aload_n (by decide +kernel : decode prog_10_method_49_code 19 = .ok (.aload_n 0, 1)) rfl ?_
  refine g_iload_n (by decide +kernel : decode prog_10_method_49_code 20 = .ok (.iload_n 1, 1)) rfl ?_
  refine g_callVI [.int (nI o)] (by decide +kernel : decode prog_10_method_49_code 21 = .ok (.invokevirtual 183, 3)) lk_Md_183 (m_strides σ f b hI o ho) rfl rfl rfl rfl (Nat.le_of_ble_eq_true rfl) (Nat.le_of_ble_eq_true rfl) (fun r21 s21 h21 => ?_)
  obtain ⟨rfl, rfl⟩ := h21
  refine g_iadd (by decide +kernel : decode prog_10_method_49_code 24 = .ok (.iadd, 1)) ?_
  refine g_bipush (v := nI 12) (by decide +kernel : decode prog_10_method_49_code 25 = .ok (.bipush 12, 2)) (by decide) ?_
  refine g_iadd (by decide +kernel : decode prog_10_method_49_code 27 = .ok (.iadd, 1)) ?_
  refine g_bipush (v := nI 12) (by decide +kernel : decode prog_10_method_49_code 28 = .ok (.bipush 12, 2)) (by decide) ?_
  refine g_irem (by decide +kernel : decode prog_10_method_49_code 30 = .ok (.irem, 1)) (by decide) ?_
  refine g_iastore (a := 19 + 6 * o + 3) (by decide +kernel : decode prog_10_method_49_code 31 = .ok (.iastore, 1)) rfl rfl (by omega) (by decide) ?_
  refine g_sto (mS_u1 _ _ _ _ _) ?_
  refine g_iconst (v := nI 0) (by decide +kernel : decode prog_10_method_49_code 32 = .ok (.iconst 0, 1)) (by decide) ?_
  refine g_istore_n (L' := [some (.ref 0), some (.int (nI o)), some (.int (nI 0)), some (.int (nI 0))]) (by decide +kernel : decode prog_10_method_49_code 33 = .ok (.istore_n 3, 1)) (Nat.le_of_ble_eq_true rfl) rfl ?_
  refine g_iload_n (by decide +kernel : decode prog_10_method_49_code 34 = .ok (.iload_n 3, 1)) rfl ?_
  refine g_aload_n (by decide +kernel : decode prog_10_method_49_code 35 = .ok (.aload_n 0, 1)) rfl ?_
  refine g_getR (by decide +kernel : decode prog_10_method_49_code 36 = .ok (.getfield 7, 3)) fl_Md_7 rfl rfl ?_
  refine g_iconst (v := nI 0) (by decide +kernel : decode prog_10_method_49_code 39 = .ok (.iconst 0, 1)) (by decide) ?_
  refine g_iaload (a := 0) (by decide +kernel : decode prog_10_method_49_code 40 = .ok (.iaload, 1)) rfl rfl (by decide) (by decide) ?_
  refine g_top (w := nI (nn f)) (by rw [mS_1, upd_n (by omega)]; exact hI.n.1) ?_
  refine g_icmp_geN (tgt := 157) (by decide +kernel : decode prog_10_method_49_code 41 = .ok (.if_icmp .ge 116, 3)) (by decide) (by decide) (by omega) (fun h41 => ?_) (fun h41 => ?_)
  · exact g_vret hR (by decide +kernel : decode prog_10_method_49_code 157 = .ok (.return_, 1)) rfl ⟨rfl, rfl⟩
  · refine g_iload_n (by decide +kernel : decode prog_10_method_49_code 44 = .ok (.iload_n 2, 1)) rfl ?_
    refine g_if_eqN (tgt := 157) (by decide +kernel : decode prog_10_method_49_code 45 = .ok (.ifCond .eq 112, 3)) (by decide) (by decide) (fun _ => ?_) (fun h => absurd (by decide) h)
    exact g_vret hR (by decide +kernel : decode prog_10_method_49_code 157 = .ok (.return_, 1)) rfl ⟨rfl, rfl⟩
theorem m_seeks (σ : Store) (f b : Row) (hI : Inv f) (o : Nat) (ho : o < nn f) (may : Bool) : Ct ΛM mt_Md_seeks 2 [.ref 0, .int (nI o), .int (nI (if may then 1 else 0))] (mS σ f b) (PU (mS σ (seekF (go1 f o) o (seekQ f o may)) (seekB b o (seekQ f o may)))) := by
  cases may with
  | true => exact m_seeks1 σ f b hI o ho
  | false => exact m_seeks0 σ f b hI o ho
set_option maxRecDepth 20000 in
theorem m_year_lp1 {X : CX} {σ : Store} {f b : Row} (hI : Inv f) {m : Nat} (hK : G (ΛM, mt_Md_goesBy, 3) X (mS σ (growN f (nn f)) (rstB b (nn f))) [some (.ref 0), some (.int (nI m)), none, none] [] 93) : ∀ (b9 k : Nat), k ≤ nn f → nn f - k < b9 → G (ΛM, mt_Md_goesBy, 3) X (mS σ (growN f k) (rstB b k)) [some (.ref 0), some (.int (nI m)), some (.int (nI k)), none] [] 2 := by
  have hn8 := hI.n.2
  intro b9
  induction b9 with
  | zero => intro k hk hb; omega
  | succ b9 ih =>
  intro k hk hb
  have hg := (growN_inv hI k hk).1
  have hg0 : nn f = nn (growN f k) := (growN_inv hI k hk).2.symm
  refine g_iload_n (by decide +kernel : decode prog_10_method_50_code 2 = .ok (.iload_n 2, 1)) rfl ?_
  refine g_aload_n (by decide +kernel : decode prog_10_method_50_code 3 = .ok (.aload_n 0, 1)) rfl ?_
  refine g_getR (by decide +kernel : decode prog_10_method_50_code 4 = .ok (.getfield 7, 3)) fl_Md_7 rfl rfl ?_
  refine g_iconst (v := nI 0) (by decide +kernel : decode prog_10_method_50_code 7 = .ok (.iconst 0, 1)) (by decide) ?_
  refine g_iaload (a := 0) (by decide +kernel : decode prog_10_method_50_code 8 = .ok (.iaload, 1)) rfl rfl (by decide) (by decide) ?_
  refine g_top (w := nI (nn f)) (by show growN f k 0 = _; rw [hg0]; exact hg.n.1) ?_
  refine g_icmp_geN (tgt := 93) (by decide +kernel : decode prog_10_method_50_code 9 = .ok (.if_icmp .ge 84, 3)) (by decide) (by omega) (by omega) (fun h9 => ?_) (fun h9 => ?_)
  · obtain rfl : k = nn f := by omega
    refine g_sub (L' := [some (.ref 0), some (.int (nI m)), none, none]) ⟨rfl, rfl, trivial⟩ ?_
    exact hK
  · refine g_aload_n (by decide +kernel : decode prog_10_method_50_code 12 = .ok (.aload_n 0, 1)) rfl ?_
    refine g_getR (by decide +kernel : decode prog_10_method_50_code 13 = .ok (.getfield 25, 3)) fl_Md_25 rfl rfl ?_
    refine g_iload_n (by decide +kernel : decode prog_10_method_50_code 16 = .ok (.iload_n 2, 1)) rfl ?_
    refine g_iconst (v := (-1)) (by decide +kernel : decode prog_10_method_50_code 17 = .ok (.iconst (-1), 1)) (by decide) ?_
    refine g_iastore (a := k) (by decide +kernel : decode prog_10_method_50_code 18 = .ok (.iastore, 1)) rfl rfl (by omega) (by decide) ?_
    refine g_sto (mS_u6 _ _ _ _ _) ?_
    refine g_bipush (v := nI 19) (by decide +kernel : decode prog_10_method_50_code 19 = .ok (.bipush 19, 2)) (by decide) ?_
    refine g_bipush (v := nI 6) (by decide +kernel : decode prog_10_method_50_code 21 = .ok (.bipush 6, 2)) (by decide) ?_
    refine g_iload_n (by decide +kernel : decode prog_10_method_50_code 23 = .ok (.iload_n 2, 1)) rfl ?_
    refine g_imulN (by decide +kernel : decode prog_10_method_50_code 24 = .ok (.imul, 1)) ?_
    refine g_iaddN (by decide +kernel : decode prog_10_method_50_code 25 = .ok (.iadd, 1)) ?_
    refine g_istore_n (L' := [some (.ref 0), some (.int (nI m)), some (.int (nI k)), some (.int (nI (19 + 6 * k)))]) (by decide +kernel : decode prog_10_method_50_code 26 = .ok (.istore_n 3, 1)) (Nat.le_of_ble_eq_true rfl) rfl ?_
    refine g_aload_n (by decide +kernel : decode prog_10_method_50_code 27 = .ok (.aload_n 0, 1)) rfl ?_
    refine g_getR (by decide +kernel : decode prog_10_method_50_code 28 = .ok (.getfield 7, 3)) fl_Md_7 rfl rfl ?_
    refine g_iload_n (by decide +kernel : decode prog_10_method_50_code 31 = .ok (.iload_n 3, 1)) rfl ?_
    refine g_iconst (v := nI 1) (by decide +kernel : decode prog_10_method_50_code 32 = .ok (.iconst 1, 1)) (by decide) ?_
    refine g_iaddN (by decide +kernel : decode prog_10_method_50_code 33 = .ok (.iadd, 1)) ?_
    refine g_bipush (v := nI 99) (by decide +kernel : decode prog_10_method_50_code 34 = .ok (.bipush 99, 2)) (by decide) ?_
    refine g_aload_n (by decide +kernel : decode prog_10_method_50_code 36 = .ok (.aload_n 0, 1)) rfl ?_
    refine g_getR (by decide +kernel : decode prog_10_method_50_code 37 = .ok (.getfield 7, 3)) fl_Md_7 rfl rfl ?_
    refine g_iload_n (by decide +kernel : decode prog_10_method_50_code 40 = .ok (.iload_n 3, 1)) rfl ?_
    refine g_iconst (v := nI 1) (by decide +kernel : decode prog_10_method_50_code 41 = .ok (.iconst 1, 1)) (by decide) ?_
    refine g_iaddN (by decide +kernel : decode prog_10_method_50_code 42 = .ok (.iadd, 1)) ?_
    refine g_iaload (a := 19 + 6 * k + 1) (by decide +kernel : decode prog_10_method_50_code 43 = .ok (.iaload, 1)) rfl rfl (by omega) (by decide) ?_
    refine g_top (w := (growN f k) (19 + 6 * k + 1)) (rfl) ?_
    refine g_iconst (v := nI 1) (by decide +kernel : decode prog_10_method_50_code 44 = .ok (.iconst 1, 1)) (by decide) ?_
    refine g_iadd (by decide +kernel : decode prog_10_method_50_code 45 = .ok (.iadd, 1)) ?_
    refine g_callSI [.int (nI 99), .int (((growN f k) (19 + 6 * k + 1)) + (nI 1))] (by decide +kernel : decode prog_10_method_50_code 46 = .ok (.invokestatic 195, 3)) lk_Md_195 (m_lst ΛM (mS σ (growN f k) (upd (rstB b k) k (-1))) (nI 99) (((growN f k) (19 + 6 * k + 1)) + (nI 1))) rfl rfl (Nat.le_of_ble_eq_true rfl) (Nat.le_of_ble_eq_true rfl) (fun r46 s46 h46 => ?_)
    obtain ⟨rfl, rfl⟩ := h46
    refine g_iastore (a := 19 + 6 * k + 1) (by decide +kernel : decode prog_10_method_50_code 49 = .ok (.iastore, 1)) rfl rfl (by omega) (by decide) ?_
    refine g_sto (mS_u1 _ _ _ _ _) ?_
    refine g_aload_n (by decide +kernel : decode prog_10_method_50_code 50 = .ok (.aload_n 0, 1)) rfl ?_
    refine g_getR (by decide +kernel : decode prog_10_method_50_code 51 = .ok (.getfield 7, 3)) fl_Md_7 rfl rfl ?_
    refine g_iload_n (by decide +kernel : decode prog_10_method_50_code 54 = .ok (.iload_n 3, 1)) rfl ?_
    refine g_iconst (v := nI 4) (by decide +kernel : decode prog_10_method_50_code 55 = .ok (.iconst 4, 1)) (by decide) ?_
    refine g_iaddN (by decide +kernel : decode prog_10_method_50_code 56 = .ok (.iadd, 1)) ?_
    refine g_aload_n (by decide +kernel : decode prog_10_method_50_code 57 = .ok (.aload_n 0, 1)) rfl ?_
    refine g_getR (by decide +kernel : decode prog_10_method_50_code 58 = .ok (.getfield 7, 3)) fl_Md_7 rfl rfl ?_
    refine g_iload_n (by decide +kernel : decode prog_10_method_50_code 61 = .ok (.iload_n 3, 1)) rfl ?_
    refine g_iconst (v := nI 1) (by decide +kernel : decode prog_10_method_50_code 62 = .ok (.iconst 1, 1)) (by decide) ?_
    refine g_iaddN (by decide +kernel : decode prog_10_method_50_code 63 = .ok (.iadd, 1)) ?_
    refine g_iaload (a := 19 + 6 * k + 1) (by decide +kernel : decode prog_10_method_50_code 64 = .ok (.iaload, 1)) rfl rfl (by omega) (by decide) ?_
    refine g_top (w := (upd (growN f k) (19 + 6 * k + 1) (lst (nI 99) (((growN f k) (19 + 6 * k + 1)) + (nI 1)))) (19 + 6 * k + 1)) (rfl) ?_
    refine g_aload_n (by decide +kernel : decode prog_10_method_50_code 65 = .ok (.aload_n 0, 1)) rfl ?_
    refine g_getR (by decide +kernel : decode prog_10_method_50_code 66 = .ok (.getfield 7, 3)) fl_Md_7 rfl rfl ?_
    refine g_iconst (v := nI 3) (by decide +kernel : decode prog_10_method_50_code 69 = .ok (.iconst 3, 1)) (by decide) ?_
    refine g_iaload (a := 3) (by decide +kernel : decode prog_10_method_50_code 70 = .ok (.iaload, 1)) rfl rfl (by decide) (by decide) ?_
    refine g_top (w := (upd (growN f k) (19 + 6 * k + 1) (lst (nI 99) (((growN f k) (19 + 6 * k + 1)) + (nI 1)))) 3) (rfl) ?_
    have J71 : G (ΛM, mt_Md_goesBy, 3) X (mS σ (upd (growN f k) (19 + 6 * k + 1) (lst (nI 99) (((growN f k) (19 + 6 * k + 1)) + (nI 1)))) (upd (rstB b k) k (-1))) [some (.ref 0), some (.int (nI m)), some (.int (nI k)), some (.int (nI (19 + 6 * k)))] [.int (if (upd (growN f k) (19 + 6 * k + 1) (lst (nI 99) (((growN f k) (19 + 6 * k + 1)) + (nI 1)))) (19 + 6 * k + 1) < (upd (growN f k) (19 + 6 * k + 1) (lst (nI 99) (((growN f k) (19 + 6 * k + 1)) + (nI 1)))) 3 then (upd (growN f k) (19 + 6 * k + 1) (lst (nI 99) (((growN f k) (19 + 6 * k + 1)) + (nI 1)))) (19 + 6 * k + 4) else nI 0), .int (nI (19 + 6 * k + 4)), .ref 1] 86 := by
      refine g_iastore (a := 19 + 6 * k + 4) (by decide +kernel : decode prog_10_method_50_code 86 = .ok (.iastore, 1)) rfl rfl (by omega) (by decide) ?_
      refine g_sto (mS_u1 _ _ _ _ _) ?_
      refine g_iincN (n := 1) (L' := [some (.ref 0), some (.int (nI m)), some (.int (nI (k + 1))), some (.int (nI (19 + 6 * k)))]) (by decide +kernel : decode prog_10_method_50_code 87 = .ok (.iinc 2 1, 3)) rfl (by decide) (Nat.le_of_ble_eq_true rfl) rfl ?_
      refine g_goto (tgt := 2) (by decide +kernel : decode prog_10_method_50_code 90 = .ok (.goto (-88), 3)) (by decide) ?_
      refine g_sub (L' := [some (.ref 0), some (.int (nI m)), some (.int (nI (k + 1))), none]) ⟨rfl, rfl, rfl, trivial⟩ ?_
      exact ih (k + 1) (by omega) (by omega)
    refine g_icmp_lt (tgt := 78) (by decide +kernel : decode prog_10_method_50_code 71 = .ok (.if_icmp .lt 7, 3)) (by decide) (fun h71 => ?_) (fun h71 => ?_)
    · refine g_aload_n (by decide +kernel : decode prog_10_method_50_code 78 = .ok (.aload_n 0, 1)) rfl ?_
      refine g_getR (by decide +kernel : decode prog_10_method_50_code 79 = .ok (.getfield 7, 3)) fl_Md_7 rfl rfl ?_
      refine g_iload_n (by decide +kernel : decode prog_10_method_50_code 82 = .ok (.iload_n 3, 1)) rfl ?_
      refine g_iconst (v := nI 4) (by decide +kernel : decode prog_10_method_50_code 83 = .ok (.iconst 4, 1)) (by decide) ?_
      refine g_iaddN (by decide +kernel : decode prog_10_method_50_code 84 = .ok (.iadd, 1)) ?_
      refine g_iaload (a := 19 + 6 * k + 4) (by decide +kernel : decode prog_10_method_50_code 85 = .ok (.iaload, 1)) rfl rfl (by omega) (by decide) ?_
      refine g_top (w := (upd (growN f k) (19 + 6 * k + 1) (lst (nI 99) (((growN f k) (19 + 6 * k + 1)) + (nI 1)))) (19 + 6 * k + 4)) (rfl) ?_
      exact g_top (by simp only [h71, ↓reduceIte, not_true_eq_false, not_false_eq_true, if_true, if_false]) J71
    · refine g_iconst (v := nI 0) (by decide +kernel : decode prog_10_method_50_code 74 = .ok (.iconst 0, 1)) (by decide) ?_
      refine g_goto (tgt := 86) (by decide +kernel : decode prog_10_method_50_code 75 = .ok (.goto 11, 3)) (by decide) ?_
      exact g_top (by simp only [h71, ↓reduceIte, not_true_eq_false, not_false_eq_true, if_true, if_false]) J71
set_option maxRecDepth 20000 in
theorem m_year_lp2 {X : CX} {σ : Store} {f b : Row} (hI : Inv f) {m h : Nat} (hm : m < 256) (hh : h < 256) : ∀ (b9 k : Nat), k ≤ nn f → nn f - k < b9 → Rt (ΛM, mt_Md_goesBy, 3) (PU (mS σ (upd (seekN m h f b (nn f)).1 1 ((seekN m h f b (nn f)).1 1 + nI 1)) (seekN m h f b (nn f)).2)) X → G (ΛM, mt_Md_goesBy, 3) X (mS σ ((seekN m h f b k).1) ((seekN m h f b k).2)) [some (.ref 0), some (.int (nI m)), some (.int (nI h)), some (.int (nI k))] [] 100 := by
  have hn8 := hI.n.2
  intro b9
  induction b9 with
  | zero => intro k hk hb hR; omega
  | succ b9 ih =>
  intro k hk hb hR
  have hg := (seekN_inv (m := m) (hh := h) (b := b) hI k hk).1
  have hg0 : nn (seekN m h f b k).1 = nn f := (seekN_inv (m := m) (hh := h) (b := b) hI k hk).2
  refine g_iload_n (by decide +kernel : decode prog_10_method_50_code 100 = .ok (.iload_n 3, 1)) rfl ?_
  refine g_aload_n (by decide +kernel : decode prog_10_method_50_code 101 = .ok (.aload_n 0, 1)) rfl ?_
  refine g_getR (by decide +kernel : decode prog_10_method_50_code 102 = .ok (.getfield 7, 3)) fl_Md_7 rfl rfl ?_
  refine g_iconst (v := nI 0) (by decide +kernel : decode prog_10_method_50_code 105 = .ok (.iconst 0, 1)) (by decide) ?_
  refine g_iaload (a := 0) (by decide +kernel : decode prog_10_method_50_code 106 = .ok (.iaload, 1)) rfl rfl (by decide) (by decide) ?_
  refine g_top (w := nI (nn f)) (by show (seekN m h f b k).1 0 = _; rw [← hg0]; exact hg.n.1) ?_
  refine g_icmp_geN (tgt := 143) (by decide +kernel : decode prog_10_method_50_code 107 = .ok (.if_icmp .ge 36, 3)) (by decide) (by first | omega | (have h9 := ite1 (h.testBit k = true); omega) | (have h9 := ite1 (m.testBit k = true); omega)) (by first | omega | (have h9 := ite1 (h.testBit k = true); omega) | (have h9 := ite1 (m.testBit k = true); omega)) (fun h107 => ?_) (fun h107 => ?_)
  · refine g_aload_n (by decide +kernel : decode prog_10_method_50_code 143 = .ok (.aload_n 0, 1)) rfl ?_
    refine g_getR (by decide +kernel : decode prog_10_method_50_code 144 = .ok (.getfield 7, 3)) fl_Md_7 rfl rfl ?_
    refine g_iconst (v := nI 1) (by decide +kernel : decode prog_10_method_50_code 147 = .ok (.iconst 1, 1)) (by decide) ?_
    refine g_dup2 (by decide +kernel : decode prog_10_method_50_code 148 = .ok (.dup2, 1)) rfl rfl ?_
    refine g_iaload (a := 1) (by decide +kernel : decode prog_10_method_50_code 149 = .ok (.iaload, 1)) rfl rfl (by decide) (by decide) ?_
    refine g_top (w := ((seekN m h f b k).1) 1) (rfl) ?_
    refine g_iconst (v := nI 1) (by decide +kernel : decode prog_10_method_50_code 150 = .ok (.iconst 1, 1)) (by decide) ?_
    refine g_iadd (by decide +kernel : decode prog_10_method_50_code 151 = .ok (.iadd, 1)) ?_
    refine g_iastore (a := 1) (by decide +kernel : decode prog_10_method_50_code 152 = .ok (.iastore, 1)) rfl rfl (by decide) (by decide) ?_
    refine g_sto (mS_u1 _ _ _ _ _) ?_
    exact g_vret hR (by decide +kernel : decode prog_10_method_50_code 153 = .ok (.return_, 1)) rfl ⟨rfl, by rw [show k = nn f by omega]⟩
  · refine g_iload_n (by decide +kernel : decode prog_10_method_50_code 110 = .ok (.iload_n 2, 1)) rfl ?_
    refine g_iload_n (by decide +kernel : decode prog_10_method_50_code 111 = .ok (.iload_n 3, 1)) rfl ?_
    refine g_ishr (by decide +kernel : decode prog_10_method_50_code 112 = .ok (.ishr, 1)) ?_
    refine g_iconst (v := nI 1) (by decide +kernel : decode prog_10_method_50_code 113 = .ok (.iconst 1, 1)) (by decide) ?_
    refine g_iand (by decide +kernel : decode prog_10_method_50_code 114 = .ok (.iand, 1)) ?_
    refine g_top (w := nI (if h.testBit k then 1 else 0)) (nI_bit (by omega) (by omega)) ?_
    refine g_if_neN (tgt := 137) (by decide +kernel : decode prog_10_method_50_code 115 = .ok (.ifCond .ne 22, 3)) (by decide) (by first | omega | (have h9 := ite1 (h.testBit k = true); omega) | (have h9 := ite1 (m.testBit k = true); omega)) (fun h115 => ?_) (fun h115 => ?_)
    · refine g_iincN (n := 1) (L' := [some (.ref 0), some (.int (nI m)), some (.int (nI h)), some (.int (nI (k + 1)))]) (by decide +kernel : decode prog_10_method_50_code 137 = .ok (.iinc 3 1, 3)) rfl (by decide) (Nat.le_of_ble_eq_true rfl) rfl ?_
      refine g_goto (tgt := 100) (by decide +kernel : decode prog_10_method_50_code 140 = .ok (.goto (-40), 3)) (by decide) ?_
      refine g_sto (σ' := mS σ (seekN m h f b (k + 1)).1 (seekN m h f b (k + 1)).2) (by have hb' : h.testBit k = true := by { cases hz : h.testBit k with | true => rfl | false => rw [hz] at h115; exact absurd rfl h115 }; simp only [seekN, hb', ↓reduceIte]) ?_
      exact ih (k + 1) (by omega) (by omega) hR
    · refine g_aload_n (by decide +kernel : decode prog_10_method_50_code 118 = .ok (.aload_n 0, 1)) rfl ?_
      refine g_iload_n (by decide +kernel : decode prog_10_method_50_code 119 = .ok (.iload_n 3, 1)) rfl ?_
      refine g_iload_n (by decide +kernel : decode prog_10_method_50_code 120 = .ok (.iload_n 1, 1)) rfl ?_
      refine g_iload_n (by decide +kernel : decode prog_10_method_50_code 121 = .ok (.iload_n 3, 1)) rfl ?_
      refine g_ishr (by decide +kernel : decode prog_10_method_50_code 122 = .ok (.ishr, 1)) ?_
      refine g_iconst (v := nI 1) (by decide +kernel : decode prog_10_method_50_code 123 = .ok (.iconst 1, 1)) (by decide) ?_
      refine g_iand (by decide +kernel : decode prog_10_method_50_code 124 = .ok (.iand, 1)) ?_
      refine g_top (w := nI (if m.testBit k then 1 else 0)) (nI_bit (by omega) (by omega)) ?_
      refine g_iconst (v := nI 1) (by decide +kernel : decode prog_10_method_50_code 125 = .ok (.iconst 1, 1)) (by decide) ?_
      have J126 : G (ΛM, mt_Md_goesBy, 3) X (mS σ ((seekN m h f b k).1) ((seekN m h f b k).2)) [some (.ref 0), some (.int (nI m)), some (.int (nI h)), some (.int (nI k))] [.int (nI (if m.testBit k then 1 else 0)), .int (nI k), .ref 0] 134 := by
        refine g_callVV [.int (nI k), .int (nI (if m.testBit k then 1 else 0))] (by decide +kernel : decode prog_10_method_50_code 134 = .ok (.invokevirtual 198, 3)) lk_Md_198 (m_seeks σ (seekN m h f b k).1 (seekN m h f b k).2 hg k (by omega) (m.testBit k)) rfl rfl rfl rfl (Nat.le_of_ble_eq_true rfl) (Nat.le_of_ble_eq_true rfl) (fun s134 h134 => ?_)
        obtain rfl := h134
        refine g_iincN (n := 1) (L' := [some (.ref 0), some (.int (nI m)), some (.int (nI h)), some (.int (nI (k + 1)))]) (by decide +kernel : decode prog_10_method_50_code 137 = .ok (.iinc 3 1, 3)) rfl (by decide) (Nat.le_of_ble_eq_true rfl) rfl ?_
        refine g_goto (tgt := 100) (by decide +kernel : decode prog_10_method_50_code 140 = .ok (.goto (-40), 3)) (by decide) ?_
        refine g_sto (σ' := mS σ (seekN m h f b (k + 1)).1 (seekN m h f b (k + 1)).2) (by have hb' : h.testBit k = false := by { cases hz : h.testBit k with | false => rfl | true => rw [hz] at h115; exact absurd h115 (by decide) }; simp only [seekN, hb']; rfl) ?_
        exact ih (k + 1) (by omega) (by omega) hR
      refine g_icmp_neN (tgt := 133) (by decide +kernel : decode prog_10_method_50_code 126 = .ok (.if_icmp .ne 7, 3)) (by decide) (by first | omega | (have h9 := ite1 (h.testBit k = true); omega) | (have h9 := ite1 (m.testBit k = true); omega)) (by decide) (fun h126 => ?_) (fun h126 => ?_)
      · refine g_iconst (v := nI 0) (by decide +kernel : decode prog_10_method_50_code 133 = .ok (.iconst 0, 1)) (by decide) ?_
        exact g_top (congrArg nI (by have := ite1 (m.testBit k = true); omega)) J126
      · refine g_iconst (v := nI 1) (by decide +kernel : decode prog_10_method_50_code 129 = .ok (.iconst 1, 1)) (by decide) ?_
        refine g_goto (tgt := 134) (by decide +kernel : decode prog_10_method_50_code 130 = .ok (.goto 4, 3)) (by decide) ?_
        exact g_top (by rw [h126]) J126
set_option maxRecDepth 20000 in
theorem m_goesBy (σ : Store) (f b : Row) (hI : Inv f) (m : Nat) (hm : m < 256) : Ct ΛM mt_Md_goesBy 3 [.ref 0, .int (nI m)] (mS σ f b) (PU (mS σ (yr m f b).1 (yr m f b).2)) := by
  refine Ct.of (by decide) (Nat.le_of_ble_eq_true rfl) (fun X hR => ?_)
  show G (ΛM, mt_Md_goesBy, 3) X (mS σ f b) [some (.ref 0), some (.int (nI m)), none, none] [] 0
  have hn8 := hI.n.2
  have hg := (growN_inv hI (nn f) (Nat.le_refl _)).1
  have hg0 : nn (growN f (nn f)) = nn f := (growN_inv hI (nn f) (Nat.le_refl _)).2
  have hK : G (ΛM, mt_Md_goesBy, 3) X (mS σ (growN f (nn f)) (rstB b (nn f))) [some (.ref 0), some (.int (nI m)), none, none] [] 93 := by
    refine g_aload_n (by decide +kernel : decode prog_10_method_50_code 93 = .ok (.aload_n 0, 1)) rfl ?_
    refine g_callVI [] (by decide +kernel : decode prog_10_method_50_code 94 = .ok (.invokevirtual 189, 3)) lk_Md_189 (m_hiddenOnes σ (growN f (nn f)) (rstB b (nn f)) hg) rfl rfl rfl rfl (Nat.le_of_ble_eq_true rfl) (Nat.le_of_ble_eq_true rfl) (fun r94 s94 h94 => ?_)
    obtain ⟨rfl, rfl⟩ := h94
    refine g_istore_n (L' := [some (.ref 0), some (.int (nI m)), some (.int (nI (msk (growN f (nn f)) (nn (growN f (nn f)))))), none]) (by decide +kernel : decode prog_10_method_50_code 97 = .ok (.istore_n 2, 1)) (Nat.le_of_ble_eq_true rfl) rfl ?_
    refine g_iconst (v := nI 0) (by decide +kernel : decode prog_10_method_50_code 98 = .ok (.iconst 0, 1)) (by decide) ?_
    refine g_istore_n (L' := [some (.ref 0), some (.int (nI m)), some (.int (nI (msk (growN f (nn f)) (nn (growN f (nn f)))))), some (.int (nI 0))]) (by decide +kernel : decode prog_10_method_50_code 99 = .ok (.istore_n 3, 1)) (Nat.le_of_ble_eq_true rfl) rfl ?_
    have hlt : msk (growN f (nn f)) (nn (growN f (nn f))) < 256 := inv_m256 hg
    refine m_year_lp2 hg hm hlt (nn f + 1) 0 (Nat.zero_le _) (by omega) ?_
    have e1 : (yr m f b) = (upd (seekN m (msk (growN f (nn f)) (nn (growN f (nn f)))) (growN f (nn f)) (rstB b (nn f)) (nn (growN f (nn f)))).1 1 ((seekN m (msk (growN f (nn f)) (nn (growN f (nn f)))) (growN f (nn f)) (rstB b (nn f)) (nn (growN f (nn f)))).1 1 + nI 1), (seekN m (msk (growN f (nn f)) (nn (growN f (nn f)))) (growN f (nn f)) (rstB b (nn f)) (nn (growN f (nn f)))).2) := by rw [hg0]; rfl
    rw [e1] at hR
    exact hR
  refine g_iconst (v := nI 0) (by decide +kernel : decode prog_10_method_50_code 0 = .ok (.iconst 0, 1)) (by decide) ?_
  refine g_istore_n (L' := [some (.ref 0), some (.int (nI m)), some (.int (nI 0)), none]) (by decide +kernel : decode prog_10_method_50_code 1 = .ok (.istore_n 2, 1)) (Nat.le_of_ble_eq_true rfl) rfl ?_
  exact m_year_lp1 hI hK (nn f + 1) 0 (Nat.zero_le _) (by omega)
end
section
/-! THE REFERENCE: what is tried (rows are laid aside and laid back) -/
/-- one of the people; a number in a range -/
def pz (f : Row) (x : Int32) : Option Nat := if 0 ≤ x ∧ x < f 0 then some (tn x) else none
def rg (a b : Nat) (x : Int32) : Option Nat := if nI a ≤ x ∧ x ≤ nI b then some (tn x) else none
theorem pz_of {f : Row} (hI : Inv f) {j : Nat} (h : j < nn f) : pz f (nI j) = some j := by
  have h8 := hI.n.2
  unfold pz
  rw [hI.n.1, if_pos ⟨nI_pos' (by omega), nI_lt h (by omega)⟩, tn_nI (by omega)]
theorem pz_none {f : Row} (hI : Inv f) {x : Int32} (h : ¬ ∃ j, j < nn f ∧ x = nI j) : pz f x = none := by
  have h8 := hI.n.2
  unfold pz
  rw [if_neg]
  rw [hI.n.1]
  exact fun q => h ((i32_lt x (by omega)).mp q)
theorem rg_of {a b j : Nat} (h1 : a ≤ j) (h2 : j ≤ b) (hb : b < 2 ^ 31 := by decide) : rg a b (nI j) = some j := by
  unfold rg
  rw [if_pos ⟨nI_le h1 (by omega), nI_le h2 hb⟩, tn_nI (by omega)]
theorem rg_none {a b : Nat} {x : Int32} (h : ¬ ∃ j, a ≤ j ∧ j ≤ b ∧ x = nI j) (hb : b < 2 ^ 31 := by decide) (hab : a ≤ b := by decide) : rg a b x = none := by
  unfold rg
  rw [if_neg]
  rintro ⟨h1, h2⟩
  apply h
  rw [Int32.le_iff_toInt_le, nI_toInt (by omega)] at h1
  rw [Int32.le_iff_toInt_le, nI_toInt hb] at h2
  refine ⟨x.toInt.toNat, by omega, by omega, ?_⟩
  apply Int32.toInt_inj.mp
  rw [nI_toInt (by omega)]; omega
/-- years on the row alone -/
def yF (m : Nat) (f : Row) : Row := (yr m f (fun _ => 0)).1
theorem seekN_b (m h : Nat) (f b b' : Row) : ∀ k, (seekN m h f b k).1 = (seekN m h f b' k).1 := by
  intro k
  induction k with
  | zero => rfl
  | succ k ih =>
    unfold seekN
    dsimp only
    rw [ih]
    split
    · exact ih
    · rfl
theorem yr_1 (m : Nat) (f b : Row) : (yr m f b).1 = yF m f := by
  unfold yF yr
  dsimp only
  rw [seekN_b m _ _ _ (rstB (fun _ => 0) (nn f))]
theorem yF_inv {m : Nat} {f : Row} (h : Inv f) : Inv (yF m f) ∧ nn (yF m f) = nn f := yr_inv h
def yN (m : Nat) (f : Row) : Nat → Row
  | 0 => f
  | k + 1 => yF m (yN m f k)
theorem yN_inv {m : Nat} {f : Row} (h : Inv f) : ∀ k, Inv (yN m f k) ∧ nn (yN m f k) = nn f := by
  intro k
  induction k with
  | zero => exact ⟨h, rfl⟩
  | succ k ih => exact ⟨(yF_inv ih.1).1, (yF_inv ih.1).2.trans ih.2⟩
/-- who found whom in k years -/
def yB (m : Nat) (f b : Row) : Nat → Row
  | 0 => b
  | k + 1 => (yr m (yN m f k) (yB m f b k)).2
/-- behind how many years one seeks first, 61: not by then -/
def shw (m o : Nat) : Nat → Row → Nat
  | 0, _ => 0
  | k + 1, f => if f (19 + 6 * o + 4) = nI 1 then 1 + shw m o k (yF m f) else 0
theorem shw_le (m o : Nat) : ∀ k f, shw m o k f ≤ k := by
  intro k
  induction k with
  | zero => intro f; exact Nat.le_refl _
  | succ k ih =>
    intro f
    unfold shw
    split
    · have := ih (yF m f); omega
    · omega
def alw : Nat → Row → Nat
  | 0, _ => 0
  | k + 1, f => if msk f (nn f) = 0 then 0 else 1 + alw k (yF 255 f)
theorem alw_le : ∀ k f, alw k f ≤ k := by
  intro k
  induction k with
  | zero => intro f; exact Nat.le_refl _
  | succ k ih =>
    intro f
    unfold alw
    split
    · omega
    · have := ih (yF 255 f); omega
theorem row_step (σ : Store) (a b k : Nat) : s_up (s_row σ b (fun j => if j < k then σ a j else σ b j)) b k (σ a k) = s_row σ b (fun j => if j < k + 1 then σ a j else σ b j) := by
  funext c
  unfold s_up s_row
  by_cases h : c = b
  · subst h
    simp only [↓reduceIte]
    funext j
    unfold upd
    by_cases h1 : j = k
    · subst h1; simp
    · have : (j < k + 1) = (j < k) := by simp; omega
      simp [h1, this]
  · simp [h]
theorem row_start (σ : Store) (a b : Nat) : σ = s_row σ b (fun j => if j < 0 then σ a j else σ b j) := by
  funext c
  unfold s_row
  by_cases h : c = b
  · subst h; simp
  · simp [h]
theorem row_eqv {Λ : Lay} {σ : Store} {a b n : Nat} (h : Λ[b]? = some (.inl (false, n))) : Eqv Λ (s_row σ b (fun j => if j < n then σ a j else σ b j)) (s_row σ b (σ a)) := by
  intro k sh hk j hj
  unfold s_row
  by_cases e : k = b
  · subst e
    rw [h] at hk
    cases hk
    simp only [↓reduceIte]
    exact if_pos hj
  · simp [e]
theorem mS_aside (σ : Store) (f b : Row) : s_row (mS σ f b) 3 f = mS (s_row σ 3 f) f b := by
  funext k
  unfold mS s_row
  by_cases h : k = 3
  · subst h; rfl
  · simp [h]
theorem mS_back (σ : Store) (f g b : Row) : s_row (mS (s_row σ 3 f) g b) 1 f = mS (s_row σ 3 f) f b := by
  funext k
  unfold mS s_row
  by_cases h : k = 1
  · subst h; rfl
  · simp [h]
set_option maxRecDepth 20000 in
theorem m_copy_1_3_lp {X : CX} {σ : Store} : ∀ (b9 k : Nat), k ≤ 67 → 67 - k < b9 → Rt (ΛM, mt_Md_copyRow, 0) (PU (s_row σ 3 (fun j => if j < 67 then σ 1 j else σ 3 j))) X → G (ΛM, mt_Md_copyRow, 0) X (s_row σ 3 (fun j => if j < k then σ 1 j else σ 3 j)) [some (.ref 1), some (.ref 3), some (.int (nI k))] [] 2 := by
  intro b9
  induction b9 with
  | zero => intro k hk hb hR; omega
  | succ b9 ih =>
  intro k hk hb hR
  refine g_iload_n (by decide +kernel : decode prog_10_method_8_code 2 = .ok (.iload_n 2, 1)) rfl ?_
  refine g_bipush (v := nI 67) (by decide +kernel : decode prog_10_method_8_code 3 = .ok (.bipush 67, 2)) (by decide) ?_
  refine g_icmp_geN (tgt := 20) (by decide +kernel : decode prog_10_method_8_code 5 = .ok (.if_icmp .ge 15, 3)) (by decide) (by omega) (by decide) (fun h5 => ?_) (fun h5 => ?_)
  · exact g_vret hR (by decide +kernel : decode prog_10_method_8_code 20 = .ok (.return_, 1)) rfl ⟨rfl, by rw [show k = 67 by omega]⟩
  · refine g_aload_n (by decide +kernel : decode prog_10_method_8_code 8 = .ok (.aload_n 1, 1)) rfl ?_
    refine g_iload_n (by decide +kernel : decode prog_10_method_8_code 9 = .ok (.iload_n 2, 1)) rfl ?_
    refine g_aload_n (by decide +kernel : decode prog_10_method_8_code 10 = .ok (.aload_n 0, 1)) rfl ?_
    refine g_iload_n (by decide +kernel : decode prog_10_method_8_code 11 = .ok (.iload_n 2, 1)) rfl ?_
    refine g_iaload (a := k) (by decide +kernel : decode prog_10_method_8_code 12 = .ok (.iaload, 1)) rfl rfl (by omega) (by decide) ?_
    refine g_top (w := σ 1 k) (rfl) ?_
    refine g_iastore (a := k) (by decide +kernel : decode prog_10_method_8_code 13 = .ok (.iastore, 1)) rfl rfl (by omega) (by decide) ?_
    refine g_iincN (n := 1) (L' := [some (.ref 1), some (.ref 3), some (.int (nI (k + 1)))]) (by decide +kernel : decode prog_10_method_8_code 14 = .ok (.iinc 2 1, 3)) rfl (by decide) (Nat.le_of_ble_eq_true rfl) rfl ?_
    refine g_goto (tgt := 2) (by decide +kernel : decode prog_10_method_8_code 17 = .ok (.goto (-15), 3)) (by decide) ?_
    refine g_sto (σ' := s_row σ 3 (fun j => if j < k + 1 then σ 1 j else σ 3 j)) (row_step σ 1 3 k) ?_
    exact ih (k + 1) (by omega) (by omega) hR
set_option maxRecDepth 20000 in
theorem m_copy_1_3 (σ : Store) : Ct ΛM mt_Md_copyRow 0 [.ref 1, .ref 3] σ (PU (s_row σ 3 (fun j => if j < 67 then σ 1 j else σ 3 j))) := by
  refine Ct.of (by decide) (Nat.le_of_ble_eq_true rfl) (fun X hR => ?_)
  show G (ΛM, mt_Md_copyRow, 0) X σ [some (.ref 1), some (.ref 3), none] [] 0
  refine g_iconst (v := nI 0) (by decide +kernel : decode prog_10_method_8_code 0 = .ok (.iconst 0, 1)) (by decide) ?_
  refine g_istore_n (L' := [some (.ref 1), some (.ref 3), some (.int (nI 0))]) (by decide +kernel : decode prog_10_method_8_code 1 = .ok (.istore_n 2, 1)) (Nat.le_of_ble_eq_true rfl) rfl ?_
  refine g_sto (σ' := s_row σ 3 (fun j => if j < 0 then σ 1 j else σ 3 j)) (row_start σ 1 3) ?_
  exact m_copy_1_3_lp 68 0 (by omega) (by omega) hR
theorem m_cp_1_3 (σ : Store) : Ct ΛM mt_Md_copyRow 0 [.ref 1, .ref 3] σ (PU (s_row σ 3 (σ 1))) := by
  refine (m_copy_1_3 σ).eqvP ?_
  rintro v τ ⟨h1, h2⟩
  exact ⟨_, h2 ▸ row_eqv (a := 1) rfl, h1, rfl⟩
set_option maxRecDepth 20000 in
theorem m_copy_3_1_lp {X : CX} {σ : Store} : ∀ (b9 k : Nat), k ≤ 67 → 67 - k < b9 → Rt (ΛM, mt_Md_copyRow, 0) (PU (s_row σ 1 (fun j => if j < 67 then σ 3 j else σ 1 j))) X → G (ΛM, mt_Md_copyRow, 0) X (s_row σ 1 (fun j => if j < k then σ 3 j else σ 1 j)) [some (.ref 3), some (.ref 1), some (.int (nI k))] [] 2 := by
  intro b9
  induction b9 with
  | zero => intro k hk hb hR; omega
  | succ b9 ih =>
  intro k hk hb hR
  refine g_iload_n (by decide +kernel : decode prog_10_method_8_code 2 = .ok (.iload_n 2, 1)) rfl ?_
  refine g_bipush (v := nI 67) (by decide +kernel : decode prog_10_method_8_code 3 = .ok (.bipush 67, 2)) (by decide) ?_
  refine g_icmp_geN (tgt := 20) (by decide +kernel : decode prog_10_method_8_code 5 = .ok (.if_icmp .ge 15, 3)) (by decide) (by omega) (by decide) (fun h5 => ?_) (fun h5 => ?_)
  · exact g_vret hR (by decide +kernel : decode prog_10_method_8_code 20 = .ok (.return_, 1)) rfl ⟨rfl, by rw [show k = 67 by omega]⟩
  · refine g_aload_n (by decide +kernel : decode prog_10_method_8_code 8 = .ok (.aload_n 1, 1)) rfl ?_
    refine g_iload_n (by decide +kernel : decode prog_10_method_8_code 9 = .ok (.iload_n 2, 1)) rfl ?_
    refine g_aload_n (by decide +kernel : decode prog_10_method_8_code 10 = .ok (.aload_n 0, 1)) rfl ?_
    refine g_iload_n (by decide +kernel : decode prog_10_method_8_code 11 = .ok (.iload_n 2, 1)) rfl ?_
    refine g_iaload (a := k) (by decide +kernel : decode prog_10_method_8_code 12 = .ok (.iaload, 1)) rfl rfl (by omega) (by decide) ?_
    refine g_top (w := σ 3 k) (rfl) ?_
    refine g_iastore (a := k) (by decide +kernel : decode prog_10_method_8_code 13 = .ok (.iastore, 1)) rfl rfl (by omega) (by decide) ?_
    refine g_iincN (n := 1) (L' := [some (.ref 3), some (.ref 1), some (.int (nI (k + 1)))]) (by decide +kernel : decode prog_10_method_8_code 14 = .ok (.iinc 2 1, 3)) rfl (by decide) (Nat.le_of_ble_eq_true rfl) rfl ?_
    refine g_goto (tgt := 2) (by decide +kernel : decode prog_10_method_8_code 17 = .ok (.goto (-15), 3)) (by decide) ?_
    refine g_sto (σ' := s_row σ 1 (fun j => if j < k + 1 then σ 3 j else σ 1 j)) (row_step σ 3 1 k) ?_
    exact ih (k + 1) (by omega) (by omega) hR
set_option maxRecDepth 20000 in
theorem m_copy_3_1 (σ : Store) : Ct ΛM mt_Md_copyRow 0 [.ref 3, .ref 1] σ (PU (s_row σ 1 (fun j => if j < 67 then σ 3 j else σ 1 j))) := by
  refine Ct.of (by decide) (Nat.le_of_ble_eq_true rfl) (fun X hR => ?_)
  show G (ΛM, mt_Md_copyRow, 0) X σ [some (.ref 3), some (.ref 1), none] [] 0
  refine g_iconst (v := nI 0) (by decide +kernel : decode prog_10_method_8_code 0 = .ok (.iconst 0, 1)) (by decide) ?_
  refine g_istore_n (L' := [some (.ref 3), some (.ref 1), some (.int (nI 0))]) (by decide +kernel : decode prog_10_method_8_code 1 = .ok (.istore_n 2, 1)) (Nat.le_of_ble_eq_true rfl) rfl ?_
  refine g_sto (σ' := s_row σ 1 (fun j => if j < 0 then σ 3 j else σ 1 j)) (row_start σ 3 1) ?_
  exact m_copy_3_1_lp 68 0 (by omega) (by omega) hR
theorem m_cp_3_1 (σ : Store) : Ct ΛM mt_Md_copyRow 0 [.ref 3, .ref 1] σ (PU (s_row σ 1 (σ 3))) := by
  refine (m_copy_3_1 σ).eqvP ?_
  rintro v τ ⟨h1, h2⟩
  exact ⟨_, h2 ▸ row_eqv (a := 3) rfl, h1, rfl⟩
set_option maxRecDepth 20000 in
theorem m_copy_1_4_lp {X : CX} {σ : Store} : ∀ (b9 k : Nat), k ≤ 67 → 67 - k < b9 → Rt (ΛM, mt_Md_copyRow, 0) (PU (s_row σ 4 (fun j => if j < 67 then σ 1 j else σ 4 j))) X → G (ΛM, mt_Md_copyRow, 0) X (s_row σ 4 (fun j => if j < k then σ 1 j else σ 4 j)) [some (.ref 1), some (.ref 4), some (.int (nI k))] [] 2 := by
  intro b9
  induction b9 with
  | zero => intro k hk hb hR; omega
  | succ b9 ih =>
  intro k hk hb hR
  refine g_iload_n (by decide +kernel : decode prog_10_method_8_code 2 = .ok (.iload_n 2, 1)) rfl ?_
  refine g_bipush (v := nI 67) (by decide +kernel : decode prog_10_method_8_code 3 = .ok (.bipush 67, 2)) (by decide) ?_
  refine g_icmp_geN (tgt := 20) (by decide +kernel : decode prog_10_method_8_code 5 = .ok (.if_icmp .ge 15, 3)) (by decide) (by omega) (by decide) (fun h5 => ?_) (fun h5 => ?_)
  · exact g_vret hR (by decide +kernel : decode prog_10_method_8_code 20 = .ok (.return_, 1)) rfl ⟨rfl, by rw [show k = 67 by omega]⟩
  · refine g_aload_n (by decide +kernel : decode prog_10_method_8_code 8 = .ok (.aload_n 1, 1)) rfl ?_
    refine g_iload_n (by decide +kernel : decode prog_10_method_8_code 9 = .ok (.iload_n 2, 1)) rfl ?_
    refine g_aload_n (by decide +kernel : decode prog_10_method_8_code 10 = .ok (.aload_n 0, 1)) rfl ?_
    refine g_iload_n (by decide +kernel : decode prog_10_method_8_code 11 = .ok (.iload_n 2, 1)) rfl ?_
    refine g_iaload (a := k) (by decide +kernel : decode prog_10_method_8_code 12 = .ok (.iaload, 1)) rfl rfl (by omega) (by decide) ?_
    refine g_top (w := σ 1 k) (rfl) ?_
    refine g_iastore (a := k) (by decide +kernel : decode prog_10_method_8_code 13 = .ok (.iastore, 1)) rfl rfl (by omega) (by decide) ?_
    refine g_iincN (n := 1) (L' := [some (.ref 1), some (.ref 4), some (.int (nI (k + 1)))]) (by decide +kernel : decode prog_10_method_8_code 14 = .ok (.iinc 2 1, 3)) rfl (by decide) (Nat.le_of_ble_eq_true rfl) rfl ?_
    refine g_goto (tgt := 2) (by decide +kernel : decode prog_10_method_8_code 17 = .ok (.goto (-15), 3)) (by decide) ?_
    refine g_sto (σ' := s_row σ 4 (fun j => if j < k + 1 then σ 1 j else σ 4 j)) (row_step σ 1 4 k) ?_
    exact ih (k + 1) (by omega) (by omega) hR
set_option maxRecDepth 20000 in
theorem m_copy_1_4 (σ : Store) : Ct ΛM mt_Md_copyRow 0 [.ref 1, .ref 4] σ (PU (s_row σ 4 (fun j => if j < 67 then σ 1 j else σ 4 j))) := by
  refine Ct.of (by decide) (Nat.le_of_ble_eq_true rfl) (fun X hR => ?_)
  show G (ΛM, mt_Md_copyRow, 0) X σ [some (.ref 1), some (.ref 4), none] [] 0
  refine g_iconst (v := nI 0) (by decide +kernel : decode prog_10_method_8_code 0 = .ok (.iconst 0, 1)) (by decide) ?_
  refine g_istore_n (L' := [some (.ref 1), some (.ref 4), some (.int (nI 0))]) (by decide +kernel : decode prog_10_method_8_code 1 = .ok (.istore_n 2, 1)) (Nat.le_of_ble_eq_true rfl) rfl ?_
  refine g_sto (σ' := s_row σ 4 (fun j => if j < 0 then σ 1 j else σ 4 j)) (row_start σ 1 4) ?_
  exact m_copy_1_4_lp 68 0 (by omega) (by omega) hR
theorem m_cp_1_4 (σ : Store) : Ct ΛM mt_Md_copyRow 0 [.ref 1, .ref 4] σ (PU (s_row σ 4 (σ 1))) := by
  refine (m_copy_1_4 σ).eqvP ?_
  rintro v τ ⟨h1, h2⟩
  exact ⟨_, h2 ▸ row_eqv (a := 1) rfl, h1, rfl⟩
set_option maxRecDepth 20000 in
theorem m_copy_4_1_lp {X : CX} {σ : Store} : ∀ (b9 k : Nat), k ≤ 67 → 67 - k < b9 → Rt (ΛM, mt_Md_copyRow, 0) (PU (s_row σ 1 (fun j => if j < 67 then σ 4 j else σ 1 j))) X → G (ΛM, mt_Md_copyRow, 0) X (s_row σ 1 (fun j => if j < k then σ 4 j else σ 1 j)) [some (.ref 4), some (.ref 1), some (.int (nI k))] [] 2 := by
  intro b9
  induction b9 with
  | zero => intro k hk hb hR; omega
  | succ b9 ih =>
  intro k hk hb hR
  refine g_iload_n (by decide +kernel : decode prog_10_method_8_code 2 = .ok (.iload_n 2, 1)) rfl ?_
  refine g_bipush (v := nI 67) (by decide +kernel : decode prog_10_method_8_code 3 = .ok (.bipush 67, 2)) (by decide) ?_
  refine g_icmp_geN (tgt := 20) (by decide +kernel : decode prog_10_method_8_code 5 = .ok (.if_icmp .ge 15, 3)) (by decide) (by omega) (by decide) (fun h5 => ?_) (fun h5 => ?_)
  · exact g_vret hR (by decide +kernel : decode prog_10_method_8_code 20 = .ok (.return_, 1)) rfl ⟨rfl, by rw [show k = 67 by omega]⟩
  · refine g_aload_n (by decide +kernel : decode prog_10_method_8_code 8 = .ok (.aload_n 1, 1)) rfl ?_
    refine g_iload_n (by decide +kernel : decode prog_10_method_8_code 9 = .ok (.iload_n 2, 1)) rfl ?_
    refine g_aload_n (by decide +kernel : decode prog_10_method_8_code 10 = .ok (.aload_n 0, 1)) rfl ?_
    refine g_iload_n (by decide +kernel : decode prog_10_method_8_code 11 = .ok (.iload_n 2, 1)) rfl ?_
    refine g_iaload (a := k) (by decide +kernel : decode prog_10_method_8_code 12 = .ok (.iaload, 1)) rfl rfl (by omega) (by decide) ?_
    refine g_top (w := σ 4 k) (rfl) ?_
    refine g_iastore (a := k) (by decide +kernel : decode prog_10_method_8_code 13 = .ok (.iastore, 1)) rfl rfl (by omega) (by decide) ?_
    refine g_iincN (n := 1) (L' := [some (.ref 4), some (.ref 1), some (.int (nI (k + 1)))]) (by decide +kernel : decode prog_10_method_8_code 14 = .ok (.iinc 2 1, 3)) rfl (by decide) (Nat.le_of_ble_eq_true rfl) rfl ?_
    refine g_goto (tgt := 2) (by decide +kernel : decode prog_10_method_8_code 17 = .ok (.goto (-15), 3)) (by decide) ?_
    refine g_sto (σ' := s_row σ 1 (fun j => if j < k + 1 then σ 4 j else σ 1 j)) (row_step σ 4 1 k) ?_
    exact ih (k + 1) (by omega) (by omega) hR
set_option maxRecDepth 20000 in
theorem m_copy_4_1 (σ : Store) : Ct ΛM mt_Md_copyRow 0 [.ref 4, .ref 1] σ (PU (s_row σ 1 (fun j => if j < 67 then σ 4 j else σ 1 j))) := by
  refine Ct.of (by decide) (Nat.le_of_ble_eq_true rfl) (fun X hR => ?_)
  show G (ΛM, mt_Md_copyRow, 0) X σ [some (.ref 4), some (.ref 1), none] [] 0
  refine g_iconst (v := nI 0) (by decide +kernel : decode prog_10_method_8_code 0 = .ok (.iconst 0, 1)) (by decide) ?_
  refine g_istore_n (L' := [some (.ref 4), some (.ref 1), some (.int (nI 0))]) (by decide +kernel : decode prog_10_method_8_code 1 = .ok (.istore_n 2, 1)) (Nat.le_of_ble_eq_true rfl) rfl ?_
  refine g_sto (σ' := s_row σ 1 (fun j => if j < 0 then σ 4 j else σ 1 j)) (row_start σ 4 1) ?_
  exact m_copy_4_1_lp 68 0 (by omega) (by omega) hR
theorem m_cp_4_1 (σ : Store) : Ct ΛM mt_Md_copyRow 0 [.ref 4, .ref 1] σ (PU (s_row σ 1 (σ 4))) := by
  refine (m_copy_4_1 σ).eqvP ?_
  rintro v τ ⟨h1, h2⟩
  exact ⟨_, h2 ▸ row_eqv (a := 4) rfl, h1, rfl⟩
theorem m_aside (σ : Store) (f b : Row) : Ct ΛM mt_Md_copyRow 0 [.ref 1, .ref 3] (mS σ f b) (PU (mS (s_row σ 3 f) f b)) := by
  rw [← mS_aside]; exact m_cp_1_3 (mS σ f b)
theorem m_back (σ : Store) (f g b : Row) : Ct ΛM mt_Md_copyRow 0 [.ref 3, .ref 1] (mS (s_row σ 3 f) g b) (PU (mS (s_row σ 3 f) f b)) := by
  rw [← mS_back σ f g b]; exact m_cp_3_1 (mS (s_row σ 3 f) g b)
set_option maxRecDepth 20000 in
theorem m_goes_lp {X : CX} {σ : Store} {f b : Row} (hI : Inv f) {n : Nat} (hn : n < 2 ^ 31) : ∀ (b9 k : Nat), k ≤ n → n - k < b9 → Rt (ΛM, mt_Md_goes, 4) (PU (mS σ (yN 255 f n) (yB 255 f b n))) X → G (ΛM, mt_Md_goes, 4) X (mS σ (yN 255 f k) (yB 255 f b k)) [some (.ref 0), some (.int (nI n)), some (.int (nI k))] [] 2 := by
  intro b9
  induction b9 with
  | zero => intro k hk hb hR; omega
  | succ b9 ih =>
  intro k hk hb hR
  refine g_iload_n (by decide +kernel : decode prog_10_method_51_code 2 = .ok (.iload_n 2, 1)) rfl ?_
  refine g_iload_n (by decide +kernel : decode prog_10_method_51_code 3 = .ok (.iload_n 1, 1)) rfl ?_
  refine g_icmp_geN (tgt := 20) (by decide +kernel : decode prog_10_method_51_code 4 = .ok (.if_icmp .ge 16, 3)) (by decide) (by omega) (by omega) (fun h4 => ?_) (fun h4 => ?_)
  · exact g_vret hR (by decide +kernel : decode prog_10_method_51_code 20 = .ok (.return_, 1)) rfl ⟨rfl, by rw [show k = n by omega]⟩
  · refine g_aload_n (by decide +kernel : decode prog_10_method_51_code 7 = .ok (.aload_n 0, 1)) rfl ?_
    refine g_sipush (v := nI 255) (by decide +kernel : decode prog_10_method_51_code 8 = .ok (.sipush 255, 3)) (by decide) ?_
    refine g_callVV [.int (nI 255)] (by decide +kernel : decode prog_10_method_51_code 11 = .ok (.invokevirtual 202, 3)) lk_Md_202 ((m_goesBy σ (yN 255 f k) (yB 255 f b k) (yN_inv hI k).1 255 (by omega))) rfl rfl rfl rfl (Nat.le_of_ble_eq_true rfl) (Nat.le_of_ble_eq_true rfl) (fun s11 h11 => ?_)
    obtain rfl := h11
    refine g_sto (σ' := mS σ (yN 255 f (k + 1)) (yB 255 f b (k + 1))) (by rw [yr_1]; rfl) ?_
    refine g_iincN (n := 1) (L' := [some (.ref 0), some (.int (nI n)), some (.int (nI (k + 1)))]) (by decide +kernel : decode prog_10_method_51_code 14 = .ok (.iinc 2 1, 3)) rfl (by decide) (Nat.le_of_ble_eq_true rfl) rfl ?_
    refine g_goto (tgt := 2) (by decide +kernel : decode prog_10_method_51_code 17 = .ok (.goto (-15), 3)) (by decide) ?_
    exact ih (k + 1) (by omega) (by omega) hR
set_option maxRecDepth 20000 in
theorem m_goes (σ : Store) (f b : Row) (hI : Inv f) (n : Nat) (hn : n < 2 ^ 31) : Ct ΛM mt_Md_goes 4 [.ref 0, .int (nI n)] (mS σ f b) (PU (mS σ (yN 255 f n) (yB 255 f b n))) := by
  refine Ct.of (by decide) (Nat.le_of_ble_eq_true rfl) (fun X hR => ?_)
  show G (ΛM, mt_Md_goes, 4) X (mS σ f b) [some (.ref 0), some (.int (nI n)), none] [] 0
  refine g_iconst (v := nI 0) (by decide +kernel : decode prog_10_method_51_code 0 = .ok (.iconst 0, 1)) (by decide) ?_
  refine g_istore_n (L' := [some (.ref 0), some (.int (nI n)), some (.int (nI 0))]) (by decide +kernel : decode prog_10_method_51_code 1 = .ok (.istore_n 2, 1)) (Nat.le_of_ble_eq_true rfl) rfl ?_
  exact m_goes_lp (b := b) hI hn (n + 1) 0 (Nat.zero_le _) (by omega) hR
theorem shw_out {m o : Nat} {f : Row} : ∀ (j k : Nat), (∀ i, i < k → (yN m f i) (19 + 6 * o + 4) = nI 1) → k ≤ j → shw m o j f = k + shw m o (j - k) (yN m f k) := by
  intro j k
  induction k with
  | zero => intro _ _; simp [yN]
  | succ k ih =>
    intro h hk
    rw [ih (fun i hi => h i (by omega)) (by omega)]
    rw [show j - k = (j - (k + 1)) + 1 by omega]
    show k + (if _ then _ else _) = _
    rw [if_pos (h k (by omega))]
    show k + (1 + shw m o (j - (k + 1)) (yF m (yN m f k))) = _
    show _ = k + 1 + shw m o (j - (k + 1)) (yF m (yN m f k))
    omega
theorem shw_stop {m o : Nat} {f : Row} {j k : Nat} (h : ∀ i, i < k → (yN m f i) (19 + 6 * o + 4) = nI 1) (hk : k ≤ j) (he : k = j ∨ ¬ (yN m f k) (19 + 6 * o + 4) = nI 1) : shw m o j f = k := by
  rw [shw_out j k h hk]
  rcases he with rfl | he
  · rw [Nat.sub_self]; rfl
  · cases hj : j - k with
    | zero => rfl
    | succ q =>
      show k + (if _ then _ else _) = _
      rw [if_neg he]
      rfl
set_option maxRecDepth 20000 in
theorem m_shownBy_lp {X : CX} {σ : Store} {f b : Row} (hI : Inv f) {o : Nat} (ho : o < nn f) {m : Nat} (hm : m < 256) : ∀ (b9 k : Nat), k ≤ 61 → 61 - k < b9 → (∀ i, i < k → (yN m f i) (19 + 6 * o + 4) = nI 1) → Rt (ΛM, mt_Md_shownBy, 4) (PI (fun r σ' => r = nI (shw m o 61 f) ∧ σ' = mS (s_row σ 3 f) f (yB m f b (shw m o 61 f)))) X → G (ΛM, mt_Md_shownBy, 4) X (mS (s_row σ 3 f) (yN m f k) (yB m f b k)) [some (.ref 0), some (.int (nI o)), some (.int (nI m)), some (.int (nI k))] [] 13 := by
  have hn8 := hI.n.2
  intro b9
  induction b9 with
  | zero => intro k hk hb hh hR; omega
  | succ b9 ih =>
  intro k hk hb hh hR
  refine g_iload_n (by decide +kernel : decode prog_10_method_62_code 13 = .ok (.iload_n 3, 1)) rfl ?_
  refine g_bipush (v := nI 60) (by decide +kernel : decode prog_10_method_62_code 14 = .ok (.bipush 60, 2)) (by decide) ?_
  refine g_icmp_gtN (tgt := 40) (by decide +kernel : decode prog_10_method_62_code 16 = .ok (.if_icmp .gt 24, 3)) (by decide) (by omega) (by decide) (fun h16 => ?_) (fun h16 => ?_)
  · refine g_aload_n (by decide +kernel : decode prog_10_method_62_code 40 = .ok (.aload_n 0, 1)) rfl ?_
    refine g_getR (by decide +kernel : decode prog_10_method_62_code 41 = .ok (.getfield 16, 3)) fl_Md_16 rfl rfl ?_
    refine g_aload_n (by decide +kernel : decode prog_10_method_62_code 44 = .ok (.aload_n 0, 1)) rfl ?_
    refine g_getR (by decide +kernel : decode prog_10_method_62_code 45 = .ok (.getfield 7, 3)) fl_Md_7 rfl rfl ?_
    refine g_callSV [.ref 3, .ref 1] (by decide +kernel : decode prog_10_method_62_code 48 = .ok (.invokestatic 141, 3)) lk_Md_141 (m_back σ f (yN m f k) (yB m f b k)) rfl rfl (Nat.le_of_ble_eq_true rfl) (Nat.le_of_ble_eq_true rfl) (fun s48 h48 => ?_)
    obtain rfl := h48
    refine g_iload_n (by decide +kernel : decode prog_10_method_62_code 51 = .ok (.iload_n 3, 1)) rfl ?_
    exact g_iret hR (by decide +kernel : decode prog_10_method_62_code 52 = .ok (.ireturn, 1)) rfl ⟨_, rfl, by rw [shw_stop hh hk (Or.inl (by omega))]; exact ⟨rfl, rfl⟩⟩
  · refine g_aload_n (by decide +kernel : decode prog_10_method_62_code 19 = .ok (.aload_n 0, 1)) rfl ?_
    refine g_iload_n (by decide +kernel : decode prog_10_method_62_code 20 = .ok (.iload_n 1, 1)) rfl ?_
    refine g_iconst (v := nI 4) (by decide +kernel : decode prog_10_method_62_code 21 = .ok (.iconst 4, 1)) (by decide) ?_
    refine g_callVI [.int (nI o), .int (nI 4)] (by decide +kernel : decode prog_10_method_62_code 22 = .ok (.invokevirtual 169, 3)) lk_Md_169 (m_its (mS (s_row σ 3 f) (yN m f k) (yB m f b k)) o 4 (v := yN m f k (19 + 6 * o + 4)) rfl (by omega)) rfl rfl rfl rfl (Nat.le_of_ble_eq_true rfl) (Nat.le_of_ble_eq_true rfl) (fun r22 s22 h22 => ?_)
    obtain ⟨rfl, rfl⟩ := h22
    refine g_iconst (v := nI 1) (by decide +kernel : decode prog_10_method_62_code 25 = .ok (.iconst 1, 1)) (by decide) ?_
    refine g_icmp_ne (tgt := 40) (by decide +kernel : decode prog_10_method_62_code 26 = .ok (.if_icmp .ne 14, 3)) (by decide) (fun h26 => ?_) (fun h26 => ?_)
    · refine g_aload_n (by decide +kernel : decode prog_10_method_62_code 40 = .ok (.aload_n 0, 1)) rfl ?_
      refine g_getR (by decide +kernel : decode prog_10_method_62_code 41 = .ok (.getfield 16, 3)) fl_Md_16 rfl rfl ?_
      refine g_aload_n (by decide +kernel : decode prog_10_method_62_code 44 = .ok (.aload_n 0, 1)) rfl ?_
      refine g_getR (by decide +kernel : decode prog_10_method_62_code 45 = .ok (.getfield 7, 3)) fl_Md_7 rfl rfl ?_
      refine g_callSV [.ref 3, .ref 1] (by decide +kernel : decode prog_10_method_62_code 48 = .ok (.invokestatic 141, 3)) lk_Md_141 (m_back σ f (yN m f k) (yB m f b k)) rfl rfl (Nat.le_of_ble_eq_true rfl) (Nat.le_of_ble_eq_true rfl) (fun s48 h48 => ?_)
      obtain rfl := h48
      refine g_iload_n (by decide +kernel : decode prog_10_method_62_code 51 = .ok (.iload_n 3, 1)) rfl ?_
      exact g_iret hR (by decide +kernel : decode prog_10_method_62_code 52 = .ok (.ireturn, 1)) rfl ⟨_, rfl, by rw [shw_stop hh hk (Or.inr h26)]; exact ⟨rfl, rfl⟩⟩
    · refine g_aload_n (by decide +kernel : decode prog_10_method_62_code 29 = .ok (.aload_n 0, 1)) rfl ?_
      refine g_iload_n (by decide +kernel : decode prog_10_method_62_code 30 = .ok (.iload_n 2, 1)) rfl ?_
      refine g_callVV [.int (nI m)] (by decide +kernel : decode prog_10_method_62_code 31 = .ok (.invokevirtual 202, 3)) lk_Md_202 ((m_goesBy (s_row σ 3 f) (yN m f k) (yB m f b k) (yN_inv hI k).1 m (by omega))) rfl rfl rfl rfl (Nat.le_of_ble_eq_true rfl) (Nat.le_of_ble_eq_true rfl) (fun s31 h31 => ?_)
      obtain rfl := h31
      refine g_sto (σ' := mS (s_row σ 3 f) (yN m f (k + 1)) (yB m f b (k + 1))) (by rw [yr_1]; rfl) ?_
      refine g_iincN (n := 1) (L' := [some (.ref 0), some (.int (nI o)), some (.int (nI m)), some (.int (nI (k + 1)))]) (by decide +kernel : decode prog_10_method_62_code 34 = .ok (.iinc 3 1, 3)) rfl (by decide) (Nat.le_of_ble_eq_true rfl) rfl ?_
      refine g_goto (tgt := 13) (by decide +kernel : decode prog_10_method_62_code 37 = .ok (.goto (-24), 3)) (by decide) ?_
      exact ih (k + 1) (by omega) (by omega) (fun i hi => by
          rcases (show i < k ∨ i = k by omega) with q | q
          · exact hh i q
          · rw [q]; exact h26) hR
set_option maxRecDepth 20000 in
theorem m_shownBy (σ : Store) (f b : Row) (hI : Inv f) (o : Nat) (ho : o < nn f) (m : Nat) (hm : m < 256) : Ct ΛM mt_Md_shownBy 4 [.ref 0, .int (nI o), .int (nI m)] (mS σ f b) (PI (fun r σ' => r = nI (shw m o 61 f) ∧ σ' = mS (s_row σ 3 f) f (yB m f b (shw m o 61 f)))) := by
  refine Ct.of (by decide) (Nat.le_of_ble_eq_true rfl) (fun X hR => ?_)
  show G (ΛM, mt_Md_shownBy, 4) X (mS σ f b) [some (.ref 0), some (.int (nI o)), some (.int (nI m)), none] [] 0
  refine g_aload_n (by decide +kernel : decode prog_10_method_62_code 0 = .ok (.aload_n 0, 1)) rfl ?_
  refine g_getR (by decide +kernel : decode prog_10_method_62_code 1 = .ok (.getfield 7, 3)) fl_Md_7 rfl rfl ?_
  refine g_aload_n (by decide +kernel : decode prog_10_method_62_code 4 = .ok (.aload_n 0, 1)) rfl ?_
  refine g_getR (by decide +kernel : decode prog_10_method_62_code 5 = .ok (.getfield 16, 3)) fl_Md_16 rfl rfl ?_
  refine g_callSV [.ref 1, .ref 3] (by decide +kernel : decode prog_10_method_62_code 8 = .ok (.invokestatic 141, 3)) lk_Md_141 (m_aside σ f b) rfl rfl (Nat.le_of_ble_eq_true rfl) (Nat.le_of_ble_eq_true rfl) (fun s8 h8 => ?_)
  obtain rfl := h8
  refine g_iconst (v := nI 0) (by decide +kernel : decode prog_10_method_62_code 11 = .ok (.iconst 0, 1)) (by decide) ?_
  refine g_istore_n (L' := [some (.ref 0), some (.int (nI o)), some (.int (nI m)), some (.int (nI 0))]) (by decide +kernel : decode prog_10_method_62_code 12 = .ok (.istore_n 3, 1)) (Nat.le_of_ble_eq_true rfl) rfl ?_
  exact m_shownBy_lp hI ho hm 62 0 (by omega) (by omega) (fun i hi => absurd hi (Nat.not_lt_zero i)) hR
end
section
/-! THE REFERENCE: public methods that ask for years -/
/-- the rows that a trial leaves behind don't count: aside, found-by -/
def Jk (σ : Store) (f : Row) (σ' : Store) : Prop := ∃ a b, σ' = mS (s_row σ 3 a) f b
theorem Jk.self (σ : Store) (f b : Row) : Jk σ f (mS σ f b) := ⟨σ 3, b, by
  have : s_row σ 3 (σ 3) = σ := by
    funext k
    unfold s_row
    by_cases h : k = 3
    · subst h; simp
    · simp [h]
  rw [this]⟩
abbrev mP (σ : Store) (v : Int32) (f : Row) : Option Value → Store → Prop := PI (fun r σ' => r = v ∧ Jk σ f σ')
/-- how many are hidden -/
def hc (f : Row) : Nat := popc (msk f (nn f))
theorem hc_le (f : Row) : hc f ≤ 13 := popc_le _
theorem m_count (σ : Store) (f b : Row) (hI : Inv f) : msk f (nn f) < 4096 := by have := inv_m256 hI; omega
def yearsV (f : Row) (x : Int32) : Int32 := match rg 1 60 x with
  | none => -1
  | some n => nI (hc (yN 255 f n))
def yearsT (f : Row) (x : Int32) : Row := match rg 1 60 x with
  | none => f
  | some n => yN 255 f n
def whereV (f : Row) (x y : Int32) : Int32 := match pz f x with
  | none => -1
  | some o => match rg 0 60 y with
    | none => -1
    | some n => yN 255 f n (19 + 6 * o + 3)
def shownV (f : Row) (x : Int32) : Int32 := match pz f x with
  | none => -1
  | some o => if 60 < shw 255 o 61 f then -3 else nI (shw 255 o 61 f)
def allV (f : Row) : Int32 := if 60 < alw 61 f then -3 else nI (alw 61 f)
/-- who found each in a year -/
def fbF (m : Nat) (f : Row) : Row := (yr m f (fun _ => 0)).2
theorem rstB_at (b : Row) : ∀ k i, i < k → rstB b k i = -1 := by
  intro k
  induction k with
  | zero => intro i h; omega
  | succ k ih =>
    intro i h
    show upd (rstB b k) k (-1) i = -1
    by_cases e : i = k
    · subst e; exact upd_s
    · rw [upd_n e]; exact ih i (by omega)
theorem seekN_2 (m h : Nat) (f b b' : Row) (n : Nat) (hb : ∀ i, i < n → b i = b' i) : ∀ k i, i < n → (seekN m h f b k).2 i = (seekN m h f b' k).2 i := by
  intro k
  induction k with
  | zero => exact hb
  | succ k ih =>
    intro i hi
    unfold seekN
    dsimp only
    rw [seekN_b m h f b b' k]
    split
    · exact ih i hi
    · generalize seekQ (seekN m h f b' k).1 k (m.testBit k) = q
      cases q with
      | none => exact ih i hi
      | some q =>
        show upd _ _ _ i = upd _ _ _ i
        by_cases e : i = q
        · subst e; rw [upd_s, upd_s]
        · rw [upd_n e, upd_n e]; exact ih i hi
theorem yr_2 (m : Nat) (f b : Row) {o : Nat} (ho : o < nn f) : (yr m f b).2 o = fbF m f o := by
  unfold fbF yr
  dsimp only
  exact seekN_2 _ _ _ _ _ (nn f) (fun i hi => by rw [rstB_at b _ i hi, rstB_at _ _ i hi]) _ o ho
def finderV (f : Row) (x : Int32) : Int32 := match pz f x with
  | none => -1
  | some o => match shw 255 o 61 f with
    | 0 => -3
    | k + 1 => if 60 < k + 1 then -3 else if fbF 255 (yN 255 f k) o < 0 then -3 else fbF 255 (yN 255 f k) o
set_option maxRecDepth 20000 in
theorem p_years (σ : Store) (f b : Row) (hI : Inv f) (x : Int32) : Ct ΛM mt_Md_years 5 [.ref 0, .int x] (mS σ f b) (mP σ (yearsV f x) (yearsT f x)) := by
  refine Ct.of (by decide) (Nat.le_of_ble_eq_true rfl) (fun X hR => ?_)
  show G (ΛM, mt_Md_years, 5) X (mS σ f b) [some (.ref 0), some (.int x)] [] 0
  have hn8 := hI.n.2
  refine g_iload_n (by decide +kernel : decode prog_10_method_52_code 0 = .ok (.iload_n 1, 1)) rfl ?_
  refine g_i2l (by decide +kernel : decode prog_10_method_52_code 1 = .ok (.i2l, 1)) ?_
  refine g_lconst (v := lN 1) (by decide +kernel : decode prog_10_method_52_code 2 = .ok (.lconst 1, 1)) (by decide) ?_
  refine g_ldc2 (v := lN 60) (by decide +kernel : decode prog_10_method_52_code 3 = .ok (.ldc2_w 205, 3)) kc_Md_205 ?_
  refine g_callSI [.long (Int32.toInt64 x), .long (lN 1), .long (lN 60)] (by decide +kernel : decode prog_10_method_52_code 6 = .ok (.invokestatic 57, 3)) lk_Md_57 (m_isInN ΛM (mS σ f b) x 1 60) rfl rfl (Nat.le_of_ble_eq_true rfl) (Nat.le_of_ble_eq_true rfl) (fun r6 s6 h6 => ?_)
  rcases h6 with ⟨rfl, ⟨rfl, n, ha6, hb6, rfl⟩ | ⟨rfl, n6⟩⟩
  · refine g_if_neN (tgt := 14) (by decide +kernel : decode prog_10_method_52_code 9 = .ok (.ifCond .ne 5, 3)) (by decide) (by decide) (fun _ => ?_) (fun h => False.elim (by revert h; decide))
    refine g_aload_n (by decide +kernel : decode prog_10_method_52_code 14 = .ok (.aload_n 0, 1)) rfl ?_
    refine g_iload_n (by decide +kernel : decode prog_10_method_52_code 15 = .ok (.iload_n 1, 1)) rfl ?_
    refine g_callVV [.int (nI n)] (by decide +kernel : decode prog_10_method_52_code 16 = .ok (.invokevirtual 207, 3)) lk_Md_207 (m_goes σ f b hI n (by omega)) rfl rfl rfl rfl (Nat.le_of_ble_eq_true rfl) (Nat.le_of_ble_eq_true rfl) (fun s16 h16 => ?_)
    obtain rfl := h16
    refine g_aload_n (by decide +kernel : decode prog_10_method_52_code 19 = .ok (.aload_n 0, 1)) rfl ?_
    refine g_callVI [] (by decide +kernel : decode prog_10_method_52_code 20 = .ok (.invokevirtual 189, 3)) lk_Md_189 (m_hiddenOnes σ (yN 255 f n) (yB 255 f b n) (yN_inv hI n).1) rfl rfl rfl rfl (Nat.le_of_ble_eq_true rfl) (Nat.le_of_ble_eq_true rfl) (fun r20 s20 h20 => ?_)
    obtain ⟨rfl, rfl⟩ := h20
    refine g_callSI [.int (nI (msk (yN 255 f n) (nn (yN 255 f n))))] (by decide +kernel : decode prog_10_method_52_code 23 = .ok (.invokestatic 192, 3)) lk_Md_192 (m_size ΛM (mS σ (yN 255 f n) (yB 255 f b n)) (msk (yN 255 f n) (nn (yN 255 f n))) (m_count σ (yN 255 f n) (fun _ => 0) (yN_inv hI n).1)) rfl rfl (Nat.le_of_ble_eq_true rfl) (Nat.le_of_ble_eq_true rfl) (fun r23 s23 h23 => ?_)
    obtain ⟨rfl, rfl⟩ := h23
    exact g_iret hR (by decide +kernel : decode prog_10_method_52_code 26 = .ok (.ireturn, 1)) rfl ⟨_, rfl, ⟨by simp only [yearsV, rg_of ha6 hb6] <;> rfl, by simp only [yearsT, rg_of ha6 hb6]; exact Jk.self _ _ _⟩⟩
  · refine g_if_neN (tgt := 14) (by decide +kernel : decode prog_10_method_52_code 9 = .ok (.ifCond .ne 5, 3)) (by decide) (by decide) (fun h => False.elim (by revert h; decide)) (fun _ => ?_)
    refine g_iconst (v := (-1)) (by decide +kernel : decode prog_10_method_52_code 12 = .ok (.iconst (-1), 1)) (by decide) ?_
    exact g_iret hR (by decide +kernel : decode prog_10_method_52_code 13 = .ok (.ireturn, 1)) rfl ⟨_, rfl, ⟨by simp only [yearsV, rg_none n6] <;> rfl, by simp only [yearsT, rg_none n6]; exact Jk.self _ _ _⟩⟩
set_option maxRecDepth 20000 in
theorem p_where (σ : Store) (f b : Row) (hI : Inv f) (x y : Int32) : Ct ΛM mt_Md_where 5 [.ref 0, .int x, .int y] (mS σ f b) (mP σ (whereV f x y) f) := by
  refine Ct.of (by decide) (Nat.le_of_ble_eq_true rfl) (fun X hR => ?_)
  show G (ΛM, mt_Md_where, 5) X (mS σ f b) [some (.ref 0), some (.int x), some (.int y), none] [] 0
  have hn8 := hI.n.2
  refine g_aload_n (by decide +kernel : decode prog_10_method_61_code 0 = .ok (.aload_n 0, 1)) rfl ?_
  refine g_iload_n (by decide +kernel : decode prog_10_method_61_code 1 = .ok (.iload_n 1, 1)) rfl ?_
  refine g_callVI [.int x] (by decide +kernel : decode prog_10_method_61_code 2 = .ok (.invokevirtual 172, 3)) lk_Md_172 (m_isOne (mS σ f b) x hI.n.1 (by omega)) rfl rfl rfl rfl (Nat.le_of_ble_eq_true rfl) (Nat.le_of_ble_eq_true rfl) (fun r2 s2 h2 => ?_)
  rcases h2 with ⟨rfl, ⟨rfl, o, ho2, rfl⟩ | ⟨rfl, n2⟩⟩
  · refine g_if_eqN (tgt := 20) (by decide +kernel : decode prog_10_method_61_code 5 = .ok (.ifCond .eq 15, 3)) (by decide) (by decide) (fun h => False.elim (by revert h; decide)) (fun _ => ?_)
    refine g_iload_n (by decide +kernel : decode prog_10_method_61_code 8 = .ok (.iload_n 2, 1)) rfl ?_
    refine g_i2l (by decide +kernel : decode prog_10_method_61_code 9 = .ok (.i2l, 1)) ?_
    refine g_lconst (v := lN 0) (by decide +kernel : decode prog_10_method_61_code 10 = .ok (.lconst 0, 1)) (by decide) ?_
    refine g_ldc2 (v := lN 60) (by decide +kernel : decode prog_10_method_61_code 11 = .ok (.ldc2_w 205, 3)) kc_Md_205 ?_
    refine g_callSI [.long (Int32.toInt64 y), .long (lN 0), .long (lN 60)] (by decide +kernel : decode prog_10_method_61_code 14 = .ok (.invokestatic 57, 3)) lk_Md_57 (m_isInN ΛM (mS σ f b) y 0 60) rfl rfl (Nat.le_of_ble_eq_true rfl) (Nat.le_of_ble_eq_true rfl) (fun r14 s14 h14 => ?_)
    rcases h14 with ⟨rfl, ⟨rfl, n, ha14, hb14, rfl⟩ | ⟨rfl, n14⟩⟩
    · refine g_if_neN (tgt := 22) (by decide +kernel : decode prog_10_method_61_code 17 = .ok (.ifCond .ne 5, 3)) (by decide) (by decide) (fun _ => ?_) (fun h => False.elim (by revert h; decide))
      refine g_aload_n (by decide +kernel : decode prog_10_method_61_code 22 = .ok (.aload_n 0, 1)) rfl ?_
      refine g_getR (by decide +kernel : decode prog_10_method_61_code 23 = .ok (.getfield 7, 3)) fl_Md_7 rfl rfl ?_
      refine g_aload_n (by decide +kernel : decode prog_10_method_61_code 26 = .ok (.aload_n 0, 1)) rfl ?_
      refine g_getR (by decide +kernel : decode prog_10_method_61_code 27 = .ok (.getfield 16, 3)) fl_Md_16 rfl rfl ?_
      refine g_callSV [.ref 1, .ref 3] (by decide +kernel : decode prog_10_method_61_code 30 = .ok (.invokestatic 141, 3)) lk_Md_141 (m_aside σ f b) rfl rfl (Nat.le_of_ble_eq_true rfl) (Nat.le_of_ble_eq_true rfl) (fun s30 h30 => ?_)
      obtain rfl := h30
      refine g_aload_n (by decide +kernel : decode prog_10_method_61_code 33 = .ok (.aload_n 0, 1)) rfl ?_
      refine g_iload_n (by decide +kernel : decode prog_10_method_61_code 34 = .ok (.iload_n 2, 1)) rfl ?_
      refine g_callVV [.int (nI n)] (by decide +kernel : decode prog_10_method_61_code 35 = .ok (.invokevirtual 207, 3)) lk_Md_207 (m_goes (s_row σ 3 f) f b hI n (by omega)) rfl rfl rfl rfl (Nat.le_of_ble_eq_true rfl) (Nat.le_of_ble_eq_true rfl) (fun s35 h35 => ?_)
      obtain rfl := h35
      refine g_aload_n (by decide +kernel : decode prog_10_method_61_code 38 = .ok (.aload_n 0, 1)) rfl ?_
      refine g_iload_n (by decide +kernel : decode prog_10_method_61_code 39 = .ok (.iload_n 1, 1)) rfl ?_
      refine g_iconst (v := nI 3) (by decide +kernel : decode prog_10_method_61_code 40 = .ok (.iconst 3, 1)) (by decide) ?_
      refine g_callVI [.int (nI o), .int (nI 3)] (by decide +kernel : decode prog_10_method_61_code 41 = .ok (.invokevirtual 169, 3)) lk_Md_169 (m_its (mS (s_row σ 3 f) (yN 255 f n) (yB 255 f b n)) o 3 (v := (yN 255 f n) (19 + 6 * o + 3)) rfl (by omega)) rfl rfl rfl rfl (Nat.le_of_ble_eq_true rfl) (Nat.le_of_ble_eq_true rfl) (fun r41 s41 h41 => ?_)
      obtain ⟨rfl, rfl⟩ := h41
      refine g_istore_n (L' := [some (.ref 0), some (.int (nI o)), some (.int (nI n)), some (.int ((yN 255 f n) (19 + 6 * o + 3)))]) (by decide +kernel : decode prog_10_method_61_code 44 = .ok (.istore_n 3, 1)) (Nat.le_of_ble_eq_true rfl) rfl ?_
      refine g_aload_n (by decide +kernel : decode prog_10_method_61_code 45 = .ok (.aload_n 0, 1)) rfl ?_
      refine g_getR (by decide +kernel : decode prog_10_method_61_code 46 = .ok (.getfield 16, 3)) fl_Md_16 rfl rfl ?_
      refine g_aload_n (by decide +kernel : decode prog_10_method_61_code 49 = .ok (.aload_n 0, 1)) rfl ?_
      refine g_getR (by decide +kernel : decode prog_10_method_61_code 50 = .ok (.getfield 7, 3)) fl_Md_7 rfl rfl ?_
      refine g_callSV [.ref 3, .ref 1] (by decide +kernel : decode prog_10_method_61_code 53 = .ok (.invokestatic 141, 3)) lk_Md_141 (m_back σ f (yN 255 f n) (yB 255 f b n)) rfl rfl (Nat.le_of_ble_eq_true rfl) (Nat.le_of_ble_eq_true rfl) (fun s53 h53 => ?_)
      obtain rfl := h53
      refine g_iload_n (by decide +kernel : decode prog_10_method_61_code 56 = .ok (.iload_n 3, 1)) rfl ?_
      exact g_iret hR (by decide +kernel : decode prog_10_method_61_code 57 = .ok (.ireturn, 1)) rfl ⟨_, rfl, ⟨by simp only [whereV, pz_of hI ho2, rg_of ha14 hb14], ⟨_, _, rfl⟩⟩⟩
    · refine g_if_neN (tgt := 22) (by decide +kernel : decode prog_10_method_61_code 17 = .ok (.ifCond .ne 5, 3)) (by decide) (by decide) (fun h => False.elim (by revert h; decide)) (fun _ => ?_)
      refine g_iconst (v := (-1)) (by decide +kernel : decode prog_10_method_61_code 20 = .ok (.iconst (-1), 1)) (by decide) ?_
      exact g_iret hR (by decide +kernel : decode prog_10_method_61_code 21 = .ok (.ireturn, 1)) rfl ⟨_, rfl, ⟨by simp only [whereV, pz_of hI ho2, rg_none n14], Jk.self _ _ _⟩⟩
  · refine g_if_eqN (tgt := 20) (by decide +kernel : decode prog_10_method_61_code 5 = .ok (.ifCond .eq 15, 3)) (by decide) (by decide) (fun _ => ?_) (fun h => False.elim (by revert h; decide))
    refine g_iconst (v := (-1)) (by decide +kernel : decode prog_10_method_61_code 20 = .ok (.iconst (-1), 1)) (by decide) ?_
    exact g_iret hR (by decide +kernel : decode prog_10_method_61_code 21 = .ok (.ireturn, 1)) rfl ⟨_, rfl, ⟨by simp only [whereV, pz_none hI n2], Jk.self _ _ _⟩⟩
set_option maxRecDepth 20000 in
theorem p_shown (σ : Store) (f b : Row) (hI : Inv f) (x : Int32) : Ct ΛM mt_Md_shown 5 [.ref 0, .int x] (mS σ f b) (mP σ (shownV f x) f) := by
  refine Ct.of (by decide) (Nat.le_of_ble_eq_true rfl) (fun X hR => ?_)
  show G (ΛM, mt_Md_shown, 5) X (mS σ f b) [some (.ref 0), some (.int x), none] [] 0
  have hn8 := hI.n.2
  refine g_aload_n (by decide +kernel : decode prog_10_method_63_code 0 = .ok (.aload_n 0, 1)) rfl ?_
  refine g_iload_n (by decide +kernel : decode prog_10_method_63_code 1 = .ok (.iload_n 1, 1)) rfl ?_
  refine g_callVI [.int x] (by decide +kernel : decode prog_10_method_63_code 2 = .ok (.invokevirtual 172, 3)) lk_Md_172 (m_isOne (mS σ f b) x hI.n.1 (by omega)) rfl rfl rfl rfl (Nat.le_of_ble_eq_true rfl) (Nat.le_of_ble_eq_true rfl) (fun r2 s2 h2 => ?_)
  rcases h2 with ⟨rfl, ⟨rfl, o, ho2, rfl⟩ | ⟨rfl, n2⟩⟩
  · refine g_if_neN (tgt := 10) (by decide +kernel : decode prog_10_method_63_code 5 = .ok (.ifCond .ne 5, 3)) (by decide) (by decide) (fun _ => ?_) (fun h => False.elim (by revert h; decide))
    refine g_aload_n (by decide +kernel : decode prog_10_method_63_code 10 = .ok (.aload_n 0, 1)) rfl ?_
    refine g_iload_n (by decide +kernel : decode prog_10_method_63_code 11 = .ok (.iload_n 1, 1)) rfl ?_
    refine g_sipush (v := nI 255) (by decide +kernel : decode prog_10_method_63_code 12 = .ok (.sipush 255, 3)) (by decide) ?_
    refine g_callVI [.int (nI o), .int (nI 255)] (by decide +kernel : decode prog_10_method_63_code 15 = .ok (.invokevirtual 228, 3)) lk_Md_228 (m_shownBy σ f b hI o (by omega) 255 (by omega)) rfl rfl rfl rfl (Nat.le_of_ble_eq_true rfl) (Nat.le_of_ble_eq_true rfl) (fun r15 s15 h15 => ?_)
    obtain ⟨rfl, rfl⟩ := h15
    refine g_istore_n (L' := [some (.ref 0), some (.int (nI o)), some (.int (nI (shw 255 o 61 f)))]) (by decide +kernel : decode prog_10_method_63_code 18 = .ok (.istore_n 2, 1)) (Nat.le_of_ble_eq_true rfl) rfl ?_
    refine g_iload_n (by decide +kernel : decode prog_10_method_63_code 19 = .ok (.iload_n 2, 1)) rfl ?_
    refine g_bipush (v := nI 60) (by decide +kernel : decode prog_10_method_63_code 20 = .ok (.bipush 60, 2)) (by decide) ?_
    refine g_icmp_gtN (tgt := 29) (by decide +kernel : decode prog_10_method_63_code 22 = .ok (.if_icmp .gt 7, 3)) (by decide) (by first | omega | (have h9 := shw_le 255 o 61 f; omega)) (by decide) (fun h22 => ?_) (fun h22 => ?_)
    · refine g_bipush (v := (-3)) (by decide +kernel : decode prog_10_method_63_code 29 = .ok (.bipush (-3), 2)) (by decide) ?_
      exact g_iret hR (by decide +kernel : decode prog_10_method_63_code 31 = .ok (.ireturn, 1)) rfl ⟨_, rfl, ⟨by simp only [shownV, pz_of hI ho2, h22, ↓reduceIte], ⟨_, _, rfl⟩⟩⟩
    · refine g_iload_n (by decide +kernel : decode prog_10_method_63_code 25 = .ok (.iload_n 2, 1)) rfl ?_
      refine g_goto (tgt := 31) (by decide +kernel : decode prog_10_method_63_code 26 = .ok (.goto 5, 3)) (by decide) ?_
      exact g_iret hR (by decide +kernel : decode prog_10_method_63_code 31 = .ok (.ireturn, 1)) rfl ⟨_, rfl, ⟨by simp only [shownV, pz_of hI ho2, h22, ↓reduceIte], ⟨_, _, rfl⟩⟩⟩
  · refine g_if_neN (tgt := 10) (by decide +kernel : decode prog_10_method_63_code 5 = .ok (.ifCond .ne 5, 3)) (by decide) (by decide) (fun h => False.elim (by revert h; decide)) (fun _ => ?_)
    refine g_iconst (v := (-1)) (by decide +kernel : decode prog_10_method_63_code 8 = .ok (.iconst (-1), 1)) (by decide) ?_
    exact g_iret hR (by decide +kernel : decode prog_10_method_63_code 9 = .ok (.ireturn, 1)) rfl ⟨_, rfl, ⟨by simp only [shownV, pz_none hI n2, ↓reduceIte], Jk.self _ _ _⟩⟩
theorem alw_out {f : Row} : ∀ (j k : Nat), (∀ i, i < k → msk (yN 255 f i) (nn (yN 255 f i)) ≠ 0) → k ≤ j → alw j f = k + alw (j - k) (yN 255 f k) := by
  intro j k
  induction k with
  | zero => intro _ _; simp [yN]
  | succ k ih =>
    intro h hk
    rw [ih (fun i hi => h i (by omega)) (by omega)]
    rw [show j - k = (j - (k + 1)) + 1 by omega]
    show k + (if _ then _ else _) = _
    rw [if_neg (h k (by omega))]
    show k + (1 + alw (j - (k + 1)) (yF 255 (yN 255 f k))) = k + 1 + alw (j - (k + 1)) (yF 255 (yN 255 f k))
    omega
theorem alw_stop {f : Row} {j k : Nat} (h : ∀ i, i < k → msk (yN 255 f i) (nn (yN 255 f i)) ≠ 0) (hk : k ≤ j) (he : k = j ∨ msk (yN 255 f k) (nn (yN 255 f k)) = 0) : alw j f = k := by
  rw [alw_out j k h hk]
  rcases he with rfl | he
  · rw [Nat.sub_self]; rfl
  · cases hj : j - k with
    | zero => rfl
    | succ q =>
      show k + (if _ then _ else _) = _
      rw [if_pos he]
      rfl
set_option maxRecDepth 20000 in
theorem p_all_lp {X : CX} {σ : Store} {f b : Row} (hI : Inv f) : ∀ (b9 k : Nat), k ≤ 61 → 61 - k < b9 → (∀ i, i < k → msk (yN 255 f i) (nn (yN 255 f i)) ≠ 0) → Rt (ΛM, mt_Md_all, 4) (mP σ (allV f) f) X → G (ΛM, mt_Md_all, 4) X (mS (s_row σ 3 f) (yN 255 f k) (yB 255 f b k)) [some (.ref 0), some (.int (nI k))] [] 13 := by
  have hn8 := hI.n.2
  intro b9
  induction b9 with
  | zero => intro k hk hb hh hR; omega
  | succ b9 ih =>
  intro k hk hb hh hR
  have hIk := (yN_inv (m := 255) hI k).1
  have hm := inv_m256 hIk
  refine g_iload_n (by decide +kernel : decode prog_10_method_64_code 13 = .ok (.iload_n 1, 1)) rfl ?_
  refine g_bipush (v := nI 60) (by decide +kernel : decode prog_10_method_64_code 14 = .ok (.bipush 60, 2)) (by decide) ?_
  refine g_icmp_gtN (tgt := 39) (by decide +kernel : decode prog_10_method_64_code 16 = .ok (.if_icmp .gt 23, 3)) (by decide) (by omega) (by decide) (fun h16 => ?_) (fun h16 => ?_)
  · refine g_aload_n (by decide +kernel : decode prog_10_method_64_code 39 = .ok (.aload_n 0, 1)) rfl ?_
    refine g_getR (by decide +kernel : decode prog_10_method_64_code 40 = .ok (.getfield 16, 3)) fl_Md_16 rfl rfl ?_
    refine g_aload_n (by decide +kernel : decode prog_10_method_64_code 43 = .ok (.aload_n 0, 1)) rfl ?_
    refine g_getR (by decide +kernel : decode prog_10_method_64_code 44 = .ok (.getfield 7, 3)) fl_Md_7 rfl rfl ?_
    refine g_callSV [.ref 3, .ref 1] (by decide +kernel : decode prog_10_method_64_code 47 = .ok (.invokestatic 141, 3)) lk_Md_141 (m_back σ f (yN 255 f k) (yB 255 f b k)) rfl rfl (Nat.le_of_ble_eq_true rfl) (Nat.le_of_ble_eq_true rfl) (fun s47 h47 => ?_)
    obtain rfl := h47
    refine g_iload_n (by decide +kernel : decode prog_10_method_64_code 50 = .ok (.iload_n 1, 1)) rfl ?_
    refine g_bipush (v := nI 60) (by decide +kernel : decode prog_10_method_64_code 51 = .ok (.bipush 60, 2)) (by decide) ?_
    refine g_icmp_gtN (tgt := 60) (by decide +kernel : decode prog_10_method_64_code 53 = .ok (.if_icmp .gt 7, 3)) (by decide) (by omega) (by decide) (fun h53 => ?_) (fun h53 => ?_)
    · refine g_bipush (v := (-3)) (by decide +kernel : decode prog_10_method_64_code 60 = .ok (.bipush (-3), 2)) (by decide) ?_
      exact g_iret hR (by decide +kernel : decode prog_10_method_64_code 62 = .ok (.ireturn, 1)) rfl ⟨_, rfl, ⟨by rw [allV, alw_stop hh hk (Or.inl (by omega))]; first | (exfalso; omega) | rw [if_pos (by omega)] | rw [if_neg (by omega)], ⟨_, _, rfl⟩⟩⟩
    · refine g_iload_n (by decide +kernel : decode prog_10_method_64_code 56 = .ok (.iload_n 1, 1)) rfl ?_
      refine g_goto (tgt := 62) (by decide +kernel : decode prog_10_method_64_code 57 = .ok (.goto 5, 3)) (by decide) ?_
      exact g_iret hR (by decide +kernel : decode prog_10_method_64_code 62 = .ok (.ireturn, 1)) rfl ⟨_, rfl, ⟨by rw [allV, alw_stop hh hk (Or.inl (by omega))]; first | (exfalso; omega) | rw [if_pos (by omega)] | rw [if_neg (by omega)], ⟨_, _, rfl⟩⟩⟩
  · refine g_aload_n (by decide +kernel : decode prog_10_method_64_code 19 = .ok (.aload_n 0, 1)) rfl ?_
    refine g_callVI [] (by decide +kernel : decode prog_10_method_64_code 20 = .ok (.invokevirtual 189, 3)) lk_Md_189 (m_hiddenOnes (s_row σ 3 f) (yN 255 f k) (yB 255 f b k) hIk) rfl rfl rfl rfl (Nat.le_of_ble_eq_true rfl) (Nat.le_of_ble_eq_true rfl) (fun r20 s20 h20 => ?_)
    obtain ⟨rfl, rfl⟩ := h20
    refine g_if_eqN (tgt := 39) (by decide +kernel : decode prog_10_method_64_code 23 = .ok (.ifCond .eq 16, 3)) (by decide) (by omega) (fun h23 => ?_) (fun h23 => ?_)
    · refine g_aload_n (by decide +kernel : decode prog_10_method_64_code 39 = .ok (.aload_n 0, 1)) rfl ?_
      refine g_getR (by decide +kernel : decode prog_10_method_64_code 40 = .ok (.getfield 16, 3)) fl_Md_16 rfl rfl ?_
      refine g_aload_n (by decide +kernel : decode prog_10_method_64_code 43 = .ok (.aload_n 0, 1)) rfl ?_
      refine g_getR (by decide +kernel : decode prog_10_method_64_code 44 = .ok (.getfield 7, 3)) fl_Md_7 rfl rfl ?_
      refine g_callSV [.ref 3, .ref 1] (by decide +kernel : decode prog_10_method_64_code 47 = .ok (.invokestatic 141, 3)) lk_Md_141 (m_back σ f (yN 255 f k) (yB 255 f b k)) rfl rfl (Nat.le_of_ble_eq_true rfl) (Nat.le_of_ble_eq_true rfl) (fun s47 h47 => ?_)
      obtain rfl := h47
      refine g_iload_n (by decide +kernel : decode prog_10_method_64_code 50 = .ok (.iload_n 1, 1)) rfl ?_
      refine g_bipush (v := nI 60) (by decide +kernel : decode prog_10_method_64_code 51 = .ok (.bipush 60, 2)) (by decide) ?_
      refine g_icmp_gtN (tgt := 60) (by decide +kernel : decode prog_10_method_64_code 53 = .ok (.if_icmp .gt 7, 3)) (by decide) (by omega) (by decide) (fun h53 => ?_) (fun h53 => ?_)
      · refine g_bipush (v := (-3)) (by decide +kernel : decode prog_10_method_64_code 60 = .ok (.bipush (-3), 2)) (by decide) ?_
        exact g_iret hR (by decide +kernel : decode prog_10_method_64_code 62 = .ok (.ireturn, 1)) rfl ⟨_, rfl, ⟨by rw [allV, alw_stop hh hk (Or.inr h23)]; first | (exfalso; omega) | rw [if_pos (by omega)] | rw [if_neg (by omega)], ⟨_, _, rfl⟩⟩⟩
      · refine g_iload_n (by decide +kernel : decode prog_10_method_64_code 56 = .ok (.iload_n 1, 1)) rfl ?_
        refine g_goto (tgt := 62) (by decide +kernel : decode prog_10_method_64_code 57 = .ok (.goto 5, 3)) (by decide) ?_
        exact g_iret hR (by decide +kernel : decode prog_10_method_64_code 62 = .ok (.ireturn, 1)) rfl ⟨_, rfl, ⟨by rw [allV, alw_stop hh hk (Or.inr h23)]; first | (exfalso; omega) | rw [if_pos (by omega)] | rw [if_neg (by omega)], ⟨_, _, rfl⟩⟩⟩
    · refine g_aload_n (by decide +kernel : decode prog_10_method_64_code 26 = .ok (.aload_n 0, 1)) rfl ?_
      refine g_sipush (v := nI 255) (by decide +kernel : decode prog_10_method_64_code 27 = .ok (.sipush 255, 3)) (by decide) ?_
      refine g_callVV [.int (nI 255)] (by decide +kernel : decode prog_10_method_64_code 30 = .ok (.invokevirtual 202, 3)) lk_Md_202 ((m_goesBy (s_row σ 3 f) (yN 255 f k) (yB 255 f b k) (yN_inv hI k).1 255 (by omega))) rfl rfl rfl rfl (Nat.le_of_ble_eq_true rfl) (Nat.le_of_ble_eq_true rfl) (fun s30 h30 => ?_)
      obtain rfl := h30
      refine g_sto (σ' := mS (s_row σ 3 f) (yN 255 f (k + 1)) (yB 255 f b (k + 1))) (by rw [yr_1]; rfl) ?_
      refine g_iincN (n := 1) (L' := [some (.ref 0), some (.int (nI (k + 1)))]) (by decide +kernel : decode prog_10_method_64_code 33 = .ok (.iinc 1 1, 3)) rfl (by decide) (Nat.le_of_ble_eq_true rfl) rfl ?_
      refine g_goto (tgt := 13) (by decide +kernel : decode prog_10_method_64_code 36 = .ok (.goto (-23), 3)) (by decide) ?_
      refine ih (k + 1) (by omega) (by omega) (fun i hi => ?_) hR
      rcases (show i < k ∨ i = k by omega) with q | q
      · exact hh i q
      · rw [q]; exact h23
set_option maxRecDepth 20000 in
theorem p_all (σ : Store) (f b : Row) (hI : Inv f)  : Ct ΛM mt_Md_all 4 [.ref 0] (mS σ f b) (mP σ (allV f) f) := by
  refine Ct.of (by decide) (Nat.le_of_ble_eq_true rfl) (fun X hR => ?_)
  show G (ΛM, mt_Md_all, 4) X (mS σ f b) [some (.ref 0), none] [] 0
  have hn8 := hI.n.2
  refine g_aload_n (by decide +kernel : decode prog_10_method_64_code 0 = .ok (.aload_n 0, 1)) rfl ?_
  refine g_getR (by decide +kernel : decode prog_10_method_64_code 1 = .ok (.getfield 7, 3)) fl_Md_7 rfl rfl ?_
  refine g_aload_n (by decide +kernel : decode prog_10_method_64_code 4 = .ok (.aload_n 0, 1)) rfl ?_
  refine g_getR (by decide +kernel : decode prog_10_method_64_code 5 = .ok (.getfield 16, 3)) fl_Md_16 rfl rfl ?_
  refine g_callSV [.ref 1, .ref 3] (by decide +kernel : decode prog_10_method_64_code 8 = .ok (.invokestatic 141, 3)) lk_Md_141 (m_aside σ f b) rfl rfl (Nat.le_of_ble_eq_true rfl) (Nat.le_of_ble_eq_true rfl) (fun s8 h8 => ?_)
  obtain rfl := h8
  refine g_iconst (v := nI 0) (by decide +kernel : decode prog_10_method_64_code 11 = .ok (.iconst 0, 1)) (by decide) ?_
  refine g_istore_n (L' := [some (.ref 0), some (.int (nI 0))]) (by decide +kernel : decode prog_10_method_64_code 12 = .ok (.istore_n 1, 1)) (Nat.le_of_ble_eq_true rfl) rfl ?_
  exact p_all_lp hI 62 0 (by omega) (by omega) (fun i hi => absurd hi (Nat.not_lt_zero i)) hR
set_option maxRecDepth 20000 in
theorem p_finder (σ : Store) (f b : Row) (hI : Inv f) (x : Int32) : Ct ΛM mt_Md_finder 5 [.ref 0, .int x] (mS σ f b) (mP σ (finderV f x) f) := by
  refine Ct.of (by decide) (Nat.le_of_ble_eq_true rfl) (fun X hR => ?_)
  show G (ΛM, mt_Md_finder, 5) X (mS σ f b) [some (.ref 0), some (.int x), none] [] 0
  have hn8 := hI.n.2
  refine g_aload_n (by decide +kernel : decode prog_10_method_65_code 0 = .ok (.aload_n 0, 1)) rfl ?_
  refine g_iload_n (by decide +kernel : decode prog_10_method_65_code 1 = .ok (.iload_n 1, 1)) rfl ?_
  refine g_callVI [.int x] (by decide +kernel : decode prog_10_method_65_code 2 = .ok (.invokevirtual 172, 3)) lk_Md_172 (m_isOne (mS σ f b) x hI.n.1 (by omega)) rfl rfl rfl rfl (Nat.le_of_ble_eq_true rfl) (Nat.le_of_ble_eq_true rfl) (fun r2 s2 h2 => ?_)
  rcases h2 with ⟨rfl, ⟨rfl, o, ho2, rfl⟩ | ⟨rfl, n2⟩⟩
  · refine g_if_neN (tgt := 10) (by decide +kernel : decode prog_10_method_65_code 5 = .ok (.ifCond .ne 5, 3)) (by decide) (by decide) (fun _ => ?_) (fun h => False.elim (by revert h; decide))
    have ho2 := ho2
    refine g_aload_n (by decide +kernel : decode prog_10_method_65_code 10 = .ok (.aload_n 0, 1)) rfl ?_
    refine g_iload_n (by decide +kernel : decode prog_10_method_65_code 11 = .ok (.iload_n 1, 1)) rfl ?_
    refine g_iconst (v := nI 4) (by decide +kernel : decode prog_10_method_65_code 12 = .ok (.iconst 4, 1)) (by decide) ?_
    refine g_callVI [.int (nI o), .int (nI 4)] (by decide +kernel : decode prog_10_method_65_code 13 = .ok (.invokevirtual 169, 3)) lk_Md_169 (m_its (mS σ f b) o 4 (hI.p ho2 4).1 (by omega)) rfl rfl rfl rfl (Nat.le_of_ble_eq_true rfl) (Nat.le_of_ble_eq_true rfl) (fun r13 s13 h13 => ?_)
    obtain ⟨rfl, rfl⟩ := h13
    refine g_if_neN (tgt := 22) (by decide +kernel : decode prog_10_method_65_code 16 = .ok (.ifCond .ne 6, 3)) (by decide) (by first | omega | (have h9 := shw_le 255 o 61 f; omega) | (have h9 : tn (f (19 + 6 * o + 4)) ≤ 1 := (hI.p ho2 4).2; omega)) (fun h16 => ?_) (fun h16 => ?_)
    · obtain ⟨k, hk⟩ : ∃ k, shw 255 o 61 f = k + 1 := by
        have h1 : tn (f (19 + 6 * o + 4)) = 1 := by have : tn (f (19 + 6 * o + 4)) ≤ 1 := (hI.p ho2 4).2; omega
        have h2 : f (19 + 6 * o + 4) = nI 1 := by rw [(hI.p ho2 4).1, h1]
        exact ⟨shw 255 o 60 (yF 255 f), by show (if _ then _ else _) = _; rw [if_pos h2]; exact Nat.add_comm _ _⟩
      refine g_aload_n (by decide +kernel : decode prog_10_method_65_code 22 = .ok (.aload_n 0, 1)) rfl ?_
      refine g_iload_n (by decide +kernel : decode prog_10_method_65_code 23 = .ok (.iload_n 1, 1)) rfl ?_
      refine g_sipush (v := nI 255) (by decide +kernel : decode prog_10_method_65_code 24 = .ok (.sipush 255, 3)) (by decide) ?_
      refine g_callVI [.int (nI o), .int (nI 255)] (by decide +kernel : decode prog_10_method_65_code 27 = .ok (.invokevirtual 228, 3)) lk_Md_228 (m_shownBy σ f b hI o (by omega) 255 (by omega)) rfl rfl rfl rfl (Nat.le_of_ble_eq_true rfl) (Nat.le_of_ble_eq_true rfl) (fun r27 s27 h27 => ?_)
      obtain ⟨rfl, rfl⟩ := h27
      refine g_istore_n (L' := [some (.ref 0), some (.int (nI o)), some (.int (nI (shw 255 o 61 f)))]) (by decide +kernel : decode prog_10_method_65_code 30 = .ok (.istore_n 2, 1)) (Nat.le_of_ble_eq_true rfl) rfl ?_
      refine g_iload_n (by decide +kernel : decode prog_10_method_65_code 31 = .ok (.iload_n 2, 1)) rfl ?_
      refine g_bipush (v := nI 60) (by decide +kernel : decode prog_10_method_65_code 32 = .ok (.bipush 60, 2)) (by decide) ?_
      refine g_icmp_gtN (tgt := 55) (by decide +kernel : decode prog_10_method_65_code 34 = .ok (.if_icmp .gt 21, 3)) (by decide) (by first | omega | (have h9 := shw_le 255 o 61 f; omega) | (have h9 : tn (f (19 + 6 * o + 4)) ≤ 1 := (hI.p ho2 4).2; omega)) (by decide) (fun h34 => ?_) (fun h34 => ?_)
      · refine g_bipush (v := (-3)) (by decide +kernel : decode prog_10_method_65_code 55 = .ok (.bipush (-3), 2)) (by decide) ?_
        exact g_iret hR (by decide +kernel : decode prog_10_method_65_code 57 = .ok (.ireturn, 1)) rfl ⟨_, rfl, ⟨by simp only [finderV, pz_of hI ho2, hk]; rw [hk] at h34; first | rw [if_pos (by omega)] | rw [if_neg (by omega), if_pos h43] | rw [if_neg (by omega), if_neg h43], ⟨_, _, rfl⟩⟩⟩
      · refine g_aload_n (by decide +kernel : decode prog_10_method_65_code 37 = .ok (.aload_n 0, 1)) rfl ?_
        refine g_getR (by decide +kernel : decode prog_10_method_65_code 38 = .ok (.getfield 25, 3)) fl_Md_25 rfl rfl ?_
        refine g_iload_n (by decide +kernel : decode prog_10_method_65_code 41 = .ok (.iload_n 1, 1)) rfl ?_
        refine g_iaload (a := o) (by decide +kernel : decode prog_10_method_65_code 42 = .ok (.iaload, 1)) rfl rfl (by first | omega | (have h9 := shw_le 255 o 61 f; omega) | (have h9 : tn (f (19 + 6 * o + 4)) ≤ 1 := (hI.p ho2 4).2; omega)) (by decide) ?_
        refine g_top (w := fbF 255 (yN 255 f k) o) (by rw [mS_6, hk]; exact yr_2 255 _ _ (by rw [(yN_inv hI k).2]; exact ho2)) ?_
        refine g_if_lt (tgt := 55) (by decide +kernel : decode prog_10_method_65_code 43 = .ok (.ifCond .lt 12, 3)) (by decide) (fun h43 => ?_) (fun h43 => ?_)
        · refine g_bipush (v := (-3)) (by decide +kernel : decode prog_10_method_65_code 55 = .ok (.bipush (-3), 2)) (by decide) ?_
          exact g_iret hR (by decide +kernel : decode prog_10_method_65_code 57 = .ok (.ireturn, 1)) rfl ⟨_, rfl, ⟨by simp only [finderV, pz_of hI ho2, hk]; rw [hk] at h34; first | rw [if_pos (by omega)] | rw [if_neg (by omega), if_pos h43] | rw [if_neg (by omega), if_neg h43], ⟨_, _, rfl⟩⟩⟩
        · refine g_aload_n (by decide +kernel : decode prog_10_method_65_code 46 = .ok (.aload_n 0, 1)) rfl ?_
          refine g_getR (by decide +kernel : decode prog_10_method_65_code 47 = .ok (.getfield 25, 3)) fl_Md_25 rfl rfl ?_
          refine g_iload_n (by decide +kernel : decode prog_10_method_65_code 50 = .ok (.iload_n 1, 1)) rfl ?_
          refine g_iaload (a := o) (by decide +kernel : decode prog_10_method_65_code 51 = .ok (.iaload, 1)) rfl rfl (by first | omega | (have h9 := shw_le 255 o 61 f; omega) | (have h9 : tn (f (19 + 6 * o + 4)) ≤ 1 := (hI.p ho2 4).2; omega)) (by decide) ?_
          refine g_top (w := fbF 255 (yN 255 f k) o) (by rw [mS_6, hk]; exact yr_2 255 _ _ (by rw [(yN_inv hI k).2]; exact ho2)) ?_
          refine g_goto (tgt := 57) (by decide +kernel : decode prog_10_method_65_code 52 = .ok (.goto 5, 3)) (by decide) ?_
          exact g_iret hR (by decide +kernel : decode prog_10_method_65_code 57 = .ok (.ireturn, 1)) rfl ⟨_, rfl, ⟨by simp only [finderV, pz_of hI ho2, hk]; rw [hk] at h34; first | rw [if_pos (by omega)] | rw [if_neg (by omega), if_pos h43] | rw [if_neg (by omega), if_neg h43], ⟨_, _, rfl⟩⟩⟩
    · refine g_bipush (v := (-3)) (by decide +kernel : decode prog_10_method_65_code 19 = .ok (.bipush (-3), 2)) (by decide) ?_
      exact g_iret hR (by decide +kernel : decode prog_10_method_65_code 21 = .ok (.ireturn, 1)) rfl ⟨_, rfl, ⟨by simp only [finderV, pz_of hI ho2]; rw [show shw 255 o 61 f = 0 from by show (if _ then _ else _) = _; rw [if_neg (fun z => by rw [z, tn_nI (by decide)] at h16; exact absurd h16 (by decide))]], Jk.self _ _ _⟩⟩
  · refine g_if_neN (tgt := 10) (by decide +kernel : decode prog_10_method_65_code 5 = .ok (.ifCond .ne 5, 3)) (by decide) (by decide) (fun h => False.elim (by revert h; decide)) (fun _ => ?_)
    refine g_iconst (v := (-1)) (by decide +kernel : decode prog_10_method_65_code 8 = .ok (.iconst (-1), 1)) (by decide) ?_
    exact g_iret hR (by decide +kernel : decode prog_10_method_65_code 9 = .ok (.ireturn, 1)) rfl ⟨_, rfl, ⟨by simp only [finderV, pz_none hI n2], Jk.self _ _ _⟩⟩
end
section
/-! THE REFERENCE: where one had best hide, as what, with how much wit, who is needed, by how few -/
theorem s_row_row (σ : Store) (k : Nat) (f g : Row) : s_row (s_row σ k f) k g = s_row σ k g := by
  funext a
  unfold s_row
  split <;> rfl
theorem s_row_self (σ : Store) (k : Nat) : s_row σ k (σ k) = σ := by
  funext a
  unfold s_row
  split
  · rename_i h; rw [h]
  · rfl
theorem upd_rest {f : Row} {i j : Nat} {a v : Int32} (h : i ≠ j) : upd (upd (upd (upd f i a) j v) j (f j)) i (f i) = f := by
  funext c
  unfold upd
  by_cases h1 : c = i
  · subst h1; simp
  · by_cases h2 : c = j
    · subst h2; simp [h1]
    · simp [h1, h2]
/-- the first greatest of some numbers: which, how great -/
def bl (i : Int32 × Int32) (g : Nat → Nat) : Nat → Int32 × Int32
  | 0 => i
  | k + 1 => if (bl i g k).2 < nI (g k) then (nI k, nI (g k)) else bl i g k
theorem bl_1 (i : Int32 × Int32) (g : Nat → Nat) (k : Nat) : (bl i g (k + 1)).1 = if (bl i g k).2 < nI (g k) then nI k else (bl i g k).1 := by
  show (if _ then _ else _ : Int32 × Int32).1 = _
  split <;> rfl
theorem bl_2 (i : Int32 × Int32) (g : Nat → Nat) (k : Nat) : (bl i g (k + 1)).2 = if (bl i g k).2 < nI (g k) then nI (g k) else (bl i g k).2 := by
  show (if _ then _ else _ : Int32 × Int32).2 = _
  split <;> rfl
def safeV (f : Row) (x : Int32) : Int32 := match pz f x with
  | none => -1
  | some o => (bl (nI 0, -1) (fun p => shw 255 o 61 (upd (upd f (19 + 6 * o + 4) (nI 1)) (19 + 6 * o + 3) (nI p))) 12).1
def kindV (f : Row) (x : Int32) : Int32 := match pz f x with
  | none => -1
  | some o => (bl (nI 0, -1) (fun p => shw 255 o 61 (upd f (19 + 6 * o + 0) (nI p))) 6).1
def needV (f : Row) (x : Int32) : Int32 := match pz f x with
  | none => -1
  | some o => (bl (-3, nI (shw 255 o 61 f)) (fun q => shw (255 - 2 ^ q) o 61 f) (nn f)).1
def wfF (f : Row) (o n : Nat) : Nat → Nat → Int32
  | 0, _ => -3
  | k + 1, v => if yN 255 (upd f (19 + 6 * o + 2) (nI v)) n (19 + 6 * o + 4) = nI 1 then nI v else wfF f o n k (v + 1)
def witV (f : Row) (x y : Int32) : Int32 := match pz f x with
  | none => -1
  | some o => match rg 1 20 y with
    | none => -1
    | some n => wfF f o n 10 0
/-- the least set of fewest finders among those below k -/
def few (f : Row) (o n : Nat) : Nat → Option Nat
  | 0 => none
  | k + 1 => if yN k f n (19 + 6 * o + 4) = nI 1 then few f o n k else match few f o n k with
    | none => some k
    | some s => if popc k < popc s then some k else some s
def oN : Option Nat → Int32
  | none => -3
  | some s => nI s
def fewV (f : Row) (x y : Int32) : Int32 := match pz f x with
  | none => -1
  | some o => match rg 1 20 y with
    | none => -1
    | some n => oN (few f o n (2 ^ nn f))
theorem few_lt (f : Row) (o n : Nat) : ∀ k s, few f o n k = some s → s < k := by
  intro k
  induction k with
  | zero => intro s h; cases h
  | succ k ih =>
    intro s h
    unfold few at h
    split at h
    · have := ih s h; omega
    · split at h
      · cases h; omega
      · rename_i s' hs'
        have := ih s' hs'
        split at h <;> (cases h; omega)
theorem m_isShort (σ : Store) (x : Int32) : Ct ΛM mt_Md_isShort 1 [.int x] σ (PB σ (∃ j, 1 ≤ j ∧ j ≤ 20 ∧ x = nI j)) := by
  refine Ct.of (by decide) (Nat.le_of_ble_eq_true rfl) (fun X hR => ?_)
  show G (ΛM, mt_Md_isShort, 1) X σ [some (.int x)] [] 0
  refine g_iload_n (by decide +kernel : decode prog_10_method_68_code 0 = .ok (.iload_n 0, 1)) rfl ?_
  refine g_i2l (by decide +kernel : decode prog_10_method_68_code 1 = .ok (.i2l, 1)) ?_
  refine g_lconst (v := lN 1) (by decide +kernel : decode prog_10_method_68_code 2 = .ok (.lconst 1, 1)) (by decide) ?_
  refine g_ldc2 (v := lN 20) (by decide +kernel : decode prog_10_method_68_code 3 = .ok (.ldc2_w 231, 3)) kc_Md_231 ?_
  refine g_callSI [.long (Int32.toInt64 x), .long (lN 1), .long (lN 20)] (by decide +kernel : decode prog_10_method_68_code 6 = .ok (.invokestatic 57, 3)) lk_Md_57 (m_isInN ΛM σ x 1 20) rfl rfl (Nat.le_of_ble_eq_true rfl) (Nat.le_of_ble_eq_true rfl) (fun r6 s6 h6 => ?_)
  obtain ⟨rfl, h6⟩ := h6
  exact g_zret hR (by decide +kernel : decode prog_10_method_68_code 9 = .ok (.ireturn, 1)) rfl (by rcases h6 with ⟨h, _⟩ | ⟨h, _⟩ <;> rw [h] <;> decide) ⟨_, rfl, ⟨rfl, h6⟩⟩
set_option maxRecDepth 20000 in
theorem m_hb_lp {X : CX} {σ : Store} {f b : Row} (hI : Inv f) {o : Nat} (ho : o < nn f) {n m : Nat} (hn : n < 2 ^ 31) (hm : m < 256) : ∀ (b9 k : Nat), k ≤ n → n - k < b9 → Rt (ΛM, mt_Md_isHiddenBy, 4) (PI (fun r σ' => σ' = mS (s_row σ 3 f) f (yB m f b n) ∧ ((r = nI 1 ∧ yN m f n (19 + 6 * o + 4) = nI 1) ∨ (r = nI 0 ∧ ¬ yN m f n (19 + 6 * o + 4) = nI 1)))) X → G (ΛM, mt_Md_isHiddenBy, 4) X (mS (s_row σ 3 f) (yN m f k) (yB m f b k)) [some (.ref 0), some (.int (nI o)), some (.int (nI n)), some (.int (nI m)), some (.int (nI k))] [] 14 := by
  have hn8 := hI.n.2
  intro b9
  induction b9 with
  | zero => intro k hk hb hR; omega
  | succ b9 ih =>
  intro k hk hb hR
  refine g_iload (by decide +kernel : decode prog_10_method_69_code 14 = .ok (.iload 4, 2)) rfl ?_
  refine g_iload_n (by decide +kernel : decode prog_10_method_69_code 16 = .ok (.iload_n 2, 1)) rfl ?_
  refine g_icmp_geN (tgt := 31) (by decide +kernel : decode prog_10_method_69_code 17 = .ok (.if_icmp .ge 14, 3)) (by decide) (by omega) (by omega) (fun h17 => ?_) (fun h17 => ?_)
  · have hkn : k = n := by omega
    refine g_aload_n (by decide +kernel : decode prog_10_method_69_code 31 = .ok (.aload_n 0, 1)) rfl ?_
    refine g_iload_n (by decide +kernel : decode prog_10_method_69_code 32 = .ok (.iload_n 1, 1)) rfl ?_
    refine g_iconst (v := nI 4) (by decide +kernel : decode prog_10_method_69_code 33 = .ok (.iconst 4, 1)) (by decide) ?_
    refine g_callVI [.int (nI o), .int (nI 4)] (by decide +kernel : decode prog_10_method_69_code 34 = .ok (.invokevirtual 169, 3)) lk_Md_169 (m_its (mS (s_row σ 3 f) (yN m f k) (yB m f b k)) o 4 (v := (yN m f k) (19 + 6 * o + 4)) rfl (by omega)) rfl rfl rfl rfl (Nat.le_of_ble_eq_true rfl) (Nat.le_of_ble_eq_true rfl) (fun r34 s34 h34 => ?_)
    obtain ⟨rfl, rfl⟩ := h34
    refine g_iconst (v := nI 1) (by decide +kernel : decode prog_10_method_69_code 37 = .ok (.iconst 1, 1)) (by decide) ?_
    refine g_icmp_ne (tgt := 45) (by decide +kernel : decode prog_10_method_69_code 38 = .ok (.if_icmp .ne 7, 3)) (by decide) (fun h38 => ?_) (fun h38 => ?_)
    · refine g_iconst (v := nI 0) (by decide +kernel : decode prog_10_method_69_code 45 = .ok (.iconst 0, 1)) (by decide) ?_
      refine g_istore (L' := [some (.ref 0), some (.int (nI o)), some (.int (nI n)), some (.int (nI m)), some (.int (nI 0))]) (by decide +kernel : decode prog_10_method_69_code 46 = .ok (.istore 4, 2)) (Nat.le_of_ble_eq_true rfl) rfl ?_
      refine g_aload_n (by decide +kernel : decode prog_10_method_69_code 48 = .ok (.aload_n 0, 1)) rfl ?_
      refine g_getR (by decide +kernel : decode prog_10_method_69_code 49 = .ok (.getfield 16, 3)) fl_Md_16 rfl rfl ?_
      refine g_aload_n (by decide +kernel : decode prog_10_method_69_code 52 = .ok (.aload_n 0, 1)) rfl ?_
      refine g_getR (by decide +kernel : decode prog_10_method_69_code 53 = .ok (.getfield 7, 3)) fl_Md_7 rfl rfl ?_
      refine g_callSV [.ref 3, .ref 1] (by decide +kernel : decode prog_10_method_69_code 56 = .ok (.invokestatic 141, 3)) lk_Md_141 (m_back σ f (yN m f k) (yB m f b k)) rfl rfl (Nat.le_of_ble_eq_true rfl) (Nat.le_of_ble_eq_true rfl) (fun s56 h56 => ?_)
      obtain rfl := h56
      refine g_iload (by decide +kernel : decode prog_10_method_69_code 59 = .ok (.iload 4, 2)) rfl ?_
      exact g_zret hR (by decide +kernel : decode prog_10_method_69_code 61 = .ok (.ireturn, 1)) rfl (by decide) ⟨_, rfl, ⟨by rw [hkn], Or.inr ⟨rfl, hkn ▸ h38⟩⟩⟩
    · refine g_iconst (v := nI 1) (by decide +kernel : decode prog_10_method_69_code 41 = .ok (.iconst 1, 1)) (by decide) ?_
      refine g_goto (tgt := 46) (by decide +kernel : decode prog_10_method_69_code 42 = .ok (.goto 4, 3)) (by decide) ?_
      refine g_istore (L' := [some (.ref 0), some (.int (nI o)), some (.int (nI n)), some (.int (nI m)), some (.int (nI 1))]) (by decide +kernel : decode prog_10_method_69_code 46 = .ok (.istore 4, 2)) (Nat.le_of_ble_eq_true rfl) rfl ?_
      refine g_aload_n (by decide +kernel : decode prog_10_method_69_code 48 = .ok (.aload_n 0, 1)) rfl ?_
      refine g_getR (by decide +kernel : decode prog_10_method_69_code 49 = .ok (.getfield 16, 3)) fl_Md_16 rfl rfl ?_
      refine g_aload_n (by decide +kernel : decode prog_10_method_69_code 52 = .ok (.aload_n 0, 1)) rfl ?_
      refine g_getR (by decide +kernel : decode prog_10_method_69_code 53 = .ok (.getfield 7, 3)) fl_Md_7 rfl rfl ?_
      refine g_callSV [.ref 3, .ref 1] (by decide +kernel : decode prog_10_method_69_code 56 = .ok (.invokestatic 141, 3)) lk_Md_141 (m_back σ f (yN m f k) (yB m f b k)) rfl rfl (Nat.le_of_ble_eq_true rfl) (Nat.le_of_ble_eq_true rfl) (fun s56 h56 => ?_)
      obtain rfl := h56
      refine g_iload (by decide +kernel : decode prog_10_method_69_code 59 = .ok (.iload 4, 2)) rfl ?_
      exact g_zret hR (by decide +kernel : decode prog_10_method_69_code 61 = .ok (.ireturn, 1)) rfl (by decide) ⟨_, rfl, ⟨by rw [hkn], Or.inl ⟨rfl, hkn ▸ h38⟩⟩⟩
  · refine g_aload_n (by decide +kernel : decode prog_10_method_69_code 20 = .ok (.aload_n 0, 1)) rfl ?_
    refine g_iload_n (by decide +kernel : decode prog_10_method_69_code 21 = .ok (.iload_n 3, 1)) rfl ?_
    refine g_callVV [.int (nI m)] (by decide +kernel : decode prog_10_method_69_code 22 = .ok (.invokevirtual 202, 3)) lk_Md_202 ((m_goesBy (s_row σ 3 f) (yN m f k) (yB m f b k) (yN_inv hI k).1 m (by omega))) rfl rfl rfl rfl (Nat.le_of_ble_eq_true rfl) (Nat.le_of_ble_eq_true rfl) (fun s22 h22 => ?_)
    obtain rfl := h22
    refine g_sto (σ' := mS (s_row σ 3 f) (yN m f (k + 1)) (yB m f b (k + 1))) (by rw [yr_1]; rfl) ?_
    refine g_iincN (n := 1) (L' := [some (.ref 0), some (.int (nI o)), some (.int (nI n)), some (.int (nI m)), some (.int (nI (k + 1)))]) (by decide +kernel : decode prog_10_method_69_code 25 = .ok (.iinc 4 1, 3)) rfl (by decide) (Nat.le_of_ble_eq_true rfl) rfl ?_
    refine g_goto (tgt := 14) (by decide +kernel : decode prog_10_method_69_code 28 = .ok (.goto (-14), 3)) (by decide) ?_
    exact ih (k + 1) (by omega) (by omega) hR
set_option maxRecDepth 20000 in
theorem m_isHiddenBy (σ : Store) (f b : Row) (hI : Inv f) (o : Nat) (ho : o < nn f) (n m : Nat) (hn : n < 2 ^ 31) (hm : m < 256) : Ct ΛM mt_Md_isHiddenBy 4 [.ref 0, .int (nI o), .int (nI n), .int (nI m)] (mS σ f b) (PI (fun r σ' => σ' = mS (s_row σ 3 f) f (yB m f b n) ∧ ((r = nI 1 ∧ yN m f n (19 + 6 * o + 4) = nI 1) ∨ (r = nI 0 ∧ ¬ yN m f n (19 + 6 * o + 4) = nI 1)))) := by
  refine Ct.of (by decide) (Nat.le_of_ble_eq_true rfl) (fun X hR => ?_)
  show G (ΛM, mt_Md_isHiddenBy, 4) X (mS σ f b) [some (.ref 0), some (.int (nI o)), some (.int (nI n)), some (.int (nI m)), none] [] 0
  refine g_aload_n (by decide +kernel : decode prog_10_method_69_code 0 = .ok (.aload_n 0, 1)) rfl ?_
  refine g_getR (by decide +kernel : decode prog_10_method_69_code 1 = .ok (.getfield 7, 3)) fl_Md_7 rfl rfl ?_
  refine g_aload_n (by decide +kernel : decode prog_10_method_69_code 4 = .ok (.aload_n 0, 1)) rfl ?_
  refine g_getR (by decide +kernel : decode prog_10_method_69_code 5 = .ok (.getfield 16, 3)) fl_Md_16 rfl rfl ?_
  refine g_callSV [.ref 1, .ref 3] (by decide +kernel : decode prog_10_method_69_code 8 = .ok (.invokestatic 141, 3)) lk_Md_141 (m_aside σ f b) rfl rfl (Nat.le_of_ble_eq_true rfl) (Nat.le_of_ble_eq_true rfl) (fun s8 h8 => ?_)
  obtain rfl := h8
  refine g_iconst (v := nI 0) (by decide +kernel : decode prog_10_method_69_code 11 = .ok (.iconst 0, 1)) (by decide) ?_
  refine g_istore (L' := [some (.ref 0), some (.int (nI o)), some (.int (nI n)), some (.int (nI m)), some (.int (nI 0))]) (by decide +kernel : decode prog_10_method_69_code 12 = .ok (.istore 4, 2)) (Nat.le_of_ble_eq_true rfl) rfl ?_
  exact m_hb_lp hI ho hn hm (n + 1) 0 (Nat.zero_le _) (by omega) hR
set_option maxRecDepth 20000 in
theorem p_safe_lp {X : CX} {σ : Store} {f : Row} (hI : Inv f) {o : Nat} (ho : o < nn f) : ∀ (b9 k : Nat), k ≤ 12 → 12 - k < b9 → ∀ (v : Int32), Rng v 11 → ∀ (a b : Row), Rt (ΛM, mt_Md_safeFor, 5) (mP σ (bl (nI 0, -1) (fun p => shw 255 o 61 (upd (upd f (19 + 6 * o + 4) (nI 1)) (19 + 6 * o + 3) (nI p))) 12).1 f) X → G (ΛM, mt_Md_safeFor, 5) X (mS (s_row σ 3 a) (upd (upd f (19 + 6 * o + 4) (nI 1)) (19 + 6 * o + 3) v) b) [some (.ref 0), some (.int (nI o)), some (.int (nI (19 + 6 * o))), some (.int (f (19 + 6 * o + 3))), some (.int (f (19 + 6 * o + 4))), some (.int ((bl (nI 0, -1) (fun p => shw 255 o 61 (upd (upd f (19 + 6 * o + 4) (nI 1)) (19 + 6 * o + 3) (nI p))) k).1)), some (.int ((bl (nI 0, -1) (fun p => shw 255 o 61 (upd (upd f (19 + 6 * o + 4) (nI 1)) (19 + 6 * o + 3) (nI p))) k).2)), some (.int (nI k)), none] [] 46 := by
  have hn8 := hI.n.2
  intro b9
  induction b9 with
  | zero => intro k hk hb v hv a b hR; omega
  | succ b9 ih =>
  intro k hk hb v hv a b hR
  have hI3 : ∀ k, k < 12 → Inv (upd (upd f (19 + 6 * o + 4) (nI 1)) (19 + 6 * o + 3) (nI k)) := fun k hk => (hI.up (by decide) (Rng.of (by decide))).up (by decide) (Rng.of (by show k ≤ 11; omega))
  refine g_iload (by decide +kernel : decode prog_10_method_66_code 46 = .ok (.iload 7, 2)) rfl ?_
  refine g_bipush (v := nI 12) (by decide +kernel : decode prog_10_method_66_code 48 = .ok (.bipush 12, 2)) (by decide) ?_
  refine g_icmp_geN (tgt := 111) (by decide +kernel : decode prog_10_method_66_code 50 = .ok (.if_icmp .ge 61, 3)) (by decide) (by omega) (by decide) (fun h50 => ?_) (fun h50 => ?_)
  · refine g_aload_n (by decide +kernel : decode prog_10_method_66_code 111 = .ok (.aload_n 0, 1)) rfl ?_
    refine g_getR (by decide +kernel : decode prog_10_method_66_code 112 = .ok (.getfield 7, 3)) fl_Md_7 rfl rfl ?_
    refine g_iload_n (by decide +kernel : decode prog_10_method_66_code 115 = .ok (.iload_n 2, 1)) rfl ?_
    refine g_iconst (v := nI 3) (by decide +kernel : decode prog_10_method_66_code 116 = .ok (.iconst 3, 1)) (by decide) ?_
    refine g_iaddN (by decide +kernel : decode prog_10_method_66_code 117 = .ok (.iadd, 1)) ?_
    refine g_iload_n (by decide +kernel : decode prog_10_method_66_code 118 = .ok (.iload_n 3, 1)) rfl ?_
    refine g_iastore (a := 19 + 6 * o + 3) (by decide +kernel : decode prog_10_method_66_code 119 = .ok (.iastore, 1)) rfl rfl (by omega) (by decide) ?_
    refine g_sto (mS_u1 _ _ _ _ _) ?_
    refine g_aload_n (by decide +kernel : decode prog_10_method_66_code 120 = .ok (.aload_n 0, 1)) rfl ?_
    refine g_getR (by decide +kernel : decode prog_10_method_66_code 121 = .ok (.getfield 7, 3)) fl_Md_7 rfl rfl ?_
    refine g_iload_n (by decide +kernel : decode prog_10_method_66_code 124 = .ok (.iload_n 2, 1)) rfl ?_
    refine g_iconst (v := nI 4) (by decide +kernel : decode prog_10_method_66_code 125 = .ok (.iconst 4, 1)) (by decide) ?_
    refine g_iaddN (by decide +kernel : decode prog_10_method_66_code 126 = .ok (.iadd, 1)) ?_
    refine g_iload (by decide +kernel : decode prog_10_method_66_code 127 = .ok (.iload 4, 2)) rfl ?_
    refine g_iastore (a := 19 + 6 * o + 4) (by decide +kernel : decode prog_10_method_66_code 129 = .ok (.iastore, 1)) rfl rfl (by omega) (by decide) ?_
    refine g_sto (mS_u1 _ _ _ _ _) ?_
    refine g_sto (σ' := mS (s_row σ 3 a) f b) (by rw [upd_rest (by omega)]) ?_
    refine g_iload (by decide +kernel : decode prog_10_method_66_code 130 = .ok (.iload 5, 2)) rfl ?_
    exact g_iret hR (by decide +kernel : decode prog_10_method_66_code 132 = .ok (.ireturn, 1)) rfl ⟨_, rfl, ⟨by rw [show k = 12 by omega], ⟨_, _, rfl⟩⟩⟩
  · refine g_aload_n (by decide +kernel : decode prog_10_method_66_code 53 = .ok (.aload_n 0, 1)) rfl ?_
    refine g_getR (by decide +kernel : decode prog_10_method_66_code 54 = .ok (.getfield 7, 3)) fl_Md_7 rfl rfl ?_
    refine g_iload_n (by decide +kernel : decode prog_10_method_66_code 57 = .ok (.iload_n 2, 1)) rfl ?_
    refine g_iconst (v := nI 3) (by decide +kernel : decode prog_10_method_66_code 58 = .ok (.iconst 3, 1)) (by decide) ?_
    refine g_iaddN (by decide +kernel : decode prog_10_method_66_code 59 = .ok (.iadd, 1)) ?_
    refine g_iload (by decide +kernel : decode prog_10_method_66_code 60 = .ok (.iload 7, 2)) rfl ?_
    refine g_iastore (a := 19 + 6 * o + 3) (by decide +kernel : decode prog_10_method_66_code 62 = .ok (.iastore, 1)) rfl rfl (by omega) (by decide) ?_
    refine g_sto (mS_u1 _ _ _ _ _) ?_
    refine g_sto (σ' := mS (s_row σ 3 a) (upd (upd f (19 + 6 * o + 4) (nI 1)) (19 + 6 * o + 3) (nI k)) b) (by rw [upd_upd]) ?_
    refine g_aload_n (by decide +kernel : decode prog_10_method_66_code 63 = .ok (.aload_n 0, 1)) rfl ?_
    refine g_iload_n (by decide +kernel : decode prog_10_method_66_code 64 = .ok (.iload_n 1, 1)) rfl ?_
    refine g_sipush (v := nI 255) (by decide +kernel : decode prog_10_method_66_code 65 = .ok (.sipush 255, 3)) (by decide) ?_
    refine g_callVI [.int (nI o), .int (nI 255)] (by decide +kernel : decode prog_10_method_66_code 68 = .ok (.invokevirtual 228, 3)) lk_Md_228 (m_shownBy (s_row σ 3 a) (upd (upd f (19 + 6 * o + 4) (nI 1)) (19 + 6 * o + 3) (nI k)) b (hI3 k (by omega)) o (by rw [nn_up (by omega), nn_up (by omega)]; exact ho) 255 (by omega)) rfl rfl rfl rfl (Nat.le_of_ble_eq_true rfl) (Nat.le_of_ble_eq_true rfl) (fun r68 s68 h68 => ?_)
    obtain ⟨rfl, rfl⟩ := h68
    refine g_sto (σ' := mS (s_row σ 3 (upd (upd f (19 + 6 * o + 4) (nI 1)) (19 + 6 * o + 3) (nI k))) (upd (upd f (19 + 6 * o + 4) (nI 1)) (19 + 6 * o + 3) (nI k)) (yB 255 (upd (upd f (19 + 6 * o + 4) (nI 1)) (19 + 6 * o + 3) (nI k)) b (shw 255 o 61 (upd (upd f (19 + 6 * o + 4) (nI 1)) (19 + 6 * o + 3) (nI k))))) (by rw [s_row_row]) ?_
    refine g_istore (L' := [some (.ref 0), some (.int (nI o)), some (.int (nI (19 + 6 * o))), some (.int (f (19 + 6 * o + 3))), some (.int (f (19 + 6 * o + 4))), some (.int ((bl (nI 0, -1) (fun p => shw 255 o 61 (upd (upd f (19 + 6 * o + 4) (nI 1)) (19 + 6 * o + 3) (nI p))) k).1)), some (.int ((bl (nI 0, -1) (fun p => shw 255 o 61 (upd (upd f (19 + 6 * o + 4) (nI 1)) (19 + 6 * o + 3) (nI p))) k).2)), some (.int (nI k)), some (.int (nI (shw 255 o 61 (upd (upd f (19 + 6 * o + 4) (nI 1)) (19 + 6 * o + 3) (nI k)))))]) (by decide +kernel : decode prog_10_method_66_code 71 = .ok (.istore 8, 2)) (Nat.le_of_ble_eq_true rfl) rfl ?_
    refine g_iload (by decide +kernel : decode prog_10_method_66_code 73 = .ok (.iload 8, 2)) rfl ?_
    refine g_iload (by decide +kernel : decode prog_10_method_66_code 75 = .ok (.iload 6, 2)) rfl ?_
    have J77 : G (ΛM, mt_Md_safeFor, 5) X (mS (s_row σ 3 (upd (upd f (19 + 6 * o + 4) (nI 1)) (19 + 6 * o + 3) (nI k))) (upd (upd f (19 + 6 * o + 4) (nI 1)) (19 + 6 * o + 3) (nI k)) (yB 255 (upd (upd f (19 + 6 * o + 4) (nI 1)) (19 + 6 * o + 3) (nI k)) b (shw 255 o 61 (upd (upd f (19 + 6 * o + 4) (nI 1)) (19 + 6 * o + 3) (nI k))))) [some (.ref 0), some (.int (nI o)), some (.int (nI (19 + 6 * o))), some (.int (f (19 + 6 * o + 3))), some (.int (f (19 + 6 * o + 4))), some (.int ((bl (nI 0, -1) (fun p => shw 255 o 61 (upd (upd f (19 + 6 * o + 4) (nI 1)) (19 + 6 * o + 3) (nI p))) k).1)), some (.int ((bl (nI 0, -1) (fun p => shw 255 o 61 (upd (upd f (19 + 6 * o + 4) (nI 1)) (19 + 6 * o + 3) (nI p))) k).2)), some (.int (nI k)), some (.int (nI (shw 255 o 61 (upd (upd f (19 + 6 * o + 4) (nI 1)) (19 + 6 * o + 3) (nI k)))))] [.int ((bl (nI 0, -1) (fun p => shw 255 o 61 (upd (upd f (19 + 6 * o + 4) (nI 1)) (19 + 6 * o + 3) (nI p))) (k + 1)).1)] 87 := by
      refine g_istore (L' := [some (.ref 0), some (.int (nI o)), some (.int (nI (19 + 6 * o))), some (.int (f (19 + 6 * o + 3))), some (.int (f (19 + 6 * o + 4))), some (.int ((bl (nI 0, -1) (fun p => shw 255 o 61 (upd (upd f (19 + 6 * o + 4) (nI 1)) (19 + 6 * o + 3) (nI p))) (k + 1)).1)), some (.int ((bl (nI 0, -1) (fun p => shw 255 o 61 (upd (upd f (19 + 6 * o + 4) (nI 1)) (19 + 6 * o + 3) (nI p))) k).2)), some (.int (nI k)), some (.int (nI (shw 255 o 61 (upd (upd f (19 + 6 * o + 4) (nI 1)) (19 + 6 * o + 3) (nI k)))))]) (by decide +kernel : decode prog_10_method_66_code 87 = .ok (.istore 5, 2)) (Nat.le_of_ble_eq_true rfl) rfl ?_
      refine g_iload (by decide +kernel : decode prog_10_method_66_code 89 = .ok (.iload 8, 2)) rfl ?_
      refine g_iload (by decide +kernel : decode prog_10_method_66_code 91 = .ok (.iload 6, 2)) rfl ?_
      have J93 : G (ΛM, mt_Md_safeFor, 5) X (mS (s_row σ 3 (upd (upd f (19 + 6 * o + 4) (nI 1)) (19 + 6 * o + 3) (nI k))) (upd (upd f (19 + 6 * o + 4) (nI 1)) (19 + 6 * o + 3) (nI k)) (yB 255 (upd (upd f (19 + 6 * o + 4) (nI 1)) (19 + 6 * o + 3) (nI k)) b (shw 255 o 61 (upd (upd f (19 + 6 * o + 4) (nI 1)) (19 + 6 * o + 3) (nI k))))) [some (.ref 0), some (.int (nI o)), some (.int (nI (19 + 6 * o))), some (.int (f (19 + 6 * o + 3))), some (.int (f (19 + 6 * o + 4))), some (.int ((bl (nI 0, -1) (fun p => shw 255 o 61 (upd (upd f (19 + 6 * o + 4) (nI 1)) (19 + 6 * o + 3) (nI p))) (k + 1)).1)), some (.int ((bl (nI 0, -1) (fun p => shw 255 o 61 (upd (upd f (19 + 6 * o + 4) (nI 1)) (19 + 6 * o + 3) (nI p))) k).2)), some (.int (nI k)), some (.int (nI (shw 255 o 61 (upd (upd f (19 + 6 * o + 4) (nI 1)) (19 + 6 * o + 3) (nI k)))))] [.int ((bl (nI 0, -1) (fun p => shw 255 o 61 (upd (upd f (19 + 6 * o + 4) (nI 1)) (19 + 6 * o + 3) (nI p))) (k + 1)).2)] 103 := by
        refine g_istore (L' := [some (.ref 0), some (.int (nI o)), some (.int (nI (19 + 6 * o))), some (.int (f (19 + 6 * o + 3))), some (.int (f (19 + 6 * o + 4))), some (.int ((bl (nI 0, -1) (fun p => shw 255 o 61 (upd (upd f (19 + 6 * o + 4) (nI 1)) (19 + 6 * o + 3) (nI p))) (k + 1)).1)), some (.int ((bl (nI 0, -1) (fun p => shw 255 o 61 (upd (upd f (19 + 6 * o + 4) (nI 1)) (19 + 6 * o + 3) (nI p))) (k + 1)).2)), some (.int (nI k)), some (.int (nI (shw 255 o 61 (upd (upd f (19 + 6 * o + 4) (nI 1)) (19 + 6 * o + 3) (nI k)))))]) (by decide +kernel : decode prog_10_method_66_code 103 = .ok (.istore 6, 2)) (Nat.le_of_ble_eq_true rfl) rfl ?_
        refine g_iincN (n := 1) (L' := [some (.ref 0), some (.int (nI o)), some (.int (nI (19 + 6 * o))), some (.int (f (19 + 6 * o + 3))), some (.int (f (19 + 6 * o + 4))), some (.int ((bl (nI 0, -1) (fun p => shw 255 o 61 (upd (upd f (19 + 6 * o + 4) (nI 1)) (19 + 6 * o + 3) (nI p))) (k + 1)).1)), some (.int ((bl (nI 0, -1) (fun p => shw 255 o 61 (upd (upd f (19 + 6 * o + 4) (nI 1)) (19 + 6 * o + 3) (nI p))) (k + 1)).2)), some (.int (nI (k + 1))), some (.int (nI (shw 255 o 61 (upd (upd f (19 + 6 * o + 4) (nI 1)) (19 + 6 * o + 3) (nI k)))))]) (by decide +kernel : decode prog_10_method_66_code 105 = .ok (.iinc 7 1, 3)) rfl (by decide) (Nat.le_of_ble_eq_true rfl) rfl ?_
        refine g_goto (tgt := 46) (by decide +kernel : decode prog_10_method_66_code 108 = .ok (.goto (-62), 3)) (by decide) ?_
        refine g_sub (L' := [some (.ref 0), some (.int (nI o)), some (.int (nI (19 + 6 * o))), some (.int (f (19 + 6 * o + 3))), some (.int (f (19 + 6 * o + 4))), some (.int ((bl (nI 0, -1) (fun p => shw 255 o 61 (upd (upd f (19 + 6 * o + 4) (nI 1)) (19 + 6 * o + 3) (nI p))) (k + 1)).1)), some (.int ((bl (nI 0, -1) (fun p => shw 255 o 61 (upd (upd f (19 + 6 * o + 4) (nI 1)) (19 + 6 * o + 3) (nI p))) (k + 1)).2)), some (.int (nI (k + 1))), none]) ⟨rfl, rfl, rfl, rfl, rfl, rfl, rfl, rfl, trivial⟩ ?_
        exact ih (k + 1) (by omega) (by omega) _ (Rng.of (by show k ≤ 11; omega)) _ _ hR
      refine g_icmp_le (tgt := 101) (by decide +kernel : decode prog_10_method_66_code 93 = .ok (.if_icmp .le 8, 3)) (by decide) (fun h93 => ?_) (fun h93 => ?_)
      · refine g_iload (by decide +kernel : decode prog_10_method_66_code 101 = .ok (.iload 6, 2)) rfl ?_
        exact g_top (by rw [bl_2]; exact (if_neg (Int32.not_lt.mpr h93)).symm) J93
      · refine g_iload (by decide +kernel : decode prog_10_method_66_code 96 = .ok (.iload 8, 2)) rfl ?_
        refine g_goto (tgt := 103) (by decide +kernel : decode prog_10_method_66_code 98 = .ok (.goto 5, 3)) (by decide) ?_
        exact g_top (by rw [bl_2]; exact (if_pos (Int32.not_le.mp h93)).symm) J93
    refine g_icmp_le (tgt := 85) (by decide +kernel : decode prog_10_method_66_code 77 = .ok (.if_icmp .le 8, 3)) (by decide) (fun h77 => ?_) (fun h77 => ?_)
    · refine g_iload (by decide +kernel : decode prog_10_method_66_code 85 = .ok (.iload 5, 2)) rfl ?_
      exact g_top (by rw [bl_1]; exact (if_neg (Int32.not_lt.mpr h77)).symm) J77
    · refine g_iload (by decide +kernel : decode prog_10_method_66_code 80 = .ok (.iload 7, 2)) rfl ?_
      refine g_goto (tgt := 87) (by decide +kernel : decode prog_10_method_66_code 82 = .ok (.goto 5, 3)) (by decide) ?_
      exact g_top (by rw [bl_1]; exact (if_pos (Int32.not_le.mp h77)).symm) J77
set_option maxRecDepth 20000 in
theorem p_safeFor (σ : Store) (f b : Row) (hI : Inv f) (x : Int32) : Ct ΛM mt_Md_safeFor 5 [.ref 0, .int x] (mS σ f b) (mP σ (safeV f x) f) := by
  refine Ct.of (by decide) (Nat.le_of_ble_eq_true rfl) (fun X hR => ?_)
  show G (ΛM, mt_Md_safeFor, 5) X (mS σ f b) [some (.ref 0), some (.int x), none, none, none, none, none, none, none] [] 0
  have hn8 := hI.n.2
  refine g_aload_n (by decide +kernel : decode prog_10_method_66_code 0 = .ok (.aload_n 0, 1)) rfl ?_
  refine g_iload_n (by decide +kernel : decode prog_10_method_66_code 1 = .ok (.iload_n 1, 1)) rfl ?_
  refine g_callVI [.int x] (by decide +kernel : decode prog_10_method_66_code 2 = .ok (.invokevirtual 172, 3)) lk_Md_172 (m_isOne (mS σ f b) x hI.n.1 (by omega)) rfl rfl rfl rfl (Nat.le_of_ble_eq_true rfl) (Nat.le_of_ble_eq_true rfl) (fun r2 s2 h2 => ?_)
  rcases h2 with ⟨rfl, ⟨rfl, o, ho2, rfl⟩ | ⟨rfl, n2⟩⟩
  · refine g_if_neN (tgt := 10) (by decide +kernel : decode prog_10_method_66_code 5 = .ok (.ifCond .ne 5, 3)) (by decide) (by decide) (fun _ => ?_) (fun h => False.elim (by revert h; decide))
    refine g_bipush (v := nI 19) (by decide +kernel : decode prog_10_method_66_code 10 = .ok (.bipush 19, 2)) (by decide) ?_
    refine g_bipush (v := nI 6) (by decide +kernel : decode prog_10_method_66_code 12 = .ok (.bipush 6, 2)) (by decide) ?_
    refine g_iload_n (by decide +kernel : decode prog_10_method_66_code 14 = .ok (.iload_n 1, 1)) rfl ?_
    refine g_imulN (by decide +kernel : decode prog_10_method_66_code 15 = .ok (.imul, 1)) ?_
    refine g_iaddN (by decide +kernel : decode prog_10_method_66_code 16 = .ok (.iadd, 1)) ?_
    refine g_istore_n (L' := [some (.ref 0), some (.int (nI o)), some (.int (nI (19 + 6 * o))), none, none, none, none, none, none]) (by decide +kernel : decode prog_10_method_66_code 17 = .ok (.istore_n 2, 1)) (Nat.le_of_ble_eq_true rfl) rfl ?_
    refine g_aload_n (by decide +kernel : decode prog_10_method_66_code 18 = .ok (.aload_n 0, 1)) rfl ?_
    refine g_getR (by decide +kernel : decode prog_10_method_66_code 19 = .ok (.getfield 7, 3)) fl_Md_7 rfl rfl ?_
    refine g_iload_n (by decide +kernel : decode prog_10_method_66_code 22 = .ok (.iload_n 2, 1)) rfl ?_
    refine g_iconst (v := nI 3) (by decide +kernel : decode prog_10_method_66_code 23 = .ok (.iconst 3, 1)) (by decide) ?_
    refine g_iaddN (by decide +kernel : decode prog_10_method_66_code 24 = .ok (.iadd, 1)) ?_
    refine g_iaload (a := 19 + 6 * o + 3) (by decide +kernel : decode prog_10_method_66_code 25 = .ok (.iaload, 1)) rfl rfl (by omega) (by decide) ?_
    refine g_top (w := f (19 + 6 * o + 3)) (rfl) ?_
    refine g_istore_n (L' := [some (.ref 0), some (.int (nI o)), some (.int (nI (19 + 6 * o))), some (.int (f (19 + 6 * o + 3))), none, none, none, none, none]) (by decide +kernel : decode prog_10_method_66_code 26 = .ok (.istore_n 3, 1)) (Nat.le_of_ble_eq_true rfl) rfl ?_
    refine g_aload_n (by decide +kernel : decode prog_10_method_66_code 27 = .ok (.aload_n 0, 1)) rfl ?_
    refine g_iload_n (by decide +kernel : decode prog_10_method_66_code 28 = .ok (.iload_n 2, 1)) rfl ?_
    refine g_iconst (v := nI 4) (by decide +kernel : decode prog_10_method_66_code 29 = .ok (.iconst 4, 1)) (by decide) ?_
    refine g_iaddN (by decide +kernel : decode prog_10_method_66_code 30 = .ok (.iadd, 1)) ?_
    refine g_iconst (v := nI 1) (by decide +kernel : decode prog_10_method_66_code 31 = .ok (.iconst 1, 1)) (by decide) ?_
    refine g_callVI [.int (nI (19 + 6 * o + 4)), .int (nI 1)] (by decide +kernel : decode prog_10_method_66_code 32 = .ok (.invokevirtual 156, 3)) lk_Md_156 (m_becomes (mS σ f b) (19 + 6 * o + 4) (nI 1) (v := f (19 + 6 * o + 4)) rfl (by omega)) rfl rfl rfl rfl (Nat.le_of_ble_eq_true rfl) (Nat.le_of_ble_eq_true rfl) (fun r32 s32 h32 => ?_)
    obtain ⟨rfl, rfl⟩ := h32
    refine g_sto (mS_u1 _ _ _ _ _) ?_
    refine g_istore (L' := [some (.ref 0), some (.int (nI o)), some (.int (nI (19 + 6 * o))), some (.int (f (19 + 6 * o + 3))), some (.int (f (19 + 6 * o + 4))), none, none, none, none]) (by decide +kernel : decode prog_10_method_66_code 35 = .ok (.istore 4, 2)) (Nat.le_of_ble_eq_true rfl) rfl ?_
    refine g_iconst (v := nI 0) (by decide +kernel : decode prog_10_method_66_code 37 = .ok (.iconst 0, 1)) (by decide) ?_
    refine g_istore (L' := [some (.ref 0), some (.int (nI o)), some (.int (nI (19 + 6 * o))), some (.int (f (19 + 6 * o + 3))), some (.int (f (19 + 6 * o + 4))), some (.int (nI 0)), none, none, none]) (by decide +kernel : decode prog_10_method_66_code 38 = .ok (.istore 5, 2)) (Nat.le_of_ble_eq_true rfl) rfl ?_
    refine g_iconst (v := (-1)) (by decide +kernel : decode prog_10_method_66_code 40 = .ok (.iconst (-1), 1)) (by decide) ?_
    refine g_istore (L' := [some (.ref 0), some (.int (nI o)), some (.int (nI (19 + 6 * o))), some (.int (f (19 + 6 * o + 3))), some (.int (f (19 + 6 * o + 4))), some (.int (nI 0)), some (.int (-1)), none, none]) (by decide +kernel : decode prog_10_method_66_code 41 = .ok (.istore 6, 2)) (Nat.le_of_ble_eq_true rfl) rfl ?_
    refine g_iconst (v := nI 0) (by decide +kernel : decode prog_10_method_66_code 43 = .ok (.iconst 0, 1)) (by decide) ?_
    refine g_istore (L' := [some (.ref 0), some (.int (nI o)), some (.int (nI (19 + 6 * o))), some (.int (f (19 + 6 * o + 3))), some (.int (f (19 + 6 * o + 4))), some (.int (nI 0)), some (.int (-1)), some (.int (nI 0)), none]) (by decide +kernel : decode prog_10_method_66_code 44 = .ok (.istore 7, 2)) (Nat.le_of_ble_eq_true rfl) rfl ?_
    refine g_sto (σ' := mS (s_row σ 3 (σ 3)) (upd (upd f (19 + 6 * o + 4) (nI 1)) (19 + 6 * o + 3) ((upd f (19 + 6 * o + 4) (nI 1)) (19 + 6 * o + 3))) b) (by rw [s_row_self, upd_self]) ?_
    exact p_safe_lp hI ho2 13 0 (by omega) (by omega) _ (by rw [upd_n (by omega)]; exact hI.2.1 o ho2 3 (by decide)) _ _ (by simpa only [safeV, pz_of hI ho2] using hR)
  · refine g_if_neN (tgt := 10) (by decide +kernel : decode prog_10_method_66_code 5 = .ok (.ifCond .ne 5, 3)) (by decide) (by decide) (fun h => False.elim (by revert h; decide)) (fun _ => ?_)
    refine g_iconst (v := (-1)) (by decide +kernel : decode prog_10_method_66_code 8 = .ok (.iconst (-1), 1)) (by decide) ?_
    exact g_iret hR (by decide +kernel : decode prog_10_method_66_code 9 = .ok (.ireturn, 1)) rfl ⟨_, rfl, ⟨by simp only [safeV, pz_none hI n2], Jk.self _ _ _⟩⟩
set_option maxRecDepth 20000 in
theorem p_kind_lp {X : CX} {σ : Store} {f : Row} (hI : Inv f) {o : Nat} (ho : o < nn f) : ∀ (b9 k : Nat), k ≤ 6 → 6 - k < b9 → ∀ (v : Int32), Rng v 5 → ∀ (a b : Row), Rt (ΛM, mt_Md_kindFor, 5) (mP σ (bl (nI 0, -1) (fun p => shw 255 o 61 (upd f (19 + 6 * o + 0) (nI p))) 6).1 f) X → G (ΛM, mt_Md_kindFor, 5) X (mS (s_row σ 3 a) (upd f (19 + 6 * o + 0) v) b) [some (.ref 0), some (.int (nI o)), some (.int (nI (19 + 6 * o))), some (.int (f (19 + 6 * o))), some (.int ((bl (nI 0, -1) (fun p => shw 255 o 61 (upd f (19 + 6 * o + 0) (nI p))) k).1)), some (.int ((bl (nI 0, -1) (fun p => shw 255 o 61 (upd f (19 + 6 * o + 0) (nI p))) k).2)), some (.int (nI k)), none] [] 34 := by
  have hn8 := hI.n.2
  intro b9
  induction b9 with
  | zero => intro k hk hb v hv a b hR; omega
  | succ b9 ih =>
  intro k hk hb v hv a b hR
  refine g_iload (by decide +kernel : decode prog_10_method_67_code 34 = .ok (.iload 6, 2)) rfl ?_
  refine g_iconst (v := nI 5) (by decide +kernel : decode prog_10_method_67_code 36 = .ok (.iconst 5, 1)) (by decide) ?_
  refine g_icmp_gtN (tgt := 96) (by decide +kernel : decode prog_10_method_67_code 37 = .ok (.if_icmp .gt 59, 3)) (by decide) (by omega) (by decide) (fun h37 => ?_) (fun h37 => ?_)
  · refine g_aload_n (by decide +kernel : decode prog_10_method_67_code 96 = .ok (.aload_n 0, 1)) rfl ?_
    refine g_getR (by decide +kernel : decode prog_10_method_67_code 97 = .ok (.getfield 7, 3)) fl_Md_7 rfl rfl ?_
    refine g_iload_n (by decide +kernel : decode prog_10_method_67_code 100 = .ok (.iload_n 2, 1)) rfl ?_
    refine g_iload_n (by decide +kernel : decode prog_10_method_67_code 101 = .ok (.iload_n 3, 1)) rfl ?_
    refine g_iastore (a := 19 + 6 * o) (by decide +kernel : decode prog_10_method_67_code 102 = .ok (.iastore, 1)) rfl rfl (by omega) (by decide) ?_
    refine g_sto (mS_u1 _ _ _ _ _) ?_
    refine g_sto (σ' := mS (s_row σ 3 a) f b) (by rw [Nat.add_zero, upd_upd, upd_self]) ?_
    refine g_iload (by decide +kernel : decode prog_10_method_67_code 103 = .ok (.iload 4, 2)) rfl ?_
    exact g_iret hR (by decide +kernel : decode prog_10_method_67_code 105 = .ok (.ireturn, 1)) rfl ⟨_, rfl, ⟨by rw [show k = 6 by omega], ⟨_, _, rfl⟩⟩⟩
  · refine g_aload_n (by decide +kernel : decode prog_10_method_67_code 40 = .ok (.aload_n 0, 1)) rfl ?_
    refine g_getR (by decide +kernel : decode prog_10_method_67_code 41 = .ok (.getfield 7, 3)) fl_Md_7 rfl rfl ?_
    refine g_iload_n (by decide +kernel : decode prog_10_method_67_code 44 = .ok (.iload_n 2, 1)) rfl ?_
    refine g_iload (by decide +kernel : decode prog_10_method_67_code 45 = .ok (.iload 6, 2)) rfl ?_
    refine g_iastore (a := 19 + 6 * o) (by decide +kernel : decode prog_10_method_67_code 47 = .ok (.iastore, 1)) rfl rfl (by omega) (by decide) ?_
    refine g_sto (mS_u1 _ _ _ _ _) ?_
    refine g_sto (σ' := mS (s_row σ 3 a) (upd f (19 + 6 * o + 0) (nI k)) b) (by rw [Nat.add_zero, upd_upd]) ?_
    refine g_aload_n (by decide +kernel : decode prog_10_method_67_code 48 = .ok (.aload_n 0, 1)) rfl ?_
    refine g_iload_n (by decide +kernel : decode prog_10_method_67_code 49 = .ok (.iload_n 1, 1)) rfl ?_
    refine g_sipush (v := nI 255) (by decide +kernel : decode prog_10_method_67_code 50 = .ok (.sipush 255, 3)) (by decide) ?_
    refine g_callVI [.int (nI o), .int (nI 255)] (by decide +kernel : decode prog_10_method_67_code 53 = .ok (.invokevirtual 228, 3)) lk_Md_228 (m_shownBy (s_row σ 3 a) (upd f (19 + 6 * o + 0) (nI k)) b (hI.up (by decide) (Rng.of (by show k ≤ 5; omega))) o (by rw [nn_up (by omega)]; exact ho) 255 (by omega)) rfl rfl rfl rfl (Nat.le_of_ble_eq_true rfl) (Nat.le_of_ble_eq_true rfl) (fun r53 s53 h53 => ?_)
    obtain ⟨rfl, rfl⟩ := h53
    refine g_sto (σ' := mS (s_row σ 3 (upd f (19 + 6 * o + 0) (nI k))) (upd f (19 + 6 * o + 0) (nI k)) (yB 255 (upd f (19 + 6 * o + 0) (nI k)) b (shw 255 o 61 (upd f (19 + 6 * o + 0) (nI k))))) (by rw [s_row_row]) ?_
    refine g_istore (L' := [some (.ref 0), some (.int (nI o)), some (.int (nI (19 + 6 * o))), some (.int (f (19 + 6 * o))), some (.int ((bl (nI 0, -1) (fun p => shw 255 o 61 (upd f (19 + 6 * o + 0) (nI p))) k).1)), some (.int ((bl (nI 0, -1) (fun p => shw 255 o 61 (upd f (19 + 6 * o + 0) (nI p))) k).2)), some (.int (nI k)), some (.int (nI (shw 255 o 61 (upd f (19 + 6 * o + 0) (nI k)))))]) (by decide +kernel : decode prog_10_method_67_code 56 = .ok (.istore 7, 2)) (Nat.le_of_ble_eq_true rfl) rfl ?_
    refine g_iload (by decide +kernel : decode prog_10_method_67_code 58 = .ok (.iload 7, 2)) rfl ?_
    refine g_iload (by decide +kernel : decode prog_10_method_67_code 60 = .ok (.iload 5, 2)) rfl ?_
    have J62 : G (ΛM, mt_Md_kindFor, 5) X (mS (s_row σ 3 (upd f (19 + 6 * o + 0) (nI k))) (upd f (19 + 6 * o + 0) (nI k)) (yB 255 (upd f (19 + 6 * o + 0) (nI k)) b (shw 255 o 61 (upd f (19 + 6 * o + 0) (nI k))))) [some (.ref 0), some (.int (nI o)), some (.int (nI (19 + 6 * o))), some (.int (f (19 + 6 * o))), some (.int ((bl (nI 0, -1) (fun p => shw 255 o 61 (upd f (19 + 6 * o + 0) (nI p))) k).1)), some (.int ((bl (nI 0, -1) (fun p => shw 255 o 61 (upd f (19 + 6 * o + 0) (nI p))) k).2)), some (.int (nI k)), some (.int (nI (shw 255 o 61 (upd f (19 + 6 * o + 0) (nI k)))))] [.int ((bl (nI 0, -1) (fun p => shw 255 o 61 (upd f (19 + 6 * o + 0) (nI p))) (k + 1)).1)] 72 := by
      refine g_istore (L' := [some (.ref 0), some (.int (nI o)), some (.int (nI (19 + 6 * o))), some (.int (f (19 + 6 * o))), some (.int ((bl (nI 0, -1) (fun p => shw 255 o 61 (upd f (19 + 6 * o + 0) (nI p))) (k + 1)).1)), some (.int ((bl (nI 0, -1) (fun p => shw 255 o 61 (upd f (19 + 6 * o + 0) (nI p))) k).2)), some (.int (nI k)), some (.int (nI (shw 255 o 61 (upd f (19 + 6 * o + 0) (nI k)))))]) (by decide +kernel : decode prog_10_method_67_code 72 = .ok (.istore 4, 2)) (Nat.le_of_ble_eq_true rfl) rfl ?_
      refine g_iload (by decide +kernel : decode prog_10_method_67_code 74 = .ok (.iload 7, 2)) rfl ?_
      refine g_iload (by decide +kernel : decode prog_10_method_67_code 76 = .ok (.iload 5, 2)) rfl ?_
      have J78 : G (ΛM, mt_Md_kindFor, 5) X (mS (s_row σ 3 (upd f (19 + 6 * o + 0) (nI k))) (upd f (19 + 6 * o + 0) (nI k)) (yB 255 (upd f (19 + 6 * o + 0) (nI k)) b (shw 255 o 61 (upd f (19 + 6 * o + 0) (nI k))))) [some (.ref 0), some (.int (nI o)), some (.int (nI (19 + 6 * o))), some (.int (f (19 + 6 * o))), some (.int ((bl (nI 0, -1) (fun p => shw 255 o 61 (upd f (19 + 6 * o + 0) (nI p))) (k + 1)).1)), some (.int ((bl (nI 0, -1) (fun p => shw 255 o 61 (upd f (19 + 6 * o + 0) (nI p))) k).2)), some (.int (nI k)), some (.int (nI (shw 255 o 61 (upd f (19 + 6 * o + 0) (nI k)))))] [.int ((bl (nI 0, -1) (fun p => shw 255 o 61 (upd f (19 + 6 * o + 0) (nI p))) (k + 1)).2)] 88 := by
        refine g_istore (L' := [some (.ref 0), some (.int (nI o)), some (.int (nI (19 + 6 * o))), some (.int (f (19 + 6 * o))), some (.int ((bl (nI 0, -1) (fun p => shw 255 o 61 (upd f (19 + 6 * o + 0) (nI p))) (k + 1)).1)), some (.int ((bl (nI 0, -1) (fun p => shw 255 o 61 (upd f (19 + 6 * o + 0) (nI p))) (k + 1)).2)), some (.int (nI k)), some (.int (nI (shw 255 o 61 (upd f (19 + 6 * o + 0) (nI k)))))]) (by decide +kernel : decode prog_10_method_67_code 88 = .ok (.istore 5, 2)) (Nat.le_of_ble_eq_true rfl) rfl ?_
        refine g_iincN (n := 1) (L' := [some (.ref 0), some (.int (nI o)), some (.int (nI (19 + 6 * o))), some (.int (f (19 + 6 * o))), some (.int ((bl (nI 0, -1) (fun p => shw 255 o 61 (upd f (19 + 6 * o + 0) (nI p))) (k + 1)).1)), some (.int ((bl (nI 0, -1) (fun p => shw 255 o 61 (upd f (19 + 6 * o + 0) (nI p))) (k + 1)).2)), some (.int (nI (k + 1))), some (.int (nI (shw 255 o 61 (upd f (19 + 6 * o + 0) (nI k)))))]) (by decide +kernel : decode prog_10_method_67_code 90 = .ok (.iinc 6 1, 3)) rfl (by decide) (Nat.le_of_ble_eq_true rfl) rfl ?_
        refine g_goto (tgt := 34) (by decide +kernel : decode prog_10_method_67_code 93 = .ok (.goto (-59), 3)) (by decide) ?_
        refine g_sub (L' := [some (.ref 0), some (.int (nI o)), some (.int (nI (19 + 6 * o))), some (.int (f (19 + 6 * o))), some (.int ((bl (nI 0, -1) (fun p => shw 255 o 61 (upd f (19 + 6 * o + 0) (nI p))) (k + 1)).1)), some (.int ((bl (nI 0, -1) (fun p => shw 255 o 61 (upd f (19 + 6 * o + 0) (nI p))) (k + 1)).2)), some (.int (nI (k + 1))), none]) ⟨rfl, rfl, rfl, rfl, rfl, rfl, rfl, trivial⟩ ?_
        exact ih (k + 1) (by omega) (by omega) _ (Rng.of (by show k ≤ 5; omega)) _ _ hR
      refine g_icmp_le (tgt := 86) (by decide +kernel : decode prog_10_method_67_code 78 = .ok (.if_icmp .le 8, 3)) (by decide) (fun h78 => ?_) (fun h78 => ?_)
      · refine g_iload (by decide +kernel : decode prog_10_method_67_code 86 = .ok (.iload 5, 2)) rfl ?_
        exact g_top (by rw [bl_2]; exact (if_neg (Int32.not_lt.mpr h78)).symm) J78
      · refine g_iload (by decide +kernel : decode prog_10_method_67_code 81 = .ok (.iload 7, 2)) rfl ?_
        refine g_goto (tgt := 88) (by decide +kernel : decode prog_10_method_67_code 83 = .ok (.goto 5, 3)) (by decide) ?_
        exact g_top (by rw [bl_2]; exact (if_pos (Int32.not_le.mp h78)).symm) J78
    refine g_icmp_le (tgt := 70) (by decide +kernel : decode prog_10_method_67_code 62 = .ok (.if_icmp .le 8, 3)) (by decide) (fun h62 => ?_) (fun h62 => ?_)
    · refine g_iload (by decide +kernel : decode prog_10_method_67_code 70 = .ok (.iload 4, 2)) rfl ?_
      exact g_top (by rw [bl_1]; exact (if_neg (Int32.not_lt.mpr h62)).symm) J62
    · refine g_iload (by decide +kernel : decode prog_10_method_67_code 65 = .ok (.iload 6, 2)) rfl ?_
      refine g_goto (tgt := 72) (by decide +kernel : decode prog_10_method_67_code 67 = .ok (.goto 5, 3)) (by decide) ?_
      exact g_top (by rw [bl_1]; exact (if_pos (Int32.not_le.mp h62)).symm) J62
set_option maxRecDepth 20000 in
theorem p_kindFor (σ : Store) (f b : Row) (hI : Inv f) (x : Int32) : Ct ΛM mt_Md_kindFor 5 [.ref 0, .int x] (mS σ f b) (mP σ (kindV f x) f) := by
  refine Ct.of (by decide) (Nat.le_of_ble_eq_true rfl) (fun X hR => ?_)
  show G (ΛM, mt_Md_kindFor, 5) X (mS σ f b) [some (.ref 0), some (.int x), none, none, none, none, none, none] [] 0
  have hn8 := hI.n.2
  refine g_aload_n (by decide +kernel : decode prog_10_method_67_code 0 = .ok (.aload_n 0, 1)) rfl ?_
  refine g_iload_n (by decide +kernel : decode prog_10_method_67_code 1 = .ok (.iload_n 1, 1)) rfl ?_
  refine g_callVI [.int x] (by decide +kernel : decode prog_10_method_67_code 2 = .ok (.invokevirtual 172, 3)) lk_Md_172 (m_isOne (mS σ f b) x hI.n.1 (by omega)) rfl rfl rfl rfl (Nat.le_of_ble_eq_true rfl) (Nat.le_of_ble_eq_true rfl) (fun r2 s2 h2 => ?_)
  rcases h2 with ⟨rfl, ⟨rfl, o, ho2, rfl⟩ | ⟨rfl, n2⟩⟩
  · refine g_if_neN (tgt := 10) (by decide +kernel : decode prog_10_method_67_code 5 = .ok (.ifCond .ne 5, 3)) (by decide) (by decide) (fun _ => ?_) (fun h => False.elim (by revert h; decide))
    refine g_bipush (v := nI 19) (by decide +kernel : decode prog_10_method_67_code 10 = .ok (.bipush 19, 2)) (by decide) ?_
    refine g_bipush (v := nI 6) (by decide +kernel : decode prog_10_method_67_code 12 = .ok (.bipush 6, 2)) (by decide) ?_
    refine g_iload_n (by decide +kernel : decode prog_10_method_67_code 14 = .ok (.iload_n 1, 1)) rfl ?_
    refine g_imulN (by decide +kernel : decode prog_10_method_67_code 15 = .ok (.imul, 1)) ?_
    refine g_iaddN (by decide +kernel : decode prog_10_method_67_code 16 = .ok (.iadd, 1)) ?_
    refine g_istore_n (L' := [some (.ref 0), some (.int (nI o)), some (.int (nI (19 + 6 * o))), none, none, none, none, none]) (by decide +kernel : decode prog_10_method_67_code 17 = .ok (.istore_n 2, 1)) (Nat.le_of_ble_eq_true rfl) rfl ?_
    refine g_aload_n (by decide +kernel : decode prog_10_method_67_code 18 = .ok (.aload_n 0, 1)) rfl ?_
    refine g_getR (by decide +kernel : decode prog_10_method_67_code 19 = .ok (.getfield 7, 3)) fl_Md_7 rfl rfl ?_
    refine g_iload_n (by decide +kernel : decode prog_10_method_67_code 22 = .ok (.iload_n 2, 1)) rfl ?_
    refine g_iaload (a := 19 + 6 * o) (by decide +kernel : decode prog_10_method_67_code 23 = .ok (.iaload, 1)) rfl rfl (by omega) (by decide) ?_
    refine g_top (w := f (19 + 6 * o)) (rfl) ?_
    refine g_istore_n (L' := [some (.ref 0), some (.int (nI o)), some (.int (nI (19 + 6 * o))), some (.int (f (19 + 6 * o))), none, none, none, none]) (by decide +kernel : decode prog_10_method_67_code 24 = .ok (.istore_n 3, 1)) (Nat.le_of_ble_eq_true rfl) rfl ?_
    refine g_iconst (v := nI 0) (by decide +kernel : decode prog_10_method_67_code 25 = .ok (.iconst 0, 1)) (by decide) ?_
    refine g_istore (L' := [some (.ref 0), some (.int (nI o)), some (.int (nI (19 + 6 * o))), some (.int (f (19 + 6 * o))), some (.int (nI 0)), none, none, none]) (by decide +kernel : decode prog_10_method_67_code 26 = .ok (.istore 4, 2)) (Nat.le_of_ble_eq_true rfl) rfl ?_
    refine g_iconst (v := (-1)) (by decide +kernel : decode prog_10_method_67_code 28 = .ok (.iconst (-1), 1)) (by decide) ?_
    refine g_istore (L' := [some (.ref 0), some (.int (nI o)), some (.int (nI (19 + 6 * o))), some (.int (f (19 + 6 * o))), some (.int (nI 0)), some (.int (-1)), none, none]) (by decide +kernel : decode prog_10_method_67_code 29 = .ok (.istore 5, 2)) (Nat.le_of_ble_eq_true rfl) rfl ?_
    refine g_iconst (v := nI 0) (by decide +kernel : decode prog_10_method_67_code 31 = .ok (.iconst 0, 1)) (by decide) ?_
    refine g_istore (L' := [some (.ref 0), some (.int (nI o)), some (.int (nI (19 + 6 * o))), some (.int (f (19 + 6 * o))), some (.int (nI 0)), some (.int (-1)), some (.int (nI 0)), none]) (by decide +kernel : decode prog_10_method_67_code 32 = .ok (.istore 6, 2)) (Nat.le_of_ble_eq_true rfl) rfl ?_
    refine g_sto (σ' := mS (s_row σ 3 (σ 3)) (upd f (19 + 6 * o + 0) (f (19 + 6 * o + 0))) b) (by rw [s_row_self, upd_self]) ?_
    exact p_kind_lp hI ho2 7 0 (by omega) (by omega) _ (hI.2.1 o ho2 0 (by decide)) _ _ (by simpa only [kindV, pz_of hI ho2] using hR)
  · refine g_if_neN (tgt := 10) (by decide +kernel : decode prog_10_method_67_code 5 = .ok (.ifCond .ne 5, 3)) (by decide) (by decide) (fun h => False.elim (by revert h; decide)) (fun _ => ?_)
    refine g_iconst (v := (-1)) (by decide +kernel : decode prog_10_method_67_code 8 = .ok (.iconst (-1), 1)) (by decide) ?_
    exact g_iret hR (by decide +kernel : decode prog_10_method_67_code 9 = .ok (.ireturn, 1)) rfl ⟨_, rfl, ⟨by simp only [kindV, pz_none hI n2], Jk.self _ _ _⟩⟩
theorem wfF_no {f : Row} {o n k : Nat} (hk : k < 10) (h : ¬ yN 255 (upd f (19 + 6 * o + 2) (nI k)) n (19 + 6 * o + 4) = nI 1) : wfF f o n (10 - k) k = wfF f o n (10 - (k + 1)) (k + 1) := by
  rw [show 10 - k = (10 - (k + 1)) + 1 by omega]
  show (if _ then _ else _) = _
  rw [if_neg h]
theorem wfF_yes {f : Row} {o n k : Nat} (hk : k < 10) (h : yN 255 (upd f (19 + 6 * o + 2) (nI k)) n (19 + 6 * o + 4) = nI 1) : wfF f o n (10 - k) k = nI k := by
  rw [show 10 - k = (10 - (k + 1)) + 1 by omega]
  show (if _ then _ else _) = _
  rw [if_pos h]
set_option maxRecDepth 20000 in
theorem p_wit_lp {X : CX} {σ : Store} {f : Row} (hI : Inv f) {o : Nat} (ho : o < nn f) {n : Nat} (hn : n < 2 ^ 31) {t : Int32} : ∀ (b9 k : Nat), k ≤ 10 → 10 - k < b9 → wfF f o n (10 - k) k = t → ∀ (v : Int32), Rng v 9 → ∀ (a b : Row), Rt (ΛM, mt_Md_witFor, 5) (mP σ t f) X → G (ΛM, mt_Md_witFor, 5) X (mS (s_row σ 3 a) (upd f (19 + 6 * o + 2) v) b) [some (.ref 0), some (.int (nI o)), some (.int (nI n)), some (.int (nI (19 + 6 * o + 2))), some (.int (f (19 + 6 * o + 2))), some (.int (-3)), some (.int (nI k))] [] 42 := by
  have hn8 := hI.n.2
  intro b9
  induction b9 with
  | zero => intro k hk hb ht v hv a b hR; omega
  | succ b9 ih =>
  intro k hk hb ht v hv a b hR
  refine g_iload (by decide +kernel : decode prog_10_method_70_code 42 = .ok (.iload 6, 2)) rfl ?_
  refine g_bipush (v := nI 9) (by decide +kernel : decode prog_10_method_70_code 44 = .ok (.bipush 9, 2)) (by decide) ?_
  refine g_icmp_gtN (tgt := 89) (by decide +kernel : decode prog_10_method_70_code 46 = .ok (.if_icmp .gt 43, 3)) (by decide) (by omega) (by decide) (fun h46 => ?_) (fun h46 => ?_)
  · refine g_aload_n (by decide +kernel : decode prog_10_method_70_code 89 = .ok (.aload_n 0, 1)) rfl ?_
    refine g_getR (by decide +kernel : decode prog_10_method_70_code 90 = .ok (.getfield 7, 3)) fl_Md_7 rfl rfl ?_
    refine g_iload_n (by decide +kernel : decode prog_10_method_70_code 93 = .ok (.iload_n 3, 1)) rfl ?_
    refine g_iload (by decide +kernel : decode prog_10_method_70_code 94 = .ok (.iload 4, 2)) rfl ?_
    refine g_iastore (a := 19 + 6 * o + 2) (by decide +kernel : decode prog_10_method_70_code 96 = .ok (.iastore, 1)) rfl rfl (by omega) (by decide) ?_
    refine g_sto (mS_u1 _ _ _ _ _) ?_
    refine g_sto (σ' := mS (s_row σ 3 a) f b) (by rw [upd_upd, upd_self]) ?_
    refine g_iload (by decide +kernel : decode prog_10_method_70_code 97 = .ok (.iload 5, 2)) rfl ?_
    exact g_iret hR (by decide +kernel : decode prog_10_method_70_code 99 = .ok (.ireturn, 1)) rfl ⟨_, rfl, ⟨by rw [← ht, show k = 10 by omega]; rfl, ⟨_, _, rfl⟩⟩⟩
  · refine g_iload (by decide +kernel : decode prog_10_method_70_code 49 = .ok (.iload 5, 2)) rfl ?_
    refine g_if_ge (tgt := 89) (by decide +kernel : decode prog_10_method_70_code 51 = .ok (.ifCond .ge 38, 3)) (by decide) (fun h => False.elim (by revert h; decide)) (fun _ => ?_)
    refine g_aload_n (by decide +kernel : decode prog_10_method_70_code 54 = .ok (.aload_n 0, 1)) rfl ?_
    refine g_getR (by decide +kernel : decode prog_10_method_70_code 55 = .ok (.getfield 7, 3)) fl_Md_7 rfl rfl ?_
    refine g_iload_n (by decide +kernel : decode prog_10_method_70_code 58 = .ok (.iload_n 3, 1)) rfl ?_
    refine g_iload (by decide +kernel : decode prog_10_method_70_code 59 = .ok (.iload 6, 2)) rfl ?_
    refine g_iastore (a := 19 + 6 * o + 2) (by decide +kernel : decode prog_10_method_70_code 61 = .ok (.iastore, 1)) rfl rfl (by omega) (by decide) ?_
    refine g_sto (mS_u1 _ _ _ _ _) ?_
    refine g_sto (σ' := mS (s_row σ 3 a) (upd f (19 + 6 * o + 2) (nI k)) b) (by rw [upd_upd]) ?_
    refine g_aload_n (by decide +kernel : decode prog_10_method_70_code 62 = .ok (.aload_n 0, 1)) rfl ?_
    refine g_iload_n (by decide +kernel : decode prog_10_method_70_code 63 = .ok (.iload_n 1, 1)) rfl ?_
    refine g_iload_n (by decide +kernel : decode prog_10_method_70_code 64 = .ok (.iload_n 2, 1)) rfl ?_
    refine g_sipush (v := nI 255) (by decide +kernel : decode prog_10_method_70_code 65 = .ok (.sipush 255, 3)) (by decide) ?_
    refine g_callVI [.int (nI o), .int (nI n), .int (nI 255)] (by decide +kernel : decode prog_10_method_70_code 68 = .ok (.invokevirtual 236, 3)) lk_Md_236 (m_isHiddenBy (s_row σ 3 a) (upd f (19 + 6 * o + 2) (nI k)) b (hI.up (by decide) (Rng.of (by show k ≤ 9; omega))) o (by rw [nn_up (by omega)]; exact ho) n 255 (by omega) (by omega)) rfl rfl rfl rfl (Nat.le_of_ble_eq_true rfl) (Nat.le_of_ble_eq_true rfl) (fun r68 s68 h68 => ?_)
    rcases h68 with ⟨rfl, ⟨rfl, q68⟩ | ⟨rfl, q68⟩⟩
    · refine g_sto (σ' := mS (s_row σ 3 (upd f (19 + 6 * o + 2) (nI k))) (upd f (19 + 6 * o + 2) (nI k)) (yB 255 (upd f (19 + 6 * o + 2) (nI k)) b n)) (by rw [s_row_row]) ?_
      refine g_if_eqN (tgt := 79) (by decide +kernel : decode prog_10_method_70_code 71 = .ok (.ifCond .eq 8, 3)) (by decide) (by decide) (fun h => False.elim (by revert h; decide)) (fun _ => ?_)
      refine g_iload (by decide +kernel : decode prog_10_method_70_code 74 = .ok (.iload 6, 2)) rfl ?_
      refine g_goto (tgt := 81) (by decide +kernel : decode prog_10_method_70_code 76 = .ok (.goto 5, 3)) (by decide) ?_
      refine g_istore (L' := [some (.ref 0), some (.int (nI o)), some (.int (nI n)), some (.int (nI (19 + 6 * o + 2))), some (.int (f (19 + 6 * o + 2))), some (.int (nI k)), some (.int (nI k))]) (by decide +kernel : decode prog_10_method_70_code 81 = .ok (.istore 5, 2)) (Nat.le_of_ble_eq_true rfl) rfl ?_
      refine g_iincN (n := 1) (L' := [some (.ref 0), some (.int (nI o)), some (.int (nI n)), some (.int (nI (19 + 6 * o + 2))), some (.int (f (19 + 6 * o + 2))), some (.int (nI k)), some (.int (nI (k + 1)))]) (by decide +kernel : decode prog_10_method_70_code 83 = .ok (.iinc 6 1, 3)) rfl (by decide) (Nat.le_of_ble_eq_true rfl) rfl ?_
      refine g_goto (tgt := 42) (by decide +kernel : decode prog_10_method_70_code 86 = .ok (.goto (-44), 3)) (by decide) ?_
      refine g_iload (by decide +kernel : decode prog_10_method_70_code 42 = .ok (.iload 6, 2)) rfl ?_
      refine g_bipush (v := nI 9) (by decide +kernel : decode prog_10_method_70_code 44 = .ok (.bipush 9, 2)) (by decide) ?_
      refine g_icmp_gtN (tgt := 89) (by decide +kernel : decode prog_10_method_70_code 46 = .ok (.if_icmp .gt 43, 3)) (by decide) (by omega) (by decide) (fun h46 => ?_) (fun h46 => ?_)
      · refine g_aload_n (by decide +kernel : decode prog_10_method_70_code 89 = .ok (.aload_n 0, 1)) rfl ?_
        refine g_getR (by decide +kernel : decode prog_10_method_70_code 90 = .ok (.getfield 7, 3)) fl_Md_7 rfl rfl ?_
        refine g_iload_n (by decide +kernel : decode prog_10_method_70_code 93 = .ok (.iload_n 3, 1)) rfl ?_
        refine g_iload (by decide +kernel : decode prog_10_method_70_code 94 = .ok (.iload 4, 2)) rfl ?_
        refine g_iastore (a := 19 + 6 * o + 2) (by decide +kernel : decode prog_10_method_70_code 96 = .ok (.iastore, 1)) rfl rfl (by omega) (by decide) ?_
        refine g_sto (mS_u1 _ _ _ _ _) ?_
        refine g_sto (σ' := mS (s_row σ 3 (upd f (19 + 6 * o + 2) (nI k))) f (yB 255 (upd f (19 + 6 * o + 2) (nI k)) b n)) (by rw [upd_upd, upd_self]) ?_
        refine g_iload (by decide +kernel : decode prog_10_method_70_code 97 = .ok (.iload 5, 2)) rfl ?_
        exact g_iret hR (by decide +kernel : decode prog_10_method_70_code 99 = .ok (.ireturn, 1)) rfl ⟨_, rfl, ⟨by rw [← ht, wfF_yes (by omega) q68], ⟨_, _, rfl⟩⟩⟩
      · refine g_iload (by decide +kernel : decode prog_10_method_70_code 49 = .ok (.iload 5, 2)) rfl ?_
        refine g_if_geN (tgt := 89) (by decide +kernel : decode prog_10_method_70_code 51 = .ok (.ifCond .ge 38, 3)) (by decide) (by omega) ?_
        refine g_aload_n (by decide +kernel : decode prog_10_method_70_code 89 = .ok (.aload_n 0, 1)) rfl ?_
        refine g_getR (by decide +kernel : decode prog_10_method_70_code 90 = .ok (.getfield 7, 3)) fl_Md_7 rfl rfl ?_
        refine g_iload_n (by decide +kernel : decode prog_10_method_70_code 93 = .ok (.iload_n 3, 1)) rfl ?_
        refine g_iload (by decide +kernel : decode prog_10_method_70_code 94 = .ok (.iload 4, 2)) rfl ?_
        refine g_iastore (a := 19 + 6 * o + 2) (by decide +kernel : decode prog_10_method_70_code 96 = .ok (.iastore, 1)) rfl rfl (by omega) (by decide) ?_
        refine g_sto (mS_u1 _ _ _ _ _) ?_
        refine g_sto (σ' := mS (s_row σ 3 (upd f (19 + 6 * o + 2) (nI k))) f (yB 255 (upd f (19 + 6 * o + 2) (nI k)) b n)) (by rw [upd_upd, upd_self]) ?_
        refine g_iload (by decide +kernel : decode prog_10_method_70_code 97 = .ok (.iload 5, 2)) rfl ?_
        exact g_iret hR (by decide +kernel : decode prog_10_method_70_code 99 = .ok (.ireturn, 1)) rfl ⟨_, rfl, ⟨by rw [← ht, wfF_yes (by omega) q68], ⟨_, _, rfl⟩⟩⟩
    · refine g_sto (σ' := mS (s_row σ 3 (upd f (19 + 6 * o + 2) (nI k))) (upd f (19 + 6 * o + 2) (nI k)) (yB 255 (upd f (19 + 6 * o + 2) (nI k)) b n)) (by rw [s_row_row]) ?_
      refine g_if_eqN (tgt := 79) (by decide +kernel : decode prog_10_method_70_code 71 = .ok (.ifCond .eq 8, 3)) (by decide) (by decide) (fun _ => ?_) (fun h => False.elim (by revert h; decide))
      refine g_bipush (v := (-3)) (by decide +kernel : decode prog_10_method_70_code 79 = .ok (.bipush (-3), 2)) (by decide) ?_
      refine g_istore (L' := [some (.ref 0), some (.int (nI o)), some (.int (nI n)), some (.int (nI (19 + 6 * o + 2))), some (.int (f (19 + 6 * o + 2))), some (.int (-3)), some (.int (nI k))]) (by decide +kernel : decode prog_10_method_70_code 81 = .ok (.istore 5, 2)) (Nat.le_of_ble_eq_true rfl) rfl ?_
      refine g_iincN (n := 1) (L' := [some (.ref 0), some (.int (nI o)), some (.int (nI n)), some (.int (nI (19 + 6 * o + 2))), some (.int (f (19 + 6 * o + 2))), some (.int (-3)), some (.int (nI (k + 1)))]) (by decide +kernel : decode prog_10_method_70_code 83 = .ok (.iinc 6 1, 3)) rfl (by decide) (Nat.le_of_ble_eq_true rfl) rfl ?_
      refine g_goto (tgt := 42) (by decide +kernel : decode prog_10_method_70_code 86 = .ok (.goto (-44), 3)) (by decide) ?_
      refine g_sub (L' := [some (.ref 0), some (.int (nI o)), some (.int (nI n)), some (.int (nI (19 + 6 * o + 2))), some (.int (f (19 + 6 * o + 2))), some (.int (-3)), some (.int (nI (k + 1)))]) ⟨rfl, rfl, rfl, rfl, rfl, rfl, rfl, trivial⟩ ?_
      exact ih (k + 1) (by omega) (by omega) (by rw [← ht]; exact (wfF_no (by omega) q68).symm) _ (Rng.of (by show k ≤ 9; omega)) _ _ hR
set_option maxRecDepth 20000 in
theorem p_witFor (σ : Store) (f b : Row) (hI : Inv f) (x y : Int32) : Ct ΛM mt_Md_witFor 5 [.ref 0, .int x, .int y] (mS σ f b) (mP σ (witV f x y) f) := by
  refine Ct.of (by decide) (Nat.le_of_ble_eq_true rfl) (fun X hR => ?_)
  show G (ΛM, mt_Md_witFor, 5) X (mS σ f b) [some (.ref 0), some (.int x), some (.int y), none, none, none, none] [] 0
  have hn8 := hI.n.2
  refine g_aload_n (by decide +kernel : decode prog_10_method_70_code 0 = .ok (.aload_n 0, 1)) rfl ?_
  refine g_iload_n (by decide +kernel : decode prog_10_method_70_code 1 = .ok (.iload_n 1, 1)) rfl ?_
  refine g_callVI [.int x] (by decide +kernel : decode prog_10_method_70_code 2 = .ok (.invokevirtual 172, 3)) lk_Md_172 (m_isOne (mS σ f b) x hI.n.1 (by omega)) rfl rfl rfl rfl (Nat.le_of_ble_eq_true rfl) (Nat.le_of_ble_eq_true rfl) (fun r2 s2 h2 => ?_)
  rcases h2 with ⟨rfl, ⟨rfl, o, ho2, rfl⟩ | ⟨rfl, n2⟩⟩
  · refine g_if_eqN (tgt := 15) (by decide +kernel : decode prog_10_method_70_code 5 = .ok (.ifCond .eq 10, 3)) (by decide) (by decide) (fun h => False.elim (by revert h; decide)) (fun _ => ?_)
    refine g_iload_n (by decide +kernel : decode prog_10_method_70_code 8 = .ok (.iload_n 2, 1)) rfl ?_
    refine g_callSI [.int y] (by decide +kernel : decode prog_10_method_70_code 9 = .ok (.invokestatic 233, 3)) lk_Md_233 (m_isShort (mS σ f b) y) rfl rfl (Nat.le_of_ble_eq_true rfl) (Nat.le_of_ble_eq_true rfl) (fun r9 s9 h9 => ?_)
    rcases h9 with ⟨rfl, ⟨rfl, n, ha9, hb9, rfl⟩ | ⟨rfl, n9⟩⟩
    · refine g_if_neN (tgt := 17) (by decide +kernel : decode prog_10_method_70_code 12 = .ok (.ifCond .ne 5, 3)) (by decide) (by decide) (fun _ => ?_) (fun h => False.elim (by revert h; decide))
      refine g_bipush (v := nI 19) (by decide +kernel : decode prog_10_method_70_code 17 = .ok (.bipush 19, 2)) (by decide) ?_
      refine g_bipush (v := nI 6) (by decide +kernel : decode prog_10_method_70_code 19 = .ok (.bipush 6, 2)) (by decide) ?_
      refine g_iload_n (by decide +kernel : decode prog_10_method_70_code 21 = .ok (.iload_n 1, 1)) rfl ?_
      refine g_imulN (by decide +kernel : decode prog_10_method_70_code 22 = .ok (.imul, 1)) ?_
      refine g_iaddN (by decide +kernel : decode prog_10_method_70_code 23 = .ok (.iadd, 1)) ?_
      refine g_iconst (v := nI 2) (by decide +kernel : decode prog_10_method_70_code 24 = .ok (.iconst 2, 1)) (by decide) ?_
      refine g_iaddN (by decide +kernel : decode prog_10_method_70_code 25 = .ok (.iadd, 1)) ?_
      refine g_istore_n (L' := [some (.ref 0), some (.int (nI o)), some (.int (nI n)), some (.int (nI (19 + 6 * o + 2))), none, none, none]) (by decide +kernel : decode prog_10_method_70_code 26 = .ok (.istore_n 3, 1)) (Nat.le_of_ble_eq_true rfl) rfl ?_
      refine g_aload_n (by decide +kernel : decode prog_10_method_70_code 27 = .ok (.aload_n 0, 1)) rfl ?_
      refine g_getR (by decide +kernel : decode prog_10_method_70_code 28 = .ok (.getfield 7, 3)) fl_Md_7 rfl rfl ?_
      refine g_iload_n (by decide +kernel : decode prog_10_method_70_code 31 = .ok (.iload_n 3, 1)) rfl ?_
      refine g_iaload (a := 19 + 6 * o + 2) (by decide +kernel : decode prog_10_method_70_code 32 = .ok (.iaload, 1)) rfl rfl (by omega) (by decide) ?_
      refine g_top (w := f (19 + 6 * o + 2)) (rfl) ?_
      refine g_istore (L' := [some (.ref 0), some (.int (nI o)), some (.int (nI n)), some (.int (nI (19 + 6 * o + 2))), some (.int (f (19 + 6 * o + 2))), none, none]) (by decide +kernel : decode prog_10_method_70_code 33 = .ok (.istore 4, 2)) (Nat.le_of_ble_eq_true rfl) rfl ?_
      refine g_bipush (v := (-3)) (by decide +kernel : decode prog_10_method_70_code 35 = .ok (.bipush (-3), 2)) (by decide) ?_
      refine g_istore (L' := [some (.ref 0), some (.int (nI o)), some (.int (nI n)), some (.int (nI (19 + 6 * o + 2))), some (.int (f (19 + 6 * o + 2))), some (.int (-3)), none]) (by decide +kernel : decode prog_10_method_70_code 37 = .ok (.istore 5, 2)) (Nat.le_of_ble_eq_true rfl) rfl ?_
      refine g_iconst (v := nI 0) (by decide +kernel : decode prog_10_method_70_code 39 = .ok (.iconst 0, 1)) (by decide) ?_
      refine g_istore (L' := [some (.ref 0), some (.int (nI o)), some (.int (nI n)), some (.int (nI (19 + 6 * o + 2))), some (.int (f (19 + 6 * o + 2))), some (.int (-3)), some (.int (nI 0))]) (by decide +kernel : decode prog_10_method_70_code 40 = .ok (.istore 6, 2)) (Nat.le_of_ble_eq_true rfl) rfl ?_
      refine g_sto (σ' := mS (s_row σ 3 (σ 3)) (upd f (19 + 6 * o + 2) (f (19 + 6 * o + 2))) b) (by rw [s_row_self, upd_self]) ?_
      exact p_wit_lp hI ho2 (by omega) 11 0 (by omega) (by omega) rfl _ (hI.2.1 o ho2 2 (by decide)) _ _ (by simpa only [witV, pz_of hI ho2, rg_of ha9 hb9] using hR)
    · refine g_if_neN (tgt := 17) (by decide +kernel : decode prog_10_method_70_code 12 = .ok (.ifCond .ne 5, 3)) (by decide) (by decide) (fun h => False.elim (by revert h; decide)) (fun _ => ?_)
      refine g_iconst (v := (-1)) (by decide +kernel : decode prog_10_method_70_code 15 = .ok (.iconst (-1), 1)) (by decide) ?_
      exact g_iret hR (by decide +kernel : decode prog_10_method_70_code 16 = .ok (.ireturn, 1)) rfl ⟨_, rfl, ⟨by simp only [witV, pz_of hI ho2, rg_none n9], Jk.self _ _ _⟩⟩
  · refine g_if_eqN (tgt := 15) (by decide +kernel : decode prog_10_method_70_code 5 = .ok (.ifCond .eq 10, 3)) (by decide) (by decide) (fun _ => ?_) (fun h => False.elim (by revert h; decide))
    refine g_iconst (v := (-1)) (by decide +kernel : decode prog_10_method_70_code 15 = .ok (.iconst (-1), 1)) (by decide) ?_
    exact g_iret hR (by decide +kernel : decode prog_10_method_70_code 16 = .ok (.ireturn, 1)) rfl ⟨_, rfl, ⟨by simp only [witV, pz_none hI n2], Jk.self _ _ _⟩⟩
theorem msk_q : ∀ q : Fin 8, nI 255 &&& (nI 1 <<< (nI q.val &&& 31) ^^^ (-1)) = nI (255 - 2 ^ q.val) := by decide +kernel
set_option maxRecDepth 20000 in
theorem p_need_lp {X : CX} {σ : Store} {f : Row} (hI : Inv f) {o : Nat} (ho : o < nn f) : ∀ (b9 k : Nat), k ≤ nn f → nn f - k < b9 → ∀ (a b : Row), Rt (ΛM, mt_Md_needed, 5) (mP σ (bl (-3, nI (shw 255 o 61 f)) (fun q => shw (255 - 2 ^ q) o 61 f) (nn f)).1 f) X → G (ΛM, mt_Md_needed, 5) X (mS (s_row σ 3 a) f b) [some (.ref 0), some (.int (nI o)), some (.int ((bl (-3, nI (shw 255 o 61 f)) (fun q => shw (255 - 2 ^ q) o 61 f) k).2)), some (.int ((bl (-3, nI (shw 255 o 61 f)) (fun q => shw (255 - 2 ^ q) o 61 f) k).1)), some (.int (nI k)), none] [] 25 := by
  have hn8 := hI.n.2
  intro b9
  induction b9 with
  | zero => intro k hk hb a b hR; omega
  | succ b9 ih =>
  intro k hk hb a b hR
  refine g_iload (by decide +kernel : decode prog_10_method_71_code 25 = .ok (.iload 4, 2)) rfl ?_
  refine g_aload_n (by decide +kernel : decode prog_10_method_71_code 27 = .ok (.aload_n 0, 1)) rfl ?_
  refine g_getR (by decide +kernel : decode prog_10_method_71_code 28 = .ok (.getfield 7, 3)) fl_Md_7 rfl rfl ?_
  refine g_iconst (v := nI 0) (by decide +kernel : decode prog_10_method_71_code 31 = .ok (.iconst 0, 1)) (by decide) ?_
  refine g_iaload (a := 0) (by decide +kernel : decode prog_10_method_71_code 32 = .ok (.iaload, 1)) rfl rfl (by decide) (by decide) ?_
  refine g_top (w := nI (nn f)) (hI.n.1) ?_
  refine g_icmp_geN (tgt := 85) (by decide +kernel : decode prog_10_method_71_code 33 = .ok (.if_icmp .ge 52, 3)) (by decide) (by omega) (by omega) (fun h33 => ?_) (fun h33 => ?_)
  · refine g_iload_n (by decide +kernel : decode prog_10_method_71_code 85 = .ok (.iload_n 3, 1)) rfl ?_
    exact g_iret hR (by decide +kernel : decode prog_10_method_71_code 86 = .ok (.ireturn, 1)) rfl ⟨_, rfl, ⟨by rw [show k = nn f by omega], ⟨_, _, rfl⟩⟩⟩
  · refine g_aload_n (by decide +kernel : decode prog_10_method_71_code 36 = .ok (.aload_n 0, 1)) rfl ?_
    refine g_iload_n (by decide +kernel : decode prog_10_method_71_code 37 = .ok (.iload_n 1, 1)) rfl ?_
    refine g_sipush (v := nI 255) (by decide +kernel : decode prog_10_method_71_code 38 = .ok (.sipush 255, 3)) (by decide) ?_
    refine g_iconst (v := nI 1) (by decide +kernel : decode prog_10_method_71_code 41 = .ok (.iconst 1, 1)) (by decide) ?_
    refine g_iload (by decide +kernel : decode prog_10_method_71_code 42 = .ok (.iload 4, 2)) rfl ?_
    refine g_ishl (by decide +kernel : decode prog_10_method_71_code 44 = .ok (.ishl, 1)) ?_
    refine g_iconst (v := (-1)) (by decide +kernel : decode prog_10_method_71_code 45 = .ok (.iconst (-1), 1)) (by decide) ?_
    refine g_ixor (by decide +kernel : decode prog_10_method_71_code 46 = .ok (.ixor, 1)) ?_
    refine g_iand (by decide +kernel : decode prog_10_method_71_code 47 = .ok (.iand, 1)) ?_
    refine g_top (w := nI (255 - 2 ^ k)) (msk_q ⟨k, by omega⟩) ?_
    refine g_callVI [.int (nI o), .int (nI (255 - 2 ^ k))] (by decide +kernel : decode prog_10_method_71_code 48 = .ok (.invokevirtual 228, 3)) lk_Md_228 (m_shownBy (s_row σ 3 a) f b hI o ho (255 - 2 ^ k) (Nat.lt_of_le_of_lt (Nat.sub_le _ _) (by decide))) rfl rfl rfl rfl (Nat.le_of_ble_eq_true rfl) (Nat.le_of_ble_eq_true rfl) (fun r48 s48 h48 => ?_)
    obtain ⟨rfl, rfl⟩ := h48
    refine g_sto (σ' := mS (s_row σ 3 f) f (yB (255 - 2 ^ k) f b (shw (255 - 2 ^ k) o 61 f))) (by rw [s_row_row]) ?_
    refine g_istore (L' := [some (.ref 0), some (.int (nI o)), some (.int ((bl (-3, nI (shw 255 o 61 f)) (fun q => shw (255 - 2 ^ q) o 61 f) k).2)), some (.int ((bl (-3, nI (shw 255 o 61 f)) (fun q => shw (255 - 2 ^ q) o 61 f) k).1)), some (.int (nI k)), some (.int (nI (shw (255 - 2 ^ k) o 61 f)))]) (by decide +kernel : decode prog_10_method_71_code 51 = .ok (.istore 5, 2)) (Nat.le_of_ble_eq_true rfl) rfl ?_
    refine g_iload (by decide +kernel : decode prog_10_method_71_code 53 = .ok (.iload 5, 2)) rfl ?_
    refine g_iload_n (by decide +kernel : decode prog_10_method_71_code 55 = .ok (.iload_n 2, 1)) rfl ?_
    have J56 : G (ΛM, mt_Md_needed, 5) X (mS (s_row σ 3 f) f (yB (255 - 2 ^ k) f b (shw (255 - 2 ^ k) o 61 f))) [some (.ref 0), some (.int (nI o)), some (.int ((bl (-3, nI (shw 255 o 61 f)) (fun q => shw (255 - 2 ^ q) o 61 f) k).2)), some (.int ((bl (-3, nI (shw 255 o 61 f)) (fun q => shw (255 - 2 ^ q) o 61 f) k).1)), some (.int (nI k)), some (.int (nI (shw (255 - 2 ^ k) o 61 f)))] [.int ((bl (-3, nI (shw 255 o 61 f)) (fun q => shw (255 - 2 ^ q) o 61 f) (k + 1)).1)] 65 := by
      refine g_istore_n (L' := [some (.ref 0), some (.int (nI o)), some (.int ((bl (-3, nI (shw 255 o 61 f)) (fun q => shw (255 - 2 ^ q) o 61 f) k).2)), some (.int ((bl (-3, nI (shw 255 o 61 f)) (fun q => shw (255 - 2 ^ q) o 61 f) (k + 1)).1)), some (.int (nI k)), some (.int (nI (shw (255 - 2 ^ k) o 61 f)))]) (by decide +kernel : decode prog_10_method_71_code 65 = .ok (.istore_n 3, 1)) (Nat.le_of_ble_eq_true rfl) rfl ?_
      refine g_iload (by decide +kernel : decode prog_10_method_71_code 66 = .ok (.iload 5, 2)) rfl ?_
      refine g_iload_n (by decide +kernel : decode prog_10_method_71_code 68 = .ok (.iload_n 2, 1)) rfl ?_
      have J69 : G (ΛM, mt_Md_needed, 5) X (mS (s_row σ 3 f) f (yB (255 - 2 ^ k) f b (shw (255 - 2 ^ k) o 61 f))) [some (.ref 0), some (.int (nI o)), some (.int ((bl (-3, nI (shw 255 o 61 f)) (fun q => shw (255 - 2 ^ q) o 61 f) k).2)), some (.int ((bl (-3, nI (shw 255 o 61 f)) (fun q => shw (255 - 2 ^ q) o 61 f) (k + 1)).1)), some (.int (nI k)), some (.int (nI (shw (255 - 2 ^ k) o 61 f)))] [.int ((bl (-3, nI (shw 255 o 61 f)) (fun q => shw (255 - 2 ^ q) o 61 f) (k + 1)).2)] 78 := by
        refine g_istore_n (L' := [some (.ref 0), some (.int (nI o)), some (.int ((bl (-3, nI (shw 255 o 61 f)) (fun q => shw (255 - 2 ^ q) o 61 f) (k + 1)).2)), some (.int ((bl (-3, nI (shw 255 o 61 f)) (fun q => shw (255 - 2 ^ q) o 61 f) (k + 1)).1)), some (.int (nI k)), some (.int (nI (shw (255 - 2 ^ k) o 61 f)))]) (by decide +kernel : decode prog_10_method_71_code 78 = .ok (.istore_n 2, 1)) (Nat.le_of_ble_eq_true rfl) rfl ?_
        refine g_iincN (n := 1) (L' := [some (.ref 0), some (.int (nI o)), some (.int ((bl (-3, nI (shw 255 o 61 f)) (fun q => shw (255 - 2 ^ q) o 61 f) (k + 1)).2)), some (.int ((bl (-3, nI (shw 255 o 61 f)) (fun q => shw (255 - 2 ^ q) o 61 f) (k + 1)).1)), some (.int (nI (k + 1))), some (.int (nI (shw (255 - 2 ^ k) o 61 f)))]) (by decide +kernel : decode prog_10_method_71_code 79 = .ok (.iinc 4 1, 3)) rfl (by decide) (Nat.le_of_ble_eq_true rfl) rfl ?_
        refine g_goto (tgt := 25) (by decide +kernel : decode prog_10_method_71_code 82 = .ok (.goto (-57), 3)) (by decide) ?_
        refine g_sub (L' := [some (.ref 0), some (.int (nI o)), some (.int ((bl (-3, nI (shw 255 o 61 f)) (fun q => shw (255 - 2 ^ q) o 61 f) (k + 1)).2)), some (.int ((bl (-3, nI (shw 255 o 61 f)) (fun q => shw (255 - 2 ^ q) o 61 f) (k + 1)).1)), some (.int (nI (k + 1))), none]) ⟨rfl, rfl, rfl, rfl, rfl, trivial⟩ ?_
        exact ih (k + 1) (by omega) (by omega) _ _ hR
      refine g_icmp_le (tgt := 77) (by decide +kernel : decode prog_10_method_71_code 69 = .ok (.if_icmp .le 8, 3)) (by decide) (fun h69 => ?_) (fun h69 => ?_)
      · refine g_iload_n (by decide +kernel : decode prog_10_method_71_code 77 = .ok (.iload_n 2, 1)) rfl ?_
        exact g_top (by rw [bl_2]; exact (if_neg (Int32.not_lt.mpr h69)).symm) J69
      · refine g_iload (by decide +kernel : decode prog_10_method_71_code 72 = .ok (.iload 5, 2)) rfl ?_
        refine g_goto (tgt := 78) (by decide +kernel : decode prog_10_method_71_code 74 = .ok (.goto 4, 3)) (by decide) ?_
        exact g_top (by rw [bl_2]; exact (if_pos (Int32.not_le.mp h69)).symm) J69
    refine g_icmp_le (tgt := 64) (by decide +kernel : decode prog_10_method_71_code 56 = .ok (.if_icmp .le 8, 3)) (by decide) (fun h56 => ?_) (fun h56 => ?_)
    · refine g_iload_n (by decide +kernel : decode prog_10_method_71_code 64 = .ok (.iload_n 3, 1)) rfl ?_
      exact g_top (by rw [bl_1]; exact (if_neg (Int32.not_lt.mpr h56)).symm) J56
    · refine g_iload (by decide +kernel : decode prog_10_method_71_code 59 = .ok (.iload 4, 2)) rfl ?_
      refine g_goto (tgt := 65) (by decide +kernel : decode prog_10_method_71_code 61 = .ok (.goto 4, 3)) (by decide) ?_
      exact g_top (by rw [bl_1]; exact (if_pos (Int32.not_le.mp h56)).symm) J56
set_option maxRecDepth 20000 in
theorem p_needed (σ : Store) (f b : Row) (hI : Inv f) (x : Int32) : Ct ΛM mt_Md_needed 5 [.ref 0, .int x] (mS σ f b) (mP σ (needV f x) f) := by
  refine Ct.of (by decide) (Nat.le_of_ble_eq_true rfl) (fun X hR => ?_)
  show G (ΛM, mt_Md_needed, 5) X (mS σ f b) [some (.ref 0), some (.int x), none, none, none, none] [] 0
  have hn8 := hI.n.2
  refine g_aload_n (by decide +kernel : decode prog_10_method_71_code 0 = .ok (.aload_n 0, 1)) rfl ?_
  refine g_iload_n (by decide +kernel : decode prog_10_method_71_code 1 = .ok (.iload_n 1, 1)) rfl ?_
  refine g_callVI [.int x] (by decide +kernel : decode prog_10_method_71_code 2 = .ok (.invokevirtual 172, 3)) lk_Md_172 (m_isOne (mS σ f b) x hI.n.1 (by omega)) rfl rfl rfl rfl (Nat.le_of_ble_eq_true rfl) (Nat.le_of_ble_eq_true rfl) (fun r2 s2 h2 => ?_)
  rcases h2 with ⟨rfl, ⟨rfl, o, ho2, rfl⟩ | ⟨rfl, n2⟩⟩
  · refine g_if_neN (tgt := 10) (by decide +kernel : decode prog_10_method_71_code 5 = .ok (.ifCond .ne 5, 3)) (by decide) (by decide) (fun _ => ?_) (fun h => False.elim (by revert h; decide))
    refine g_aload_n (by decide +kernel : decode prog_10_method_71_code 10 = .ok (.aload_n 0, 1)) rfl ?_
    refine g_iload_n (by decide +kernel : decode prog_10_method_71_code 11 = .ok (.iload_n 1, 1)) rfl ?_
    refine g_sipush (v := nI 255) (by decide +kernel : decode prog_10_method_71_code 12 = .ok (.sipush 255, 3)) (by decide) ?_
    refine g_callVI [.int (nI o), .int (nI 255)] (by decide +kernel : decode prog_10_method_71_code 15 = .ok (.invokevirtual 228, 3)) lk_Md_228 (m_shownBy σ f b hI o ho2 255 (by omega)) rfl rfl rfl rfl (Nat.le_of_ble_eq_true rfl) (Nat.le_of_ble_eq_true rfl) (fun r15 s15 h15 => ?_)
    obtain ⟨rfl, rfl⟩ := h15
    refine g_istore_n (L' := [some (.ref 0), some (.int (nI o)), some (.int (nI (shw 255 o 61 f))), none, none, none]) (by decide +kernel : decode prog_10_method_71_code 18 = .ok (.istore_n 2, 1)) (Nat.le_of_ble_eq_true rfl) rfl ?_
    refine g_bipush (v := (-3)) (by decide +kernel : decode prog_10_method_71_code 19 = .ok (.bipush (-3), 2)) (by decide) ?_
    refine g_istore_n (L' := [some (.ref 0), some (.int (nI o)), some (.int (nI (shw 255 o 61 f))), some (.int (-3)), none, none]) (by decide +kernel : decode prog_10_method_71_code 21 = .ok (.istore_n 3, 1)) (Nat.le_of_ble_eq_true rfl) rfl ?_
    refine g_iconst (v := nI 0) (by decide +kernel : decode prog_10_method_71_code 22 = .ok (.iconst 0, 1)) (by decide) ?_
    refine g_istore (L' := [some (.ref 0), some (.int (nI o)), some (.int (nI (shw 255 o 61 f))), some (.int (-3)), some (.int (nI 0)), none]) (by decide +kernel : decode prog_10_method_71_code 23 = .ok (.istore 4, 2)) (Nat.le_of_ble_eq_true rfl) rfl ?_
    exact p_need_lp hI ho2 (nn f + 1) 0 (Nat.zero_le _) (by omega) _ _ (by simpa only [needV, pz_of hI ho2] using hR)
  · refine g_if_neN (tgt := 10) (by decide +kernel : decode prog_10_method_71_code 5 = .ok (.ifCond .ne 5, 3)) (by decide) (by decide) (fun h => False.elim (by revert h; decide)) (fun _ => ?_)
    refine g_iconst (v := (-1)) (by decide +kernel : decode prog_10_method_71_code 8 = .ok (.iconst (-1), 1)) (by decide) ?_
    exact g_iret hR (by decide +kernel : decode prog_10_method_71_code 9 = .ok (.ireturn, 1)) rfl ⟨_, rfl, ⟨by simp only [needV, pz_none hI n2], Jk.self _ _ _⟩⟩
end
section
/-! THE REFERENCE: fewest finders; what is asked and told of places and people -/
theorem few_hid {f : Row} {o n k : Nat} (h : yN k f n (19 + 6 * o + 4) = nI 1) : few f o n (k + 1) = few f o n k := by
  show (if _ then _ else _) = _
  rw [if_pos h]
theorem few_none {f : Row} {o n k : Nat} (h : ¬ yN k f n (19 + 6 * o + 4) = nI 1) (hq : few f o n k = none) : few f o n (k + 1) = some k := by
  show (if _ then _ else _) = _
  rw [if_neg h, hq]
theorem few_lt' {f : Row} {o n k s : Nat} (h : ¬ yN k f n (19 + 6 * o + 4) = nI 1) (hq : few f o n k = some s) (hp : popc k < popc s) : few f o n (k + 1) = some k := by
  show (if _ then _ else _) = _
  rw [if_neg h, hq]
  exact if_pos hp
theorem few_ge {f : Row} {o n k s : Nat} (hq : few f o n k = some s) (hp : ¬ popc k < popc s) : few f o n (k + 1) = some s := by
  show (if _ then _ else _) = _
  split
  · exact hq
  · rw [hq]; exact if_neg hp
theorem nI_pow2 : ∀ n : Fin 9, nI 1 <<< (nI n.val &&& 31) = nI (2 ^ n.val) := by decide +kernel
set_option maxRecDepth 20000 in
theorem p_few_lp {X : CX} {σ : Store} {f : Row} (hI : Inv f) {o : Nat} (ho : o < nn f) {n : Nat} (hn : n < 2 ^ 31) {N : Nat} (hN : N = 2 ^ nn f) (hN2 : N ≤ 256) : ∀ (b9 k : Nat), k ≤ N → N - k < b9 → ∀ (a b : Row), Rt (ΛM, mt_Md_fewest, 5) (mP σ (oN (few f o n N)) f) X → G (ΛM, mt_Md_fewest, 5) X (mS (s_row σ 3 a) f b) [some (.ref 0), some (.int (nI o)), some (.int (nI n)), some (.int (oN (few f o n k))), some (.int (nI k))] [] 23 := by
  have hn8 := hI.n.2
  intro b9
  induction b9 with
  | zero => intro k hk hb a b hR; omega
  | succ b9 ih =>
  intro k hk hb a b hR
  rcases hq : few f o n k with _ | s
  · show G (ΛM, mt_Md_fewest, 5) X (mS (s_row σ 3 a) f b) [some (.ref 0), some (.int (nI o)), some (.int (nI n)), some (.int (-3)), some (.int (nI k))] [] 23
    refine g_iload (by decide +kernel : decode prog_10_method_72_code 23 = .ok (.iload 4, 2)) rfl ?_
    refine g_iconst (v := nI 1) (by decide +kernel : decode prog_10_method_72_code 25 = .ok (.iconst 1, 1)) (by decide) ?_
    refine g_aload_n (by decide +kernel : decode prog_10_method_72_code 26 = .ok (.aload_n 0, 1)) rfl ?_
    refine g_getR (by decide +kernel : decode prog_10_method_72_code 27 = .ok (.getfield 7, 3)) fl_Md_7 rfl rfl ?_
    refine g_iconst (v := nI 0) (by decide +kernel : decode prog_10_method_72_code 30 = .ok (.iconst 0, 1)) (by decide) ?_
    refine g_iaload (a := 0) (by decide +kernel : decode prog_10_method_72_code 31 = .ok (.iaload, 1)) rfl rfl (by decide) (by decide) ?_
    refine g_top (w := nI (nn f)) (hI.n.1) ?_
    refine g_ishl (by decide +kernel : decode prog_10_method_72_code 32 = .ok (.ishl, 1)) ?_
    refine g_top (w := nI N) (by rw [hN]; exact nI_pow2 ⟨nn f, by omega⟩) ?_
    refine g_icmp_geN (tgt := 76) (by decide +kernel : decode prog_10_method_72_code 33 = .ok (.if_icmp .ge 43, 3)) (by decide) (by first | omega | (have h9 := popc_le k; have h8 := popc_le s; omega)) (by first | omega | (have h9 := popc_le k; have h8 := popc_le s; omega)) (fun h33 => ?_) (fun h33 => ?_)
    · refine g_iload_n (by decide +kernel : decode prog_10_method_72_code 76 = .ok (.iload_n 3, 1)) rfl ?_
      exact g_iret hR (by decide +kernel : decode prog_10_method_72_code 77 = .ok (.ireturn, 1)) rfl ⟨_, rfl, ⟨by rw [show k = N by omega] at hq; rw [hq]; rfl, ⟨_, _, rfl⟩⟩⟩
    · refine g_iload_n (by decide +kernel : decode prog_10_method_72_code 36 = .ok (.iload_n 3, 1)) rfl ?_
      refine g_if_lt (tgt := 52) (by decide +kernel : decode prog_10_method_72_code 37 = .ok (.ifCond .lt 15, 3)) (by decide) (fun _ => ?_) (fun h => False.elim (by revert h; decide))
      refine g_aload_n (by decide +kernel : decode prog_10_method_72_code 52 = .ok (.aload_n 0, 1)) rfl ?_
      refine g_iload_n (by decide +kernel : decode prog_10_method_72_code 53 = .ok (.iload_n 1, 1)) rfl ?_
      refine g_iload_n (by decide +kernel : decode prog_10_method_72_code 54 = .ok (.iload_n 2, 1)) rfl ?_
      refine g_iload (by decide +kernel : decode prog_10_method_72_code 55 = .ok (.iload 4, 2)) rfl ?_
      refine g_callVI [.int (nI o), .int (nI n), .int (nI k)] (by decide +kernel : decode prog_10_method_72_code 57 = .ok (.invokevirtual 236, 3)) lk_Md_236 (m_isHiddenBy (s_row σ 3 a) f b hI o ho n k (by omega) (by omega)) rfl rfl rfl rfl (Nat.le_of_ble_eq_true rfl) (Nat.le_of_ble_eq_true rfl) (fun r57 s57 h57 => ?_)
      rcases h57 with ⟨rfl, ⟨rfl, q57⟩ | ⟨rfl, q57⟩⟩
      · refine g_sto (σ' := mS (s_row σ 3 f) f (yB k f b n)) (by rw [s_row_row]) ?_
        refine g_if_neN (tgt := 68) (by decide +kernel : decode prog_10_method_72_code 60 = .ok (.ifCond .ne 8, 3)) (by decide) (by decide) (fun _ => ?_) (fun h => False.elim (by revert h; decide))
        refine g_iload_n (by decide +kernel : decode prog_10_method_72_code 68 = .ok (.iload_n 3, 1)) rfl ?_
        refine g_istore_n (L' := [some (.ref 0), some (.int (nI o)), some (.int (nI n)), some (.int (-3)), some (.int (nI k))]) (by decide +kernel : decode prog_10_method_72_code 69 = .ok (.istore_n 3, 1)) (Nat.le_of_ble_eq_true rfl) rfl ?_
        refine g_iincN (n := 1) (L' := [some (.ref 0), some (.int (nI o)), some (.int (nI n)), some (.int (-3)), some (.int (nI (k + 1)))]) (by decide +kernel : decode prog_10_method_72_code 70 = .ok (.iinc 4 1, 3)) rfl (by decide) (Nat.le_of_ble_eq_true rfl) rfl ?_
        refine g_goto (tgt := 23) (by decide +kernel : decode prog_10_method_72_code 73 = .ok (.goto (-50), 3)) (by decide) ?_
        have h9 := ih (k + 1) (by omega) (by omega) f (yB k f b n) hR
        rw [(few_hid q57).trans hq] at h9
        exact h9
      · refine g_sto (σ' := mS (s_row σ 3 f) f (yB k f b n)) (by rw [s_row_row]) ?_
        refine g_if_neN (tgt := 68) (by decide +kernel : decode prog_10_method_72_code 60 = .ok (.ifCond .ne 8, 3)) (by decide) (by decide) (fun h => False.elim (by revert h; decide)) (fun _ => ?_)
        refine g_iload (by decide +kernel : decode prog_10_method_72_code 63 = .ok (.iload 4, 2)) rfl ?_
        refine g_goto (tgt := 69) (by decide +kernel : decode prog_10_method_72_code 65 = .ok (.goto 4, 3)) (by decide) ?_
        refine g_istore_n (L' := [some (.ref 0), some (.int (nI o)), some (.int (nI n)), some (.int (nI k)), some (.int (nI k))]) (by decide +kernel : decode prog_10_method_72_code 69 = .ok (.istore_n 3, 1)) (Nat.le_of_ble_eq_true rfl) rfl ?_
        refine g_iincN (n := 1) (L' := [some (.ref 0), some (.int (nI o)), some (.int (nI n)), some (.int (nI k)), some (.int (nI (k + 1)))]) (by decide +kernel : decode prog_10_method_72_code 70 = .ok (.iinc 4 1, 3)) rfl (by decide) (Nat.le_of_ble_eq_true rfl) rfl ?_
        refine g_goto (tgt := 23) (by decide +kernel : decode prog_10_method_72_code 73 = .ok (.goto (-50), 3)) (by decide) ?_
        have h9 := ih (k + 1) (by omega) (by omega) f (yB k f b n) hR
        rw [few_none q57 hq] at h9
        exact h9
  · show G (ΛM, mt_Md_fewest, 5) X (mS (s_row σ 3 a) f b) [some (.ref 0), some (.int (nI o)), some (.int (nI n)), some (.int (nI s)), some (.int (nI k))] [] 23
    have hs := few_lt f o n k s hq
    refine g_iload (by decide +kernel : decode prog_10_method_72_code 23 = .ok (.iload 4, 2)) rfl ?_
    refine g_iconst (v := nI 1) (by decide +kernel : decode prog_10_method_72_code 25 = .ok (.iconst 1, 1)) (by decide) ?_
    refine g_aload_n (by decide +kernel : decode prog_10_method_72_code 26 = .ok (.aload_n 0, 1)) rfl ?_
    refine g_getR (by decide +kernel : decode prog_10_method_72_code 27 = .ok (.getfield 7, 3)) fl_Md_7 rfl rfl ?_
    refine g_iconst (v := nI 0) (by decide +kernel : decode prog_10_method_72_code 30 = .ok (.iconst 0, 1)) (by decide) ?_
    refine g_iaload (a := 0) (by decide +kernel : decode prog_10_method_72_code 31 = .ok (.iaload, 1)) rfl rfl (by decide) (by decide) ?_
    refine g_top (w := nI (nn f)) (hI.n.1) ?_
    refine g_ishl (by decide +kernel : decode prog_10_method_72_code 32 = .ok (.ishl, 1)) ?_
    refine g_top (w := nI N) (by rw [hN]; exact nI_pow2 ⟨nn f, by omega⟩) ?_
    refine g_icmp_geN (tgt := 76) (by decide +kernel : decode prog_10_method_72_code 33 = .ok (.if_icmp .ge 43, 3)) (by decide) (by first | omega | (have h9 := popc_le k; have h8 := popc_le s; omega)) (by first | omega | (have h9 := popc_le k; have h8 := popc_le s; omega)) (fun h33 => ?_) (fun h33 => ?_)
    · refine g_iload_n (by decide +kernel : decode prog_10_method_72_code 76 = .ok (.iload_n 3, 1)) rfl ?_
      exact g_iret hR (by decide +kernel : decode prog_10_method_72_code 77 = .ok (.ireturn, 1)) rfl ⟨_, rfl, ⟨by rw [show k = N by omega] at hq; rw [hq]; rfl, ⟨_, _, rfl⟩⟩⟩
    · refine g_iload_n (by decide +kernel : decode prog_10_method_72_code 36 = .ok (.iload_n 3, 1)) rfl ?_
      refine g_if_ltN (by decide +kernel : decode prog_10_method_72_code 37 = .ok (.ifCond .lt 15, 3)) (by decide) (by first | omega | (have h9 := popc_le k; have h8 := popc_le s; omega)) ?_
      refine g_iload (by decide +kernel : decode prog_10_method_72_code 40 = .ok (.iload 4, 2)) rfl ?_
      refine g_callSI [.int (nI k)] (by decide +kernel : decode prog_10_method_72_code 42 = .ok (.invokestatic 192, 3)) lk_Md_192 (m_size ΛM (mS (s_row σ 3 a) f b) k (by omega)) rfl rfl (Nat.le_of_ble_eq_true rfl) (Nat.le_of_ble_eq_true rfl) (fun r42 s42 h42 => ?_)
      obtain ⟨rfl, rfl⟩ := h42
      refine g_iload_n (by decide +kernel : decode prog_10_method_72_code 45 = .ok (.iload_n 3, 1)) rfl ?_
      refine g_callSI [.int (nI s)] (by decide +kernel : decode prog_10_method_72_code 46 = .ok (.invokestatic 192, 3)) lk_Md_192 (m_size ΛM (mS (s_row σ 3 a) f b) s (by omega)) rfl rfl (Nat.le_of_ble_eq_true rfl) (Nat.le_of_ble_eq_true rfl) (fun r46 s46 h46 => ?_)
      obtain ⟨rfl, rfl⟩ := h46
      refine g_icmp_geN (tgt := 68) (by decide +kernel : decode prog_10_method_72_code 49 = .ok (.if_icmp .ge 19, 3)) (by decide) (by first | omega | (have h9 := popc_le k; have h8 := popc_le s; omega)) (by first | omega | (have h9 := popc_le k; have h8 := popc_le s; omega)) (fun h49 => ?_) (fun h49 => ?_)
      · refine g_iload_n (by decide +kernel : decode prog_10_method_72_code 68 = .ok (.iload_n 3, 1)) rfl ?_
        refine g_istore_n (L' := [some (.ref 0), some (.int (nI o)), some (.int (nI n)), some (.int (nI s)), some (.int (nI k))]) (by decide +kernel : decode prog_10_method_72_code 69 = .ok (.istore_n 3, 1)) (Nat.le_of_ble_eq_true rfl) rfl ?_
        refine g_iincN (n := 1) (L' := [some (.ref 0), some (.int (nI o)), some (.int (nI n)), some (.int (nI s)), some (.int (nI (k + 1)))]) (by decide +kernel : decode prog_10_method_72_code 70 = .ok (.iinc 4 1, 3)) rfl (by decide) (Nat.le_of_ble_eq_true rfl) rfl ?_
        refine g_goto (tgt := 23) (by decide +kernel : decode prog_10_method_72_code 73 = .ok (.goto (-50), 3)) (by decide) ?_
        have h9 := ih (k + 1) (by omega) (by omega) a b hR
        rw [few_ge hq (by omega)] at h9
        exact h9
      · refine g_aload_n (by decide +kernel : decode prog_10_method_72_code 52 = .ok (.aload_n 0, 1)) rfl ?_
        refine g_iload_n (by decide +kernel : decode prog_10_method_72_code 53 = .ok (.iload_n 1, 1)) rfl ?_
        refine g_iload_n (by decide +kernel : decode prog_10_method_72_code 54 = .ok (.iload_n 2, 1)) rfl ?_
        refine g_iload (by decide +kernel : decode prog_10_method_72_code 55 = .ok (.iload 4, 2)) rfl ?_
        refine g_callVI [.int (nI o), .int (nI n), .int (nI k)] (by decide +kernel : decode prog_10_method_72_code 57 = .ok (.invokevirtual 236, 3)) lk_Md_236 (m_isHiddenBy (s_row σ 3 a) f b hI o ho n k (by omega) (by omega)) rfl rfl rfl rfl (Nat.le_of_ble_eq_true rfl) (Nat.le_of_ble_eq_true rfl) (fun r57 s57 h57 => ?_)
        rcases h57 with ⟨rfl, ⟨rfl, q57⟩ | ⟨rfl, q57⟩⟩
        · refine g_sto (σ' := mS (s_row σ 3 f) f (yB k f b n)) (by rw [s_row_row]) ?_
          refine g_if_neN (tgt := 68) (by decide +kernel : decode prog_10_method_72_code 60 = .ok (.ifCond .ne 8, 3)) (by decide) (by decide) (fun _ => ?_) (fun h => False.elim (by revert h; decide))
          refine g_iload_n (by decide +kernel : decode prog_10_method_72_code 68 = .ok (.iload_n 3, 1)) rfl ?_
          refine g_istore_n (L' := [some (.ref 0), some (.int (nI o)), some (.int (nI n)), some (.int (nI s)), some (.int (nI k))]) (by decide +kernel : decode prog_10_method_72_code 69 = .ok (.istore_n 3, 1)) (Nat.le_of_ble_eq_true rfl) rfl ?_
          refine g_iincN (n := 1) (L' := [some (.ref 0), some (.int (nI o)), some (.int (nI n)), some (.int (nI s)), some (.int (nI (k + 1)))]) (by decide +kernel : decode prog_10_method_72_code 70 = .ok (.iinc 4 1, 3)) rfl (by decide) (Nat.le_of_ble_eq_true rfl) rfl ?_
          refine g_goto (tgt := 23) (by decide +kernel : decode prog_10_method_72_code 73 = .ok (.goto (-50), 3)) (by decide) ?_
          have h9 := ih (k + 1) (by omega) (by omega) f (yB k f b n) hR
          rw [(few_hid q57).trans hq] at h9
          exact h9
        · refine g_sto (σ' := mS (s_row σ 3 f) f (yB k f b n)) (by rw [s_row_row]) ?_
          refine g_if_neN (tgt := 68) (by decide +kernel : decode prog_10_method_72_code 60 = .ok (.ifCond .ne 8, 3)) (by decide) (by decide) (fun h => False.elim (by revert h; decide)) (fun _ => ?_)
          refine g_iload (by decide +kernel : decode prog_10_method_72_code 63 = .ok (.iload 4, 2)) rfl ?_
          refine g_goto (tgt := 69) (by decide +kernel : decode prog_10_method_72_code 65 = .ok (.goto 4, 3)) (by decide) ?_
          refine g_istore_n (L' := [some (.ref 0), some (.int (nI o)), some (.int (nI n)), some (.int (nI k)), some (.int (nI k))]) (by decide +kernel : decode prog_10_method_72_code 69 = .ok (.istore_n 3, 1)) (Nat.le_of_ble_eq_true rfl) rfl ?_
          refine g_iincN (n := 1) (L' := [some (.ref 0), some (.int (nI o)), some (.int (nI n)), some (.int (nI k)), some (.int (nI (k + 1)))]) (by decide +kernel : decode prog_10_method_72_code 70 = .ok (.iinc 4 1, 3)) rfl (by decide) (Nat.le_of_ble_eq_true rfl) rfl ?_
          refine g_goto (tgt := 23) (by decide +kernel : decode prog_10_method_72_code 73 = .ok (.goto (-50), 3)) (by decide) ?_
          have h9 := ih (k + 1) (by omega) (by omega) f (yB k f b n) hR
          rw [few_lt' q57 hq (by omega)] at h9
          exact h9
set_option maxRecDepth 20000 in
theorem p_fewest (σ : Store) (f b : Row) (hI : Inv f) (x y : Int32) : Ct ΛM mt_Md_fewest 5 [.ref 0, .int x, .int y] (mS σ f b) (mP σ (fewV f x y) f) := by
  refine Ct.of (by decide) (Nat.le_of_ble_eq_true rfl) (fun X hR => ?_)
  show G (ΛM, mt_Md_fewest, 5) X (mS σ f b) [some (.ref 0), some (.int x), some (.int y), none, none] [] 0
  have hn8 := hI.n.2
  have hN2 : 2 ^ nn f ≤ 256 := Nat.pow_le_pow_right (n := 2) (by decide) hn8
  refine g_aload_n (by decide +kernel : decode prog_10_method_72_code 0 = .ok (.aload_n 0, 1)) rfl ?_
  refine g_iload_n (by decide +kernel : decode prog_10_method_72_code 1 = .ok (.iload_n 1, 1)) rfl ?_
  refine g_callVI [.int x] (by decide +kernel : decode prog_10_method_72_code 2 = .ok (.invokevirtual 172, 3)) lk_Md_172 (m_isOne (mS σ f b) x hI.n.1 (by omega)) rfl rfl rfl rfl (Nat.le_of_ble_eq_true rfl) (Nat.le_of_ble_eq_true rfl) (fun r2 s2 h2 => ?_)
  rcases h2 with ⟨rfl, ⟨rfl, o, ho2, rfl⟩ | ⟨rfl, n2⟩⟩
  · refine g_if_eqN (tgt := 15) (by decide +kernel : decode prog_10_method_72_code 5 = .ok (.ifCond .eq 10, 3)) (by decide) (by decide) (fun h => False.elim (by revert h; decide)) (fun _ => ?_)
    refine g_iload_n (by decide +kernel : decode prog_10_method_72_code 8 = .ok (.iload_n 2, 1)) rfl ?_
    refine g_callSI [.int y] (by decide +kernel : decode prog_10_method_72_code 9 = .ok (.invokestatic 233, 3)) lk_Md_233 (m_isShort (mS σ f b) y) rfl rfl (Nat.le_of_ble_eq_true rfl) (Nat.le_of_ble_eq_true rfl) (fun r9 s9 h9 => ?_)
    rcases h9 with ⟨rfl, ⟨rfl, n, ha9, hb9, rfl⟩ | ⟨rfl, n9⟩⟩
    · refine g_if_neN (tgt := 17) (by decide +kernel : decode prog_10_method_72_code 12 = .ok (.ifCond .ne 5, 3)) (by decide) (by decide) (fun _ => ?_) (fun h => False.elim (by revert h; decide))
      refine g_bipush (v := (-3)) (by decide +kernel : decode prog_10_method_72_code 17 = .ok (.bipush (-3), 2)) (by decide) ?_
      refine g_istore_n (L' := [some (.ref 0), some (.int (nI o)), some (.int (nI n)), some (.int (-3)), none]) (by decide +kernel : decode prog_10_method_72_code 19 = .ok (.istore_n 3, 1)) (Nat.le_of_ble_eq_true rfl) rfl ?_
      refine g_iconst (v := nI 0) (by decide +kernel : decode prog_10_method_72_code 20 = .ok (.iconst 0, 1)) (by decide) ?_
      refine g_istore (L' := [some (.ref 0), some (.int (nI o)), some (.int (nI n)), some (.int (-3)), some (.int (nI 0))]) (by decide +kernel : decode prog_10_method_72_code 21 = .ok (.istore 4, 2)) (Nat.le_of_ble_eq_true rfl) rfl ?_
      refine g_sto (σ' := mS (s_row σ 3 (σ 3)) f b) (by rw [s_row_self]) ?_
      exact p_few_lp hI ho2 (by omega) rfl hN2 (2 ^ nn f + 1) 0 (Nat.zero_le _) (Nat.lt_succ_of_le (Nat.sub_le _ _)) _ _ (by simpa only [fewV, pz_of hI ho2, rg_of ha9 hb9] using hR)
    · refine g_if_neN (tgt := 17) (by decide +kernel : decode prog_10_method_72_code 12 = .ok (.ifCond .ne 5, 3)) (by decide) (by decide) (fun h => False.elim (by revert h; decide)) (fun _ => ?_)
      refine g_iconst (v := (-1)) (by decide +kernel : decode prog_10_method_72_code 15 = .ok (.iconst (-1), 1)) (by decide) ?_
      exact g_iret hR (by decide +kernel : decode prog_10_method_72_code 16 = .ok (.ireturn, 1)) rfl ⟨_, rfl, ⟨by simp only [fewV, pz_of hI ho2, rg_none n9], Jk.self _ _ _⟩⟩
  · refine g_if_eqN (tgt := 15) (by decide +kernel : decode prog_10_method_72_code 5 = .ok (.ifCond .eq 10, 3)) (by decide) (by decide) (fun _ => ?_) (fun h => False.elim (by revert h; decide))
    refine g_iconst (v := (-1)) (by decide +kernel : decode prog_10_method_72_code 15 = .ok (.iconst (-1), 1)) (by decide) ?_
    exact g_iret hR (by decide +kernel : decode prog_10_method_72_code 16 = .ok (.ireturn, 1)) rfl ⟨_, rfl, ⟨by simp only [fewV, pz_none hI n2], Jk.self _ _ _⟩⟩
def drw (z : Int32) : Int32 := z * 1103515245 + nI 12345
def sh16 (z : Int32) : Int32 := (Int32.toUInt32 z >>> (Int32.toUInt32 (nI 16) &&& Int32.toUInt32 31)).toInt32
theorem sh16_n (z : Int32) : sh16 z = nI (tn (sh16 z)) ∧ tn (sh16 z) < 65536 := by
  have h := pk_ushr z (nI 16) 16 (by decide +kernel)
  have h1 : z.toBitVec.toNat < 2 ^ 32 := z.toBitVec.isLt
  have h2 : (sh16 z).toBitVec.toNat = z.toBitVec.toNat / 2 ^ 16 := h
  have h3 : (sh16 z).toBitVec.toNat < 65536 := by rw [h2]; omega
  have h4 : sh16 z = nI ((sh16 z).toBitVec.toNat) := by
    apply Int32.toBitVec_inj.mp
    apply BitVec.eq_of_toNat_eq
    rw [pk_tn (by omega)]
  rw [h4, tn_nI (by omega)]
  exact ⟨rfl, h3⟩
/-- a draw before a year: one may turn -/
def dyr (f : Row) : Row := if nn f = 0 then f else
  let g := upd (upd f 2 (drw (f 2))) 2 (drw (drw (f 2)))
  let o := tn (sh16 (drw (f 2))) % nn f
  if g 6 ≤ nI (tn (sh16 (drw (drw (f 2)))) % 100) then g else upd g (19 + 6 * o + 4) (nI 1 - g (19 + 6 * o + 4))
theorem dyr_inv {f : Row} (h : Inv f) : Inv (dyr f) ∧ nn (dyr f) = nn f := by
  unfold dyr
  split
  · exact ⟨h, rfl⟩
  · rename_i h0
    dsimp only
    have hg := (h.z (drw (f 2))).z (drw (drw (f 2)))
    have hn : nn (upd (upd f 2 (drw (f 2))) 2 (drw (drw (f 2)))) = nn f := by rw [nn_up (by decide), nn_up (by decide)]
    split
    · exact ⟨hg, hn⟩
    · have ho : tn (sh16 (drw (f 2))) % nn f < nn f := Nat.mod_lt _ (by omega)
      refine ⟨hg.up (by decide) ?_, by rw [nn_up (by omega)]; exact hn⟩
      obtain ⟨k, hk, e⟩ := hg.2.1 (tn (sh16 (drw (f 2))) % nn f) (by omega) 4 (by decide)
      have hk1 : k ≤ 1 := hk
      rw [e, pk_sub hk1]
      exact Rng.of (by show 1 - k ≤ 1; omega)
def yearT (f : Row) : Row := yF 255 (dyr f)
theorem yearT_inv {f : Row} (h : Inv f) : Inv (yearT f) ∧ nn (yearT f) = nn f := ⟨(yF_inv (dyr_inv h).1).1, (yF_inv (dyr_inv h).1).2.trans (dyr_inv h).2⟩
set_option maxRecDepth 20000 in
theorem m_drawn (σ : Store) (f b : Row)  : Ct ΛM mt_Md_drawn 0 [.ref 0] (mS σ f b) (PF (sh16 (drw (f 2))) (mS σ (upd f 2 (drw (f 2))) b)) := by
  refine Ct.of (by decide) (Nat.le_of_ble_eq_true rfl) (fun X hR => ?_)
  show G (ΛM, mt_Md_drawn, 0) X (mS σ f b) [some (.ref 0)] [] 0
  refine g_aload_n (by decide +kernel : decode prog_10_method_54_code 0 = .ok (.aload_n 0, 1)) rfl ?_
  refine g_getR (by decide +kernel : decode prog_10_method_54_code 1 = .ok (.getfield 7, 3)) fl_Md_7 rfl rfl ?_
  refine g_iconst (v := nI 2) (by decide +kernel : decode prog_10_method_54_code 4 = .ok (.iconst 2, 1)) (by decide) ?_
  refine g_aload_n (by decide +kernel : decode prog_10_method_54_code 5 = .ok (.aload_n 0, 1)) rfl ?_
  refine g_getR (by decide +kernel : decode prog_10_method_54_code 6 = .ok (.getfield 7, 3)) fl_Md_7 rfl rfl ?_
  refine g_iconst (v := nI 2) (by decide +kernel : decode prog_10_method_54_code 9 = .ok (.iconst 2, 1)) (by decide) ?_
  refine g_iaload (a := 2) (by decide +kernel : decode prog_10_method_54_code 10 = .ok (.iaload, 1)) rfl rfl (by decide) (by decide) ?_
  refine g_top (w := f 2) (rfl) ?_
  refine g_ldc (by decide +kernel : decode prog_10_method_54_code 11 = .ok (.ldc 210, 2)) kc_Md_210 ?_
  refine g_imul (by decide +kernel : decode prog_10_method_54_code 13 = .ok (.imul, 1)) ?_
  refine g_sipush (v := nI 12345) (by decide +kernel : decode prog_10_method_54_code 14 = .ok (.sipush 12345, 3)) (by decide) ?_
  refine g_iadd (by decide +kernel : decode prog_10_method_54_code 17 = .ok (.iadd, 1)) ?_
  refine g_iastore (a := 2) (by decide +kernel : decode prog_10_method_54_code 18 = .ok (.iastore, 1)) rfl rfl (by decide) (by decide) ?_
  refine g_sto (mS_u1 _ _ _ _ _) ?_
  refine g_aload_n (by decide +kernel : decode prog_10_method_54_code 19 = .ok (.aload_n 0, 1)) rfl ?_
  refine g_getR (by decide +kernel : decode prog_10_method_54_code 20 = .ok (.getfield 7, 3)) fl_Md_7 rfl rfl ?_
  refine g_iconst (v := nI 2) (by decide +kernel : decode prog_10_method_54_code 23 = .ok (.iconst 2, 1)) (by decide) ?_
  refine g_iaload (a := 2) (by decide +kernel : decode prog_10_method_54_code 24 = .ok (.iaload, 1)) rfl rfl (by decide) (by decide) ?_
  refine g_top (w := drw (f 2)) (by rw [mS_1, upd_s]; rfl) ?_
  refine g_bipush (v := nI 16) (by decide +kernel : decode prog_10_method_54_code 25 = .ok (.bipush 16, 2)) (by decide) ?_
  refine g_iushr (by decide +kernel : decode prog_10_method_54_code 27 = .ok (.iushr, 1)) ?_
  exact g_iret hR (by decide +kernel : decode prog_10_method_54_code 28 = .ok (.ireturn, 1)) rfl ⟨_, rfl, ⟨rfl, rfl⟩⟩
end
section
/-! THE REFERENCE: years by draws -/
set_option maxRecDepth 20000 in
theorem m_year (σ : Store) (f b : Row) (hI : Inv f) : Ct ΛM mt_Md_year 4 [.ref 0] (mS σ f b) (PF (nI (hc (yearT f))) (mS σ (yearT f) (yr 255 (dyr f) b).2)) := by
  refine Ct.of (by decide) (Nat.le_of_ble_eq_true rfl) (fun X hR => ?_)
  show G (ΛM, mt_Md_year, 4) X (mS σ f b) [some (.ref 0), none] [] 0
  have hn8 := hI.n.2
  have K60 : G (ΛM, mt_Md_year, 4) X (mS σ (dyr f) b) [some (.ref 0), none] [] 60 := by
    refine g_aload_n (by decide +kernel : decode prog_10_method_55_code 60 = .ok (.aload_n 0, 1)) rfl ?_
    refine g_sipush (v := nI 255) (by decide +kernel : decode prog_10_method_55_code 61 = .ok (.sipush 255, 3)) (by decide) ?_
    refine g_callVV [.int (nI 255)] (by decide +kernel : decode prog_10_method_55_code 64 = .ok (.invokevirtual 202, 3)) lk_Md_202 (m_goesBy σ (dyr f) b (dyr_inv hI).1 255 (by decide)) rfl rfl rfl rfl (Nat.le_of_ble_eq_true rfl) (Nat.le_of_ble_eq_true rfl) (fun s64 h64 => ?_)
    obtain rfl := h64
    refine g_sto (σ' := mS σ (yearT f) (yr 255 (dyr f) b).2) (by rw [yr_1]; rfl) ?_
    refine g_aload_n (by decide +kernel : decode prog_10_method_55_code 67 = .ok (.aload_n 0, 1)) rfl ?_
    refine g_callVI [] (by decide +kernel : decode prog_10_method_55_code 68 = .ok (.invokevirtual 189, 3)) lk_Md_189 (m_hiddenOnes σ (yearT f) ((yr 255 (dyr f) b).2) (yearT_inv hI).1) rfl rfl rfl rfl (Nat.le_of_ble_eq_true rfl) (Nat.le_of_ble_eq_true rfl) (fun r68 s68 h68 => ?_)
    obtain ⟨rfl, rfl⟩ := h68
    refine g_callSI [.int (nI (msk (yearT f) (nn (yearT f))))] (by decide +kernel : decode prog_10_method_55_code 71 = .ok (.invokestatic 192, 3)) lk_Md_192 (m_size ΛM (mS σ (yearT f) ((yr 255 (dyr f) b).2)) (msk (yearT f) (nn (yearT f))) (m_count σ (yearT f) (fun _ => 0) (yearT_inv hI).1)) rfl rfl (Nat.le_of_ble_eq_true rfl) (Nat.le_of_ble_eq_true rfl) (fun r71 s71 h71 => ?_)
    obtain ⟨rfl, rfl⟩ := h71
    exact g_iret hR (by decide +kernel : decode prog_10_method_55_code 74 = .ok (.ireturn, 1)) rfl ⟨_, rfl, ⟨rfl, rfl⟩⟩
  refine g_aload_n (by decide +kernel : decode prog_10_method_55_code 0 = .ok (.aload_n 0, 1)) rfl ?_
  refine g_getR (by decide +kernel : decode prog_10_method_55_code 1 = .ok (.getfield 7, 3)) fl_Md_7 rfl rfl ?_
  refine g_iconst (v := nI 0) (by decide +kernel : decode prog_10_method_55_code 4 = .ok (.iconst 0, 1)) (by decide) ?_
  refine g_iaload (a := 0) (by decide +kernel : decode prog_10_method_55_code 5 = .ok (.iaload, 1)) rfl rfl (by decide) (by decide) ?_
  refine g_top (w := nI (nn f)) (hI.n.1) ?_
  refine g_if_leN (tgt := 60) (by decide +kernel : decode prog_10_method_55_code 6 = .ok (.ifCond .le 54, 3)) (by decide) (by first | omega | (have h9 := (sh16_n (drw (f 2))).2; omega) | (have h9 := (sh16_n (drw (drw (f 2)))).2; omega)) (fun h6 => ?_) (fun h6 => ?_)
  · refine g_sto (σ' := mS σ (dyr f) b) (by rw [dyr, if_pos h6]) ?_
    refine g_sub (L' := [some (.ref 0), none]) ⟨rfl, trivial⟩ ?_
    exact K60
  · refine g_aload_n (by decide +kernel : decode prog_10_method_55_code 9 = .ok (.aload_n 0, 1)) rfl ?_
    refine g_callVI [] (by decide +kernel : decode prog_10_method_55_code 10 = .ok (.invokevirtual 211, 3)) lk_Md_211 (m_drawn σ f b) rfl rfl rfl rfl (Nat.le_of_ble_eq_true rfl) (Nat.le_of_ble_eq_true rfl) (fun r10 s10 h10 => ?_)
    obtain ⟨rfl, rfl⟩ := h10
    refine g_top (w := nI (tn (sh16 (drw (f 2))))) ((sh16_n _).1) ?_
    refine g_aload_n (by decide +kernel : decode prog_10_method_55_code 13 = .ok (.aload_n 0, 1)) rfl ?_
    refine g_getR (by decide +kernel : decode prog_10_method_55_code 14 = .ok (.getfield 7, 3)) fl_Md_7 rfl rfl ?_
    refine g_iconst (v := nI 0) (by decide +kernel : decode prog_10_method_55_code 17 = .ok (.iconst 0, 1)) (by decide) ?_
    refine g_iaload (a := 0) (by decide +kernel : decode prog_10_method_55_code 18 = .ok (.iaload, 1)) rfl rfl (by decide) (by decide) ?_
    refine g_top (w := nI (nn f)) (by rw [mS_1]; simp (disch := omega) only [upd_n]; exact hI.n.1) ?_
    refine g_iremN (by decide +kernel : decode prog_10_method_55_code 19 = .ok (.irem, 1)) (by first | omega | (have h9 := (sh16_n (drw (f 2))).2; omega) | (have h9 := (sh16_n (drw (drw (f 2)))).2; omega)) (by first | omega | (have h9 := (sh16_n (drw (f 2))).2; omega) | (have h9 := (sh16_n (drw (drw (f 2)))).2; omega)) (by first | omega | (have h9 := (sh16_n (drw (f 2))).2; omega) | (have h9 := (sh16_n (drw (drw (f 2)))).2; omega)) ?_
    obtain ⟨o, ho⟩ : ∃ o, o = tn (sh16 (drw (f 2))) % nn f := ⟨_, rfl⟩
    have hon : o < nn f := by rw [ho]; exact Nat.mod_lt _ (by omega)
    refine g_top (w := nI o) (by rw [ho]) ?_
    refine g_istore_n (L' := [some (.ref 0), some (.int (nI o))]) (by decide +kernel : decode prog_10_method_55_code 20 = .ok (.istore_n 1, 1)) (Nat.le_of_ble_eq_true rfl) rfl ?_
    refine g_aload_n (by decide +kernel : decode prog_10_method_55_code 21 = .ok (.aload_n 0, 1)) rfl ?_
    refine g_callVI [] (by decide +kernel : decode prog_10_method_55_code 22 = .ok (.invokevirtual 211, 3)) lk_Md_211 (m_drawn σ (upd f 2 (drw (f 2))) b) rfl rfl rfl rfl (Nat.le_of_ble_eq_true rfl) (Nat.le_of_ble_eq_true rfl) (fun r22 s22 h22 => ?_)
    obtain ⟨rfl, rfl⟩ := h22
    refine g_sto (σ' := mS σ (upd (upd f 2 (drw (f 2))) 2 (drw (drw (f 2)))) b) (by rw [upd_s]) ?_
    refine g_top (w := nI (tn (sh16 (drw (drw (f 2)))))) (by rw [upd_s]; exact (sh16_n _).1) ?_
    refine g_bipush (v := nI 100) (by decide +kernel : decode prog_10_method_55_code 25 = .ok (.bipush 100, 2)) (by decide) ?_
    refine g_iremN (by decide +kernel : decode prog_10_method_55_code 27 = .ok (.irem, 1)) (by first | omega | (have h9 := (sh16_n (drw (f 2))).2; omega) | (have h9 := (sh16_n (drw (drw (f 2)))).2; omega)) (by decide) (by decide) ?_
    refine g_aload_n (by decide +kernel : decode prog_10_method_55_code 28 = .ok (.aload_n 0, 1)) rfl ?_
    refine g_getR (by decide +kernel : decode prog_10_method_55_code 29 = .ok (.getfield 7, 3)) fl_Md_7 rfl rfl ?_
    refine g_bipush (v := nI 6) (by decide +kernel : decode prog_10_method_55_code 32 = .ok (.bipush 6, 2)) (by decide) ?_
    refine g_iaload (a := 6) (by decide +kernel : decode prog_10_method_55_code 34 = .ok (.iaload, 1)) rfl rfl (by decide) (by decide) ?_
    refine g_top (w := (upd (upd f 2 (drw (f 2))) 2 (drw (drw (f 2)))) 6) (rfl) ?_
    refine g_icmp_ge (tgt := 60) (by decide +kernel : decode prog_10_method_55_code 35 = .ok (.if_icmp .ge 25, 3)) (by decide) (fun h35 => ?_) (fun h35 => ?_)
    · refine g_sto (σ' := mS σ (dyr f) b) (by simp only [dyr, if_neg h6, if_pos h35]) ?_
      refine g_sub (L' := [some (.ref 0), none]) ⟨rfl, trivial⟩ ?_
      exact K60
    · refine g_aload_n (by decide +kernel : decode prog_10_method_55_code 38 = .ok (.aload_n 0, 1)) rfl ?_
      refine g_getR (by decide +kernel : decode prog_10_method_55_code 39 = .ok (.getfield 7, 3)) fl_Md_7 rfl rfl ?_
      refine g_bipush (v := nI 19) (by decide +kernel : decode prog_10_method_55_code 42 = .ok (.bipush 19, 2)) (by decide) ?_
      refine g_bipush (v := nI 6) (by decide +kernel : decode prog_10_method_55_code 44 = .ok (.bipush 6, 2)) (by decide) ?_
      refine g_iload_n (by decide +kernel : decode prog_10_method_55_code 46 = .ok (.iload_n 1, 1)) rfl ?_
      refine g_imulN (by decide +kernel : decode prog_10_method_55_code 47 = .ok (.imul, 1)) ?_
      refine g_iaddN (by decide +kernel : decode prog_10_method_55_code 48 = .ok (.iadd, 1)) ?_
      refine g_iconst (v := nI 4) (by decide +kernel : decode prog_10_method_55_code 49 = .ok (.iconst 4, 1)) (by decide) ?_
      refine g_iaddN (by decide +kernel : decode prog_10_method_55_code 50 = .ok (.iadd, 1)) ?_
      refine g_iconst (v := nI 1) (by decide +kernel : decode prog_10_method_55_code 51 = .ok (.iconst 1, 1)) (by decide) ?_
      refine g_aload_n (by decide +kernel : decode prog_10_method_55_code 52 = .ok (.aload_n 0, 1)) rfl ?_
      refine g_iload_n (by decide +kernel : decode prog_10_method_55_code 53 = .ok (.iload_n 1, 1)) rfl ?_
      refine g_iconst (v := nI 4) (by decide +kernel : decode prog_10_method_55_code 54 = .ok (.iconst 4, 1)) (by decide) ?_
      refine g_callVI [.int (nI o), .int (nI 4)] (by decide +kernel : decode prog_10_method_55_code 55 = .ok (.invokevirtual 169, 3)) lk_Md_169 (m_its (mS σ (upd (upd f 2 (drw (f 2))) 2 (drw (drw (f 2)))) b) o 4 (v := (upd (upd f 2 (drw (f 2))) 2 (drw (drw (f 2)))) (19 + 6 * o + 4)) rfl (by first | omega | (have h9 := (sh16_n (drw (f 2))).2; omega) | (have h9 := (sh16_n (drw (drw (f 2)))).2; omega))) rfl rfl rfl rfl (Nat.le_of_ble_eq_true rfl) (Nat.le_of_ble_eq_true rfl) (fun r55 s55 h55 => ?_)
      obtain ⟨rfl, rfl⟩ := h55
      refine g_isub (by decide +kernel : decode prog_10_method_55_code 58 = .ok (.isub, 1)) ?_
      refine g_iastore (a := 19 + 6 * o + 4) (by decide +kernel : decode prog_10_method_55_code 59 = .ok (.iastore, 1)) rfl rfl (by first | omega | (have h9 := (sh16_n (drw (f 2))).2; omega) | (have h9 := (sh16_n (drw (drw (f 2)))).2; omega)) (by decide) ?_
      refine g_sto (mS_u1 _ _ _ _ _) ?_
      refine g_sto (σ' := mS σ (dyr f) b) (by subst ho; simp only [dyr, if_neg h6, if_neg h35]) ?_
      refine g_sub (L' := [some (.ref 0), none]) ⟨rfl, trivial⟩ ?_
      exact K60
/-- nights: z, and in how many of k more are hidden than now -/
def ngt (f : Row) : Nat → Int32 × Nat
  | 0 => (f 2, 0)
  | k + 1 => ((yearT (upd f 2 (ngt f k).1)) 2, (ngt f k).2 + (if hc f < hc (yearT (upd f 2 (ngt f k).1)) then 1 else 0))
theorem ngt_le (f : Row) : ∀ k, (ngt f k).2 ≤ k := by
  intro k
  induction k with
  | zero => exact Nat.le_refl _
  | succ k ih =>
    show (ngt f k).2 + (if _ then _ else _) ≤ _
    split <;> omega
def nightsV (f : Row) (x : Int32) : Int32 := match rg 1 30 x with
  | none => -1
  | some n => nI (ngt f n).2
set_option maxRecDepth 20000 in
theorem p_nights_lp {X : CX} {σ : Store} {f : Row} (hI : Inv f) {n : Nat} (hn : n < 2 ^ 31) : ∀ (b9 k : Nat), k ≤ n → n - k < b9 → ∀ (g b : Row), Rt (ΛM, mt_Md_nights, 5) (mP σ (nI (ngt f n).2) f) X → G (ΛM, mt_Md_nights, 5) X (mS (s_row σ 3 f) g b) [some (.ref 0), some (.int (nI n)), some (.int (nI (hc f))), some (.int ((ngt f k).1)), some (.int (nI ((ngt f k).2))), some (.int (nI k))] [] 46 := by
  have hn8 := hI.n.2
  intro b9
  induction b9 with
  | zero => intro k hk hb g b hR; omega
  | succ b9 ih =>
  intro k hk hb g b hR
  have hl := ngt_le f k
  refine g_iload (by decide +kernel : decode prog_10_method_56_code 46 = .ok (.iload 5, 2)) rfl ?_
  refine g_iload_n (by decide +kernel : decode prog_10_method_56_code 48 = .ok (.iload_n 1, 1)) rfl ?_
  refine g_icmp_geN (tgt := 101) (by decide +kernel : decode prog_10_method_56_code 49 = .ok (.if_icmp .ge 52, 3)) (by decide) (by first | omega | (have h9 := hc_le f; omega) | (have h9 := hc_le (yearT (upd f 2 (ngt f k).1)); omega)) (by first | omega | (have h9 := hc_le f; omega) | (have h9 := hc_le (yearT (upd f 2 (ngt f k).1)); omega)) (fun h49 => ?_) (fun h49 => ?_)
  · refine g_aload_n (by decide +kernel : decode prog_10_method_56_code 101 = .ok (.aload_n 0, 1)) rfl ?_
    refine g_getR (by decide +kernel : decode prog_10_method_56_code 102 = .ok (.getfield 16, 3)) fl_Md_16 rfl rfl ?_
    refine g_aload_n (by decide +kernel : decode prog_10_method_56_code 105 = .ok (.aload_n 0, 1)) rfl ?_
    refine g_getR (by decide +kernel : decode prog_10_method_56_code 106 = .ok (.getfield 7, 3)) fl_Md_7 rfl rfl ?_
    refine g_callSV [.ref 3, .ref 1] (by decide +kernel : decode prog_10_method_56_code 109 = .ok (.invokestatic 141, 3)) lk_Md_141 (m_back σ f g b) rfl rfl (Nat.le_of_ble_eq_true rfl) (Nat.le_of_ble_eq_true rfl) (fun s109 h109 => ?_)
    obtain rfl := h109
    refine g_iload (by decide +kernel : decode prog_10_method_56_code 112 = .ok (.iload 4, 2)) rfl ?_
    exact g_iret hR (by decide +kernel : decode prog_10_method_56_code 114 = .ok (.ireturn, 1)) rfl ⟨_, rfl, ⟨by rw [show k = n by omega], ⟨_, _, rfl⟩⟩⟩
  · refine g_aload_n (by decide +kernel : decode prog_10_method_56_code 52 = .ok (.aload_n 0, 1)) rfl ?_
    refine g_getR (by decide +kernel : decode prog_10_method_56_code 53 = .ok (.getfield 16, 3)) fl_Md_16 rfl rfl ?_
    refine g_aload_n (by decide +kernel : decode prog_10_method_56_code 56 = .ok (.aload_n 0, 1)) rfl ?_
    refine g_getR (by decide +kernel : decode prog_10_method_56_code 57 = .ok (.getfield 7, 3)) fl_Md_7 rfl rfl ?_
    refine g_callSV [.ref 3, .ref 1] (by decide +kernel : decode prog_10_method_56_code 60 = .ok (.invokestatic 141, 3)) lk_Md_141 (m_back σ f g b) rfl rfl (Nat.le_of_ble_eq_true rfl) (Nat.le_of_ble_eq_true rfl) (fun s60 h60 => ?_)
    obtain rfl := h60
    refine g_aload_n (by decide +kernel : decode prog_10_method_56_code 63 = .ok (.aload_n 0, 1)) rfl ?_
    refine g_getR (by decide +kernel : decode prog_10_method_56_code 64 = .ok (.getfield 7, 3)) fl_Md_7 rfl rfl ?_
    refine g_iconst (v := nI 2) (by decide +kernel : decode prog_10_method_56_code 67 = .ok (.iconst 2, 1)) (by decide) ?_
    refine g_iload_n (by decide +kernel : decode prog_10_method_56_code 68 = .ok (.iload_n 3, 1)) rfl ?_
    refine g_iastore (a := 2) (by decide +kernel : decode prog_10_method_56_code 69 = .ok (.iastore, 1)) rfl rfl (by decide) (by decide) ?_
    refine g_sto (mS_u1 _ _ _ _ _) ?_
    refine g_iload (by decide +kernel : decode prog_10_method_56_code 70 = .ok (.iload 4, 2)) rfl ?_
    refine g_aload_n (by decide +kernel : decode prog_10_method_56_code 72 = .ok (.aload_n 0, 1)) rfl ?_
    refine g_callVI [] (by decide +kernel : decode prog_10_method_56_code 73 = .ok (.invokevirtual 216, 3)) lk_Md_216 (m_year (s_row σ 3 f) (upd f 2 (ngt f k).1) b (hI.z _)) rfl rfl rfl rfl (Nat.le_of_ble_eq_true rfl) (Nat.le_of_ble_eq_true rfl) (fun r73 s73 h73 => ?_)
    obtain ⟨rfl, rfl⟩ := h73
    refine g_iload_n (by decide +kernel : decode prog_10_method_56_code 76 = .ok (.iload_n 2, 1)) rfl ?_
    have J77 : G (ΛM, mt_Md_nights, 5) X (mS (s_row σ 3 f) (yearT (upd f 2 (ngt f k).1)) ((yr 255 (dyr (upd f 2 (ngt f k).1)) b).2)) [some (.ref 0), some (.int (nI n)), some (.int (nI (hc f))), some (.int ((ngt f k).1)), some (.int (nI ((ngt f k).2))), some (.int (nI k))] [.int (nI (if hc f < hc (yearT (upd f 2 (ngt f k).1)) then 1 else 0)), .int (nI ((ngt f k).2))] 85 := by
      refine g_iaddN (by decide +kernel : decode prog_10_method_56_code 85 = .ok (.iadd, 1)) ?_
      refine g_istore (L' := [some (.ref 0), some (.int (nI n)), some (.int (nI (hc f))), some (.int ((ngt f k).1)), some (.int (nI ((ngt f k).2 + if hc f < hc (yearT (upd f 2 (ngt f k).1)) then 1 else 0))), some (.int (nI k))]) (by decide +kernel : decode prog_10_method_56_code 86 = .ok (.istore 4, 2)) (Nat.le_of_ble_eq_true rfl) rfl ?_
      refine g_aload_n (by decide +kernel : decode prog_10_method_56_code 88 = .ok (.aload_n 0, 1)) rfl ?_
      refine g_getR (by decide +kernel : decode prog_10_method_56_code 89 = .ok (.getfield 7, 3)) fl_Md_7 rfl rfl ?_
      refine g_iconst (v := nI 2) (by decide +kernel : decode prog_10_method_56_code 92 = .ok (.iconst 2, 1)) (by decide) ?_
      refine g_iaload (a := 2) (by decide +kernel : decode prog_10_method_56_code 93 = .ok (.iaload, 1)) rfl rfl (by decide) (by decide) ?_
      refine g_top (w := (yearT (upd f 2 (ngt f k).1)) 2) (rfl) ?_
      refine g_istore_n (L' := [some (.ref 0), some (.int (nI n)), some (.int (nI (hc f))), some (.int ((yearT (upd f 2 (ngt f k).1)) 2)), some (.int (nI ((ngt f k).2 + if hc f < hc (yearT (upd f 2 (ngt f k).1)) then 1 else 0))), some (.int (nI k))]) (by decide +kernel : decode prog_10_method_56_code 94 = .ok (.istore_n 3, 1)) (Nat.le_of_ble_eq_true rfl) rfl ?_
      refine g_iincN (n := 1) (L' := [some (.ref 0), some (.int (nI n)), some (.int (nI (hc f))), some (.int ((yearT (upd f 2 (ngt f k).1)) 2)), some (.int (nI ((ngt f k).2 + if hc f < hc (yearT (upd f 2 (ngt f k).1)) then 1 else 0))), some (.int (nI (k + 1)))]) (by decide +kernel : decode prog_10_method_56_code 95 = .ok (.iinc 5 1, 3)) rfl (by decide) (Nat.le_of_ble_eq_true rfl) rfl ?_
      refine g_goto (tgt := 46) (by decide +kernel : decode prog_10_method_56_code 98 = .ok (.goto (-52), 3)) (by decide) ?_
      refine g_sub (L' := [some (.ref 0), some (.int (nI n)), some (.int (nI (hc f))), some (.int ((ngt f (k + 1)).1)), some (.int (nI ((ngt f (k + 1)).2))), some (.int (nI (k + 1)))]) ⟨rfl, rfl, rfl, rfl, rfl, rfl, trivial⟩ ?_
      exact ih (k + 1) (by omega) (by omega) _ _ hR
    refine g_icmp_leN (tgt := 84) (by decide +kernel : decode prog_10_method_56_code 77 = .ok (.if_icmp .le 7, 3)) (by decide) (by first | omega | (have h9 := hc_le f; omega) | (have h9 := hc_le (yearT (upd f 2 (ngt f k).1)); omega)) (by first | omega | (have h9 := hc_le f; omega) | (have h9 := hc_le (yearT (upd f 2 (ngt f k).1)); omega)) (fun h77 => ?_) (fun h77 => ?_)
    · refine g_iconst (v := nI 0) (by decide +kernel : decode prog_10_method_56_code 84 = .ok (.iconst 0, 1)) (by decide) ?_
      exact g_top (by rw [if_neg (by omega)]) J77
    · refine g_iconst (v := nI 1) (by decide +kernel : decode prog_10_method_56_code 80 = .ok (.iconst 1, 1)) (by decide) ?_
      refine g_goto (tgt := 85) (by decide +kernel : decode prog_10_method_56_code 81 = .ok (.goto 4, 3)) (by decide) ?_
      exact g_top (by rw [if_pos (by omega)]) J77
set_option maxRecDepth 20000 in
theorem p_nights (σ : Store) (f b : Row) (hI : Inv f) (x : Int32) : Ct ΛM mt_Md_nights 5 [.ref 0, .int x] (mS σ f b) (mP σ (nightsV f x) f) := by
  refine Ct.of (by decide) (Nat.le_of_ble_eq_true rfl) (fun X hR => ?_)
  show G (ΛM, mt_Md_nights, 5) X (mS σ f b) [some (.ref 0), some (.int x), none, none, none, none] [] 0
  have hn8 := hI.n.2
  refine g_iload_n (by decide +kernel : decode prog_10_method_56_code 0 = .ok (.iload_n 1, 1)) rfl ?_
  refine g_i2l (by decide +kernel : decode prog_10_method_56_code 1 = .ok (.i2l, 1)) ?_
  refine g_lconst (v := lN 1) (by decide +kernel : decode prog_10_method_56_code 2 = .ok (.lconst 1, 1)) (by decide) ?_
  refine g_ldc2 (v := lN 30) (by decide +kernel : decode prog_10_method_56_code 3 = .ok (.ldc2_w 214, 3)) kc_Md_214 ?_
  refine g_callSI [.long (Int32.toInt64 x), .long (lN 1), .long (lN 30)] (by decide +kernel : decode prog_10_method_56_code 6 = .ok (.invokestatic 57, 3)) lk_Md_57 (m_isInN ΛM (mS σ f b) x 1 30) rfl rfl (Nat.le_of_ble_eq_true rfl) (Nat.le_of_ble_eq_true rfl) (fun r6 s6 h6 => ?_)
  rcases h6 with ⟨rfl, ⟨rfl, n, ha6, hb6, rfl⟩ | ⟨rfl, n6⟩⟩
  · refine g_if_neN (tgt := 14) (by decide +kernel : decode prog_10_method_56_code 9 = .ok (.ifCond .ne 5, 3)) (by decide) (by decide) (fun _ => ?_) (fun h => False.elim (by revert h; decide))
    refine g_aload_n (by decide +kernel : decode prog_10_method_56_code 14 = .ok (.aload_n 0, 1)) rfl ?_
    refine g_getR (by decide +kernel : decode prog_10_method_56_code 15 = .ok (.getfield 7, 3)) fl_Md_7 rfl rfl ?_
    refine g_aload_n (by decide +kernel : decode prog_10_method_56_code 18 = .ok (.aload_n 0, 1)) rfl ?_
    refine g_getR (by decide +kernel : decode prog_10_method_56_code 19 = .ok (.getfield 16, 3)) fl_Md_16 rfl rfl ?_
    refine g_callSV [.ref 1, .ref 3] (by decide +kernel : decode prog_10_method_56_code 22 = .ok (.invokestatic 141, 3)) lk_Md_141 (m_aside σ f b) rfl rfl (Nat.le_of_ble_eq_true rfl) (Nat.le_of_ble_eq_true rfl) (fun s22 h22 => ?_)
    obtain rfl := h22
    refine g_aload_n (by decide +kernel : decode prog_10_method_56_code 25 = .ok (.aload_n 0, 1)) rfl ?_
    refine g_callVI [] (by decide +kernel : decode prog_10_method_56_code 26 = .ok (.invokevirtual 189, 3)) lk_Md_189 (m_hiddenOnes (s_row σ 3 f) f b hI) rfl rfl rfl rfl (Nat.le_of_ble_eq_true rfl) (Nat.le_of_ble_eq_true rfl) (fun r26 s26 h26 => ?_)
    obtain ⟨rfl, rfl⟩ := h26
    refine g_callSI [.int (nI (msk f (nn f)))] (by decide +kernel : decode prog_10_method_56_code 29 = .ok (.invokestatic 192, 3)) lk_Md_192 (m_size ΛM (mS (s_row σ 3 f) f b) (msk f (nn f)) (m_count σ f (fun _ => 0) hI)) rfl rfl (Nat.le_of_ble_eq_true rfl) (Nat.le_of_ble_eq_true rfl) (fun r29 s29 h29 => ?_)
    obtain ⟨rfl, rfl⟩ := h29
    refine g_istore_n (L' := [some (.ref 0), some (.int (nI n)), some (.int (nI (hc f))), none, none, none]) (by decide +kernel : decode prog_10_method_56_code 32 = .ok (.istore_n 2, 1)) (Nat.le_of_ble_eq_true rfl) rfl ?_
    refine g_aload_n (by decide +kernel : decode prog_10_method_56_code 33 = .ok (.aload_n 0, 1)) rfl ?_
    refine g_getR (by decide +kernel : decode prog_10_method_56_code 34 = .ok (.getfield 7, 3)) fl_Md_7 rfl rfl ?_
    refine g_iconst (v := nI 2) (by decide +kernel : decode prog_10_method_56_code 37 = .ok (.iconst 2, 1)) (by decide) ?_
    refine g_iaload (a := 2) (by decide +kernel : decode prog_10_method_56_code 38 = .ok (.iaload, 1)) rfl rfl (by decide) (by decide) ?_
    refine g_top (w := f 2) (rfl) ?_
    refine g_istore_n (L' := [some (.ref 0), some (.int (nI n)), some (.int (nI (hc f))), some (.int (f 2)), none, none]) (by decide +kernel : decode prog_10_method_56_code 39 = .ok (.istore_n 3, 1)) (Nat.le_of_ble_eq_true rfl) rfl ?_
    refine g_iconst (v := nI 0) (by decide +kernel : decode prog_10_method_56_code 40 = .ok (.iconst 0, 1)) (by decide) ?_
    refine g_istore (L' := [some (.ref 0), some (.int (nI n)), some (.int (nI (hc f))), some (.int (f 2)), some (.int (nI 0)), none]) (by decide +kernel : decode prog_10_method_56_code 41 = .ok (.istore 4, 2)) (Nat.le_of_ble_eq_true rfl) rfl ?_
    refine g_iconst (v := nI 0) (by decide +kernel : decode prog_10_method_56_code 43 = .ok (.iconst 0, 1)) (by decide) ?_
    refine g_istore (L' := [some (.ref 0), some (.int (nI n)), some (.int (nI (hc f))), some (.int (f 2)), some (.int (nI 0)), some (.int (nI 0))]) (by decide +kernel : decode prog_10_method_56_code 44 = .ok (.istore 5, 2)) (Nat.le_of_ble_eq_true rfl) rfl ?_
    exact p_nights_lp hI (by omega) (n + 1) 0 (Nat.zero_le _) (by omega) _ _ (by simpa only [nightsV, rg_of ha6 hb6] using hR)
  · refine g_if_neN (tgt := 14) (by decide +kernel : decode prog_10_method_56_code 9 = .ok (.ifCond .ne 5, 3)) (by decide) (by decide) (fun h => False.elim (by revert h; decide)) (fun _ => ?_)
    refine g_iconst (v := (-1)) (by decide +kernel : decode prog_10_method_56_code 12 = .ok (.iconst (-1), 1)) (by decide) ?_
    exact g_iret hR (by decide +kernel : decode prog_10_method_56_code 13 = .ok (.ireturn, 1)) rfl ⟨_, rfl, ⟨by simp only [nightsV, rg_none n6], Jk.self _ _ _⟩⟩
theorem p_year (σ : Store) (f b : Row) (hI : Inv f) : Ct ΛM mt_Md_year 4 [.ref 0] (mS σ f b) (mP σ (nI (hc (yearT f))) (yearT f)) := by
  refine (m_year σ f b hI).post ?_
  rintro v σ' ⟨r, h1, h2, h3⟩
  exact ⟨r, h1, h2, h3 ▸ Jk.self _ _ _⟩
end
section
/-! THE REFERENCE: what is asked and told of laws, places, people -/
theorem pl_of {j : Nat} (h : j < 12) : rg 0 11 (nI j) = some j := rg_of (Nat.zero_le _) (by omega)
theorem pl_none {x : Int32} (h : ¬ ∃ j, j < 12 ∧ x = nI j) : rg 0 11 x = none := rg_none (fun ⟨j, _, h1, h2⟩ => h ⟨j, by omega, h2⟩)
theorem m_mostOfN (Λ : Lay) (σ : Store) {i : Nat} (h : i ≤ 3) : Ct Λ mt_Md_mostOf 0 [.int (nI i)] σ (PF (nI (lm i)) σ) := by
  have h1 := m_mostOf Λ σ (nI i)
  rcases (show i = 0 ∨ i = 1 ∨ i = 2 ∨ i = 3 by omega) with rfl | rfl | rfl | rfl
  · exact h1
  · exact h1
  · exact h1
  · exact h1
theorem lm_lt (i : Nat) : lm i ≤ 99 := by unfold lm; split <;> decide
def setV (f : Row) (x y : Int32) : Int32 := match rg 0 3 x with
  | none => -1
  | some i => match rg 0 (lm i) y with
    | none => -1
    | some _ => f (3 + i)
def setT (f : Row) (x y : Int32) : Row := match rg 0 3 x with
  | none => f
  | some i => match rg 0 (lm i) y with
    | none => f
    | some v => upd f (3 + i) (nI v)
def lawV (f : Row) (x : Int32) : Int32 := match rg 0 3 x with
  | none => -1
  | some i => f (3 + i)
def ofV (f : Row) (x y : Int32) : Int32 := match pz f x with
  | none => -1
  | some o => match rg 0 5 y with
    | none => -1
    | some w => f (19 + 6 * o + w)
def doesV (f : Row) (x y : Int32) : Int32 := match pz f x with
  | none => -1
  | some o => match rg 0 2 y with
    | none => -1
    | some 0 => nI 1000 + hidesF f o
    | some 1 => nI 1000 + seesF f o
    | some _ => nI 1000 + stridesF f o
def mindV (f : Row) (x y z : Int32) : Int32 := match pz f x with
  | none => -1
  | some o => match rg 0 5 y with
    | none => -1
    | some _ => match rg 0 9 z with
      | none => -1
      | some _ => f (19 + 6 * o + 0)
def mindT (f : Row) (x y z : Int32) : Row := match pz f x with
  | none => f
  | some o => match rg 0 5 y with
    | none => f
    | some k => match rg 0 9 z with
      | none => f
      | some w => upd (upd f (19 + 6 * o + 2) (nI w)) (19 + 6 * o + 0) (nI k)
/-- one number of one becomes another -/
def oneV (w m : Nat) (f : Row) (x y : Int32) : Int32 := match pz f x with
  | none => -1
  | some o => match rg 0 m y with
    | none => -1
    | some _ => f (19 + 6 * o + w)
def oneT (w m : Nat) (f : Row) (x y : Int32) : Row := match pz f x with
  | none => f
  | some o => match rg 0 m y with
    | none => f
    | some v => upd f (19 + 6 * o + w) (nI v)
def seekV (f : Row) (x y : Int32) : Int32 := match pz f x with
  | none => -1
  | some o => match rg 0 1 y with
    | none => -1
    | some _ => nI 1 - f (19 + 6 * o + 4)
def seekT (f : Row) (x y : Int32) : Row := match pz f x with
  | none => f
  | some o => match rg 0 1 y with
    | none => f
    | some v => upd f (19 + 6 * o + 4) (nI (1 - v))
def placeV (f : Row) (x y : Int32) : Int32 := match rg 0 11 x with
  | none => -1
  | some p => match rg 0 2 y with
    | none => -1
    | some 0 => f (7 + p)
    | some 1 => nI (atm f p (nn f))
    | some _ => nI (popc (atm f p (nn f) &&& msk f (nn f)))
def coverV (f : Row) (x y : Int32) : Int32 := match rg 0 11 x with
  | none => -1
  | some p => match rg 0 9 y with
    | none => -1
    | some _ => f (7 + p)
def coverT (f : Row) (x y : Int32) : Row := match rg 0 11 x with
  | none => f
  | some p => match rg 0 9 y with
    | none => f
    | some v => upd f (7 + p) (nI v)
/-- one more -/
def adm (f : Row) (k a w p h : Nat) : Row := upd (upd (upd (upd (upd (upd (upd f (19 + 6 * nn f + 0) (nI k)) (19 + 6 * nn f + 1) (nI a)) (19 + 6 * nn f + 2) (nI w)) (19 + 6 * nn f + 3) (nI p)) (19 + 6 * nn f + 4) (nI h)) (19 + 6 * nn f + 5) (nI 0)) 0 (nI (nn f + 1))
def personV (f : Row) (x y z u v : Int32) : Int32 := match rg 0 5 x with
  | none => -1
  | some _ => match rg 0 99 y with
    | none => -1
    | some _ => match rg 0 9 z with
      | none => -1
      | some _ => match rg 0 11 u with
        | none => -1
        | some _ => match rg 0 1 v with
          | none => -1
          | some _ => if nn f = 8 then -2 else nI (nn f)
def personT (f : Row) (x y z u v : Int32) : Row := match rg 0 5 x with
  | none => f
  | some k => match rg 0 99 y with
    | none => f
    | some a => match rg 0 9 z with
      | none => f
      | some w => match rg 0 11 u with
        | none => f
        | some p => match rg 0 1 v with
          | none => f
          | some s => if nn f = 8 then f else adm f k a w p (1 - s)
set_option maxRecDepth 20000 in
theorem p_set (σ : Store) (f b : Row) (hI : Inv f) (x y : Int32) : Ct ΛM mt_Md_set 1 [.ref 0, .int x, .int y] (mS σ f b) (mP σ (setV f x y) (setT f x y)) := by
  refine Ct.of (by decide) (Nat.le_of_ble_eq_true rfl) (fun X hR => ?_)
  show G (ΛM, mt_Md_set, 1) X (mS σ f b) [some (.ref 0), some (.int x), some (.int y)] [] 0
  have hn8 := hI.n.2
  refine g_iload_n (by decide +kernel : decode prog_10_method_33_code 0 = .ok (.iload_n 1, 1)) rfl ?_
  refine g_i2l (by decide +kernel : decode prog_10_method_33_code 1 = .ok (.i2l, 1)) ?_
  refine g_lconst (v := lN 0) (by decide +kernel : decode prog_10_method_33_code 2 = .ok (.lconst 0, 1)) (by decide) ?_
  refine g_ldc2 (v := lN 3) (by decide +kernel : decode prog_10_method_33_code 3 = .ok (.ldc2_w 151, 3)) kc_Md_151 ?_
  refine g_callSI [.long (Int32.toInt64 x), .long (lN 0), .long (lN 3)] (by decide +kernel : decode prog_10_method_33_code 6 = .ok (.invokestatic 57, 3)) lk_Md_57 (m_isInN ΛM (mS σ f b) x 0 3) rfl rfl (Nat.le_of_ble_eq_true rfl) (Nat.le_of_ble_eq_true rfl) (fun r6 s6 h6 => ?_)
  rcases h6 with ⟨rfl, ⟨rfl, i, ha6, hb6, rfl⟩ | ⟨rfl, n6⟩⟩
  · refine g_if_eqN (tgt := 37) (by decide +kernel : decode prog_10_method_33_code 9 = .ok (.ifCond .eq 28, 3)) (by decide) (by decide) (fun h => False.elim (by revert h; decide)) (fun _ => ?_)
    refine g_iload_n (by decide +kernel : decode prog_10_method_33_code 12 = .ok (.iload_n 2, 1)) rfl ?_
    refine g_i2l (by decide +kernel : decode prog_10_method_33_code 13 = .ok (.i2l, 1)) ?_
    refine g_lconst (v := lN 0) (by decide +kernel : decode prog_10_method_33_code 14 = .ok (.lconst 0, 1)) (by decide) ?_
    refine g_iload_n (by decide +kernel : decode prog_10_method_33_code 15 = .ok (.iload_n 1, 1)) rfl ?_
    refine g_callSI [.int (nI i)] (by decide +kernel : decode prog_10_method_33_code 16 = .ok (.invokestatic 153, 3)) lk_Md_153 (m_mostOfN ΛM (mS σ f b) (i := i) (by omega)) rfl rfl (Nat.le_of_ble_eq_true rfl) (Nat.le_of_ble_eq_true rfl) (fun r16 s16 h16 => ?_)
    obtain ⟨rfl, rfl⟩ := h16
    refine g_i2lN (by decide +kernel : decode prog_10_method_33_code 19 = .ok (.i2l, 1)) (by first | omega | (have h9 := lm_lt i; omega)) ?_
    refine g_callSI [.long (Int32.toInt64 y), .long (lN 0), .long (lN (lm i))] (by decide +kernel : decode prog_10_method_33_code 20 = .ok (.invokestatic 57, 3)) lk_Md_57 (m_isInN ΛM (mS σ f b) y 0 (lm i) (by have := lm_lt i; omega) (Nat.zero_le _)) rfl rfl (Nat.le_of_ble_eq_true rfl) (Nat.le_of_ble_eq_true rfl) (fun r20 s20 h20 => ?_)
    rcases h20 with ⟨rfl, ⟨rfl, v, ha20, hb20, rfl⟩ | ⟨rfl, n20⟩⟩
    · refine g_if_eqN (tgt := 37) (by decide +kernel : decode prog_10_method_33_code 23 = .ok (.ifCond .eq 14, 3)) (by decide) (by decide) (fun h => False.elim (by revert h; decide)) (fun _ => ?_)
      refine g_aload_n (by decide +kernel : decode prog_10_method_33_code 26 = .ok (.aload_n 0, 1)) rfl ?_
      refine g_iconst (v := nI 3) (by decide +kernel : decode prog_10_method_33_code 27 = .ok (.iconst 3, 1)) (by decide) ?_
      refine g_iload_n (by decide +kernel : decode prog_10_method_33_code 28 = .ok (.iload_n 1, 1)) rfl ?_
      refine g_iaddN (by decide +kernel : decode prog_10_method_33_code 29 = .ok (.iadd, 1)) ?_
      refine g_iload_n (by decide +kernel : decode prog_10_method_33_code 30 = .ok (.iload_n 2, 1)) rfl ?_
      refine g_callVI [.int (nI (3 + i)), .int (nI v)] (by decide +kernel : decode prog_10_method_33_code 31 = .ok (.invokevirtual 156, 3)) lk_Md_156 (m_becomes (mS σ f b) (3 + i) (nI v) (v := f (3 + i)) rfl (by first | omega | (have h9 := lm_lt i; omega))) rfl rfl rfl rfl (Nat.le_of_ble_eq_true rfl) (Nat.le_of_ble_eq_true rfl) (fun r31 s31 h31 => ?_)
      obtain ⟨rfl, rfl⟩ := h31
      refine g_sto (mS_u1 _ _ _ _ _) ?_
      refine g_goto (tgt := 38) (by decide +kernel : decode prog_10_method_33_code 34 = .ok (.goto 4, 3)) (by decide) ?_
      exact g_iret hR (by decide +kernel : decode prog_10_method_33_code 38 = .ok (.ireturn, 1)) rfl ⟨_, rfl, ⟨by simp only [setV, rg_of ha6 hb6, rg_of ha20 hb20 (by have := lm_lt i; omega)], by simp only [setT, rg_of ha6 hb6, rg_of ha20 hb20 (by have := lm_lt i; omega)]; exact Jk.self _ _ _⟩⟩
    · refine g_if_eqN (tgt := 37) (by decide +kernel : decode prog_10_method_33_code 23 = .ok (.ifCond .eq 14, 3)) (by decide) (by decide) (fun _ => ?_) (fun h => False.elim (by revert h; decide))
      refine g_iconst (v := (-1)) (by decide +kernel : decode prog_10_method_33_code 37 = .ok (.iconst (-1), 1)) (by decide) ?_
      exact g_iret hR (by decide +kernel : decode prog_10_method_33_code 38 = .ok (.ireturn, 1)) rfl ⟨_, rfl, ⟨by simp only [setV, rg_of ha6 hb6, rg_none n20 (by have := lm_lt i; omega) (Nat.zero_le _)], by simp only [setT, rg_of ha6 hb6, rg_none n20 (by have := lm_lt i; omega) (Nat.zero_le _)]; exact Jk.self _ _ _⟩⟩
  · refine g_if_eqN (tgt := 37) (by decide +kernel : decode prog_10_method_33_code 9 = .ok (.ifCond .eq 28, 3)) (by decide) (by decide) (fun _ => ?_) (fun h => False.elim (by revert h; decide))
    refine g_iconst (v := (-1)) (by decide +kernel : decode prog_10_method_33_code 37 = .ok (.iconst (-1), 1)) (by decide) ?_
    exact g_iret hR (by decide +kernel : decode prog_10_method_33_code 38 = .ok (.ireturn, 1)) rfl ⟨_, rfl, ⟨by simp only [setV, rg_none n6], by simp only [setT, rg_none n6]; exact Jk.self _ _ _⟩⟩
set_option maxRecDepth 20000 in
theorem p_lawOf (σ : Store) (f b : Row) (hI : Inv f) (x : Int32) : Ct ΛM mt_Md_lawOf 1 [.ref 0, .int x] (mS σ f b) (mP σ (lawV f x) f) := by
  refine Ct.of (by decide) (Nat.le_of_ble_eq_true rfl) (fun X hR => ?_)
  show G (ΛM, mt_Md_lawOf, 1) X (mS σ f b) [some (.ref 0), some (.int x)] [] 0
  have hn8 := hI.n.2
  refine g_iload_n (by decide +kernel : decode prog_10_method_34_code 0 = .ok (.iload_n 1, 1)) rfl ?_
  refine g_i2l (by decide +kernel : decode prog_10_method_34_code 1 = .ok (.i2l, 1)) ?_
  refine g_lconst (v := lN 0) (by decide +kernel : decode prog_10_method_34_code 2 = .ok (.lconst 0, 1)) (by decide) ?_
  refine g_ldc2 (v := lN 3) (by decide +kernel : decode prog_10_method_34_code 3 = .ok (.ldc2_w 151, 3)) kc_Md_151 ?_
  refine g_callSI [.long (Int32.toInt64 x), .long (lN 0), .long (lN 3)] (by decide +kernel : decode prog_10_method_34_code 6 = .ok (.invokestatic 57, 3)) lk_Md_57 (m_isInN ΛM (mS σ f b) x 0 3) rfl rfl (Nat.le_of_ble_eq_true rfl) (Nat.le_of_ble_eq_true rfl) (fun r6 s6 h6 => ?_)
  rcases h6 with ⟨rfl, ⟨rfl, i, ha6, hb6, rfl⟩ | ⟨rfl, n6⟩⟩
  · refine g_if_eqN (tgt := 23) (by decide +kernel : decode prog_10_method_34_code 9 = .ok (.ifCond .eq 14, 3)) (by decide) (by decide) (fun h => False.elim (by revert h; decide)) (fun _ => ?_)
    refine g_aload_n (by decide +kernel : decode prog_10_method_34_code 12 = .ok (.aload_n 0, 1)) rfl ?_
    refine g_getR (by decide +kernel : decode prog_10_method_34_code 13 = .ok (.getfield 7, 3)) fl_Md_7 rfl rfl ?_
    refine g_iconst (v := nI 3) (by decide +kernel : decode prog_10_method_34_code 16 = .ok (.iconst 3, 1)) (by decide) ?_
    refine g_iload_n (by decide +kernel : decode prog_10_method_34_code 17 = .ok (.iload_n 1, 1)) rfl ?_
    refine g_iaddN (by decide +kernel : decode prog_10_method_34_code 18 = .ok (.iadd, 1)) ?_
    refine g_iaload (a := 3 + i) (by decide +kernel : decode prog_10_method_34_code 19 = .ok (.iaload, 1)) rfl rfl (by omega) (by decide) ?_
    refine g_top (w := f (3 + i)) (rfl) ?_
    refine g_goto (tgt := 24) (by decide +kernel : decode prog_10_method_34_code 20 = .ok (.goto 4, 3)) (by decide) ?_
    exact g_iret hR (by decide +kernel : decode prog_10_method_34_code 24 = .ok (.ireturn, 1)) rfl ⟨_, rfl, ⟨by simp only [lawV, rg_of ha6 hb6], Jk.self _ _ _⟩⟩
  · refine g_if_eqN (tgt := 23) (by decide +kernel : decode prog_10_method_34_code 9 = .ok (.ifCond .eq 14, 3)) (by decide) (by decide) (fun _ => ?_) (fun h => False.elim (by revert h; decide))
    refine g_iconst (v := (-1)) (by decide +kernel : decode prog_10_method_34_code 23 = .ok (.iconst (-1), 1)) (by decide) ?_
    exact g_iret hR (by decide +kernel : decode prog_10_method_34_code 24 = .ok (.ireturn, 1)) rfl ⟨_, rfl, ⟨by simp only [lawV, rg_none n6], Jk.self _ _ _⟩⟩
set_option maxRecDepth 20000 in
theorem p_of (σ : Store) (f b : Row) (hI : Inv f) (x y : Int32) : Ct ΛM mt_Md_of 1 [.ref 0, .int x, .int y] (mS σ f b) (mP σ (ofV f x y) f) := by
  refine Ct.of (by decide) (Nat.le_of_ble_eq_true rfl) (fun X hR => ?_)
  show G (ΛM, mt_Md_of, 1) X (mS σ f b) [some (.ref 0), some (.int x), some (.int y)] [] 0
  have hn8 := hI.n.2
  refine g_aload_n (by decide +kernel : decode prog_10_method_39_code 0 = .ok (.aload_n 0, 1)) rfl ?_
  refine g_iload_n (by decide +kernel : decode prog_10_method_39_code 1 = .ok (.iload_n 1, 1)) rfl ?_
  refine g_callVI [.int x] (by decide +kernel : decode prog_10_method_39_code 2 = .ok (.invokevirtual 172, 3)) lk_Md_172 (m_isOne (mS σ f b) x hI.n.1 (by omega)) rfl rfl rfl rfl (Nat.le_of_ble_eq_true rfl) (Nat.le_of_ble_eq_true rfl) (fun r2 s2 h2 => ?_)
  rcases h2 with ⟨rfl, ⟨rfl, o, ho2, rfl⟩ | ⟨rfl, n2⟩⟩
  · refine g_if_eqN (tgt := 29) (by decide +kernel : decode prog_10_method_39_code 5 = .ok (.ifCond .eq 24, 3)) (by decide) (by decide) (fun h => False.elim (by revert h; decide)) (fun _ => ?_)
    refine g_iload_n (by decide +kernel : decode prog_10_method_39_code 8 = .ok (.iload_n 2, 1)) rfl ?_
    refine g_i2l (by decide +kernel : decode prog_10_method_39_code 9 = .ok (.i2l, 1)) ?_
    refine g_lconst (v := lN 0) (by decide +kernel : decode prog_10_method_39_code 10 = .ok (.lconst 0, 1)) (by decide) ?_
    refine g_ldc2 (v := lN 5) (by decide +kernel : decode prog_10_method_39_code 11 = .ok (.ldc2_w 160, 3)) kc_Md_160 ?_
    refine g_callSI [.long (Int32.toInt64 y), .long (lN 0), .long (lN 5)] (by decide +kernel : decode prog_10_method_39_code 14 = .ok (.invokestatic 57, 3)) lk_Md_57 (m_isInN ΛM (mS σ f b) y 0 5) rfl rfl (Nat.le_of_ble_eq_true rfl) (Nat.le_of_ble_eq_true rfl) (fun r14 s14 h14 => ?_)
    rcases h14 with ⟨rfl, ⟨rfl, w, ha14, hb14, rfl⟩ | ⟨rfl, n14⟩⟩
    · refine g_if_eqN (tgt := 29) (by decide +kernel : decode prog_10_method_39_code 17 = .ok (.ifCond .eq 12, 3)) (by decide) (by decide) (fun h => False.elim (by revert h; decide)) (fun _ => ?_)
      refine g_aload_n (by decide +kernel : decode prog_10_method_39_code 20 = .ok (.aload_n 0, 1)) rfl ?_
      refine g_iload_n (by decide +kernel : decode prog_10_method_39_code 21 = .ok (.iload_n 1, 1)) rfl ?_
      refine g_iload_n (by decide +kernel : decode prog_10_method_39_code 22 = .ok (.iload_n 2, 1)) rfl ?_
      refine g_callVI [.int (nI o), .int (nI w)] (by decide +kernel : decode prog_10_method_39_code 23 = .ok (.invokevirtual 169, 3)) lk_Md_169 (m_its (mS σ f b) o w (v := f (19 + 6 * o + w)) rfl (by omega)) rfl rfl rfl rfl (Nat.le_of_ble_eq_true rfl) (Nat.le_of_ble_eq_true rfl) (fun r23 s23 h23 => ?_)
      obtain ⟨rfl, rfl⟩ := h23
      refine g_goto (tgt := 30) (by decide +kernel : decode prog_10_method_39_code 26 = .ok (.goto 4, 3)) (by decide) ?_
      exact g_iret hR (by decide +kernel : decode prog_10_method_39_code 30 = .ok (.ireturn, 1)) rfl ⟨_, rfl, ⟨by simp only [ofV, pz_of hI ho2, rg_of ha14 hb14], Jk.self _ _ _⟩⟩
    · refine g_if_eqN (tgt := 29) (by decide +kernel : decode prog_10_method_39_code 17 = .ok (.ifCond .eq 12, 3)) (by decide) (by decide) (fun _ => ?_) (fun h => False.elim (by revert h; decide))
      refine g_iconst (v := (-1)) (by decide +kernel : decode prog_10_method_39_code 29 = .ok (.iconst (-1), 1)) (by decide) ?_
      exact g_iret hR (by decide +kernel : decode prog_10_method_39_code 30 = .ok (.ireturn, 1)) rfl ⟨_, rfl, ⟨by simp only [ofV, pz_of hI ho2, rg_none n14], Jk.self _ _ _⟩⟩
  · refine g_if_eqN (tgt := 29) (by decide +kernel : decode prog_10_method_39_code 5 = .ok (.ifCond .eq 24, 3)) (by decide) (by decide) (fun _ => ?_) (fun h => False.elim (by revert h; decide))
    refine g_iconst (v := (-1)) (by decide +kernel : decode prog_10_method_39_code 29 = .ok (.iconst (-1), 1)) (by decide) ?_
    exact g_iret hR (by decide +kernel : decode prog_10_method_39_code 30 = .ok (.ireturn, 1)) rfl ⟨_, rfl, ⟨by simp only [ofV, pz_none hI n2], Jk.self _ _ _⟩⟩
set_option maxRecDepth 20000 in
theorem p_does (σ : Store) (f b : Row) (hI : Inv f) (x y : Int32) : Ct ΛM mt_Md_does 2 [.ref 0, .int x, .int y] (mS σ f b) (mP σ (doesV f x y) f) := by
  refine Ct.of (by decide) (Nat.le_of_ble_eq_true rfl) (fun X hR => ?_)
  show G (ΛM, mt_Md_does, 2) X (mS σ f b) [some (.ref 0), some (.int x), some (.int y)] [] 0
  have hn8 := hI.n.2
  refine g_aload_n (by decide +kernel : decode prog_10_method_40_code 0 = .ok (.aload_n 0, 1)) rfl ?_
  refine g_iload_n (by decide +kernel : decode prog_10_method_40_code 1 = .ok (.iload_n 1, 1)) rfl ?_
  refine g_callVI [.int x] (by decide +kernel : decode prog_10_method_40_code 2 = .ok (.invokevirtual 172, 3)) lk_Md_172 (m_isOne (mS σ f b) x hI.n.1 (by omega)) rfl rfl rfl rfl (Nat.le_of_ble_eq_true rfl) (Nat.le_of_ble_eq_true rfl) (fun r2 s2 h2 => ?_)
  rcases h2 with ⟨rfl, ⟨rfl, o, ho2, rfl⟩ | ⟨rfl, n2⟩⟩
  · refine g_if_eqN (tgt := 20) (by decide +kernel : decode prog_10_method_40_code 5 = .ok (.ifCond .eq 15, 3)) (by decide) (by decide) (fun h => False.elim (by revert h; decide)) (fun _ => ?_)
    refine g_iload_n (by decide +kernel : decode prog_10_method_40_code 8 = .ok (.iload_n 2, 1)) rfl ?_
    refine g_i2l (by decide +kernel : decode prog_10_method_40_code 9 = .ok (.i2l, 1)) ?_
    refine g_lconst (v := lN 0) (by decide +kernel : decode prog_10_method_40_code 10 = .ok (.lconst 0, 1)) (by decide) ?_
    refine g_ldc2 (v := lN 2) (by decide +kernel : decode prog_10_method_40_code 11 = .ok (.ldc2_w 175, 3)) kc_Md_175 ?_
    refine g_callSI [.long (Int32.toInt64 y), .long (lN 0), .long (lN 2)] (by decide +kernel : decode prog_10_method_40_code 14 = .ok (.invokestatic 57, 3)) lk_Md_57 (m_isInN ΛM (mS σ f b) y 0 2) rfl rfl (Nat.le_of_ble_eq_true rfl) (Nat.le_of_ble_eq_true rfl) (fun r14 s14 h14 => ?_)
    rcases h14 with ⟨rfl, ⟨rfl, w, ha14, hb14, rfl⟩ | ⟨rfl, n14⟩⟩
    · refine g_if_neN (tgt := 22) (by decide +kernel : decode prog_10_method_40_code 17 = .ok (.ifCond .ne 5, 3)) (by decide) (by decide) (fun _ => ?_) (fun h => False.elim (by revert h; decide))
      rcases (show w = 0 ∨ w = 1 ∨ w = 2 by omega) with rfl | rfl | rfl
      · refine g_sipush (v := nI 1000) (by decide +kernel : decode prog_10_method_40_code 22 = .ok (.sipush 1000, 3)) (by decide) ?_
        refine g_iload_n (by decide +kernel : decode prog_10_method_40_code 25 = .ok (.iload_n 2, 1)) rfl ?_
        refine g_if_neN (tgt := 37) (by decide +kernel : decode prog_10_method_40_code 26 = .ok (.ifCond .ne 11, 3)) (by decide) (by decide) (fun h => False.elim (by revert h; decide)) (fun _ => ?_)
        refine g_aload_n (by decide +kernel : decode prog_10_method_40_code 29 = .ok (.aload_n 0, 1)) rfl ?_
        refine g_iload_n (by decide +kernel : decode prog_10_method_40_code 30 = .ok (.iload_n 1, 1)) rfl ?_
        refine g_callVI [.int (nI o)] (by decide +kernel : decode prog_10_method_40_code 31 = .ok (.invokevirtual 177, 3)) lk_Md_177 (m_hides σ f b hI o (by omega)) rfl rfl rfl rfl (Nat.le_of_ble_eq_true rfl) (Nat.le_of_ble_eq_true rfl) (fun r31 s31 h31 => ?_)
        obtain ⟨rfl, rfl⟩ := h31
        refine g_goto (tgt := 55) (by decide +kernel : decode prog_10_method_40_code 34 = .ok (.goto 21, 3)) (by decide) ?_
        refine g_iadd (by decide +kernel : decode prog_10_method_40_code 55 = .ok (.iadd, 1)) ?_
        exact g_iret hR (by decide +kernel : decode prog_10_method_40_code 56 = .ok (.ireturn, 1)) rfl ⟨_, rfl, ⟨by simp only [doesV, pz_of hI ho2, rg_of ha14 hb14], Jk.self _ _ _⟩⟩
      · refine g_sipush (v := nI 1000) (by decide +kernel : decode prog_10_method_40_code 22 = .ok (.sipush 1000, 3)) (by decide) ?_
        refine g_iload_n (by decide +kernel : decode prog_10_method_40_code 25 = .ok (.iload_n 2, 1)) rfl ?_
        refine g_if_neN (tgt := 37) (by decide +kernel : decode prog_10_method_40_code 26 = .ok (.ifCond .ne 11, 3)) (by decide) (by decide) (fun _ => ?_) (fun h => False.elim (by revert h; decide))
        refine g_iload_n (by decide +kernel : decode prog_10_method_40_code 37 = .ok (.iload_n 2, 1)) rfl ?_
        refine g_iconst (v := nI 1) (by decide +kernel : decode prog_10_method_40_code 38 = .ok (.iconst 1, 1)) (by decide) ?_
        refine g_icmp_neN (tgt := 50) (by decide +kernel : decode prog_10_method_40_code 39 = .ok (.if_icmp .ne 11, 3)) (by decide) (by decide) (by decide) (fun h => False.elim (by revert h; decide)) (fun _ => ?_)
        refine g_aload_n (by decide +kernel : decode prog_10_method_40_code 42 = .ok (.aload_n 0, 1)) rfl ?_
        refine g_iload_n (by decide +kernel : decode prog_10_method_40_code 43 = .ok (.iload_n 1, 1)) rfl ?_
        refine g_callVI [.int (nI o)] (by decide +kernel : decode prog_10_method_40_code 44 = .ok (.invokevirtual 180, 3)) lk_Md_180 (m_sees σ f b hI o (by omega)) rfl rfl rfl rfl (Nat.le_of_ble_eq_true rfl) (Nat.le_of_ble_eq_true rfl) (fun r44 s44 h44 => ?_)
        obtain ⟨rfl, rfl⟩ := h44
        refine g_goto (tgt := 55) (by decide +kernel : decode prog_10_method_40_code 47 = .ok (.goto 8, 3)) (by decide) ?_
        refine g_iadd (by decide +kernel : decode prog_10_method_40_code 55 = .ok (.iadd, 1)) ?_
        exact g_iret hR (by decide +kernel : decode prog_10_method_40_code 56 = .ok (.ireturn, 1)) rfl ⟨_, rfl, ⟨by simp only [doesV, pz_of hI ho2, rg_of ha14 hb14], Jk.self _ _ _⟩⟩
      · refine g_sipush (v := nI 1000) (by decide +kernel : decode prog_10_method_40_code 22 = .ok (.sipush 1000, 3)) (by decide) ?_
        refine g_iload_n (by decide +kernel : decode prog_10_method_40_code 25 = .ok (.iload_n 2, 1)) rfl ?_
        refine g_if_neN (tgt := 37) (by decide +kernel : decode prog_10_method_40_code 26 = .ok (.ifCond .ne 11, 3)) (by decide) (by decide) (fun _ => ?_) (fun h => False.elim (by revert h; decide))
        refine g_iload_n (by decide +kernel : decode prog_10_method_40_code 37 = .ok (.iload_n 2, 1)) rfl ?_
        refine g_iconst (v := nI 1) (by decide +kernel : decode prog_10_method_40_code 38 = .ok (.iconst 1, 1)) (by decide) ?_
        refine g_icmp_neN (tgt := 50) (by decide +kernel : decode prog_10_method_40_code 39 = .ok (.if_icmp .ne 11, 3)) (by decide) (by decide) (by decide) (fun _ => ?_) (fun h => False.elim (by revert h; decide))
        refine g_aload_n (by decide +kernel : decode prog_10_method_40_code 50 = .ok (.aload_n 0, 1)) rfl ?_
        refine g_iload_n (by decide +kernel : decode prog_10_method_40_code 51 = .ok (.iload_n 1, 1)) rfl ?_
        refine g_callVI [.int (nI o)] (by decide +kernel : decode prog_10_method_40_code 52 = .ok (.invokevirtual 183, 3)) lk_Md_183 (m_strides σ f b hI o (by omega)) rfl rfl rfl rfl (Nat.le_of_ble_eq_true rfl) (Nat.le_of_ble_eq_true rfl) (fun r52 s52 h52 => ?_)
        obtain ⟨rfl, rfl⟩ := h52
        refine g_iadd (by decide +kernel : decode prog_10_method_40_code 55 = .ok (.iadd, 1)) ?_
        exact g_iret hR (by decide +kernel : decode prog_10_method_40_code 56 = .ok (.ireturn, 1)) rfl ⟨_, rfl, ⟨by simp only [doesV, pz_of hI ho2, rg_of ha14 hb14], Jk.self _ _ _⟩⟩
    · refine g_if_neN (tgt := 22) (by decide +kernel : decode prog_10_method_40_code 17 = .ok (.ifCond .ne 5, 3)) (by decide) (by decide) (fun h => False.elim (by revert h; decide)) (fun _ => ?_)
      refine g_iconst (v := (-1)) (by decide +kernel : decode prog_10_method_40_code 20 = .ok (.iconst (-1), 1)) (by decide) ?_
      exact g_iret hR (by decide +kernel : decode prog_10_method_40_code 21 = .ok (.ireturn, 1)) rfl ⟨_, rfl, ⟨by simp only [doesV, pz_of hI ho2, rg_none n14], Jk.self _ _ _⟩⟩
  · refine g_if_eqN (tgt := 20) (by decide +kernel : decode prog_10_method_40_code 5 = .ok (.ifCond .eq 15, 3)) (by decide) (by decide) (fun _ => ?_) (fun h => False.elim (by revert h; decide))
    refine g_iconst (v := (-1)) (by decide +kernel : decode prog_10_method_40_code 20 = .ok (.iconst (-1), 1)) (by decide) ?_
    exact g_iret hR (by decide +kernel : decode prog_10_method_40_code 21 = .ok (.ireturn, 1)) rfl ⟨_, rfl, ⟨by simp only [doesV, pz_none hI n2], Jk.self _ _ _⟩⟩
set_option maxRecDepth 20000 in
theorem p_mind (σ : Store) (f b : Row) (hI : Inv f) (x y z : Int32) : Ct ΛM mt_Md_mind 1 [.ref 0, .int x, .int y, .int z] (mS σ f b) (mP σ (mindV f x y z) (mindT f x y z)) := by
  refine Ct.of (by decide) (Nat.le_of_ble_eq_true rfl) (fun X hR => ?_)
  show G (ΛM, mt_Md_mind, 1) X (mS σ f b) [some (.ref 0), some (.int x), some (.int y), some (.int z)] [] 0
  have hn8 := hI.n.2
  refine g_aload_n (by decide +kernel : decode prog_10_method_41_code 0 = .ok (.aload_n 0, 1)) rfl ?_
  refine g_iload_n (by decide +kernel : decode prog_10_method_41_code 1 = .ok (.iload_n 1, 1)) rfl ?_
  refine g_callVI [.int x] (by decide +kernel : decode prog_10_method_41_code 2 = .ok (.invokevirtual 172, 3)) lk_Md_172 (m_isOne (mS σ f b) x hI.n.1 (by omega)) rfl rfl rfl rfl (Nat.le_of_ble_eq_true rfl) (Nat.le_of_ble_eq_true rfl) (fun r2 s2 h2 => ?_)
  rcases h2 with ⟨rfl, ⟨rfl, o, ho2, rfl⟩ | ⟨rfl, n2⟩⟩
  · refine g_if_eqN (tgt := 32) (by decide +kernel : decode prog_10_method_41_code 5 = .ok (.ifCond .eq 27, 3)) (by decide) (by decide) (fun h => False.elim (by revert h; decide)) (fun _ => ?_)
    refine g_iload_n (by decide +kernel : decode prog_10_method_41_code 8 = .ok (.iload_n 2, 1)) rfl ?_
    refine g_i2l (by decide +kernel : decode prog_10_method_41_code 9 = .ok (.i2l, 1)) ?_
    refine g_lconst (v := lN 0) (by decide +kernel : decode prog_10_method_41_code 10 = .ok (.lconst 0, 1)) (by decide) ?_
    refine g_ldc2 (v := lN 5) (by decide +kernel : decode prog_10_method_41_code 11 = .ok (.ldc2_w 160, 3)) kc_Md_160 ?_
    refine g_callSI [.long (Int32.toInt64 y), .long (lN 0), .long (lN 5)] (by decide +kernel : decode prog_10_method_41_code 14 = .ok (.invokestatic 57, 3)) lk_Md_57 (m_isInN ΛM (mS σ f b) y 0 5) rfl rfl (Nat.le_of_ble_eq_true rfl) (Nat.le_of_ble_eq_true rfl) (fun r14 s14 h14 => ?_)
    rcases h14 with ⟨rfl, ⟨rfl, k, ha14, hb14, rfl⟩ | ⟨rfl, n14⟩⟩
    · refine g_if_eqN (tgt := 32) (by decide +kernel : decode prog_10_method_41_code 17 = .ok (.ifCond .eq 15, 3)) (by decide) (by decide) (fun h => False.elim (by revert h; decide)) (fun _ => ?_)
      refine g_iload_n (by decide +kernel : decode prog_10_method_41_code 20 = .ok (.iload_n 3, 1)) rfl ?_
      refine g_i2l (by decide +kernel : decode prog_10_method_41_code 21 = .ok (.i2l, 1)) ?_
      refine g_lconst (v := lN 0) (by decide +kernel : decode prog_10_method_41_code 22 = .ok (.lconst 0, 1)) (by decide) ?_
      refine g_ldc2 (v := lN 9) (by decide +kernel : decode prog_10_method_41_code 23 = .ok (.ldc2_w 164, 3)) kc_Md_164 ?_
      refine g_callSI [.long (Int32.toInt64 z), .long (lN 0), .long (lN 9)] (by decide +kernel : decode prog_10_method_41_code 26 = .ok (.invokestatic 57, 3)) lk_Md_57 (m_isInN ΛM (mS σ f b) z 0 9) rfl rfl (Nat.le_of_ble_eq_true rfl) (Nat.le_of_ble_eq_true rfl) (fun r26 s26 h26 => ?_)
      rcases h26 with ⟨rfl, ⟨rfl, w, ha26, hb26, rfl⟩ | ⟨rfl, n26⟩⟩
      · refine g_if_neN (tgt := 34) (by decide +kernel : decode prog_10_method_41_code 29 = .ok (.ifCond .ne 5, 3)) (by decide) (by decide) (fun _ => ?_) (fun h => False.elim (by revert h; decide))
        refine g_aload_n (by decide +kernel : decode prog_10_method_41_code 34 = .ok (.aload_n 0, 1)) rfl ?_
        refine g_getR (by decide +kernel : decode prog_10_method_41_code 35 = .ok (.getfield 7, 3)) fl_Md_7 rfl rfl ?_
        refine g_bipush (v := nI 19) (by decide +kernel : decode prog_10_method_41_code 38 = .ok (.bipush 19, 2)) (by decide) ?_
        refine g_bipush (v := nI 6) (by decide +kernel : decode prog_10_method_41_code 40 = .ok (.bipush 6, 2)) (by decide) ?_
        refine g_iload_n (by decide +kernel : decode prog_10_method_41_code 42 = .ok (.iload_n 1, 1)) rfl ?_
        refine g_imulN (by decide +kernel : decode prog_10_method_41_code 43 = .ok (.imul, 1)) ?_
        refine g_iaddN (by decide +kernel : decode prog_10_method_41_code 44 = .ok (.iadd, 1)) ?_
        refine g_iconst (v := nI 2) (by decide +kernel : decode prog_10_method_41_code 45 = .ok (.iconst 2, 1)) (by decide) ?_
        refine g_iaddN (by decide +kernel : decode prog_10_method_41_code 46 = .ok (.iadd, 1)) ?_
        refine g_iload_n (by decide +kernel : decode prog_10_method_41_code 47 = .ok (.iload_n 3, 1)) rfl ?_
        refine g_iastore (a := 19 + 6 * o + 2) (by decide +kernel : decode prog_10_method_41_code 48 = .ok (.iastore, 1)) rfl rfl (by omega) (by decide) ?_
        refine g_sto (mS_u1 _ _ _ _ _) ?_
        refine g_aload_n (by decide +kernel : decode prog_10_method_41_code 49 = .ok (.aload_n 0, 1)) rfl ?_
        refine g_bipush (v := nI 19) (by decide +kernel : decode prog_10_method_41_code 50 = .ok (.bipush 19, 2)) (by decide) ?_
        refine g_bipush (v := nI 6) (by decide +kernel : decode prog_10_method_41_code 52 = .ok (.bipush 6, 2)) (by decide) ?_
        refine g_iload_n (by decide +kernel : decode prog_10_method_41_code 54 = .ok (.iload_n 1, 1)) rfl ?_
        refine g_imulN (by decide +kernel : decode prog_10_method_41_code 55 = .ok (.imul, 1)) ?_
        refine g_iaddN (by decide +kernel : decode prog_10_method_41_code 56 = .ok (.iadd, 1)) ?_
        refine g_iload_n (by decide +kernel : decode prog_10_method_41_code 57 = .ok (.iload_n 2, 1)) rfl ?_
        refine g_callVI [.int (nI (19 + 6 * o)), .int (nI k)] (by decide +kernel : decode prog_10_method_41_code 58 = .ok (.invokevirtual 156, 3)) lk_Md_156 (m_becomes (mS σ (upd f (19 + 6 * o + 2) (nI w)) b) (19 + 6 * o) (nI k) (v := (upd f (19 + 6 * o + 2) (nI w)) (19 + 6 * o)) rfl (by omega)) rfl rfl rfl rfl (Nat.le_of_ble_eq_true rfl) (Nat.le_of_ble_eq_true rfl) (fun r58 s58 h58 => ?_)
        obtain ⟨rfl, rfl⟩ := h58
        refine g_sto (mS_u1 _ _ _ _ _) ?_
        exact g_iret hR (by decide +kernel : decode prog_10_method_41_code 61 = .ok (.ireturn, 1)) rfl ⟨_, rfl, ⟨by simp only [mindV, pz_of hI ho2, rg_of ha14 hb14, rg_of ha26 hb26]; exact upd_n (by omega), by simp only [mindT, pz_of hI ho2, rg_of ha14 hb14, rg_of ha26 hb26]; exact Jk.self _ _ _⟩⟩
      · refine g_if_neN (tgt := 34) (by decide +kernel : decode prog_10_method_41_code 29 = .ok (.ifCond .ne 5, 3)) (by decide) (by decide) (fun h => False.elim (by revert h; decide)) (fun _ => ?_)
        refine g_iconst (v := (-1)) (by decide +kernel : decode prog_10_method_41_code 32 = .ok (.iconst (-1), 1)) (by decide) ?_
        exact g_iret hR (by decide +kernel : decode prog_10_method_41_code 33 = .ok (.ireturn, 1)) rfl ⟨_, rfl, ⟨by simp only [mindV, pz_of hI ho2, rg_of ha14 hb14, rg_none n26], by simp only [mindT, pz_of hI ho2, rg_of ha14 hb14, rg_none n26]; exact Jk.self _ _ _⟩⟩
    · refine g_if_eqN (tgt := 32) (by decide +kernel : decode prog_10_method_41_code 17 = .ok (.ifCond .eq 15, 3)) (by decide) (by decide) (fun _ => ?_) (fun h => False.elim (by revert h; decide))
      refine g_iconst (v := (-1)) (by decide +kernel : decode prog_10_method_41_code 32 = .ok (.iconst (-1), 1)) (by decide) ?_
      exact g_iret hR (by decide +kernel : decode prog_10_method_41_code 33 = .ok (.ireturn, 1)) rfl ⟨_, rfl, ⟨by simp only [mindV, pz_of hI ho2, rg_none n14], by simp only [mindT, pz_of hI ho2, rg_none n14]; exact Jk.self _ _ _⟩⟩
  · refine g_if_eqN (tgt := 32) (by decide +kernel : decode prog_10_method_41_code 5 = .ok (.ifCond .eq 27, 3)) (by decide) (by decide) (fun _ => ?_) (fun h => False.elim (by revert h; decide))
    refine g_iconst (v := (-1)) (by decide +kernel : decode prog_10_method_41_code 32 = .ok (.iconst (-1), 1)) (by decide) ?_
    exact g_iret hR (by decide +kernel : decode prog_10_method_41_code 33 = .ok (.ireturn, 1)) rfl ⟨_, rfl, ⟨by simp only [mindV, pz_none hI n2], by simp only [mindT, pz_none hI n2]; exact Jk.self _ _ _⟩⟩
set_option maxRecDepth 20000 in
theorem p_age (σ : Store) (f b : Row) (hI : Inv f) (x y : Int32) : Ct ΛM mt_Md_age 1 [.ref 0, .int x, .int y] (mS σ f b) (mP σ (oneV 1 99 f x y) (oneT 1 99 f x y)) := by
  refine Ct.of (by decide) (Nat.le_of_ble_eq_true rfl) (fun X hR => ?_)
  show G (ΛM, mt_Md_age, 1) X (mS σ f b) [some (.ref 0), some (.int x), some (.int y)] [] 0
  have hn8 := hI.n.2
  refine g_aload_n (by decide +kernel : decode prog_10_method_42_code 0 = .ok (.aload_n 0, 1)) rfl ?_
  refine g_iload_n (by decide +kernel : decode prog_10_method_42_code 1 = .ok (.iload_n 1, 1)) rfl ?_
  refine g_callVI [.int x] (by decide +kernel : decode prog_10_method_42_code 2 = .ok (.invokevirtual 172, 3)) lk_Md_172 (m_isOne (mS σ f b) x hI.n.1 (by omega)) rfl rfl rfl rfl (Nat.le_of_ble_eq_true rfl) (Nat.le_of_ble_eq_true rfl) (fun r2 s2 h2 => ?_)
  rcases h2 with ⟨rfl, ⟨rfl, o, ho2, rfl⟩ | ⟨rfl, n2⟩⟩
  · refine g_if_eqN (tgt := 37) (by decide +kernel : decode prog_10_method_42_code 5 = .ok (.ifCond .eq 32, 3)) (by decide) (by decide) (fun h => False.elim (by revert h; decide)) (fun _ => ?_)
    refine g_iload_n (by decide +kernel : decode prog_10_method_42_code 8 = .ok (.iload_n 2, 1)) rfl ?_
    refine g_i2l (by decide +kernel : decode prog_10_method_42_code 9 = .ok (.i2l, 1)) ?_
    refine g_lconst (v := lN 0) (by decide +kernel : decode prog_10_method_42_code 10 = .ok (.lconst 0, 1)) (by decide) ?_
    refine g_ldc2 (v := lN 99) (by decide +kernel : decode prog_10_method_42_code 11 = .ok (.ldc2_w 162, 3)) kc_Md_162 ?_
    refine g_callSI [.long (Int32.toInt64 y), .long (lN 0), .long (lN 99)] (by decide +kernel : decode prog_10_method_42_code 14 = .ok (.invokestatic 57, 3)) lk_Md_57 (m_isInN ΛM (mS σ f b) y 0 99) rfl rfl (Nat.le_of_ble_eq_true rfl) (Nat.le_of_ble_eq_true rfl) (fun r14 s14 h14 => ?_)
    rcases h14 with ⟨rfl, ⟨rfl, v, ha14, hb14, rfl⟩ | ⟨rfl, n14⟩⟩
    · refine g_if_eqN (tgt := 37) (by decide +kernel : decode prog_10_method_42_code 17 = .ok (.ifCond .eq 20, 3)) (by decide) (by decide) (fun h => False.elim (by revert h; decide)) (fun _ => ?_)
      refine g_aload_n (by decide +kernel : decode prog_10_method_42_code 20 = .ok (.aload_n 0, 1)) rfl ?_
      refine g_bipush (v := nI 19) (by decide +kernel : decode prog_10_method_42_code 21 = .ok (.bipush 19, 2)) (by decide) ?_
      refine g_bipush (v := nI 6) (by decide +kernel : decode prog_10_method_42_code 23 = .ok (.bipush 6, 2)) (by decide) ?_
      refine g_iload_n (by decide +kernel : decode prog_10_method_42_code 25 = .ok (.iload_n 1, 1)) rfl ?_
      refine g_imulN (by decide +kernel : decode prog_10_method_42_code 26 = .ok (.imul, 1)) ?_
      refine g_iaddN (by decide +kernel : decode prog_10_method_42_code 27 = .ok (.iadd, 1)) ?_
      refine g_iconst (v := nI 1) (by decide +kernel : decode prog_10_method_42_code 28 = .ok (.iconst 1, 1)) (by decide) ?_
      refine g_iaddN (by decide +kernel : decode prog_10_method_42_code 29 = .ok (.iadd, 1)) ?_
      refine g_iload_n (by decide +kernel : decode prog_10_method_42_code 30 = .ok (.iload_n 2, 1)) rfl ?_
      refine g_callVI [.int (nI (19 + 6 * o + 1)), .int (nI v)] (by decide +kernel : decode prog_10_method_42_code 31 = .ok (.invokevirtual 156, 3)) lk_Md_156 (m_becomes (mS σ f b) (19 + 6 * o + 1) (nI v) (v := f (19 + 6 * o + 1)) rfl (by omega)) rfl rfl rfl rfl (Nat.le_of_ble_eq_true rfl) (Nat.le_of_ble_eq_true rfl) (fun r31 s31 h31 => ?_)
      obtain ⟨rfl, rfl⟩ := h31
      refine g_sto (mS_u1 _ _ _ _ _) ?_
      refine g_goto (tgt := 38) (by decide +kernel : decode prog_10_method_42_code 34 = .ok (.goto 4, 3)) (by decide) ?_
      exact g_iret hR (by decide +kernel : decode prog_10_method_42_code 38 = .ok (.ireturn, 1)) rfl ⟨_, rfl, ⟨by simp only [oneV, pz_of hI ho2, rg_of ha14 hb14], by simp only [oneT, pz_of hI ho2, rg_of ha14 hb14]; exact Jk.self _ _ _⟩⟩
    · refine g_if_eqN (tgt := 37) (by decide +kernel : decode prog_10_method_42_code 17 = .ok (.ifCond .eq 20, 3)) (by decide) (by decide) (fun _ => ?_) (fun h => False.elim (by revert h; decide))
      refine g_iconst (v := (-1)) (by decide +kernel : decode prog_10_method_42_code 37 = .ok (.iconst (-1), 1)) (by decide) ?_
      exact g_iret hR (by decide +kernel : decode prog_10_method_42_code 38 = .ok (.ireturn, 1)) rfl ⟨_, rfl, ⟨by simp only [oneV, pz_of hI ho2, rg_none n14], by simp only [oneT, pz_of hI ho2, rg_none n14]; exact Jk.self _ _ _⟩⟩
  · refine g_if_eqN (tgt := 37) (by decide +kernel : decode prog_10_method_42_code 5 = .ok (.ifCond .eq 32, 3)) (by decide) (by decide) (fun _ => ?_) (fun h => False.elim (by revert h; decide))
    refine g_iconst (v := (-1)) (by decide +kernel : decode prog_10_method_42_code 37 = .ok (.iconst (-1), 1)) (by decide) ?_
    exact g_iret hR (by decide +kernel : decode prog_10_method_42_code 38 = .ok (.ireturn, 1)) rfl ⟨_, rfl, ⟨by simp only [oneV, pz_none hI n2], by simp only [oneT, pz_none hI n2]; exact Jk.self _ _ _⟩⟩
set_option maxRecDepth 20000 in
theorem p_bring (σ : Store) (f b : Row) (hI : Inv f) (x y : Int32) : Ct ΛM mt_Md_bring 1 [.ref 0, .int x, .int y] (mS σ f b) (mP σ (oneV 3 11 f x y) (oneT 3 11 f x y)) := by
  refine Ct.of (by decide) (Nat.le_of_ble_eq_true rfl) (fun X hR => ?_)
  show G (ΛM, mt_Md_bring, 1) X (mS σ f b) [some (.ref 0), some (.int x), some (.int y)] [] 0
  have hn8 := hI.n.2
  refine g_aload_n (by decide +kernel : decode prog_10_method_43_code 0 = .ok (.aload_n 0, 1)) rfl ?_
  refine g_iload_n (by decide +kernel : decode prog_10_method_43_code 1 = .ok (.iload_n 1, 1)) rfl ?_
  refine g_callVI [.int x] (by decide +kernel : decode prog_10_method_43_code 2 = .ok (.invokevirtual 172, 3)) lk_Md_172 (m_isOne (mS σ f b) x hI.n.1 (by omega)) rfl rfl rfl rfl (Nat.le_of_ble_eq_true rfl) (Nat.le_of_ble_eq_true rfl) (fun r2 s2 h2 => ?_)
  rcases h2 with ⟨rfl, ⟨rfl, o, ho2, rfl⟩ | ⟨rfl, n2⟩⟩
  · refine g_if_eqN (tgt := 32) (by decide +kernel : decode prog_10_method_43_code 5 = .ok (.ifCond .eq 27, 3)) (by decide) (by decide) (fun h => False.elim (by revert h; decide)) (fun _ => ?_)
    refine g_iload_n (by decide +kernel : decode prog_10_method_43_code 8 = .ok (.iload_n 2, 1)) rfl ?_
    refine g_callSI [.int y] (by decide +kernel : decode prog_10_method_43_code 9 = .ok (.invokestatic 166, 3)) lk_Md_166 (m_isPlace ΛM (mS σ f b) y) rfl rfl (Nat.le_of_ble_eq_true rfl) (Nat.le_of_ble_eq_true rfl) (fun r9 s9 h9 => ?_)
    rcases h9 with ⟨rfl, ⟨rfl, v, hp9, rfl⟩ | ⟨rfl, n9⟩⟩
    · refine g_if_eqN (tgt := 32) (by decide +kernel : decode prog_10_method_43_code 12 = .ok (.ifCond .eq 20, 3)) (by decide) (by decide) (fun h => False.elim (by revert h; decide)) (fun _ => ?_)
      refine g_aload_n (by decide +kernel : decode prog_10_method_43_code 15 = .ok (.aload_n 0, 1)) rfl ?_
      refine g_bipush (v := nI 19) (by decide +kernel : decode prog_10_method_43_code 16 = .ok (.bipush 19, 2)) (by decide) ?_
      refine g_bipush (v := nI 6) (by decide +kernel : decode prog_10_method_43_code 18 = .ok (.bipush 6, 2)) (by decide) ?_
      refine g_iload_n (by decide +kernel : decode prog_10_method_43_code 20 = .ok (.iload_n 1, 1)) rfl ?_
      refine g_imulN (by decide +kernel : decode prog_10_method_43_code 21 = .ok (.imul, 1)) ?_
      refine g_iaddN (by decide +kernel : decode prog_10_method_43_code 22 = .ok (.iadd, 1)) ?_
      refine g_iconst (v := nI 3) (by decide +kernel : decode prog_10_method_43_code 23 = .ok (.iconst 3, 1)) (by decide) ?_
      refine g_iaddN (by decide +kernel : decode prog_10_method_43_code 24 = .ok (.iadd, 1)) ?_
      refine g_iload_n (by decide +kernel : decode prog_10_method_43_code 25 = .ok (.iload_n 2, 1)) rfl ?_
      refine g_callVI [.int (nI (19 + 6 * o + 3)), .int (nI v)] (by decide +kernel : decode prog_10_method_43_code 26 = .ok (.invokevirtual 156, 3)) lk_Md_156 (m_becomes (mS σ f b) (19 + 6 * o + 3) (nI v) (v := f (19 + 6 * o + 3)) rfl (by omega)) rfl rfl rfl rfl (Nat.le_of_ble_eq_true rfl) (Nat.le_of_ble_eq_true rfl) (fun r26 s26 h26 => ?_)
      obtain ⟨rfl, rfl⟩ := h26
      refine g_sto (mS_u1 _ _ _ _ _) ?_
      refine g_goto (tgt := 33) (by decide +kernel : decode prog_10_method_43_code 29 = .ok (.goto 4, 3)) (by decide) ?_
      exact g_iret hR (by decide +kernel : decode prog_10_method_43_code 33 = .ok (.ireturn, 1)) rfl ⟨_, rfl, ⟨by simp only [oneV, pz_of hI ho2, pl_of hp9], by simp only [oneT, pz_of hI ho2, pl_of hp9]; exact Jk.self _ _ _⟩⟩
    · refine g_if_eqN (tgt := 32) (by decide +kernel : decode prog_10_method_43_code 12 = .ok (.ifCond .eq 20, 3)) (by decide) (by decide) (fun _ => ?_) (fun h => False.elim (by revert h; decide))
      refine g_iconst (v := (-1)) (by decide +kernel : decode prog_10_method_43_code 32 = .ok (.iconst (-1), 1)) (by decide) ?_
      exact g_iret hR (by decide +kernel : decode prog_10_method_43_code 33 = .ok (.ireturn, 1)) rfl ⟨_, rfl, ⟨by simp only [oneV, pz_of hI ho2, pl_none n9], by simp only [oneT, pz_of hI ho2, pl_none n9]; exact Jk.self _ _ _⟩⟩
  · refine g_if_eqN (tgt := 32) (by decide +kernel : decode prog_10_method_43_code 5 = .ok (.ifCond .eq 27, 3)) (by decide) (by decide) (fun _ => ?_) (fun h => False.elim (by revert h; decide))
    refine g_iconst (v := (-1)) (by decide +kernel : decode prog_10_method_43_code 32 = .ok (.iconst (-1), 1)) (by decide) ?_
    exact g_iret hR (by decide +kernel : decode prog_10_method_43_code 33 = .ok (.ireturn, 1)) rfl ⟨_, rfl, ⟨by simp only [oneV, pz_none hI n2], by simp only [oneT, pz_none hI n2]; exact Jk.self _ _ _⟩⟩
set_option maxRecDepth 20000 in
theorem p_seek (σ : Store) (f b : Row) (hI : Inv f) (x y : Int32) : Ct ΛM mt_Md_seek 1 [.ref 0, .int x, .int y] (mS σ f b) (mP σ (seekV f x y) (seekT f x y)) := by
  refine Ct.of (by decide) (Nat.le_of_ble_eq_true rfl) (fun X hR => ?_)
  show G (ΛM, mt_Md_seek, 1) X (mS σ f b) [some (.ref 0), some (.int x), some (.int y)] [] 0
  have hn8 := hI.n.2
  refine g_aload_n (by decide +kernel : decode prog_10_method_44_code 0 = .ok (.aload_n 0, 1)) rfl ?_
  refine g_iload_n (by decide +kernel : decode prog_10_method_44_code 1 = .ok (.iload_n 1, 1)) rfl ?_
  refine g_callVI [.int x] (by decide +kernel : decode prog_10_method_44_code 2 = .ok (.invokevirtual 172, 3)) lk_Md_172 (m_isOne (mS σ f b) x hI.n.1 (by omega)) rfl rfl rfl rfl (Nat.le_of_ble_eq_true rfl) (Nat.le_of_ble_eq_true rfl) (fun r2 s2 h2 => ?_)
  rcases h2 with ⟨rfl, ⟨rfl, o, ho2, rfl⟩ | ⟨rfl, n2⟩⟩
  · refine g_if_eqN (tgt := 39) (by decide +kernel : decode prog_10_method_44_code 5 = .ok (.ifCond .eq 34, 3)) (by decide) (by decide) (fun h => False.elim (by revert h; decide)) (fun _ => ?_)
    refine g_iload_n (by decide +kernel : decode prog_10_method_44_code 8 = .ok (.iload_n 2, 1)) rfl ?_
    refine g_i2l (by decide +kernel : decode prog_10_method_44_code 9 = .ok (.i2l, 1)) ?_
    refine g_lconst (v := lN 0) (by decide +kernel : decode prog_10_method_44_code 10 = .ok (.lconst 0, 1)) (by decide) ?_
    refine g_lconst (v := lN 1) (by decide +kernel : decode prog_10_method_44_code 11 = .ok (.lconst 1, 1)) (by decide) ?_
    refine g_callSI [.long (Int32.toInt64 y), .long (lN 0), .long (lN 1)] (by decide +kernel : decode prog_10_method_44_code 12 = .ok (.invokestatic 57, 3)) lk_Md_57 (m_isInN ΛM (mS σ f b) y 0 1) rfl rfl (Nat.le_of_ble_eq_true rfl) (Nat.le_of_ble_eq_true rfl) (fun r12 s12 h12 => ?_)
    rcases h12 with ⟨rfl, ⟨rfl, v, ha12, hb12, rfl⟩ | ⟨rfl, n12⟩⟩
    · refine g_if_eqN (tgt := 39) (by decide +kernel : decode prog_10_method_44_code 15 = .ok (.ifCond .eq 24, 3)) (by decide) (by decide) (fun h => False.elim (by revert h; decide)) (fun _ => ?_)
      refine g_iconst (v := nI 1) (by decide +kernel : decode prog_10_method_44_code 18 = .ok (.iconst 1, 1)) (by decide) ?_
      refine g_aload_n (by decide +kernel : decode prog_10_method_44_code 19 = .ok (.aload_n 0, 1)) rfl ?_
      refine g_bipush (v := nI 19) (by decide +kernel : decode prog_10_method_44_code 20 = .ok (.bipush 19, 2)) (by decide) ?_
      refine g_bipush (v := nI 6) (by decide +kernel : decode prog_10_method_44_code 22 = .ok (.bipush 6, 2)) (by decide) ?_
      refine g_iload_n (by decide +kernel : decode prog_10_method_44_code 24 = .ok (.iload_n 1, 1)) rfl ?_
      refine g_imulN (by decide +kernel : decode prog_10_method_44_code 25 = .ok (.imul, 1)) ?_
      refine g_iaddN (by decide +kernel : decode prog_10_method_44_code 26 = .ok (.iadd, 1)) ?_
      refine g_iconst (v := nI 4) (by decide +kernel : decode prog_10_method_44_code 27 = .ok (.iconst 4, 1)) (by decide) ?_
      refine g_iaddN (by decide +kernel : decode prog_10_method_44_code 28 = .ok (.iadd, 1)) ?_
      refine g_iconst (v := nI 1) (by decide +kernel : decode prog_10_method_44_code 29 = .ok (.iconst 1, 1)) (by decide) ?_
      refine g_iload_n (by decide +kernel : decode prog_10_method_44_code 30 = .ok (.iload_n 2, 1)) rfl ?_
      refine g_isubN (by decide +kernel : decode prog_10_method_44_code 31 = .ok (.isub, 1)) (by omega) ?_
      refine g_callVI [.int (nI (19 + 6 * o + 4)), .int (nI (1 - v))] (by decide +kernel : decode prog_10_method_44_code 32 = .ok (.invokevirtual 156, 3)) lk_Md_156 (m_becomes (mS σ f b) (19 + 6 * o + 4) (nI (1 - v)) (v := f (19 + 6 * o + 4)) rfl (by omega)) rfl rfl rfl rfl (Nat.le_of_ble_eq_true rfl) (Nat.le_of_ble_eq_true rfl) (fun r32 s32 h32 => ?_)
      obtain ⟨rfl, rfl⟩ := h32
      refine g_sto (mS_u1 _ _ _ _ _) ?_
      refine g_isub (by decide +kernel : decode prog_10_method_44_code 35 = .ok (.isub, 1)) ?_
      refine g_goto (tgt := 40) (by decide +kernel : decode prog_10_method_44_code 36 = .ok (.goto 4, 3)) (by decide) ?_
      exact g_iret hR (by decide +kernel : decode prog_10_method_44_code 40 = .ok (.ireturn, 1)) rfl ⟨_, rfl, ⟨by simp only [seekV, pz_of hI ho2, rg_of ha12 hb12], by simp only [seekT, pz_of hI ho2, rg_of ha12 hb12]; exact Jk.self _ _ _⟩⟩
    · refine g_if_eqN (tgt := 39) (by decide +kernel : decode prog_10_method_44_code 15 = .ok (.ifCond .eq 24, 3)) (by decide) (by decide) (fun _ => ?_) (fun h => False.elim (by revert h; decide))
      refine g_iconst (v := (-1)) (by decide +kernel : decode prog_10_method_44_code 39 = .ok (.iconst (-1), 1)) (by decide) ?_
      exact g_iret hR (by decide +kernel : decode prog_10_method_44_code 40 = .ok (.ireturn, 1)) rfl ⟨_, rfl, ⟨by simp only [seekV, pz_of hI ho2, rg_none n12], by simp only [seekT, pz_of hI ho2, rg_none n12]; exact Jk.self _ _ _⟩⟩
  · refine g_if_eqN (tgt := 39) (by decide +kernel : decode prog_10_method_44_code 5 = .ok (.ifCond .eq 34, 3)) (by decide) (by decide) (fun _ => ?_) (fun h => False.elim (by revert h; decide))
    refine g_iconst (v := (-1)) (by decide +kernel : decode prog_10_method_44_code 39 = .ok (.iconst (-1), 1)) (by decide) ?_
    exact g_iret hR (by decide +kernel : decode prog_10_method_44_code 40 = .ok (.ireturn, 1)) rfl ⟨_, rfl, ⟨by simp only [seekV, pz_none hI n2], by simp only [seekT, pz_none hI n2]; exact Jk.self _ _ _⟩⟩
set_option maxRecDepth 20000 in
theorem p_cover (σ : Store) (f b : Row) (hI : Inv f) (x y : Int32) : Ct ΛM mt_Md_cover 1 [.ref 0, .int x, .int y] (mS σ f b) (mP σ (coverV f x y) (coverT f x y)) := by
  refine Ct.of (by decide) (Nat.le_of_ble_eq_true rfl) (fun X hR => ?_)
  show G (ΛM, mt_Md_cover, 1) X (mS σ f b) [some (.ref 0), some (.int x), some (.int y)] [] 0
  have hn8 := hI.n.2
  refine g_iload_n (by decide +kernel : decode prog_10_method_48_code 0 = .ok (.iload_n 1, 1)) rfl ?_
  refine g_callSI [.int x] (by decide +kernel : decode prog_10_method_48_code 1 = .ok (.invokestatic 166, 3)) lk_Md_166 (m_isPlace ΛM (mS σ f b) x) rfl rfl (Nat.le_of_ble_eq_true rfl) (Nat.le_of_ble_eq_true rfl) (fun r1 s1 h1 => ?_)
  rcases h1 with ⟨rfl, ⟨rfl, p, hp1, rfl⟩ | ⟨rfl, n1⟩⟩
  · refine g_if_eqN (tgt := 31) (by decide +kernel : decode prog_10_method_48_code 4 = .ok (.ifCond .eq 27, 3)) (by decide) (by decide) (fun h => False.elim (by revert h; decide)) (fun _ => ?_)
    refine g_iload_n (by decide +kernel : decode prog_10_method_48_code 7 = .ok (.iload_n 2, 1)) rfl ?_
    refine g_i2l (by decide +kernel : decode prog_10_method_48_code 8 = .ok (.i2l, 1)) ?_
    refine g_lconst (v := lN 0) (by decide +kernel : decode prog_10_method_48_code 9 = .ok (.lconst 0, 1)) (by decide) ?_
    refine g_ldc2 (v := lN 9) (by decide +kernel : decode prog_10_method_48_code 10 = .ok (.ldc2_w 164, 3)) kc_Md_164 ?_
    refine g_callSI [.long (Int32.toInt64 y), .long (lN 0), .long (lN 9)] (by decide +kernel : decode prog_10_method_48_code 13 = .ok (.invokestatic 57, 3)) lk_Md_57 (m_isInN ΛM (mS σ f b) y 0 9) rfl rfl (Nat.le_of_ble_eq_true rfl) (Nat.le_of_ble_eq_true rfl) (fun r13 s13 h13 => ?_)
    rcases h13 with ⟨rfl, ⟨rfl, v, ha13, hb13, rfl⟩ | ⟨rfl, n13⟩⟩
    · refine g_if_eqN (tgt := 31) (by decide +kernel : decode prog_10_method_48_code 16 = .ok (.ifCond .eq 15, 3)) (by decide) (by decide) (fun h => False.elim (by revert h; decide)) (fun _ => ?_)
      refine g_aload_n (by decide +kernel : decode prog_10_method_48_code 19 = .ok (.aload_n 0, 1)) rfl ?_
      refine g_bipush (v := nI 7) (by decide +kernel : decode prog_10_method_48_code 20 = .ok (.bipush 7, 2)) (by decide) ?_
      refine g_iload_n (by decide +kernel : decode prog_10_method_48_code 22 = .ok (.iload_n 1, 1)) rfl ?_
      refine g_iaddN (by decide +kernel : decode prog_10_method_48_code 23 = .ok (.iadd, 1)) ?_
      refine g_iload_n (by decide +kernel : decode prog_10_method_48_code 24 = .ok (.iload_n 2, 1)) rfl ?_
      refine g_callVI [.int (nI (7 + p)), .int (nI v)] (by decide +kernel : decode prog_10_method_48_code 25 = .ok (.invokevirtual 156, 3)) lk_Md_156 (m_becomes (mS σ f b) (7 + p) (nI v) (v := f (7 + p)) rfl (by omega)) rfl rfl rfl rfl (Nat.le_of_ble_eq_true rfl) (Nat.le_of_ble_eq_true rfl) (fun r25 s25 h25 => ?_)
      obtain ⟨rfl, rfl⟩ := h25
      refine g_sto (mS_u1 _ _ _ _ _) ?_
      refine g_goto (tgt := 32) (by decide +kernel : decode prog_10_method_48_code 28 = .ok (.goto 4, 3)) (by decide) ?_
      exact g_iret hR (by decide +kernel : decode prog_10_method_48_code 32 = .ok (.ireturn, 1)) rfl ⟨_, rfl, ⟨by simp only [coverV, pl_of hp1, rg_of ha13 hb13], by simp only [coverT, pl_of hp1, rg_of ha13 hb13]; exact Jk.self _ _ _⟩⟩
    · refine g_if_eqN (tgt := 31) (by decide +kernel : decode prog_10_method_48_code 16 = .ok (.ifCond .eq 15, 3)) (by decide) (by decide) (fun _ => ?_) (fun h => False.elim (by revert h; decide))
      refine g_iconst (v := (-1)) (by decide +kernel : decode prog_10_method_48_code 31 = .ok (.iconst (-1), 1)) (by decide) ?_
      exact g_iret hR (by decide +kernel : decode prog_10_method_48_code 32 = .ok (.ireturn, 1)) rfl ⟨_, rfl, ⟨by simp only [coverV, pl_of hp1, rg_none n13], by simp only [coverT, pl_of hp1, rg_none n13]; exact Jk.self _ _ _⟩⟩
  · refine g_if_eqN (tgt := 31) (by decide +kernel : decode prog_10_method_48_code 4 = .ok (.ifCond .eq 27, 3)) (by decide) (by decide) (fun _ => ?_) (fun h => False.elim (by revert h; decide))
    refine g_iconst (v := (-1)) (by decide +kernel : decode prog_10_method_48_code 31 = .ok (.iconst (-1), 1)) (by decide) ?_
    exact g_iret hR (by decide +kernel : decode prog_10_method_48_code 32 = .ok (.ireturn, 1)) rfl ⟨_, rfl, ⟨by simp only [coverV, pl_none n1], by simp only [coverT, pl_none n1]; exact Jk.self _ _ _⟩⟩
set_option maxRecDepth 20000 in
theorem p_seed (σ : Store) (f b : Row) (hI : Inv f) (x : Int32) : Ct ΛM mt_Md_seed 1 [.ref 0, .int x] (mS σ f b) (mP σ (f 2) (upd f 2 x)) := by
  refine Ct.of (by decide) (Nat.le_of_ble_eq_true rfl) (fun X hR => ?_)
  show G (ΛM, mt_Md_seed, 1) X (mS σ f b) [some (.ref 0), some (.int x)] [] 0
  have hn8 := hI.n.2
  refine g_aload_n (by decide +kernel : decode prog_10_method_53_code 0 = .ok (.aload_n 0, 1)) rfl ?_
  refine g_iconst (v := nI 2) (by decide +kernel : decode prog_10_method_53_code 1 = .ok (.iconst 2, 1)) (by decide) ?_
  refine g_iload_n (by decide +kernel : decode prog_10_method_53_code 2 = .ok (.iload_n 1, 1)) rfl ?_
  refine g_callVI [.int (nI 2), .int x] (by decide +kernel : decode prog_10_method_53_code 3 = .ok (.invokevirtual 156, 3)) lk_Md_156 (m_becomes (mS σ f b) 2 x (v := f 2) rfl (by omega)) rfl rfl rfl rfl (Nat.le_of_ble_eq_true rfl) (Nat.le_of_ble_eq_true rfl) (fun r3 s3 h3 => ?_)
  obtain ⟨rfl, rfl⟩ := h3
  refine g_sto (mS_u1 _ _ _ _ _) ?_
  exact g_iret hR (by decide +kernel : decode prog_10_method_53_code 6 = .ok (.ireturn, 1)) rfl ⟨_, rfl, ⟨rfl, Jk.self _ _ _⟩⟩
set_option maxRecDepth 20000 in
theorem p_place (σ : Store) (f b : Row) (hI : Inv f) (x y : Int32) : Ct ΛM mt_Md_place 2 [.ref 0, .int x, .int y] (mS σ f b) (mP σ (placeV f x y) f) := by
  refine Ct.of (by decide) (Nat.le_of_ble_eq_true rfl) (fun X hR => ?_)
  show G (ΛM, mt_Md_place, 2) X (mS σ f b) [some (.ref 0), some (.int x), some (.int y)] [] 0
  have hn8 := hI.n.2
  have hand : ∀ p, atm f p (nn f) &&& msk f (nn f) < 4096 := fun p => Nat.lt_of_le_of_lt Nat.and_le_right (m_count σ f b hI)
  refine g_iload_n (by decide +kernel : decode prog_10_method_47_code 0 = .ok (.iload_n 1, 1)) rfl ?_
  refine g_callSI [.int x] (by decide +kernel : decode prog_10_method_47_code 1 = .ok (.invokestatic 166, 3)) lk_Md_166 (m_isPlace ΛM (mS σ f b) x) rfl rfl (Nat.le_of_ble_eq_true rfl) (Nat.le_of_ble_eq_true rfl) (fun r1 s1 h1 => ?_)
  rcases h1 with ⟨rfl, ⟨rfl, p, hp1, rfl⟩ | ⟨rfl, n1⟩⟩
  · refine g_if_eqN (tgt := 19) (by decide +kernel : decode prog_10_method_47_code 4 = .ok (.ifCond .eq 15, 3)) (by decide) (by decide) (fun h => False.elim (by revert h; decide)) (fun _ => ?_)
    refine g_iload_n (by decide +kernel : decode prog_10_method_47_code 7 = .ok (.iload_n 2, 1)) rfl ?_
    refine g_i2l (by decide +kernel : decode prog_10_method_47_code 8 = .ok (.i2l, 1)) ?_
    refine g_lconst (v := lN 0) (by decide +kernel : decode prog_10_method_47_code 9 = .ok (.lconst 0, 1)) (by decide) ?_
    refine g_ldc2 (v := lN 2) (by decide +kernel : decode prog_10_method_47_code 10 = .ok (.ldc2_w 175, 3)) kc_Md_175 ?_
    refine g_callSI [.long (Int32.toInt64 y), .long (lN 0), .long (lN 2)] (by decide +kernel : decode prog_10_method_47_code 13 = .ok (.invokestatic 57, 3)) lk_Md_57 (m_isInN ΛM (mS σ f b) y 0 2) rfl rfl (Nat.le_of_ble_eq_true rfl) (Nat.le_of_ble_eq_true rfl) (fun r13 s13 h13 => ?_)
    rcases h13 with ⟨rfl, ⟨rfl, w, ha13, hb13, rfl⟩ | ⟨rfl, n13⟩⟩
    · refine g_if_neN (tgt := 21) (by decide +kernel : decode prog_10_method_47_code 16 = .ok (.ifCond .ne 5, 3)) (by decide) (by decide) (fun _ => ?_) (fun h => False.elim (by revert h; decide))
      rcases (show w = 0 ∨ w = 1 ∨ w = 2 by omega) with rfl | rfl | rfl
      · refine g_iload_n (by decide +kernel : decode prog_10_method_47_code 21 = .ok (.iload_n 2, 1)) rfl ?_
        refine g_if_neN (tgt := 37) (by decide +kernel : decode prog_10_method_47_code 22 = .ok (.ifCond .ne 15, 3)) (by decide) (by decide) (fun h => False.elim (by revert h; decide)) (fun _ => ?_)
        refine g_aload_n (by decide +kernel : decode prog_10_method_47_code 25 = .ok (.aload_n 0, 1)) rfl ?_
        refine g_getR (by decide +kernel : decode prog_10_method_47_code 26 = .ok (.getfield 7, 3)) fl_Md_7 rfl rfl ?_
        refine g_bipush (v := nI 7) (by decide +kernel : decode prog_10_method_47_code 29 = .ok (.bipush 7, 2)) (by decide) ?_
        refine g_iload_n (by decide +kernel : decode prog_10_method_47_code 31 = .ok (.iload_n 1, 1)) rfl ?_
        refine g_iaddN (by decide +kernel : decode prog_10_method_47_code 32 = .ok (.iadd, 1)) ?_
        refine g_iaload (a := 7 + p) (by decide +kernel : decode prog_10_method_47_code 33 = .ok (.iaload, 1)) rfl rfl (by omega) (by decide) ?_
        refine g_top (w := f (7 + p)) (rfl) ?_
        refine g_goto (tgt := 63) (by decide +kernel : decode prog_10_method_47_code 34 = .ok (.goto 29, 3)) (by decide) ?_
        exact g_iret hR (by decide +kernel : decode prog_10_method_47_code 63 = .ok (.ireturn, 1)) rfl ⟨_, rfl, ⟨by simp only [placeV, pl_of hp1, rg_of ha13 hb13], Jk.self _ _ _⟩⟩
      · refine g_iload_n (by decide +kernel : decode prog_10_method_47_code 21 = .ok (.iload_n 2, 1)) rfl ?_
        refine g_if_neN (tgt := 37) (by decide +kernel : decode prog_10_method_47_code 22 = .ok (.ifCond .ne 15, 3)) (by decide) (by decide) (fun _ => ?_) (fun h => False.elim (by revert h; decide))
        refine g_iload_n (by decide +kernel : decode prog_10_method_47_code 37 = .ok (.iload_n 2, 1)) rfl ?_
        refine g_iconst (v := nI 1) (by decide +kernel : decode prog_10_method_47_code 38 = .ok (.iconst 1, 1)) (by decide) ?_
        refine g_icmp_neN (tgt := 50) (by decide +kernel : decode prog_10_method_47_code 39 = .ok (.if_icmp .ne 11, 3)) (by decide) (by decide) (by decide) (fun h => False.elim (by revert h; decide)) (fun _ => ?_)
        refine g_aload_n (by decide +kernel : decode prog_10_method_47_code 42 = .ok (.aload_n 0, 1)) rfl ?_
        refine g_iload_n (by decide +kernel : decode prog_10_method_47_code 43 = .ok (.iload_n 1, 1)) rfl ?_
        refine g_callVI [.int (nI p)] (by decide +kernel : decode prog_10_method_47_code 44 = .ok (.invokevirtual 186, 3)) lk_Md_186 (m_thoseAt σ f b hI p (by omega)) rfl rfl rfl rfl (Nat.le_of_ble_eq_true rfl) (Nat.le_of_ble_eq_true rfl) (fun r44 s44 h44 => ?_)
        obtain ⟨rfl, rfl⟩ := h44
        refine g_goto (tgt := 63) (by decide +kernel : decode prog_10_method_47_code 47 = .ok (.goto 16, 3)) (by decide) ?_
        exact g_iret hR (by decide +kernel : decode prog_10_method_47_code 63 = .ok (.ireturn, 1)) rfl ⟨_, rfl, ⟨by simp only [placeV, pl_of hp1, rg_of ha13 hb13], Jk.self _ _ _⟩⟩
      · refine g_iload_n (by decide +kernel : decode prog_10_method_47_code 21 = .ok (.iload_n 2, 1)) rfl ?_
        refine g_if_neN (tgt := 37) (by decide +kernel : decode prog_10_method_47_code 22 = .ok (.ifCond .ne 15, 3)) (by decide) (by decide) (fun _ => ?_) (fun h => False.elim (by revert h; decide))
        refine g_iload_n (by decide +kernel : decode prog_10_method_47_code 37 = .ok (.iload_n 2, 1)) rfl ?_
        refine g_iconst (v := nI 1) (by decide +kernel : decode prog_10_method_47_code 38 = .ok (.iconst 1, 1)) (by decide) ?_
        refine g_icmp_neN (tgt := 50) (by decide +kernel : decode prog_10_method_47_code 39 = .ok (.if_icmp .ne 11, 3)) (by decide) (by decide) (by decide) (fun _ => ?_) (fun h => False.elim (by revert h; decide))
        refine g_aload_n (by decide +kernel : decode prog_10_method_47_code 50 = .ok (.aload_n 0, 1)) rfl ?_
        refine g_iload_n (by decide +kernel : decode prog_10_method_47_code 51 = .ok (.iload_n 1, 1)) rfl ?_
        refine g_callVI [.int (nI p)] (by decide +kernel : decode prog_10_method_47_code 52 = .ok (.invokevirtual 186, 3)) lk_Md_186 (m_thoseAt σ f b hI p (by omega)) rfl rfl rfl rfl (Nat.le_of_ble_eq_true rfl) (Nat.le_of_ble_eq_true rfl) (fun r52 s52 h52 => ?_)
        obtain ⟨rfl, rfl⟩ := h52
        refine g_aload_n (by decide +kernel : decode prog_10_method_47_code 55 = .ok (.aload_n 0, 1)) rfl ?_
        refine g_callVI [] (by decide +kernel : decode prog_10_method_47_code 56 = .ok (.invokevirtual 189, 3)) lk_Md_189 (m_hiddenOnes σ f b hI) rfl rfl rfl rfl (Nat.le_of_ble_eq_true rfl) (Nat.le_of_ble_eq_true rfl) (fun r56 s56 h56 => ?_)
        obtain ⟨rfl, rfl⟩ := h56
        refine g_iand (by decide +kernel : decode prog_10_method_47_code 59 = .ok (.iand, 1)) ?_
        refine g_top (w := nI (atm f p (nn f) &&& msk f (nn f))) (nI_and _ _) ?_
        refine g_callSI [.int (nI (atm f p (nn f) &&& msk f (nn f)))] (by decide +kernel : decode prog_10_method_47_code 60 = .ok (.invokestatic 192, 3)) lk_Md_192 (m_size ΛM (mS σ f b) (atm f p (nn f) &&& msk f (nn f)) (hand p)) rfl rfl (Nat.le_of_ble_eq_true rfl) (Nat.le_of_ble_eq_true rfl) (fun r60 s60 h60 => ?_)
        obtain ⟨rfl, rfl⟩ := h60
        exact g_iret hR (by decide +kernel : decode prog_10_method_47_code 63 = .ok (.ireturn, 1)) rfl ⟨_, rfl, ⟨by simp only [placeV, pl_of hp1, rg_of ha13 hb13], Jk.self _ _ _⟩⟩
    · refine g_if_neN (tgt := 21) (by decide +kernel : decode prog_10_method_47_code 16 = .ok (.ifCond .ne 5, 3)) (by decide) (by decide) (fun h => False.elim (by revert h; decide)) (fun _ => ?_)
      refine g_iconst (v := (-1)) (by decide +kernel : decode prog_10_method_47_code 19 = .ok (.iconst (-1), 1)) (by decide) ?_
      exact g_iret hR (by decide +kernel : decode prog_10_method_47_code 20 = .ok (.ireturn, 1)) rfl ⟨_, rfl, ⟨by simp only [placeV, pl_of hp1, rg_none n13], Jk.self _ _ _⟩⟩
  · refine g_if_eqN (tgt := 19) (by decide +kernel : decode prog_10_method_47_code 4 = .ok (.ifCond .eq 15, 3)) (by decide) (by decide) (fun _ => ?_) (fun h => False.elim (by revert h; decide))
    refine g_iconst (v := (-1)) (by decide +kernel : decode prog_10_method_47_code 19 = .ok (.iconst (-1), 1)) (by decide) ?_
    exact g_iret hR (by decide +kernel : decode prog_10_method_47_code 20 = .ok (.ireturn, 1)) rfl ⟨_, rfl, ⟨by simp only [placeV, pl_none n1], Jk.self _ _ _⟩⟩
set_option maxRecDepth 20000 in
theorem p_person (σ : Store) (f b : Row) (hI : Inv f) (x y z u v : Int32) : Ct ΛM mt_Md_person 1 [.ref 0, .int x, .int y, .int z, .int u, .int v] (mS σ f b) (mP σ (personV f x y z u v) (personT f x y z u v)) := by
  refine Ct.of (by decide) (Nat.le_of_ble_eq_true rfl) (fun X hR => ?_)
  show G (ΛM, mt_Md_person, 1) X (mS σ f b) [some (.ref 0), some (.int x), some (.int y), some (.int z), some (.int u), some (.int v), none] [] 0
  have hn8 := hI.n.2
  refine g_iload_n (by decide +kernel : decode prog_10_method_35_code 0 = .ok (.iload_n 1, 1)) rfl ?_
  refine g_i2l (by decide +kernel : decode prog_10_method_35_code 1 = .ok (.i2l, 1)) ?_
  refine g_lconst (v := lN 0) (by decide +kernel : decode prog_10_method_35_code 2 = .ok (.lconst 0, 1)) (by decide) ?_
  refine g_ldc2 (v := lN 5) (by decide +kernel : decode prog_10_method_35_code 3 = .ok (.ldc2_w 160, 3)) kc_Md_160 ?_
  refine g_callSI [.long (Int32.toInt64 x), .long (lN 0), .long (lN 5)] (by decide +kernel : decode prog_10_method_35_code 6 = .ok (.invokestatic 57, 3)) lk_Md_57 (m_isInN ΛM (mS σ f b) x 0 5) rfl rfl (Nat.le_of_ble_eq_true rfl) (Nat.le_of_ble_eq_true rfl) (fun r6 s6 h6 => ?_)
  rcases h6 with ⟨rfl, ⟨rfl, k, ha6, hb6, rfl⟩ | ⟨rfl, n6⟩⟩
  · refine g_if_eqN (tgt := 55) (by decide +kernel : decode prog_10_method_35_code 9 = .ok (.ifCond .eq 46, 3)) (by decide) (by decide) (fun h => False.elim (by revert h; decide)) (fun _ => ?_)
    refine g_iload_n (by decide +kernel : decode prog_10_method_35_code 12 = .ok (.iload_n 2, 1)) rfl ?_
    refine g_i2l (by decide +kernel : decode prog_10_method_35_code 13 = .ok (.i2l, 1)) ?_
    refine g_lconst (v := lN 0) (by decide +kernel : decode prog_10_method_35_code 14 = .ok (.lconst 0, 1)) (by decide) ?_
    refine g_ldc2 (v := lN 99) (by decide +kernel : decode prog_10_method_35_code 15 = .ok (.ldc2_w 162, 3)) kc_Md_162 ?_
    refine g_callSI [.long (Int32.toInt64 y), .long (lN 0), .long (lN 99)] (by decide +kernel : decode prog_10_method_35_code 18 = .ok (.invokestatic 57, 3)) lk_Md_57 (m_isInN ΛM (mS σ f b) y 0 99) rfl rfl (Nat.le_of_ble_eq_true rfl) (Nat.le_of_ble_eq_true rfl) (fun r18 s18 h18 => ?_)
    rcases h18 with ⟨rfl, ⟨rfl, a, ha18, hb18, rfl⟩ | ⟨rfl, n18⟩⟩
    · refine g_if_eqN (tgt := 55) (by decide +kernel : decode prog_10_method_35_code 21 = .ok (.ifCond .eq 34, 3)) (by decide) (by decide) (fun h => False.elim (by revert h; decide)) (fun _ => ?_)
      refine g_iload_n (by decide +kernel : decode prog_10_method_35_code 24 = .ok (.iload_n 3, 1)) rfl ?_
      refine g_i2l (by decide +kernel : decode prog_10_method_35_code 25 = .ok (.i2l, 1)) ?_
      refine g_lconst (v := lN 0) (by decide +kernel : decode prog_10_method_35_code 26 = .ok (.lconst 0, 1)) (by decide) ?_
      refine g_ldc2 (v := lN 9) (by decide +kernel : decode prog_10_method_35_code 27 = .ok (.ldc2_w 164, 3)) kc_Md_164 ?_
      refine g_callSI [.long (Int32.toInt64 z), .long (lN 0), .long (lN 9)] (by decide +kernel : decode prog_10_method_35_code 30 = .ok (.invokestatic 57, 3)) lk_Md_57 (m_isInN ΛM (mS σ f b) z 0 9) rfl rfl (Nat.le_of_ble_eq_true rfl) (Nat.le_of_ble_eq_true rfl) (fun r30 s30 h30 => ?_)
      rcases h30 with ⟨rfl, ⟨rfl, w, ha30, hb30, rfl⟩ | ⟨rfl, n30⟩⟩
      · refine g_if_eqN (tgt := 55) (by decide +kernel : decode prog_10_method_35_code 33 = .ok (.ifCond .eq 22, 3)) (by decide) (by decide) (fun h => False.elim (by revert h; decide)) (fun _ => ?_)
        refine g_iload (by decide +kernel : decode prog_10_method_35_code 36 = .ok (.iload 4, 2)) rfl ?_
        refine g_callSI [.int u] (by decide +kernel : decode prog_10_method_35_code 38 = .ok (.invokestatic 166, 3)) lk_Md_166 (m_isPlace ΛM (mS σ f b) u) rfl rfl (Nat.le_of_ble_eq_true rfl) (Nat.le_of_ble_eq_true rfl) (fun r38 s38 h38 => ?_)
        rcases h38 with ⟨rfl, ⟨rfl, p, hp38, rfl⟩ | ⟨rfl, n38⟩⟩
        · refine g_if_eqN (tgt := 55) (by decide +kernel : decode prog_10_method_35_code 41 = .ok (.ifCond .eq 14, 3)) (by decide) (by decide) (fun h => False.elim (by revert h; decide)) (fun _ => ?_)
          refine g_iload (by decide +kernel : decode prog_10_method_35_code 44 = .ok (.iload 5, 2)) rfl ?_
          refine g_i2l (by decide +kernel : decode prog_10_method_35_code 46 = .ok (.i2l, 1)) ?_
          refine g_lconst (v := lN 0) (by decide +kernel : decode prog_10_method_35_code 47 = .ok (.lconst 0, 1)) (by decide) ?_
          refine g_lconst (v := lN 1) (by decide +kernel : decode prog_10_method_35_code 48 = .ok (.lconst 1, 1)) (by decide) ?_
          refine g_callSI [.long (Int32.toInt64 v), .long (lN 0), .long (lN 1)] (by decide +kernel : decode prog_10_method_35_code 49 = .ok (.invokestatic 57, 3)) lk_Md_57 (m_isInN ΛM (mS σ f b) v 0 1) rfl rfl (Nat.le_of_ble_eq_true rfl) (Nat.le_of_ble_eq_true rfl) (fun r49 s49 h49 => ?_)
          rcases h49 with ⟨rfl, ⟨rfl, s, ha49, hb49, rfl⟩ | ⟨rfl, n49⟩⟩
          · refine g_if_neN (tgt := 57) (by decide +kernel : decode prog_10_method_35_code 52 = .ok (.ifCond .ne 5, 3)) (by decide) (by decide) (fun _ => ?_) (fun h => False.elim (by revert h; decide))
            refine g_aload_n (by decide +kernel : decode prog_10_method_35_code 57 = .ok (.aload_n 0, 1)) rfl ?_
            refine g_getR (by decide +kernel : decode prog_10_method_35_code 58 = .ok (.getfield 7, 3)) fl_Md_7 rfl rfl ?_
            refine g_iconst (v := nI 0) (by decide +kernel : decode prog_10_method_35_code 61 = .ok (.iconst 0, 1)) (by decide) ?_
            refine g_iaload (a := 0) (by decide +kernel : decode prog_10_method_35_code 62 = .ok (.iaload, 1)) rfl rfl (by decide) (by decide) ?_
            refine g_top (w := nI (nn f)) (hI.n.1) ?_
            refine g_bipush (v := nI 8) (by decide +kernel : decode prog_10_method_35_code 63 = .ok (.bipush 8, 2)) (by decide) ?_
            refine g_icmp_neN (tgt := 71) (by decide +kernel : decode prog_10_method_35_code 65 = .ok (.if_icmp .ne 6, 3)) (by decide) (by omega) (by decide) (fun h65 => ?_) (fun h65 => ?_)
            · refine g_bipush (v := nI 19) (by decide +kernel : decode prog_10_method_35_code 71 = .ok (.bipush 19, 2)) (by decide) ?_
              refine g_bipush (v := nI 6) (by decide +kernel : decode prog_10_method_35_code 73 = .ok (.bipush 6, 2)) (by decide) ?_
              refine g_aload_n (by decide +kernel : decode prog_10_method_35_code 75 = .ok (.aload_n 0, 1)) rfl ?_
              refine g_getR (by decide +kernel : decode prog_10_method_35_code 76 = .ok (.getfield 7, 3)) fl_Md_7 rfl rfl ?_
              refine g_iconst (v := nI 0) (by decide +kernel : decode prog_10_method_35_code 79 = .ok (.iconst 0, 1)) (by decide) ?_
              refine g_iaload (a := 0) (by decide +kernel : decode prog_10_method_35_code 80 = .ok (.iaload, 1)) rfl rfl (by decide) (by decide) ?_
              refine g_top (w := nI (nn f)) (hI.n.1) ?_
              refine g_imulN (by decide +kernel : decode prog_10_method_35_code 81 = .ok (.imul, 1)) ?_
              refine g_iaddN (by decide +kernel : decode prog_10_method_35_code 82 = .ok (.iadd, 1)) ?_
              refine g_istore (L' := [some (.ref 0), some (.int (nI k)), some (.int (nI a)), some (.int (nI w)), some (.int (nI p)), some (.int (nI s)), some (.int (nI (19 + 6 * (nn f))))]) (by decide +kernel : decode prog_10_method_35_code 83 = .ok (.istore 6, 2)) (Nat.le_of_ble_eq_true rfl) rfl ?_
              refine g_aload_n (by decide +kernel : decode prog_10_method_35_code 85 = .ok (.aload_n 0, 1)) rfl ?_
              refine g_getR (by decide +kernel : decode prog_10_method_35_code 86 = .ok (.getfield 7, 3)) fl_Md_7 rfl rfl ?_
              refine g_iload (by decide +kernel : decode prog_10_method_35_code 89 = .ok (.iload 6, 2)) rfl ?_
              refine g_iload_n (by decide +kernel : decode prog_10_method_35_code 91 = .ok (.iload_n 1, 1)) rfl ?_
              refine g_iastore (a := 19 + 6 * (nn f)) (by decide +kernel : decode prog_10_method_35_code 92 = .ok (.iastore, 1)) rfl rfl (by omega) (by decide) ?_
              refine g_sto (mS_u1 _ _ _ _ _) ?_
              refine g_aload_n (by decide +kernel : decode prog_10_method_35_code 93 = .ok (.aload_n 0, 1)) rfl ?_
              refine g_getR (by decide +kernel : decode prog_10_method_35_code 94 = .ok (.getfield 7, 3)) fl_Md_7 rfl rfl ?_
              refine g_iload (by decide +kernel : decode prog_10_method_35_code 97 = .ok (.iload 6, 2)) rfl ?_
              refine g_iconst (v := nI 1) (by decide +kernel : decode prog_10_method_35_code 99 = .ok (.iconst 1, 1)) (by decide) ?_
              refine g_iaddN (by decide +kernel : decode prog_10_method_35_code 100 = .ok (.iadd, 1)) ?_
              refine g_iload_n (by decide +kernel : decode prog_10_method_35_code 101 = .ok (.iload_n 2, 1)) rfl ?_
              refine g_iastore (a := 19 + 6 * (nn f) + 1) (by decide +kernel : decode prog_10_method_35_code 102 = .ok (.iastore, 1)) rfl rfl (by omega) (by decide) ?_
              refine g_sto (mS_u1 _ _ _ _ _) ?_
              refine g_aload_n (by decide +kernel : decode prog_10_method_35_code 103 = .ok (.aload_n 0, 1)) rfl ?_
              refine g_getR (by decide +kernel : decode prog_10_method_35_code 104 = .ok (.getfield 7, 3)) fl_Md_7 rfl rfl ?_
              refine g_iload (by decide +kernel : decode prog_10_method_35_code 107 = .ok (.iload 6, 2)) rfl ?_
              refine g_iconst (v := nI 2) (by decide +kernel : decode prog_10_method_35_code 109 = .ok (.iconst 2, 1)) (by decide) ?_
              refine g_iaddN (by decide +kernel : decode prog_10_method_35_code 110 = .ok (.iadd, 1)) ?_
              refine g_iload_n (by decide +kernel : decode prog_10_method_35_code 111 = .ok (.iload_n 3, 1)) rfl ?_
              refine g_iastore (a := 19 + 6 * (nn f) + 2) (by decide +kernel : decode prog_10_method_35_code 112 = .ok (.iastore, 1)) rfl rfl (by omega) (by decide) ?_
              refine g_sto (mS_u1 _ _ _ _ _) ?_
              refine g_aload_n (by decide +kernel : decode prog_10_method_35_code 113 = .ok (.aload_n 0, 1)) rfl ?_
              refine g_getR (by decide +kernel : decode prog_10_method_35_code 114 = .ok (.getfield 7, 3)) fl_Md_7 rfl rfl ?_
              refine g_iload (by decide +kernel : decode prog_10_method_35_code 117 = .ok (.iload 6, 2)) rfl ?_
              refine g_iconst (v := nI 3) (by decide +kernel : decode prog_10_method_35_code 119 = .ok (.iconst 3, 1)) (by decide) ?_
              refine g_iaddN (by decide +kernel : decode prog_10_method_35_code 120 = .ok (.iadd, 1)) ?_
              refine g_iload (by decide +kernel : decode prog_10_method_35_code 121 = .ok (.iload 4, 2)) rfl ?_
              refine g_iastore (a := 19 + 6 * (nn f) + 3) (by decide +kernel : decode prog_10_method_35_code 123 = .ok (.iastore, 1)) rfl rfl (by omega) (by decide) ?_
              refine g_sto (mS_u1 _ _ _ _ _) ?_
              refine g_aload_n (by decide +kernel : decode prog_10_method_35_code 124 = .ok (.aload_n 0, 1)) rfl ?_
              refine g_getR (by decide +kernel : decode prog_10_method_35_code 125 = .ok (.getfield 7, 3)) fl_Md_7 rfl rfl ?_
              refine g_iload (by decide +kernel : decode prog_10_method_35_code 128 = .ok (.iload 6, 2)) rfl ?_
              refine g_iconst (v := nI 4) (by decide +kernel : decode prog_10_method_35_code 130 = .ok (.iconst 4, 1)) (by decide) ?_
              refine g_iaddN (by decide +kernel : decode prog_10_method_35_code 131 = .ok (.iadd, 1)) ?_
              refine g_iconst (v := nI 1) (by decide +kernel : decode prog_10_method_35_code 132 = .ok (.iconst 1, 1)) (by decide) ?_
              refine g_iload (by decide +kernel : decode prog_10_method_35_code 133 = .ok (.iload 5, 2)) rfl ?_
              refine g_isubN (by decide +kernel : decode prog_10_method_35_code 135 = .ok (.isub, 1)) (by omega) ?_
              refine g_iastore (a := 19 + 6 * (nn f) + 4) (by decide +kernel : decode prog_10_method_35_code 136 = .ok (.iastore, 1)) rfl rfl (by omega) (by decide) ?_
              refine g_sto (mS_u1 _ _ _ _ _) ?_
              refine g_aload_n (by decide +kernel : decode prog_10_method_35_code 137 = .ok (.aload_n 0, 1)) rfl ?_
              refine g_getR (by decide +kernel : decode prog_10_method_35_code 138 = .ok (.getfield 7, 3)) fl_Md_7 rfl rfl ?_
              refine g_iload (by decide +kernel : decode prog_10_method_35_code 141 = .ok (.iload 6, 2)) rfl ?_
              refine g_iconst (v := nI 5) (by decide +kernel : decode prog_10_method_35_code 143 = .ok (.iconst 5, 1)) (by decide) ?_
              refine g_iaddN (by decide +kernel : decode prog_10_method_35_code 144 = .ok (.iadd, 1)) ?_
              refine g_iconst (v := nI 0) (by decide +kernel : decode prog_10_method_35_code 145 = .ok (.iconst 0, 1)) (by decide) ?_
              refine g_iastore (a := 19 + 6 * (nn f) + 5) (by decide +kernel : decode prog_10_method_35_code 146 = .ok (.iastore, 1)) rfl rfl (by omega) (by decide) ?_
              refine g_sto (mS_u1 _ _ _ _ _) ?_
              refine g_aload_n (by decide +kernel : decode prog_10_method_35_code 147 = .ok (.aload_n 0, 1)) rfl ?_
              refine g_getR (by decide +kernel : decode prog_10_method_35_code 148 = .ok (.getfield 7, 3)) fl_Md_7 rfl rfl ?_
              refine g_iconst (v := nI 0) (by decide +kernel : decode prog_10_method_35_code 151 = .ok (.iconst 0, 1)) (by decide) ?_
              refine g_dup2 (by decide +kernel : decode prog_10_method_35_code 152 = .ok (.dup2, 1)) rfl rfl ?_
              refine g_iaload (a := 0) (by decide +kernel : decode prog_10_method_35_code 153 = .ok (.iaload, 1)) rfl rfl (by decide) (by decide) ?_
              refine g_top (w := nI (nn f)) (by rw [mS_1]; simp (disch := omega) only [upd_n]; exact hI.n.1) ?_
              refine g_iconst (v := nI 1) (by decide +kernel : decode prog_10_method_35_code 154 = .ok (.iconst 1, 1)) (by decide) ?_
              refine g_iaddN (by decide +kernel : decode prog_10_method_35_code 155 = .ok (.iadd, 1)) ?_
              refine g_iastore (a := 0) (by decide +kernel : decode prog_10_method_35_code 156 = .ok (.iastore, 1)) rfl rfl (by decide) (by decide) ?_
              refine g_sto (mS_u1 _ _ _ _ _) ?_
              refine g_aload_n (by decide +kernel : decode prog_10_method_35_code 157 = .ok (.aload_n 0, 1)) rfl ?_
              refine g_getR (by decide +kernel : decode prog_10_method_35_code 158 = .ok (.getfield 7, 3)) fl_Md_7 rfl rfl ?_
              refine g_iconst (v := nI 0) (by decide +kernel : decode prog_10_method_35_code 161 = .ok (.iconst 0, 1)) (by decide) ?_
              refine g_iaload (a := 0) (by decide +kernel : decode prog_10_method_35_code 162 = .ok (.iaload, 1)) rfl rfl (by decide) (by decide) ?_
              refine g_top (w := nI (nn f + 1)) (by rw [mS_1, upd_s]) ?_
              refine g_iconst (v := nI 1) (by decide +kernel : decode prog_10_method_35_code 163 = .ok (.iconst 1, 1)) (by decide) ?_
              refine g_isubN (by decide +kernel : decode prog_10_method_35_code 164 = .ok (.isub, 1)) (by omega) ?_
              exact g_iret hR (by decide +kernel : decode prog_10_method_35_code 165 = .ok (.ireturn, 1)) rfl ⟨_, rfl, ⟨by simp only [personV, rg_of ha6 hb6, rg_of ha18 hb18, rg_of ha30 hb30, pl_of hp38, rg_of ha49 hb49]; rw [if_neg h65, Nat.add_sub_cancel], by simp only [personT, rg_of ha6 hb6, rg_of ha18 hb18, rg_of ha30 hb30, pl_of hp38, rg_of ha49 hb49]; rw [if_neg h65]; exact Jk.self _ _ _⟩⟩
            · refine g_bipush (v := (-2)) (by decide +kernel : decode prog_10_method_35_code 68 = .ok (.bipush (-2), 2)) (by decide) ?_
              exact g_iret hR (by decide +kernel : decode prog_10_method_35_code 70 = .ok (.ireturn, 1)) rfl ⟨_, rfl, ⟨by simp only [personV, rg_of ha6 hb6, rg_of ha18 hb18, rg_of ha30 hb30, pl_of hp38, rg_of ha49 hb49]; rw [if_pos h65], by simp only [personT, rg_of ha6 hb6, rg_of ha18 hb18, rg_of ha30 hb30, pl_of hp38, rg_of ha49 hb49]; rw [if_pos h65]; exact Jk.self _ _ _⟩⟩
          · refine g_if_neN (tgt := 57) (by decide +kernel : decode prog_10_method_35_code 52 = .ok (.ifCond .ne 5, 3)) (by decide) (by decide) (fun h => False.elim (by revert h; decide)) (fun _ => ?_)
            refine g_iconst (v := (-1)) (by decide +kernel : decode prog_10_method_35_code 55 = .ok (.iconst (-1), 1)) (by decide) ?_
            exact g_iret hR (by decide +kernel : decode prog_10_method_35_code 56 = .ok (.ireturn, 1)) rfl ⟨_, rfl, ⟨by simp only [personV, rg_of ha6 hb6, rg_of ha18 hb18, rg_of ha30 hb30, pl_of hp38, rg_none n49], by simp only [personT, rg_of ha6 hb6, rg_of ha18 hb18, rg_of ha30 hb30, pl_of hp38, rg_none n49]; exact Jk.self _ _ _⟩⟩
        · refine g_if_eqN (tgt := 55) (by decide +kernel : decode prog_10_method_35_code 41 = .ok (.ifCond .eq 14, 3)) (by decide) (by decide) (fun _ => ?_) (fun h => False.elim (by revert h; decide))
          refine g_iconst (v := (-1)) (by decide +kernel : decode prog_10_method_35_code 55 = .ok (.iconst (-1), 1)) (by decide) ?_
          exact g_iret hR (by decide +kernel : decode prog_10_method_35_code 56 = .ok (.ireturn, 1)) rfl ⟨_, rfl, ⟨by simp only [personV, rg_of ha6 hb6, rg_of ha18 hb18, rg_of ha30 hb30, pl_none n38], by simp only [personT, rg_of ha6 hb6, rg_of ha18 hb18, rg_of ha30 hb30, pl_none n38]; exact Jk.self _ _ _⟩⟩
      · refine g_if_eqN (tgt := 55) (by decide +kernel : decode prog_10_method_35_code 33 = .ok (.ifCond .eq 22, 3)) (by decide) (by decide) (fun _ => ?_) (fun h => False.elim (by revert h; decide))
        refine g_iconst (v := (-1)) (by decide +kernel : decode prog_10_method_35_code 55 = .ok (.iconst (-1), 1)) (by decide) ?_
        exact g_iret hR (by decide +kernel : decode prog_10_method_35_code 56 = .ok (.ireturn, 1)) rfl ⟨_, rfl, ⟨by simp only [personV, rg_of ha6 hb6, rg_of ha18 hb18, rg_none n30], by simp only [personT, rg_of ha6 hb6, rg_of ha18 hb18, rg_none n30]; exact Jk.self _ _ _⟩⟩
    · refine g_if_eqN (tgt := 55) (by decide +kernel : decode prog_10_method_35_code 21 = .ok (.ifCond .eq 34, 3)) (by decide) (by decide) (fun _ => ?_) (fun h => False.elim (by revert h; decide))
      refine g_iconst (v := (-1)) (by decide +kernel : decode prog_10_method_35_code 55 = .ok (.iconst (-1), 1)) (by decide) ?_
      exact g_iret hR (by decide +kernel : decode prog_10_method_35_code 56 = .ok (.ireturn, 1)) rfl ⟨_, rfl, ⟨by simp only [personV, rg_of ha6 hb6, rg_none n18], by simp only [personT, rg_of ha6 hb6, rg_none n18]; exact Jk.self _ _ _⟩⟩
  · refine g_if_eqN (tgt := 55) (by decide +kernel : decode prog_10_method_35_code 9 = .ok (.ifCond .eq 46, 3)) (by decide) (by decide) (fun _ => ?_) (fun h => False.elim (by revert h; decide))
    refine g_iconst (v := (-1)) (by decide +kernel : decode prog_10_method_35_code 55 = .ok (.iconst (-1), 1)) (by decide) ?_
    exact g_iret hR (by decide +kernel : decode prog_10_method_35_code 56 = .ok (.ireturn, 1)) rfl ⟨_, rfl, ⟨by simp only [personV, rg_none n6], by simp only [personT, rg_none n6]; exact Jk.self _ _ _⟩⟩
end
section
/-! THE REFERENCE: sums, sets, the shortest round, what is kept -/
theorem mS_uk (σ : Store) (f b : Row) {k : Nat} (i : Nat) (v : Int32) (h1 : k ≠ 1) (h6 : k ≠ 6) : s_up (mS σ f b) k i v = mS (s_up σ k i v) f b := by
  funext c
  unfold mS s_up s_row
  by_cases e : c = k
  · subst e; simp [h1, h6]
  · simp [e]
/-- one number of all together -/
def smF (f : Row) (w : Nat) : Nat → Int32
  | 0 => nI 0
  | k + 1 => smF f w k + f (19 + 6 * k + w)
/-- places at which one is hidden, as a set -/
def hpl (f : Row) : Nat → Nat
  | 0 => 0
  | k + 1 => hpl f k ||| tn (f (19 + 6 * k + 4)) * 2 ^ tn (f (19 + 6 * k + 3))
theorem hpl_lt {f : Row} (h : Inv f) : ∀ k, k ≤ nn f → hpl f k < 4096 := by
  intro k
  induction k with
  | zero => intro _; show 0 < 4096; decide
  | succ k ih =>
    intro hk
    have h4 : tn (f (19 + 6 * k + 4)) ≤ 1 := (h.p (o := k) (by omega) 4).2
    have h3 : tn (f (19 + 6 * k + 3)) ≤ 11 := (h.p (o := k) (by omega) 3).2
    have h5 : 2 ^ tn (f (19 + 6 * k + 3)) ≤ 2 ^ 11 := Nat.pow_le_pow_right (by decide) h3
    have h6 : tn (f (19 + 6 * k + 4)) * 2 ^ tn (f (19 + 6 * k + 3)) ≤ 1 * 2 ^ 11 := Nat.mul_le_mul h4 h5
    show hpl f k ||| _ < 2 ^ 12
    exact Nat.or_lt_two_pow (ih (by omega)) (by omega)
def cvF (f : Row) : Nat → Int32
  | 0 => nI 0
  | k + 1 => cvF f k + f (7 + k)
def crw (f : Row) : Nat → Nat
  | 0 => 0
  | k + 1 => crw f k + (if 1 < popc (atm f (tn (f (19 + 6 * k + 3))) (nn f)) then 1 else 0)
theorem crw_le (f : Row) : ∀ k, crw f k ≤ k := by
  intro k
  induction k with
  | zero => exact Nat.le_refl _
  | succ k ih =>
    show crw f k + (if _ then _ else _) ≤ _
    split <;> omega
def stateV (f : Row) (x : Int32) : Int32 := match rg 0 5 x with
  | none => -1
  | some 0 => f 1
  | some 1 => nI (msk f (nn f))
  | some 2 => smF f 1 (nn f)
  | some 3 => smF f 5 (nn f)
  | some 4 => nI (hpl f (nn f))
  | some _ => cvF f 12
def manyV (σ : Store) (f : Row) (x : Int32) : Int32 := match rg 0 6 x with
  | none => -1
  | some 0 => f 0
  | some 1 => nI (hc f)
  | some 2 => nI (popc (hpl f (nn f)))
  | some 3 => nI (crw f (nn f))
  | some 4 => σ 0 14
  | some 5 => σ 0 6
  | some _ => σ 0 22
/-- a number by cases: below a, or from b on, or one of them -/
theorem sw_in (x : Int32) (n : Nat) (hn : n < 2 ^ 31) : (∃ j, j < n ∧ x = nI j) ∨ ((x.toInt < 0 ∨ (n : Int) ≤ x.toInt) ∧ ¬ ∃ j, j < n ∧ x = nI j) := by
  by_cases h : ∃ j, j < n ∧ x = nI j
  · exact Or.inl h
  · refine Or.inr ⟨?_, h⟩
    rcases pk_ix x hn with h1 | h1 | h1
    · left; rw [Int32.lt_iff_toInt_lt, Int32.toInt_zero] at h1; exact h1
    · right; rw [Int32.le_iff_toInt_le, nI_toInt hn] at h1; exact h1
    · exact absurd h1 h
theorem rg_no {n : Nat} {x : Int32} (h : ¬ ∃ j, j < n + 1 ∧ x = nI j) (hn : n < 2 ^ 31 := by decide) : rg 0 n x = none := rg_none (fun ⟨j, _, h1, h2⟩ => h ⟨j, by omega, h2⟩) hn (Nat.zero_le _)
theorem rg_yes (n j : Nat) (h : j ≤ n := by decide) (hn : n < 2 ^ 31 := by decide) : rg 0 n (nI j) = some j := rg_of (Nat.zero_le _) h hn
set_option maxRecDepth 20000 in
theorem m_sumOf_lp {X : CX} {σ : Store} {f b : Row} (hI : Inv f) {w : Nat} (hw : w < 6) : ∀ (b9 k : Nat), k ≤ nn f → nn f - k < b9 → Rt (ΛM, mt_Md_sumOf, 1) (PF (smF f w (nn f)) (mS σ f b)) X → G (ΛM, mt_Md_sumOf, 1) X (mS σ f b) [some (.ref 0), some (.int (nI w)), some (.int (smF f w k)), some (.int (nI k))] [] 4 := by
  have hn8 := hI.n.2
  intro b9
  induction b9 with
  | zero => intro k hk hb hR; omega
  | succ b9 ih =>
  intro k hk hb hR
  refine g_iload_n (by decide +kernel : decode prog_10_method_57_code 4 = .ok (.iload_n 3, 1)) rfl ?_
  refine g_aload_n (by decide +kernel : decode prog_10_method_57_code 5 = .ok (.aload_n 0, 1)) rfl ?_
  refine g_getR (by decide +kernel : decode prog_10_method_57_code 6 = .ok (.getfield 7, 3)) fl_Md_7 rfl rfl ?_
  refine g_iconst (v := nI 0) (by decide +kernel : decode prog_10_method_57_code 9 = .ok (.iconst 0, 1)) (by decide) ?_
  refine g_iaload (a := 0) (by decide +kernel : decode prog_10_method_57_code 10 = .ok (.iaload, 1)) rfl rfl (by decide) (by decide) ?_
  refine g_top (w := nI (nn f)) (hI.n.1) ?_
  refine g_icmp_geN (tgt := 29) (by decide +kernel : decode prog_10_method_57_code 11 = .ok (.if_icmp .ge 18, 3)) (by decide) (by omega) (by omega) (fun h11 => ?_) (fun h11 => ?_)
  · refine g_iload_n (by decide +kernel : decode prog_10_method_57_code 29 = .ok (.iload_n 2, 1)) rfl ?_
    exact g_iret hR (by decide +kernel : decode prog_10_method_57_code 30 = .ok (.ireturn, 1)) rfl ⟨_, rfl, ⟨by rw [show k = nn f by omega], rfl⟩⟩
  · refine g_iload_n (by decide +kernel : decode prog_10_method_57_code 14 = .ok (.iload_n 2, 1)) rfl ?_
    refine g_aload_n (by decide +kernel : decode prog_10_method_57_code 15 = .ok (.aload_n 0, 1)) rfl ?_
    refine g_iload_n (by decide +kernel : decode prog_10_method_57_code 16 = .ok (.iload_n 3, 1)) rfl ?_
    refine g_iload_n (by decide +kernel : decode prog_10_method_57_code 17 = .ok (.iload_n 1, 1)) rfl ?_
    refine g_callVI [.int (nI k), .int (nI w)] (by decide +kernel : decode prog_10_method_57_code 18 = .ok (.invokevirtual 169, 3)) lk_Md_169 (m_its (mS σ f b) k w (v := f (19 + 6 * k + w)) rfl (by omega)) rfl rfl rfl rfl (Nat.le_of_ble_eq_true rfl) (Nat.le_of_ble_eq_true rfl) (fun r18 s18 h18 => ?_)
    obtain ⟨rfl, rfl⟩ := h18
    refine g_iadd (by decide +kernel : decode prog_10_method_57_code 21 = .ok (.iadd, 1)) ?_
    refine g_istore_n (L' := [some (.ref 0), some (.int (nI w)), some (.int ((smF f w k) + (f (19 + 6 * k + w)))), some (.int (nI k))]) (by decide +kernel : decode prog_10_method_57_code 22 = .ok (.istore_n 2, 1)) (Nat.le_of_ble_eq_true rfl) rfl ?_
    refine g_iincN (n := 1) (L' := [some (.ref 0), some (.int (nI w)), some (.int ((smF f w k) + (f (19 + 6 * k + w)))), some (.int (nI (k + 1)))]) (by decide +kernel : decode prog_10_method_57_code 23 = .ok (.iinc 3 1, 3)) rfl (by decide) (Nat.le_of_ble_eq_true rfl) rfl ?_
    refine g_goto (tgt := 4) (by decide +kernel : decode prog_10_method_57_code 26 = .ok (.goto (-22), 3)) (by decide) ?_
    exact ih (k + 1) (by omega) (by omega) hR
set_option maxRecDepth 20000 in
theorem m_sumOf (σ : Store) (f b : Row) (hI : Inv f) (w : Nat) (hw : w < 6) : Ct ΛM mt_Md_sumOf 1 [.ref 0, .int (nI w)] (mS σ f b) (PF (smF f w (nn f)) (mS σ f b)) := by
  refine Ct.of (by decide) (Nat.le_of_ble_eq_true rfl) (fun X hR => ?_)
  show G (ΛM, mt_Md_sumOf, 1) X (mS σ f b) [some (.ref 0), some (.int (nI w)), none, none] [] 0
  refine g_iconst (v := nI 0) (by decide +kernel : decode prog_10_method_57_code 0 = .ok (.iconst 0, 1)) (by decide) ?_
  refine g_istore_n (L' := [some (.ref 0), some (.int (nI w)), some (.int (nI 0)), none]) (by decide +kernel : decode prog_10_method_57_code 1 = .ok (.istore_n 2, 1)) (Nat.le_of_ble_eq_true rfl) rfl ?_
  refine g_iconst (v := nI 0) (by decide +kernel : decode prog_10_method_57_code 2 = .ok (.iconst 0, 1)) (by decide) ?_
  refine g_istore_n (L' := [some (.ref 0), some (.int (nI w)), some (.int (nI 0)), some (.int (nI 0))]) (by decide +kernel : decode prog_10_method_57_code 3 = .ok (.istore_n 3, 1)) (Nat.le_of_ble_eq_true rfl) rfl ?_
  exact m_sumOf_lp hI hw (nn f + 1) 0 (Nat.zero_le _) (by omega) hR
set_option maxRecDepth 20000 in
theorem m_hpl_lp {X : CX} {σ : Store} {f b : Row} (hI : Inv f) : ∀ (b9 k : Nat), k ≤ nn f → nn f - k < b9 → Rt (ΛM, mt_Md_hidingPlaces, 1) (PF (nI (hpl f (nn f))) (mS σ f b)) X → G (ΛM, mt_Md_hidingPlaces, 1) X (mS σ f b) [some (.ref 0), some (.int (nI (hpl f k))), some (.int (nI k))] [] 4 := by
  have hn8 := hI.n.2
  intro b9
  induction b9 with
  | zero => intro k hk hb hR; omega
  | succ b9 ih =>
  intro k hk hb hR
  refine g_iload_n (by decide +kernel : decode prog_10_method_58_code 4 = .ok (.iload_n 2, 1)) rfl ?_
  refine g_aload_n (by decide +kernel : decode prog_10_method_58_code 5 = .ok (.aload_n 0, 1)) rfl ?_
  refine g_getR (by decide +kernel : decode prog_10_method_58_code 6 = .ok (.getfield 7, 3)) fl_Md_7 rfl rfl ?_
  refine g_iconst (v := nI 0) (by decide +kernel : decode prog_10_method_58_code 9 = .ok (.iconst 0, 1)) (by decide) ?_
  refine g_iaload (a := 0) (by decide +kernel : decode prog_10_method_58_code 10 = .ok (.iaload, 1)) rfl rfl (by decide) (by decide) ?_
  refine g_top (w := nI (nn f)) (hI.n.1) ?_
  refine g_icmp_geN (tgt := 36) (by decide +kernel : decode prog_10_method_58_code 11 = .ok (.if_icmp .ge 25, 3)) (by decide) (by omega) (by omega) (fun h11 => ?_) (fun h11 => ?_)
  · refine g_iload_n (by decide +kernel : decode prog_10_method_58_code 36 = .ok (.iload_n 1, 1)) rfl ?_
    exact g_iret hR (by decide +kernel : decode prog_10_method_58_code 37 = .ok (.ireturn, 1)) rfl ⟨_, rfl, ⟨by rw [show k = nn f by omega], rfl⟩⟩
  · refine g_iload_n (by decide +kernel : decode prog_10_method_58_code 14 = .ok (.iload_n 1, 1)) rfl ?_
    refine g_aload_n (by decide +kernel : decode prog_10_method_58_code 15 = .ok (.aload_n 0, 1)) rfl ?_
    refine g_iload_n (by decide +kernel : decode prog_10_method_58_code 16 = .ok (.iload_n 2, 1)) rfl ?_
    refine g_iconst (v := nI 4) (by decide +kernel : decode prog_10_method_58_code 17 = .ok (.iconst 4, 1)) (by decide) ?_
    refine g_callVI [.int (nI k), .int (nI 4)] (by decide +kernel : decode prog_10_method_58_code 18 = .ok (.invokevirtual 169, 3)) lk_Md_169 (m_its (mS σ f b) k 4 (hI.p (o := k) (by omega) 4).1 (by omega)) rfl rfl rfl rfl (Nat.le_of_ble_eq_true rfl) (Nat.le_of_ble_eq_true rfl) (fun r18 s18 h18 => ?_)
    obtain ⟨rfl, rfl⟩ := h18
    refine g_aload_n (by decide +kernel : decode prog_10_method_58_code 21 = .ok (.aload_n 0, 1)) rfl ?_
    refine g_iload_n (by decide +kernel : decode prog_10_method_58_code 22 = .ok (.iload_n 2, 1)) rfl ?_
    refine g_iconst (v := nI 3) (by decide +kernel : decode prog_10_method_58_code 23 = .ok (.iconst 3, 1)) (by decide) ?_
    refine g_callVI [.int (nI k), .int (nI 3)] (by decide +kernel : decode prog_10_method_58_code 24 = .ok (.invokevirtual 169, 3)) lk_Md_169 (m_its (mS σ f b) k 3 (hI.p (o := k) (by omega) 3).1 (by omega)) rfl rfl rfl rfl (Nat.le_of_ble_eq_true rfl) (Nat.le_of_ble_eq_true rfl) (fun r24 s24 h24 => ?_)
    obtain ⟨rfl, rfl⟩ := h24
    refine g_ishl (by decide +kernel : decode prog_10_method_58_code 27 = .ok (.ishl, 1)) ?_
    refine g_top (w := nI (tn (f (19 + 6 * k + 4)) * 2 ^ tn (f (19 + 6 * k + 3)))) (nI_shl1 ⟨_, Nat.lt_succ_of_le (hI.p (o := k) (by omega) 4).2⟩ ⟨_, Nat.lt_succ_of_le (hI.p (o := k) (by omega) 3).2⟩) ?_
    refine g_ior (by decide +kernel : decode prog_10_method_58_code 28 = .ok (.ior, 1)) ?_
    refine g_top (w := nI (hpl f (k + 1))) (by rw [nI_or]; rfl) ?_
    refine g_istore_n (L' := [some (.ref 0), some (.int (nI (hpl f (k + 1)))), some (.int (nI k))]) (by decide +kernel : decode prog_10_method_58_code 29 = .ok (.istore_n 1, 1)) (Nat.le_of_ble_eq_true rfl) rfl ?_
    refine g_iincN (n := 1) (L' := [some (.ref 0), some (.int (nI (hpl f (k + 1)))), some (.int (nI (k + 1)))]) (by decide +kernel : decode prog_10_method_58_code 30 = .ok (.iinc 2 1, 3)) rfl (by decide) (Nat.le_of_ble_eq_true rfl) rfl ?_
    refine g_goto (tgt := 4) (by decide +kernel : decode prog_10_method_58_code 33 = .ok (.goto (-29), 3)) (by decide) ?_
    exact ih (k + 1) (by omega) (by omega) hR
set_option maxRecDepth 20000 in
theorem m_hidingPlaces (σ : Store) (f b : Row) (hI : Inv f) : Ct ΛM mt_Md_hidingPlaces 1 [.ref 0] (mS σ f b) (PF (nI (hpl f (nn f))) (mS σ f b)) := by
  refine Ct.of (by decide) (Nat.le_of_ble_eq_true rfl) (fun X hR => ?_)
  show G (ΛM, mt_Md_hidingPlaces, 1) X (mS σ f b) [some (.ref 0), none, none] [] 0
  refine g_iconst (v := nI 0) (by decide +kernel : decode prog_10_method_58_code 0 = .ok (.iconst 0, 1)) (by decide) ?_
  refine g_istore_n (L' := [some (.ref 0), some (.int (nI 0)), none]) (by decide +kernel : decode prog_10_method_58_code 1 = .ok (.istore_n 1, 1)) (Nat.le_of_ble_eq_true rfl) rfl ?_
  refine g_iconst (v := nI 0) (by decide +kernel : decode prog_10_method_58_code 2 = .ok (.iconst 0, 1)) (by decide) ?_
  refine g_istore_n (L' := [some (.ref 0), some (.int (nI 0)), some (.int (nI 0))]) (by decide +kernel : decode prog_10_method_58_code 3 = .ok (.istore_n 2, 1)) (Nat.le_of_ble_eq_true rfl) rfl ?_
  exact m_hpl_lp hI (nn f + 1) 0 (Nat.zero_le _) (by omega) hR
set_option maxRecDepth 20000 in
theorem m_cv_lp {X : CX} {σ : Store} {f b : Row} : ∀ (b9 k : Nat), k ≤ 12 → 12 - k < b9 → Rt (ΛM, mt_Md_coverOfAll, 0) (PF (cvF f 12) (mS σ f b)) X → G (ΛM, mt_Md_coverOfAll, 0) X (mS σ f b) [some (.ref 0), some (.int (cvF f k)), some (.int (nI k))] [] 4 := by
  intro b9
  induction b9 with
  | zero => intro k hk hb hR; omega
  | succ b9 ih =>
  intro k hk hb hR
  refine g_iload_n (by decide +kernel : decode prog_10_method_59_code 4 = .ok (.iload_n 2, 1)) rfl ?_
  refine g_bipush (v := nI 12) (by decide +kernel : decode prog_10_method_59_code 5 = .ok (.bipush 12, 2)) (by decide) ?_
  refine g_icmp_geN (tgt := 28) (by decide +kernel : decode prog_10_method_59_code 7 = .ok (.if_icmp .ge 21, 3)) (by decide) (by omega) (by decide) (fun h7 => ?_) (fun h7 => ?_)
  · refine g_iload_n (by decide +kernel : decode prog_10_method_59_code 28 = .ok (.iload_n 1, 1)) rfl ?_
    exact g_iret hR (by decide +kernel : decode prog_10_method_59_code 29 = .ok (.ireturn, 1)) rfl ⟨_, rfl, ⟨by rw [show k = 12 by omega], rfl⟩⟩
  · refine g_iload_n (by decide +kernel : decode prog_10_method_59_code 10 = .ok (.iload_n 1, 1)) rfl ?_
    refine g_aload_n (by decide +kernel : decode prog_10_method_59_code 11 = .ok (.aload_n 0, 1)) rfl ?_
    refine g_getR (by decide +kernel : decode prog_10_method_59_code 12 = .ok (.getfield 7, 3)) fl_Md_7 rfl rfl ?_
    refine g_bipush (v := nI 7) (by decide +kernel : decode prog_10_method_59_code 15 = .ok (.bipush 7, 2)) (by decide) ?_
    refine g_iload_n (by decide +kernel : decode prog_10_method_59_code 17 = .ok (.iload_n 2, 1)) rfl ?_
    refine g_iaddN (by decide +kernel : decode prog_10_method_59_code 18 = .ok (.iadd, 1)) ?_
    refine g_iaload (a := 7 + k) (by decide +kernel : decode prog_10_method_59_code 19 = .ok (.iaload, 1)) rfl rfl (by omega) (by decide) ?_
    refine g_top (w := f (7 + k)) (rfl) ?_
    refine g_iadd (by decide +kernel : decode prog_10_method_59_code 20 = .ok (.iadd, 1)) ?_
    refine g_istore_n (L' := [some (.ref 0), some (.int ((cvF f k) + (f (7 + k)))), some (.int (nI k))]) (by decide +kernel : decode prog_10_method_59_code 21 = .ok (.istore_n 1, 1)) (Nat.le_of_ble_eq_true rfl) rfl ?_
    refine g_iincN (n := 1) (L' := [some (.ref 0), some (.int ((cvF f k) + (f (7 + k)))), some (.int (nI (k + 1)))]) (by decide +kernel : decode prog_10_method_59_code 22 = .ok (.iinc 2 1, 3)) rfl (by decide) (Nat.le_of_ble_eq_true rfl) rfl ?_
    refine g_goto (tgt := 4) (by decide +kernel : decode prog_10_method_59_code 25 = .ok (.goto (-21), 3)) (by decide) ?_
    exact ih (k + 1) (by omega) (by omega) hR
set_option maxRecDepth 20000 in
theorem m_coverOfAll (σ : Store) (f b : Row)  : Ct ΛM mt_Md_coverOfAll 0 [.ref 0] (mS σ f b) (PF (cvF f 12) (mS σ f b)) := by
  refine Ct.of (by decide) (Nat.le_of_ble_eq_true rfl) (fun X hR => ?_)
  show G (ΛM, mt_Md_coverOfAll, 0) X (mS σ f b) [some (.ref 0), none, none] [] 0
  refine g_iconst (v := nI 0) (by decide +kernel : decode prog_10_method_59_code 0 = .ok (.iconst 0, 1)) (by decide) ?_
  refine g_istore_n (L' := [some (.ref 0), some (.int (nI 0)), none]) (by decide +kernel : decode prog_10_method_59_code 1 = .ok (.istore_n 1, 1)) (Nat.le_of_ble_eq_true rfl) rfl ?_
  refine g_iconst (v := nI 0) (by decide +kernel : decode prog_10_method_59_code 2 = .ok (.iconst 0, 1)) (by decide) ?_
  refine g_istore_n (L' := [some (.ref 0), some (.int (nI 0)), some (.int (nI 0))]) (by decide +kernel : decode prog_10_method_59_code 3 = .ok (.istore_n 2, 1)) (Nat.le_of_ble_eq_true rfl) rfl ?_
  exact m_cv_lp 13 0 (Nat.zero_le _) (by omega) hR
set_option maxRecDepth 20000 in
theorem m_crw_lp {X : CX} {σ : Store} {f b : Row} (hI : Inv f) : ∀ (b9 k : Nat), k ≤ nn f → nn f - k < b9 → Rt (ΛM, mt_Md_crowded, 2) (PF (nI (crw f (nn f))) (mS σ f b)) X → G (ΛM, mt_Md_crowded, 2) X (mS σ f b) [some (.ref 0), some (.int (nI (crw f k))), some (.int (nI k))] [] 4 := by
  have hn8 := hI.n.2
  intro b9
  induction b9 with
  | zero => intro k hk hb hR; omega
  | succ b9 ih =>
  intro k hk hb hR
  have hl := crw_le f k
  have hpw : 2 ^ nn f ≤ 256 := Nat.pow_le_pow_right (n := 2) (by decide) hn8
  refine g_iload_n (by decide +kernel : decode prog_10_method_107_code 4 = .ok (.iload_n 2, 1)) rfl ?_
  refine g_aload_n (by decide +kernel : decode prog_10_method_107_code 5 = .ok (.aload_n 0, 1)) rfl ?_
  refine g_getR (by decide +kernel : decode prog_10_method_107_code 6 = .ok (.getfield 7, 3)) fl_Md_7 rfl rfl ?_
  refine g_iconst (v := nI 0) (by decide +kernel : decode prog_10_method_107_code 9 = .ok (.iconst 0, 1)) (by decide) ?_
  refine g_iaload (a := 0) (by decide +kernel : decode prog_10_method_107_code 10 = .ok (.iaload, 1)) rfl rfl (by decide) (by decide) ?_
  refine g_top (w := nI (nn f)) (hI.n.1) ?_
  refine g_icmp_geN (tgt := 45) (by decide +kernel : decode prog_10_method_107_code 11 = .ok (.if_icmp .ge 34, 3)) (by decide) (by first | omega | (have h9 := popc_le (atm f (tn (f (19 + 6 * k + 3))) (nn f)); omega)) (by first | omega | (have h9 := popc_le (atm f (tn (f (19 + 6 * k + 3))) (nn f)); omega)) (fun h11 => ?_) (fun h11 => ?_)
  · refine g_iload_n (by decide +kernel : decode prog_10_method_107_code 45 = .ok (.iload_n 1, 1)) rfl ?_
    exact g_iret hR (by decide +kernel : decode prog_10_method_107_code 46 = .ok (.ireturn, 1)) rfl ⟨_, rfl, ⟨by rw [show k = nn f by omega], rfl⟩⟩
  · refine g_iload_n (by decide +kernel : decode prog_10_method_107_code 14 = .ok (.iload_n 1, 1)) rfl ?_
    refine g_aload_n (by decide +kernel : decode prog_10_method_107_code 15 = .ok (.aload_n 0, 1)) rfl ?_
    refine g_aload_n (by decide +kernel : decode prog_10_method_107_code 16 = .ok (.aload_n 0, 1)) rfl ?_
    refine g_iload_n (by decide +kernel : decode prog_10_method_107_code 17 = .ok (.iload_n 2, 1)) rfl ?_
    refine g_iconst (v := nI 3) (by decide +kernel : decode prog_10_method_107_code 18 = .ok (.iconst 3, 1)) (by decide) ?_
    refine g_callVI [.int (nI k), .int (nI 3)] (by decide +kernel : decode prog_10_method_107_code 19 = .ok (.invokevirtual 169, 3)) lk_Md_169 (m_its (mS σ f b) k 3 (hI.p (o := k) (by omega) 3).1 (by omega)) rfl rfl rfl rfl (Nat.le_of_ble_eq_true rfl) (Nat.le_of_ble_eq_true rfl) (fun r19 s19 h19 => ?_)
    obtain ⟨rfl, rfl⟩ := h19
    refine g_callVI [.int (nI (tn (f (19 + 6 * k + 3))))] (by decide +kernel : decode prog_10_method_107_code 22 = .ok (.invokevirtual 186, 3)) lk_Md_186 (m_thoseAt σ f b hI (tn (f (19 + 6 * k + 3))) (Nat.lt_succ_of_le (hI.p (o := k) (by omega) 3).2)) rfl rfl rfl rfl (Nat.le_of_ble_eq_true rfl) (Nat.le_of_ble_eq_true rfl) (fun r22 s22 h22 => ?_)
    obtain ⟨rfl, rfl⟩ := h22
    refine g_callSI [.int (nI (atm f (tn (f (19 + 6 * k + 3))) (nn f)))] (by decide +kernel : decode prog_10_method_107_code 25 = .ok (.invokestatic 192, 3)) lk_Md_192 (m_size ΛM (mS σ f b) (atm f (tn (f (19 + 6 * k + 3))) (nn f)) (Nat.lt_of_lt_of_le (atm_lt f _ _) (Nat.le_trans hpw (by decide)))) rfl rfl (Nat.le_of_ble_eq_true rfl) (Nat.le_of_ble_eq_true rfl) (fun r25 s25 h25 => ?_)
    obtain ⟨rfl, rfl⟩ := h25
    refine g_iconst (v := nI 1) (by decide +kernel : decode prog_10_method_107_code 28 = .ok (.iconst 1, 1)) (by decide) ?_
    have J29 : G (ΛM, mt_Md_crowded, 2) X (mS σ f b) [some (.ref 0), some (.int (nI (crw f k))), some (.int (nI k))] [.int (nI (if 1 < popc (atm f (tn (f (19 + 6 * k + 3))) (nn f)) then 1 else 0)), .int (nI (crw f k))] 37 := by
      refine g_iaddN (by decide +kernel : decode prog_10_method_107_code 37 = .ok (.iadd, 1)) ?_
      refine g_istore_n (L' := [some (.ref 0), some (.int (nI (crw f k + (if 1 < popc (atm f (tn (f (19 + 6 * k + 3))) (nn f)) then 1 else 0)))), some (.int (nI k))]) (by decide +kernel : decode prog_10_method_107_code 38 = .ok (.istore_n 1, 1)) (Nat.le_of_ble_eq_true rfl) rfl ?_
      refine g_iincN (n := 1) (L' := [some (.ref 0), some (.int (nI (crw f k + (if 1 < popc (atm f (tn (f (19 + 6 * k + 3))) (nn f)) then 1 else 0)))), some (.int (nI (k + 1)))]) (by decide +kernel : decode prog_10_method_107_code 39 = .ok (.iinc 2 1, 3)) rfl (by decide) (Nat.le_of_ble_eq_true rfl) rfl ?_
      refine g_goto (tgt := 4) (by decide +kernel : decode prog_10_method_107_code 42 = .ok (.goto (-38), 3)) (by decide) ?_
      exact ih (k + 1) (by omega) (by omega) hR
    refine g_icmp_leN (tgt := 36) (by decide +kernel : decode prog_10_method_107_code 29 = .ok (.if_icmp .le 7, 3)) (by decide) (by first | omega | (have h9 := popc_le (atm f (tn (f (19 + 6 * k + 3))) (nn f)); omega)) (by decide) (fun h29 => ?_) (fun h29 => ?_)
    · refine g_iconst (v := nI 0) (by decide +kernel : decode prog_10_method_107_code 36 = .ok (.iconst 0, 1)) (by decide) ?_
      exact g_top (by rw [if_neg (by omega)]) J29
    · refine g_iconst (v := nI 1) (by decide +kernel : decode prog_10_method_107_code 32 = .ok (.iconst 1, 1)) (by decide) ?_
      refine g_goto (tgt := 37) (by decide +kernel : decode prog_10_method_107_code 33 = .ok (.goto 4, 3)) (by decide) ?_
      exact g_top (by rw [if_pos (by omega)]) J29
set_option maxRecDepth 20000 in
theorem m_crowded (σ : Store) (f b : Row) (hI : Inv f) : Ct ΛM mt_Md_crowded 2 [.ref 0] (mS σ f b) (PF (nI (crw f (nn f))) (mS σ f b)) := by
  refine Ct.of (by decide) (Nat.le_of_ble_eq_true rfl) (fun X hR => ?_)
  show G (ΛM, mt_Md_crowded, 2) X (mS σ f b) [some (.ref 0), none, none] [] 0
  refine g_iconst (v := nI 0) (by decide +kernel : decode prog_10_method_107_code 0 = .ok (.iconst 0, 1)) (by decide) ?_
  refine g_istore_n (L' := [some (.ref 0), some (.int (nI 0)), none]) (by decide +kernel : decode prog_10_method_107_code 1 = .ok (.istore_n 1, 1)) (Nat.le_of_ble_eq_true rfl) rfl ?_
  refine g_iconst (v := nI 0) (by decide +kernel : decode prog_10_method_107_code 2 = .ok (.iconst 0, 1)) (by decide) ?_
  refine g_istore_n (L' := [some (.ref 0), some (.int (nI 0)), some (.int (nI 0))]) (by decide +kernel : decode prog_10_method_107_code 3 = .ok (.istore_n 2, 1)) (Nat.le_of_ble_eq_true rfl) rfl ?_
  exact m_crw_lp hI (nn f + 1) 0 (Nat.zero_le _) (by omega) hR
set_option maxRecDepth 20000 in
theorem p_state (σ : Store) (f b : Row) (hI : Inv f) (x : Int32) : Ct ΛM mt_Md_state 2 [.ref 0, .int x] (mS σ f b) (mP σ (stateV f x) f) := by
  refine Ct.of (by decide) (Nat.le_of_ble_eq_true rfl) (fun X hR => ?_)
  show G (ΛM, mt_Md_state, 2) X (mS σ f b) [some (.ref 0), some (.int x)] [] 0
  have hn8 := hI.n.2
  refine g_iload_n (by decide +kernel : decode prog_10_method_60_code 0 = .ok (.iload_n 1, 1)) rfl ?_
  rcases sw_in x 6 (by decide) with ⟨j, hj, rfl⟩ | ⟨ho, hno⟩
  · rcases (show j = 0 ∨ j = 1 ∨ j = 2 ∨ j = 3 ∨ j = 4 ∨ j = 5 by omega) with rfl | rfl | rfl | rfl | rfl | rfl
    · refine g_tableIn (x := nI 0) (off := 39) (tgt := 40) (by decide +kernel : decode prog_10_method_60_code 1 = .ok (.tableswitch 73 0 5 #[39, 46, 51, 57, 63, 68], 39)) (by decide) (by decide) rfl (by decide) ?_
      refine g_aload_n (by decide +kernel : decode prog_10_method_60_code 40 = .ok (.aload_n 0, 1)) rfl ?_
      refine g_getR (by decide +kernel : decode prog_10_method_60_code 41 = .ok (.getfield 7, 3)) fl_Md_7 rfl rfl ?_
      refine g_iconst (v := nI 1) (by decide +kernel : decode prog_10_method_60_code 44 = .ok (.iconst 1, 1)) (by decide) ?_
      refine g_iaload (a := 1) (by decide +kernel : decode prog_10_method_60_code 45 = .ok (.iaload, 1)) rfl rfl (by decide) (by decide) ?_
      refine g_top (w := f 1) (rfl) ?_
      exact g_iret hR (by decide +kernel : decode prog_10_method_60_code 46 = .ok (.ireturn, 1)) rfl ⟨_, rfl, ⟨by simp only [stateV, rg_yes 5 0], Jk.self _ _ _⟩⟩
    · refine g_tableIn (x := nI 1) (off := 46) (tgt := 47) (by decide +kernel : decode prog_10_method_60_code 1 = .ok (.tableswitch 73 0 5 #[39, 46, 51, 57, 63, 68], 39)) (by decide) (by decide) rfl (by decide) ?_
      refine g_aload_n (by decide +kernel : decode prog_10_method_60_code 47 = .ok (.aload_n 0, 1)) rfl ?_
      refine g_callVI [] (by decide +kernel : decode prog_10_method_60_code 48 = .ok (.invokevirtual 189, 3)) lk_Md_189 (m_hiddenOnes σ f b hI) rfl rfl rfl rfl (Nat.le_of_ble_eq_true rfl) (Nat.le_of_ble_eq_true rfl) (fun r48 s48 h48 => ?_)
      obtain ⟨rfl, rfl⟩ := h48
      exact g_iret hR (by decide +kernel : decode prog_10_method_60_code 51 = .ok (.ireturn, 1)) rfl ⟨_, rfl, ⟨by simp only [stateV, rg_yes 5 1], Jk.self _ _ _⟩⟩
    · refine g_tableIn (x := nI 2) (off := 51) (tgt := 52) (by decide +kernel : decode prog_10_method_60_code 1 = .ok (.tableswitch 73 0 5 #[39, 46, 51, 57, 63, 68], 39)) (by decide) (by decide) rfl (by decide) ?_
      refine g_aload_n (by decide +kernel : decode prog_10_method_60_code 52 = .ok (.aload_n 0, 1)) rfl ?_
      refine g_iconst (v := nI 1) (by decide +kernel : decode prog_10_method_60_code 53 = .ok (.iconst 1, 1)) (by decide) ?_
      refine g_callVI [.int (nI 1)] (by decide +kernel : decode prog_10_method_60_code 54 = .ok (.invokevirtual 219, 3)) lk_Md_219 (m_sumOf σ f b hI 1 (by decide)) rfl rfl rfl rfl (Nat.le_of_ble_eq_true rfl) (Nat.le_of_ble_eq_true rfl) (fun r54 s54 h54 => ?_)
      obtain ⟨rfl, rfl⟩ := h54
      exact g_iret hR (by decide +kernel : decode prog_10_method_60_code 57 = .ok (.ireturn, 1)) rfl ⟨_, rfl, ⟨by simp only [stateV, rg_yes 5 2], Jk.self _ _ _⟩⟩
    · refine g_tableIn (x := nI 3) (off := 57) (tgt := 58) (by decide +kernel : decode prog_10_method_60_code 1 = .ok (.tableswitch 73 0 5 #[39, 46, 51, 57, 63, 68], 39)) (by decide) (by decide) rfl (by decide) ?_
      refine g_aload_n (by decide +kernel : decode prog_10_method_60_code 58 = .ok (.aload_n 0, 1)) rfl ?_
      refine g_iconst (v := nI 5) (by decide +kernel : decode prog_10_method_60_code 59 = .ok (.iconst 5, 1)) (by decide) ?_
      refine g_callVI [.int (nI 5)] (by decide +kernel : decode prog_10_method_60_code 60 = .ok (.invokevirtual 219, 3)) lk_Md_219 (m_sumOf σ f b hI 5 (by decide)) rfl rfl rfl rfl (Nat.le_of_ble_eq_true rfl) (Nat.le_of_ble_eq_true rfl) (fun r60 s60 h60 => ?_)
      obtain ⟨rfl, rfl⟩ := h60
      exact g_iret hR (by decide +kernel : decode prog_10_method_60_code 63 = .ok (.ireturn, 1)) rfl ⟨_, rfl, ⟨by simp only [stateV, rg_yes 5 3], Jk.self _ _ _⟩⟩
    · refine g_tableIn (x := nI 4) (off := 63) (tgt := 64) (by decide +kernel : decode prog_10_method_60_code 1 = .ok (.tableswitch 73 0 5 #[39, 46, 51, 57, 63, 68], 39)) (by decide) (by decide) rfl (by decide) ?_
      refine g_aload_n (by decide +kernel : decode prog_10_method_60_code 64 = .ok (.aload_n 0, 1)) rfl ?_
      refine g_callVI [] (by decide +kernel : decode prog_10_method_60_code 65 = .ok (.invokevirtual 222, 3)) lk_Md_222 (m_hidingPlaces σ f b hI) rfl rfl rfl rfl (Nat.le_of_ble_eq_true rfl) (Nat.le_of_ble_eq_true rfl) (fun r65 s65 h65 => ?_)
      obtain ⟨rfl, rfl⟩ := h65
      exact g_iret hR (by decide +kernel : decode prog_10_method_60_code 68 = .ok (.ireturn, 1)) rfl ⟨_, rfl, ⟨by simp only [stateV, rg_yes 5 4], Jk.self _ _ _⟩⟩
    · refine g_tableIn (x := nI 5) (off := 68) (tgt := 69) (by decide +kernel : decode prog_10_method_60_code 1 = .ok (.tableswitch 73 0 5 #[39, 46, 51, 57, 63, 68], 39)) (by decide) (by decide) rfl (by decide) ?_
      refine g_aload_n (by decide +kernel : decode prog_10_method_60_code 69 = .ok (.aload_n 0, 1)) rfl ?_
      refine g_callVI [] (by decide +kernel : decode prog_10_method_60_code 70 = .ok (.invokevirtual 225, 3)) lk_Md_225 (m_coverOfAll σ f b) rfl rfl rfl rfl (Nat.le_of_ble_eq_true rfl) (Nat.le_of_ble_eq_true rfl) (fun r70 s70 h70 => ?_)
      obtain ⟨rfl, rfl⟩ := h70
      exact g_iret hR (by decide +kernel : decode prog_10_method_60_code 73 = .ok (.ireturn, 1)) rfl ⟨_, rfl, ⟨by simp only [stateV, rg_yes 5 5], Jk.self _ _ _⟩⟩
  · refine g_tableOut (tgt := 74) (by decide +kernel : decode prog_10_method_60_code 1 = .ok (.tableswitch 73 0 5 #[39, 46, 51, 57, 63, 68], 39)) (by omega) (by decide) ?_
    refine g_iconst (v := (-1)) (by decide +kernel : decode prog_10_method_60_code 74 = .ok (.iconst (-1), 1)) (by decide) ?_
    exact g_iret hR (by decide +kernel : decode prog_10_method_60_code 75 = .ok (.ireturn, 1)) rfl ⟨_, rfl, ⟨by simp only [stateV, rg_no hno], Jk.self _ _ _⟩⟩
set_option maxRecDepth 20000 in
theorem p_many (σ : Store) (f b : Row) (hI : Inv f) (x : Int32) : Ct ΛM mt_Md_many 3 [.ref 0, .int x] (mS σ f b) (mP σ (manyV σ f x) f) := by
  refine Ct.of (by decide) (Nat.le_of_ble_eq_true rfl) (fun X hR => ?_)
  show G (ΛM, mt_Md_many, 3) X (mS σ f b) [some (.ref 0), some (.int x)] [] 0
  have hn8 := hI.n.2
  refine g_iload_n (by decide +kernel : decode prog_10_method_108_code 0 = .ok (.iload_n 1, 1)) rfl ?_
  rcases sw_in x 7 (by decide) with ⟨j, hj, rfl⟩ | ⟨ho, hno⟩
  · rcases (show j = 0 ∨ j = 1 ∨ j = 2 ∨ j = 3 ∨ j = 4 ∨ j = 5 ∨ j = 6 by omega) with rfl | rfl | rfl | rfl | rfl | rfl | rfl
    · refine g_tableIn (x := nI 0) (off := 43) (tgt := 44) (by decide +kernel : decode prog_10_method_108_code 1 = .ok (.tableswitch 86 0 6 #[43, 50, 58, 66, 71, 76, 81], 43)) (by decide) (by decide) rfl (by decide) ?_
      refine g_aload_n (by decide +kernel : decode prog_10_method_108_code 44 = .ok (.aload_n 0, 1)) rfl ?_
      refine g_getR (by decide +kernel : decode prog_10_method_108_code 45 = .ok (.getfield 7, 3)) fl_Md_7 rfl rfl ?_
      refine g_iconst (v := nI 0) (by decide +kernel : decode prog_10_method_108_code 48 = .ok (.iconst 0, 1)) (by decide) ?_
      refine g_iaload (a := 0) (by decide +kernel : decode prog_10_method_108_code 49 = .ok (.iaload, 1)) rfl rfl (by decide) (by decide) ?_
      refine g_top (w := f 0) (rfl) ?_
      exact g_iret hR (by decide +kernel : decode prog_10_method_108_code 50 = .ok (.ireturn, 1)) rfl ⟨_, rfl, ⟨by simp only [manyV, rg_yes 6 0] <;> rfl, Jk.self _ _ _⟩⟩
    · refine g_tableIn (x := nI 1) (off := 50) (tgt := 51) (by decide +kernel : decode prog_10_method_108_code 1 = .ok (.tableswitch 86 0 6 #[43, 50, 58, 66, 71, 76, 81], 43)) (by decide) (by decide) rfl (by decide) ?_
      refine g_aload_n (by decide +kernel : decode prog_10_method_108_code 51 = .ok (.aload_n 0, 1)) rfl ?_
      refine g_callVI [] (by decide +kernel : decode prog_10_method_108_code 52 = .ok (.invokevirtual 189, 3)) lk_Md_189 (m_hiddenOnes σ f b hI) rfl rfl rfl rfl (Nat.le_of_ble_eq_true rfl) (Nat.le_of_ble_eq_true rfl) (fun r52 s52 h52 => ?_)
      obtain ⟨rfl, rfl⟩ := h52
      refine g_callSI [.int (nI (msk f (nn f)))] (by decide +kernel : decode prog_10_method_108_code 55 = .ok (.invokestatic 192, 3)) lk_Md_192 (m_size ΛM (mS σ f b) (msk f (nn f)) (m_count σ f (fun _ => 0) hI)) rfl rfl (Nat.le_of_ble_eq_true rfl) (Nat.le_of_ble_eq_true rfl) (fun r55 s55 h55 => ?_)
      obtain ⟨rfl, rfl⟩ := h55
      exact g_iret hR (by decide +kernel : decode prog_10_method_108_code 58 = .ok (.ireturn, 1)) rfl ⟨_, rfl, ⟨by simp only [manyV, rg_yes 6 1] <;> rfl, Jk.self _ _ _⟩⟩
    · refine g_tableIn (x := nI 2) (off := 58) (tgt := 59) (by decide +kernel : decode prog_10_method_108_code 1 = .ok (.tableswitch 86 0 6 #[43, 50, 58, 66, 71, 76, 81], 43)) (by decide) (by decide) rfl (by decide) ?_
      refine g_aload_n (by decide +kernel : decode prog_10_method_108_code 59 = .ok (.aload_n 0, 1)) rfl ?_
      refine g_callVI [] (by decide +kernel : decode prog_10_method_108_code 60 = .ok (.invokevirtual 222, 3)) lk_Md_222 (m_hidingPlaces σ f b hI) rfl rfl rfl rfl (Nat.le_of_ble_eq_true rfl) (Nat.le_of_ble_eq_true rfl) (fun r60 s60 h60 => ?_)
      obtain ⟨rfl, rfl⟩ := h60
      refine g_callSI [.int (nI (hpl f (nn f)))] (by decide +kernel : decode prog_10_method_108_code 63 = .ok (.invokestatic 192, 3)) lk_Md_192 (m_size ΛM (mS σ f b) (hpl f (nn f)) (hpl_lt hI _ (Nat.le_refl _))) rfl rfl (Nat.le_of_ble_eq_true rfl) (Nat.le_of_ble_eq_true rfl) (fun r63 s63 h63 => ?_)
      obtain ⟨rfl, rfl⟩ := h63
      exact g_iret hR (by decide +kernel : decode prog_10_method_108_code 66 = .ok (.ireturn, 1)) rfl ⟨_, rfl, ⟨by simp only [manyV, rg_yes 6 2] <;> rfl, Jk.self _ _ _⟩⟩
    · refine g_tableIn (x := nI 3) (off := 66) (tgt := 67) (by decide +kernel : decode prog_10_method_108_code 1 = .ok (.tableswitch 86 0 6 #[43, 50, 58, 66, 71, 76, 81], 43)) (by decide) (by decide) rfl (by decide) ?_
      refine g_aload_n (by decide +kernel : decode prog_10_method_108_code 67 = .ok (.aload_n 0, 1)) rfl ?_
      refine g_callVI [] (by decide +kernel : decode prog_10_method_108_code 68 = .ok (.invokevirtual 327, 3)) lk_Md_327 (m_crowded σ f b hI) rfl rfl rfl rfl (Nat.le_of_ble_eq_true rfl) (Nat.le_of_ble_eq_true rfl) (fun r68 s68 h68 => ?_)
      obtain ⟨rfl, rfl⟩ := h68
      exact g_iret hR (by decide +kernel : decode prog_10_method_108_code 71 = .ok (.ireturn, 1)) rfl ⟨_, rfl, ⟨by simp only [manyV, rg_yes 6 3] <;> rfl, Jk.self _ _ _⟩⟩
    · refine g_tableIn (x := nI 4) (off := 71) (tgt := 72) (by decide +kernel : decode prog_10_method_108_code 1 = .ok (.tableswitch 86 0 6 #[43, 50, 58, 66, 71, 76, 81], 43)) (by decide) (by decide) rfl (by decide) ?_
      refine g_aload_n (by decide +kernel : decode prog_10_method_108_code 72 = .ok (.aload_n 0, 1)) rfl ?_
      refine g_getI (by decide +kernel : decode prog_10_method_108_code 73 = .ok (.getfield 148, 3)) fl_Md_148.get rfl rfl ?_
      refine g_top (w := σ 0 14) (rfl) ?_
      exact g_iret hR (by decide +kernel : decode prog_10_method_108_code 76 = .ok (.ireturn, 1)) rfl ⟨_, rfl, ⟨by simp only [manyV, rg_yes 6 4] <;> rfl, Jk.self _ _ _⟩⟩
    · refine g_tableIn (x := nI 5) (off := 76) (tgt := 77) (by decide +kernel : decode prog_10_method_108_code 1 = .ok (.tableswitch 86 0 6 #[43, 50, 58, 66, 71, 76, 81], 43)) (by decide) (by decide) rfl (by decide) ?_
      refine g_aload_n (by decide +kernel : decode prog_10_method_108_code 77 = .ok (.aload_n 0, 1)) rfl ?_
      refine g_getI (by decide +kernel : decode prog_10_method_108_code 78 = .ok (.getfield 61, 3)) fl_Md_61.get rfl rfl ?_
      refine g_top (w := σ 0 6) (rfl) ?_
      exact g_iret hR (by decide +kernel : decode prog_10_method_108_code 81 = .ok (.ireturn, 1)) rfl ⟨_, rfl, ⟨by simp only [manyV, rg_yes 6 5] <;> rfl, Jk.self _ _ _⟩⟩
    · refine g_tableIn (x := nI 6) (off := 81) (tgt := 82) (by decide +kernel : decode prog_10_method_108_code 1 = .ok (.tableswitch 86 0 6 #[43, 50, 58, 66, 71, 76, 81], 43)) (by decide) (by decide) rfl (by decide) ?_
      refine g_aload_n (by decide +kernel : decode prog_10_method_108_code 82 = .ok (.aload_n 0, 1)) rfl ?_
      refine g_getI (by decide +kernel : decode prog_10_method_108_code 83 = .ok (.getfield 282, 3)) fl_Md_282.get rfl rfl ?_
      refine g_top (w := σ 0 22) (rfl) ?_
      exact g_iret hR (by decide +kernel : decode prog_10_method_108_code 86 = .ok (.ireturn, 1)) rfl ⟨_, rfl, ⟨by simp only [manyV, rg_yes 6 6] <;> rfl, Jk.self _ _ _⟩⟩
  · refine g_tableOut (tgt := 87) (by decide +kernel : decode prog_10_method_108_code 1 = .ok (.tableswitch 86 0 6 #[43, 50, 58, 66, 71, 76, 81], 43)) (by omega) (by decide) ?_
    refine g_iconst (v := (-1)) (by decide +kernel : decode prog_10_method_108_code 87 = .ok (.iconst (-1), 1)) (by decide) ?_
    exact g_iret hR (by decide +kernel : decode prog_10_method_108_code 88 = .ok (.ireturn, 1)) rfl ⟨_, rfl, ⟨by simp only [manyV, rg_no hno] <;> rfl, Jk.self _ _ _⟩⟩
theorem row_self (σ : Store) (a b : Nat) : σ = s_row σ b (fun j => if j < 0 then σ a j else σ b j) := row_start σ a b
set_option maxRecDepth 20000 in
theorem p_keep_lp {X : CX} {σ : Store} : ∀ (b9 k : Nat), k ≤ 67 → 67 - k < b9 → Rt (ΛM, mt_Md_keep, 0) (PF (nI 1) (s_up (s_row σ 2 (fun j => if j < 67 then σ 1 j else σ 2 j)) 0 4 (nI 1))) X → G (ΛM, mt_Md_keep, 0) X (s_row σ 2 (fun j => if j < k then σ 1 j else σ 2 j)) [some (.ref 0), some (.int (nI k))] [] 2 := by
  intro b9
  induction b9 with
  | zero => intro k hk hb hR; omega
  | succ b9 ih =>
  intro k hk hb hR
  refine g_iload_n (by decide +kernel : decode prog_10_method_109_code 2 = .ok (.iload_n 1, 1)) rfl ?_
  refine g_bipush (v := nI 67) (by decide +kernel : decode prog_10_method_109_code 3 = .ok (.bipush 67, 2)) (by decide) ?_
  refine g_icmp_geN (tgt := 26) (by decide +kernel : decode prog_10_method_109_code 5 = .ok (.if_icmp .ge 21, 3)) (by decide) (by omega) (by decide) (fun h5 => ?_) (fun h5 => ?_)
  · refine g_aload_n (by decide +kernel : decode prog_10_method_109_code 26 = .ok (.aload_n 0, 1)) rfl ?_
    refine g_iconst (v := nI 1) (by decide +kernel : decode prog_10_method_109_code 27 = .ok (.iconst 1, 1)) (by decide) ?_
    refine g_putZ (by decide +kernel : decode prog_10_method_109_code 28 = .ok (.putfield 330, 3)) fl_Md_330 rfl rfl (by decide) ?_
    refine g_iconst (v := nI 1) (by decide +kernel : decode prog_10_method_109_code 31 = .ok (.iconst 1, 1)) (by decide) ?_
    exact g_iret hR (by decide +kernel : decode prog_10_method_109_code 32 = .ok (.ireturn, 1)) rfl ⟨_, rfl, ⟨rfl, by rw [show k = 67 by omega]⟩⟩
  · refine g_aload_n (by decide +kernel : decode prog_10_method_109_code 8 = .ok (.aload_n 0, 1)) rfl ?_
    refine g_getR (by decide +kernel : decode prog_10_method_109_code 9 = .ok (.getfield 13, 3)) fl_Md_13 rfl rfl ?_
    refine g_iload_n (by decide +kernel : decode prog_10_method_109_code 12 = .ok (.iload_n 1, 1)) rfl ?_
    refine g_aload_n (by decide +kernel : decode prog_10_method_109_code 13 = .ok (.aload_n 0, 1)) rfl ?_
    refine g_getR (by decide +kernel : decode prog_10_method_109_code 14 = .ok (.getfield 7, 3)) fl_Md_7 rfl rfl ?_
    refine g_iload_n (by decide +kernel : decode prog_10_method_109_code 17 = .ok (.iload_n 1, 1)) rfl ?_
    refine g_iaload (a := k) (by decide +kernel : decode prog_10_method_109_code 18 = .ok (.iaload, 1)) rfl rfl (by omega) (by decide) ?_
    refine g_top (w := σ 1 k) (rfl) ?_
    refine g_iastore (a := k) (by decide +kernel : decode prog_10_method_109_code 19 = .ok (.iastore, 1)) rfl rfl (by omega) (by decide) ?_
    refine g_iincN (n := 1) (L' := [some (.ref 0), some (.int (nI (k + 1)))]) (by decide +kernel : decode prog_10_method_109_code 20 = .ok (.iinc 1 1, 3)) rfl (by decide) (Nat.le_of_ble_eq_true rfl) rfl ?_
    refine g_goto (tgt := 2) (by decide +kernel : decode prog_10_method_109_code 23 = .ok (.goto (-21), 3)) (by decide) ?_
    refine g_sto (σ' := s_row σ 2 (fun j => if j < k + 1 then σ 1 j else σ 2 j)) (row_step σ 1 2 k) ?_
    exact ih (k + 1) (by omega) (by omega) hR
set_option maxRecDepth 20000 in
theorem m_keep0 (σ : Store) : Ct ΛM mt_Md_keep 0 [.ref 0] σ (PF (nI 1) (s_up (s_row σ 2 (fun j => if j < 67 then σ 1 j else σ 2 j)) 0 4 (nI 1))) := by
  refine Ct.of (by decide) (Nat.le_of_ble_eq_true rfl) (fun X hR => ?_)
  show G (ΛM, mt_Md_keep, 0) X σ [some (.ref 0), none] [] 0
  refine g_iconst (v := nI 0) (by decide +kernel : decode prog_10_method_109_code 0 = .ok (.iconst 0, 1)) (by decide) ?_
  refine g_istore_n (L' := [some (.ref 0), some (.int (nI 0))]) (by decide +kernel : decode prog_10_method_109_code 1 = .ok (.istore_n 1, 1)) (Nat.le_of_ble_eq_true rfl) rfl ?_
  refine g_sto (σ' := s_row σ 2 (fun j => if j < 0 then σ 1 j else σ 2 j)) (row_start σ 1 2) ?_
  exact p_keep_lp 68 0 (by omega) (by omega) hR
theorem row_eqv_up {Λ : Lay} {σ : Store} {a b n c i : Nat} {v : Int32} (h : Λ[b]? = some (.inl (false, n))) : Eqv Λ (s_up (s_row σ b (fun j => if j < n then σ a j else σ b j)) c i v) (s_up (s_row σ b (σ a)) c i v) := by
  intro k sh hk j hj
  have h1 := row_eqv (σ := σ) (a := a) h k sh hk j hj
  unfold s_up
  split
  · unfold upd
    split
    · rfl
    · exact h1
  · exact h1
theorem m_keep (σ : Store) : Ct ΛM mt_Md_keep 0 [.ref 0] σ (PF (nI 1) (s_up (s_row σ 2 (σ 1)) 0 4 (nI 1))) := by
  refine (m_keep0 σ).eqvP ?_
  rintro v τ ⟨r, h1, h2, h3⟩
  exact ⟨_, h3 ▸ row_eqv_up (a := 1) rfl, r, h1, h2, rfl⟩
def againP (σ : Store) (g : Row) : Option Value → Store → Prop := PI (fun r σ' => (σ 0 4 = 0 ∧ r = -3 ∧ σ' = σ) ∨ (¬ σ 0 4 = 0 ∧ r = σ 2 0 ∧ σ' = s_row σ 1 g))
set_option maxRecDepth 20000 in
theorem p_again_lp {X : CX} {σ : Store} (h0 : ¬ σ 0 4 = 0) : ∀ (b9 k : Nat), k ≤ 67 → 67 - k < b9 → Rt (ΛM, mt_Md_again, 0) (againP σ (fun j => if j < 67 then σ 2 j else σ 1 j)) X → G (ΛM, mt_Md_again, 0) X (s_row σ 1 (fun j => if j < k then σ 2 j else σ 1 j)) [some (.ref 0), some (.int (nI k))] [] 12 := by
  intro b9
  induction b9 with
  | zero => intro k hk hb hR; omega
  | succ b9 ih =>
  intro k hk hb hR
  refine g_iload_n (by decide +kernel : decode prog_10_method_110_code 12 = .ok (.iload_n 1, 1)) rfl ?_
  refine g_bipush (v := nI 67) (by decide +kernel : decode prog_10_method_110_code 13 = .ok (.bipush 67, 2)) (by decide) ?_
  refine g_icmp_geN (tgt := 36) (by decide +kernel : decode prog_10_method_110_code 15 = .ok (.if_icmp .ge 21, 3)) (by decide) (by omega) (by decide) (fun h15 => ?_) (fun h15 => ?_)
  · refine g_aload_n (by decide +kernel : decode prog_10_method_110_code 36 = .ok (.aload_n 0, 1)) rfl ?_
    refine g_getR (by decide +kernel : decode prog_10_method_110_code 37 = .ok (.getfield 7, 3)) fl_Md_7 rfl rfl ?_
    refine g_iconst (v := nI 0) (by decide +kernel : decode prog_10_method_110_code 40 = .ok (.iconst 0, 1)) (by decide) ?_
    refine g_iaload (a := 0) (by decide +kernel : decode prog_10_method_110_code 41 = .ok (.iaload, 1)) rfl rfl (by decide) (by decide) ?_
    refine g_top (w := σ 2 0) (by rw [show k = 67 by omega]; rfl) ?_
    exact g_iret hR (by decide +kernel : decode prog_10_method_110_code 42 = .ok (.ireturn, 1)) rfl ⟨_, rfl, Or.inr ⟨h0, rfl, by rw [show k = 67 by omega]⟩⟩
  · refine g_aload_n (by decide +kernel : decode prog_10_method_110_code 18 = .ok (.aload_n 0, 1)) rfl ?_
    refine g_getR (by decide +kernel : decode prog_10_method_110_code 19 = .ok (.getfield 7, 3)) fl_Md_7 rfl rfl ?_
    refine g_iload_n (by decide +kernel : decode prog_10_method_110_code 22 = .ok (.iload_n 1, 1)) rfl ?_
    refine g_aload_n (by decide +kernel : decode prog_10_method_110_code 23 = .ok (.aload_n 0, 1)) rfl ?_
    refine g_getR (by decide +kernel : decode prog_10_method_110_code 24 = .ok (.getfield 13, 3)) fl_Md_13 rfl rfl ?_
    refine g_iload_n (by decide +kernel : decode prog_10_method_110_code 27 = .ok (.iload_n 1, 1)) rfl ?_
    refine g_iaload (a := k) (by decide +kernel : decode prog_10_method_110_code 28 = .ok (.iaload, 1)) rfl rfl (by omega) (by decide) ?_
    refine g_top (w := σ 2 k) (rfl) ?_
    refine g_iastore (a := k) (by decide +kernel : decode prog_10_method_110_code 29 = .ok (.iastore, 1)) rfl rfl (by omega) (by decide) ?_
    refine g_iincN (n := 1) (L' := [some (.ref 0), some (.int (nI (k + 1)))]) (by decide +kernel : decode prog_10_method_110_code 30 = .ok (.iinc 1 1, 3)) rfl (by decide) (Nat.le_of_ble_eq_true rfl) rfl ?_
    refine g_goto (tgt := 12) (by decide +kernel : decode prog_10_method_110_code 33 = .ok (.goto (-21), 3)) (by decide) ?_
    refine g_sto (σ' := s_row σ 1 (fun j => if j < k + 1 then σ 2 j else σ 1 j)) (row_step σ 2 1 k) ?_
    exact ih (k + 1) (by omega) (by omega) hR
set_option maxRecDepth 20000 in
theorem m_again0 (σ : Store) : Ct ΛM mt_Md_again 0 [.ref 0] σ (againP σ (fun j => if j < 67 then σ 2 j else σ 1 j)) := by
  refine Ct.of (by decide) (Nat.le_of_ble_eq_true rfl) (fun X hR => ?_)
  show G (ΛM, mt_Md_again, 0) X σ [some (.ref 0), none] [] 0
  refine g_aload_n (by decide +kernel : decode prog_10_method_110_code 0 = .ok (.aload_n 0, 1)) rfl ?_
  refine g_getI (by decide +kernel : decode prog_10_method_110_code 1 = .ok (.getfield 330, 3)) fl_Md_330.get rfl rfl ?_
  refine g_if_ne (tgt := 10) (by decide +kernel : decode prog_10_method_110_code 4 = .ok (.ifCond .ne 6, 3)) (by decide) (fun h4 => ?_) (fun h4 => ?_)
  · refine g_iconst (v := nI 0) (by decide +kernel : decode prog_10_method_110_code 10 = .ok (.iconst 0, 1)) (by decide) ?_
    refine g_istore_n (L' := [some (.ref 0), some (.int (nI 0))]) (by decide +kernel : decode prog_10_method_110_code 11 = .ok (.istore_n 1, 1)) (Nat.le_of_ble_eq_true rfl) rfl ?_
    refine g_sto (σ' := s_row σ 1 (fun j => if j < 0 then σ 2 j else σ 1 j)) (row_start σ 2 1) ?_
    exact p_again_lp h4 68 0 (by omega) (by omega) hR
  · refine g_bipush (v := (-3)) (by decide +kernel : decode prog_10_method_110_code 7 = .ok (.bipush (-3), 2)) (by decide) ?_
    exact g_iret hR (by decide +kernel : decode prog_10_method_110_code 9 = .ok (.ireturn, 1)) rfl ⟨_, rfl, Or.inl ⟨h4, rfl, rfl⟩⟩
theorem m_again (σ : Store) : Ct ΛM mt_Md_again 0 [.ref 0] σ (againP σ (σ 2)) := by
  refine (m_again0 σ).eqvP ?_
  rintro v τ ⟨r, h1, h2⟩
  rcases h2 with ⟨h2, h3, h4⟩ | ⟨h2, h3, h4⟩
  · exact ⟨τ, Eqv.rf, r, h1, Or.inl ⟨h2, h3, h4⟩⟩
  · exact ⟨_, h4 ▸ row_eqv (a := 2) rfl, r, h1, Or.inr ⟨h2, h3, rfl⟩⟩
-- the shortest round
/-- how far back one must go beyond what lies on: the next asked one from p on -/
def bkF (P x : Nat) : Nat → Nat → Nat → Nat
  | 0, _, b => b
  | j + 1, p, b => bkF P x j (p + 1) (if b = 0 ∧ P.testBit ((x + p) % 12) = true then 12 - p else b)
theorem bkF_step {P x p b : Nat} (h : p < 12) : bkF P x (12 - p) p b = bkF P x (12 - (p + 1)) (p + 1) (if b = 0 ∧ P.testBit ((x + p) % 12) = true then 12 - p else b) := by
  obtain ⟨j, hj⟩ : ∃ j, 12 - p = j + 1 := ⟨12 - (p + 1), by omega⟩
  have hj2 : 12 - (p + 1) = j := by omega
  have e : bkF P x (12 - p) p b = bkF P x (j + 1) p b := by rw [hj]
  rw [e, hj2]
  rfl
def mnN (a b : Nat) : Nat := if a < b then a else b
def rnF (P x : Nat) : Nat → Nat
  | 0 => 99
  | k + 1 => mnN (rnF P x k) (k + bkF P x (12 - (k + 1)) (k + 1) 0 + mnN k (bkF P x (12 - (k + 1)) (k + 1) 0))
def roundV (f : Row) (x : Int32) : Int32 := match rg 0 11 x with
  | none => -1
  | some p => nI (rnF (hpl f (nn f)) p 12)
theorem lst_nI {a b : Nat} (ha : a < 2 ^ 31) (hb : b < 2 ^ 31) : lst (nI a) (nI b) = nI (mnN a b) := by
  unfold lst mnN
  by_cases h : a < b
  · rw [if_pos h, if_pos ((nI_ltI ha hb).mpr h)]
  · rw [if_neg h, if_neg (fun q => h ((nI_ltI ha hb).mp q))]
theorem mnN_le (a b : Nat) : mnN a b ≤ a := by unfold mnN; split <;> omega
theorem bkF_le (P x : Nat) : ∀ j p b, b ≤ 12 → bkF P x j p b ≤ 12 := by
  intro j
  induction j with
  | zero => intro p b h; exact h
  | succ j ih =>
    intro p b h
    show bkF P x j (p + 1) _ ≤ 12
    apply ih
    split <;> omega
theorem rnF_le (P x : Nat) : ∀ k, rnF P x k ≤ 99 := by
  intro k
  induction k with
  | zero => exact Nat.le_refl _
  | succ k ih => exact Nat.le_trans (mnN_le _ _) ih
set_option maxRecDepth 20000 in
theorem m_round_in {X : CX} {σ : Store} {f bb : Row} {x P t on u : Nat} (hx : x < 12) (hP : P < 4096) (hon : on < 12) (hK : G (ΛM, mt_Md_round, 2) X (mS σ f bb) [some (.ref 0), some (.int (nI x)), some (.int (nI P)), some (.int (nI t)), some (.int (nI on)), some (.int (nI u)), none, none] [] 93) : ∀ (b9 p b : Nat), p ≤ 12 → 12 - p < b9 → b ≤ 12 → bkF P x (12 - p) p b = u → G (ΛM, mt_Md_round, 2) X (mS σ f bb) [some (.ref 0), some (.int (nI x)), some (.int (nI P)), some (.int (nI t)), some (.int (nI on)), some (.int (nI b)), some (.int (nI p)), none] [] 36 := by
  intro b9
  induction b9 with
  | zero => intro p b hp hb hb12 hu; omega
  | succ b9 ih =>
  intro p b hp hb hb12 hu
  refine g_iload (by decide +kernel : decode prog_10_method_73_code 36 = .ok (.iload 6, 2)) rfl ?_
  refine g_bipush (v := nI 12) (by decide +kernel : decode prog_10_method_73_code 38 = .ok (.bipush 12, 2)) (by decide) ?_
  refine g_icmp_geN (tgt := 93) (by decide +kernel : decode prog_10_method_73_code 40 = .ok (.if_icmp .ge 53, 3)) (by decide) (by first | omega | (have h9 := ite1 (P.testBit ((x + p) % 12) = true); omega)) (by decide) (fun h40 => ?_) (fun h40 => ?_)
  · refine g_sub (L' := [some (.ref 0), some (.int (nI x)), some (.int (nI P)), some (.int (nI t)), some (.int (nI on)), some (.int (nI b)), none, none]) ⟨rfl, rfl, rfl, rfl, rfl, rfl, trivial⟩ ?_
    have e : b = u := by rw [← hu, show 12 - p = 0 by omega]; rfl
    rw [e]
    exact hK
  · refine g_iload_n (by decide +kernel : decode prog_10_method_73_code 43 = .ok (.iload_n 2, 1)) rfl ?_
    refine g_iload_n (by decide +kernel : decode prog_10_method_73_code 44 = .ok (.iload_n 1, 1)) rfl ?_
    refine g_iload (by decide +kernel : decode prog_10_method_73_code 45 = .ok (.iload 6, 2)) rfl ?_
    refine g_iaddN (by decide +kernel : decode prog_10_method_73_code 47 = .ok (.iadd, 1)) ?_
    refine g_bipush (v := nI 12) (by decide +kernel : decode prog_10_method_73_code 48 = .ok (.bipush 12, 2)) (by decide) ?_
    refine g_iremN (by decide +kernel : decode prog_10_method_73_code 50 = .ok (.irem, 1)) (by first | omega | (have h9 := ite1 (P.testBit ((x + p) % 12) = true); omega)) (by decide) (by decide) ?_
    refine g_ishr (by decide +kernel : decode prog_10_method_73_code 51 = .ok (.ishr, 1)) ?_
    refine g_iconst (v := nI 1) (by decide +kernel : decode prog_10_method_73_code 52 = .ok (.iconst 1, 1)) (by decide) ?_
    refine g_iand (by decide +kernel : decode prog_10_method_73_code 53 = .ok (.iand, 1)) ?_
    refine g_top (w := nI (if P.testBit ((x + p) % 12) then 1 else 0)) (nI_bit (by omega) (by omega)) ?_
    refine g_iconst (v := nI 1) (by decide +kernel : decode prog_10_method_73_code 54 = .ok (.iconst 1, 1)) (by decide) ?_
    have J55 : G (ΛM, mt_Md_round, 2) X (mS σ f bb) [some (.ref 0), some (.int (nI x)), some (.int (nI P)), some (.int (nI t)), some (.int (nI on)), some (.int (nI b)), some (.int (nI p)), none] [.int (nI (if P.testBit ((x + p) % 12) then 1 else 0))] 63 := by
      refine g_istore (L' := [some (.ref 0), some (.int (nI x)), some (.int (nI P)), some (.int (nI t)), some (.int (nI on)), some (.int (nI b)), some (.int (nI p)), some (.int (nI (if P.testBit ((x + p) % 12) then 1 else 0)))]) (by decide +kernel : decode prog_10_method_73_code 63 = .ok (.istore 7, 2)) (Nat.le_of_ble_eq_true rfl) rfl ?_
      refine g_iload (by decide +kernel : decode prog_10_method_73_code 65 = .ok (.iload 5, 2)) rfl ?_
      have J67 : G (ΛM, mt_Md_round, 2) X (mS σ f bb) [some (.ref 0), some (.int (nI x)), some (.int (nI P)), some (.int (nI t)), some (.int (nI on)), some (.int (nI b)), some (.int (nI p)), some (.int (nI (if P.testBit ((x + p) % 12) then 1 else 0)))] [.int (nI (if b = 0 ∧ P.testBit ((x + p) % 12) = true then 12 - p else b))] 85 := by
        refine g_istore (L' := [some (.ref 0), some (.int (nI x)), some (.int (nI P)), some (.int (nI t)), some (.int (nI on)), some (.int (nI (if b = 0 ∧ P.testBit ((x + p) % 12) = true then 12 - p else b))), some (.int (nI p)), some (.int (nI (if P.testBit ((x + p) % 12) then 1 else 0)))]) (by decide +kernel : decode prog_10_method_73_code 85 = .ok (.istore 5, 2)) (Nat.le_of_ble_eq_true rfl) rfl ?_
        refine g_iincN (n := 1) (L' := [some (.ref 0), some (.int (nI x)), some (.int (nI P)), some (.int (nI t)), some (.int (nI on)), some (.int (nI (if b = 0 ∧ P.testBit ((x + p) % 12) = true then 12 - p else b))), some (.int (nI (p + 1))), some (.int (nI (if P.testBit ((x + p) % 12) then 1 else 0)))]) (by decide +kernel : decode prog_10_method_73_code 87 = .ok (.iinc 6 1, 3)) rfl (by decide) (Nat.le_of_ble_eq_true rfl) rfl ?_
        refine g_goto (tgt := 36) (by decide +kernel : decode prog_10_method_73_code 90 = .ok (.goto (-54), 3)) (by decide) ?_
        refine g_sub (L' := [some (.ref 0), some (.int (nI x)), some (.int (nI P)), some (.int (nI t)), some (.int (nI on)), some (.int (nI (if b = 0 ∧ P.testBit ((x + p) % 12) = true then 12 - p else b))), some (.int (nI (p + 1))), none]) ⟨rfl, rfl, rfl, rfl, rfl, rfl, rfl, trivial⟩ ?_
        exact ih (p + 1) _ (by omega) (by omega) (by split <;> omega) (by rw [← hu]; exact (bkF_step (by omega)).symm)
      refine g_if_neN (tgt := 83) (by decide +kernel : decode prog_10_method_73_code 67 = .ok (.ifCond .ne 16, 3)) (by decide) (by first | omega | (have h9 := ite1 (P.testBit ((x + p) % 12) = true); omega)) (fun h67 => ?_) (fun h67 => ?_)
      · refine g_iload (by decide +kernel : decode prog_10_method_73_code 83 = .ok (.iload 5, 2)) rfl ?_
        exact g_top (by rw [if_neg (fun z => h67 z.1)]) J67
      · refine g_iload (by decide +kernel : decode prog_10_method_73_code 70 = .ok (.iload 7, 2)) rfl ?_
        refine g_if_eqN (tgt := 83) (by decide +kernel : decode prog_10_method_73_code 72 = .ok (.ifCond .eq 11, 3)) (by decide) (by first | omega | (have h9 := ite1 (P.testBit ((x + p) % 12) = true); omega)) (fun h72 => ?_) (fun h72 => ?_)
        · refine g_iload (by decide +kernel : decode prog_10_method_73_code 83 = .ok (.iload 5, 2)) rfl ?_
          exact g_top (by rw [if_neg (fun z => by rw [if_pos z.2] at h72; exact absurd h72 (by decide))]) J67
        · refine g_bipush (v := nI 12) (by decide +kernel : decode prog_10_method_73_code 75 = .ok (.bipush 12, 2)) (by decide) ?_
          refine g_iload (by decide +kernel : decode prog_10_method_73_code 77 = .ok (.iload 6, 2)) rfl ?_
          refine g_isubN (by decide +kernel : decode prog_10_method_73_code 79 = .ok (.isub, 1)) (by first | omega | (have h9 := ite1 (P.testBit ((x + p) % 12) = true); omega)) ?_
          refine g_goto (tgt := 85) (by decide +kernel : decode prog_10_method_73_code 80 = .ok (.goto 5, 3)) (by decide) ?_
          exact g_top (by rw [if_pos ⟨h67, by cases hz : P.testBit ((x + p) % 12) with | true => rfl | false => rw [hz] at h72; exact absurd rfl h72⟩]) J67
    refine g_icmp_neN (tgt := 62) (by decide +kernel : decode prog_10_method_73_code 55 = .ok (.if_icmp .ne 7, 3)) (by decide) (by first | omega | (have h9 := ite1 (P.testBit ((x + p) % 12) = true); omega)) (by decide) (fun h55 => ?_) (fun h55 => ?_)
    · refine g_iconst (v := nI 0) (by decide +kernel : decode prog_10_method_73_code 62 = .ok (.iconst 0, 1)) (by decide) ?_
      exact g_top (congrArg nI (by have h9 := ite1 (P.testBit ((x + p) % 12) = true); omega)) J55
    · refine g_iconst (v := nI 1) (by decide +kernel : decode prog_10_method_73_code 58 = .ok (.iconst 1, 1)) (by decide) ?_
      refine g_goto (tgt := 63) (by decide +kernel : decode prog_10_method_73_code 59 = .ok (.goto 4, 3)) (by decide) ?_
      exact g_top (by rw [h55]) J55
set_option maxRecDepth 20000 in
theorem m_round_lp {X : CX} {σ : Store} {f bb : Row} {x P : Nat} (hx : x < 12) (hP : P < 4096) {Post : Option Value → Store → Prop} (hp : Post (some (.int (nI (rnF P x 12)))) (mS σ f bb)) : ∀ (b9 k : Nat), k ≤ 12 → 12 - k < b9 → Rt (ΛM, mt_Md_round, 2) (Post) X → G (ΛM, mt_Md_round, 2) X (mS σ f bb) [some (.ref 0), some (.int (nI x)), some (.int (nI P)), some (.int (nI (rnF P x k))), some (.int (nI k)), none, none, none] [] 20 := by
  intro b9
  induction b9 with
  | zero => intro k hk hb hR; omega
  | succ b9 ih =>
  intro k hk hb hR
  have hl := rnF_le P x k
  have hK : ∀ u, k < 12 → u = bkF P x (12 - (k + 1)) (k + 1) 0 → G (ΛM, mt_Md_round, 2) X (mS σ f bb) [some (.ref 0), some (.int (nI x)), some (.int (nI P)), some (.int (nI (rnF P x k))), some (.int (nI k)), some (.int (nI u)), none, none] [] 93 := by
    intro u hk12 hu
    have hu12 : u ≤ 12 := by rw [hu]; exact bkF_le _ _ _ _ _ (by decide)
    have hm := mnN_le k u
    refine g_iload_n (by decide +kernel : decode prog_10_method_73_code 93 = .ok (.iload_n 3, 1)) rfl ?_
    refine g_iload (by decide +kernel : decode prog_10_method_73_code 94 = .ok (.iload 4, 2)) rfl ?_
    refine g_iload (by decide +kernel : decode prog_10_method_73_code 96 = .ok (.iload 5, 2)) rfl ?_
    refine g_iaddN (by decide +kernel : decode prog_10_method_73_code 98 = .ok (.iadd, 1)) ?_
    refine g_iload (by decide +kernel : decode prog_10_method_73_code 99 = .ok (.iload 4, 2)) rfl ?_
    refine g_iload (by decide +kernel : decode prog_10_method_73_code 101 = .ok (.iload 5, 2)) rfl ?_
    refine g_callSI [.int (nI k), .int (nI u)] (by decide +kernel : decode prog_10_method_73_code 103 = .ok (.invokestatic 195, 3)) lk_Md_195 (m_lst ΛM (mS σ f bb) (nI (k)) (nI (u))) rfl rfl (Nat.le_of_ble_eq_true rfl) (Nat.le_of_ble_eq_true rfl) (fun r103 s103 h103 => ?_)
    obtain ⟨rfl, rfl⟩ := h103
    refine g_top (w := nI (mnN (k) (u))) (lst_nI (by omega) (by omega)) ?_
    refine g_iaddN (by decide +kernel : decode prog_10_method_73_code 106 = .ok (.iadd, 1)) ?_
    refine g_callSI [.int (nI (rnF P x k)), .int (nI (k + u + mnN (k) (u)))] (by decide +kernel : decode prog_10_method_73_code 107 = .ok (.invokestatic 195, 3)) lk_Md_195 (m_lst ΛM (mS σ f bb) (nI (rnF P x k)) (nI (k + u + mnN (k) (u)))) rfl rfl (Nat.le_of_ble_eq_true rfl) (Nat.le_of_ble_eq_true rfl) (fun r107 s107 h107 => ?_)
    obtain ⟨rfl, rfl⟩ := h107
    refine g_top (w := nI (mnN (rnF P x k) (k + u + mnN (k) (u)))) (lst_nI (by omega) (by omega)) ?_
    refine g_istore_n (L' := [some (.ref 0), some (.int (nI x)), some (.int (nI P)), some (.int (nI (mnN (rnF P x k) (k + u + mnN (k) (u))))), some (.int (nI k)), some (.int (nI u)), none, none]) (by decide +kernel : decode prog_10_method_73_code 110 = .ok (.istore_n 3, 1)) (Nat.le_of_ble_eq_true rfl) rfl ?_
    refine g_iincN (n := 1) (L' := [some (.ref 0), some (.int (nI x)), some (.int (nI P)), some (.int (nI (mnN (rnF P x k) (k + u + mnN (k) (u))))), some (.int (nI (k + 1))), some (.int (nI u)), none, none]) (by decide +kernel : decode prog_10_method_73_code 111 = .ok (.iinc 4 1, 3)) rfl (by decide) (Nat.le_of_ble_eq_true rfl) rfl ?_
    refine g_goto (tgt := 20) (by decide +kernel : decode prog_10_method_73_code 114 = .ok (.goto (-94), 3)) (by decide) ?_
    subst hu
    refine g_sub (L' := [some (.ref 0), some (.int (nI x)), some (.int (nI P)), some (.int (nI (rnF P x (k + 1)))), some (.int (nI (k + 1))), none, none, none]) ⟨rfl, rfl, rfl, rfl, rfl, trivial⟩ ?_
    exact ih (k + 1) (by omega) (by omega) hR
  refine g_iload (by decide +kernel : decode prog_10_method_73_code 20 = .ok (.iload 4, 2)) rfl ?_
  refine g_bipush (v := nI 12) (by decide +kernel : decode prog_10_method_73_code 22 = .ok (.bipush 12, 2)) (by decide) ?_
  refine g_icmp_geN (tgt := 117) (by decide +kernel : decode prog_10_method_73_code 24 = .ok (.if_icmp .ge 93, 3)) (by decide) (by omega) (by decide) (fun h24 => ?_) (fun h24 => ?_)
  · refine g_iload_n (by decide +kernel : decode prog_10_method_73_code 117 = .ok (.iload_n 3, 1)) rfl ?_
    exact g_iret hR (by decide +kernel : decode prog_10_method_73_code 118 = .ok (.ireturn, 1)) rfl (by rw [show k = 12 by omega]; exact hp)
  · refine g_iconst (v := nI 0) (by decide +kernel : decode prog_10_method_73_code 27 = .ok (.iconst 0, 1)) (by decide) ?_
    refine g_istore (L' := [some (.ref 0), some (.int (nI x)), some (.int (nI P)), some (.int (nI (rnF P x k))), some (.int (nI k)), some (.int (nI 0)), none, none]) (by decide +kernel : decode prog_10_method_73_code 28 = .ok (.istore 5, 2)) (Nat.le_of_ble_eq_true rfl) rfl ?_
    refine g_iload (by decide +kernel : decode prog_10_method_73_code 30 = .ok (.iload 4, 2)) rfl ?_
    refine g_iconst (v := nI 1) (by decide +kernel : decode prog_10_method_73_code 32 = .ok (.iconst 1, 1)) (by decide) ?_
    refine g_iaddN (by decide +kernel : decode prog_10_method_73_code 33 = .ok (.iadd, 1)) ?_
    refine g_istore (L' := [some (.ref 0), some (.int (nI x)), some (.int (nI P)), some (.int (nI (rnF P x k))), some (.int (nI k)), some (.int (nI 0)), some (.int (nI (k + 1))), none]) (by decide +kernel : decode prog_10_method_73_code 34 = .ok (.istore 6, 2)) (Nat.le_of_ble_eq_true rfl) rfl ?_
    refine g_sub (L' := [some (.ref 0), some (.int (nI x)), some (.int (nI P)), some (.int (nI (rnF P x k))), some (.int (nI k)), some (.int (nI 0)), some (.int (nI (k + 1))), none]) ⟨rfl, rfl, rfl, rfl, rfl, rfl, rfl, trivial⟩ ?_
    exact m_round_in hx hP (by omega) (hK _ (by omega) rfl) 13 (k + 1) 0 (by omega) (by omega) (by omega) rfl
set_option maxRecDepth 20000 in
theorem p_round (σ : Store) (f b : Row) (hI : Inv f) (x : Int32) : Ct ΛM mt_Md_round 2 [.ref 0, .int x] (mS σ f b) (mP σ (roundV f x) f) := by
  refine Ct.of (by decide) (Nat.le_of_ble_eq_true rfl) (fun X hR => ?_)
  show G (ΛM, mt_Md_round, 2) X (mS σ f b) [some (.ref 0), some (.int x), none, none, none, none, none, none] [] 0
  have hn8 := hI.n.2
  refine g_iload_n (by decide +kernel : decode prog_10_method_73_code 0 = .ok (.iload_n 1, 1)) rfl ?_
  refine g_callSI [.int x] (by decide +kernel : decode prog_10_method_73_code 1 = .ok (.invokestatic 166, 3)) lk_Md_166 (m_isPlace ΛM (mS σ f b) x) rfl rfl (Nat.le_of_ble_eq_true rfl) (Nat.le_of_ble_eq_true rfl) (fun r1 s1 h1 => ?_)
  rcases h1 with ⟨rfl, ⟨rfl, p, hp1, rfl⟩ | ⟨rfl, n1⟩⟩
  · refine g_if_neN (tgt := 9) (by decide +kernel : decode prog_10_method_73_code 4 = .ok (.ifCond .ne 5, 3)) (by decide) (by decide) (fun _ => ?_) (fun h => False.elim (by revert h; decide))
    refine g_aload_n (by decide +kernel : decode prog_10_method_73_code 9 = .ok (.aload_n 0, 1)) rfl ?_
    refine g_callVI [] (by decide +kernel : decode prog_10_method_73_code 10 = .ok (.invokevirtual 222, 3)) lk_Md_222 (m_hidingPlaces σ f b hI) rfl rfl rfl rfl (Nat.le_of_ble_eq_true rfl) (Nat.le_of_ble_eq_true rfl) (fun r10 s10 h10 => ?_)
    obtain ⟨rfl, rfl⟩ := h10
    refine g_istore_n (L' := [some (.ref 0), some (.int (nI p)), some (.int (nI (hpl f (nn f)))), none, none, none, none, none]) (by decide +kernel : decode prog_10_method_73_code 13 = .ok (.istore_n 2, 1)) (Nat.le_of_ble_eq_true rfl) rfl ?_
    refine g_bipush (v := nI 99) (by decide +kernel : decode prog_10_method_73_code 14 = .ok (.bipush 99, 2)) (by decide) ?_
    refine g_istore_n (L' := [some (.ref 0), some (.int (nI p)), some (.int (nI (hpl f (nn f)))), some (.int (nI 99)), none, none, none, none]) (by decide +kernel : decode prog_10_method_73_code 16 = .ok (.istore_n 3, 1)) (Nat.le_of_ble_eq_true rfl) rfl ?_
    refine g_iconst (v := nI 0) (by decide +kernel : decode prog_10_method_73_code 17 = .ok (.iconst 0, 1)) (by decide) ?_
    refine g_istore (L' := [some (.ref 0), some (.int (nI p)), some (.int (nI (hpl f (nn f)))), some (.int (nI 99)), some (.int (nI 0)), none, none, none]) (by decide +kernel : decode prog_10_method_73_code 18 = .ok (.istore 4, 2)) (Nat.le_of_ble_eq_true rfl) rfl ?_
    refine g_sub (L' := [some (.ref 0), some (.int (nI p)), some (.int (nI (hpl f (nn f)))), some (.int (nI 99)), some (.int (nI 0)), none, none, none]) ⟨rfl, rfl, rfl, rfl, rfl, trivial⟩ ?_
    exact m_round_lp hp1 (hpl_lt hI _ (Nat.le_refl _)) ⟨_, rfl, by simp only [roundV, pl_of hp1], Jk.self _ _ _⟩ 13 0 (by omega) (by omega) hR
  · refine g_if_neN (tgt := 9) (by decide +kernel : decode prog_10_method_73_code 4 = .ok (.ifCond .ne 5, 3)) (by decide) (by decide) (fun h => False.elim (by revert h; decide)) (fun _ => ?_)
    refine g_iconst (v := (-1)) (by decide +kernel : decode prog_10_method_73_code 7 = .ok (.iconst (-1), 1)) (by decide) ?_
    exact g_iret hR (by decide +kernel : decode prog_10_method_73_code 8 = .ok (.ireturn, 1)) rfl ⟨_, rfl, ⟨by simp only [roundV, pl_none n1], Jk.self _ _ _⟩⟩
end
section
/-! THE REFERENCE: rows of years -/
def ri (r : Nat) (x : Int32) : Option Nat := if 0 ≤ x ∧ x < nI r then some (tn x) else none
theorem ri_of {r j : Nat} (hr : r < 2 ^ 31) (h : j < r) : ri r (nI j) = some j := by
  unfold ri
  rw [if_pos ⟨nI_pos' (by omega), nI_lt h hr⟩, tn_nI (by omega)]
theorem ri_none {r : Nat} {x : Int32} (hr : r < 2 ^ 31) (h : ¬ ∃ j, j < r ∧ x = nI j) : ri r x = none := by
  unfold ri
  rw [if_neg (fun q => h ((i32_lt x hr).mp q))]
def rix (r : Nat) (x y : Int32) : Option Nat := match ri r x with
  | none => none
  | some i => match rg 0 2 y with
    | none => none
    | some w => some (3 * i + w)
theorem rix_of {r i w : Nat} (hr : r < 2 ^ 31) (h : i < r) (hw : w ≤ 2) : rix r (nI i) (nI w) = some (3 * i + w) := by
  unfold rix
  rw [ri_of hr h]
  dsimp only
  rw [rg_of (Nat.zero_le _) hw]
theorem rix_none {r : Nat} {x y : Int32} (hr : r < 2 ^ 31) (h : ¬ ((∃ j, j < r ∧ x = nI j) ∧ ∃ j, 0 ≤ j ∧ j ≤ 2 ∧ y = nI j)) : rix r x y = none := by
  unfold rix
  by_cases h1 : ∃ j, j < r ∧ x = nI j
  · obtain ⟨j, hj, rfl⟩ := h1
    rw [ri_of hr hj]
    dsimp only
    rw [rg_none (fun q => h ⟨⟨j, hj, rfl⟩, q⟩)]
  · rw [ri_none hr h1]
theorem i64_to (x : Int32) {r : Nat} (hr : r < 2 ^ 30) : (lN 0 ≤ x.toInt64 ∧ x.toInt64 ≤ (nI r - nI 1).toInt64) ↔ ∃ j, j < r ∧ x = nI j := by
  have hx : x.toInt64.toInt = x.toInt := by simp
  have hy : (nI r - nI 1).toInt64.toInt = (nI r - nI 1).toInt := by simp
  rw [Int64.le_iff_toInt_le, Int64.le_iff_toInt_le, hx, hy, pk_sub_toInt hr (by decide), lN_toInt (by decide)]
  constructor
  · rintro ⟨h1, h2⟩
    refine ⟨x.toInt.toNat, by omega, ?_⟩
    apply Int32.toInt_inj.mp
    rw [nI_toInt (by omega)]; omega
  · rintro ⟨j, h1, rfl⟩
    rw [nI_toInt (by omega)]; omega
theorem m_isInR (Λ : Lay) (σ : Store) (x : Int32) {r : Nat} (hr : r < 2 ^ 30) : Ct Λ mt_Md_isIn 0 [.long x.toInt64, .long (lN 0), .long (nI r - nI 1).toInt64] σ (PB σ (∃ j, j < r ∧ x = nI j)) := PB.of (m_isIn Λ σ _ _ _) (i64_to x hr)
set_option maxRecDepth 20000 in
theorem m_isRow (σ : Store) (f b : Row) (x y : Int32) {r : Nat} (hr : σ 0 14 = nI r) (hr10 : r ≤ 10) : Ct ΛM mt_Md_isRow 1 [.ref 0, .int x, .int y] (mS σ f b) (PB (mS σ f b) ((∃ j, j < r ∧ x = nI j) ∧ ∃ j, 0 ≤ j ∧ j ≤ 2 ∧ y = nI j)) := by
  refine Ct.of (by decide) (Nat.le_of_ble_eq_true rfl) (fun X hR => ?_)
  show G (ΛM, mt_Md_isRow, 1) X (mS σ f b) [some (.ref 0), some (.int x), some (.int y)] [] 0
  refine g_iload_n (by decide +kernel : decode prog_10_method_81_code 0 = .ok (.iload_n 1, 1)) rfl ?_
  refine g_i2l (by decide +kernel : decode prog_10_method_81_code 1 = .ok (.i2l, 1)) ?_
  refine g_lconst (v := lN 0) (by decide +kernel : decode prog_10_method_81_code 2 = .ok (.lconst 0, 1)) (by decide) ?_
  refine g_aload_n (by decide +kernel : decode prog_10_method_81_code 3 = .ok (.aload_n 0, 1)) rfl ?_
  refine g_getI (by decide +kernel : decode prog_10_method_81_code 4 = .ok (.getfield 148, 3)) fl_Md_148.get rfl rfl ?_
  refine g_top (w := nI r) (hr) ?_
  refine g_iconst (v := nI 1) (by decide +kernel : decode prog_10_method_81_code 7 = .ok (.iconst 1, 1)) (by decide) ?_
  refine g_isub (by decide +kernel : decode prog_10_method_81_code 8 = .ok (.isub, 1)) ?_
  refine g_i2l (by decide +kernel : decode prog_10_method_81_code 9 = .ok (.i2l, 1)) ?_
  refine g_callSI [.long (Int32.toInt64 x), .long (lN 0), .long (Int32.toInt64 ((nI r) - (nI 1)))] (by decide +kernel : decode prog_10_method_81_code 10 = .ok (.invokestatic 57, 3)) lk_Md_57 (m_isInR ΛM (mS σ f b) x (r := r) (by omega)) rfl rfl (Nat.le_of_ble_eq_true rfl) (Nat.le_of_ble_eq_true rfl) (fun r10 s10 h10 => ?_)
  rcases h10 with ⟨rfl, ⟨rfl, q10⟩ | ⟨rfl, q10⟩⟩
  · refine g_if_eqN (tgt := 32) (by decide +kernel : decode prog_10_method_81_code 13 = .ok (.ifCond .eq 19, 3)) (by decide) (by decide) (fun h => False.elim (by revert h; decide)) (fun _ => ?_)
    refine g_iload_n (by decide +kernel : decode prog_10_method_81_code 16 = .ok (.iload_n 2, 1)) rfl ?_
    refine g_i2l (by decide +kernel : decode prog_10_method_81_code 17 = .ok (.i2l, 1)) ?_
    refine g_lconst (v := lN 0) (by decide +kernel : decode prog_10_method_81_code 18 = .ok (.lconst 0, 1)) (by decide) ?_
    refine g_ldc2 (v := lN 2) (by decide +kernel : decode prog_10_method_81_code 19 = .ok (.ldc2_w 175, 3)) kc_Md_175 ?_
    refine g_callSI [.long (Int32.toInt64 y), .long (lN 0), .long (lN 2)] (by decide +kernel : decode prog_10_method_81_code 22 = .ok (.invokestatic 57, 3)) lk_Md_57 (m_isInN ΛM (mS σ f b) y 0 2) rfl rfl (Nat.le_of_ble_eq_true rfl) (Nat.le_of_ble_eq_true rfl) (fun r22 s22 h22 => ?_)
    rcases h22 with ⟨rfl, ⟨rfl, q22⟩ | ⟨rfl, q22⟩⟩
    · refine g_if_eqN (tgt := 32) (by decide +kernel : decode prog_10_method_81_code 25 = .ok (.ifCond .eq 7, 3)) (by decide) (by decide) (fun h => False.elim (by revert h; decide)) (fun _ => ?_)
      refine g_iconst (v := nI 1) (by decide +kernel : decode prog_10_method_81_code 28 = .ok (.iconst 1, 1)) (by decide) ?_
      refine g_goto (tgt := 33) (by decide +kernel : decode prog_10_method_81_code 29 = .ok (.goto 4, 3)) (by decide) ?_
      exact g_zret hR (by decide +kernel : decode prog_10_method_81_code 33 = .ok (.ireturn, 1)) rfl (by decide) ⟨_, rfl, ⟨rfl, Or.inl ⟨rfl, ⟨q10, q22⟩⟩⟩⟩
    · refine g_if_eqN (tgt := 32) (by decide +kernel : decode prog_10_method_81_code 25 = .ok (.ifCond .eq 7, 3)) (by decide) (by decide) (fun _ => ?_) (fun h => False.elim (by revert h; decide))
      refine g_iconst (v := nI 0) (by decide +kernel : decode prog_10_method_81_code 32 = .ok (.iconst 0, 1)) (by decide) ?_
      exact g_zret hR (by decide +kernel : decode prog_10_method_81_code 33 = .ok (.ireturn, 1)) rfl (by decide) ⟨_, rfl, ⟨rfl, Or.inr ⟨rfl, fun z => q22 z.2⟩⟩⟩
  · refine g_if_eqN (tgt := 32) (by decide +kernel : decode prog_10_method_81_code 13 = .ok (.ifCond .eq 19, 3)) (by decide) (by decide) (fun _ => ?_) (fun h => False.elim (by revert h; decide))
    refine g_iconst (v := nI 0) (by decide +kernel : decode prog_10_method_81_code 32 = .ok (.iconst 0, 1)) (by decide) ?_
    exact g_zret hR (by decide +kernel : decode prog_10_method_81_code 33 = .ok (.ireturn, 1)) rfl (by decide) ⟨_, rfl, ⟨rfl, Or.inr ⟨rfl, fun z => q10 z.1⟩⟩⟩
def rowV (σ : Store) (x y : Int32) : Int32 := match rix (tn (σ 0 14)) x y with
  | none => -9
  | some q => σ 7 q
def altS (σ : Store) (x y z : Int32) : Store := match rix (tn (σ 0 14)) x y with
  | none => σ
  | some q => s_up σ 7 q z
set_option maxRecDepth 20000 in
theorem q_row (σ : Store) (f b : Row) (x y : Int32) {r : Nat} (hr : σ 0 14 = nI r) (hr10 : r ≤ 10) : Ct ΛM mt_Md_row 2 [.ref 0, .int x, .int y] (mS σ f b) (PF (rowV σ x y) (mS σ f b)) := by
  refine Ct.of (by decide) (Nat.le_of_ble_eq_true rfl) (fun X hR => ?_)
  show G (ΛM, mt_Md_row, 2) X (mS σ f b) [some (.ref 0), some (.int x), some (.int y)] [] 0
  have htn : tn (σ 0 14) = r := by rw [hr, tn_nI (by omega)]
  refine g_aload_n (by decide +kernel : decode prog_10_method_82_code 0 = .ok (.aload_n 0, 1)) rfl ?_
  refine g_iload_n (by decide +kernel : decode prog_10_method_82_code 1 = .ok (.iload_n 1, 1)) rfl ?_
  refine g_iload_n (by decide +kernel : decode prog_10_method_82_code 2 = .ok (.iload_n 2, 1)) rfl ?_
  refine g_callVI [.int x, .int y] (by decide +kernel : decode prog_10_method_82_code 3 = .ok (.invokevirtual 260, 3)) lk_Md_260 (m_isRow σ f b x y hr hr10) rfl rfl rfl rfl (Nat.le_of_ble_eq_true rfl) (Nat.le_of_ble_eq_true rfl) (fun r3 s3 h3 => ?_)
  rcases h3 with ⟨rfl, ⟨rfl, ⟨i, hi, rfl⟩, ⟨w, hw0, hw, rfl⟩⟩ | ⟨rfl, hno⟩⟩
  · refine g_if_eqN (tgt := 22) (by decide +kernel : decode prog_10_method_82_code 6 = .ok (.ifCond .eq 16, 3)) (by decide) (by decide) (fun h => False.elim (by revert h; decide)) (fun _ => ?_)
    refine g_aload_n (by decide +kernel : decode prog_10_method_82_code 9 = .ok (.aload_n 0, 1)) rfl ?_
    refine g_getR (by decide +kernel : decode prog_10_method_82_code 10 = .ok (.getfield 28, 3)) fl_Md_28 rfl rfl ?_
    refine g_iconst (v := nI 3) (by decide +kernel : decode prog_10_method_82_code 13 = .ok (.iconst 3, 1)) (by decide) ?_
    refine g_iload_n (by decide +kernel : decode prog_10_method_82_code 14 = .ok (.iload_n 1, 1)) rfl ?_
    refine g_imulN (by decide +kernel : decode prog_10_method_82_code 15 = .ok (.imul, 1)) ?_
    refine g_iload_n (by decide +kernel : decode prog_10_method_82_code 16 = .ok (.iload_n 2, 1)) rfl ?_
    refine g_iaddN (by decide +kernel : decode prog_10_method_82_code 17 = .ok (.iadd, 1)) ?_
    refine g_iaload (a := 3 * i + w) (by decide +kernel : decode prog_10_method_82_code 18 = .ok (.iaload, 1)) rfl rfl (by omega) (by decide) ?_
    refine g_top (w := σ 7 (3 * i + w)) (rfl) ?_
    refine g_goto (tgt := 24) (by decide +kernel : decode prog_10_method_82_code 19 = .ok (.goto 5, 3)) (by decide) ?_
    exact g_iret hR (by decide +kernel : decode prog_10_method_82_code 24 = .ok (.ireturn, 1)) rfl ⟨_, rfl, ⟨by simp only [rowV, htn, rix_of (show r < 2 ^ 31 by omega) hi hw], rfl⟩⟩
  · refine g_if_eqN (tgt := 22) (by decide +kernel : decode prog_10_method_82_code 6 = .ok (.ifCond .eq 16, 3)) (by decide) (by decide) (fun _ => ?_) (fun h => False.elim (by revert h; decide))
    refine g_bipush (v := (-9)) (by decide +kernel : decode prog_10_method_82_code 22 = .ok (.bipush (-9), 2)) (by decide) ?_
    exact g_iret hR (by decide +kernel : decode prog_10_method_82_code 24 = .ok (.ireturn, 1)) rfl ⟨_, rfl, ⟨by simp only [rowV, htn, rix_none (show r < 2 ^ 31 by omega) hno], rfl⟩⟩
set_option maxRecDepth 20000 in
theorem q_alterRow (σ : Store) (f b : Row) (x y z : Int32) {r : Nat} (hr : σ 0 14 = nI r) (hr10 : r ≤ 10) : Ct ΛM mt_Md_alterRow 2 [.ref 0, .int x, .int y, .int z] (mS σ f b) (PF (rowV σ x y) (mS (altS σ x y z) f b)) := by
  refine Ct.of (by decide) (Nat.le_of_ble_eq_true rfl) (fun X hR => ?_)
  show G (ΛM, mt_Md_alterRow, 2) X (mS σ f b) [some (.ref 0), some (.int x), some (.int y), some (.int z), none] [] 0
  have htn : tn (σ 0 14) = r := by rw [hr, tn_nI (by omega)]
  refine g_aload_n (by decide +kernel : decode prog_10_method_83_code 0 = .ok (.aload_n 0, 1)) rfl ?_
  refine g_iload_n (by decide +kernel : decode prog_10_method_83_code 1 = .ok (.iload_n 1, 1)) rfl ?_
  refine g_iload_n (by decide +kernel : decode prog_10_method_83_code 2 = .ok (.iload_n 2, 1)) rfl ?_
  refine g_callVI [.int x, .int y] (by decide +kernel : decode prog_10_method_83_code 3 = .ok (.invokevirtual 260, 3)) lk_Md_260 (m_isRow σ f b x y hr hr10) rfl rfl rfl rfl (Nat.le_of_ble_eq_true rfl) (Nat.le_of_ble_eq_true rfl) (fun r3 s3 h3 => ?_)
  rcases h3 with ⟨rfl, ⟨rfl, ⟨i, hi, rfl⟩, ⟨w, hw0, hw, rfl⟩⟩ | ⟨rfl, hno⟩⟩
  · refine g_if_neN (tgt := 12) (by decide +kernel : decode prog_10_method_83_code 6 = .ok (.ifCond .ne 6, 3)) (by decide) (by decide) (fun _ => ?_) (fun h => False.elim (by revert h; decide))
    refine g_aload_n (by decide +kernel : decode prog_10_method_83_code 12 = .ok (.aload_n 0, 1)) rfl ?_
    refine g_getR (by decide +kernel : decode prog_10_method_83_code 13 = .ok (.getfield 28, 3)) fl_Md_28 rfl rfl ?_
    refine g_iconst (v := nI 3) (by decide +kernel : decode prog_10_method_83_code 16 = .ok (.iconst 3, 1)) (by decide) ?_
    refine g_iload_n (by decide +kernel : decode prog_10_method_83_code 17 = .ok (.iload_n 1, 1)) rfl ?_
    refine g_imulN (by decide +kernel : decode prog_10_method_83_code 18 = .ok (.imul, 1)) ?_
    refine g_iload_n (by decide +kernel : decode prog_10_method_83_code 19 = .ok (.iload_n 2, 1)) rfl ?_
    refine g_iaddN (by decide +kernel : decode prog_10_method_83_code 20 = .ok (.iadd, 1)) ?_
    refine g_iaload (a := 3 * i + w) (by decide +kernel : decode prog_10_method_83_code 21 = .ok (.iaload, 1)) rfl rfl (by omega) (by decide) ?_
    refine g_top (w := σ 7 (3 * i + w)) (rfl) ?_
    refine g_istore (L' := [some (.ref 0), some (.int (nI i)), some (.int (nI w)), some (.int z), some (.int (σ 7 (3 * i + w)))]) (by decide +kernel : decode prog_10_method_83_code 22 = .ok (.istore 4, 2)) (Nat.le_of_ble_eq_true rfl) rfl ?_
    refine g_aload_n (by decide +kernel : decode prog_10_method_83_code 24 = .ok (.aload_n 0, 1)) rfl ?_
    refine g_getR (by decide +kernel : decode prog_10_method_83_code 25 = .ok (.getfield 28, 3)) fl_Md_28 rfl rfl ?_
    refine g_iconst (v := nI 3) (by decide +kernel : decode prog_10_method_83_code 28 = .ok (.iconst 3, 1)) (by decide) ?_
    refine g_iload_n (by decide +kernel : decode prog_10_method_83_code 29 = .ok (.iload_n 1, 1)) rfl ?_
    refine g_imulN (by decide +kernel : decode prog_10_method_83_code 30 = .ok (.imul, 1)) ?_
    refine g_iload_n (by decide +kernel : decode prog_10_method_83_code 31 = .ok (.iload_n 2, 1)) rfl ?_
    refine g_iaddN (by decide +kernel : decode prog_10_method_83_code 32 = .ok (.iadd, 1)) ?_
    refine g_iload_n (by decide +kernel : decode prog_10_method_83_code 33 = .ok (.iload_n 3, 1)) rfl ?_
    refine g_iastore (a := 3 * i + w) (by decide +kernel : decode prog_10_method_83_code 34 = .ok (.iastore, 1)) rfl rfl (by omega) (by decide) ?_
    refine g_sto (mS_uk _ _ _ _ _ (by decide) (by decide)) ?_
    refine g_iload (by decide +kernel : decode prog_10_method_83_code 35 = .ok (.iload 4, 2)) rfl ?_
    exact g_iret hR (by decide +kernel : decode prog_10_method_83_code 37 = .ok (.ireturn, 1)) rfl ⟨_, rfl, ⟨by simp only [rowV, htn, rix_of (show r < 2 ^ 31 by omega) hi hw], by simp only [altS, htn, rix_of (show r < 2 ^ 31 by omega) hi hw]⟩⟩
  · refine g_if_neN (tgt := 12) (by decide +kernel : decode prog_10_method_83_code 6 = .ok (.ifCond .ne 6, 3)) (by decide) (by decide) (fun h => False.elim (by revert h; decide)) (fun _ => ?_)
    refine g_bipush (v := (-9)) (by decide +kernel : decode prog_10_method_83_code 9 = .ok (.bipush (-9), 2)) (by decide) ?_
    exact g_iret hR (by decide +kernel : decode prog_10_method_83_code 11 = .ok (.ireturn, 1)) rfl ⟨_, rfl, ⟨by simp only [rowV, htn, rix_none (show r < 2 ^ 31 by omega) hno], by simp only [altS, htn, rix_none (show r < 2 ^ 31 by omega) hno]⟩⟩
/-- the rows of one by k years, over what lay there -/
def prF (f : Row) (o : Nat) (R : Row) : Nat → Row
  | 0 => R
  | k + 1 => upd (upd (upd (prF f o R k) (3 * k) (yN 255 f (k + 1) (19 + 6 * o + 3))) (3 * k + 1) (yN 255 f (k + 1) (19 + 6 * o + 4))) (3 * k + 2) (yN 255 f (k + 1) (19 + 6 * o + 5))
theorem mS_u7 (σ : Store) (R a f b : Row) (i : Nat) (v : Int32) : s_up (mS (s_row (s_row σ 7 R) 3 a) f b) 7 i v = mS (s_row (s_row σ 7 (upd R i v)) 3 a) f b := by
  funext k
  unfold mS s_up s_row
  by_cases h : k = 7
  · subst h; rfl
  · simp [h]
theorem mS_u0 (σ : Store) (a f b : Row) (i : Nat) (v : Int32) : s_up (mS (s_row σ 3 a) f b) 0 i v = mS (s_row (s_up σ 0 i v) 3 a) f b := by
  funext k
  unfold mS s_up s_row
  by_cases h : k = 0
  · subst h; rfl
  · simp [h]
def proveV (f : Row) (x y : Int32) : Int32 := match pz f x with
  | none => -1
  | some _ => match rg 1 10 y with
    | none => -1
    | some n => nI n
def proveS (σ : Store) (f : Row) (x y : Int32) : Store := match pz f x with
  | none => σ
  | some o => match rg 1 10 y with
    | none => σ
    | some n => s_up (s_row σ 7 (prF f o (σ 7) n)) 0 14 (nI n)
set_option maxRecDepth 20000 in
theorem p_prove_lp {X : CX} {σ : Store} {f b : Row} (hI : Inv f) {o : Nat} (ho : o < nn f) {n : Nat} (hn : n ≤ 10) : ∀ (b9 k : Nat), k ≤ n → n - k < b9 → Rt (ΛM, mt_Md_prove, 4) (mP (s_up (s_row σ 7 (prF f o (σ 7) n)) 0 14 (nI n)) (nI n) f) X → G (ΛM, mt_Md_prove, 4) X (mS (s_row (s_row σ 7 (prF f o (σ 7) k)) 3 f) (yN 255 f k) (yB 255 f b k)) [some (.ref 0), some (.int (nI o)), some (.int (nI n)), some (.int (nI k))] [] 35 := by
  have hn8 := hI.n.2
  intro b9
  induction b9 with
  | zero => intro k hk hb hR; omega
  | succ b9 ih =>
  intro k hk hb hR
  refine g_iload_n (by decide +kernel : decode prog_10_method_80_code 35 = .ok (.iload_n 3, 1)) rfl ?_
  refine g_iload_n (by decide +kernel : decode prog_10_method_80_code 36 = .ok (.iload_n 2, 1)) rfl ?_
  refine g_icmp_geN (tgt := 99) (by decide +kernel : decode prog_10_method_80_code 37 = .ok (.if_icmp .ge 62, 3)) (by decide) (by omega) (by omega) (fun h37 => ?_) (fun h37 => ?_)
  · refine g_aload_n (by decide +kernel : decode prog_10_method_80_code 99 = .ok (.aload_n 0, 1)) rfl ?_
    refine g_getR (by decide +kernel : decode prog_10_method_80_code 100 = .ok (.getfield 16, 3)) fl_Md_16 rfl rfl ?_
    refine g_aload_n (by decide +kernel : decode prog_10_method_80_code 103 = .ok (.aload_n 0, 1)) rfl ?_
    refine g_getR (by decide +kernel : decode prog_10_method_80_code 104 = .ok (.getfield 7, 3)) fl_Md_7 rfl rfl ?_
    refine g_callSV [.ref 3, .ref 1] (by decide +kernel : decode prog_10_method_80_code 107 = .ok (.invokestatic 141, 3)) lk_Md_141 (m_back (s_row σ 7 (prF f o (σ 7) k)) f (yN 255 f k) (yB 255 f b k)) rfl rfl (Nat.le_of_ble_eq_true rfl) (Nat.le_of_ble_eq_true rfl) (fun s107 h107 => ?_)
    obtain rfl := h107
    refine g_aload_n (by decide +kernel : decode prog_10_method_80_code 110 = .ok (.aload_n 0, 1)) rfl ?_
    refine g_iload_n (by decide +kernel : decode prog_10_method_80_code 111 = .ok (.iload_n 2, 1)) rfl ?_
    refine g_putI (by decide +kernel : decode prog_10_method_80_code 112 = .ok (.putfield 148, 3)) fl_Md_148 rfl rfl ?_
    refine g_sto (mS_u0 _ _ _ _ _ _) ?_
    refine g_iload_n (by decide +kernel : decode prog_10_method_80_code 115 = .ok (.iload_n 2, 1)) rfl ?_
    exact g_iret hR (by decide +kernel : decode prog_10_method_80_code 116 = .ok (.ireturn, 1)) rfl ⟨_, rfl, rfl, ⟨_, _, by rw [show k = n by omega]⟩⟩
  · refine g_aload_n (by decide +kernel : decode prog_10_method_80_code 40 = .ok (.aload_n 0, 1)) rfl ?_
    refine g_sipush (v := nI 255) (by decide +kernel : decode prog_10_method_80_code 41 = .ok (.sipush 255, 3)) (by decide) ?_
    refine g_callVV [.int (nI 255)] (by decide +kernel : decode prog_10_method_80_code 44 = .ok (.invokevirtual 202, 3)) lk_Md_202 ((m_goesBy (s_row (s_row σ 7 (prF f o (σ 7) k)) 3 f) (yN 255 f k) (yB 255 f b k) (yN_inv hI k).1 255 (by omega))) rfl rfl rfl rfl (Nat.le_of_ble_eq_true rfl) (Nat.le_of_ble_eq_true rfl) (fun s44 h44 => ?_)
    obtain rfl := h44
    refine g_sto (σ' := mS (s_row (s_row σ 7 (prF f o (σ 7) k)) 3 f) (yN 255 f (k + 1)) (yB 255 f b (k + 1))) (by rw [yr_1]; rfl) ?_
    refine g_aload_n (by decide +kernel : decode prog_10_method_80_code 47 = .ok (.aload_n 0, 1)) rfl ?_
    refine g_getR (by decide +kernel : decode prog_10_method_80_code 48 = .ok (.getfield 28, 3)) fl_Md_28 rfl rfl ?_
    refine g_iconst (v := nI 3) (by decide +kernel : decode prog_10_method_80_code 51 = .ok (.iconst 3, 1)) (by decide) ?_
    refine g_iload_n (by decide +kernel : decode prog_10_method_80_code 52 = .ok (.iload_n 3, 1)) rfl ?_
    refine g_imulN (by decide +kernel : decode prog_10_method_80_code 53 = .ok (.imul, 1)) ?_
    refine g_aload_n (by decide +kernel : decode prog_10_method_80_code 54 = .ok (.aload_n 0, 1)) rfl ?_
    refine g_iload_n (by decide +kernel : decode prog_10_method_80_code 55 = .ok (.iload_n 1, 1)) rfl ?_
    refine g_iconst (v := nI 3) (by decide +kernel : decode prog_10_method_80_code 56 = .ok (.iconst 3, 1)) (by decide) ?_
    refine g_callVI [.int (nI o), .int (nI 3)] (by decide +kernel : decode prog_10_method_80_code 57 = .ok (.invokevirtual 169, 3)) lk_Md_169 (m_its (mS (s_row (s_row σ 7 (prF f o (σ 7) k)) 3 f) (yN 255 f (k + 1)) (yB 255 f b (k + 1))) o 3 (v := yN 255 f (k + 1) (19 + 6 * o + 3)) rfl (by omega)) rfl rfl rfl rfl (Nat.le_of_ble_eq_true rfl) (Nat.le_of_ble_eq_true rfl) (fun r57 s57 h57 => ?_)
    obtain ⟨rfl, rfl⟩ := h57
    refine g_iastore (a := 3 * k) (by decide +kernel : decode prog_10_method_80_code 60 = .ok (.iastore, 1)) rfl rfl (by omega) (by decide) ?_
    refine g_sto (mS_u7 _ _ _ _ _ _ _) ?_
    refine g_aload_n (by decide +kernel : decode prog_10_method_80_code 61 = .ok (.aload_n 0, 1)) rfl ?_
    refine g_getR (by decide +kernel : decode prog_10_method_80_code 62 = .ok (.getfield 28, 3)) fl_Md_28 rfl rfl ?_
    refine g_iconst (v := nI 3) (by decide +kernel : decode prog_10_method_80_code 65 = .ok (.iconst 3, 1)) (by decide) ?_
    refine g_iload_n (by decide +kernel : decode prog_10_method_80_code 66 = .ok (.iload_n 3, 1)) rfl ?_
    refine g_imulN (by decide +kernel : decode prog_10_method_80_code 67 = .ok (.imul, 1)) ?_
    refine g_iconst (v := nI 1) (by decide +kernel : decode prog_10_method_80_code 68 = .ok (.iconst 1, 1)) (by decide) ?_
    refine g_iaddN (by decide +kernel : decode prog_10_method_80_code 69 = .ok (.iadd, 1)) ?_
    refine g_aload_n (by decide +kernel : decode prog_10_method_80_code 70 = .ok (.aload_n 0, 1)) rfl ?_
    refine g_iload_n (by decide +kernel : decode prog_10_method_80_code 71 = .ok (.iload_n 1, 1)) rfl ?_
    refine g_iconst (v := nI 4) (by decide +kernel : decode prog_10_method_80_code 72 = .ok (.iconst 4, 1)) (by decide) ?_
    refine g_callVI [.int (nI o), .int (nI 4)] (by decide +kernel : decode prog_10_method_80_code 73 = .ok (.invokevirtual 169, 3)) lk_Md_169 (m_its (mS (s_row (s_row σ 7 (upd (prF f o (σ 7) k) (3 * k) (yN 255 f (k + 1) (19 + 6 * o + 3)))) 3 f) (yN 255 f (k + 1)) (yB 255 f b (k + 1))) o 4 (v := yN 255 f (k + 1) (19 + 6 * o + 4)) rfl (by omega)) rfl rfl rfl rfl (Nat.le_of_ble_eq_true rfl) (Nat.le_of_ble_eq_true rfl) (fun r73 s73 h73 => ?_)
    obtain ⟨rfl, rfl⟩ := h73
    refine g_iastore (a := 3 * k + 1) (by decide +kernel : decode prog_10_method_80_code 76 = .ok (.iastore, 1)) rfl rfl (by omega) (by decide) ?_
    refine g_sto (mS_u7 _ _ _ _ _ _ _) ?_
    refine g_aload_n (by decide +kernel : decode prog_10_method_80_code 77 = .ok (.aload_n 0, 1)) rfl ?_
    refine g_getR (by decide +kernel : decode prog_10_method_80_code 78 = .ok (.getfield 28, 3)) fl_Md_28 rfl rfl ?_
    refine g_iconst (v := nI 3) (by decide +kernel : decode prog_10_method_80_code 81 = .ok (.iconst 3, 1)) (by decide) ?_
    refine g_iload_n (by decide +kernel : decode prog_10_method_80_code 82 = .ok (.iload_n 3, 1)) rfl ?_
    refine g_imulN (by decide +kernel : decode prog_10_method_80_code 83 = .ok (.imul, 1)) ?_
    refine g_iconst (v := nI 2) (by decide +kernel : decode prog_10_method_80_code 84 = .ok (.iconst 2, 1)) (by decide) ?_
    refine g_iaddN (by decide +kernel : decode prog_10_method_80_code 85 = .ok (.iadd, 1)) ?_
    refine g_aload_n (by decide +kernel : decode prog_10_method_80_code 86 = .ok (.aload_n 0, 1)) rfl ?_
    refine g_iload_n (by decide +kernel : decode prog_10_method_80_code 87 = .ok (.iload_n 1, 1)) rfl ?_
    refine g_iconst (v := nI 5) (by decide +kernel : decode prog_10_method_80_code 88 = .ok (.iconst 5, 1)) (by decide) ?_
    refine g_callVI [.int (nI o), .int (nI 5)] (by decide +kernel : decode prog_10_method_80_code 89 = .ok (.invokevirtual 169, 3)) lk_Md_169 (m_its (mS (s_row (s_row σ 7 (upd (upd (prF f o (σ 7) k) (3 * k) (yN 255 f (k + 1) (19 + 6 * o + 3))) (3 * k + 1) (yN 255 f (k + 1) (19 + 6 * o + 4)))) 3 f) (yN 255 f (k + 1)) (yB 255 f b (k + 1))) o 5 (v := yN 255 f (k + 1) (19 + 6 * o + 5)) rfl (by omega)) rfl rfl rfl rfl (Nat.le_of_ble_eq_true rfl) (Nat.le_of_ble_eq_true rfl) (fun r89 s89 h89 => ?_)
    obtain ⟨rfl, rfl⟩ := h89
    refine g_iastore (a := 3 * k + 2) (by decide +kernel : decode prog_10_method_80_code 92 = .ok (.iastore, 1)) rfl rfl (by omega) (by decide) ?_
    refine g_sto (mS_u7 _ _ _ _ _ _ _) ?_
    refine g_iincN (n := 1) (L' := [some (.ref 0), some (.int (nI o)), some (.int (nI n)), some (.int (nI (k + 1)))]) (by decide +kernel : decode prog_10_method_80_code 93 = .ok (.iinc 3 1, 3)) rfl (by decide) (Nat.le_of_ble_eq_true rfl) rfl ?_
    refine g_goto (tgt := 35) (by decide +kernel : decode prog_10_method_80_code 96 = .ok (.goto (-61), 3)) (by decide) ?_
    exact ih (k + 1) (by omega) (by omega) hR
set_option maxRecDepth 20000 in
theorem p_prove (σ : Store) (f b : Row) (hI : Inv f) (x y : Int32) : Ct ΛM mt_Md_prove 4 [.ref 0, .int x, .int y] (mS σ f b) (mP (proveS σ f x y) (proveV f x y) f) := by
  refine Ct.of (by decide) (Nat.le_of_ble_eq_true rfl) (fun X hR => ?_)
  show G (ΛM, mt_Md_prove, 4) X (mS σ f b) [some (.ref 0), some (.int x), some (.int y), none] [] 0
  have hn8 := hI.n.2
  refine g_aload_n (by decide +kernel : decode prog_10_method_80_code 0 = .ok (.aload_n 0, 1)) rfl ?_
  refine g_iload_n (by decide +kernel : decode prog_10_method_80_code 1 = .ok (.iload_n 1, 1)) rfl ?_
  refine g_callVI [.int x] (by decide +kernel : decode prog_10_method_80_code 2 = .ok (.invokevirtual 172, 3)) lk_Md_172 (m_isOne (mS σ f b) x hI.n.1 (by omega)) rfl rfl rfl rfl (Nat.le_of_ble_eq_true rfl) (Nat.le_of_ble_eq_true rfl) (fun r2 s2 h2 => ?_)
  rcases h2 with ⟨rfl, ⟨rfl, o, ho2, rfl⟩ | ⟨rfl, n2⟩⟩
  · refine g_if_eqN (tgt := 20) (by decide +kernel : decode prog_10_method_80_code 5 = .ok (.ifCond .eq 15, 3)) (by decide) (by decide) (fun h => False.elim (by revert h; decide)) (fun _ => ?_)
    refine g_iload_n (by decide +kernel : decode prog_10_method_80_code 8 = .ok (.iload_n 2, 1)) rfl ?_
    refine g_i2l (by decide +kernel : decode prog_10_method_80_code 9 = .ok (.i2l, 1)) ?_
    refine g_lconst (v := lN 1) (by decide +kernel : decode prog_10_method_80_code 10 = .ok (.lconst 1, 1)) (by decide) ?_
    refine g_ldc2 (v := lN 10) (by decide +kernel : decode prog_10_method_80_code 11 = .ok (.ldc2_w 258, 3)) kc_Md_258 ?_
    refine g_callSI [.long (Int32.toInt64 y), .long (lN 1), .long (lN 10)] (by decide +kernel : decode prog_10_method_80_code 14 = .ok (.invokestatic 57, 3)) lk_Md_57 (m_isInN ΛM (mS σ f b) y 1 10) rfl rfl (Nat.le_of_ble_eq_true rfl) (Nat.le_of_ble_eq_true rfl) (fun r14 s14 h14 => ?_)
    rcases h14 with ⟨rfl, ⟨rfl, n, ha14, hb14, rfl⟩ | ⟨rfl, n14⟩⟩
    · refine g_if_neN (tgt := 22) (by decide +kernel : decode prog_10_method_80_code 17 = .ok (.ifCond .ne 5, 3)) (by decide) (by decide) (fun _ => ?_) (fun h => False.elim (by revert h; decide))
      refine g_aload_n (by decide +kernel : decode prog_10_method_80_code 22 = .ok (.aload_n 0, 1)) rfl ?_
      refine g_getR (by decide +kernel : decode prog_10_method_80_code 23 = .ok (.getfield 7, 3)) fl_Md_7 rfl rfl ?_
      refine g_aload_n (by decide +kernel : decode prog_10_method_80_code 26 = .ok (.aload_n 0, 1)) rfl ?_
      refine g_getR (by decide +kernel : decode prog_10_method_80_code 27 = .ok (.getfield 16, 3)) fl_Md_16 rfl rfl ?_
      refine g_callSV [.ref 1, .ref 3] (by decide +kernel : decode prog_10_method_80_code 30 = .ok (.invokestatic 141, 3)) lk_Md_141 (m_aside σ f b) rfl rfl (Nat.le_of_ble_eq_true rfl) (Nat.le_of_ble_eq_true rfl) (fun s30 h30 => ?_)
      obtain rfl := h30
      refine g_iconst (v := nI 0) (by decide +kernel : decode prog_10_method_80_code 33 = .ok (.iconst 0, 1)) (by decide) ?_
      refine g_istore_n (L' := [some (.ref 0), some (.int (nI o)), some (.int (nI n)), some (.int (nI 0))]) (by decide +kernel : decode prog_10_method_80_code 34 = .ok (.istore_n 3, 1)) (Nat.le_of_ble_eq_true rfl) rfl ?_
      refine g_sto (σ' := mS (s_row (s_row σ 7 (prF f o (σ 7) 0)) 3 f) f b) (by rw [show prF f o (σ 7) 0 = σ 7 from rfl, s_row_self]) ?_
      exact p_prove_lp hI ho2 (by omega) (n + 1) 0 (Nat.zero_le _) (by omega) (by simpa only [proveV, proveS, pz_of hI ho2, rg_of ha14 hb14] using hR)
    · refine g_if_neN (tgt := 22) (by decide +kernel : decode prog_10_method_80_code 17 = .ok (.ifCond .ne 5, 3)) (by decide) (by decide) (fun h => False.elim (by revert h; decide)) (fun _ => ?_)
      refine g_iconst (v := (-1)) (by decide +kernel : decode prog_10_method_80_code 20 = .ok (.iconst (-1), 1)) (by decide) ?_
      exact g_iret hR (by decide +kernel : decode prog_10_method_80_code 21 = .ok (.ireturn, 1)) rfl ⟨_, rfl, ⟨by simp only [proveV, pz_of hI ho2, rg_none n14], by simp only [proveS, pz_of hI ho2, rg_none n14]; exact Jk.self _ _ _⟩⟩
  · refine g_if_eqN (tgt := 20) (by decide +kernel : decode prog_10_method_80_code 5 = .ok (.ifCond .eq 15, 3)) (by decide) (by decide) (fun _ => ?_) (fun h => False.elim (by revert h; decide))
    refine g_iconst (v := (-1)) (by decide +kernel : decode prog_10_method_80_code 20 = .ok (.iconst (-1), 1)) (by decide) ?_
    exact g_iret hR (by decide +kernel : decode prog_10_method_80_code 21 = .ok (.ireturn, 1)) rfl ⟨_, rfl, ⟨by simp only [proveV, pz_none hI n2], by simp only [proveS, pz_none hI n2]; exact Jk.self _ _ _⟩⟩
/-- the first row that isn't right, and 1 more; 0: all are -/
def jdF (f : Row) (o : Nat) (R : Row) : Nat → Nat → Nat
  | 0, _ => 0
  | j + 1, k => if R (3 * k) = yN 255 f (k + 1) (19 + 6 * o + 3) ∧ R (3 * k + 1) = yN 255 f (k + 1) (19 + 6 * o + 4) ∧ R (3 * k + 2) = yN 255 f (k + 1) (19 + 6 * o + 5) then jdF f o R j (k + 1) else k + 1
theorem jd_yes {f R : Row} {o r k : Nat} (hk : k < r) (h : R (3 * k) = yN 255 f (k + 1) (19 + 6 * o + 3) ∧ R (3 * k + 1) = yN 255 f (k + 1) (19 + 6 * o + 4) ∧ R (3 * k + 2) = yN 255 f (k + 1) (19 + 6 * o + 5)) : jdF f o R (r - k) k = jdF f o R (r - (k + 1)) (k + 1) := by
  rw [show r - k = (r - (k + 1)) + 1 by omega]
  show (if _ then _ else _) = _
  rw [if_pos h]
theorem jd_no {f R : Row} {o r k : Nat} (hk : k < r) (h : ¬ (R (3 * k) = yN 255 f (k + 1) (19 + 6 * o + 3) ∧ R (3 * k + 1) = yN 255 f (k + 1) (19 + 6 * o + 4) ∧ R (3 * k + 2) = yN 255 f (k + 1) (19 + 6 * o + 5))) : jdF f o R (r - k) k = k + 1 := by
  rw [show r - k = (r - (k + 1)) + 1 by omega]
  show (if _ then _ else _) = _
  rw [if_neg h]
def judgeV (σ : Store) (f : Row) (x : Int32) : Int32 := match pz f x with
  | none => -1
  | some o => nI (jdF f o (σ 7) (tn (σ 0 14)) 0)
set_option maxRecDepth 20000 in
theorem p_judge_lp {X : CX} {σ : Store} {f b : Row} (hI : Inv f) {o : Nat} (ho : o < nn f) {r t : Nat} (hr : σ 0 14 = nI r) (hr10 : r ≤ 10) : ∀ (b9 k : Nat), k ≤ r → r - k < b9 → jdF f o (σ 7) (r - k) k = t → Rt (ΛM, mt_Md_judge, 4) (mP σ (nI t) f) X → G (ΛM, mt_Md_judge, 4) X (mS (s_row σ 3 f) (yN 255 f k) (yB 255 f b k)) [some (.ref 0), some (.int (nI o)), some (.int (nI k)), some (.int (nI 1))] [] 25 := by
  have hn8 := hI.n.2
  intro b9
  induction b9 with
  | zero => intro k hk hb ht hR; omega
  | succ b9 ih =>
  intro k hk hb ht hR
  refine g_iload_n (by decide +kernel : decode prog_10_method_84_code 25 = .ok (.iload_n 2, 1)) rfl ?_
  refine g_aload_n (by decide +kernel : decode prog_10_method_84_code 26 = .ok (.aload_n 0, 1)) rfl ?_
  refine g_getI (by decide +kernel : decode prog_10_method_84_code 27 = .ok (.getfield 148, 3)) fl_Md_148.get rfl rfl ?_
  refine g_top (w := nI r) (hr) ?_
  refine g_icmp_geN (tgt := 111) (by decide +kernel : decode prog_10_method_84_code 30 = .ok (.if_icmp .ge 81, 3)) (by decide) (by omega) (by omega) (fun h30 => ?_) (fun h30 => ?_)
  · refine g_aload_n (by decide +kernel : decode prog_10_method_84_code 111 = .ok (.aload_n 0, 1)) rfl ?_
    refine g_getR (by decide +kernel : decode prog_10_method_84_code 112 = .ok (.getfield 16, 3)) fl_Md_16 rfl rfl ?_
    refine g_aload_n (by decide +kernel : decode prog_10_method_84_code 115 = .ok (.aload_n 0, 1)) rfl ?_
    refine g_getR (by decide +kernel : decode prog_10_method_84_code 116 = .ok (.getfield 7, 3)) fl_Md_7 rfl rfl ?_
    refine g_callSV [.ref 3, .ref 1] (by decide +kernel : decode prog_10_method_84_code 119 = .ok (.invokestatic 141, 3)) lk_Md_141 (m_back σ f (yN 255 f k) (yB 255 f b k)) rfl rfl (Nat.le_of_ble_eq_true rfl) (Nat.le_of_ble_eq_true rfl) (fun s119 h119 => ?_)
    obtain rfl := h119
    refine g_iload_n (by decide +kernel : decode prog_10_method_84_code 122 = .ok (.iload_n 3, 1)) rfl ?_
    refine g_if_eqN (tgt := 130) (by decide +kernel : decode prog_10_method_84_code 123 = .ok (.ifCond .eq 7, 3)) (by decide) (by decide) (fun h => False.elim (by revert h; decide)) (fun _ => ?_)
    refine g_iconst (v := nI 0) (by decide +kernel : decode prog_10_method_84_code 126 = .ok (.iconst 0, 1)) (by decide) ?_
    refine g_goto (tgt := 131) (by decide +kernel : decode prog_10_method_84_code 127 = .ok (.goto 4, 3)) (by decide) ?_
    exact g_iret hR (by decide +kernel : decode prog_10_method_84_code 131 = .ok (.ireturn, 1)) rfl ⟨_, rfl, ⟨by rw [← ht, show r - k = 0 by omega]; rfl, ⟨_, _, rfl⟩⟩⟩
  · refine g_iload_n (by decide +kernel : decode prog_10_method_84_code 33 = .ok (.iload_n 3, 1)) rfl ?_
    refine g_if_eqN (tgt := 111) (by decide +kernel : decode prog_10_method_84_code 34 = .ok (.ifCond .eq 77, 3)) (by decide) (by decide) (fun h => False.elim (by revert h; decide)) (fun _ => ?_)
    refine g_aload_n (by decide +kernel : decode prog_10_method_84_code 37 = .ok (.aload_n 0, 1)) rfl ?_
    refine g_sipush (v := nI 255) (by decide +kernel : decode prog_10_method_84_code 38 = .ok (.sipush 255, 3)) (by decide) ?_
    refine g_callVV [.int (nI 255)] (by decide +kernel : decode prog_10_method_84_code 41 = .ok (.invokevirtual 202, 3)) lk_Md_202 ((m_goesBy (s_row σ 3 f) (yN 255 f k) (yB 255 f b k) (yN_inv hI k).1 255 (by omega))) rfl rfl rfl rfl (Nat.le_of_ble_eq_true rfl) (Nat.le_of_ble_eq_true rfl) (fun s41 h41 => ?_)
    obtain rfl := h41
    refine g_sto (σ' := mS (s_row σ 3 f) (yN 255 f (k + 1)) (yB 255 f b (k + 1))) (by rw [yr_1]; rfl) ?_
    refine g_aload_n (by decide +kernel : decode prog_10_method_84_code 44 = .ok (.aload_n 0, 1)) rfl ?_
    refine g_getR (by decide +kernel : decode prog_10_method_84_code 45 = .ok (.getfield 28, 3)) fl_Md_28 rfl rfl ?_
    refine g_iconst (v := nI 3) (by decide +kernel : decode prog_10_method_84_code 48 = .ok (.iconst 3, 1)) (by decide) ?_
    refine g_iload_n (by decide +kernel : decode prog_10_method_84_code 49 = .ok (.iload_n 2, 1)) rfl ?_
    refine g_imulN (by decide +kernel : decode prog_10_method_84_code 50 = .ok (.imul, 1)) ?_
    refine g_iaload (a := 3 * k) (by decide +kernel : decode prog_10_method_84_code 51 = .ok (.iaload, 1)) rfl rfl (by omega) (by decide) ?_
    refine g_top (w := σ 7 (3 * k)) (rfl) ?_
    refine g_aload_n (by decide +kernel : decode prog_10_method_84_code 52 = .ok (.aload_n 0, 1)) rfl ?_
    refine g_iload_n (by decide +kernel : decode prog_10_method_84_code 53 = .ok (.iload_n 1, 1)) rfl ?_
    refine g_iconst (v := nI 3) (by decide +kernel : decode prog_10_method_84_code 54 = .ok (.iconst 3, 1)) (by decide) ?_
    refine g_callVI [.int (nI o), .int (nI 3)] (by decide +kernel : decode prog_10_method_84_code 55 = .ok (.invokevirtual 169, 3)) lk_Md_169 (m_its (mS (s_row σ 3 f) (yN 255 f (k + 1)) (yB 255 f b (k + 1))) o 3 (v := yN 255 f (k + 1) (19 + 6 * o + 3)) rfl (by omega)) rfl rfl rfl rfl (Nat.le_of_ble_eq_true rfl) (Nat.le_of_ble_eq_true rfl) (fun r55 s55 h55 => ?_)
    obtain ⟨rfl, rfl⟩ := h55
    refine g_icmp_ne (tgt := 103) (by decide +kernel : decode prog_10_method_84_code 58 = .ok (.if_icmp .ne 45, 3)) (by decide) (fun h58 => ?_) (fun h58 => ?_)
    · refine g_iconst (v := nI 0) (by decide +kernel : decode prog_10_method_84_code 103 = .ok (.iconst 0, 1)) (by decide) ?_
      refine g_istore_n (L' := [some (.ref 0), some (.int (nI o)), some (.int (nI k)), some (.int (nI 0))]) (by decide +kernel : decode prog_10_method_84_code 104 = .ok (.istore_n 3, 1)) (Nat.le_of_ble_eq_true rfl) rfl ?_
      refine g_iincN (n := 1) (L' := [some (.ref 0), some (.int (nI o)), some (.int (nI (k + 1))), some (.int (nI 0))]) (by decide +kernel : decode prog_10_method_84_code 105 = .ok (.iinc 2 1, 3)) rfl (by decide) (Nat.le_of_ble_eq_true rfl) rfl ?_
      refine g_goto (tgt := 25) (by decide +kernel : decode prog_10_method_84_code 108 = .ok (.goto (-83), 3)) (by decide) ?_
      refine g_iload_n (by decide +kernel : decode prog_10_method_84_code 25 = .ok (.iload_n 2, 1)) rfl ?_
      refine g_aload_n (by decide +kernel : decode prog_10_method_84_code 26 = .ok (.aload_n 0, 1)) rfl ?_
      refine g_getI (by decide +kernel : decode prog_10_method_84_code 27 = .ok (.getfield 148, 3)) fl_Md_148.get rfl rfl ?_
      refine g_top (w := nI r) (hr) ?_
      refine g_icmp_geN (tgt := 111) (by decide +kernel : decode prog_10_method_84_code 30 = .ok (.if_icmp .ge 81, 3)) (by decide) (by omega) (by omega) (fun h30 => ?_) (fun h30 => ?_)
      · refine g_aload_n (by decide +kernel : decode prog_10_method_84_code 111 = .ok (.aload_n 0, 1)) rfl ?_
        refine g_getR (by decide +kernel : decode prog_10_method_84_code 112 = .ok (.getfield 16, 3)) fl_Md_16 rfl rfl ?_
        refine g_aload_n (by decide +kernel : decode prog_10_method_84_code 115 = .ok (.aload_n 0, 1)) rfl ?_
        refine g_getR (by decide +kernel : decode prog_10_method_84_code 116 = .ok (.getfield 7, 3)) fl_Md_7 rfl rfl ?_
        refine g_callSV [.ref 3, .ref 1] (by decide +kernel : decode prog_10_method_84_code 119 = .ok (.invokestatic 141, 3)) lk_Md_141 (m_back σ f (yN 255 f (k + 1)) (yB 255 f b (k + 1))) rfl rfl (Nat.le_of_ble_eq_true rfl) (Nat.le_of_ble_eq_true rfl) (fun s119 h119 => ?_)
        obtain rfl := h119
        refine g_iload_n (by decide +kernel : decode prog_10_method_84_code 122 = .ok (.iload_n 3, 1)) rfl ?_
        refine g_if_eqN (tgt := 130) (by decide +kernel : decode prog_10_method_84_code 123 = .ok (.ifCond .eq 7, 3)) (by decide) (by decide) (fun _ => ?_) (fun h => False.elim (by revert h; decide))
        refine g_iload_n (by decide +kernel : decode prog_10_method_84_code 130 = .ok (.iload_n 2, 1)) rfl ?_
        exact g_iret hR (by decide +kernel : decode prog_10_method_84_code 131 = .ok (.ireturn, 1)) rfl ⟨_, rfl, ⟨by rw [← ht, jd_no (by omega) (fun z => h58 z.1)], ⟨_, _, rfl⟩⟩⟩
      · refine g_iload_n (by decide +kernel : decode prog_10_method_84_code 33 = .ok (.iload_n 3, 1)) rfl ?_
        refine g_if_eqN (tgt := 111) (by decide +kernel : decode prog_10_method_84_code 34 = .ok (.ifCond .eq 77, 3)) (by decide) (by decide) (fun _ => ?_) (fun h => False.elim (by revert h; decide))
        refine g_aload_n (by decide +kernel : decode prog_10_method_84_code 111 = .ok (.aload_n 0, 1)) rfl ?_
        refine g_getR (by decide +kernel : decode prog_10_method_84_code 112 = .ok (.getfield 16, 3)) fl_Md_16 rfl rfl ?_
        refine g_aload_n (by decide +kernel : decode prog_10_method_84_code 115 = .ok (.aload_n 0, 1)) rfl ?_
        refine g_getR (by decide +kernel : decode prog_10_method_84_code 116 = .ok (.getfield 7, 3)) fl_Md_7 rfl rfl ?_
        refine g_callSV [.ref 3, .ref 1] (by decide +kernel : decode prog_10_method_84_code 119 = .ok (.invokestatic 141, 3)) lk_Md_141 (m_back σ f (yN 255 f (k + 1)) (yB 255 f b (k + 1))) rfl rfl (Nat.le_of_ble_eq_true rfl) (Nat.le_of_ble_eq_true rfl) (fun s119 h119 => ?_)
        obtain rfl := h119
        refine g_iload_n (by decide +kernel : decode prog_10_method_84_code 122 = .ok (.iload_n 3, 1)) rfl ?_
        refine g_if_eqN (tgt := 130) (by decide +kernel : decode prog_10_method_84_code 123 = .ok (.ifCond .eq 7, 3)) (by decide) (by decide) (fun _ => ?_) (fun h => False.elim (by revert h; decide))
        refine g_iload_n (by decide +kernel : decode prog_10_method_84_code 130 = .ok (.iload_n 2, 1)) rfl ?_
        exact g_iret hR (by decide +kernel : decode prog_10_method_84_code 131 = .ok (.ireturn, 1)) rfl ⟨_, rfl, ⟨by rw [← ht, jd_no (by omega) (fun z => h58 z.1)], ⟨_, _, rfl⟩⟩⟩
    · refine g_aload_n (by decide +kernel : decode prog_10_method_84_code 61 = .ok (.aload_n 0, 1)) rfl ?_
      refine g_getR (by decide +kernel : decode prog_10_method_84_code 62 = .ok (.getfield 28, 3)) fl_Md_28 rfl rfl ?_
      refine g_iconst (v := nI 3) (by decide +kernel : decode prog_10_method_84_code 65 = .ok (.iconst 3, 1)) (by decide) ?_
      refine g_iload_n (by decide +kernel : decode prog_10_method_84_code 66 = .ok (.iload_n 2, 1)) rfl ?_
      refine g_imulN (by decide +kernel : decode prog_10_method_84_code 67 = .ok (.imul, 1)) ?_
      refine g_iconst (v := nI 1) (by decide +kernel : decode prog_10_method_84_code 68 = .ok (.iconst 1, 1)) (by decide) ?_
      refine g_iaddN (by decide +kernel : decode prog_10_method_84_code 69 = .ok (.iadd, 1)) ?_
      refine g_iaload (a := 3 * k + 1) (by decide +kernel : decode prog_10_method_84_code 70 = .ok (.iaload, 1)) rfl rfl (by omega) (by decide) ?_
      refine g_top (w := σ 7 (3 * k + 1)) (rfl) ?_
      refine g_aload_n (by decide +kernel : decode prog_10_method_84_code 71 = .ok (.aload_n 0, 1)) rfl ?_
      refine g_iload_n (by decide +kernel : decode prog_10_method_84_code 72 = .ok (.iload_n 1, 1)) rfl ?_
      refine g_iconst (v := nI 4) (by decide +kernel : decode prog_10_method_84_code 73 = .ok (.iconst 4, 1)) (by decide) ?_
      refine g_callVI [.int (nI o), .int (nI 4)] (by decide +kernel : decode prog_10_method_84_code 74 = .ok (.invokevirtual 169, 3)) lk_Md_169 (m_its (mS (s_row σ 3 f) (yN 255 f (k + 1)) (yB 255 f b (k + 1))) o 4 (v := yN 255 f (k + 1) (19 + 6 * o + 4)) rfl (by omega)) rfl rfl rfl rfl (Nat.le_of_ble_eq_true rfl) (Nat.le_of_ble_eq_true rfl) (fun r74 s74 h74 => ?_)
      obtain ⟨rfl, rfl⟩ := h74
      refine g_icmp_ne (tgt := 103) (by decide +kernel : decode prog_10_method_84_code 77 = .ok (.if_icmp .ne 26, 3)) (by decide) (fun h77 => ?_) (fun h77 => ?_)
      · refine g_iconst (v := nI 0) (by decide +kernel : decode prog_10_method_84_code 103 = .ok (.iconst 0, 1)) (by decide) ?_
        refine g_istore_n (L' := [some (.ref 0), some (.int (nI o)), some (.int (nI k)), some (.int (nI 0))]) (by decide +kernel : decode prog_10_method_84_code 104 = .ok (.istore_n 3, 1)) (Nat.le_of_ble_eq_true rfl) rfl ?_
        refine g_iincN (n := 1) (L' := [some (.ref 0), some (.int (nI o)), some (.int (nI (k + 1))), some (.int (nI 0))]) (by decide +kernel : decode prog_10_method_84_code 105 = .ok (.iinc 2 1, 3)) rfl (by decide) (Nat.le_of_ble_eq_true rfl) rfl ?_
        refine g_goto (tgt := 25) (by decide +kernel : decode prog_10_method_84_code 108 = .ok (.goto (-83), 3)) (by decide) ?_
        refine g_iload_n (by decide +kernel : decode prog_10_method_84_code 25 = .ok (.iload_n 2, 1)) rfl ?_
        refine g_aload_n (by decide +kernel : decode prog_10_method_84_code 26 = .ok (.aload_n 0, 1)) rfl ?_
        refine g_getI (by decide +kernel : decode prog_10_method_84_code 27 = .ok (.getfield 148, 3)) fl_Md_148.get rfl rfl ?_
        refine g_top (w := nI r) (hr) ?_
        refine g_icmp_geN (tgt := 111) (by decide +kernel : decode prog_10_method_84_code 30 = .ok (.if_icmp .ge 81, 3)) (by decide) (by omega) (by omega) (fun h30 => ?_) (fun h30 => ?_)
        · refine g_aload_n (by decide +kernel : decode prog_10_method_84_code 111 = .ok (.aload_n 0, 1)) rfl ?_
          refine g_getR (by decide +kernel : decode prog_10_method_84_code 112 = .ok (.getfield 16, 3)) fl_Md_16 rfl rfl ?_
          refine g_aload_n (by decide +kernel : decode prog_10_method_84_code 115 = .ok (.aload_n 0, 1)) rfl ?_
          refine g_getR (by decide +kernel : decode prog_10_method_84_code 116 = .ok (.getfield 7, 3)) fl_Md_7 rfl rfl ?_
          refine g_callSV [.ref 3, .ref 1] (by decide +kernel : decode prog_10_method_84_code 119 = .ok (.invokestatic 141, 3)) lk_Md_141 (m_back σ f (yN 255 f (k + 1)) (yB 255 f b (k + 1))) rfl rfl (Nat.le_of_ble_eq_true rfl) (Nat.le_of_ble_eq_true rfl) (fun s119 h119 => ?_)
          obtain rfl := h119
          refine g_iload_n (by decide +kernel : decode prog_10_method_84_code 122 = .ok (.iload_n 3, 1)) rfl ?_
          refine g_if_eqN (tgt := 130) (by decide +kernel : decode prog_10_method_84_code 123 = .ok (.ifCond .eq 7, 3)) (by decide) (by decide) (fun _ => ?_) (fun h => False.elim (by revert h; decide))
          refine g_iload_n (by decide +kernel : decode prog_10_method_84_code 130 = .ok (.iload_n 2, 1)) rfl ?_
          exact g_iret hR (by decide +kernel : decode prog_10_method_84_code 131 = .ok (.ireturn, 1)) rfl ⟨_, rfl, ⟨by rw [← ht, jd_no (by omega) (fun z => h77 z.2.1)], ⟨_, _, rfl⟩⟩⟩
        · refine g_iload_n (by decide +kernel : decode prog_10_method_84_code 33 = .ok (.iload_n 3, 1)) rfl ?_
          refine g_if_eqN (tgt := 111) (by decide +kernel : decode prog_10_method_84_code 34 = .ok (.ifCond .eq 77, 3)) (by decide) (by decide) (fun _ => ?_) (fun h => False.elim (by revert h; decide))
          refine g_aload_n (by decide +kernel : decode prog_10_method_84_code 111 = .ok (.aload_n 0, 1)) rfl ?_
          refine g_getR (by decide +kernel : decode prog_10_method_84_code 112 = .ok (.getfield 16, 3)) fl_Md_16 rfl rfl ?_
          refine g_aload_n (by decide +kernel : decode prog_10_method_84_code 115 = .ok (.aload_n 0, 1)) rfl ?_
          refine g_getR (by decide +kernel : decode prog_10_method_84_code 116 = .ok (.getfield 7, 3)) fl_Md_7 rfl rfl ?_
          refine g_callSV [.ref 3, .ref 1] (by decide +kernel : decode prog_10_method_84_code 119 = .ok (.invokestatic 141, 3)) lk_Md_141 (m_back σ f (yN 255 f (k + 1)) (yB 255 f b (k + 1))) rfl rfl (Nat.le_of_ble_eq_true rfl) (Nat.le_of_ble_eq_true rfl) (fun s119 h119 => ?_)
          obtain rfl := h119
          refine g_iload_n (by decide +kernel : decode prog_10_method_84_code 122 = .ok (.iload_n 3, 1)) rfl ?_
          refine g_if_eqN (tgt := 130) (by decide +kernel : decode prog_10_method_84_code 123 = .ok (.ifCond .eq 7, 3)) (by decide) (by decide) (fun _ => ?_) (fun h => False.elim (by revert h; decide))
          refine g_iload_n (by decide +kernel : decode prog_10_method_84_code 130 = .ok (.iload_n 2, 1)) rfl ?_
          exact g_iret hR (by decide +kernel : decode prog_10_method_84_code 131 = .ok (.ireturn, 1)) rfl ⟨_, rfl, ⟨by rw [← ht, jd_no (by omega) (fun z => h77 z.2.1)], ⟨_, _, rfl⟩⟩⟩
      · refine g_aload_n (by decide +kernel : decode prog_10_method_84_code 80 = .ok (.aload_n 0, 1)) rfl ?_
        refine g_getR (by decide +kernel : decode prog_10_method_84_code 81 = .ok (.getfield 28, 3)) fl_Md_28 rfl rfl ?_
        refine g_iconst (v := nI 3) (by decide +kernel : decode prog_10_method_84_code 84 = .ok (.iconst 3, 1)) (by decide) ?_
        refine g_iload_n (by decide +kernel : decode prog_10_method_84_code 85 = .ok (.iload_n 2, 1)) rfl ?_
        refine g_imulN (by decide +kernel : decode prog_10_method_84_code 86 = .ok (.imul, 1)) ?_
        refine g_iconst (v := nI 2) (by decide +kernel : decode prog_10_method_84_code 87 = .ok (.iconst 2, 1)) (by decide) ?_
        refine g_iaddN (by decide +kernel : decode prog_10_method_84_code 88 = .ok (.iadd, 1)) ?_
        refine g_iaload (a := 3 * k + 2) (by decide +kernel : decode prog_10_method_84_code 89 = .ok (.iaload, 1)) rfl rfl (by omega) (by decide) ?_
        refine g_top (w := σ 7 (3 * k + 2)) (rfl) ?_
        refine g_aload_n (by decide +kernel : decode prog_10_method_84_code 90 = .ok (.aload_n 0, 1)) rfl ?_
        refine g_iload_n (by decide +kernel : decode prog_10_method_84_code 91 = .ok (.iload_n 1, 1)) rfl ?_
        refine g_iconst (v := nI 5) (by decide +kernel : decode prog_10_method_84_code 92 = .ok (.iconst 5, 1)) (by decide) ?_
        refine g_callVI [.int (nI o), .int (nI 5)] (by decide +kernel : decode prog_10_method_84_code 93 = .ok (.invokevirtual 169, 3)) lk_Md_169 (m_its (mS (s_row σ 3 f) (yN 255 f (k + 1)) (yB 255 f b (k + 1))) o 5 (v := yN 255 f (k + 1) (19 + 6 * o + 5)) rfl (by omega)) rfl rfl rfl rfl (Nat.le_of_ble_eq_true rfl) (Nat.le_of_ble_eq_true rfl) (fun r93 s93 h93 => ?_)
        obtain ⟨rfl, rfl⟩ := h93
        refine g_icmp_ne (tgt := 103) (by decide +kernel : decode prog_10_method_84_code 96 = .ok (.if_icmp .ne 7, 3)) (by decide) (fun h96 => ?_) (fun h96 => ?_)
        · refine g_iconst (v := nI 0) (by decide +kernel : decode prog_10_method_84_code 103 = .ok (.iconst 0, 1)) (by decide) ?_
          refine g_istore_n (L' := [some (.ref 0), some (.int (nI o)), some (.int (nI k)), some (.int (nI 0))]) (by decide +kernel : decode prog_10_method_84_code 104 = .ok (.istore_n 3, 1)) (Nat.le_of_ble_eq_true rfl) rfl ?_
          refine g_iincN (n := 1) (L' := [some (.ref 0), some (.int (nI o)), some (.int (nI (k + 1))), some (.int (nI 0))]) (by decide +kernel : decode prog_10_method_84_code 105 = .ok (.iinc 2 1, 3)) rfl (by decide) (Nat.le_of_ble_eq_true rfl) rfl ?_
          refine g_goto (tgt := 25) (by decide +kernel : decode prog_10_method_84_code 108 = .ok (.goto (-83), 3)) (by decide) ?_
          refine g_iload_n (by decide +kernel : decode prog_10_method_84_code 25 = .ok (.iload_n 2, 1)) rfl ?_
          refine g_aload_n (by decide +kernel : decode prog_10_method_84_code 26 = .ok (.aload_n 0, 1)) rfl ?_
          refine g_getI (by decide +kernel : decode prog_10_method_84_code 27 = .ok (.getfield 148, 3)) fl_Md_148.get rfl rfl ?_
          refine g_top (w := nI r) (hr) ?_
          refine g_icmp_geN (tgt := 111) (by decide +kernel : decode prog_10_method_84_code 30 = .ok (.if_icmp .ge 81, 3)) (by decide) (by omega) (by omega) (fun h30 => ?_) (fun h30 => ?_)
          · refine g_aload_n (by decide +kernel : decode prog_10_method_84_code 111 = .ok (.aload_n 0, 1)) rfl ?_
            refine g_getR (by decide +kernel : decode prog_10_method_84_code 112 = .ok (.getfield 16, 3)) fl_Md_16 rfl rfl ?_
            refine g_aload_n (by decide +kernel : decode prog_10_method_84_code 115 = .ok (.aload_n 0, 1)) rfl ?_
            refine g_getR (by decide +kernel : decode prog_10_method_84_code 116 = .ok (.getfield 7, 3)) fl_Md_7 rfl rfl ?_
            refine g_callSV [.ref 3, .ref 1] (by decide +kernel : decode prog_10_method_84_code 119 = .ok (.invokestatic 141, 3)) lk_Md_141 (m_back σ f (yN 255 f (k + 1)) (yB 255 f b (k + 1))) rfl rfl (Nat.le_of_ble_eq_true rfl) (Nat.le_of_ble_eq_true rfl) (fun s119 h119 => ?_)
            obtain rfl := h119
            refine g_iload_n (by decide +kernel : decode prog_10_method_84_code 122 = .ok (.iload_n 3, 1)) rfl ?_
            refine g_if_eqN (tgt := 130) (by decide +kernel : decode prog_10_method_84_code 123 = .ok (.ifCond .eq 7, 3)) (by decide) (by decide) (fun _ => ?_) (fun h => False.elim (by revert h; decide))
            refine g_iload_n (by decide +kernel : decode prog_10_method_84_code 130 = .ok (.iload_n 2, 1)) rfl ?_
            exact g_iret hR (by decide +kernel : decode prog_10_method_84_code 131 = .ok (.ireturn, 1)) rfl ⟨_, rfl, ⟨by rw [← ht, jd_no (by omega) (fun z => h96 z.2.2)], ⟨_, _, rfl⟩⟩⟩
          · refine g_iload_n (by decide +kernel : decode prog_10_method_84_code 33 = .ok (.iload_n 3, 1)) rfl ?_
            refine g_if_eqN (tgt := 111) (by decide +kernel : decode prog_10_method_84_code 34 = .ok (.ifCond .eq 77, 3)) (by decide) (by decide) (fun _ => ?_) (fun h => False.elim (by revert h; decide))
            refine g_aload_n (by decide +kernel : decode prog_10_method_84_code 111 = .ok (.aload_n 0, 1)) rfl ?_
            refine g_getR (by decide +kernel : decode prog_10_method_84_code 112 = .ok (.getfield 16, 3)) fl_Md_16 rfl rfl ?_
            refine g_aload_n (by decide +kernel : decode prog_10_method_84_code 115 = .ok (.aload_n 0, 1)) rfl ?_
            refine g_getR (by decide +kernel : decode prog_10_method_84_code 116 = .ok (.getfield 7, 3)) fl_Md_7 rfl rfl ?_
            refine g_callSV [.ref 3, .ref 1] (by decide +kernel : decode prog_10_method_84_code 119 = .ok (.invokestatic 141, 3)) lk_Md_141 (m_back σ f (yN 255 f (k + 1)) (yB 255 f b (k + 1))) rfl rfl (Nat.le_of_ble_eq_true rfl) (Nat.le_of_ble_eq_true rfl) (fun s119 h119 => ?_)
            obtain rfl := h119
            refine g_iload_n (by decide +kernel : decode prog_10_method_84_code 122 = .ok (.iload_n 3, 1)) rfl ?_
            refine g_if_eqN (tgt := 130) (by decide +kernel : decode prog_10_method_84_code 123 = .ok (.ifCond .eq 7, 3)) (by decide) (by decide) (fun _ => ?_) (fun h => False.elim (by revert h; decide))
            refine g_iload_n (by decide +kernel : decode prog_10_method_84_code 130 = .ok (.iload_n 2, 1)) rfl ?_
            exact g_iret hR (by decide +kernel : decode prog_10_method_84_code 131 = .ok (.ireturn, 1)) rfl ⟨_, rfl, ⟨by rw [← ht, jd_no (by omega) (fun z => h96 z.2.2)], ⟨_, _, rfl⟩⟩⟩
        · refine g_iconst (v := nI 1) (by decide +kernel : decode prog_10_method_84_code 99 = .ok (.iconst 1, 1)) (by decide) ?_
          refine g_goto (tgt := 104) (by decide +kernel : decode prog_10_method_84_code 100 = .ok (.goto 4, 3)) (by decide) ?_
          refine g_istore_n (L' := [some (.ref 0), some (.int (nI o)), some (.int (nI k)), some (.int (nI 1))]) (by decide +kernel : decode prog_10_method_84_code 104 = .ok (.istore_n 3, 1)) (Nat.le_of_ble_eq_true rfl) rfl ?_
          refine g_iincN (n := 1) (L' := [some (.ref 0), some (.int (nI o)), some (.int (nI (k + 1))), some (.int (nI 1))]) (by decide +kernel : decode prog_10_method_84_code 105 = .ok (.iinc 2 1, 3)) rfl (by decide) (Nat.le_of_ble_eq_true rfl) rfl ?_
          refine g_goto (tgt := 25) (by decide +kernel : decode prog_10_method_84_code 108 = .ok (.goto (-83), 3)) (by decide) ?_
          exact ih (k + 1) (by omega) (by omega) (by rw [← ht]; exact (jd_yes (by omega) ⟨h58, h77, h96⟩).symm) hR
set_option maxRecDepth 20000 in
theorem p_judge (σ : Store) (f b : Row) (hI : Inv f) (x : Int32) {r : Nat} (hr : σ 0 14 = nI r) (hr10 : r ≤ 10) : Ct ΛM mt_Md_judge 4 [.ref 0, .int x] (mS σ f b) (mP σ (judgeV σ f x) f) := by
  refine Ct.of (by decide) (Nat.le_of_ble_eq_true rfl) (fun X hR => ?_)
  show G (ΛM, mt_Md_judge, 4) X (mS σ f b) [some (.ref 0), some (.int x), none, none] [] 0
  have hn8 := hI.n.2
  have htn : tn (σ 0 14) = r := by rw [hr, tn_nI (by omega)]
  refine g_aload_n (by decide +kernel : decode prog_10_method_84_code 0 = .ok (.aload_n 0, 1)) rfl ?_
  refine g_iload_n (by decide +kernel : decode prog_10_method_84_code 1 = .ok (.iload_n 1, 1)) rfl ?_
  refine g_callVI [.int x] (by decide +kernel : decode prog_10_method_84_code 2 = .ok (.invokevirtual 172, 3)) lk_Md_172 (m_isOne (mS σ f b) x hI.n.1 (by omega)) rfl rfl rfl rfl (Nat.le_of_ble_eq_true rfl) (Nat.le_of_ble_eq_true rfl) (fun r2 s2 h2 => ?_)
  rcases h2 with ⟨rfl, ⟨rfl, o, ho2, rfl⟩ | ⟨rfl, n2⟩⟩
  · refine g_if_neN (tgt := 10) (by decide +kernel : decode prog_10_method_84_code 5 = .ok (.ifCond .ne 5, 3)) (by decide) (by decide) (fun _ => ?_) (fun h => False.elim (by revert h; decide))
    refine g_aload_n (by decide +kernel : decode prog_10_method_84_code 10 = .ok (.aload_n 0, 1)) rfl ?_
    refine g_getR (by decide +kernel : decode prog_10_method_84_code 11 = .ok (.getfield 7, 3)) fl_Md_7 rfl rfl ?_
    refine g_aload_n (by decide +kernel : decode prog_10_method_84_code 14 = .ok (.aload_n 0, 1)) rfl ?_
    refine g_getR (by decide +kernel : decode prog_10_method_84_code 15 = .ok (.getfield 16, 3)) fl_Md_16 rfl rfl ?_
    refine g_callSV [.ref 1, .ref 3] (by decide +kernel : decode prog_10_method_84_code 18 = .ok (.invokestatic 141, 3)) lk_Md_141 (m_aside σ f b) rfl rfl (Nat.le_of_ble_eq_true rfl) (Nat.le_of_ble_eq_true rfl) (fun s18 h18 => ?_)
    obtain rfl := h18
    refine g_iconst (v := nI 0) (by decide +kernel : decode prog_10_method_84_code 21 = .ok (.iconst 0, 1)) (by decide) ?_
    refine g_istore_n (L' := [some (.ref 0), some (.int (nI o)), some (.int (nI 0)), none]) (by decide +kernel : decode prog_10_method_84_code 22 = .ok (.istore_n 2, 1)) (Nat.le_of_ble_eq_true rfl) rfl ?_
    refine g_iconst (v := nI 1) (by decide +kernel : decode prog_10_method_84_code 23 = .ok (.iconst 1, 1)) (by decide) ?_
    refine g_istore_n (L' := [some (.ref 0), some (.int (nI o)), some (.int (nI 0)), some (.int (nI 1))]) (by decide +kernel : decode prog_10_method_84_code 24 = .ok (.istore_n 3, 1)) (Nat.le_of_ble_eq_true rfl) rfl ?_
    exact p_judge_lp (t := jdF f o (σ 7) r 0) hI ho2 hr hr10 (r + 1) 0 (Nat.zero_le _) (by omega) rfl (by simpa only [judgeV, htn, pz_of hI ho2] using hR)
  · refine g_if_neN (tgt := 10) (by decide +kernel : decode prog_10_method_84_code 5 = .ok (.ifCond .ne 5, 3)) (by decide) (by decide) (fun h => False.elim (by revert h; decide)) (fun _ => ?_)
    refine g_iconst (v := (-1)) (by decide +kernel : decode prog_10_method_84_code 8 = .ok (.iconst (-1), 1)) (by decide) ?_
    exact g_iret hR (by decide +kernel : decode prog_10_method_84_code 9 = .ok (.ireturn, 1)) rfl ⟨_, rfl, ⟨by simp only [judgeV, pz_none hI n2], Jk.self _ _ _⟩⟩
end
section
/-! THE REFERENCE: sheets -/
def ShI (σ : Store) : Prop := ∀ t, t < 4 → (σ 8 t = -1 ∨ Rng (σ 8 t) 3) ∧ Rng (σ 9 t) 40
theorem i64_m1 (x : Int32) : ((-1 : Int64) ≤ x.toInt64 ∧ x.toInt64 ≤ lN 3) ↔ (x = -1 ∨ ∃ j, j ≤ 3 ∧ x = nI j) := by
  have hx : x.toInt64.toInt = x.toInt := by simp
  have hm : (-1 : Int64).toInt = -1 := by decide
  have hm2 : (-1 : Int32).toInt = -1 := by decide
  rw [Int64.le_iff_toInt_le, Int64.le_iff_toInt_le, hx, hm, lN_toInt (by decide)]
  constructor
  · rintro ⟨h1, h2⟩
    by_cases h : x.toInt = -1
    · left; apply Int32.toInt_inj.mp; rw [h, hm2]
    · right
      refine ⟨x.toInt.toNat, by omega, ?_⟩
      apply Int32.toInt_inj.mp
      rw [nI_toInt (by omega)]; omega
  · rintro (rfl | ⟨j, h1, rfl⟩)
    · rw [hm2]; omega
    · rw [nI_toInt (by omega)]; omega
theorem m_isInM (Λ : Lay) (σ : Store) (x : Int32) : Ct Λ mt_Md_isIn 0 [.long x.toInt64, .long (-1), .long (lN 3)] σ (PB σ (x = -1 ∨ ∃ j, j ≤ 3 ∧ x = nI j)) := PB.of (m_isIn Λ σ _ _ _) (i64_m1 x)
/-- all of a sheet's places are 0 -/
def zr (R : Row) (t : Nat) : Nat → Row
  | 0 => R
  | k + 1 => upd (zr R t k) (40 * t + k) (nI 0)
def layS (σ : Store) (t : Nat) (s n : Int32) : Store := s_row (s_up (s_up σ 8 t s) 9 t n) 10 (zr (σ 10) t 40)
def isSort (y : Int32) : Option Int32 := if y = -1 ∨ y = nI 0 ∨ y = nI 1 ∨ y = nI 2 ∨ y = nI 3 then some y else none
theorem isSort_m : isSort (-1) = some (-1) := rfl
theorem isSort_n {j : Nat} (h : j ≤ 3) : isSort (nI j) = some (nI j) := by
  rcases (show j = 0 ∨ j = 1 ∨ j = 2 ∨ j = 3 by omega) with rfl | rfl | rfl | rfl <;> rfl
theorem isSort_none {y : Int32} (h : ¬ (y = -1 ∨ ∃ j, j ≤ 3 ∧ y = nI j)) : isSort y = none := by
  unfold isSort
  rw [if_neg]
  rintro (h1 | h1 | h1 | h1 | h1)
  · exact h (Or.inl h1)
  · exact h (Or.inr ⟨0, by decide, h1⟩)
  · exact h (Or.inr ⟨1, by decide, h1⟩)
  · exact h (Or.inr ⟨2, by decide, h1⟩)
  · exact h (Or.inr ⟨3, by decide, h1⟩)
def sheetV (x y z : Int32) : Int32 := match rg 0 3 x with
  | none => -1
  | some _ => match isSort y with
    | none => -1
    | some s => if s < 0 then nI 1 else if z ≤ nI 40 then (if 0 ≤ z then nI 1 else -14) else -1
def sheetS (σ : Store) (x y z : Int32) : Store := match rg 0 3 x with
  | none => σ
  | some t => match isSort y with
    | none => σ
    | some s => if s < 0 then layS σ t s (nI 0) else if z ≤ nI 40 then (if 0 ≤ z then layS σ t s z else σ) else σ
theorem mS_u10 (σ : Store) (R f b : Row) (i : Nat) (v : Int32) : s_up (mS (s_row σ 10 R) f b) 10 i v = mS (s_row σ 10 (upd R i v)) f b := by
  funext k
  unfold mS s_up s_row
  by_cases h : k = 10
  · subst h; rfl
  · simp [h]
theorem m_isSheet_ (Λ : Lay) : True := trivial
set_option maxRecDepth 20000 in
theorem m_isSheet (Λ : Lay) (σ : Store) (x : Int32) : Ct Λ mt_Md_isSheet 1 [.int x] σ (PB σ (∃ j, 0 ≤ j ∧ j ≤ 3 ∧ x = nI j)) := by
  refine Ct.of (by decide) (Nat.le_of_ble_eq_true rfl) (fun X hR => ?_)
  show G (Λ, mt_Md_isSheet, 1) X σ [some (.int x)] [] 0
  refine g_iload_n (by decide +kernel : decode prog_10_method_85_code 0 = .ok (.iload_n 0, 1)) rfl ?_
  refine g_i2l (by decide +kernel : decode prog_10_method_85_code 1 = .ok (.i2l, 1)) ?_
  refine g_lconst (v := lN 0) (by decide +kernel : decode prog_10_method_85_code 2 = .ok (.lconst 0, 1)) (by decide) ?_
  refine g_ldc2 (v := lN 3) (by decide +kernel : decode prog_10_method_85_code 3 = .ok (.ldc2_w 151, 3)) kc_Md_151 ?_
  refine g_callSI [.long (Int32.toInt64 x), .long (lN 0), .long (lN 3)] (by decide +kernel : decode prog_10_method_85_code 6 = .ok (.invokestatic 57, 3)) lk_Md_57 (m_isInN Λ σ x 0 3) rfl rfl (Nat.le_of_ble_eq_true rfl) (Nat.le_of_ble_eq_true rfl) (fun r6 s6 h6 => ?_)
  obtain ⟨hs6, h6⟩ := h6
  rw [hs6]
  exact g_zret hR (by decide +kernel : decode prog_10_method_85_code 9 = .ok (.ireturn, 1)) rfl (by rcases h6 with ⟨h, _⟩ | ⟨h, _⟩ <;> rw [h] <;> decide) ⟨_, rfl, ⟨rfl, h6⟩⟩
set_option maxRecDepth 20000 in
theorem m_isShelf (Λ : Lay) (σ : Store) (x : Int32) : Ct Λ mt_Md_isShelf 1 [.int x] σ (PB σ (∃ j, 0 ≤ j ∧ j ≤ 3 ∧ x = nI j)) := by
  refine Ct.of (by decide) (Nat.le_of_ble_eq_true rfl) (fun X hR => ?_)
  show G (Λ, mt_Md_isShelf, 1) X σ [some (.int x)] [] 0
  refine g_iload_n (by decide +kernel : decode prog_10_method_86_code 0 = .ok (.iload_n 0, 1)) rfl ?_
  refine g_i2l (by decide +kernel : decode prog_10_method_86_code 1 = .ok (.i2l, 1)) ?_
  refine g_lconst (v := lN 0) (by decide +kernel : decode prog_10_method_86_code 2 = .ok (.lconst 0, 1)) (by decide) ?_
  refine g_ldc2 (v := lN 3) (by decide +kernel : decode prog_10_method_86_code 3 = .ok (.ldc2_w 151, 3)) kc_Md_151 ?_
  refine g_callSI [.long (Int32.toInt64 x), .long (lN 0), .long (lN 3)] (by decide +kernel : decode prog_10_method_86_code 6 = .ok (.invokestatic 57, 3)) lk_Md_57 (m_isInN Λ σ x 0 3) rfl rfl (Nat.le_of_ble_eq_true rfl) (Nat.le_of_ble_eq_true rfl) (fun r6 s6 h6 => ?_)
  obtain ⟨hs6, h6⟩ := h6
  rw [hs6]
  exact g_zret hR (by decide +kernel : decode prog_10_method_86_code 9 = .ok (.ireturn, 1)) rfl (by rcases h6 with ⟨h, _⟩ | ⟨h, _⟩ <;> rw [h] <;> decide) ⟨_, rfl, ⟨rfl, h6⟩⟩
set_option maxRecDepth 20000 in
theorem p_sheet_lp {X : CX} {τ : Store} {f b : Row} {t : Nat} (ht : t ≤ 3) {y z : Int32} {Post : Option Value → Store → Prop} (hp : Post (some (.int (nI 1))) (mS (s_row τ 10 (zr (τ 10) t 40)) f b)) : ∀ (b9 k : Nat), k ≤ 40 → 40 - k < b9 → Rt (ΛM, mt_Md_sheet, 2) Post X → G (ΛM, mt_Md_sheet, 2) X (mS (s_row τ 10 (zr (τ 10) t k)) f b) [some (.ref 0), some (.int (nI t)), some (.int y), some (.int z), some (.int (nI k))] [] 69 := by
  intro b9
  induction b9 with
  | zero => intro k hk hb hR; omega
  | succ b9 ih =>
  intro k hk hb hR
  refine g_iload (by decide +kernel : decode prog_10_method_87_code 69 = .ok (.iload 4, 2)) rfl ?_
  refine g_bipush (v := nI 40) (by decide +kernel : decode prog_10_method_87_code 71 = .ok (.bipush 40, 2)) (by decide) ?_
  refine g_icmp_geN (tgt := 95) (by decide +kernel : decode prog_10_method_87_code 73 = .ok (.if_icmp .ge 22, 3)) (by decide) (by omega) (by decide) (fun h73 => ?_) (fun h73 => ?_)
  · refine g_iconst (v := nI 1) (by decide +kernel : decode prog_10_method_87_code 95 = .ok (.iconst 1, 1)) (by decide) ?_
    exact g_iret hR (by decide +kernel : decode prog_10_method_87_code 96 = .ok (.ireturn, 1)) rfl (by rw [show k = 40 by omega]; exact hp)
  · refine g_aload_n (by decide +kernel : decode prog_10_method_87_code 76 = .ok (.aload_n 0, 1)) rfl ?_
    refine g_getR (by decide +kernel : decode prog_10_method_87_code 77 = .ok (.getfield 37, 3)) fl_Md_37 rfl rfl ?_
    refine g_bipush (v := nI 40) (by decide +kernel : decode prog_10_method_87_code 80 = .ok (.bipush 40, 2)) (by decide) ?_
    refine g_iload_n (by decide +kernel : decode prog_10_method_87_code 82 = .ok (.iload_n 1, 1)) rfl ?_
    refine g_imulN (by decide +kernel : decode prog_10_method_87_code 83 = .ok (.imul, 1)) ?_
    refine g_iload (by decide +kernel : decode prog_10_method_87_code 84 = .ok (.iload 4, 2)) rfl ?_
    refine g_iaddN (by decide +kernel : decode prog_10_method_87_code 86 = .ok (.iadd, 1)) ?_
    refine g_iconst (v := nI 0) (by decide +kernel : decode prog_10_method_87_code 87 = .ok (.iconst 0, 1)) (by decide) ?_
    refine g_iastore (a := 40 * t + k) (by decide +kernel : decode prog_10_method_87_code 88 = .ok (.iastore, 1)) rfl rfl (by omega) (by decide) ?_
    refine g_sto (mS_u10 _ _ _ _ _ _) ?_
    refine g_iincN (n := 1) (L' := [some (.ref 0), some (.int (nI t)), some (.int y), some (.int z), some (.int (nI (k + 1)))]) (by decide +kernel : decode prog_10_method_87_code 89 = .ok (.iinc 4 1, 3)) rfl (by decide) (Nat.le_of_ble_eq_true rfl) rfl ?_
    refine g_goto (tgt := 69) (by decide +kernel : decode prog_10_method_87_code 92 = .ok (.goto (-23), 3)) (by decide) ?_
    exact ih (k + 1) (by omega) (by omega) hR
set_option maxRecDepth 20000 in
theorem q_sheet (σ : Store) (f b : Row) (x y z : Int32) : Ct ΛM mt_Md_sheet 2 [.ref 0, .int x, .int y, .int z] (mS σ f b) (PF (sheetV x y z) (mS (sheetS σ x y z) f b)) := by
  refine Ct.of (by decide) (Nat.le_of_ble_eq_true rfl) (fun X hR => ?_)
  show G (ΛM, mt_Md_sheet, 2) X (mS σ f b) [some (.ref 0), some (.int x), some (.int y), some (.int z), none] [] 0
  refine g_iload_n (by decide +kernel : decode prog_10_method_87_code 0 = .ok (.iload_n 1, 1)) rfl ?_
  refine g_callSI [.int x] (by decide +kernel : decode prog_10_method_87_code 1 = .ok (.invokestatic 240, 3)) lk_Md_240 (m_isSheet ΛM (mS σ f b) x) rfl rfl (Nat.le_of_ble_eq_true rfl) (Nat.le_of_ble_eq_true rfl) (fun r1 s1 h1 => ?_)
  rcases h1 with ⟨rfl, ⟨rfl, t, ha1, hb1, rfl⟩ | ⟨rfl, n1⟩⟩
  · refine g_if_eqN (tgt := 31) (by decide +kernel : decode prog_10_method_87_code 4 = .ok (.ifCond .eq 27, 3)) (by decide) (by decide) (fun h => False.elim (by revert h; decide)) (fun _ => ?_)
    refine g_iload_n (by decide +kernel : decode prog_10_method_87_code 7 = .ok (.iload_n 2, 1)) rfl ?_
    refine g_i2l (by decide +kernel : decode prog_10_method_87_code 8 = .ok (.i2l, 1)) ?_
    refine g_ldc2 (v := -1) (by decide +kernel : decode prog_10_method_87_code 9 = .ok (.ldc2_w 246, 3)) kc_Md_246 ?_
    refine g_ldc2 (v := lN 3) (by decide +kernel : decode prog_10_method_87_code 12 = .ok (.ldc2_w 151, 3)) kc_Md_151 ?_
    refine g_callSI [.long (Int32.toInt64 y), .long (-1), .long (lN 3)] (by decide +kernel : decode prog_10_method_87_code 15 = .ok (.invokestatic 57, 3)) lk_Md_57 (m_isInM ΛM (mS σ f b) y) rfl rfl (Nat.le_of_ble_eq_true rfl) (Nat.le_of_ble_eq_true rfl) (fun r15 s15 h15 => ?_)
    rcases h15 with ⟨rfl, ⟨rfl, rfl | ⟨s, hs, rfl⟩⟩ | ⟨rfl, hno⟩⟩
    · refine g_if_eqN (tgt := 31) (by decide +kernel : decode prog_10_method_87_code 18 = .ok (.ifCond .eq 13, 3)) (by decide) (by decide) (fun h => False.elim (by revert h; decide)) (fun _ => ?_)
      refine g_iload_n (by decide +kernel : decode prog_10_method_87_code 21 = .ok (.iload_n 2, 1)) rfl ?_
      refine g_if_lt (tgt := 33) (by decide +kernel : decode prog_10_method_87_code 22 = .ok (.ifCond .lt 11, 3)) (by decide) (fun _ => ?_) (fun h => False.elim (by revert h; decide))
      refine g_iload_n (by decide +kernel : decode prog_10_method_87_code 33 = .ok (.iload_n 2, 1)) rfl ?_
      refine g_if_lt (tgt := 44) (by decide +kernel : decode prog_10_method_87_code 34 = .ok (.ifCond .lt 10, 3)) (by decide) (fun _ => ?_) (fun h => False.elim (by revert h; decide))
      refine g_aload_n (by decide +kernel : decode prog_10_method_87_code 44 = .ok (.aload_n 0, 1)) rfl ?_
      refine g_getR (by decide +kernel : decode prog_10_method_87_code 45 = .ok (.getfield 31, 3)) fl_Md_31 rfl rfl ?_
      refine g_iload_n (by decide +kernel : decode prog_10_method_87_code 48 = .ok (.iload_n 1, 1)) rfl ?_
      refine g_iload_n (by decide +kernel : decode prog_10_method_87_code 49 = .ok (.iload_n 2, 1)) rfl ?_
      refine g_iastore (a := t) (by decide +kernel : decode prog_10_method_87_code 50 = .ok (.iastore, 1)) rfl rfl (by omega) (by decide) ?_
      refine g_sto (mS_uk _ _ _ _ _ (by decide) (by decide)) ?_
      refine g_aload_n (by decide +kernel : decode prog_10_method_87_code 51 = .ok (.aload_n 0, 1)) rfl ?_
      refine g_getR (by decide +kernel : decode prog_10_method_87_code 52 = .ok (.getfield 34, 3)) fl_Md_34 rfl rfl ?_
      refine g_iload_n (by decide +kernel : decode prog_10_method_87_code 55 = .ok (.iload_n 1, 1)) rfl ?_
      refine g_iload_n (by decide +kernel : decode prog_10_method_87_code 56 = .ok (.iload_n 2, 1)) rfl ?_
      refine g_if_ge (tgt := 64) (by decide +kernel : decode prog_10_method_87_code 57 = .ok (.ifCond .ge 7, 3)) (by decide) (fun h => False.elim (by revert h; decide)) (fun _ => ?_)
      refine g_iconst (v := nI 0) (by decide +kernel : decode prog_10_method_87_code 60 = .ok (.iconst 0, 1)) (by decide) ?_
      refine g_goto (tgt := 65) (by decide +kernel : decode prog_10_method_87_code 61 = .ok (.goto 4, 3)) (by decide) ?_
      refine g_iastore (a := t) (by decide +kernel : decode prog_10_method_87_code 65 = .ok (.iastore, 1)) rfl rfl (by omega) (by decide) ?_
      refine g_sto (mS_uk _ _ _ _ _ (by decide) (by decide)) ?_
      refine g_iconst (v := nI 0) (by decide +kernel : decode prog_10_method_87_code 66 = .ok (.iconst 0, 1)) (by decide) ?_
      refine g_istore (L' := [some (.ref 0), some (.int (nI t)), some (.int (-1)), some (.int z), some (.int (nI 0))]) (by decide +kernel : decode prog_10_method_87_code 67 = .ok (.istore 4, 2)) (Nat.le_of_ble_eq_true rfl) rfl ?_
      refine g_sto (σ' := mS (s_row (s_up (s_up σ 8 t (-1)) 9 t (nI 0)) 10 (zr ((s_up (s_up σ 8 t (-1)) 9 t (nI 0)) 10) t 0)) f b) (by rw [show zr ((s_up (s_up σ 8 t (-1)) 9 t (nI 0)) 10) t 0 = (s_up (s_up σ 8 t (-1)) 9 t (nI 0)) 10 from rfl, s_row_self]) ?_
      exact p_sheet_lp (by omega) ⟨_, rfl, by simp only [sheetV, sheetS, rg_of ha1 hb1, isSort_m]; exact ⟨by rw [if_pos (by decide)], by rw [if_pos (by decide)]; rfl⟩⟩ 41 0 (by omega) (by omega) hR
    · refine g_if_eqN (tgt := 31) (by decide +kernel : decode prog_10_method_87_code 18 = .ok (.ifCond .eq 13, 3)) (by decide) (by decide) (fun h => False.elim (by revert h; decide)) (fun _ => ?_)
      refine g_iload_n (by decide +kernel : decode prog_10_method_87_code 21 = .ok (.iload_n 2, 1)) rfl ?_
      refine g_if_ltN (by decide +kernel : decode prog_10_method_87_code 22 = .ok (.ifCond .lt 11, 3)) (by decide) (by omega) ?_
      refine g_iload_n (by decide +kernel : decode prog_10_method_87_code 25 = .ok (.iload_n 3, 1)) rfl ?_
      refine g_bipush (v := nI 40) (by decide +kernel : decode prog_10_method_87_code 26 = .ok (.bipush 40, 2)) (by decide) ?_
      refine g_icmp_le (tgt := 33) (by decide +kernel : decode prog_10_method_87_code 28 = .ok (.if_icmp .le 5, 3)) (by decide) (fun h28 => ?_) (fun h28 => ?_)
      · refine g_iload_n (by decide +kernel : decode prog_10_method_87_code 33 = .ok (.iload_n 2, 1)) rfl ?_
        refine g_if_ltN (by decide +kernel : decode prog_10_method_87_code 34 = .ok (.ifCond .lt 10, 3)) (by decide) (by omega) ?_
        refine g_iload_n (by decide +kernel : decode prog_10_method_87_code 37 = .ok (.iload_n 3, 1)) rfl ?_
        refine g_if_ge (tgt := 44) (by decide +kernel : decode prog_10_method_87_code 38 = .ok (.ifCond .ge 6, 3)) (by decide) (fun h38 => ?_) (fun h38 => ?_)
        · refine g_aload_n (by decide +kernel : decode prog_10_method_87_code 44 = .ok (.aload_n 0, 1)) rfl ?_
          refine g_getR (by decide +kernel : decode prog_10_method_87_code 45 = .ok (.getfield 31, 3)) fl_Md_31 rfl rfl ?_
          refine g_iload_n (by decide +kernel : decode prog_10_method_87_code 48 = .ok (.iload_n 1, 1)) rfl ?_
          refine g_iload_n (by decide +kernel : decode prog_10_method_87_code 49 = .ok (.iload_n 2, 1)) rfl ?_
          refine g_iastore (a := t) (by decide +kernel : decode prog_10_method_87_code 50 = .ok (.iastore, 1)) rfl rfl (by omega) (by decide) ?_
          refine g_sto (mS_uk _ _ _ _ _ (by decide) (by decide)) ?_
          refine g_aload_n (by decide +kernel : decode prog_10_method_87_code 51 = .ok (.aload_n 0, 1)) rfl ?_
          refine g_getR (by decide +kernel : decode prog_10_method_87_code 52 = .ok (.getfield 34, 3)) fl_Md_34 rfl rfl ?_
          refine g_iload_n (by decide +kernel : decode prog_10_method_87_code 55 = .ok (.iload_n 1, 1)) rfl ?_
          refine g_iload_n (by decide +kernel : decode prog_10_method_87_code 56 = .ok (.iload_n 2, 1)) rfl ?_
          refine g_if_geN (tgt := 64) (by decide +kernel : decode prog_10_method_87_code 57 = .ok (.ifCond .ge 7, 3)) (by decide) (by omega) ?_
          refine g_iload_n (by decide +kernel : decode prog_10_method_87_code 64 = .ok (.iload_n 3, 1)) rfl ?_
          refine g_iastore (a := t) (by decide +kernel : decode prog_10_method_87_code 65 = .ok (.iastore, 1)) rfl rfl (by omega) (by decide) ?_
          refine g_sto (mS_uk _ _ _ _ _ (by decide) (by decide)) ?_
          refine g_iconst (v := nI 0) (by decide +kernel : decode prog_10_method_87_code 66 = .ok (.iconst 0, 1)) (by decide) ?_
          refine g_istore (L' := [some (.ref 0), some (.int (nI t)), some (.int (nI s)), some (.int z), some (.int (nI 0))]) (by decide +kernel : decode prog_10_method_87_code 67 = .ok (.istore 4, 2)) (Nat.le_of_ble_eq_true rfl) rfl ?_
          refine g_sto (σ' := mS (s_row (s_up (s_up σ 8 t (nI s)) 9 t z) 10 (zr ((s_up (s_up σ 8 t (nI s)) 9 t z) 10) t 0)) f b) (by rw [show zr ((s_up (s_up σ 8 t (nI s)) 9 t z) 10) t 0 = (s_up (s_up σ 8 t (nI s)) 9 t z) 10 from rfl, s_row_self]) ?_
          exact p_sheet_lp (by omega) ⟨_, rfl, by simp only [sheetV, sheetS, rg_of ha1 hb1, isSort_n hs]; exact ⟨by rw [if_neg (nI_pos (by omega)), if_pos h28, if_pos h38], by rw [if_neg (nI_pos (by omega)), if_pos h28, if_pos h38]; rfl⟩⟩ 41 0 (by omega) (by omega) hR
        · refine g_bipush (v := (-14)) (by decide +kernel : decode prog_10_method_87_code 41 = .ok (.bipush (-14), 2)) (by decide) ?_
          exact g_iret hR (by decide +kernel : decode prog_10_method_87_code 43 = .ok (.ireturn, 1)) rfl ⟨_, rfl, by simp only [sheetV, sheetS, rg_of ha1 hb1, isSort_n hs]; rw [if_neg (nI_pos (by omega)), if_neg (nI_pos (by omega)), if_pos h28, if_pos h28, if_neg h38, if_neg h38]; exact ⟨rfl, rfl⟩⟩
      · refine g_iconst (v := (-1)) (by decide +kernel : decode prog_10_method_87_code 31 = .ok (.iconst (-1), 1)) (by decide) ?_
        exact g_iret hR (by decide +kernel : decode prog_10_method_87_code 32 = .ok (.ireturn, 1)) rfl ⟨_, rfl, by simp only [sheetV, sheetS, rg_of ha1 hb1, isSort_n hs]; rw [if_neg (nI_pos (by omega)), if_neg (nI_pos (by omega)), if_neg h28, if_neg h28]; exact ⟨rfl, rfl⟩⟩
    · refine g_if_eqN (tgt := 31) (by decide +kernel : decode prog_10_method_87_code 18 = .ok (.ifCond .eq 13, 3)) (by decide) (by decide) (fun _ => ?_) (fun h => False.elim (by revert h; decide))
      refine g_iconst (v := (-1)) (by decide +kernel : decode prog_10_method_87_code 31 = .ok (.iconst (-1), 1)) (by decide) ?_
      exact g_iret hR (by decide +kernel : decode prog_10_method_87_code 32 = .ok (.ireturn, 1)) rfl ⟨_, rfl, by simp only [sheetV, sheetS, rg_of ha1 hb1, isSort_none hno]; exact ⟨trivial, trivial⟩⟩
  · refine g_if_eqN (tgt := 31) (by decide +kernel : decode prog_10_method_87_code 4 = .ok (.ifCond .eq 27, 3)) (by decide) (by decide) (fun _ => ?_) (fun h => False.elim (by revert h; decide))
    refine g_iconst (v := (-1)) (by decide +kernel : decode prog_10_method_87_code 31 = .ok (.iconst (-1), 1)) (by decide) ?_
    exact g_iret hR (by decide +kernel : decode prog_10_method_87_code 32 = .ok (.ireturn, 1)) rfl ⟨_, rfl, by simp only [sheetV, sheetS, rg_none n1]; exact ⟨trivial, trivial⟩⟩
def nar (s z : Int32) : Int32 := if s = nI 0 then z.toInt8.toInt32 else if s = nI 1 then z.toInt16.toInt32 else z
def putV (σ : Store) (x y : Int32) : Int32 := match rg 0 3 x with
  | none => -1
  | some t => if σ 8 t < 0 then -11 else match ri (tn (σ 9 t)) y with
    | none => -12
    | some _ => nI 1
def putS (σ : Store) (x y z : Int32) : Store := match rg 0 3 x with
  | none => σ
  | some t => if σ 8 t < 0 then σ else match ri (tn (σ 9 t)) y with
    | none => σ
    | some i => s_up σ 10 (40 * t + i) (nar (σ 8 t) z)
def itemV (σ : Store) (x y z : Int32) : Int32 := match rg 0 3 x with
  | none => -1
  | some t => match rg 0 3 y with
    | none => -1
    | some s => if σ 8 t < 0 then -11 else if σ 8 t = nI s then (match ri (tn (σ 9 t)) z with
      | none => -12
      | some i => σ 10 (40 * t + i)) else -13
theorem neg8 {x : Int32} (h : x = -1) {α : Type} {a b : α} : (if x < 0 then a else b) = a := if_pos (by rw [h]; decide)
theorem pos8 {x : Int32} {s : Nat} (hs : s ≤ 3) (h : x = nI s) {α : Type} {a b : α} : (if x < 0 then a else b) = b := if_neg (by rw [h]; exact nI_pos (by omega))
set_option maxRecDepth 20000 in
theorem q_put (σ : Store) (f b : Row) (hS : ShI σ) (x y z : Int32) : Ct ΛM mt_Md_put 2 [.ref 0, .int x, .int y, .int z] (mS σ f b) (PF (putV σ x y) (mS (putS σ x y z) f b)) := by
  refine Ct.of (by decide) (Nat.le_of_ble_eq_true rfl) (fun X hR => ?_)
  show G (ΛM, mt_Md_put, 2) X (mS σ f b) [some (.ref 0), some (.int x), some (.int y), some (.int z)] [] 0
  refine g_iload_n (by decide +kernel : decode prog_10_method_88_code 0 = .ok (.iload_n 1, 1)) rfl ?_
  refine g_callSI [.int x] (by decide +kernel : decode prog_10_method_88_code 1 = .ok (.invokestatic 240, 3)) lk_Md_240 (m_isSheet ΛM (mS σ f b) x) rfl rfl (Nat.le_of_ble_eq_true rfl) (Nat.le_of_ble_eq_true rfl) (fun r1 s1 h1 => ?_)
  rcases h1 with ⟨rfl, ⟨rfl, t, ha1, hb1, rfl⟩ | ⟨rfl, n1⟩⟩
  · refine g_if_neN (tgt := 9) (by decide +kernel : decode prog_10_method_88_code 4 = .ok (.ifCond .ne 5, 3)) (by decide) (by decide) (fun _ => ?_) (fun h => False.elim (by revert h; decide))
    obtain ⟨n, hn, e9⟩ := (hS t (by omega)).2
    have htn : tn (σ 9 t) = n := by rw [e9, tn_nI (by omega)]
    rcases (hS t (by omega)).1 with e8 | ⟨s, hs, e8⟩
    · refine g_aload_n (by decide +kernel : decode prog_10_method_88_code 9 = .ok (.aload_n 0, 1)) rfl ?_
      refine g_getR (by decide +kernel : decode prog_10_method_88_code 10 = .ok (.getfield 31, 3)) fl_Md_31 rfl rfl ?_
      refine g_iload_n (by decide +kernel : decode prog_10_method_88_code 13 = .ok (.iload_n 1, 1)) rfl ?_
      refine g_iaload (a := t) (by decide +kernel : decode prog_10_method_88_code 14 = .ok (.iaload, 1)) rfl rfl (by omega) (by decide) ?_
      refine g_top (w := (-1)) (e8) ?_
      refine g_if_ge (tgt := 21) (by decide +kernel : decode prog_10_method_88_code 15 = .ok (.ifCond .ge 6, 3)) (by decide) (fun h => False.elim (by revert h; decide)) (fun _ => ?_)
      refine g_bipush (v := (-11)) (by decide +kernel : decode prog_10_method_88_code 18 = .ok (.bipush (-11), 2)) (by decide) ?_
      exact g_iret hR (by decide +kernel : decode prog_10_method_88_code 20 = .ok (.ireturn, 1)) rfl ⟨_, rfl, by simp only [putV, putS, rg_of ha1 hb1, neg8 e8, htn]; exact ⟨trivial, trivial⟩⟩
    · refine g_aload_n (by decide +kernel : decode prog_10_method_88_code 9 = .ok (.aload_n 0, 1)) rfl ?_
      refine g_getR (by decide +kernel : decode prog_10_method_88_code 10 = .ok (.getfield 31, 3)) fl_Md_31 rfl rfl ?_
      refine g_iload_n (by decide +kernel : decode prog_10_method_88_code 13 = .ok (.iload_n 1, 1)) rfl ?_
      refine g_iaload (a := t) (by decide +kernel : decode prog_10_method_88_code 14 = .ok (.iaload, 1)) rfl rfl (by omega) (by decide) ?_
      refine g_top (w := nI s) (e8) ?_
      refine g_if_geN (tgt := 21) (by decide +kernel : decode prog_10_method_88_code 15 = .ok (.ifCond .ge 6, 3)) (by decide) (by omega) ?_
      refine g_iload_n (by decide +kernel : decode prog_10_method_88_code 21 = .ok (.iload_n 2, 1)) rfl ?_
      refine g_i2l (by decide +kernel : decode prog_10_method_88_code 22 = .ok (.i2l, 1)) ?_
      refine g_lconst (v := lN 0) (by decide +kernel : decode prog_10_method_88_code 23 = .ok (.lconst 0, 1)) (by decide) ?_
      refine g_aload_n (by decide +kernel : decode prog_10_method_88_code 24 = .ok (.aload_n 0, 1)) rfl ?_
      refine g_getR (by decide +kernel : decode prog_10_method_88_code 25 = .ok (.getfield 34, 3)) fl_Md_34 rfl rfl ?_
      refine g_iload_n (by decide +kernel : decode prog_10_method_88_code 28 = .ok (.iload_n 1, 1)) rfl ?_
      refine g_iaload (a := t) (by decide +kernel : decode prog_10_method_88_code 29 = .ok (.iaload, 1)) rfl rfl (by omega) (by decide) ?_
      refine g_top (w := nI n) (e9) ?_
      refine g_iconst (v := nI 1) (by decide +kernel : decode prog_10_method_88_code 30 = .ok (.iconst 1, 1)) (by decide) ?_
      refine g_isub (by decide +kernel : decode prog_10_method_88_code 31 = .ok (.isub, 1)) ?_
      refine g_i2l (by decide +kernel : decode prog_10_method_88_code 32 = .ok (.i2l, 1)) ?_
      refine g_callSI [.long (Int32.toInt64 y), .long (lN 0), .long (Int32.toInt64 ((nI n) - (nI 1)))] (by decide +kernel : decode prog_10_method_88_code 33 = .ok (.invokestatic 57, 3)) lk_Md_57 (m_isInR ΛM (mS σ f b) y (r := n) (by omega)) rfl rfl (Nat.le_of_ble_eq_true rfl) (Nat.le_of_ble_eq_true rfl) (fun r33 s33 h33 => ?_)
      rcases h33 with ⟨rfl, ⟨rfl, i, hi33, rfl⟩ | ⟨rfl, n33⟩⟩
      · refine g_if_neN (tgt := 42) (by decide +kernel : decode prog_10_method_88_code 36 = .ok (.ifCond .ne 6, 3)) (by decide) (by decide) (fun _ => ?_) (fun h => False.elim (by revert h; decide))
        refine g_aload_n (by decide +kernel : decode prog_10_method_88_code 42 = .ok (.aload_n 0, 1)) rfl ?_
        refine g_getR (by decide +kernel : decode prog_10_method_88_code 43 = .ok (.getfield 37, 3)) fl_Md_37 rfl rfl ?_
        refine g_bipush (v := nI 40) (by decide +kernel : decode prog_10_method_88_code 46 = .ok (.bipush 40, 2)) (by decide) ?_
        refine g_iload_n (by decide +kernel : decode prog_10_method_88_code 48 = .ok (.iload_n 1, 1)) rfl ?_
        refine g_imulN (by decide +kernel : decode prog_10_method_88_code 49 = .ok (.imul, 1)) ?_
        refine g_iload_n (by decide +kernel : decode prog_10_method_88_code 50 = .ok (.iload_n 2, 1)) rfl ?_
        refine g_iaddN (by decide +kernel : decode prog_10_method_88_code 51 = .ok (.iadd, 1)) ?_
        refine g_aload_n (by decide +kernel : decode prog_10_method_88_code 52 = .ok (.aload_n 0, 1)) rfl ?_
        refine g_getR (by decide +kernel : decode prog_10_method_88_code 53 = .ok (.getfield 31, 3)) fl_Md_31 rfl rfl ?_
        refine g_iload_n (by decide +kernel : decode prog_10_method_88_code 56 = .ok (.iload_n 1, 1)) rfl ?_
        refine g_iaload (a := t) (by decide +kernel : decode prog_10_method_88_code 57 = .ok (.iaload, 1)) rfl rfl (by omega) (by decide) ?_
        refine g_top (w := nI s) (e8) ?_
        have J58 : G (ΛM, mt_Md_put, 2) X (mS σ f b) [some (.ref 0), some (.int (nI t)), some (.int (nI i)), some (.int z)] [.int (nar (σ 8 t) z), .int (nI (40 * t + i)), .ref 10] 82 := by
          refine g_iastore (a := 40 * t + i) (by decide +kernel : decode prog_10_method_88_code 82 = .ok (.iastore, 1)) rfl rfl (by omega) (by decide) ?_
          refine g_sto (mS_uk _ _ _ _ _ (by decide) (by decide)) ?_
          refine g_iconst (v := nI 1) (by decide +kernel : decode prog_10_method_88_code 83 = .ok (.iconst 1, 1)) (by decide) ?_
          exact g_iret hR (by decide +kernel : decode prog_10_method_88_code 84 = .ok (.ireturn, 1)) rfl ⟨_, rfl, by simp only [putV, putS, rg_of ha1 hb1, pos8 hs e8, ri_of (show n < 2 ^ 31 by omega) hi33, htn]; exact ⟨trivial, trivial⟩⟩
        refine g_if_neN (tgt := 66) (by decide +kernel : decode prog_10_method_88_code 58 = .ok (.ifCond .ne 8, 3)) (by decide) (by omega) (fun h58 => ?_) (fun h58 => ?_)
        · refine g_aload_n (by decide +kernel : decode prog_10_method_88_code 66 = .ok (.aload_n 0, 1)) rfl ?_
          refine g_getR (by decide +kernel : decode prog_10_method_88_code 67 = .ok (.getfield 31, 3)) fl_Md_31 rfl rfl ?_
          refine g_iload_n (by decide +kernel : decode prog_10_method_88_code 70 = .ok (.iload_n 1, 1)) rfl ?_
          refine g_iaload (a := t) (by decide +kernel : decode prog_10_method_88_code 71 = .ok (.iaload, 1)) rfl rfl (by omega) (by decide) ?_
          refine g_top (w := nI s) (e8) ?_
          refine g_iconst (v := nI 1) (by decide +kernel : decode prog_10_method_88_code 72 = .ok (.iconst 1, 1)) (by decide) ?_
          refine g_icmp_neN (tgt := 81) (by decide +kernel : decode prog_10_method_88_code 73 = .ok (.if_icmp .ne 8, 3)) (by decide) (by omega) (by decide) (fun h73 => ?_) (fun h73 => ?_)
          · refine g_iload_n (by decide +kernel : decode prog_10_method_88_code 81 = .ok (.iload_n 3, 1)) rfl ?_
            exact g_top (by unfold nar; rw [e8]; rw [if_neg (fun q => h58 ((nI_eq (by omega) (by decide)).mp q)), if_neg (fun q => h73 ((nI_eq (by omega) (by decide)).mp q))]) J58
          · refine g_iload_n (by decide +kernel : decode prog_10_method_88_code 76 = .ok (.iload_n 3, 1)) rfl ?_
            refine g_i2s (by decide +kernel : decode prog_10_method_88_code 77 = .ok (.i2s, 1)) ?_
            refine g_goto (tgt := 82) (by decide +kernel : decode prog_10_method_88_code 78 = .ok (.goto 4, 3)) (by decide) ?_
            exact g_top (by unfold nar; rw [e8]; rw [if_neg (fun q => h58 ((nI_eq (by omega) (by decide)).mp q)), if_pos (by rw [h73])]) J58
        · refine g_iload_n (by decide +kernel : decode prog_10_method_88_code 61 = .ok (.iload_n 3, 1)) rfl ?_
          refine g_i2b (by decide +kernel : decode prog_10_method_88_code 62 = .ok (.i2b, 1)) ?_
          refine g_goto (tgt := 82) (by decide +kernel : decode prog_10_method_88_code 63 = .ok (.goto 19, 3)) (by decide) ?_
          exact g_top (by unfold nar; rw [e8]; rw [if_pos (by rw [h58])]) J58
      · refine g_if_neN (tgt := 42) (by decide +kernel : decode prog_10_method_88_code 36 = .ok (.ifCond .ne 6, 3)) (by decide) (by decide) (fun h => False.elim (by revert h; decide)) (fun _ => ?_)
        refine g_bipush (v := (-12)) (by decide +kernel : decode prog_10_method_88_code 39 = .ok (.bipush (-12), 2)) (by decide) ?_
        exact g_iret hR (by decide +kernel : decode prog_10_method_88_code 41 = .ok (.ireturn, 1)) rfl ⟨_, rfl, by simp only [putV, putS, rg_of ha1 hb1, pos8 hs e8, ri_none (show n < 2 ^ 31 by omega) n33, htn]; exact ⟨trivial, trivial⟩⟩
  · refine g_if_neN (tgt := 9) (by decide +kernel : decode prog_10_method_88_code 4 = .ok (.ifCond .ne 5, 3)) (by decide) (by decide) (fun h => False.elim (by revert h; decide)) (fun _ => ?_)
    refine g_iconst (v := (-1)) (by decide +kernel : decode prog_10_method_88_code 7 = .ok (.iconst (-1), 1)) (by decide) ?_
    exact g_iret hR (by decide +kernel : decode prog_10_method_88_code 8 = .ok (.ireturn, 1)) rfl ⟨_, rfl, by simp only [putV, putS, rg_none n1]; exact ⟨trivial, trivial⟩⟩
def lackF (s q : Int32) : Int32 := if 0 ≤ s then (if s = q then nI 0 else -13) else -11
set_option maxRecDepth 20000 in
theorem m_lacks (σ : Store) (f b : Row) (t : Nat) (ht : t < 4) (x : Int32) : Ct ΛM mt_Md_lacks 0 [.ref 0, .int (nI t), .int x] (mS σ f b) (PF (lackF (σ 8 t) x) (mS σ f b)) := by
  refine Ct.of (by decide) (Nat.le_of_ble_eq_true rfl) (fun X hR => ?_)
  show G (ΛM, mt_Md_lacks, 0) X (mS σ f b) [some (.ref 0), some (.int (nI t)), some (.int x)] [] 0
  refine g_aload_n (by decide +kernel : decode prog_10_method_89_code 0 = .ok (.aload_n 0, 1)) rfl ?_
  refine g_getR (by decide +kernel : decode prog_10_method_89_code 1 = .ok (.getfield 31, 3)) fl_Md_31 rfl rfl ?_
  refine g_iload_n (by decide +kernel : decode prog_10_method_89_code 4 = .ok (.iload_n 1, 1)) rfl ?_
  refine g_iaload (a := t) (by decide +kernel : decode prog_10_method_89_code 5 = .ok (.iaload, 1)) rfl rfl (by omega) (by decide) ?_
  refine g_top (w := σ 8 t) (rfl) ?_
  refine g_if_ge (tgt := 14) (by decide +kernel : decode prog_10_method_89_code 6 = .ok (.ifCond .ge 8, 3)) (by decide) (fun h6 => ?_) (fun h6 => ?_)
  · refine g_aload_n (by decide +kernel : decode prog_10_method_89_code 14 = .ok (.aload_n 0, 1)) rfl ?_
    refine g_getR (by decide +kernel : decode prog_10_method_89_code 15 = .ok (.getfield 31, 3)) fl_Md_31 rfl rfl ?_
    refine g_iload_n (by decide +kernel : decode prog_10_method_89_code 18 = .ok (.iload_n 1, 1)) rfl ?_
    refine g_iaload (a := t) (by decide +kernel : decode prog_10_method_89_code 19 = .ok (.iaload, 1)) rfl rfl (by omega) (by decide) ?_
    refine g_top (w := σ 8 t) (rfl) ?_
    refine g_iload_n (by decide +kernel : decode prog_10_method_89_code 20 = .ok (.iload_n 2, 1)) rfl ?_
    refine g_icmp_eq (tgt := 29) (by decide +kernel : decode prog_10_method_89_code 21 = .ok (.if_icmp .eq 8, 3)) (by decide) (fun h21 => ?_) (fun h21 => ?_)
    · refine g_iconst (v := nI 0) (by decide +kernel : decode prog_10_method_89_code 29 = .ok (.iconst 0, 1)) (by decide) ?_
      exact g_iret hR (by decide +kernel : decode prog_10_method_89_code 30 = .ok (.ireturn, 1)) rfl ⟨_, rfl, ⟨by unfold lackF; first | rw [if_neg h6] | rw [if_pos h6, if_pos h21] | rw [if_pos h6, if_neg h21], rfl⟩⟩
    · refine g_bipush (v := (-13)) (by decide +kernel : decode prog_10_method_89_code 24 = .ok (.bipush (-13), 2)) (by decide) ?_
      refine g_goto (tgt := 30) (by decide +kernel : decode prog_10_method_89_code 26 = .ok (.goto 4, 3)) (by decide) ?_
      exact g_iret hR (by decide +kernel : decode prog_10_method_89_code 30 = .ok (.ireturn, 1)) rfl ⟨_, rfl, ⟨by unfold lackF; first | rw [if_neg h6] | rw [if_pos h6, if_pos h21] | rw [if_pos h6, if_neg h21], rfl⟩⟩
  · refine g_bipush (v := (-11)) (by decide +kernel : decode prog_10_method_89_code 9 = .ok (.bipush (-11), 2)) (by decide) ?_
    refine g_goto (tgt := 30) (by decide +kernel : decode prog_10_method_89_code 11 = .ok (.goto 19, 3)) (by decide) ?_
    exact g_iret hR (by decide +kernel : decode prog_10_method_89_code 30 = .ok (.ireturn, 1)) rfl ⟨_, rfl, ⟨by unfold lackF; first | rw [if_neg h6] | rw [if_pos h6, if_pos h21] | rw [if_pos h6, if_neg h21], rfl⟩⟩
set_option maxRecDepth 20000 in
theorem q_item (σ : Store) (f b : Row) (hS : ShI σ) (x y z : Int32) : Ct ΛM mt_Md_item 2 [.ref 0, .int x, .int y, .int z] (mS σ f b) (PF (itemV σ x y z) (mS σ f b)) := by
  refine Ct.of (by decide) (Nat.le_of_ble_eq_true rfl) (fun X hR => ?_)
  show G (ΛM, mt_Md_item, 2) X (mS σ f b) [some (.ref 0), some (.int x), some (.int y), some (.int z)] [] 0
  refine g_iload_n (by decide +kernel : decode prog_10_method_90_code 0 = .ok (.iload_n 1, 1)) rfl ?_
  refine g_callSI [.int x] (by decide +kernel : decode prog_10_method_90_code 1 = .ok (.invokestatic 240, 3)) lk_Md_240 (m_isSheet ΛM (mS σ f b) x) rfl rfl (Nat.le_of_ble_eq_true rfl) (Nat.le_of_ble_eq_true rfl) (fun r1 s1 h1 => ?_)
  rcases h1 with ⟨rfl, ⟨rfl, t, ha1, hb1, rfl⟩ | ⟨rfl, n1⟩⟩
  · refine g_if_eqN (tgt := 19) (by decide +kernel : decode prog_10_method_90_code 4 = .ok (.ifCond .eq 15, 3)) (by decide) (by decide) (fun h => False.elim (by revert h; decide)) (fun _ => ?_)
    refine g_iload_n (by decide +kernel : decode prog_10_method_90_code 7 = .ok (.iload_n 2, 1)) rfl ?_
    refine g_i2l (by decide +kernel : decode prog_10_method_90_code 8 = .ok (.i2l, 1)) ?_
    refine g_lconst (v := lN 0) (by decide +kernel : decode prog_10_method_90_code 9 = .ok (.lconst 0, 1)) (by decide) ?_
    refine g_ldc2 (v := lN 3) (by decide +kernel : decode prog_10_method_90_code 10 = .ok (.ldc2_w 151, 3)) kc_Md_151 ?_
    refine g_callSI [.long (Int32.toInt64 y), .long (lN 0), .long (lN 3)] (by decide +kernel : decode prog_10_method_90_code 13 = .ok (.invokestatic 57, 3)) lk_Md_57 (m_isInN ΛM (mS σ f b) y 0 3) rfl rfl (Nat.le_of_ble_eq_true rfl) (Nat.le_of_ble_eq_true rfl) (fun r13 s13 h13 => ?_)
    rcases h13 with ⟨rfl, ⟨rfl, q, ha13, hb13, rfl⟩ | ⟨rfl, n13⟩⟩
    · refine g_if_neN (tgt := 21) (by decide +kernel : decode prog_10_method_90_code 16 = .ok (.ifCond .ne 5, 3)) (by decide) (by decide) (fun _ => ?_) (fun h => False.elim (by revert h; decide))
      obtain ⟨n, hn, e9⟩ := (hS t (by omega)).2
      have htn : tn (σ 9 t) = n := by rw [e9, tn_nI (by omega)]
      rcases (hS t (by omega)).1 with e8 | ⟨s, hs, e8⟩
      · refine g_aload_n (by decide +kernel : decode prog_10_method_90_code 21 = .ok (.aload_n 0, 1)) rfl ?_
        refine g_iload_n (by decide +kernel : decode prog_10_method_90_code 22 = .ok (.iload_n 1, 1)) rfl ?_
        refine g_iload_n (by decide +kernel : decode prog_10_method_90_code 23 = .ok (.iload_n 2, 1)) rfl ?_
        refine g_callVI [.int (nI t), .int (nI q)] (by decide +kernel : decode prog_10_method_90_code 24 = .ok (.invokevirtual 263, 3)) lk_Md_263 (m_lacks σ f b t (by omega) (nI q)) rfl rfl rfl rfl (Nat.le_of_ble_eq_true rfl) (Nat.le_of_ble_eq_true rfl) (fun r24 s24 h24 => ?_)
        obtain ⟨rfl, rfl⟩ := h24
        refine g_top (w := -11) (by rw [e8]; rfl) ?_
        refine g_if_eq (tgt := 37) (by decide +kernel : decode prog_10_method_90_code 27 = .ok (.ifCond .eq 10, 3)) (by decide) (fun h => False.elim (by revert h; decide)) (fun _ => ?_)
        refine g_aload_n (by decide +kernel : decode prog_10_method_90_code 30 = .ok (.aload_n 0, 1)) rfl ?_
        refine g_iload_n (by decide +kernel : decode prog_10_method_90_code 31 = .ok (.iload_n 1, 1)) rfl ?_
        refine g_iload_n (by decide +kernel : decode prog_10_method_90_code 32 = .ok (.iload_n 2, 1)) rfl ?_
        refine g_callVI [.int (nI t), .int (nI q)] (by decide +kernel : decode prog_10_method_90_code 33 = .ok (.invokevirtual 263, 3)) lk_Md_263 (m_lacks σ f b t (by omega) (nI q)) rfl rfl rfl rfl (Nat.le_of_ble_eq_true rfl) (Nat.le_of_ble_eq_true rfl) (fun r33 s33 h33 => ?_)
        obtain ⟨rfl, rfl⟩ := h33
        refine g_top (w := -11) (by rw [e8]; rfl) ?_
        exact g_iret hR (by decide +kernel : decode prog_10_method_90_code 36 = .ok (.ireturn, 1)) rfl ⟨_, rfl, ⟨by simp only [itemV, rg_of ha1 hb1, rg_of ha13 hb13, neg8 e8], rfl⟩⟩
      · by_cases hsq : nI s = nI q
        · refine g_aload_n (by decide +kernel : decode prog_10_method_90_code 21 = .ok (.aload_n 0, 1)) rfl ?_
          refine g_iload_n (by decide +kernel : decode prog_10_method_90_code 22 = .ok (.iload_n 1, 1)) rfl ?_
          refine g_iload_n (by decide +kernel : decode prog_10_method_90_code 23 = .ok (.iload_n 2, 1)) rfl ?_
          refine g_callVI [.int (nI t), .int (nI q)] (by decide +kernel : decode prog_10_method_90_code 24 = .ok (.invokevirtual 263, 3)) lk_Md_263 (m_lacks σ f b t (by omega) (nI q)) rfl rfl rfl rfl (Nat.le_of_ble_eq_true rfl) (Nat.le_of_ble_eq_true rfl) (fun r24 s24 h24 => ?_)
          obtain ⟨rfl, rfl⟩ := h24
          refine g_top (w := nI 0) (by rw [e8]; unfold lackF; rw [if_pos (nI_pos' (by omega)), if_pos hsq]) ?_
          refine g_if_eqN (tgt := 37) (by decide +kernel : decode prog_10_method_90_code 27 = .ok (.ifCond .eq 10, 3)) (by decide) (by decide) (fun _ => ?_) (fun h => False.elim (by revert h; decide))
          refine g_iload_n (by decide +kernel : decode prog_10_method_90_code 37 = .ok (.iload_n 3, 1)) rfl ?_
          refine g_i2l (by decide +kernel : decode prog_10_method_90_code 38 = .ok (.i2l, 1)) ?_
          refine g_lconst (v := lN 0) (by decide +kernel : decode prog_10_method_90_code 39 = .ok (.lconst 0, 1)) (by decide) ?_
          refine g_aload_n (by decide +kernel : decode prog_10_method_90_code 40 = .ok (.aload_n 0, 1)) rfl ?_
          refine g_getR (by decide +kernel : decode prog_10_method_90_code 41 = .ok (.getfield 34, 3)) fl_Md_34 rfl rfl ?_
          refine g_iload_n (by decide +kernel : decode prog_10_method_90_code 44 = .ok (.iload_n 1, 1)) rfl ?_
          refine g_iaload (a := t) (by decide +kernel : decode prog_10_method_90_code 45 = .ok (.iaload, 1)) rfl rfl (by omega) (by decide) ?_
          refine g_top (w := nI n) (e9) ?_
          refine g_iconst (v := nI 1) (by decide +kernel : decode prog_10_method_90_code 46 = .ok (.iconst 1, 1)) (by decide) ?_
          refine g_isub (by decide +kernel : decode prog_10_method_90_code 47 = .ok (.isub, 1)) ?_
          refine g_i2l (by decide +kernel : decode prog_10_method_90_code 48 = .ok (.i2l, 1)) ?_
          refine g_callSI [.long (Int32.toInt64 z), .long (lN 0), .long (Int32.toInt64 ((nI n) - (nI 1)))] (by decide +kernel : decode prog_10_method_90_code 49 = .ok (.invokestatic 57, 3)) lk_Md_57 (m_isInR ΛM (mS σ f b) z (r := n) (by omega)) rfl rfl (Nat.le_of_ble_eq_true rfl) (Nat.le_of_ble_eq_true rfl) (fun r49 s49 h49 => ?_)
          rcases h49 with ⟨rfl, ⟨rfl, i, hi49, rfl⟩ | ⟨rfl, n49⟩⟩
          · refine g_if_eqN (tgt := 69) (by decide +kernel : decode prog_10_method_90_code 52 = .ok (.ifCond .eq 17, 3)) (by decide) (by decide) (fun h => False.elim (by revert h; decide)) (fun _ => ?_)
            refine g_aload_n (by decide +kernel : decode prog_10_method_90_code 55 = .ok (.aload_n 0, 1)) rfl ?_
            refine g_getR (by decide +kernel : decode prog_10_method_90_code 56 = .ok (.getfield 37, 3)) fl_Md_37 rfl rfl ?_
            refine g_bipush (v := nI 40) (by decide +kernel : decode prog_10_method_90_code 59 = .ok (.bipush 40, 2)) (by decide) ?_
            refine g_iload_n (by decide +kernel : decode prog_10_method_90_code 61 = .ok (.iload_n 1, 1)) rfl ?_
            refine g_imulN (by decide +kernel : decode prog_10_method_90_code 62 = .ok (.imul, 1)) ?_
            refine g_iload_n (by decide +kernel : decode prog_10_method_90_code 63 = .ok (.iload_n 3, 1)) rfl ?_
            refine g_iaddN (by decide +kernel : decode prog_10_method_90_code 64 = .ok (.iadd, 1)) ?_
            refine g_iaload (a := 40 * t + i) (by decide +kernel : decode prog_10_method_90_code 65 = .ok (.iaload, 1)) rfl rfl (by omega) (by decide) ?_
            refine g_top (w := σ 10 (40 * t + i)) (rfl) ?_
            refine g_goto (tgt := 71) (by decide +kernel : decode prog_10_method_90_code 66 = .ok (.goto 5, 3)) (by decide) ?_
            exact g_iret hR (by decide +kernel : decode prog_10_method_90_code 71 = .ok (.ireturn, 1)) rfl ⟨_, rfl, ⟨by simp only [itemV, rg_of ha1 hb1, rg_of ha13 hb13, pos8 hs e8, if_pos (e8.trans hsq), ri_of (show n < 2 ^ 31 by omega) hi49, htn], rfl⟩⟩
          · refine g_if_eqN (tgt := 69) (by decide +kernel : decode prog_10_method_90_code 52 = .ok (.ifCond .eq 17, 3)) (by decide) (by decide) (fun _ => ?_) (fun h => False.elim (by revert h; decide))
            refine g_bipush (v := (-12)) (by decide +kernel : decode prog_10_method_90_code 69 = .ok (.bipush (-12), 2)) (by decide) ?_
            exact g_iret hR (by decide +kernel : decode prog_10_method_90_code 71 = .ok (.ireturn, 1)) rfl ⟨_, rfl, ⟨by simp only [itemV, rg_of ha1 hb1, rg_of ha13 hb13, pos8 hs e8, if_pos (e8.trans hsq), ri_none (show n < 2 ^ 31 by omega) n49, htn], rfl⟩⟩
        · refine g_aload_n (by decide +kernel : decode prog_10_method_90_code 21 = .ok (.aload_n 0, 1)) rfl ?_
          refine g_iload_n (by decide +kernel : decode prog_10_method_90_code 22 = .ok (.iload_n 1, 1)) rfl ?_
          refine g_iload_n (by decide +kernel : decode prog_10_method_90_code 23 = .ok (.iload_n 2, 1)) rfl ?_
          refine g_callVI [.int (nI t), .int (nI q)] (by decide +kernel : decode prog_10_method_90_code 24 = .ok (.invokevirtual 263, 3)) lk_Md_263 (m_lacks σ f b t (by omega) (nI q)) rfl rfl rfl rfl (Nat.le_of_ble_eq_true rfl) (Nat.le_of_ble_eq_true rfl) (fun r24 s24 h24 => ?_)
          obtain ⟨rfl, rfl⟩ := h24
          refine g_top (w := -13) (by rw [e8]; unfold lackF; rw [if_pos (nI_pos' (by omega)), if_neg hsq]) ?_
          refine g_if_eq (tgt := 37) (by decide +kernel : decode prog_10_method_90_code 27 = .ok (.ifCond .eq 10, 3)) (by decide) (fun h => False.elim (by revert h; decide)) (fun _ => ?_)
          refine g_aload_n (by decide +kernel : decode prog_10_method_90_code 30 = .ok (.aload_n 0, 1)) rfl ?_
          refine g_iload_n (by decide +kernel : decode prog_10_method_90_code 31 = .ok (.iload_n 1, 1)) rfl ?_
          refine g_iload_n (by decide +kernel : decode prog_10_method_90_code 32 = .ok (.iload_n 2, 1)) rfl ?_
          refine g_callVI [.int (nI t), .int (nI q)] (by decide +kernel : decode prog_10_method_90_code 33 = .ok (.invokevirtual 263, 3)) lk_Md_263 (m_lacks σ f b t (by omega) (nI q)) rfl rfl rfl rfl (Nat.le_of_ble_eq_true rfl) (Nat.le_of_ble_eq_true rfl) (fun r33 s33 h33 => ?_)
          obtain ⟨rfl, rfl⟩ := h33
          refine g_top (w := -13) (by rw [e8]; unfold lackF; rw [if_pos (nI_pos' (by omega)), if_neg hsq]) ?_
          exact g_iret hR (by decide +kernel : decode prog_10_method_90_code 36 = .ok (.ireturn, 1)) rfl ⟨_, rfl, ⟨by simp only [itemV, rg_of ha1 hb1, rg_of ha13 hb13, pos8 hs e8, if_neg (fun z => hsq (e8.symm.trans z))], rfl⟩⟩
    · refine g_if_neN (tgt := 21) (by decide +kernel : decode prog_10_method_90_code 16 = .ok (.ifCond .ne 5, 3)) (by decide) (by decide) (fun h => False.elim (by revert h; decide)) (fun _ => ?_)
      refine g_iconst (v := (-1)) (by decide +kernel : decode prog_10_method_90_code 19 = .ok (.iconst (-1), 1)) (by decide) ?_
      exact g_iret hR (by decide +kernel : decode prog_10_method_90_code 20 = .ok (.ireturn, 1)) rfl ⟨_, rfl, ⟨by simp only [itemV, rg_of ha1 hb1, rg_none n13], rfl⟩⟩
  · refine g_if_eqN (tgt := 19) (by decide +kernel : decode prog_10_method_90_code 4 = .ok (.ifCond .eq 15, 3)) (by decide) (by decide) (fun _ => ?_) (fun h => False.elim (by revert h; decide))
    refine g_iconst (v := (-1)) (by decide +kernel : decode prog_10_method_90_code 19 = .ok (.iconst (-1), 1)) (by decide) ?_
    exact g_iret hR (by decide +kernel : decode prog_10_method_90_code 20 = .ok (.ireturn, 1)) rfl ⟨_, rfl, ⟨by simp only [itemV, rg_none n1], rfl⟩⟩
end
section
/-! THE REFERENCE: minds, fits, shelves -/
def clamp9 (v : Int32) : Int32 := if 0 ≤ v then (if v ≤ nI 9 then v else nI 9) else nI 0
theorem clamp9_r (v : Int32) : Rng (clamp9 v) 9 := by
  unfold clamp9
  split
  · split
    · rename_i h1 h2
      rw [Int32.le_iff_toInt_le, Int32.toInt_zero] at h1
      rw [Int32.le_iff_toInt_le, nI_toInt (by decide)] at h2
      refine ⟨v.toInt.toNat, by omega, ?_⟩
      apply Int32.toInt_inj.mp
      rw [nI_toInt (by omega)]; omega
    · exact Rng.of (by decide)
  · exact Rng.of (by decide)
/-- wits of people from one on become numbers of a sheet -/
def mdF (f R : Row) (o q : Nat) : Nat → Row
  | 0 => f
  | k + 1 => upd (mdF f R o q k) (19 + 6 * (o + k) + 2) (clamp9 (R (q + k)))
def mdsC (σ : Store) (f : Row) (x y z u : Int32) : Int32 ⊕ (Nat × Nat × Nat × Nat) := match rg 0 3 x with
  | none => .inl (-1)
  | some t => match pz f z with
    | none => .inl (-1)
    | some o => match rg 0 8 u with
      | none => .inl (-1)
      | some n => if o + n ≤ nn f then (if σ 8 t < 0 then .inl (-11) else if σ 8 t = nI 0 then (match rg 0 (tn (σ 9 t)) y with
        | none => .inl (-12)
        | some i => if i + n ≤ tn (σ 9 t) then .inr (t, o, n, i) else .inl (-12)) else .inl (-13)) else .inl (-1)
def mindsV (σ : Store) (f : Row) (x y z u : Int32) : Int32 := match mdsC σ f x y z u with
  | .inl v => v
  | .inr q => nI q.2.2.1
def mindsT (σ : Store) (f : Row) (x y z u : Int32) : Row := match mdsC σ f x y z u with
  | .inl _ => f
  | .inr q => mdF f (σ 10) q.2.1 (40 * q.1 + q.2.2.2) q.2.2.1
theorem m_withinC (Λ : Lay) (σ : Store) (v : Int32) : Ct Λ mt_Md_within 0 [.int v] σ (PF (clamp9 v) σ) := m_within Λ σ v
set_option maxRecDepth 20000 in
theorem q_minds_lp {X : CX} {σ : Store} {f b : Row} {t i o n : Nat} (ht : t ≤ 3) (hi : i + n ≤ 40) (ho : o + n ≤ 8) {Post : Option Value → Store → Prop} (hp : Post (some (.int (nI n))) (mS σ (mdF f (σ 10) o (40 * t + i) n) b)) : ∀ (b9 k : Nat), k ≤ n → n - k < b9 → Rt (ΛM, mt_Md_minds, 2) (Post) X → G (ΛM, mt_Md_minds, 2) X (mS σ (mdF f (σ 10) o (40 * t + i) k) b) [some (.ref 0), some (.int (nI t)), some (.int (nI i)), some (.int (nI o)), some (.int (nI n)), some (.int (nI k))] [] 98 := by
  intro b9
  induction b9 with
  | zero => intro k hk hb hR; omega
  | succ b9 ih =>
  intro k hk hb hR
  refine g_iload (by decide +kernel : decode prog_10_method_91_code 98 = .ok (.iload 5, 2)) rfl ?_
  refine g_iload (by decide +kernel : decode prog_10_method_91_code 100 = .ok (.iload 4, 2)) rfl ?_
  refine g_icmp_geN (tgt := 145) (by decide +kernel : decode prog_10_method_91_code 102 = .ok (.if_icmp .ge 43, 3)) (by decide) (by omega) (by omega) (fun h102 => ?_) (fun h102 => ?_)
  · refine g_iload (by decide +kernel : decode prog_10_method_91_code 145 = .ok (.iload 4, 2)) rfl ?_
    exact g_iret hR (by decide +kernel : decode prog_10_method_91_code 147 = .ok (.ireturn, 1)) rfl ((show k = n by omega) ▸ hp)
  · refine g_aload_n (by decide +kernel : decode prog_10_method_91_code 105 = .ok (.aload_n 0, 1)) rfl ?_
    refine g_getR (by decide +kernel : decode prog_10_method_91_code 106 = .ok (.getfield 7, 3)) fl_Md_7 rfl rfl ?_
    refine g_bipush (v := nI 19) (by decide +kernel : decode prog_10_method_91_code 109 = .ok (.bipush 19, 2)) (by decide) ?_
    refine g_bipush (v := nI 6) (by decide +kernel : decode prog_10_method_91_code 111 = .ok (.bipush 6, 2)) (by decide) ?_
    refine g_iload_n (by decide +kernel : decode prog_10_method_91_code 113 = .ok (.iload_n 3, 1)) rfl ?_
    refine g_iload (by decide +kernel : decode prog_10_method_91_code 114 = .ok (.iload 5, 2)) rfl ?_
    refine g_iaddN (by decide +kernel : decode prog_10_method_91_code 116 = .ok (.iadd, 1)) ?_
    refine g_imulN (by decide +kernel : decode prog_10_method_91_code 117 = .ok (.imul, 1)) ?_
    refine g_iaddN (by decide +kernel : decode prog_10_method_91_code 118 = .ok (.iadd, 1)) ?_
    refine g_iconst (v := nI 2) (by decide +kernel : decode prog_10_method_91_code 119 = .ok (.iconst 2, 1)) (by decide) ?_
    refine g_iaddN (by decide +kernel : decode prog_10_method_91_code 120 = .ok (.iadd, 1)) ?_
    refine g_aload_n (by decide +kernel : decode prog_10_method_91_code 121 = .ok (.aload_n 0, 1)) rfl ?_
    refine g_getR (by decide +kernel : decode prog_10_method_91_code 122 = .ok (.getfield 37, 3)) fl_Md_37 rfl rfl ?_
    refine g_bipush (v := nI 40) (by decide +kernel : decode prog_10_method_91_code 125 = .ok (.bipush 40, 2)) (by decide) ?_
    refine g_iload_n (by decide +kernel : decode prog_10_method_91_code 127 = .ok (.iload_n 1, 1)) rfl ?_
    refine g_imulN (by decide +kernel : decode prog_10_method_91_code 128 = .ok (.imul, 1)) ?_
    refine g_iload_n (by decide +kernel : decode prog_10_method_91_code 129 = .ok (.iload_n 2, 1)) rfl ?_
    refine g_iaddN (by decide +kernel : decode prog_10_method_91_code 130 = .ok (.iadd, 1)) ?_
    refine g_iload (by decide +kernel : decode prog_10_method_91_code 131 = .ok (.iload 5, 2)) rfl ?_
    refine g_iaddN (by decide +kernel : decode prog_10_method_91_code 133 = .ok (.iadd, 1)) ?_
    refine g_iaload (a := 40 * t + i + k) (by decide +kernel : decode prog_10_method_91_code 134 = .ok (.iaload, 1)) rfl rfl (by omega) (by decide) ?_
    refine g_top (w := σ 10 (40 * t + i + k)) (rfl) ?_
    refine g_callSI [.int (σ 10 (40 * t + i + k))] (by decide +kernel : decode prog_10_method_91_code 135 = .ok (.invokestatic 266, 3)) lk_Md_266 (m_withinC ΛM (mS σ (mdF f (σ 10) o (40 * t + i) k) b) (σ 10 (40 * t + i + k))) rfl rfl (Nat.le_of_ble_eq_true rfl) (Nat.le_of_ble_eq_true rfl) (fun r135 s135 h135 => ?_)
    obtain ⟨rfl, rfl⟩ := h135
    refine g_iastore (a := 19 + (6 * (o + k)) + 2) (by decide +kernel : decode prog_10_method_91_code 138 = .ok (.iastore, 1)) rfl rfl (by omega) (by decide) ?_
    refine g_sto (mS_u1 _ _ _ _ _) ?_
    refine g_iincN (n := 1) (L' := [some (.ref 0), some (.int (nI t)), some (.int (nI i)), some (.int (nI o)), some (.int (nI n)), some (.int (nI (k + 1)))]) (by decide +kernel : decode prog_10_method_91_code 139 = .ok (.iinc 5 1, 3)) rfl (by decide) (Nat.le_of_ble_eq_true rfl) rfl ?_
    refine g_goto (tgt := 98) (by decide +kernel : decode prog_10_method_91_code 142 = .ok (.goto (-44), 3)) (by decide) ?_
    exact ih (k + 1) (by omega) (by omega) hR
theorem lg_add {a b c : Nat} (ha : a < 2 ^ 30) (hb : b < 2 ^ 30) (hc : c < 2 ^ 30) : lg_cmp (lN a + lN b) (lN c) ≤ 0 ↔ a + b ≤ c := by
  have h1 : ¬ (0 < lg_cmp (lN a + lN b) (lN c)) ↔ ¬ (lN c < lN a + lN b) := not_congr lg_gt0
  rw [lN_add, lN_lt (by omega) (by omega)] at h1
  rw [lN_add]
  rw [Int32.not_lt] at h1
  rw [h1]; omega
set_option maxRecDepth 20000 in
theorem q_minds (σ : Store) (f b : Row) (hI : Inv f) (hS : ShI σ) (x y z u : Int32) : Ct ΛM mt_Md_minds 2 [.ref 0, .int x, .int y, .int z, .int u] (mS σ f b) (PF (mindsV σ f x y z u) (mS σ (mindsT σ f x y z u) b)) := by
  refine Ct.of (by decide) (Nat.le_of_ble_eq_true rfl) (fun X hR => ?_)
  show G (ΛM, mt_Md_minds, 2) X (mS σ f b) [some (.ref 0), some (.int x), some (.int y), some (.int z), some (.int u), none] [] 0
  have hn8 := hI.n.2
  refine g_iload_n (by decide +kernel : decode prog_10_method_91_code 0 = .ok (.iload_n 1, 1)) rfl ?_
  refine g_callSI [.int x] (by decide +kernel : decode prog_10_method_91_code 1 = .ok (.invokestatic 240, 3)) lk_Md_240 (m_isSheet ΛM (mS σ f b) x) rfl rfl (Nat.le_of_ble_eq_true rfl) (Nat.le_of_ble_eq_true rfl) (fun r1 s1 h1 => ?_)
  rcases h1 with ⟨rfl, ⟨rfl, t, ha1, hb1, rfl⟩ | ⟨rfl, n1⟩⟩
  · refine g_if_eqN (tgt := 41) (by decide +kernel : decode prog_10_method_91_code 4 = .ok (.ifCond .eq 37, 3)) (by decide) (by decide) (fun h => False.elim (by revert h; decide)) (fun _ => ?_)
    refine g_aload_n (by decide +kernel : decode prog_10_method_91_code 7 = .ok (.aload_n 0, 1)) rfl ?_
    refine g_iload_n (by decide +kernel : decode prog_10_method_91_code 8 = .ok (.iload_n 3, 1)) rfl ?_
    refine g_callVI [.int z] (by decide +kernel : decode prog_10_method_91_code 9 = .ok (.invokevirtual 172, 3)) lk_Md_172 (m_isOne (mS σ f b) z hI.n.1 (by omega)) rfl rfl rfl rfl (Nat.le_of_ble_eq_true rfl) (Nat.le_of_ble_eq_true rfl) (fun r9 s9 h9 => ?_)
    rcases h9 with ⟨rfl, ⟨rfl, o, ho9, rfl⟩ | ⟨rfl, n9⟩⟩
    · refine g_if_eqN (tgt := 41) (by decide +kernel : decode prog_10_method_91_code 12 = .ok (.ifCond .eq 29, 3)) (by decide) (by decide) (fun h => False.elim (by revert h; decide)) (fun _ => ?_)
      refine g_iload (by decide +kernel : decode prog_10_method_91_code 15 = .ok (.iload 4, 2)) rfl ?_
      refine g_i2l (by decide +kernel : decode prog_10_method_91_code 17 = .ok (.i2l, 1)) ?_
      refine g_lconst (v := lN 0) (by decide +kernel : decode prog_10_method_91_code 18 = .ok (.lconst 0, 1)) (by decide) ?_
      refine g_ldc2 (v := lN 8) (by decide +kernel : decode prog_10_method_91_code 19 = .ok (.ldc2_w 55, 3)) kc_Md_55 ?_
      refine g_callSI [.long (Int32.toInt64 u), .long (lN 0), .long (lN 8)] (by decide +kernel : decode prog_10_method_91_code 22 = .ok (.invokestatic 57, 3)) lk_Md_57 (m_isInN ΛM (mS σ f b) u 0 8) rfl rfl (Nat.le_of_ble_eq_true rfl) (Nat.le_of_ble_eq_true rfl) (fun r22 s22 h22 => ?_)
      rcases h22 with ⟨rfl, ⟨rfl, n, ha22, hb22, rfl⟩ | ⟨rfl, n22⟩⟩
      · refine g_if_eqN (tgt := 41) (by decide +kernel : decode prog_10_method_91_code 25 = .ok (.ifCond .eq 16, 3)) (by decide) (by decide) (fun h => False.elim (by revert h; decide)) (fun _ => ?_)
        refine g_iload_n (by decide +kernel : decode prog_10_method_91_code 28 = .ok (.iload_n 3, 1)) rfl ?_
        refine g_iload (by decide +kernel : decode prog_10_method_91_code 29 = .ok (.iload 4, 2)) rfl ?_
        refine g_iaddN (by decide +kernel : decode prog_10_method_91_code 31 = .ok (.iadd, 1)) ?_
        refine g_aload_n (by decide +kernel : decode prog_10_method_91_code 32 = .ok (.aload_n 0, 1)) rfl ?_
        refine g_getR (by decide +kernel : decode prog_10_method_91_code 33 = .ok (.getfield 7, 3)) fl_Md_7 rfl rfl ?_
        refine g_iconst (v := nI 0) (by decide +kernel : decode prog_10_method_91_code 36 = .ok (.iconst 0, 1)) (by decide) ?_
        refine g_iaload (a := 0) (by decide +kernel : decode prog_10_method_91_code 37 = .ok (.iaload, 1)) rfl rfl (by decide) (by decide) ?_
        refine g_top (w := nI (nn f)) (hI.n.1) ?_
        refine g_icmp_leN (tgt := 43) (by decide +kernel : decode prog_10_method_91_code 38 = .ok (.if_icmp .le 5, 3)) (by decide) (by omega) (by omega) (fun h38 => ?_) (fun h38 => ?_)
        · obtain ⟨m, hm, e9⟩ := (hS t (by omega)).2
          have htn : tn (σ 9 t) = m := by rw [e9, tn_nI (by omega)]
          rcases (hS t (by omega)).1 with e8 | ⟨s, hs, e8⟩
          · refine g_aload_n (by decide +kernel : decode prog_10_method_91_code 43 = .ok (.aload_n 0, 1)) rfl ?_
            refine g_iload_n (by decide +kernel : decode prog_10_method_91_code 44 = .ok (.iload_n 1, 1)) rfl ?_
            refine g_iconst (v := nI 0) (by decide +kernel : decode prog_10_method_91_code 45 = .ok (.iconst 0, 1)) (by decide) ?_
            refine g_callVI [.int (nI t), .int (nI 0)] (by decide +kernel : decode prog_10_method_91_code 46 = .ok (.invokevirtual 263, 3)) lk_Md_263 (m_lacks σ f b t (by omega) (nI 0)) rfl rfl rfl rfl (Nat.le_of_ble_eq_true rfl) (Nat.le_of_ble_eq_true rfl) (fun r46 s46 h46 => ?_)
            obtain ⟨rfl, rfl⟩ := h46
            refine g_top (w := -11) (by rw [e8]; rfl) ?_
            refine g_if_eq (tgt := 59) (by decide +kernel : decode prog_10_method_91_code 49 = .ok (.ifCond .eq 10, 3)) (by decide) (fun h => False.elim (by revert h; decide)) (fun _ => ?_)
            refine g_aload_n (by decide +kernel : decode prog_10_method_91_code 52 = .ok (.aload_n 0, 1)) rfl ?_
            refine g_iload_n (by decide +kernel : decode prog_10_method_91_code 53 = .ok (.iload_n 1, 1)) rfl ?_
            refine g_iconst (v := nI 0) (by decide +kernel : decode prog_10_method_91_code 54 = .ok (.iconst 0, 1)) (by decide) ?_
            refine g_callVI [.int (nI t), .int (nI 0)] (by decide +kernel : decode prog_10_method_91_code 55 = .ok (.invokevirtual 263, 3)) lk_Md_263 (m_lacks σ f b t (by omega) (nI 0)) rfl rfl rfl rfl (Nat.le_of_ble_eq_true rfl) (Nat.le_of_ble_eq_true rfl) (fun r55 s55 h55 => ?_)
            obtain ⟨rfl, rfl⟩ := h55
            refine g_top (w := -11) (by rw [e8]; rfl) ?_
            exact g_iret hR (by decide +kernel : decode prog_10_method_91_code 58 = .ok (.ireturn, 1)) rfl ⟨_, rfl, ⟨by simp only [mindsV, mdsC, rg_of ha1 hb1, pz_of hI ho9, rg_of ha22 hb22, if_pos h38, neg8 e8], by simp only [mindsT, mdsC, rg_of ha1 hb1, pz_of hI ho9, rg_of ha22 hb22, if_pos h38, neg8 e8]⟩⟩
          · by_cases hsq : nI s = nI 0
            · refine g_aload_n (by decide +kernel : decode prog_10_method_91_code 43 = .ok (.aload_n 0, 1)) rfl ?_
              refine g_iload_n (by decide +kernel : decode prog_10_method_91_code 44 = .ok (.iload_n 1, 1)) rfl ?_
              refine g_iconst (v := nI 0) (by decide +kernel : decode prog_10_method_91_code 45 = .ok (.iconst 0, 1)) (by decide) ?_
              refine g_callVI [.int (nI t), .int (nI 0)] (by decide +kernel : decode prog_10_method_91_code 46 = .ok (.invokevirtual 263, 3)) lk_Md_263 (m_lacks σ f b t (by omega) (nI 0)) rfl rfl rfl rfl (Nat.le_of_ble_eq_true rfl) (Nat.le_of_ble_eq_true rfl) (fun r46 s46 h46 => ?_)
              obtain ⟨rfl, rfl⟩ := h46
              refine g_top (w := nI 0) (by rw [e8]; unfold lackF; rw [if_pos (nI_pos' (by omega)), if_pos hsq]) ?_
              refine g_if_eqN (tgt := 59) (by decide +kernel : decode prog_10_method_91_code 49 = .ok (.ifCond .eq 10, 3)) (by decide) (by decide) (fun _ => ?_) (fun h => False.elim (by revert h; decide))
              refine g_iload_n (by decide +kernel : decode prog_10_method_91_code 59 = .ok (.iload_n 2, 1)) rfl ?_
              refine g_i2l (by decide +kernel : decode prog_10_method_91_code 60 = .ok (.i2l, 1)) ?_
              refine g_lconst (v := lN 0) (by decide +kernel : decode prog_10_method_91_code 61 = .ok (.lconst 0, 1)) (by decide) ?_
              refine g_aload_n (by decide +kernel : decode prog_10_method_91_code 62 = .ok (.aload_n 0, 1)) rfl ?_
              refine g_getR (by decide +kernel : decode prog_10_method_91_code 63 = .ok (.getfield 34, 3)) fl_Md_34 rfl rfl ?_
              refine g_iload_n (by decide +kernel : decode prog_10_method_91_code 66 = .ok (.iload_n 1, 1)) rfl ?_
              refine g_iaload (a := t) (by decide +kernel : decode prog_10_method_91_code 67 = .ok (.iaload, 1)) rfl rfl (by omega) (by decide) ?_
              refine g_top (w := nI m) (e9) ?_
              refine g_i2lN (by decide +kernel : decode prog_10_method_91_code 68 = .ok (.i2l, 1)) (by omega) ?_
              refine g_callSI [.long (Int32.toInt64 y), .long (lN 0), .long (lN m)] (by decide +kernel : decode prog_10_method_91_code 69 = .ok (.invokestatic 57, 3)) lk_Md_57 (m_isInN ΛM (mS σ f b) y 0 m (by omega) (Nat.zero_le _)) rfl rfl (Nat.le_of_ble_eq_true rfl) (Nat.le_of_ble_eq_true rfl) (fun r69 s69 h69 => ?_)
              rcases h69 with ⟨rfl, ⟨rfl, i, ha69, hb69, rfl⟩ | ⟨rfl, n69⟩⟩
              · refine g_if_eqN (tgt := 92) (by decide +kernel : decode prog_10_method_91_code 72 = .ok (.ifCond .eq 20, 3)) (by decide) (by decide) (fun h => False.elim (by revert h; decide)) (fun _ => ?_)
                refine g_iload_n (by decide +kernel : decode prog_10_method_91_code 75 = .ok (.iload_n 2, 1)) rfl ?_
                refine g_i2lN (by decide +kernel : decode prog_10_method_91_code 76 = .ok (.i2l, 1)) (by omega) ?_
                refine g_iload (by decide +kernel : decode prog_10_method_91_code 77 = .ok (.iload 4, 2)) rfl ?_
                refine g_i2lN (by decide +kernel : decode prog_10_method_91_code 79 = .ok (.i2l, 1)) (by omega) ?_
                refine g_ladd (by decide +kernel : decode prog_10_method_91_code 80 = .ok (.ladd, 1)) ?_
                refine g_aload_n (by decide +kernel : decode prog_10_method_91_code 81 = .ok (.aload_n 0, 1)) rfl ?_
                refine g_getR (by decide +kernel : decode prog_10_method_91_code 82 = .ok (.getfield 34, 3)) fl_Md_34 rfl rfl ?_
                refine g_iload_n (by decide +kernel : decode prog_10_method_91_code 85 = .ok (.iload_n 1, 1)) rfl ?_
                refine g_iaload (a := t) (by decide +kernel : decode prog_10_method_91_code 86 = .ok (.iaload, 1)) rfl rfl (by omega) (by decide) ?_
                refine g_top (w := nI m) (e9) ?_
                refine g_i2lN (by decide +kernel : decode prog_10_method_91_code 87 = .ok (.i2l, 1)) (by omega) ?_
                refine g_lcmp (by decide +kernel : decode prog_10_method_91_code 88 = .ok (.lcmp, 1)) ?_
                refine g_if_le (tgt := 95) (by decide +kernel : decode prog_10_method_91_code 89 = .ok (.ifCond .le 6, 3)) (by decide) (fun h89 => ?_) (fun h89 => ?_)
                · have him : i + n ≤ m := (lg_add (by omega) (by omega) (by omega)).mp h89
                  refine g_iconst (v := nI 0) (by decide +kernel : decode prog_10_method_91_code 95 = .ok (.iconst 0, 1)) (by decide) ?_
                  refine g_istore (L' := [some (.ref 0), some (.int (nI t)), some (.int (nI i)), some (.int (nI o)), some (.int (nI n)), some (.int (nI 0))]) (by decide +kernel : decode prog_10_method_91_code 96 = .ok (.istore 5, 2)) (Nat.le_of_ble_eq_true rfl) rfl ?_
                  exact q_minds_lp (by omega) (by omega) (by omega) ⟨_, rfl, by simp only [mindsV, mdsC, rg_of ha1 hb1, pz_of hI ho9, rg_of ha22 hb22, if_pos h38, pos8 hs e8, if_pos (e8.trans hsq), rg_of ha69 hb69 (show m < 2 ^ 31 by omega), if_pos ((lg_add (show i < 2 ^ 30 by omega) (show n < 2 ^ 30 by omega) (show m < 2 ^ 30 by omega)).mp h89), htn], by simp only [mindsT, mdsC, rg_of ha1 hb1, pz_of hI ho9, rg_of ha22 hb22, if_pos h38, pos8 hs e8, if_pos (e8.trans hsq), rg_of ha69 hb69 (show m < 2 ^ 31 by omega), if_pos ((lg_add (show i < 2 ^ 30 by omega) (show n < 2 ^ 30 by omega) (show m < 2 ^ 30 by omega)).mp h89), htn]⟩ (n + 1) 0 (Nat.zero_le _) (by omega) hR
                · refine g_bipush (v := (-12)) (by decide +kernel : decode prog_10_method_91_code 92 = .ok (.bipush (-12), 2)) (by decide) ?_
                  exact g_iret hR (by decide +kernel : decode prog_10_method_91_code 94 = .ok (.ireturn, 1)) rfl ⟨_, rfl, ⟨by simp only [mindsV, mdsC, rg_of ha1 hb1, pz_of hI ho9, rg_of ha22 hb22, if_pos h38, pos8 hs e8, if_pos (e8.trans hsq), rg_of ha69 hb69 (show m < 2 ^ 31 by omega), if_neg (fun z => h89 ((lg_add (show i < 2 ^ 30 by omega) (show n < 2 ^ 30 by omega) (show m < 2 ^ 30 by omega)).mpr z)), htn], by simp only [mindsT, mdsC, rg_of ha1 hb1, pz_of hI ho9, rg_of ha22 hb22, if_pos h38, pos8 hs e8, if_pos (e8.trans hsq), rg_of ha69 hb69 (show m < 2 ^ 31 by omega), if_neg (fun z => h89 ((lg_add (show i < 2 ^ 30 by omega) (show n < 2 ^ 30 by omega) (show m < 2 ^ 30 by omega)).mpr z)), htn]⟩⟩
              · refine g_if_eqN (tgt := 92) (by decide +kernel : decode prog_10_method_91_code 72 = .ok (.ifCond .eq 20, 3)) (by decide) (by decide) (fun _ => ?_) (fun h => False.elim (by revert h; decide))
                refine g_bipush (v := (-12)) (by decide +kernel : decode prog_10_method_91_code 92 = .ok (.bipush (-12), 2)) (by decide) ?_
                exact g_iret hR (by decide +kernel : decode prog_10_method_91_code 94 = .ok (.ireturn, 1)) rfl ⟨_, rfl, ⟨by simp only [mindsV, mdsC, rg_of ha1 hb1, pz_of hI ho9, rg_of ha22 hb22, if_pos h38, pos8 hs e8, if_pos (e8.trans hsq), rg_none n69 (show m < 2 ^ 31 by omega) (Nat.zero_le _), htn], by simp only [mindsT, mdsC, rg_of ha1 hb1, pz_of hI ho9, rg_of ha22 hb22, if_pos h38, pos8 hs e8, if_pos (e8.trans hsq), rg_none n69 (show m < 2 ^ 31 by omega) (Nat.zero_le _), htn]⟩⟩
            · refine g_aload_n (by decide +kernel : decode prog_10_method_91_code 43 = .ok (.aload_n 0, 1)) rfl ?_
              refine g_iload_n (by decide +kernel : decode prog_10_method_91_code 44 = .ok (.iload_n 1, 1)) rfl ?_
              refine g_iconst (v := nI 0) (by decide +kernel : decode prog_10_method_91_code 45 = .ok (.iconst 0, 1)) (by decide) ?_
              refine g_callVI [.int (nI t), .int (nI 0)] (by decide +kernel : decode prog_10_method_91_code 46 = .ok (.invokevirtual 263, 3)) lk_Md_263 (m_lacks σ f b t (by omega) (nI 0)) rfl rfl rfl rfl (Nat.le_of_ble_eq_true rfl) (Nat.le_of_ble_eq_true rfl) (fun r46 s46 h46 => ?_)
              obtain ⟨rfl, rfl⟩ := h46
              refine g_top (w := -13) (by rw [e8]; unfold lackF; rw [if_pos (nI_pos' (by omega)), if_neg hsq]) ?_
              refine g_if_eq (tgt := 59) (by decide +kernel : decode prog_10_method_91_code 49 = .ok (.ifCond .eq 10, 3)) (by decide) (fun h => False.elim (by revert h; decide)) (fun _ => ?_)
              refine g_aload_n (by decide +kernel : decode prog_10_method_91_code 52 = .ok (.aload_n 0, 1)) rfl ?_
              refine g_iload_n (by decide +kernel : decode prog_10_method_91_code 53 = .ok (.iload_n 1, 1)) rfl ?_
              refine g_iconst (v := nI 0) (by decide +kernel : decode prog_10_method_91_code 54 = .ok (.iconst 0, 1)) (by decide) ?_
              refine g_callVI [.int (nI t), .int (nI 0)] (by decide +kernel : decode prog_10_method_91_code 55 = .ok (.invokevirtual 263, 3)) lk_Md_263 (m_lacks σ f b t (by omega) (nI 0)) rfl rfl rfl rfl (Nat.le_of_ble_eq_true rfl) (Nat.le_of_ble_eq_true rfl) (fun r55 s55 h55 => ?_)
              obtain ⟨rfl, rfl⟩ := h55
              refine g_top (w := -13) (by rw [e8]; unfold lackF; rw [if_pos (nI_pos' (by omega)), if_neg hsq]) ?_
              exact g_iret hR (by decide +kernel : decode prog_10_method_91_code 58 = .ok (.ireturn, 1)) rfl ⟨_, rfl, ⟨by simp only [mindsV, mdsC, rg_of ha1 hb1, pz_of hI ho9, rg_of ha22 hb22, if_pos h38, pos8 hs e8, if_neg (fun z => hsq (e8.symm.trans z))], by simp only [mindsT, mdsC, rg_of ha1 hb1, pz_of hI ho9, rg_of ha22 hb22, if_pos h38, pos8 hs e8, if_neg (fun z => hsq (e8.symm.trans z))]⟩⟩
        · refine g_iconst (v := (-1)) (by decide +kernel : decode prog_10_method_91_code 41 = .ok (.iconst (-1), 1)) (by decide) ?_
          exact g_iret hR (by decide +kernel : decode prog_10_method_91_code 42 = .ok (.ireturn, 1)) rfl ⟨_, rfl, ⟨by simp only [mindsV, mdsC, rg_of ha1 hb1, pz_of hI ho9, rg_of ha22 hb22, if_neg h38], by simp only [mindsT, mdsC, rg_of ha1 hb1, pz_of hI ho9, rg_of ha22 hb22, if_neg h38]⟩⟩
      · refine g_if_eqN (tgt := 41) (by decide +kernel : decode prog_10_method_91_code 25 = .ok (.ifCond .eq 16, 3)) (by decide) (by decide) (fun _ => ?_) (fun h => False.elim (by revert h; decide))
        refine g_iconst (v := (-1)) (by decide +kernel : decode prog_10_method_91_code 41 = .ok (.iconst (-1), 1)) (by decide) ?_
        exact g_iret hR (by decide +kernel : decode prog_10_method_91_code 42 = .ok (.ireturn, 1)) rfl ⟨_, rfl, ⟨by simp only [mindsV, mdsC, rg_of ha1 hb1, pz_of hI ho9, rg_none n22], by simp only [mindsT, mdsC, rg_of ha1 hb1, pz_of hI ho9, rg_none n22]⟩⟩
    · refine g_if_eqN (tgt := 41) (by decide +kernel : decode prog_10_method_91_code 12 = .ok (.ifCond .eq 29, 3)) (by decide) (by decide) (fun _ => ?_) (fun h => False.elim (by revert h; decide))
      refine g_iconst (v := (-1)) (by decide +kernel : decode prog_10_method_91_code 41 = .ok (.iconst (-1), 1)) (by decide) ?_
      exact g_iret hR (by decide +kernel : decode prog_10_method_91_code 42 = .ok (.ireturn, 1)) rfl ⟨_, rfl, ⟨by simp only [mindsV, mdsC, rg_of ha1 hb1, pz_none hI n9], by simp only [mindsT, mdsC, rg_of ha1 hb1, pz_none hI n9]⟩⟩
  · refine g_if_eqN (tgt := 41) (by decide +kernel : decode prog_10_method_91_code 4 = .ok (.ifCond .eq 37, 3)) (by decide) (by decide) (fun _ => ?_) (fun h => False.elim (by revert h; decide))
    refine g_iconst (v := (-1)) (by decide +kernel : decode prog_10_method_91_code 41 = .ok (.iconst (-1), 1)) (by decide) ?_
    exact g_iret hR (by decide +kernel : decode prog_10_method_91_code 42 = .ok (.ireturn, 1)) rfl ⟨_, rfl, ⟨by simp only [mindsV, mdsC, rg_none n1], by simp only [mindsT, mdsC, rg_none n1]⟩⟩
/-- what the numbers of a sheet tell from the k-th year on is where one is -/
def tld (f : Row) (o : Nat) (R : Row) (q : Nat) : Nat → Nat → Bool
  | 0, _ => true
  | j + 1, k => if R (q + k) = -1 ∨ R (q + k) = yN 255 f (k + 1) (19 + 6 * o + 3) then tld f o R q j (k + 1) else false
theorem tld_yes {f R : Row} {o q n k : Nat} (hk : k < n) (h : R (q + k) = -1 ∨ R (q + k) = yN 255 f (k + 1) (19 + 6 * o + 3)) : tld f o R q (n - k) k = tld f o R q (n - (k + 1)) (k + 1) := by
  rw [show n - k = (n - (k + 1)) + 1 by omega]
  show (if _ then _ else _) = _
  rw [if_pos h]
theorem tld_no {f R : Row} {o q n k : Nat} (hk : k < n) (h : ¬ (R (q + k) = -1 ∨ R (q + k) = yN 255 f (k + 1) (19 + 6 * o + 3))) : tld f o R q (n - k) k = false := by
  rw [show n - k = (n - (k + 1)) + 1 by omega]
  show (if _ then _ else _) = _
  rw [if_neg h]
set_option maxRecDepth 20000 in
theorem m_told_lp {X : CX} {σ : Store} {f b : Row} (hI : Inv f) {o : Nat} (ho : o < nn f) {t n : Nat} (ht : t < 4) (e9 : σ 9 t = nI n) (hn : n ≤ 40) {c : Bool} : ∀ (b9 k : Nat), k ≤ n → n - k < b9 → tld f o (σ 10) (40 * t) (n - k) k = c → Rt (ΛM, mt_Md_isTold, 4) (PI (fun r σ' => r = nI (if c then 1 else 0) ∧ Jk σ f σ')) X → G (ΛM, mt_Md_isTold, 4) X (mS (s_row σ 3 f) (yN 255 f k) (yB 255 f b k)) [some (.ref 0), some (.int (nI t)), some (.int (nI o)), some (.int (nI 1)), some (.int (nI k))] [] 16 := by
  have hn8 := hI.n.2
  intro b9
  induction b9 with
  | zero => intro k hk hb hc hR; omega
  | succ b9 ih =>
  intro k hk hb hc hR
  refine g_iload (by decide +kernel : decode prog_10_method_76_code 16 = .ok (.iload 4, 2)) rfl ?_
  refine g_aload_n (by decide +kernel : decode prog_10_method_76_code 18 = .ok (.aload_n 0, 1)) rfl ?_
  refine g_getR (by decide +kernel : decode prog_10_method_76_code 19 = .ok (.getfield 34, 3)) fl_Md_34 rfl rfl ?_
  refine g_iload_n (by decide +kernel : decode prog_10_method_76_code 22 = .ok (.iload_n 1, 1)) rfl ?_
  refine g_iaload (a := t) (by decide +kernel : decode prog_10_method_76_code 23 = .ok (.iaload, 1)) rfl rfl (by omega) (by decide) ?_
  refine g_top (w := nI n) (e9) ?_
  refine g_icmp_geN (tgt := 87) (by decide +kernel : decode prog_10_method_76_code 24 = .ok (.if_icmp .ge 63, 3)) (by decide) (by omega) (by omega) (fun h24 => ?_) (fun h24 => ?_)
  · refine g_aload_n (by decide +kernel : decode prog_10_method_76_code 87 = .ok (.aload_n 0, 1)) rfl ?_
    refine g_getR (by decide +kernel : decode prog_10_method_76_code 88 = .ok (.getfield 16, 3)) fl_Md_16 rfl rfl ?_
    refine g_aload_n (by decide +kernel : decode prog_10_method_76_code 91 = .ok (.aload_n 0, 1)) rfl ?_
    refine g_getR (by decide +kernel : decode prog_10_method_76_code 92 = .ok (.getfield 7, 3)) fl_Md_7 rfl rfl ?_
    refine g_callSV [.ref 3, .ref 1] (by decide +kernel : decode prog_10_method_76_code 95 = .ok (.invokestatic 141, 3)) lk_Md_141 (m_back σ f (yN 255 f k) (yB 255 f b k)) rfl rfl (Nat.le_of_ble_eq_true rfl) (Nat.le_of_ble_eq_true rfl) (fun s95 h95 => ?_)
    obtain rfl := h95
    refine g_iload_n (by decide +kernel : decode prog_10_method_76_code 98 = .ok (.iload_n 3, 1)) rfl ?_
    exact g_zret hR (by decide +kernel : decode prog_10_method_76_code 99 = .ok (.ireturn, 1)) rfl (by decide) ⟨_, rfl, ⟨by rw [← hc, show n - k = 0 by omega]; rfl, ⟨_, _, rfl⟩⟩⟩
  · refine g_iload_n (by decide +kernel : decode prog_10_method_76_code 27 = .ok (.iload_n 3, 1)) rfl ?_
    refine g_if_eqN (tgt := 87) (by decide +kernel : decode prog_10_method_76_code 28 = .ok (.ifCond .eq 59, 3)) (by decide) (by decide) (fun h => False.elim (by revert h; decide)) (fun _ => ?_)
    refine g_aload_n (by decide +kernel : decode prog_10_method_76_code 31 = .ok (.aload_n 0, 1)) rfl ?_
    refine g_sipush (v := nI 255) (by decide +kernel : decode prog_10_method_76_code 32 = .ok (.sipush 255, 3)) (by decide) ?_
    refine g_callVV [.int (nI 255)] (by decide +kernel : decode prog_10_method_76_code 35 = .ok (.invokevirtual 202, 3)) lk_Md_202 ((m_goesBy (s_row σ 3 f) (yN 255 f k) (yB 255 f b k) (yN_inv hI k).1 255 (by omega))) rfl rfl rfl rfl (Nat.le_of_ble_eq_true rfl) (Nat.le_of_ble_eq_true rfl) (fun s35 h35 => ?_)
    obtain rfl := h35
    refine g_sto (σ' := mS (s_row σ 3 f) (yN 255 f (k + 1)) (yB 255 f b (k + 1))) (by rw [yr_1]; rfl) ?_
    refine g_aload_n (by decide +kernel : decode prog_10_method_76_code 38 = .ok (.aload_n 0, 1)) rfl ?_
    refine g_getR (by decide +kernel : decode prog_10_method_76_code 39 = .ok (.getfield 37, 3)) fl_Md_37 rfl rfl ?_
    refine g_bipush (v := nI 40) (by decide +kernel : decode prog_10_method_76_code 42 = .ok (.bipush 40, 2)) (by decide) ?_
    refine g_iload_n (by decide +kernel : decode prog_10_method_76_code 44 = .ok (.iload_n 1, 1)) rfl ?_
    refine g_imulN (by decide +kernel : decode prog_10_method_76_code 45 = .ok (.imul, 1)) ?_
    refine g_iload (by decide +kernel : decode prog_10_method_76_code 46 = .ok (.iload 4, 2)) rfl ?_
    refine g_iaddN (by decide +kernel : decode prog_10_method_76_code 48 = .ok (.iadd, 1)) ?_
    refine g_iaload (a := 40 * t + k) (by decide +kernel : decode prog_10_method_76_code 49 = .ok (.iaload, 1)) rfl rfl (by omega) (by decide) ?_
    refine g_top (w := σ 10 (40 * t + k)) (rfl) ?_
    refine g_iconst (v := (-1)) (by decide +kernel : decode prog_10_method_76_code 50 = .ok (.iconst (-1), 1)) (by decide) ?_
    refine g_icmp_eq (tgt := 75) (by decide +kernel : decode prog_10_method_76_code 51 = .ok (.if_icmp .eq 24, 3)) (by decide) (fun h51 => ?_) (fun h51 => ?_)
    · refine g_iconst (v := nI 1) (by decide +kernel : decode prog_10_method_76_code 75 = .ok (.iconst 1, 1)) (by decide) ?_
      refine g_goto (tgt := 80) (by decide +kernel : decode prog_10_method_76_code 76 = .ok (.goto 4, 3)) (by decide) ?_
      refine g_istore_n (L' := [some (.ref 0), some (.int (nI t)), some (.int (nI o)), some (.int (nI 1)), some (.int (nI k))]) (by decide +kernel : decode prog_10_method_76_code 80 = .ok (.istore_n 3, 1)) (Nat.le_of_ble_eq_true rfl) rfl ?_
      refine g_iincN (n := 1) (L' := [some (.ref 0), some (.int (nI t)), some (.int (nI o)), some (.int (nI 1)), some (.int (nI (k + 1)))]) (by decide +kernel : decode prog_10_method_76_code 81 = .ok (.iinc 4 1, 3)) rfl (by decide) (Nat.le_of_ble_eq_true rfl) rfl ?_
      refine g_goto (tgt := 16) (by decide +kernel : decode prog_10_method_76_code 84 = .ok (.goto (-68), 3)) (by decide) ?_
      exact ih (k + 1) (by omega) (by omega) (by rw [← hc]; exact (tld_yes (by omega) (Or.inl h51)).symm) hR
    · refine g_aload_n (by decide +kernel : decode prog_10_method_76_code 54 = .ok (.aload_n 0, 1)) rfl ?_
      refine g_getR (by decide +kernel : decode prog_10_method_76_code 55 = .ok (.getfield 37, 3)) fl_Md_37 rfl rfl ?_
      refine g_bipush (v := nI 40) (by decide +kernel : decode prog_10_method_76_code 58 = .ok (.bipush 40, 2)) (by decide) ?_
      refine g_iload_n (by decide +kernel : decode prog_10_method_76_code 60 = .ok (.iload_n 1, 1)) rfl ?_
      refine g_imulN (by decide +kernel : decode prog_10_method_76_code 61 = .ok (.imul, 1)) ?_
      refine g_iload (by decide +kernel : decode prog_10_method_76_code 62 = .ok (.iload 4, 2)) rfl ?_
      refine g_iaddN (by decide +kernel : decode prog_10_method_76_code 64 = .ok (.iadd, 1)) ?_
      refine g_iaload (a := 40 * t + k) (by decide +kernel : decode prog_10_method_76_code 65 = .ok (.iaload, 1)) rfl rfl (by omega) (by decide) ?_
      refine g_top (w := σ 10 (40 * t + k)) (rfl) ?_
      refine g_aload_n (by decide +kernel : decode prog_10_method_76_code 66 = .ok (.aload_n 0, 1)) rfl ?_
      refine g_iload_n (by decide +kernel : decode prog_10_method_76_code 67 = .ok (.iload_n 2, 1)) rfl ?_
      refine g_iconst (v := nI 3) (by decide +kernel : decode prog_10_method_76_code 68 = .ok (.iconst 3, 1)) (by decide) ?_
      refine g_callVI [.int (nI o), .int (nI 3)] (by decide +kernel : decode prog_10_method_76_code 69 = .ok (.invokevirtual 169, 3)) lk_Md_169 (m_its (mS (s_row σ 3 f) (yN 255 f (k + 1)) (yB 255 f b (k + 1))) o 3 (v := yN 255 f (k + 1) (19 + 6 * o + 3)) rfl (by omega)) rfl rfl rfl rfl (Nat.le_of_ble_eq_true rfl) (Nat.le_of_ble_eq_true rfl) (fun r69 s69 h69 => ?_)
      obtain ⟨rfl, rfl⟩ := h69
      refine g_icmp_ne (tgt := 79) (by decide +kernel : decode prog_10_method_76_code 72 = .ok (.if_icmp .ne 7, 3)) (by decide) (fun h72 => ?_) (fun h72 => ?_)
      · refine g_iconst (v := nI 0) (by decide +kernel : decode prog_10_method_76_code 79 = .ok (.iconst 0, 1)) (by decide) ?_
        refine g_istore_n (L' := [some (.ref 0), some (.int (nI t)), some (.int (nI o)), some (.int (nI 0)), some (.int (nI k))]) (by decide +kernel : decode prog_10_method_76_code 80 = .ok (.istore_n 3, 1)) (Nat.le_of_ble_eq_true rfl) rfl ?_
        refine g_iincN (n := 1) (L' := [some (.ref 0), some (.int (nI t)), some (.int (nI o)), some (.int (nI 0)), some (.int (nI (k + 1)))]) (by decide +kernel : decode prog_10_method_76_code 81 = .ok (.iinc 4 1, 3)) rfl (by decide) (Nat.le_of_ble_eq_true rfl) rfl ?_
        refine g_goto (tgt := 16) (by decide +kernel : decode prog_10_method_76_code 84 = .ok (.goto (-68), 3)) (by decide) ?_
        refine g_iload (by decide +kernel : decode prog_10_method_76_code 16 = .ok (.iload 4, 2)) rfl ?_
        refine g_aload_n (by decide +kernel : decode prog_10_method_76_code 18 = .ok (.aload_n 0, 1)) rfl ?_
        refine g_getR (by decide +kernel : decode prog_10_method_76_code 19 = .ok (.getfield 34, 3)) fl_Md_34 rfl rfl ?_
        refine g_iload_n (by decide +kernel : decode prog_10_method_76_code 22 = .ok (.iload_n 1, 1)) rfl ?_
        refine g_iaload (a := t) (by decide +kernel : decode prog_10_method_76_code 23 = .ok (.iaload, 1)) rfl rfl (by omega) (by decide) ?_
        refine g_top (w := nI n) (e9) ?_
        refine g_icmp_geN (tgt := 87) (by decide +kernel : decode prog_10_method_76_code 24 = .ok (.if_icmp .ge 63, 3)) (by decide) (by omega) (by omega) (fun h24 => ?_) (fun h24 => ?_)
        · refine g_aload_n (by decide +kernel : decode prog_10_method_76_code 87 = .ok (.aload_n 0, 1)) rfl ?_
          refine g_getR (by decide +kernel : decode prog_10_method_76_code 88 = .ok (.getfield 16, 3)) fl_Md_16 rfl rfl ?_
          refine g_aload_n (by decide +kernel : decode prog_10_method_76_code 91 = .ok (.aload_n 0, 1)) rfl ?_
          refine g_getR (by decide +kernel : decode prog_10_method_76_code 92 = .ok (.getfield 7, 3)) fl_Md_7 rfl rfl ?_
          refine g_callSV [.ref 3, .ref 1] (by decide +kernel : decode prog_10_method_76_code 95 = .ok (.invokestatic 141, 3)) lk_Md_141 (m_back σ f (yN 255 f (k + 1)) (yB 255 f b (k + 1))) rfl rfl (Nat.le_of_ble_eq_true rfl) (Nat.le_of_ble_eq_true rfl) (fun s95 h95 => ?_)
          obtain rfl := h95
          refine g_iload_n (by decide +kernel : decode prog_10_method_76_code 98 = .ok (.iload_n 3, 1)) rfl ?_
          exact g_zret hR (by decide +kernel : decode prog_10_method_76_code 99 = .ok (.ireturn, 1)) rfl (by decide) ⟨_, rfl, ⟨by rw [← hc, tld_no (by omega) (fun z => z.elim h51 h72)]; rfl, ⟨_, _, rfl⟩⟩⟩
        · refine g_iload_n (by decide +kernel : decode prog_10_method_76_code 27 = .ok (.iload_n 3, 1)) rfl ?_
          refine g_if_eqN (tgt := 87) (by decide +kernel : decode prog_10_method_76_code 28 = .ok (.ifCond .eq 59, 3)) (by decide) (by decide) (fun _ => ?_) (fun h => False.elim (by revert h; decide))
          refine g_aload_n (by decide +kernel : decode prog_10_method_76_code 87 = .ok (.aload_n 0, 1)) rfl ?_
          refine g_getR (by decide +kernel : decode prog_10_method_76_code 88 = .ok (.getfield 16, 3)) fl_Md_16 rfl rfl ?_
          refine g_aload_n (by decide +kernel : decode prog_10_method_76_code 91 = .ok (.aload_n 0, 1)) rfl ?_
          refine g_getR (by decide +kernel : decode prog_10_method_76_code 92 = .ok (.getfield 7, 3)) fl_Md_7 rfl rfl ?_
          refine g_callSV [.ref 3, .ref 1] (by decide +kernel : decode prog_10_method_76_code 95 = .ok (.invokestatic 141, 3)) lk_Md_141 (m_back σ f (yN 255 f (k + 1)) (yB 255 f b (k + 1))) rfl rfl (Nat.le_of_ble_eq_true rfl) (Nat.le_of_ble_eq_true rfl) (fun s95 h95 => ?_)
          obtain rfl := h95
          refine g_iload_n (by decide +kernel : decode prog_10_method_76_code 98 = .ok (.iload_n 3, 1)) rfl ?_
          exact g_zret hR (by decide +kernel : decode prog_10_method_76_code 99 = .ok (.ireturn, 1)) rfl (by decide) ⟨_, rfl, ⟨by rw [← hc, tld_no (by omega) (fun z => z.elim h51 h72)]; rfl, ⟨_, _, rfl⟩⟩⟩
      · refine g_iconst (v := nI 1) (by decide +kernel : decode prog_10_method_76_code 75 = .ok (.iconst 1, 1)) (by decide) ?_
        refine g_goto (tgt := 80) (by decide +kernel : decode prog_10_method_76_code 76 = .ok (.goto 4, 3)) (by decide) ?_
        refine g_istore_n (L' := [some (.ref 0), some (.int (nI t)), some (.int (nI o)), some (.int (nI 1)), some (.int (nI k))]) (by decide +kernel : decode prog_10_method_76_code 80 = .ok (.istore_n 3, 1)) (Nat.le_of_ble_eq_true rfl) rfl ?_
        refine g_iincN (n := 1) (L' := [some (.ref 0), some (.int (nI t)), some (.int (nI o)), some (.int (nI 1)), some (.int (nI (k + 1)))]) (by decide +kernel : decode prog_10_method_76_code 81 = .ok (.iinc 4 1, 3)) rfl (by decide) (Nat.le_of_ble_eq_true rfl) rfl ?_
        refine g_goto (tgt := 16) (by decide +kernel : decode prog_10_method_76_code 84 = .ok (.goto (-68), 3)) (by decide) ?_
        exact ih (k + 1) (by omega) (by omega) (by rw [← hc]; exact (tld_yes (by omega) (Or.inr h72)).symm) hR
set_option maxRecDepth 20000 in
theorem m_isTold (σ : Store) (f b : Row) (hI : Inv f) (o : Nat) (ho : o < nn f) (t n : Nat) (ht : t < 4) (e9 : σ 9 t = nI n) (hn : n ≤ 40) : Ct ΛM mt_Md_isTold 4 [.ref 0, .int (nI t), .int (nI o)] (mS σ f b) (PI (fun r σ' => r = nI (if tld f o (σ 10) (40 * t) n 0 then 1 else 0) ∧ Jk σ f σ')) := by
  refine Ct.of (by decide) (Nat.le_of_ble_eq_true rfl) (fun X hR => ?_)
  show G (ΛM, mt_Md_isTold, 4) X (mS σ f b) [some (.ref 0), some (.int (nI t)), some (.int (nI o)), none, none] [] 0
  refine g_aload_n (by decide +kernel : decode prog_10_method_76_code 0 = .ok (.aload_n 0, 1)) rfl ?_
  refine g_getR (by decide +kernel : decode prog_10_method_76_code 1 = .ok (.getfield 7, 3)) fl_Md_7 rfl rfl ?_
  refine g_aload_n (by decide +kernel : decode prog_10_method_76_code 4 = .ok (.aload_n 0, 1)) rfl ?_
  refine g_getR (by decide +kernel : decode prog_10_method_76_code 5 = .ok (.getfield 16, 3)) fl_Md_16 rfl rfl ?_
  refine g_callSV [.ref 1, .ref 3] (by decide +kernel : decode prog_10_method_76_code 8 = .ok (.invokestatic 141, 3)) lk_Md_141 (m_aside σ f b) rfl rfl (Nat.le_of_ble_eq_true rfl) (Nat.le_of_ble_eq_true rfl) (fun s8 h8 => ?_)
  obtain rfl := h8
  refine g_iconst (v := nI 1) (by decide +kernel : decode prog_10_method_76_code 11 = .ok (.iconst 1, 1)) (by decide) ?_
  refine g_istore_n (L' := [some (.ref 0), some (.int (nI t)), some (.int (nI o)), some (.int (nI 1)), none]) (by decide +kernel : decode prog_10_method_76_code 12 = .ok (.istore_n 3, 1)) (Nat.le_of_ble_eq_true rfl) rfl ?_
  refine g_iconst (v := nI 0) (by decide +kernel : decode prog_10_method_76_code 13 = .ok (.iconst 0, 1)) (by decide) ?_
  refine g_istore (L' := [some (.ref 0), some (.int (nI t)), some (.int (nI o)), some (.int (nI 1)), some (.int (nI 0))]) (by decide +kernel : decode prog_10_method_76_code 14 = .ok (.istore 4, 2)) (Nat.le_of_ble_eq_true rfl) rfl ?_
  exact m_told_lp hI ho ht e9 hn (n + 1) 0 (Nat.zero_le _) (by omega) rfl hR
end
section
/-! THE REFERENCE: fits, shelves -/
/-- of the wits 9, 8, .. those that fit: how many, the least so far -/
def ftF (P : Nat → Bool) : Nat → Nat × Int32
  | 0 => (0, -3)
  | c + 1 => if P (9 - c) then ((ftF P c).1 + 1, nI (9 - c)) else ftF P c
theorem ftF_le (P : Nat → Bool) : ∀ c, (ftF P c).1 ≤ c := by
  intro c
  induction c with
  | zero => exact Nat.le_refl _
  | succ c ih =>
    show (if _ then _ else _ : Nat × Int32).1 ≤ _
    split
    · show _ + 1 ≤ _; omega
    · omega
def fitsV (σ : Store) (f : Row) (x y z : Int32) : Int32 := match rg 0 3 x with
  | none => -1
  | some t => match pz f y with
    | none => -1
    | some o => match rg 0 1 z with
      | none => -1
      | some w => if σ 8 t < 0 then -11 else if w = 0 then nI (ftF (fun v => tld (upd f (19 + 6 * o + 2) (nI v)) o (σ 10) (40 * t) (tn (σ 9 t)) 0) 10).1 else (ftF (fun v => tld (upd f (19 + 6 * o + 2) (nI v)) o (σ 10) (40 * t) (tn (σ 9 t)) 0) 10).2
theorem ft_1 (P : Nat → Bool) (c : Nat) : (ftF P (c + 1)).1 = (ftF P c).1 + (if P (9 - c) then 1 else 0) := by
  show (if _ then _ else _ : Nat × Int32).1 = _
  split <;> rfl
theorem ft_2 (P : Nat → Bool) (c : Nat) : (ftF P (c + 1)).2 = if P (9 - c) then nI (9 - c) else (ftF P c).2 := by
  show (if _ then _ else _ : Nat × Int32).2 = _
  split <;> rfl
set_option maxRecDepth 20000 in
theorem q_fits_lp {X : CX} {σ : Store} {f : Row} (hI : Inv f) {o : Nat} (ho : o < nn f) {t n w : Nat} (ht : t < 4) (e9 : σ 9 t = nI n) (hn : n ≤ 40) (hw : w ≤ 1) {P : Nat → Bool} (hP : P = (fun v => tld (upd f (19 + 6 * o + 2) (nI v)) o (σ 10) (40 * t) n 0)) : ∀ (j : Nat), j ≤ 9 → ∀ (v : Int32), Rng v 9 → ∀ (a b : Row), Rt (ΛM, mt_Md_fits, 5) (mP σ (if w = 0 then nI (ftF P 10).1 else (ftF P 10).2) f) X → G (ΛM, mt_Md_fits, 5) X (mS (s_row σ 3 a) (upd f (19 + 6 * o + 2) v) b) [some (.ref 0), some (.int (nI t)), some (.int (nI o)), some (.int (nI w)), some (.int (nI (19 + 6 * o + 2))), some (.int (f (19 + 6 * o + 2))), some (.int (nI ((ftF P (9 - j)).1))), some (.int ((ftF P (9 - j)).2)), some (.int (nI j)), none] [] 70 := by
  have hn8 := hI.n.2
  intro j
  induction j with
  | zero =>
    intro hj v hv a b hR
    have hle := ftF_le P (9 - 0)
    refine g_iload (by decide +kernel : decode prog_10_method_77_code 70 = .ok (.iload 8, 2)) rfl ?_
    refine g_if_ltN (by decide +kernel : decode prog_10_method_77_code 72 = .ok (.ifCond .lt 55, 3)) (by decide) (by decide) ?_
    refine g_aload_n (by decide +kernel : decode prog_10_method_77_code 75 = .ok (.aload_n 0, 1)) rfl ?_
    refine g_getR (by decide +kernel : decode prog_10_method_77_code 76 = .ok (.getfield 7, 3)) fl_Md_7 rfl rfl ?_
    refine g_iload (by decide +kernel : decode prog_10_method_77_code 79 = .ok (.iload 4, 2)) rfl ?_
    refine g_iload (by decide +kernel : decode prog_10_method_77_code 81 = .ok (.iload 8, 2)) rfl ?_
    refine g_iastore (a := 19 + 6 * o + 2) (by decide +kernel : decode prog_10_method_77_code 83 = .ok (.iastore, 1)) rfl rfl (by first | omega | (have h9 := ite1 (P 0 = true); omega)) (by decide) ?_
    refine g_sto (mS_u1 _ _ _ _ _) ?_
    refine g_sto (σ' := mS (s_row σ 3 a) (upd f (19 + 6 * o + 2) (nI 0)) b) (by rw [upd_upd]) ?_
    refine g_aload_n (by decide +kernel : decode prog_10_method_77_code 84 = .ok (.aload_n 0, 1)) rfl ?_
    refine g_iload_n (by decide +kernel : decode prog_10_method_77_code 85 = .ok (.iload_n 1, 1)) rfl ?_
    refine g_iload_n (by decide +kernel : decode prog_10_method_77_code 86 = .ok (.iload_n 2, 1)) rfl ?_
    refine g_callVI [.int (nI t), .int (nI o)] (by decide +kernel : decode prog_10_method_77_code 87 = .ok (.invokevirtual 243, 3)) lk_Md_243 (m_isTold (s_row σ 3 a) (upd f (19 + 6 * o + 2) (nI 0)) b (hI.up (by decide) (Rng.of (by show 0 ≤ 9; omega))) o (by rw [nn_up (by omega)]; exact ho) t n ht e9 hn) rfl rfl rfl rfl (Nat.le_of_ble_eq_true rfl) (Nat.le_of_ble_eq_true rfl) (fun r87 s87 h87 => ?_)
    obtain ⟨rfl, a2, b2, rfl⟩ := h87
    refine g_sto (σ' := mS (s_row σ 3 a2) (upd f (19 + 6 * o + 2) (nI 0)) b2) (by rw [s_row_row]) ?_
    refine g_top (w := nI (if P 0 then 1 else 0)) (by rw [hP]; rfl) ?_
    refine g_istore (L' := [some (.ref 0), some (.int (nI t)), some (.int (nI o)), some (.int (nI w)), some (.int (nI (19 + 6 * o + 2))), some (.int (f (19 + 6 * o + 2))), some (.int (nI ((ftF P (9 - 0)).1))), some (.int ((ftF P (9 - 0)).2)), some (.int (nI 0)), some (.int (nI (if P 0 then 1 else 0)))]) (by decide +kernel : decode prog_10_method_77_code 90 = .ok (.istore 9, 2)) (Nat.le_of_ble_eq_true rfl) rfl ?_
    refine g_iload (by decide +kernel : decode prog_10_method_77_code 92 = .ok (.iload 6, 2)) rfl ?_
    refine g_iload (by decide +kernel : decode prog_10_method_77_code 94 = .ok (.iload 9, 2)) rfl ?_
    have J96 : G (ΛM, mt_Md_fits, 5) X (mS (s_row σ 3 a2) (upd f (19 + 6 * o + 2) (nI 0)) b2) [some (.ref 0), some (.int (nI t)), some (.int (nI o)), some (.int (nI w)), some (.int (nI (19 + 6 * o + 2))), some (.int (f (19 + 6 * o + 2))), some (.int (nI ((ftF P (9 - 0)).1))), some (.int ((ftF P (9 - 0)).2)), some (.int (nI 0)), some (.int (nI (if P 0 then 1 else 0)))] [.int (nI (if P 0 then 1 else 0)), .int (nI ((ftF P (9 - 0)).1))] 104 := by
      refine g_iaddN (by decide +kernel : decode prog_10_method_77_code 104 = .ok (.iadd, 1)) ?_
      refine g_top (w := nI (ftF P (9 - 0 + 1)).1) (by rw [ft_1 P (9 - 0), show 9 - (9 - 0) = 0 by omega]) ?_
      refine g_istore (L' := [some (.ref 0), some (.int (nI t)), some (.int (nI o)), some (.int (nI w)), some (.int (nI (19 + 6 * o + 2))), some (.int (f (19 + 6 * o + 2))), some (.int (nI ((ftF P (9 - 0 + 1)).1))), some (.int ((ftF P (9 - 0)).2)), some (.int (nI 0)), some (.int (nI (if P 0 then 1 else 0)))]) (by decide +kernel : decode prog_10_method_77_code 105 = .ok (.istore 6, 2)) (Nat.le_of_ble_eq_true rfl) rfl ?_
      refine g_iload (by decide +kernel : decode prog_10_method_77_code 107 = .ok (.iload 9, 2)) rfl ?_
      have J109 : G (ΛM, mt_Md_fits, 5) X (mS (s_row σ 3 a2) (upd f (19 + 6 * o + 2) (nI 0)) b2) [some (.ref 0), some (.int (nI t)), some (.int (nI o)), some (.int (nI w)), some (.int (nI (19 + 6 * o + 2))), some (.int (f (19 + 6 * o + 2))), some (.int (nI ((ftF P (9 - 0 + 1)).1))), some (.int ((ftF P (9 - 0)).2)), some (.int (nI 0)), some (.int (nI (if P 0 then 1 else 0)))] [.int ((ftF P (9 - 0 + 1)).2)] 119 := by
        refine g_istore (L' := [some (.ref 0), some (.int (nI t)), some (.int (nI o)), some (.int (nI w)), some (.int (nI (19 + 6 * o + 2))), some (.int (f (19 + 6 * o + 2))), some (.int (nI ((ftF P (9 - 0 + 1)).1))), some (.int ((ftF P (9 - 0 + 1)).2)), some (.int (nI 0)), some (.int (nI (if P 0 then 1 else 0)))]) (by decide +kernel : decode prog_10_method_77_code 119 = .ok (.istore 7, 2)) (Nat.le_of_ble_eq_true rfl) rfl ?_
        refine g_iinc (v := -1) (L' := [some (.ref 0), some (.int (nI t)), some (.int (nI o)), some (.int (nI w)), some (.int (nI (19 + 6 * o + 2))), some (.int (f (19 + 6 * o + 2))), some (.int (nI ((ftF P (9 - 0 + 1)).1))), some (.int ((ftF P (9 - 0 + 1)).2)), some (.int (-1)), some (.int (nI (if P 0 then 1 else 0)))]) (by decide +kernel : decode prog_10_method_77_code 121 = .ok (.iinc 8 (-1), 3)) rfl rfl (Nat.le_of_ble_eq_true rfl) rfl ?_
        refine g_goto (tgt := 70) (by decide +kernel : decode prog_10_method_77_code 124 = .ok (.goto (-54), 3)) (by decide) ?_
        refine g_iload (by decide +kernel : decode prog_10_method_77_code 70 = .ok (.iload 8, 2)) rfl ?_
        refine g_if_lt (tgt := 127) (by decide +kernel : decode prog_10_method_77_code 72 = .ok (.ifCond .lt 55, 3)) (by decide) (fun _ => ?_) (fun h => False.elim (by revert h; decide))
        refine g_aload_n (by decide +kernel : decode prog_10_method_77_code 127 = .ok (.aload_n 0, 1)) rfl ?_
        refine g_getR (by decide +kernel : decode prog_10_method_77_code 128 = .ok (.getfield 7, 3)) fl_Md_7 rfl rfl ?_
        refine g_iload (by decide +kernel : decode prog_10_method_77_code 131 = .ok (.iload 4, 2)) rfl ?_
        refine g_iload (by decide +kernel : decode prog_10_method_77_code 133 = .ok (.iload 5, 2)) rfl ?_
        refine g_iastore (a := 19 + 6 * o + 2) (by decide +kernel : decode prog_10_method_77_code 135 = .ok (.iastore, 1)) rfl rfl (by first | omega | (have h9 := ite1 (P 0 = true); omega)) (by decide) ?_
        refine g_sto (mS_u1 _ _ _ _ _) ?_
        refine g_sto (σ' := mS (s_row σ 3 a2) f b2) (by rw [upd_upd, upd_self]) ?_
        refine g_iload_n (by decide +kernel : decode prog_10_method_77_code 136 = .ok (.iload_n 3, 1)) rfl ?_
        refine g_if_neN (tgt := 145) (by decide +kernel : decode prog_10_method_77_code 137 = .ok (.ifCond .ne 8, 3)) (by decide) (by first | omega | (have h9 := ite1 (P 0 = true); omega)) (fun h137 => ?_) (fun h137 => ?_)
        · refine g_iload (by decide +kernel : decode prog_10_method_77_code 145 = .ok (.iload 7, 2)) rfl ?_
          exact g_iret hR (by decide +kernel : decode prog_10_method_77_code 147 = .ok (.ireturn, 1)) rfl ⟨_, rfl, ⟨by rw [if_neg h137], ⟨_, _, rfl⟩⟩⟩
        · refine g_iload (by decide +kernel : decode prog_10_method_77_code 140 = .ok (.iload 6, 2)) rfl ?_
          refine g_goto (tgt := 147) (by decide +kernel : decode prog_10_method_77_code 142 = .ok (.goto 5, 3)) (by decide) ?_
          exact g_iret hR (by decide +kernel : decode prog_10_method_77_code 147 = .ok (.ireturn, 1)) rfl ⟨_, rfl, ⟨by rw [if_pos h137], ⟨_, _, rfl⟩⟩⟩
      refine g_if_eqN (tgt := 117) (by decide +kernel : decode prog_10_method_77_code 109 = .ok (.ifCond .eq 8, 3)) (by decide) (by first | omega | (have h9 := ite1 (P 0 = true); omega)) (fun h109 => ?_) (fun h109 => ?_)
      · refine g_iload (by decide +kernel : decode prog_10_method_77_code 117 = .ok (.iload 7, 2)) rfl ?_
        exact g_top (by rw [ft_2 P (9 - 0), show 9 - (9 - 0) = 0 by omega]; exact (if_neg (fun z => by rw [if_pos z] at h109; exact absurd h109 (by decide))).symm) J109
      · refine g_iload (by decide +kernel : decode prog_10_method_77_code 112 = .ok (.iload 8, 2)) rfl ?_
        refine g_goto (tgt := 119) (by decide +kernel : decode prog_10_method_77_code 114 = .ok (.goto 5, 3)) (by decide) ?_
        exact g_top (by rw [ft_2 P (9 - 0), show 9 - (9 - 0) = 0 by omega]; exact (if_pos (by cases hz : P 0 with | true => rfl | false => rw [hz] at h109; exact absurd rfl h109)).symm) J109
    refine g_if_eqN (tgt := 103) (by decide +kernel : decode prog_10_method_77_code 96 = .ok (.ifCond .eq 7, 3)) (by decide) (by first | omega | (have h9 := ite1 (P 0 = true); omega)) (fun h96 => ?_) (fun h96 => ?_)
    · refine g_iconst (v := nI 0) (by decide +kernel : decode prog_10_method_77_code 103 = .ok (.iconst 0, 1)) (by decide) ?_
      exact g_top (by rw [h96]) J96
    · refine g_iconst (v := nI 1) (by decide +kernel : decode prog_10_method_77_code 99 = .ok (.iconst 1, 1)) (by decide) ?_
      refine g_goto (tgt := 104) (by decide +kernel : decode prog_10_method_77_code 100 = .ok (.goto 4, 3)) (by decide) ?_
      exact g_top (congrArg nI (by have h9 := ite1 (P 0 = true); omega)) J96
  | succ j ih =>
    intro hj v hv a b hR
    have hle := ftF_le P (9 - (j + 1))
    refine g_iload (by decide +kernel : decode prog_10_method_77_code 70 = .ok (.iload 8, 2)) rfl ?_
    refine g_if_ltN (by decide +kernel : decode prog_10_method_77_code 72 = .ok (.ifCond .lt 55, 3)) (by decide) (by first | omega | (have h9 := ite1 (P (j + 1) = true); omega)) ?_
    refine g_aload_n (by decide +kernel : decode prog_10_method_77_code 75 = .ok (.aload_n 0, 1)) rfl ?_
    refine g_getR (by decide +kernel : decode prog_10_method_77_code 76 = .ok (.getfield 7, 3)) fl_Md_7 rfl rfl ?_
    refine g_iload (by decide +kernel : decode prog_10_method_77_code 79 = .ok (.iload 4, 2)) rfl ?_
    refine g_iload (by decide +kernel : decode prog_10_method_77_code 81 = .ok (.iload 8, 2)) rfl ?_
    refine g_iastore (a := 19 + 6 * o + 2) (by decide +kernel : decode prog_10_method_77_code 83 = .ok (.iastore, 1)) rfl rfl (by first | omega | (have h9 := ite1 (P (j + 1) = true); omega)) (by decide) ?_
    refine g_sto (mS_u1 _ _ _ _ _) ?_
    refine g_sto (σ' := mS (s_row σ 3 a) (upd f (19 + 6 * o + 2) (nI (j + 1))) b) (by rw [upd_upd]) ?_
    refine g_aload_n (by decide +kernel : decode prog_10_method_77_code 84 = .ok (.aload_n 0, 1)) rfl ?_
    refine g_iload_n (by decide +kernel : decode prog_10_method_77_code 85 = .ok (.iload_n 1, 1)) rfl ?_
    refine g_iload_n (by decide +kernel : decode prog_10_method_77_code 86 = .ok (.iload_n 2, 1)) rfl ?_
    refine g_callVI [.int (nI t), .int (nI o)] (by decide +kernel : decode prog_10_method_77_code 87 = .ok (.invokevirtual 243, 3)) lk_Md_243 (m_isTold (s_row σ 3 a) (upd f (19 + 6 * o + 2) (nI (j + 1))) b (hI.up (by decide) (Rng.of (by show j + 1 ≤ 9; omega))) o (by rw [nn_up (by omega)]; exact ho) t n ht e9 hn) rfl rfl rfl rfl (Nat.le_of_ble_eq_true rfl) (Nat.le_of_ble_eq_true rfl) (fun r87 s87 h87 => ?_)
    obtain ⟨rfl, a2, b2, rfl⟩ := h87
    refine g_sto (σ' := mS (s_row σ 3 a2) (upd f (19 + 6 * o + 2) (nI (j + 1))) b2) (by rw [s_row_row]) ?_
    refine g_top (w := nI (if P (j + 1) then 1 else 0)) (by rw [hP]; rfl) ?_
    refine g_istore (L' := [some (.ref 0), some (.int (nI t)), some (.int (nI o)), some (.int (nI w)), some (.int (nI (19 + 6 * o + 2))), some (.int (f (19 + 6 * o + 2))), some (.int (nI ((ftF P (9 - (j + 1))).1))), some (.int ((ftF P (9 - (j + 1))).2)), some (.int (nI (j + 1))), some (.int (nI (if P (j + 1) then 1 else 0)))]) (by decide +kernel : decode prog_10_method_77_code 90 = .ok (.istore 9, 2)) (Nat.le_of_ble_eq_true rfl) rfl ?_
    refine g_iload (by decide +kernel : decode prog_10_method_77_code 92 = .ok (.iload 6, 2)) rfl ?_
    refine g_iload (by decide +kernel : decode prog_10_method_77_code 94 = .ok (.iload 9, 2)) rfl ?_
    have J96 : G (ΛM, mt_Md_fits, 5) X (mS (s_row σ 3 a2) (upd f (19 + 6 * o + 2) (nI (j + 1))) b2) [some (.ref 0), some (.int (nI t)), some (.int (nI o)), some (.int (nI w)), some (.int (nI (19 + 6 * o + 2))), some (.int (f (19 + 6 * o + 2))), some (.int (nI ((ftF P (9 - (j + 1))).1))), some (.int ((ftF P (9 - (j + 1))).2)), some (.int (nI (j + 1))), some (.int (nI (if P (j + 1) then 1 else 0)))] [.int (nI (if P (j + 1) then 1 else 0)), .int (nI ((ftF P (9 - (j + 1))).1))] 104 := by
      refine g_iaddN (by decide +kernel : decode prog_10_method_77_code 104 = .ok (.iadd, 1)) ?_
      refine g_top (w := nI (ftF P (9 - (j + 1) + 1)).1) (by rw [ft_1 P (9 - (j + 1)), show 9 - (9 - (j + 1)) = j + 1 by omega]) ?_
      refine g_istore (L' := [some (.ref 0), some (.int (nI t)), some (.int (nI o)), some (.int (nI w)), some (.int (nI (19 + 6 * o + 2))), some (.int (f (19 + 6 * o + 2))), some (.int (nI ((ftF P (9 - (j + 1) + 1)).1))), some (.int ((ftF P (9 - (j + 1))).2)), some (.int (nI (j + 1))), some (.int (nI (if P (j + 1) then 1 else 0)))]) (by decide +kernel : decode prog_10_method_77_code 105 = .ok (.istore 6, 2)) (Nat.le_of_ble_eq_true rfl) rfl ?_
      refine g_iload (by decide +kernel : decode prog_10_method_77_code 107 = .ok (.iload 9, 2)) rfl ?_
      have J109 : G (ΛM, mt_Md_fits, 5) X (mS (s_row σ 3 a2) (upd f (19 + 6 * o + 2) (nI (j + 1))) b2) [some (.ref 0), some (.int (nI t)), some (.int (nI o)), some (.int (nI w)), some (.int (nI (19 + 6 * o + 2))), some (.int (f (19 + 6 * o + 2))), some (.int (nI ((ftF P (9 - (j + 1) + 1)).1))), some (.int ((ftF P (9 - (j + 1))).2)), some (.int (nI (j + 1))), some (.int (nI (if P (j + 1) then 1 else 0)))] [.int ((ftF P (9 - (j + 1) + 1)).2)] 119 := by
        refine g_istore (L' := [some (.ref 0), some (.int (nI t)), some (.int (nI o)), some (.int (nI w)), some (.int (nI (19 + 6 * o + 2))), some (.int (f (19 + 6 * o + 2))), some (.int (nI ((ftF P (9 - (j + 1) + 1)).1))), some (.int ((ftF P (9 - (j + 1) + 1)).2)), some (.int (nI (j + 1))), some (.int (nI (if P (j + 1) then 1 else 0)))]) (by decide +kernel : decode prog_10_method_77_code 119 = .ok (.istore 7, 2)) (Nat.le_of_ble_eq_true rfl) rfl ?_
        refine g_iincD (L' := [some (.ref 0), some (.int (nI t)), some (.int (nI o)), some (.int (nI w)), some (.int (nI (19 + 6 * o + 2))), some (.int (f (19 + 6 * o + 2))), some (.int (nI ((ftF P (9 - (j + 1) + 1)).1))), some (.int ((ftF P (9 - (j + 1) + 1)).2)), some (.int (nI j)), some (.int (nI (if P (j + 1) then 1 else 0)))]) (by decide +kernel : decode prog_10_method_77_code 121 = .ok (.iinc 8 (-1), 3)) rfl (Nat.le_of_ble_eq_true rfl) rfl ?_
        refine g_goto (tgt := 70) (by decide +kernel : decode prog_10_method_77_code 124 = .ok (.goto (-54), 3)) (by decide) ?_
        refine g_sub (L' := [some (.ref 0), some (.int (nI t)), some (.int (nI o)), some (.int (nI w)), some (.int (nI (19 + 6 * o + 2))), some (.int (f (19 + 6 * o + 2))), some (.int (nI ((ftF P (9 - (j + 1) + 1)).1))), some (.int ((ftF P (9 - (j + 1) + 1)).2)), some (.int (nI j)), none]) ⟨rfl, rfl, rfl, rfl, rfl, rfl, rfl, rfl, rfl, trivial⟩ ?_
        have e9j : 9 - (j + 1) + 1 = 9 - j := by omega
        rw [e9j]
        exact ih (by omega) _ (Rng.of (by show j + 1 ≤ 9; omega)) _ _ hR
      refine g_if_eqN (tgt := 117) (by decide +kernel : decode prog_10_method_77_code 109 = .ok (.ifCond .eq 8, 3)) (by decide) (by first | omega | (have h9 := ite1 (P (j + 1) = true); omega)) (fun h109 => ?_) (fun h109 => ?_)
      · refine g_iload (by decide +kernel : decode prog_10_method_77_code 117 = .ok (.iload 7, 2)) rfl ?_
        exact g_top (by rw [ft_2 P (9 - (j + 1)), show 9 - (9 - (j + 1)) = j + 1 by omega]; exact (if_neg (fun z => by rw [if_pos z] at h109; exact absurd h109 (by decide))).symm) J109
      · refine g_iload (by decide +kernel : decode prog_10_method_77_code 112 = .ok (.iload 8, 2)) rfl ?_
        refine g_goto (tgt := 119) (by decide +kernel : decode prog_10_method_77_code 114 = .ok (.goto 5, 3)) (by decide) ?_
        exact g_top (by rw [ft_2 P (9 - (j + 1)), show 9 - (9 - (j + 1)) = j + 1 by omega]; exact (if_pos (by cases hz : P (j + 1) with | true => rfl | false => rw [hz] at h109; exact absurd rfl h109)).symm) J109
    refine g_if_eqN (tgt := 103) (by decide +kernel : decode prog_10_method_77_code 96 = .ok (.ifCond .eq 7, 3)) (by decide) (by first | omega | (have h9 := ite1 (P (j + 1) = true); omega)) (fun h96 => ?_) (fun h96 => ?_)
    · refine g_iconst (v := nI 0) (by decide +kernel : decode prog_10_method_77_code 103 = .ok (.iconst 0, 1)) (by decide) ?_
      exact g_top (by rw [h96]) J96
    · refine g_iconst (v := nI 1) (by decide +kernel : decode prog_10_method_77_code 99 = .ok (.iconst 1, 1)) (by decide) ?_
      refine g_goto (tgt := 104) (by decide +kernel : decode prog_10_method_77_code 100 = .ok (.goto 4, 3)) (by decide) ?_
      exact g_top (congrArg nI (by have h9 := ite1 (P (j + 1) = true); omega)) J96
set_option maxRecDepth 20000 in
theorem q_fits (σ : Store) (f b : Row) (hI : Inv f) (hS : ShI σ) (x y z : Int32) : Ct ΛM mt_Md_fits 5 [.ref 0, .int x, .int y, .int z] (mS σ f b) (mP σ (fitsV σ f x y z) f) := by
  refine Ct.of (by decide) (Nat.le_of_ble_eq_true rfl) (fun X hR => ?_)
  show G (ΛM, mt_Md_fits, 5) X (mS σ f b) [some (.ref 0), some (.int x), some (.int y), some (.int z), none, none, none, none, none, none] [] 0
  have hn8 := hI.n.2
  refine g_iload_n (by decide +kernel : decode prog_10_method_77_code 0 = .ok (.iload_n 1, 1)) rfl ?_
  refine g_callSI [.int x] (by decide +kernel : decode prog_10_method_77_code 1 = .ok (.invokestatic 240, 3)) lk_Md_240 (m_isSheet ΛM (mS σ f b) x) rfl rfl (Nat.le_of_ble_eq_true rfl) (Nat.le_of_ble_eq_true rfl) (fun r1 s1 h1 => ?_)
  rcases h1 with ⟨rfl, ⟨rfl, t, ha1, hb1, rfl⟩ | ⟨rfl, n1⟩⟩
  · refine g_if_eqN (tgt := 25) (by decide +kernel : decode prog_10_method_77_code 4 = .ok (.ifCond .eq 21, 3)) (by decide) (by decide) (fun h => False.elim (by revert h; decide)) (fun _ => ?_)
    refine g_aload_n (by decide +kernel : decode prog_10_method_77_code 7 = .ok (.aload_n 0, 1)) rfl ?_
    refine g_iload_n (by decide +kernel : decode prog_10_method_77_code 8 = .ok (.iload_n 2, 1)) rfl ?_
    refine g_callVI [.int y] (by decide +kernel : decode prog_10_method_77_code 9 = .ok (.invokevirtual 172, 3)) lk_Md_172 (m_isOne (mS σ f b) y hI.n.1 (by omega)) rfl rfl rfl rfl (Nat.le_of_ble_eq_true rfl) (Nat.le_of_ble_eq_true rfl) (fun r9 s9 h9 => ?_)
    rcases h9 with ⟨rfl, ⟨rfl, o, ho9, rfl⟩ | ⟨rfl, n9⟩⟩
    · refine g_if_eqN (tgt := 25) (by decide +kernel : decode prog_10_method_77_code 12 = .ok (.ifCond .eq 13, 3)) (by decide) (by decide) (fun h => False.elim (by revert h; decide)) (fun _ => ?_)
      refine g_iload_n (by decide +kernel : decode prog_10_method_77_code 15 = .ok (.iload_n 3, 1)) rfl ?_
      refine g_i2l (by decide +kernel : decode prog_10_method_77_code 16 = .ok (.i2l, 1)) ?_
      refine g_lconst (v := lN 0) (by decide +kernel : decode prog_10_method_77_code 17 = .ok (.lconst 0, 1)) (by decide) ?_
      refine g_lconst (v := lN 1) (by decide +kernel : decode prog_10_method_77_code 18 = .ok (.lconst 1, 1)) (by decide) ?_
      refine g_callSI [.long (Int32.toInt64 z), .long (lN 0), .long (lN 1)] (by decide +kernel : decode prog_10_method_77_code 19 = .ok (.invokestatic 57, 3)) lk_Md_57 (m_isInN ΛM (mS σ f b) z 0 1) rfl rfl (Nat.le_of_ble_eq_true rfl) (Nat.le_of_ble_eq_true rfl) (fun r19 s19 h19 => ?_)
      rcases h19 with ⟨rfl, ⟨rfl, w, ha19, hb19, rfl⟩ | ⟨rfl, n19⟩⟩
      · refine g_if_neN (tgt := 27) (by decide +kernel : decode prog_10_method_77_code 22 = .ok (.ifCond .ne 5, 3)) (by decide) (by decide) (fun _ => ?_) (fun h => False.elim (by revert h; decide))
        obtain ⟨n, hn, e9⟩ := (hS t (by omega)).2
        have htn : tn (σ 9 t) = n := by rw [e9, tn_nI (by omega)]
        rcases (hS t (by omega)).1 with e8 | ⟨s, hs, e8⟩
        · refine g_aload_n (by decide +kernel : decode prog_10_method_77_code 27 = .ok (.aload_n 0, 1)) rfl ?_
          refine g_getR (by decide +kernel : decode prog_10_method_77_code 28 = .ok (.getfield 31, 3)) fl_Md_31 rfl rfl ?_
          refine g_iload_n (by decide +kernel : decode prog_10_method_77_code 31 = .ok (.iload_n 1, 1)) rfl ?_
          refine g_iaload (a := t) (by decide +kernel : decode prog_10_method_77_code 32 = .ok (.iaload, 1)) rfl rfl (by omega) (by decide) ?_
          refine g_top (w := (-1)) (e8) ?_
          refine g_if_ge (tgt := 39) (by decide +kernel : decode prog_10_method_77_code 33 = .ok (.ifCond .ge 6, 3)) (by decide) (fun h => False.elim (by revert h; decide)) (fun _ => ?_)
          refine g_bipush (v := (-11)) (by decide +kernel : decode prog_10_method_77_code 36 = .ok (.bipush (-11), 2)) (by decide) ?_
          exact g_iret hR (by decide +kernel : decode prog_10_method_77_code 38 = .ok (.ireturn, 1)) rfl ⟨_, rfl, ⟨by simp only [fitsV, rg_of ha1 hb1, pz_of hI ho9, rg_of ha19 hb19, neg8 e8], Jk.self _ _ _⟩⟩
        · refine g_aload_n (by decide +kernel : decode prog_10_method_77_code 27 = .ok (.aload_n 0, 1)) rfl ?_
          refine g_getR (by decide +kernel : decode prog_10_method_77_code 28 = .ok (.getfield 31, 3)) fl_Md_31 rfl rfl ?_
          refine g_iload_n (by decide +kernel : decode prog_10_method_77_code 31 = .ok (.iload_n 1, 1)) rfl ?_
          refine g_iaload (a := t) (by decide +kernel : decode prog_10_method_77_code 32 = .ok (.iaload, 1)) rfl rfl (by omega) (by decide) ?_
          refine g_top (w := nI s) (e8) ?_
          refine g_if_geN (tgt := 39) (by decide +kernel : decode prog_10_method_77_code 33 = .ok (.ifCond .ge 6, 3)) (by decide) (by omega) ?_
          refine g_bipush (v := nI 19) (by decide +kernel : decode prog_10_method_77_code 39 = .ok (.bipush 19, 2)) (by decide) ?_
          refine g_bipush (v := nI 6) (by decide +kernel : decode prog_10_method_77_code 41 = .ok (.bipush 6, 2)) (by decide) ?_
          refine g_iload_n (by decide +kernel : decode prog_10_method_77_code 43 = .ok (.iload_n 2, 1)) rfl ?_
          refine g_imulN (by decide +kernel : decode prog_10_method_77_code 44 = .ok (.imul, 1)) ?_
          refine g_iaddN (by decide +kernel : decode prog_10_method_77_code 45 = .ok (.iadd, 1)) ?_
          refine g_iconst (v := nI 2) (by decide +kernel : decode prog_10_method_77_code 46 = .ok (.iconst 2, 1)) (by decide) ?_
          refine g_iaddN (by decide +kernel : decode prog_10_method_77_code 47 = .ok (.iadd, 1)) ?_
          refine g_istore (L' := [some (.ref 0), some (.int (nI t)), some (.int (nI o)), some (.int (nI w)), some (.int (nI (19 + 6 * o + 2))), none, none, none, none, none]) (by decide +kernel : decode prog_10_method_77_code 48 = .ok (.istore 4, 2)) (Nat.le_of_ble_eq_true rfl) rfl ?_
          refine g_aload_n (by decide +kernel : decode prog_10_method_77_code 50 = .ok (.aload_n 0, 1)) rfl ?_
          refine g_getR (by decide +kernel : decode prog_10_method_77_code 51 = .ok (.getfield 7, 3)) fl_Md_7 rfl rfl ?_
          refine g_iload (by decide +kernel : decode prog_10_method_77_code 54 = .ok (.iload 4, 2)) rfl ?_
          refine g_iaload (a := 19 + 6 * o + 2) (by decide +kernel : decode prog_10_method_77_code 56 = .ok (.iaload, 1)) rfl rfl (by omega) (by decide) ?_
          refine g_top (w := f (19 + 6 * o + 2)) (rfl) ?_
          refine g_istore (L' := [some (.ref 0), some (.int (nI t)), some (.int (nI o)), some (.int (nI w)), some (.int (nI (19 + 6 * o + 2))), some (.int (f (19 + 6 * o + 2))), none, none, none, none]) (by decide +kernel : decode prog_10_method_77_code 57 = .ok (.istore 5, 2)) (Nat.le_of_ble_eq_true rfl) rfl ?_
          refine g_iconst (v := nI 0) (by decide +kernel : decode prog_10_method_77_code 59 = .ok (.iconst 0, 1)) (by decide) ?_
          refine g_istore (L' := [some (.ref 0), some (.int (nI t)), some (.int (nI o)), some (.int (nI w)), some (.int (nI (19 + 6 * o + 2))), some (.int (f (19 + 6 * o + 2))), some (.int (nI 0)), none, none, none]) (by decide +kernel : decode prog_10_method_77_code 60 = .ok (.istore 6, 2)) (Nat.le_of_ble_eq_true rfl) rfl ?_
          refine g_bipush (v := (-3)) (by decide +kernel : decode prog_10_method_77_code 62 = .ok (.bipush (-3), 2)) (by decide) ?_
          refine g_istore (L' := [some (.ref 0), some (.int (nI t)), some (.int (nI o)), some (.int (nI w)), some (.int (nI (19 + 6 * o + 2))), some (.int (f (19 + 6 * o + 2))), some (.int (nI 0)), some (.int (-3)), none, none]) (by decide +kernel : decode prog_10_method_77_code 64 = .ok (.istore 7, 2)) (Nat.le_of_ble_eq_true rfl) rfl ?_
          refine g_bipush (v := nI 9) (by decide +kernel : decode prog_10_method_77_code 66 = .ok (.bipush 9, 2)) (by decide) ?_
          refine g_istore (L' := [some (.ref 0), some (.int (nI t)), some (.int (nI o)), some (.int (nI w)), some (.int (nI (19 + 6 * o + 2))), some (.int (f (19 + 6 * o + 2))), some (.int (nI 0)), some (.int (-3)), some (.int (nI 9)), none]) (by decide +kernel : decode prog_10_method_77_code 68 = .ok (.istore 8, 2)) (Nat.le_of_ble_eq_true rfl) rfl ?_
          refine g_sto (σ' := mS (s_row σ 3 (σ 3)) (upd f (19 + 6 * o + 2) (f (19 + 6 * o + 2))) b) (by rw [s_row_self, upd_self]) ?_
          exact q_fits_lp hI ho9 (by omega) e9 hn (by omega) rfl 9 (by omega) _ (hI.2.1 o ho9 2 (by decide)) _ _ (by simpa only [fitsV, htn, rg_of ha1 hb1, pz_of hI ho9, rg_of ha19 hb19, pos8 hs e8] using hR)
      · refine g_if_neN (tgt := 27) (by decide +kernel : decode prog_10_method_77_code 22 = .ok (.ifCond .ne 5, 3)) (by decide) (by decide) (fun h => False.elim (by revert h; decide)) (fun _ => ?_)
        refine g_iconst (v := (-1)) (by decide +kernel : decode prog_10_method_77_code 25 = .ok (.iconst (-1), 1)) (by decide) ?_
        exact g_iret hR (by decide +kernel : decode prog_10_method_77_code 26 = .ok (.ireturn, 1)) rfl ⟨_, rfl, ⟨by simp only [fitsV, rg_of ha1 hb1, pz_of hI ho9, rg_none n19], Jk.self _ _ _⟩⟩
    · refine g_if_eqN (tgt := 25) (by decide +kernel : decode prog_10_method_77_code 12 = .ok (.ifCond .eq 13, 3)) (by decide) (by decide) (fun _ => ?_) (fun h => False.elim (by revert h; decide))
      refine g_iconst (v := (-1)) (by decide +kernel : decode prog_10_method_77_code 25 = .ok (.iconst (-1), 1)) (by decide) ?_
      exact g_iret hR (by decide +kernel : decode prog_10_method_77_code 26 = .ok (.ireturn, 1)) rfl ⟨_, rfl, ⟨by simp only [fitsV, rg_of ha1 hb1, pz_none hI n9], Jk.self _ _ _⟩⟩
  · refine g_if_eqN (tgt := 25) (by decide +kernel : decode prog_10_method_77_code 4 = .ok (.ifCond .eq 21, 3)) (by decide) (by decide) (fun _ => ?_) (fun h => False.elim (by revert h; decide))
    refine g_iconst (v := (-1)) (by decide +kernel : decode prog_10_method_77_code 25 = .ok (.iconst (-1), 1)) (by decide) ?_
    exact g_iret hR (by decide +kernel : decode prog_10_method_77_code 26 = .ok (.ireturn, 1)) rfl ⟨_, rfl, ⟨by simp only [fitsV, rg_none n1], Jk.self _ _ _⟩⟩
def SvI (σ : Store) : Prop := ∀ h, h < 4 → Rng (σ 11 h) 2
def setSh (σ : Store) (h : Nat) (a b c : Int32) : Store := s_up (s_up (s_up σ 11 h a) 12 h b) 13 h c
def shelfV (f : Row) (x y z : Int32) : Int32 := match rg 0 3 x with
  | none => -1
  | some _ => match rg 0 2 y with
    | none => -1
    | some 0 => (match pz f z with
      | none => -1
      | some _ => nI 1)
    | some 1 => (match rg 0 3 z with
      | none => -1
      | some _ => nI 1)
    | some _ => nI 1
def shelfS (σ : Store) (f : Row) (x y z : Int32) : Store := match rg 0 3 x with
  | none => σ
  | some h => match rg 0 2 y with
    | none => σ
    | some 0 => (match pz f z with
      | none => σ
      | some j => setSh σ h (nI 1) (nI j) (nI 0))
    | some 1 => (match rg 0 3 z with
      | none => σ
      | some t => if σ 8 t < 0 then setSh σ h (nI 0) (nI 0) (nI 0) else setSh σ h (nI 2) (σ 8 t) (σ 9 t))
    | some _ => setSh σ h (nI 0) (nI 0) (nI 0)
set_option maxRecDepth 20000 in
theorem q_shelf (σ : Store) (f b : Row) (hI : Inv f) (hS : ShI σ) (x y z : Int32) : Ct ΛM mt_Md_shelf 2 [.ref 0, .int x, .int y, .int z] (mS σ f b) (PF (shelfV f x y z) (mS (shelfS σ f x y z) f b)) := by
  refine Ct.of (by decide) (Nat.le_of_ble_eq_true rfl) (fun X hR => ?_)
  show G (ΛM, mt_Md_shelf, 2) X (mS σ f b) [some (.ref 0), some (.int x), some (.int y), some (.int z), none] [] 0
  have hn8 := hI.n.2
  refine g_iload_n (by decide +kernel : decode prog_10_method_92_code 0 = .ok (.iload_n 1, 1)) rfl ?_
  refine g_callSI [.int x] (by decide +kernel : decode prog_10_method_92_code 1 = .ok (.invokestatic 269, 3)) lk_Md_269 (m_isShelf ΛM (mS σ f b) x) rfl rfl (Nat.le_of_ble_eq_true rfl) (Nat.le_of_ble_eq_true rfl) (fun r1 s1 h1 => ?_)
  rcases h1 with ⟨rfl, ⟨rfl, h, ha1, hb1, rfl⟩ | ⟨rfl, n1⟩⟩
  · refine g_if_eqN (tgt := 43) (by decide +kernel : decode prog_10_method_92_code 4 = .ok (.ifCond .eq 39, 3)) (by decide) (by decide) (fun h => False.elim (by revert h; decide)) (fun _ => ?_)
    refine g_iload_n (by decide +kernel : decode prog_10_method_92_code 7 = .ok (.iload_n 2, 1)) rfl ?_
    refine g_i2l (by decide +kernel : decode prog_10_method_92_code 8 = .ok (.i2l, 1)) ?_
    refine g_lconst (v := lN 0) (by decide +kernel : decode prog_10_method_92_code 9 = .ok (.lconst 0, 1)) (by decide) ?_
    refine g_ldc2 (v := lN 2) (by decide +kernel : decode prog_10_method_92_code 10 = .ok (.ldc2_w 175, 3)) kc_Md_175 ?_
    refine g_callSI [.long (Int32.toInt64 y), .long (lN 0), .long (lN 2)] (by decide +kernel : decode prog_10_method_92_code 13 = .ok (.invokestatic 57, 3)) lk_Md_57 (m_isInN ΛM (mS σ f b) y 0 2) rfl rfl (Nat.le_of_ble_eq_true rfl) (Nat.le_of_ble_eq_true rfl) (fun r13 s13 h13 => ?_)
    rcases h13 with ⟨rfl, ⟨rfl, w, ha13, hb13, rfl⟩ | ⟨rfl, n13⟩⟩
    · refine g_if_eqN (tgt := 43) (by decide +kernel : decode prog_10_method_92_code 16 = .ok (.ifCond .eq 27, 3)) (by decide) (by decide) (fun h => False.elim (by revert h; decide)) (fun _ => ?_)
      rcases (show w = 0 ∨ w = 1 ∨ w = 2 by omega) with rfl | rfl | rfl
      · refine g_iload_n (by decide +kernel : decode prog_10_method_92_code 19 = .ok (.iload_n 2, 1)) rfl ?_
        refine g_if_neN (tgt := 31) (by decide +kernel : decode prog_10_method_92_code 20 = .ok (.ifCond .ne 11, 3)) (by decide) (by decide) (fun h => False.elim (by revert h; decide)) (fun _ => ?_)
        refine g_aload_n (by decide +kernel : decode prog_10_method_92_code 23 = .ok (.aload_n 0, 1)) rfl ?_
        refine g_iload_n (by decide +kernel : decode prog_10_method_92_code 24 = .ok (.iload_n 3, 1)) rfl ?_
        refine g_callVI [.int z] (by decide +kernel : decode prog_10_method_92_code 25 = .ok (.invokevirtual 172, 3)) lk_Md_172 (m_isOne (mS σ f b) z hI.n.1 (by omega)) rfl rfl rfl rfl (Nat.le_of_ble_eq_true rfl) (Nat.le_of_ble_eq_true rfl) (fun r25 s25 h25 => ?_)
        rcases h25 with ⟨rfl, ⟨rfl, j, ho25, rfl⟩ | ⟨rfl, n25⟩⟩
        · refine g_if_eqN (tgt := 43) (by decide +kernel : decode prog_10_method_92_code 28 = .ok (.ifCond .eq 15, 3)) (by decide) (by decide) (fun h => False.elim (by revert h; decide)) (fun _ => ?_)
          refine g_iload_n (by decide +kernel : decode prog_10_method_92_code 31 = .ok (.iload_n 2, 1)) rfl ?_
          refine g_iconst (v := nI 1) (by decide +kernel : decode prog_10_method_92_code 32 = .ok (.iconst 1, 1)) (by decide) ?_
          refine g_icmp_neN (tgt := 45) (by decide +kernel : decode prog_10_method_92_code 33 = .ok (.if_icmp .ne 12, 3)) (by decide) (by decide) (by decide) (fun _ => ?_) (fun h => False.elim (by revert h; decide))
          refine g_iload_n (by decide +kernel : decode prog_10_method_92_code 45 = .ok (.iload_n 2, 1)) rfl ?_
          refine g_iconst (v := nI 1) (by decide +kernel : decode prog_10_method_92_code 46 = .ok (.iconst 1, 1)) (by decide) ?_
          refine g_icmp_neN (tgt := 63) (by decide +kernel : decode prog_10_method_92_code 47 = .ok (.if_icmp .ne 16, 3)) (by decide) (by decide) (by decide) (fun _ => ?_) (fun h => False.elim (by revert h; decide))
          refine g_iconst (v := nI 0) (by decide +kernel : decode prog_10_method_92_code 63 = .ok (.iconst 0, 1)) (by decide) ?_
          refine g_istore (L' := [some (.ref 0), some (.int (nI h)), some (.int (nI 0)), some (.int (nI j)), some (.int (nI 0))]) (by decide +kernel : decode prog_10_method_92_code 64 = .ok (.istore 4, 2)) (Nat.le_of_ble_eq_true rfl) rfl ?_
          refine g_aload_n (by decide +kernel : decode prog_10_method_92_code 66 = .ok (.aload_n 0, 1)) rfl ?_
          refine g_getR (by decide +kernel : decode prog_10_method_92_code 67 = .ok (.getfield 40, 3)) fl_Md_40 rfl rfl ?_
          refine g_iload_n (by decide +kernel : decode prog_10_method_92_code 70 = .ok (.iload_n 1, 1)) rfl ?_
          refine g_iload_n (by decide +kernel : decode prog_10_method_92_code 71 = .ok (.iload_n 2, 1)) rfl ?_
          refine g_if_neN (tgt := 79) (by decide +kernel : decode prog_10_method_92_code 72 = .ok (.ifCond .ne 7, 3)) (by decide) (by decide) (fun h => False.elim (by revert h; decide)) (fun _ => ?_)
          refine g_iconst (v := nI 1) (by decide +kernel : decode prog_10_method_92_code 75 = .ok (.iconst 1, 1)) (by decide) ?_
          refine g_goto (tgt := 89) (by decide +kernel : decode prog_10_method_92_code 76 = .ok (.goto 13, 3)) (by decide) ?_
          refine g_iastore (a := h) (by decide +kernel : decode prog_10_method_92_code 89 = .ok (.iastore, 1)) rfl rfl (by omega) (by decide) ?_
          refine g_sto (mS_uk _ _ _ _ _ (by decide) (by decide)) ?_
          refine g_aload_n (by decide +kernel : decode prog_10_method_92_code 90 = .ok (.aload_n 0, 1)) rfl ?_
          refine g_getR (by decide +kernel : decode prog_10_method_92_code 91 = .ok (.getfield 43, 3)) fl_Md_43 rfl rfl ?_
          refine g_iload_n (by decide +kernel : decode prog_10_method_92_code 94 = .ok (.iload_n 1, 1)) rfl ?_
          refine g_iload_n (by decide +kernel : decode prog_10_method_92_code 95 = .ok (.iload_n 2, 1)) rfl ?_
          refine g_if_neN (tgt := 103) (by decide +kernel : decode prog_10_method_92_code 96 = .ok (.ifCond .ne 7, 3)) (by decide) (by decide) (fun h => False.elim (by revert h; decide)) (fun _ => ?_)
          refine g_iload_n (by decide +kernel : decode prog_10_method_92_code 99 = .ok (.iload_n 3, 1)) rfl ?_
          refine g_goto (tgt := 118) (by decide +kernel : decode prog_10_method_92_code 100 = .ok (.goto 18, 3)) (by decide) ?_
          refine g_iastore (a := h) (by decide +kernel : decode prog_10_method_92_code 118 = .ok (.iastore, 1)) rfl rfl (by omega) (by decide) ?_
          refine g_sto (mS_uk _ _ _ _ _ (by decide) (by decide)) ?_
          refine g_aload_n (by decide +kernel : decode prog_10_method_92_code 119 = .ok (.aload_n 0, 1)) rfl ?_
          refine g_getR (by decide +kernel : decode prog_10_method_92_code 120 = .ok (.getfield 46, 3)) fl_Md_46 rfl rfl ?_
          refine g_iload_n (by decide +kernel : decode prog_10_method_92_code 123 = .ok (.iload_n 1, 1)) rfl ?_
          refine g_iload (by decide +kernel : decode prog_10_method_92_code 124 = .ok (.iload 4, 2)) rfl ?_
          refine g_if_eqN (tgt := 138) (by decide +kernel : decode prog_10_method_92_code 126 = .ok (.ifCond .eq 12, 3)) (by decide) (by decide) (fun _ => ?_) (fun h => False.elim (by revert h; decide))
          refine g_iconst (v := nI 0) (by decide +kernel : decode prog_10_method_92_code 138 = .ok (.iconst 0, 1)) (by decide) ?_
          refine g_iastore (a := h) (by decide +kernel : decode prog_10_method_92_code 139 = .ok (.iastore, 1)) rfl rfl (by omega) (by decide) ?_
          refine g_sto (mS_uk _ _ _ _ _ (by decide) (by decide)) ?_
          refine g_iconst (v := nI 1) (by decide +kernel : decode prog_10_method_92_code 140 = .ok (.iconst 1, 1)) (by decide) ?_
          exact g_iret hR (by decide +kernel : decode prog_10_method_92_code 141 = .ok (.ireturn, 1)) rfl ⟨_, rfl, ⟨by simp only [shelfV, rg_of ha1 hb1, rg_of ha13 hb13, pz_of hI ho25], by simp only [shelfS, rg_of ha1 hb1, rg_of ha13 hb13, pz_of hI ho25] <;> rfl⟩⟩
        · refine g_if_eqN (tgt := 43) (by decide +kernel : decode prog_10_method_92_code 28 = .ok (.ifCond .eq 15, 3)) (by decide) (by decide) (fun _ => ?_) (fun h => False.elim (by revert h; decide))
          refine g_iconst (v := (-1)) (by decide +kernel : decode prog_10_method_92_code 43 = .ok (.iconst (-1), 1)) (by decide) ?_
          exact g_iret hR (by decide +kernel : decode prog_10_method_92_code 44 = .ok (.ireturn, 1)) rfl ⟨_, rfl, ⟨by simp only [shelfV, rg_of ha1 hb1, rg_of ha13 hb13, pz_none hI n25], by simp only [shelfS, rg_of ha1 hb1, rg_of ha13 hb13, pz_none hI n25] <;> rfl⟩⟩
      · refine g_iload_n (by decide +kernel : decode prog_10_method_92_code 19 = .ok (.iload_n 2, 1)) rfl ?_
        refine g_if_neN (tgt := 31) (by decide +kernel : decode prog_10_method_92_code 20 = .ok (.ifCond .ne 11, 3)) (by decide) (by decide) (fun _ => ?_) (fun h => False.elim (by revert h; decide))
        refine g_iload_n (by decide +kernel : decode prog_10_method_92_code 31 = .ok (.iload_n 2, 1)) rfl ?_
        refine g_iconst (v := nI 1) (by decide +kernel : decode prog_10_method_92_code 32 = .ok (.iconst 1, 1)) (by decide) ?_
        refine g_icmp_neN (tgt := 45) (by decide +kernel : decode prog_10_method_92_code 33 = .ok (.if_icmp .ne 12, 3)) (by decide) (by decide) (by decide) (fun h => False.elim (by revert h; decide)) (fun _ => ?_)
        refine g_iload_n (by decide +kernel : decode prog_10_method_92_code 36 = .ok (.iload_n 3, 1)) rfl ?_
        refine g_callSI [.int z] (by decide +kernel : decode prog_10_method_92_code 37 = .ok (.invokestatic 240, 3)) lk_Md_240 (m_isSheet ΛM (mS σ f b) z) rfl rfl (Nat.le_of_ble_eq_true rfl) (Nat.le_of_ble_eq_true rfl) (fun r37 s37 h37 => ?_)
        rcases h37 with ⟨rfl, ⟨rfl, t, ha37, hb37, rfl⟩ | ⟨rfl, n37⟩⟩
        · refine g_if_neN (tgt := 45) (by decide +kernel : decode prog_10_method_92_code 40 = .ok (.ifCond .ne 5, 3)) (by decide) (by decide) (fun _ => ?_) (fun h => False.elim (by revert h; decide))
          refine g_iload_n (by decide +kernel : decode prog_10_method_92_code 45 = .ok (.iload_n 2, 1)) rfl ?_
          refine g_iconst (v := nI 1) (by decide +kernel : decode prog_10_method_92_code 46 = .ok (.iconst 1, 1)) (by decide) ?_
          refine g_icmp_neN (tgt := 63) (by decide +kernel : decode prog_10_method_92_code 47 = .ok (.if_icmp .ne 16, 3)) (by decide) (by decide) (by decide) (fun h => False.elim (by revert h; decide)) (fun _ => ?_)
          rcases (hS t (by omega)).1 with e8 | ⟨s, hs, e8⟩
          · refine g_aload_n (by decide +kernel : decode prog_10_method_92_code 50 = .ok (.aload_n 0, 1)) rfl ?_
            refine g_getR (by decide +kernel : decode prog_10_method_92_code 51 = .ok (.getfield 31, 3)) fl_Md_31 rfl rfl ?_
            refine g_iload_n (by decide +kernel : decode prog_10_method_92_code 54 = .ok (.iload_n 3, 1)) rfl ?_
            refine g_iaload (a := t) (by decide +kernel : decode prog_10_method_92_code 55 = .ok (.iaload, 1)) rfl rfl (by omega) (by decide) ?_
            refine g_top (w := (-1)) (e8) ?_
            refine g_if_lt (tgt := 63) (by decide +kernel : decode prog_10_method_92_code 56 = .ok (.ifCond .lt 7, 3)) (by decide) (fun _ => ?_) (fun h => False.elim (by revert h; decide))
            refine g_iconst (v := nI 0) (by decide +kernel : decode prog_10_method_92_code 63 = .ok (.iconst 0, 1)) (by decide) ?_
            refine g_istore (L' := [some (.ref 0), some (.int (nI h)), some (.int (nI 1)), some (.int (nI t)), some (.int (nI 0))]) (by decide +kernel : decode prog_10_method_92_code 64 = .ok (.istore 4, 2)) (Nat.le_of_ble_eq_true rfl) rfl ?_
            refine g_aload_n (by decide +kernel : decode prog_10_method_92_code 66 = .ok (.aload_n 0, 1)) rfl ?_
            refine g_getR (by decide +kernel : decode prog_10_method_92_code 67 = .ok (.getfield 40, 3)) fl_Md_40 rfl rfl ?_
            refine g_iload_n (by decide +kernel : decode prog_10_method_92_code 70 = .ok (.iload_n 1, 1)) rfl ?_
            refine g_iload_n (by decide +kernel : decode prog_10_method_92_code 71 = .ok (.iload_n 2, 1)) rfl ?_
            refine g_if_neN (tgt := 79) (by decide +kernel : decode prog_10_method_92_code 72 = .ok (.ifCond .ne 7, 3)) (by decide) (by decide) (fun _ => ?_) (fun h => False.elim (by revert h; decide))
            refine g_iload (by decide +kernel : decode prog_10_method_92_code 79 = .ok (.iload 4, 2)) rfl ?_
            refine g_if_eqN (tgt := 88) (by decide +kernel : decode prog_10_method_92_code 81 = .ok (.ifCond .eq 7, 3)) (by decide) (by decide) (fun _ => ?_) (fun h => False.elim (by revert h; decide))
            refine g_iconst (v := nI 0) (by decide +kernel : decode prog_10_method_92_code 88 = .ok (.iconst 0, 1)) (by decide) ?_
            refine g_iastore (a := h) (by decide +kernel : decode prog_10_method_92_code 89 = .ok (.iastore, 1)) rfl rfl (by omega) (by decide) ?_
            refine g_sto (mS_uk _ _ _ _ _ (by decide) (by decide)) ?_
            refine g_aload_n (by decide +kernel : decode prog_10_method_92_code 90 = .ok (.aload_n 0, 1)) rfl ?_
            refine g_getR (by decide +kernel : decode prog_10_method_92_code 91 = .ok (.getfield 43, 3)) fl_Md_43 rfl rfl ?_
            refine g_iload_n (by decide +kernel : decode prog_10_method_92_code 94 = .ok (.iload_n 1, 1)) rfl ?_
            refine g_iload_n (by decide +kernel : decode prog_10_method_92_code 95 = .ok (.iload_n 2, 1)) rfl ?_
            refine g_if_neN (tgt := 103) (by decide +kernel : decode prog_10_method_92_code 96 = .ok (.ifCond .ne 7, 3)) (by decide) (by decide) (fun _ => ?_) (fun h => False.elim (by revert h; decide))
            refine g_iload (by decide +kernel : decode prog_10_method_92_code 103 = .ok (.iload 4, 2)) rfl ?_
            refine g_if_eqN (tgt := 117) (by decide +kernel : decode prog_10_method_92_code 105 = .ok (.ifCond .eq 12, 3)) (by decide) (by decide) (fun _ => ?_) (fun h => False.elim (by revert h; decide))
            refine g_iconst (v := nI 0) (by decide +kernel : decode prog_10_method_92_code 117 = .ok (.iconst 0, 1)) (by decide) ?_
            refine g_iastore (a := h) (by decide +kernel : decode prog_10_method_92_code 118 = .ok (.iastore, 1)) rfl rfl (by omega) (by decide) ?_
            refine g_sto (mS_uk _ _ _ _ _ (by decide) (by decide)) ?_
            refine g_aload_n (by decide +kernel : decode prog_10_method_92_code 119 = .ok (.aload_n 0, 1)) rfl ?_
            refine g_getR (by decide +kernel : decode prog_10_method_92_code 120 = .ok (.getfield 46, 3)) fl_Md_46 rfl rfl ?_
            refine g_iload_n (by decide +kernel : decode prog_10_method_92_code 123 = .ok (.iload_n 1, 1)) rfl ?_
            refine g_iload (by decide +kernel : decode prog_10_method_92_code 124 = .ok (.iload 4, 2)) rfl ?_
            refine g_if_eqN (tgt := 138) (by decide +kernel : decode prog_10_method_92_code 126 = .ok (.ifCond .eq 12, 3)) (by decide) (by decide) (fun _ => ?_) (fun h => False.elim (by revert h; decide))
            refine g_iconst (v := nI 0) (by decide +kernel : decode prog_10_method_92_code 138 = .ok (.iconst 0, 1)) (by decide) ?_
            refine g_iastore (a := h) (by decide +kernel : decode prog_10_method_92_code 139 = .ok (.iastore, 1)) rfl rfl (by omega) (by decide) ?_
            refine g_sto (mS_uk _ _ _ _ _ (by decide) (by decide)) ?_
            refine g_iconst (v := nI 1) (by decide +kernel : decode prog_10_method_92_code 140 = .ok (.iconst 1, 1)) (by decide) ?_
            exact g_iret hR (by decide +kernel : decode prog_10_method_92_code 141 = .ok (.ireturn, 1)) rfl ⟨_, rfl, ⟨by simp only [shelfV, rg_of ha1 hb1, rg_of ha13 hb13, rg_of ha37 hb37], by simp only [shelfS, rg_of ha1 hb1, rg_of ha13 hb13, rg_of ha37 hb37, neg8 e8] <;> rfl⟩⟩
          · refine g_aload_n (by decide +kernel : decode prog_10_method_92_code 50 = .ok (.aload_n 0, 1)) rfl ?_
            refine g_getR (by decide +kernel : decode prog_10_method_92_code 51 = .ok (.getfield 31, 3)) fl_Md_31 rfl rfl ?_
            refine g_iload_n (by decide +kernel : decode prog_10_method_92_code 54 = .ok (.iload_n 3, 1)) rfl ?_
            refine g_iaload (a := t) (by decide +kernel : decode prog_10_method_92_code 55 = .ok (.iaload, 1)) rfl rfl (by omega) (by decide) ?_
            refine g_top (w := nI s) (e8) ?_
            refine g_if_ltN (by decide +kernel : decode prog_10_method_92_code 56 = .ok (.ifCond .lt 7, 3)) (by decide) (by omega) ?_
            refine g_iconst (v := nI 1) (by decide +kernel : decode prog_10_method_92_code 59 = .ok (.iconst 1, 1)) (by decide) ?_
            refine g_goto (tgt := 64) (by decide +kernel : decode prog_10_method_92_code 60 = .ok (.goto 4, 3)) (by decide) ?_
            refine g_istore (L' := [some (.ref 0), some (.int (nI h)), some (.int (nI 1)), some (.int (nI t)), some (.int (nI 1))]) (by decide +kernel : decode prog_10_method_92_code 64 = .ok (.istore 4, 2)) (Nat.le_of_ble_eq_true rfl) rfl ?_
            refine g_aload_n (by decide +kernel : decode prog_10_method_92_code 66 = .ok (.aload_n 0, 1)) rfl ?_
            refine g_getR (by decide +kernel : decode prog_10_method_92_code 67 = .ok (.getfield 40, 3)) fl_Md_40 rfl rfl ?_
            refine g_iload_n (by decide +kernel : decode prog_10_method_92_code 70 = .ok (.iload_n 1, 1)) rfl ?_
            refine g_iload_n (by decide +kernel : decode prog_10_method_92_code 71 = .ok (.iload_n 2, 1)) rfl ?_
            refine g_if_neN (tgt := 79) (by decide +kernel : decode prog_10_method_92_code 72 = .ok (.ifCond .ne 7, 3)) (by decide) (by decide) (fun _ => ?_) (fun h => False.elim (by revert h; decide))
            refine g_iload (by decide +kernel : decode prog_10_method_92_code 79 = .ok (.iload 4, 2)) rfl ?_
            refine g_if_eqN (tgt := 88) (by decide +kernel : decode prog_10_method_92_code 81 = .ok (.ifCond .eq 7, 3)) (by decide) (by decide) (fun h => False.elim (by revert h; decide)) (fun _ => ?_)
            refine g_iconst (v := nI 2) (by decide +kernel : decode prog_10_method_92_code 84 = .ok (.iconst 2, 1)) (by decide) ?_
            refine g_goto (tgt := 89) (by decide +kernel : decode prog_10_method_92_code 85 = .ok (.goto 4, 3)) (by decide) ?_
            refine g_iastore (a := h) (by decide +kernel : decode prog_10_method_92_code 89 = .ok (.iastore, 1)) rfl rfl (by omega) (by decide) ?_
            refine g_sto (mS_uk _ _ _ _ _ (by decide) (by decide)) ?_
            refine g_aload_n (by decide +kernel : decode prog_10_method_92_code 90 = .ok (.aload_n 0, 1)) rfl ?_
            refine g_getR (by decide +kernel : decode prog_10_method_92_code 91 = .ok (.getfield 43, 3)) fl_Md_43 rfl rfl ?_
            refine g_iload_n (by decide +kernel : decode prog_10_method_92_code 94 = .ok (.iload_n 1, 1)) rfl ?_
            refine g_iload_n (by decide +kernel : decode prog_10_method_92_code 95 = .ok (.iload_n 2, 1)) rfl ?_
            refine g_if_neN (tgt := 103) (by decide +kernel : decode prog_10_method_92_code 96 = .ok (.ifCond .ne 7, 3)) (by decide) (by decide) (fun _ => ?_) (fun h => False.elim (by revert h; decide))
            refine g_iload (by decide +kernel : decode prog_10_method_92_code 103 = .ok (.iload 4, 2)) rfl ?_
            refine g_if_eqN (tgt := 117) (by decide +kernel : decode prog_10_method_92_code 105 = .ok (.ifCond .eq 12, 3)) (by decide) (by decide) (fun h => False.elim (by revert h; decide)) (fun _ => ?_)
            refine g_aload_n (by decide +kernel : decode prog_10_method_92_code 108 = .ok (.aload_n 0, 1)) rfl ?_
            refine g_getR (by decide +kernel : decode prog_10_method_92_code 109 = .ok (.getfield 31, 3)) fl_Md_31 rfl rfl ?_
            refine g_iload_n (by decide +kernel : decode prog_10_method_92_code 112 = .ok (.iload_n 3, 1)) rfl ?_
            refine g_iaload (a := t) (by decide +kernel : decode prog_10_method_92_code 113 = .ok (.iaload, 1)) rfl rfl (by omega) (by decide) ?_
            refine g_top (w := σ 8 t) (rfl) ?_
            refine g_goto (tgt := 118) (by decide +kernel : decode prog_10_method_92_code 114 = .ok (.goto 4, 3)) (by decide) ?_
            refine g_iastore (a := h) (by decide +kernel : decode prog_10_method_92_code 118 = .ok (.iastore, 1)) rfl rfl (by omega) (by decide) ?_
            refine g_sto (mS_uk _ _ _ _ _ (by decide) (by decide)) ?_
            refine g_aload_n (by decide +kernel : decode prog_10_method_92_code 119 = .ok (.aload_n 0, 1)) rfl ?_
            refine g_getR (by decide +kernel : decode prog_10_method_92_code 120 = .ok (.getfield 46, 3)) fl_Md_46 rfl rfl ?_
            refine g_iload_n (by decide +kernel : decode prog_10_method_92_code 123 = .ok (.iload_n 1, 1)) rfl ?_
            refine g_iload (by decide +kernel : decode prog_10_method_92_code 124 = .ok (.iload 4, 2)) rfl ?_
            refine g_if_eqN (tgt := 138) (by decide +kernel : decode prog_10_method_92_code 126 = .ok (.ifCond .eq 12, 3)) (by decide) (by decide) (fun h => False.elim (by revert h; decide)) (fun _ => ?_)
            refine g_aload_n (by decide +kernel : decode prog_10_method_92_code 129 = .ok (.aload_n 0, 1)) rfl ?_
            refine g_getR (by decide +kernel : decode prog_10_method_92_code 130 = .ok (.getfield 34, 3)) fl_Md_34 rfl rfl ?_
            refine g_iload_n (by decide +kernel : decode prog_10_method_92_code 133 = .ok (.iload_n 3, 1)) rfl ?_
            refine g_iaload (a := t) (by decide +kernel : decode prog_10_method_92_code 134 = .ok (.iaload, 1)) rfl rfl (by omega) (by decide) ?_
            refine g_top (w := σ 9 t) (rfl) ?_
            refine g_goto (tgt := 139) (by decide +kernel : decode prog_10_method_92_code 135 = .ok (.goto 4, 3)) (by decide) ?_
            refine g_iastore (a := h) (by decide +kernel : decode prog_10_method_92_code 139 = .ok (.iastore, 1)) rfl rfl (by omega) (by decide) ?_
            refine g_sto (mS_uk _ _ _ _ _ (by decide) (by decide)) ?_
            refine g_iconst (v := nI 1) (by decide +kernel : decode prog_10_method_92_code 140 = .ok (.iconst 1, 1)) (by decide) ?_
            exact g_iret hR (by decide +kernel : decode prog_10_method_92_code 141 = .ok (.ireturn, 1)) rfl ⟨_, rfl, ⟨by simp only [shelfV, rg_of ha1 hb1, rg_of ha13 hb13, rg_of ha37 hb37], by simp only [shelfS, rg_of ha1 hb1, rg_of ha13 hb13, rg_of ha37 hb37, pos8 hs e8] <;> rfl⟩⟩
        · refine g_if_neN (tgt := 45) (by decide +kernel : decode prog_10_method_92_code 40 = .ok (.ifCond .ne 5, 3)) (by decide) (by decide) (fun h => False.elim (by revert h; decide)) (fun _ => ?_)
          refine g_iconst (v := (-1)) (by decide +kernel : decode prog_10_method_92_code 43 = .ok (.iconst (-1), 1)) (by decide) ?_
          exact g_iret hR (by decide +kernel : decode prog_10_method_92_code 44 = .ok (.ireturn, 1)) rfl ⟨_, rfl, ⟨by simp only [shelfV, rg_of ha1 hb1, rg_of ha13 hb13, rg_none n37], by simp only [shelfS, rg_of ha1 hb1, rg_of ha13 hb13, rg_none n37] <;> rfl⟩⟩
      · refine g_iload_n (by decide +kernel : decode prog_10_method_92_code 19 = .ok (.iload_n 2, 1)) rfl ?_
        refine g_if_neN (tgt := 31) (by decide +kernel : decode prog_10_method_92_code 20 = .ok (.ifCond .ne 11, 3)) (by decide) (by decide) (fun _ => ?_) (fun h => False.elim (by revert h; decide))
        refine g_iload_n (by decide +kernel : decode prog_10_method_92_code 31 = .ok (.iload_n 2, 1)) rfl ?_
        refine g_iconst (v := nI 1) (by decide +kernel : decode prog_10_method_92_code 32 = .ok (.iconst 1, 1)) (by decide) ?_
        refine g_icmp_neN (tgt := 45) (by decide +kernel : decode prog_10_method_92_code 33 = .ok (.if_icmp .ne 12, 3)) (by decide) (by decide) (by decide) (fun _ => ?_) (fun h => False.elim (by revert h; decide))
        refine g_iload_n (by decide +kernel : decode prog_10_method_92_code 45 = .ok (.iload_n 2, 1)) rfl ?_
        refine g_iconst (v := nI 1) (by decide +kernel : decode prog_10_method_92_code 46 = .ok (.iconst 1, 1)) (by decide) ?_
        refine g_icmp_neN (tgt := 63) (by decide +kernel : decode prog_10_method_92_code 47 = .ok (.if_icmp .ne 16, 3)) (by decide) (by decide) (by decide) (fun _ => ?_) (fun h => False.elim (by revert h; decide))
        refine g_iconst (v := nI 0) (by decide +kernel : decode prog_10_method_92_code 63 = .ok (.iconst 0, 1)) (by decide) ?_
        refine g_istore (L' := [some (.ref 0), some (.int (nI h)), some (.int (nI 2)), some (.int z), some (.int (nI 0))]) (by decide +kernel : decode prog_10_method_92_code 64 = .ok (.istore 4, 2)) (Nat.le_of_ble_eq_true rfl) rfl ?_
        refine g_aload_n (by decide +kernel : decode prog_10_method_92_code 66 = .ok (.aload_n 0, 1)) rfl ?_
        refine g_getR (by decide +kernel : decode prog_10_method_92_code 67 = .ok (.getfield 40, 3)) fl_Md_40 rfl rfl ?_
        refine g_iload_n (by decide +kernel : decode prog_10_method_92_code 70 = .ok (.iload_n 1, 1)) rfl ?_
        refine g_iload_n (by decide +kernel : decode prog_10_method_92_code 71 = .ok (.iload_n 2, 1)) rfl ?_
        refine g_if_neN (tgt := 79) (by decide +kernel : decode prog_10_method_92_code 72 = .ok (.ifCond .ne 7, 3)) (by decide) (by decide) (fun _ => ?_) (fun h => False.elim (by revert h; decide))
        refine g_iload (by decide +kernel : decode prog_10_method_92_code 79 = .ok (.iload 4, 2)) rfl ?_
        refine g_if_eqN (tgt := 88) (by decide +kernel : decode prog_10_method_92_code 81 = .ok (.ifCond .eq 7, 3)) (by decide) (by decide) (fun _ => ?_) (fun h => False.elim (by revert h; decide))
        refine g_iconst (v := nI 0) (by decide +kernel : decode prog_10_method_92_code 88 = .ok (.iconst 0, 1)) (by decide) ?_
        refine g_iastore (a := h) (by decide +kernel : decode prog_10_method_92_code 89 = .ok (.iastore, 1)) rfl rfl (by omega) (by decide) ?_
        refine g_sto (mS_uk _ _ _ _ _ (by decide) (by decide)) ?_
        refine g_aload_n (by decide +kernel : decode prog_10_method_92_code 90 = .ok (.aload_n 0, 1)) rfl ?_
        refine g_getR (by decide +kernel : decode prog_10_method_92_code 91 = .ok (.getfield 43, 3)) fl_Md_43 rfl rfl ?_
        refine g_iload_n (by decide +kernel : decode prog_10_method_92_code 94 = .ok (.iload_n 1, 1)) rfl ?_
        refine g_iload_n (by decide +kernel : decode prog_10_method_92_code 95 = .ok (.iload_n 2, 1)) rfl ?_
        refine g_if_neN (tgt := 103) (by decide +kernel : decode prog_10_method_92_code 96 = .ok (.ifCond .ne 7, 3)) (by decide) (by decide) (fun _ => ?_) (fun h => False.elim (by revert h; decide))
        refine g_iload (by decide +kernel : decode prog_10_method_92_code 103 = .ok (.iload 4, 2)) rfl ?_
        refine g_if_eqN (tgt := 117) (by decide +kernel : decode prog_10_method_92_code 105 = .ok (.ifCond .eq 12, 3)) (by decide) (by decide) (fun _ => ?_) (fun h => False.elim (by revert h; decide))
        refine g_iconst (v := nI 0) (by decide +kernel : decode prog_10_method_92_code 117 = .ok (.iconst 0, 1)) (by decide) ?_
        refine g_iastore (a := h) (by decide +kernel : decode prog_10_method_92_code 118 = .ok (.iastore, 1)) rfl rfl (by omega) (by decide) ?_
        refine g_sto (mS_uk _ _ _ _ _ (by decide) (by decide)) ?_
        refine g_aload_n (by decide +kernel : decode prog_10_method_92_code 119 = .ok (.aload_n 0, 1)) rfl ?_
        refine g_getR (by decide +kernel : decode prog_10_method_92_code 120 = .ok (.getfield 46, 3)) fl_Md_46 rfl rfl ?_
        refine g_iload_n (by decide +kernel : decode prog_10_method_92_code 123 = .ok (.iload_n 1, 1)) rfl ?_
        refine g_iload (by decide +kernel : decode prog_10_method_92_code 124 = .ok (.iload 4, 2)) rfl ?_
        refine g_if_eqN (tgt := 138) (by decide +kernel : decode prog_10_method_92_code 126 = .ok (.ifCond .eq 12, 3)) (by decide) (by decide) (fun _ => ?_) (fun h => False.elim (by revert h; decide))
        refine g_iconst (v := nI 0) (by decide +kernel : decode prog_10_method_92_code 138 = .ok (.iconst 0, 1)) (by decide) ?_
        refine g_iastore (a := h) (by decide +kernel : decode prog_10_method_92_code 139 = .ok (.iastore, 1)) rfl rfl (by omega) (by decide) ?_
        refine g_sto (mS_uk _ _ _ _ _ (by decide) (by decide)) ?_
        refine g_iconst (v := nI 1) (by decide +kernel : decode prog_10_method_92_code 140 = .ok (.iconst 1, 1)) (by decide) ?_
        exact g_iret hR (by decide +kernel : decode prog_10_method_92_code 141 = .ok (.ireturn, 1)) rfl ⟨_, rfl, ⟨by simp only [shelfV, rg_of ha1 hb1, rg_of ha13 hb13], by simp only [shelfS, rg_of ha1 hb1, rg_of ha13 hb13] <;> rfl⟩⟩
    · refine g_if_eqN (tgt := 43) (by decide +kernel : decode prog_10_method_92_code 16 = .ok (.ifCond .eq 27, 3)) (by decide) (by decide) (fun _ => ?_) (fun h => False.elim (by revert h; decide))
      refine g_iconst (v := (-1)) (by decide +kernel : decode prog_10_method_92_code 43 = .ok (.iconst (-1), 1)) (by decide) ?_
      exact g_iret hR (by decide +kernel : decode prog_10_method_92_code 44 = .ok (.ireturn, 1)) rfl ⟨_, rfl, ⟨by simp only [shelfV, rg_of ha1 hb1, rg_none n13], by simp only [shelfS, rg_of ha1 hb1, rg_none n13] <;> rfl⟩⟩
  · refine g_if_eqN (tgt := 43) (by decide +kernel : decode prog_10_method_92_code 4 = .ok (.ifCond .eq 39, 3)) (by decide) (by decide) (fun _ => ?_) (fun h => False.elim (by revert h; decide))
    refine g_iconst (v := (-1)) (by decide +kernel : decode prog_10_method_92_code 43 = .ok (.iconst (-1), 1)) (by decide) ?_
    exact g_iret hR (by decide +kernel : decode prog_10_method_92_code 44 = .ok (.ireturn, 1)) rfl ⟨_, rfl, ⟨by simp only [shelfV, rg_none n1], by simp only [shelfS, rg_none n1] <;> rfl⟩⟩
end
