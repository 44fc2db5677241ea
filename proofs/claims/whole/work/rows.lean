section
-- ===== PART A: goes FIRST, ahead of the names: the tables' words, and 'selects' of the private methods out of them =====
/-- a private method of a class that the tables say can be made, by its rows of tables_1 -/
def lw_okq (q : MethodName × Nat) : Prop := (q.1.cls ≠ "java/lang/invoke/MethodHandle" ∧ q.1.cls ≠ "java/lang/invoke/VarHandle") ∧ Cond.instantiable q.1.cls q.2 ∈ tables_1 ∧ Cond.privateMethod q.1 ∈ tables_1 ∧ Cond.instanceMethod q.1 ∈ tables_1
theorem lw_p0 : lw_okq (⟨"LateSeekers$TapeReader", "advance", "()V"⟩, 6) := ⟨⟨by decide +kernel, by decide +kernel⟩, List.mem_of_getElem? (i := 118) (by decide +kernel), List.mem_of_getElem? (i := 273) (by decide +kernel), List.mem_of_getElem? (i := 274) (by decide +kernel)⟩
theorem lw_p1 : lw_okq (⟨"LateSeekers$TapeReader", "sortAt", "(I)I"⟩, 6) := ⟨⟨by decide +kernel, by decide +kernel⟩, List.mem_of_getElem? (i := 118) (by decide +kernel), List.mem_of_getElem? (i := 277) (by decide +kernel), List.mem_of_getElem? (i := 278) (by decide +kernel)⟩
theorem lw_p2 : lw_okq (⟨"LateSeekers$TapeReader", "readStatement", "(LLateSeekers$Park;)V"⟩, 6) := ⟨⟨by decide +kernel, by decide +kernel⟩, List.mem_of_getElem? (i := 118) (by decide +kernel), List.mem_of_getElem? (i := 281) (by decide +kernel), List.mem_of_getElem? (i := 282) (by decide +kernel)⟩
theorem lw_p3 : lw_okq (⟨"LateSeekers$TapeReader", "isNext", "(Ljava/lang/String;)Z"⟩, 6) := ⟨⟨by decide +kernel, by decide +kernel⟩, List.mem_of_getElem? (i := 118) (by decide +kernel), List.mem_of_getElem? (i := 294) (by decide +kernel), List.mem_of_getElem? (i := 295) (by decide +kernel)⟩
theorem lw_p4 : lw_okq (⟨"LateSeekers$TapeReader", "readPerson", "(LLateSeekers$Park;I)V"⟩, 6) := ⟨⟨by decide +kernel, by decide +kernel⟩, List.mem_of_getElem? (i := 118) (by decide +kernel), List.mem_of_getElem? (i := 346) (by decide +kernel), List.mem_of_getElem? (i := 347) (by decide +kernel)⟩
theorem lw_p5 : lw_okq (⟨"LateSeekers$TapeReader", "fail", "()V"⟩, 6) := ⟨⟨by decide +kernel, by decide +kernel⟩, List.mem_of_getElem? (i := 118) (by decide +kernel), List.mem_of_getElem? (i := 350) (by decide +kernel), List.mem_of_getElem? (i := 351) (by decide +kernel)⟩
theorem lw_p6 : lw_okq (⟨"LateSeekers$TapeReader", "takeName", "(Ljava/lang/String;)V"⟩, 6) := ⟨⟨by decide +kernel, by decide +kernel⟩, List.mem_of_getElem? (i := 118) (by decide +kernel), List.mem_of_getElem? (i := 355) (by decide +kernel), List.mem_of_getElem? (i := 356) (by decide +kernel)⟩
theorem lw_p7 : lw_okq (⟨"LateSeekers$TapeReader", "takeNumber", "(I)I"⟩, 6) := ⟨⟨by decide +kernel, by decide +kernel⟩, List.mem_of_getElem? (i := 118) (by decide +kernel), List.mem_of_getElem? (i := 359) (by decide +kernel), List.mem_of_getElem? (i := 360) (by decide +kernel)⟩
theorem lw_p8 : lw_okq (⟨"LateSeekers$TapeReader", "takeNumberIfNamed", "(Ljava/lang/String;I)I"⟩, 6) := ⟨⟨by decide +kernel, by decide +kernel⟩, List.mem_of_getElem? (i := 118) (by decide +kernel), List.mem_of_getElem? (i := 364) (by decide +kernel), List.mem_of_getElem? (i := 365) (by decide +kernel)⟩
theorem lw_p9 : lw_okq (⟨"LateSeekers$TapeReader", "takeSemicolon", "()V"⟩, 6) := ⟨⟨by decide +kernel, by decide +kernel⟩, List.mem_of_getElem? (i := 118) (by decide +kernel), List.mem_of_getElem? (i := 370) (by decide +kernel), List.mem_of_getElem? (i := 371) (by decide +kernel)⟩
theorem lw_p10 : lw_okq (⟨"LateSeekers$TapeReader", "readLaw", "(LLateSeekers$Park;I)V"⟩, 6) := ⟨⟨by decide +kernel, by decide +kernel⟩, List.mem_of_getElem? (i := 118) (by decide +kernel), List.mem_of_getElem? (i := 389) (by decide +kernel), List.mem_of_getElem? (i := 390) (by decide +kernel)⟩
theorem lw_p11 : lw_okq (⟨"LateSeekers$TapeReader", "readCover", "(LLateSeekers$Park;)V"⟩, 6) := ⟨⟨by decide +kernel, by decide +kernel⟩, List.mem_of_getElem? (i := 118) (by decide +kernel), List.mem_of_getElem? (i := 395) (by decide +kernel), List.mem_of_getElem? (i := 396) (by decide +kernel)⟩
theorem lw_p12 : lw_okq (⟨"LateSeekers$Park", "growOlder", "()V"⟩, 12) := ⟨⟨by decide +kernel, by decide +kernel⟩, List.mem_of_getElem? (i := 32) (by decide +kernel), List.mem_of_getElem? (i := 506) (by decide +kernel), List.mem_of_getElem? (i := 507) (by decide +kernel)⟩
theorem lw_p13 : lw_okq (⟨"LateSeekers$Park", "goSeeking", "(IZ)V"⟩, 12) := ⟨⟨by decide +kernel, by decide +kernel⟩, List.mem_of_getElem? (i := 32) (by decide +kernel), List.mem_of_getElem? (i := 510) (by decide +kernel), List.mem_of_getElem? (i := 511) (by decide +kernel)⟩
theorem lw_p14 : lw_okq (⟨"LateSeekers$Park", "findOne", "(I)V"⟩, 12) := ⟨⟨by decide +kernel, by decide +kernel⟩, List.mem_of_getElem? (i := 32) (by decide +kernel), List.mem_of_getElem? (i := 518) (by decide +kernel), List.mem_of_getElem? (i := 519) (by decide +kernel)⟩
theorem lw_p15 : lw_okq (⟨"LateSeekers$Park", "drawn", "()I"⟩, 12) := ⟨⟨by decide +kernel, by decide +kernel⟩, List.mem_of_getElem? (i := 32) (by decide +kernel), List.mem_of_getElem? (i := 542) (by decide +kernel), List.mem_of_getElem? (i := 543) (by decide +kernel)⟩
def lw_privs_1 : List (MethodName × Nat) := [(⟨"LateSeekers$TapeReader", "advance", "()V"⟩, 6), (⟨"LateSeekers$TapeReader", "sortAt", "(I)I"⟩, 6), (⟨"LateSeekers$TapeReader", "readStatement", "(LLateSeekers$Park;)V"⟩, 6), (⟨"LateSeekers$TapeReader", "isNext", "(Ljava/lang/String;)Z"⟩, 6), (⟨"LateSeekers$TapeReader", "readPerson", "(LLateSeekers$Park;I)V"⟩, 6), (⟨"LateSeekers$TapeReader", "fail", "()V"⟩, 6), (⟨"LateSeekers$TapeReader", "takeName", "(Ljava/lang/String;)V"⟩, 6), (⟨"LateSeekers$TapeReader", "takeNumber", "(I)I"⟩, 6), (⟨"LateSeekers$TapeReader", "takeNumberIfNamed", "(Ljava/lang/String;I)I"⟩, 6), (⟨"LateSeekers$TapeReader", "takeSemicolon", "()V"⟩, 6), (⟨"LateSeekers$TapeReader", "readLaw", "(LLateSeekers$Park;I)V"⟩, 6), (⟨"LateSeekers$TapeReader", "readCover", "(LLateSeekers$Park;)V"⟩, 6), (⟨"LateSeekers$Park", "growOlder", "()V"⟩, 12), (⟨"LateSeekers$Park", "goSeeking", "(IZ)V"⟩, 12), (⟨"LateSeekers$Park", "findOne", "(I)V"⟩, 12), (⟨"LateSeekers$Park", "drawn", "()I"⟩, 12)]
theorem lw_r1 : ∀ q ∈ lw_privs_1, lw_okq q := List.forall_mem_cons.mpr ⟨lw_p0, List.forall_mem_cons.mpr ⟨lw_p1, List.forall_mem_cons.mpr ⟨lw_p2, List.forall_mem_cons.mpr ⟨lw_p3, List.forall_mem_cons.mpr ⟨lw_p4, List.forall_mem_cons.mpr ⟨lw_p5, List.forall_mem_cons.mpr ⟨lw_p6, List.forall_mem_cons.mpr ⟨lw_p7, List.forall_mem_cons.mpr ⟨lw_p8, List.forall_mem_cons.mpr ⟨lw_p9, List.forall_mem_cons.mpr ⟨lw_p10, List.forall_mem_cons.mpr ⟨lw_p11, List.forall_mem_cons.mpr ⟨lw_p12, List.forall_mem_cons.mpr ⟨lw_p13, List.forall_mem_cons.mpr ⟨lw_p14, List.forall_mem_cons.mpr ⟨lw_p15, fun _ h => absurd h List.not_mem_nil⟩⟩⟩⟩⟩⟩⟩⟩⟩⟩⟩⟩⟩⟩⟩⟩
theorem lw_p16 : lw_okq (⟨"LateSeekers$Trials", "yearsUntilShown", "(II)I"⟩, 2) := ⟨⟨by decide +kernel, by decide +kernel⟩, List.mem_of_getElem? (i := 26) (by decide +kernel), List.mem_of_getElem? (i := 581) (by decide +kernel), List.mem_of_getElem? (i := 582) (by decide +kernel)⟩
theorem lw_p17 : lw_okq (⟨"LateSeekers$Trials", "seeksBehind", "(III)Z"⟩, 2) := ⟨⟨by decide +kernel, by decide +kernel⟩, List.mem_of_getElem? (i := 26) (by decide +kernel), List.mem_of_getElem? (i := 643) (by decide +kernel), List.mem_of_getElem? (i := 644) (by decide +kernel)⟩
theorem lw_p18 : lw_okq (⟨"LateSeekers$Actor", "run", "(IIII)I"⟩, 6) := ⟨⟨by decide +kernel, by decide +kernel⟩, List.mem_of_getElem? (i := 198) (by decide +kernel), List.mem_of_getElem? (i := 805) (by decide +kernel), List.mem_of_getElem? (i := 806) (by decide +kernel)⟩
theorem lw_p19 : lw_okq (⟨"LateSeekers$Actor", "quotient", "(II)I"⟩, 6) := ⟨⟨by decide +kernel, by decide +kernel⟩, List.mem_of_getElem? (i := 198) (by decide +kernel), List.mem_of_getElem? (i := 811) (by decide +kernel), List.mem_of_getElem? (i := 812) (by decide +kernel)⟩
theorem lw_p20 : lw_okq (⟨"LateSeekersModel", "begins", "()V"⟩, 27) := ⟨⟨by decide +kernel, by decide +kernel⟩, List.mem_of_getElem? (i := 836) (by decide +kernel), List.mem_of_getElem? (i := 842) (by decide +kernel), List.mem_of_getElem? (i := 843) (by decide +kernel)⟩
theorem lw_p21 : lw_okq (⟨"LateSeekersModel", "nextToken", "()V"⟩, 27) := ⟨⟨by decide +kernel, by decide +kernel⟩, List.mem_of_getElem? (i := 836) (by decide +kernel), List.mem_of_getElem? (i := 944) (by decide +kernel), List.mem_of_getElem? (i := 945) (by decide +kernel)⟩
theorem lw_p22 : lw_okq (⟨"LateSeekersModel", "byteAt", "(I)I"⟩, 27) := ⟨⟨by decide +kernel, by decide +kernel⟩, List.mem_of_getElem? (i := 836) (by decide +kernel), List.mem_of_getElem? (i := 948) (by decide +kernel), List.mem_of_getElem? (i := 949) (by decide +kernel)⟩
theorem lw_p23 : lw_okq (⟨"LateSeekersModel", "itemHere", "()V"⟩, 27) := ⟨⟨by decide +kernel, by decide +kernel⟩, List.mem_of_getElem? (i := 836) (by decide +kernel), List.mem_of_getElem? (i := 958) (by decide +kernel), List.mem_of_getElem? (i := 959) (by decide +kernel)⟩
theorem lw_p24 : lw_okq (⟨"LateSeekersModel", "kindHere", "()I"⟩, 27) := ⟨⟨by decide +kernel, by decide +kernel⟩, List.mem_of_getElem? (i := 836) (by decide +kernel), List.mem_of_getElem? (i := 962) (by decide +kernel), List.mem_of_getElem? (i := 963) (by decide +kernel)⟩
theorem lw_p25 : lw_okq (⟨"LateSeekersModel", "isFive", "(IIIII)Z"⟩, 27) := ⟨⟨by decide +kernel, by decide +kernel⟩, List.mem_of_getElem? (i := 836) (by decide +kernel), List.mem_of_getElem? (i := 966) (by decide +kernel), List.mem_of_getElem? (i := 967) (by decide +kernel)⟩
theorem lw_p26 : lw_okq (⟨"LateSeekersModel", "isName", "(IIIII)Z"⟩, 27) := ⟨⟨by decide +kernel, by decide +kernel⟩, List.mem_of_getElem? (i := 836) (by decide +kernel), List.mem_of_getElem? (i := 970) (by decide +kernel), List.mem_of_getElem? (i := 971) (by decide +kernel)⟩
theorem lw_p27 : lw_okq (⟨"LateSeekersModel", "isSame", "(IIII)Z"⟩, 27) := ⟨⟨by decide +kernel, by decide +kernel⟩, List.mem_of_getElem? (i := 836) (by decide +kernel), List.mem_of_getElem? (i := 974) (by decide +kernel), List.mem_of_getElem? (i := 975) (by decide +kernel)⟩
theorem lw_p28 : lw_okq (⟨"LateSeekersModel", "isFour", "(IIII)Z"⟩, 27) := ⟨⟨by decide +kernel, by decide +kernel⟩, List.mem_of_getElem? (i := 836) (by decide +kernel), List.mem_of_getElem? (i := 978) (by decide +kernel), List.mem_of_getElem? (i := 979) (by decide +kernel)⟩
theorem lw_p29 : lw_okq (⟨"LateSeekersModel", "lawHere", "()I"⟩, 27) := ⟨⟨by decide +kernel, by decide +kernel⟩, List.mem_of_getElem? (i := 836) (by decide +kernel), List.mem_of_getElem? (i := 982) (by decide +kernel), List.mem_of_getElem? (i := 983) (by decide +kernel)⟩
theorem lw_p30 : lw_okq (⟨"LateSeekersModel", "personHere", "(I)V"⟩, 27) := ⟨⟨by decide +kernel, by decide +kernel⟩, List.mem_of_getElem? (i := 836) (by decide +kernel), List.mem_of_getElem? (i := 986) (by decide +kernel), List.mem_of_getElem? (i := 987) (by decide +kernel)⟩
theorem lw_p31 : lw_okq (⟨"LateSeekersModel", "needs", "(Z)V"⟩, 27) := ⟨⟨by decide +kernel, by decide +kernel⟩, List.mem_of_getElem? (i := 836) (by decide +kernel), List.mem_of_getElem? (i := 990) (by decide +kernel), List.mem_of_getElem? (i := 991) (by decide +kernel)⟩
def lw_privs_2 : List (MethodName × Nat) := [(⟨"LateSeekers$Trials", "yearsUntilShown", "(II)I"⟩, 2), (⟨"LateSeekers$Trials", "seeksBehind", "(III)Z"⟩, 2), (⟨"LateSeekers$Actor", "run", "(IIII)I"⟩, 6), (⟨"LateSeekers$Actor", "quotient", "(II)I"⟩, 6), (⟨"LateSeekersModel", "begins", "()V"⟩, 27), (⟨"LateSeekersModel", "nextToken", "()V"⟩, 27), (⟨"LateSeekersModel", "byteAt", "(I)I"⟩, 27), (⟨"LateSeekersModel", "itemHere", "()V"⟩, 27), (⟨"LateSeekersModel", "kindHere", "()I"⟩, 27), (⟨"LateSeekersModel", "isFive", "(IIIII)Z"⟩, 27), (⟨"LateSeekersModel", "isName", "(IIIII)Z"⟩, 27), (⟨"LateSeekersModel", "isSame", "(IIII)Z"⟩, 27), (⟨"LateSeekersModel", "isFour", "(IIII)Z"⟩, 27), (⟨"LateSeekersModel", "lawHere", "()I"⟩, 27), (⟨"LateSeekersModel", "personHere", "(I)V"⟩, 27), (⟨"LateSeekersModel", "needs", "(Z)V"⟩, 27)]
theorem lw_r2 : ∀ q ∈ lw_privs_2, lw_okq q := List.forall_mem_cons.mpr ⟨lw_p16, List.forall_mem_cons.mpr ⟨lw_p17, List.forall_mem_cons.mpr ⟨lw_p18, List.forall_mem_cons.mpr ⟨lw_p19, List.forall_mem_cons.mpr ⟨lw_p20, List.forall_mem_cons.mpr ⟨lw_p21, List.forall_mem_cons.mpr ⟨lw_p22, List.forall_mem_cons.mpr ⟨lw_p23, List.forall_mem_cons.mpr ⟨lw_p24, List.forall_mem_cons.mpr ⟨lw_p25, List.forall_mem_cons.mpr ⟨lw_p26, List.forall_mem_cons.mpr ⟨lw_p27, List.forall_mem_cons.mpr ⟨lw_p28, List.forall_mem_cons.mpr ⟨lw_p29, List.forall_mem_cons.mpr ⟨lw_p30, List.forall_mem_cons.mpr ⟨lw_p31, fun _ h => absurd h List.not_mem_nil⟩⟩⟩⟩⟩⟩⟩⟩⟩⟩⟩⟩⟩⟩⟩⟩
theorem lw_p32 : lw_okq (⟨"LateSeekersModel", "isTwo", "(II)Z"⟩, 27) := ⟨⟨by decide +kernel, by decide +kernel⟩, List.mem_of_getElem? (i := 836) (by decide +kernel), List.mem_of_getElem? (i := 994) (by decide +kernel), List.mem_of_getElem? (i := 995) (by decide +kernel)⟩
theorem lw_p33 : lw_okq (⟨"LateSeekersModel", "numberTo", "(II)V"⟩, 27) := ⟨⟨by decide +kernel, by decide +kernel⟩, List.mem_of_getElem? (i := 836) (by decide +kernel), List.mem_of_getElem? (i := 998) (by decide +kernel), List.mem_of_getElem? (i := 999) (by decide +kernel)⟩
theorem lw_p34 : lw_okq (⟨"LateSeekersModel", "perhaps", "(ZII)V"⟩, 27) := ⟨⟨by decide +kernel, by decide +kernel⟩, List.mem_of_getElem? (i := 836) (by decide +kernel), List.mem_of_getElem? (i := 1002) (by decide +kernel), List.mem_of_getElem? (i := 1003) (by decide +kernel)⟩
theorem lw_p35 : lw_okq (⟨"LateSeekersModel", "coverHere", "()V"⟩, 27) := ⟨⟨by decide +kernel, by decide +kernel⟩, List.mem_of_getElem? (i := 836) (by decide +kernel), List.mem_of_getElem? (i := 1006) (by decide +kernel), List.mem_of_getElem? (i := 1007) (by decide +kernel)⟩
theorem lw_p36 : lw_okq (⟨"LateSeekersModel", "becomes", "(II)I"⟩, 27) := ⟨⟨by decide +kernel, by decide +kernel⟩, List.mem_of_getElem? (i := 836) (by decide +kernel), List.mem_of_getElem? (i := 1018) (by decide +kernel), List.mem_of_getElem? (i := 1019) (by decide +kernel)⟩
theorem lw_p37 : lw_okq (⟨"LateSeekersModel", "isOne", "(I)Z"⟩, 27) := ⟨⟨by decide +kernel, by decide +kernel⟩, List.mem_of_getElem? (i := 836) (by decide +kernel), List.mem_of_getElem? (i := 1040) (by decide +kernel), List.mem_of_getElem? (i := 1041) (by decide +kernel)⟩
theorem lw_p38 : lw_okq (⟨"LateSeekersModel", "its", "(II)I"⟩, 27) := ⟨⟨by decide +kernel, by decide +kernel⟩, List.mem_of_getElem? (i := 836) (by decide +kernel), List.mem_of_getElem? (i := 1044) (by decide +kernel), List.mem_of_getElem? (i := 1045) (by decide +kernel)⟩
theorem lw_p39 : lw_okq (⟨"LateSeekersModel", "hides", "(I)I"⟩, 27) := ⟨⟨by decide +kernel, by decide +kernel⟩, List.mem_of_getElem? (i := 836) (by decide +kernel), List.mem_of_getElem? (i := 1053) (by decide +kernel), List.mem_of_getElem? (i := 1054) (by decide +kernel)⟩
theorem lw_p40 : lw_okq (⟨"LateSeekersModel", "sees", "(I)I"⟩, 27) := ⟨⟨by decide +kernel, by decide +kernel⟩, List.mem_of_getElem? (i := 836) (by decide +kernel), List.mem_of_getElem? (i := 1057) (by decide +kernel), List.mem_of_getElem? (i := 1058) (by decide +kernel)⟩
theorem lw_p41 : lw_okq (⟨"LateSeekersModel", "strides", "(I)I"⟩, 27) := ⟨⟨by decide +kernel, by decide +kernel⟩, List.mem_of_getElem? (i := 836) (by decide +kernel), List.mem_of_getElem? (i := 1061) (by decide +kernel), List.mem_of_getElem? (i := 1062) (by decide +kernel)⟩
theorem lw_p42 : lw_okq (⟨"LateSeekersModel", "thoseAt", "(I)I"⟩, 27) := ⟨⟨by decide +kernel, by decide +kernel⟩, List.mem_of_getElem? (i := 836) (by decide +kernel), List.mem_of_getElem? (i := 1085) (by decide +kernel), List.mem_of_getElem? (i := 1086) (by decide +kernel)⟩
theorem lw_p43 : lw_okq (⟨"LateSeekersModel", "hiddenOnes", "()I"⟩, 27) := ⟨⟨by decide +kernel, by decide +kernel⟩, List.mem_of_getElem? (i := 836) (by decide +kernel), List.mem_of_getElem? (i := 1089) (by decide +kernel), List.mem_of_getElem? (i := 1090) (by decide +kernel)⟩
theorem lw_p44 : lw_okq (⟨"LateSeekersModel", "goes", "(I)V"⟩, 27) := ⟨⟨by decide +kernel, by decide +kernel⟩, List.mem_of_getElem? (i := 836) (by decide +kernel), List.mem_of_getElem? (i := 1105) (by decide +kernel), List.mem_of_getElem? (i := 1106) (by decide +kernel)⟩
theorem lw_p45 : lw_okq (⟨"LateSeekersModel", "goesBy", "(I)V"⟩, 27) := ⟨⟨by decide +kernel, by decide +kernel⟩, List.mem_of_getElem? (i := 836) (by decide +kernel), List.mem_of_getElem? (i := 1109) (by decide +kernel), List.mem_of_getElem? (i := 1110) (by decide +kernel)⟩
theorem lw_p46 : lw_okq (⟨"LateSeekersModel", "seeks", "(IZ)V"⟩, 27) := ⟨⟨by decide +kernel, by decide +kernel⟩, List.mem_of_getElem? (i := 836) (by decide +kernel), List.mem_of_getElem? (i := 1116) (by decide +kernel), List.mem_of_getElem? (i := 1117) (by decide +kernel)⟩
theorem lw_p47 : lw_okq (⟨"LateSeekersModel", "drawn", "()I"⟩, 27) := ⟨⟨by decide +kernel, by decide +kernel⟩, List.mem_of_getElem? (i := 836) (by decide +kernel), List.mem_of_getElem? (i := 1128) (by decide +kernel), List.mem_of_getElem? (i := 1129) (by decide +kernel)⟩
def lw_privs_3 : List (MethodName × Nat) := [(⟨"LateSeekersModel", "isTwo", "(II)Z"⟩, 27), (⟨"LateSeekersModel", "numberTo", "(II)V"⟩, 27), (⟨"LateSeekersModel", "perhaps", "(ZII)V"⟩, 27), (⟨"LateSeekersModel", "coverHere", "()V"⟩, 27), (⟨"LateSeekersModel", "becomes", "(II)I"⟩, 27), (⟨"LateSeekersModel", "isOne", "(I)Z"⟩, 27), (⟨"LateSeekersModel", "its", "(II)I"⟩, 27), (⟨"LateSeekersModel", "hides", "(I)I"⟩, 27), (⟨"LateSeekersModel", "sees", "(I)I"⟩, 27), (⟨"LateSeekersModel", "strides", "(I)I"⟩, 27), (⟨"LateSeekersModel", "thoseAt", "(I)I"⟩, 27), (⟨"LateSeekersModel", "hiddenOnes", "()I"⟩, 27), (⟨"LateSeekersModel", "goes", "(I)V"⟩, 27), (⟨"LateSeekersModel", "goesBy", "(I)V"⟩, 27), (⟨"LateSeekersModel", "seeks", "(IZ)V"⟩, 27), (⟨"LateSeekersModel", "drawn", "()I"⟩, 27)]
theorem lw_r3 : ∀ q ∈ lw_privs_3, lw_okq q := List.forall_mem_cons.mpr ⟨lw_p32, List.forall_mem_cons.mpr ⟨lw_p33, List.forall_mem_cons.mpr ⟨lw_p34, List.forall_mem_cons.mpr ⟨lw_p35, List.forall_mem_cons.mpr ⟨lw_p36, List.forall_mem_cons.mpr ⟨lw_p37, List.forall_mem_cons.mpr ⟨lw_p38, List.forall_mem_cons.mpr ⟨lw_p39, List.forall_mem_cons.mpr ⟨lw_p40, List.forall_mem_cons.mpr ⟨lw_p41, List.forall_mem_cons.mpr ⟨lw_p42, List.forall_mem_cons.mpr ⟨lw_p43, List.forall_mem_cons.mpr ⟨lw_p44, List.forall_mem_cons.mpr ⟨lw_p45, List.forall_mem_cons.mpr ⟨lw_p46, List.forall_mem_cons.mpr ⟨lw_p47, fun _ h => absurd h List.not_mem_nil⟩⟩⟩⟩⟩⟩⟩⟩⟩⟩⟩⟩⟩⟩⟩⟩
theorem lw_p48 : lw_okq (⟨"LateSeekersModel", "sumOf", "(I)I"⟩, 27) := ⟨⟨by decide +kernel, by decide +kernel⟩, List.mem_of_getElem? (i := 836) (by decide +kernel), List.mem_of_getElem? (i := 1143) (by decide +kernel), List.mem_of_getElem? (i := 1144) (by decide +kernel)⟩
theorem lw_p49 : lw_okq (⟨"LateSeekersModel", "hidingPlaces", "()I"⟩, 27) := ⟨⟨by decide +kernel, by decide +kernel⟩, List.mem_of_getElem? (i := 836) (by decide +kernel), List.mem_of_getElem? (i := 1147) (by decide +kernel), List.mem_of_getElem? (i := 1148) (by decide +kernel)⟩
theorem lw_p50 : lw_okq (⟨"LateSeekersModel", "coverOfAll", "()I"⟩, 27) := ⟨⟨by decide +kernel, by decide +kernel⟩, List.mem_of_getElem? (i := 836) (by decide +kernel), List.mem_of_getElem? (i := 1151) (by decide +kernel), List.mem_of_getElem? (i := 1152) (by decide +kernel)⟩
theorem lw_p51 : lw_okq (⟨"LateSeekersModel", "shownBy", "(II)I"⟩, 27) := ⟨⟨by decide +kernel, by decide +kernel⟩, List.mem_of_getElem? (i := 836) (by decide +kernel), List.mem_of_getElem? (i := 1163) (by decide +kernel), List.mem_of_getElem? (i := 1164) (by decide +kernel)⟩
theorem lw_p52 : lw_okq (⟨"LateSeekersModel", "isHiddenBy", "(III)Z"⟩, 27) := ⟨⟨by decide +kernel, by decide +kernel⟩, List.mem_of_getElem? (i := 836) (by decide +kernel), List.mem_of_getElem? (i := 1191) (by decide +kernel), List.mem_of_getElem? (i := 1192) (by decide +kernel)⟩
theorem lw_p53 : lw_okq (⟨"LateSeekersModel", "isTold", "(II)Z"⟩, 27) := ⟨⟨by decide +kernel, by decide +kernel⟩, List.mem_of_getElem? (i := 836) (by decide +kernel), List.mem_of_getElem? (i := 1214) (by decide +kernel), List.mem_of_getElem? (i := 1215) (by decide +kernel)⟩
theorem lw_p54 : lw_okq (⟨"LateSeekersModel", "isRow", "(II)Z"⟩, 27) := ⟨⟨by decide +kernel, by decide +kernel⟩, List.mem_of_getElem? (i := 836) (by decide +kernel), List.mem_of_getElem? (i := 1243) (by decide +kernel), List.mem_of_getElem? (i := 1244) (by decide +kernel)⟩
theorem lw_p55 : lw_okq (⟨"LateSeekersModel", "lacks", "(II)I"⟩, 27) := ⟨⟨by decide +kernel, by decide +kernel⟩, List.mem_of_getElem? (i := 836) (by decide +kernel), List.mem_of_getElem? (i := 1267) (by decide +kernel), List.mem_of_getElem? (i := 1268) (by decide +kernel)⟩
theorem lw_p56 : lw_okq (⟨"LateSeekersModel", "heldOn", "(I)I"⟩, 27) := ⟨⟨by decide +kernel, by decide +kernel⟩, List.mem_of_getElem? (i := 836) (by decide +kernel), List.mem_of_getElem? (i := 1291) (by decide +kernel), List.mem_of_getElem? (i := 1292) (by decide +kernel)⟩
theorem lw_p57 : lw_okq (⟨"LateSeekersModel", "counts", "(I)I"⟩, 27) := ⟨⟨by decide +kernel, by decide +kernel⟩, List.mem_of_getElem? (i := 836) (by decide +kernel), List.mem_of_getElem? (i := 1302) (by decide +kernel), List.mem_of_getElem? (i := 1303) (by decide +kernel)⟩
theorem lw_p58 : lw_okq (⟨"LateSeekersModel", "countsOfKeeper", "(I)I"⟩, 27) := ⟨⟨by decide +kernel, by decide +kernel⟩, List.mem_of_getElem? (i := 836) (by decide +kernel), List.mem_of_getElem? (i := 1306) (by decide +kernel), List.mem_of_getElem? (i := 1307) (by decide +kernel)⟩
theorem lw_p59 : lw_okq (⟨"LateSeekersModel", "runs", "(I)V"⟩, 27) := ⟨⟨by decide +kernel, by decide +kernel⟩, List.mem_of_getElem? (i := 836) (by decide +kernel), List.mem_of_getElem? (i := 1310) (by decide +kernel), List.mem_of_getElem? (i := 1311) (by decide +kernel)⟩
theorem lw_p60 : lw_okq (⟨"LateSeekersModel", "countsPlain", "(I)I"⟩, 27) := ⟨⟨by decide +kernel, by decide +kernel⟩, List.mem_of_getElem? (i := 836) (by decide +kernel), List.mem_of_getElem? (i := 1314) (by decide +kernel), List.mem_of_getElem? (i := 1315) (by decide +kernel)⟩
theorem lw_p61 : lw_okq (⟨"LateSeekersModel", "calls", "(I)I"⟩, 27) := ⟨⟨by decide +kernel, by decide +kernel⟩, List.mem_of_getElem? (i := 836) (by decide +kernel), List.mem_of_getElem? (i := 1318) (by decide +kernel), List.mem_of_getElem? (i := 1319) (by decide +kernel)⟩
theorem lw_p62 : lw_okq (⟨"LateSeekersModel", "callsPlain", "(I)I"⟩, 27) := ⟨⟨by decide +kernel, by decide +kernel⟩, List.mem_of_getElem? (i := 836) (by decide +kernel), List.mem_of_getElem? (i := 1322) (by decide +kernel), List.mem_of_getElem? (i := 1323) (by decide +kernel)⟩
theorem lw_p63 : lw_okq (⟨"LateSeekersModel", "parts", "(I)I"⟩, 27) := ⟨⟨by decide +kernel, by decide +kernel⟩, List.mem_of_getElem? (i := 836) (by decide +kernel), List.mem_of_getElem? (i := 1326) (by decide +kernel), List.mem_of_getElem? (i := 1327) (by decide +kernel)⟩
def lw_privs_4 : List (MethodName × Nat) := [(⟨"LateSeekersModel", "sumOf", "(I)I"⟩, 27), (⟨"LateSeekersModel", "hidingPlaces", "()I"⟩, 27), (⟨"LateSeekersModel", "coverOfAll", "()I"⟩, 27), (⟨"LateSeekersModel", "shownBy", "(II)I"⟩, 27), (⟨"LateSeekersModel", "isHiddenBy", "(III)Z"⟩, 27), (⟨"LateSeekersModel", "isTold", "(II)Z"⟩, 27), (⟨"LateSeekersModel", "isRow", "(II)Z"⟩, 27), (⟨"LateSeekersModel", "lacks", "(II)I"⟩, 27), (⟨"LateSeekersModel", "heldOn", "(I)I"⟩, 27), (⟨"LateSeekersModel", "counts", "(I)I"⟩, 27), (⟨"LateSeekersModel", "countsOfKeeper", "(I)I"⟩, 27), (⟨"LateSeekersModel", "runs", "(I)V"⟩, 27), (⟨"LateSeekersModel", "countsPlain", "(I)I"⟩, 27), (⟨"LateSeekersModel", "calls", "(I)I"⟩, 27), (⟨"LateSeekersModel", "callsPlain", "(I)I"⟩, 27), (⟨"LateSeekersModel", "parts", "(I)I"⟩, 27)]
theorem lw_r4 : ∀ q ∈ lw_privs_4, lw_okq q := List.forall_mem_cons.mpr ⟨lw_p48, List.forall_mem_cons.mpr ⟨lw_p49, List.forall_mem_cons.mpr ⟨lw_p50, List.forall_mem_cons.mpr ⟨lw_p51, List.forall_mem_cons.mpr ⟨lw_p52, List.forall_mem_cons.mpr ⟨lw_p53, List.forall_mem_cons.mpr ⟨lw_p54, List.forall_mem_cons.mpr ⟨lw_p55, List.forall_mem_cons.mpr ⟨lw_p56, List.forall_mem_cons.mpr ⟨lw_p57, List.forall_mem_cons.mpr ⟨lw_p58, List.forall_mem_cons.mpr ⟨lw_p59, List.forall_mem_cons.mpr ⟨lw_p60, List.forall_mem_cons.mpr ⟨lw_p61, List.forall_mem_cons.mpr ⟨lw_p62, List.forall_mem_cons.mpr ⟨lw_p63, fun _ h => absurd h List.not_mem_nil⟩⟩⟩⟩⟩⟩⟩⟩⟩⟩⟩⟩⟩⟩⟩⟩
theorem lw_p64 : lw_okq (⟨"LateSeekersModel", "partsPlain", "(I)I"⟩, 27) := ⟨⟨by decide +kernel, by decide +kernel⟩, List.mem_of_getElem? (i := 836) (by decide +kernel), List.mem_of_getElem? (i := 1330) (by decide +kernel), List.mem_of_getElem? (i := 1331) (by decide +kernel)⟩
theorem lw_p65 : lw_okq (⟨"LateSeekersModel", "looks", "(I)I"⟩, 27) := ⟨⟨by decide +kernel, by decide +kernel⟩, List.mem_of_getElem? (i := 836) (by decide +kernel), List.mem_of_getElem? (i := 1334) (by decide +kernel), List.mem_of_getElem? (i := 1335) (by decide +kernel)⟩
theorem lw_p66 : lw_okq (⟨"LateSeekersModel", "looksPlain", "(I)I"⟩, 27) := ⟨⟨by decide +kernel, by decide +kernel⟩, List.mem_of_getElem? (i := 836) (by decide +kernel), List.mem_of_getElem? (i := 1338) (by decide +kernel), List.mem_of_getElem? (i := 1339) (by decide +kernel)⟩
theorem lw_p67 : lw_okq (⟨"LateSeekersModel", "crowded", "()I"⟩, 27) := ⟨⟨by decide +kernel, by decide +kernel⟩, List.mem_of_getElem? (i := 836) (by decide +kernel), List.mem_of_getElem? (i := 1350) (by decide +kernel), List.mem_of_getElem? (i := 1351) (by decide +kernel)⟩
def lw_privs_5 : List (MethodName × Nat) := [(⟨"LateSeekersModel", "partsPlain", "(I)I"⟩, 27), (⟨"LateSeekersModel", "looks", "(I)I"⟩, 27), (⟨"LateSeekersModel", "looksPlain", "(I)I"⟩, 27), (⟨"LateSeekersModel", "crowded", "()I"⟩, 27)]
theorem lw_r5 : ∀ q ∈ lw_privs_5, lw_okq q := List.forall_mem_cons.mpr ⟨lw_p64, List.forall_mem_cons.mpr ⟨lw_p65, List.forall_mem_cons.mpr ⟨lw_p66, List.forall_mem_cons.mpr ⟨lw_p67, fun _ h => absurd h List.not_mem_nil⟩⟩⟩⟩
def lw_privs : List (MethodName × Nat) := lw_privs_1 ++ (lw_privs_2 ++ (lw_privs_3 ++ (lw_privs_4 ++ (lw_privs_5))))
def lw_tbl : List Cond := k2_sels lw_privs ++ tables_1
theorem lw_privs_ok : ∀ q ∈ lw_privs, lw_okq q := by
  show ∀ q ∈ lw_privs_1 ++ (lw_privs_2 ++ (lw_privs_3 ++ (lw_privs_4 ++ (lw_privs_5)))), lw_okq q
  exact List.forall_mem_append.mpr ⟨lw_r1, List.forall_mem_append.mpr ⟨lw_r2, List.forall_mem_append.mpr ⟨lw_r3, List.forall_mem_append.mpr ⟨lw_r4, lw_r5⟩⟩⟩⟩
end
section
/-! NAMES: the words of the tables that a call keeps; the classes, their fields in the order of the tables (declaring class, name, descriptor, final) -/
def tb : List Cond := lw_tbl.filter goodWord
theorem tb_mem {w : Cond} (i : Nat) (h : lw_tbl[i]? = some w) (hg : goodWord w = true) : w ∈ tb := List.mem_filter.mpr ⟨List.mem_of_getElem? h, hg⟩
def R_LS : String := "LateSeekers"
def F_LS : u_T := fun k => match k with
  | 0 => ("LateSeekers", "now", "LLateSeekers$Park;", true)
  | 1 => ("LateSeekers", "kept", "LLateSeekers$Park;", true)
  | 2 => ("LateSeekers", "anyKept", "Z", false)
  | 3 => ("LateSeekers", "trials", "LLateSeekers$Trials;", true)
  | 4 => ("LateSeekers", "tape", "LLateSeekers$TapeReader;", true)
  | 5 => ("LateSeekers", "rows", "LLateSeekers$Rows;", true)
  | 6 => ("LateSeekers", "sheets", "LLateSeekers$Sheets;", true)
  | 7 => ("LateSeekers", "shelves", "LLateSeekers$Shelves;", true)
  | _ => ("LateSeekers", "actor", "LLateSeekers$Actor;", true)
def t_LS : Nat → FieldType := fun k => match k with
  | 0 => .object "LateSeekers$Park"
  | 1 => .object "LateSeekers$Park"
  | 2 => .boolean
  | 3 => .object "LateSeekers$Trials"
  | 4 => .object "LateSeekers$TapeReader"
  | 5 => .object "LateSeekers$Rows"
  | 6 => .object "LateSeekers$Sheets"
  | 7 => .object "LateSeekers$Shelves"
  | _ => .object "LateSeekers$Actor"
theorem n_LS : ∀ a, a < 9 → ∀ b, b < 9 → a ≠ b → (F_LS a).2.1 ≠ (F_LS b).2.1 := by decide +kernel
theorem t_LS_ok : ∀ k, k < 9 → parseFieldDescriptor (F_LS k).2.2.1 = some (t_LS k) := by decide +kernel
set_option maxRecDepth 20000 in
theorem i_LS : ∀ w ∈ u_ws R_LS F_LS 9, w ∈ tb := by decide +kernel
def R_Pk : String := "LateSeekers$Park"
def F_Pk : u_T := fun k => match k with
  | 0 => ("LateSeekers$Park", "law", "[I", true)
  | 1 => ("LateSeekers$Park", "cover", "[I", true)
  | 2 => ("LateSeekers$Park", "kind", "[I", true)
  | 3 => ("LateSeekers$Park", "age", "[I", true)
  | 4 => ("LateSeekers$Park", "wit", "[I", true)
  | 5 => ("LateSeekers$Park", "at", "[I", true)
  | 6 => ("LateSeekers$Park", "finds", "[I", true)
  | 7 => ("LateSeekers$Park", "finderOf", "[I", true)
  | 8 => ("LateSeekers$Park", "people", "I", false)
  | 9 => ("LateSeekers$Park", "hidden", "I", false)
  | 10 => ("LateSeekers$Park", "yearsGone", "I", false)
  | _ => ("LateSeekers$Park", "z", "I", false)
def t_Pk : Nat → FieldType := fun k => match k with
  | 0 => .array .int
  | 1 => .array .int
  | 2 => .array .int
  | 3 => .array .int
  | 4 => .array .int
  | 5 => .array .int
  | 6 => .array .int
  | 7 => .array .int
  | 8 => .int
  | 9 => .int
  | 10 => .int
  | _ => .int
theorem n_Pk : ∀ a, a < 12 → ∀ b, b < 12 → a ≠ b → (F_Pk a).2.1 ≠ (F_Pk b).2.1 := by decide +kernel
theorem t_Pk_ok : ∀ k, k < 12 → parseFieldDescriptor (F_Pk k).2.2.1 = some (t_Pk k) := by decide +kernel
set_option maxRecDepth 20000 in
theorem i_Pk : ∀ w ∈ u_ws R_Pk F_Pk 12, w ∈ tb := by decide +kernel
def R_Tr : String := "LateSeekers$Trials"
def F_Tr : u_T := fun k => match k with
  | 0 => ("LateSeekers$Trials", "now", "LLateSeekers$Park;", true)
  | _ => ("LateSeekers$Trials", "trial", "LLateSeekers$Park;", true)
def t_Tr : Nat → FieldType := fun k => match k with
  | 0 => .object "LateSeekers$Park"
  | _ => .object "LateSeekers$Park"
theorem n_Tr : ∀ a, a < 2 → ∀ b, b < 2 → a ≠ b → (F_Tr a).2.1 ≠ (F_Tr b).2.1 := by decide +kernel
theorem t_Tr_ok : ∀ k, k < 2 → parseFieldDescriptor (F_Tr k).2.2.1 = some (t_Tr k) := by decide +kernel
set_option maxRecDepth 20000 in
theorem i_Tr : ∀ w ∈ u_ws R_Tr F_Tr 2, w ∈ tb := by decide +kernel
def R_Tp : String := "LateSeekers$TapeReader"
def F_Tp : u_T := fun k => match k with
  | 0 => ("LateSeekers$TapeReader", "bytes", "[B", true)
  | 1 => ("LateSeekers$TapeReader", "size", "I", false)
  | 2 => ("LateSeekers$TapeReader", "sort", "I", false)
  | 3 => ("LateSeekers$TapeReader", "from", "I", false)
  | 4 => ("LateSeekers$TapeReader", "to", "I", false)
  | _ => ("LateSeekers$TapeReader", "fault", "I", false)
def t_Tp : Nat → FieldType := fun k => match k with
  | 0 => .array .byte
  | 1 => .int
  | 2 => .int
  | 3 => .int
  | 4 => .int
  | _ => .int
theorem n_Tp : ∀ a, a < 6 → ∀ b, b < 6 → a ≠ b → (F_Tp a).2.1 ≠ (F_Tp b).2.1 := by decide +kernel
theorem t_Tp_ok : ∀ k, k < 6 → parseFieldDescriptor (F_Tp k).2.2.1 = some (t_Tp k) := by decide +kernel
set_option maxRecDepth 20000 in
theorem i_Tp : ∀ w ∈ u_ws R_Tp F_Tp 6, w ∈ tb := by decide +kernel
def R_Rw : String := "LateSeekers$Rows"
def F_Rw : u_T := fun k => match k with
  | 0 => ("LateSeekers$Rows", "parts", "[I", true)
  | _ => ("LateSeekers$Rows", "size", "I", false)
def t_Rw : Nat → FieldType := fun k => match k with
  | 0 => .array .int
  | _ => .int
theorem n_Rw : ∀ a, a < 2 → ∀ b, b < 2 → a ≠ b → (F_Rw a).2.1 ≠ (F_Rw b).2.1 := by decide +kernel
theorem t_Rw_ok : ∀ k, k < 2 → parseFieldDescriptor (F_Rw k).2.2.1 = some (t_Rw k) := by decide +kernel
set_option maxRecDepth 20000 in
theorem i_Rw : ∀ w ∈ u_ws R_Rw F_Rw 2, w ∈ tb := by decide +kernel
def R_Sh : String := "LateSeekers$Sheets"
def F_Sh : u_T := fun k => match k with
  | 0 => ("LateSeekers$Sheets", "sort", "[I", true)
  | 1 => ("LateSeekers$Sheets", "size", "[I", true)
  | _ => ("LateSeekers$Sheets", "items", "[I", true)
def t_Sh : Nat → FieldType := fun k => match k with
  | 0 => .array .int
  | 1 => .array .int
  | _ => .array .int
theorem n_Sh : ∀ a, a < 3 → ∀ b, b < 3 → a ≠ b → (F_Sh a).2.1 ≠ (F_Sh b).2.1 := by decide +kernel
theorem t_Sh_ok : ∀ k, k < 3 → parseFieldDescriptor (F_Sh k).2.2.1 = some (t_Sh k) := by decide +kernel
set_option maxRecDepth 20000 in
theorem i_Sh : ∀ w ∈ u_ws R_Sh F_Sh 3, w ∈ tb := by decide +kernel
def R_Sv : String := "LateSeekers$Shelves"
def F_Sv : u_T := fun k => match k with
  | 0 => ("LateSeekers$Shelves", "person", "[I", true)
  | 1 => ("LateSeekers$Shelves", "rowSort", "[I", true)
  | _ => ("LateSeekers$Shelves", "rowSize", "[I", true)
def t_Sv : Nat → FieldType := fun k => match k with
  | 0 => .array .int
  | 1 => .array .int
  | _ => .array .int
theorem n_Sv : ∀ a, a < 3 → ∀ b, b < 3 → a ≠ b → (F_Sv a).2.1 ≠ (F_Sv b).2.1 := by decide +kernel
theorem t_Sv_ok : ∀ k, k < 3 → parseFieldDescriptor (F_Sv k).2.2.1 = some (t_Sv k) := by decide +kernel
set_option maxRecDepth 20000 in
theorem i_Sv : ∀ w ∈ u_ws R_Sv F_Sv 3, w ∈ tb := by decide +kernel
def R_Ac : String := "LateSeekers$Actor"
def F_Ac : u_T := fun k => match k with
  | 0 => ("LateSeekers$Actor", "traceOf", "[I", true)
  | 1 => ("LateSeekers$Actor", "traced", "I", false)
  | 2 => ("LateSeekers$Actor", "ownKind", "I", false)
  | 3 => ("LateSeekers$Actor", "n", "I", false)
  | 4 => ("LateSeekers$Actor", "a", "I", false)
  | _ => ("LateSeekers$Actor", "partedByNothing", "Z", false)
def t_Ac : Nat → FieldType := fun k => match k with
  | 0 => .array .int
  | 1 => .int
  | 2 => .int
  | 3 => .int
  | 4 => .int
  | _ => .boolean
theorem n_Ac : ∀ a, a < 6 → ∀ b, b < 6 → a ≠ b → (F_Ac a).2.1 ≠ (F_Ac b).2.1 := by decide +kernel
theorem t_Ac_ok : ∀ k, k < 6 → parseFieldDescriptor (F_Ac k).2.2.1 = some (t_Ac k) := by decide +kernel
set_option maxRecDepth 20000 in
theorem i_Ac : ∀ w ∈ u_ws R_Ac F_Ac 6, w ∈ tb := by decide +kernel
def R_Md : String := "LateSeekersModel"
def F_Md : u_T := fun k => match k with
  | 0 => ("LateSeekersModel", "s", "[I", true)
  | 1 => ("LateSeekersModel", "held", "[I", true)
  | 2 => ("LateSeekersModel", "aside", "[I", true)
  | 3 => ("LateSeekersModel", "before", "[I", true)
  | 4 => ("LateSeekersModel", "isHeld", "Z", false)
  | 5 => ("LateSeekersModel", "tape", "[I", true)
  | 6 => ("LateSeekersModel", "taped", "I", false)
  | 7 => ("LateSeekersModel", "token", "I", false)
  | 8 => ("LateSeekersModel", "from", "I", false)
  | 9 => ("LateSeekersModel", "to", "I", false)
  | 10 => ("LateSeekersModel", "value", "I", false)
  | 11 => ("LateSeekersModel", "isWrong", "Z", false)
  | 12 => ("LateSeekersModel", "foundBy", "[I", true)
  | 13 => ("LateSeekersModel", "rows", "[I", true)
  | 14 => ("LateSeekersModel", "rowN", "I", false)
  | 15 => ("LateSeekersModel", "sortOf", "[I", true)
  | 16 => ("LateSeekersModel", "sizeOf", "[I", true)
  | 17 => ("LateSeekersModel", "numbers", "[I", true)
  | 18 => ("LateSeekersModel", "holdsWhat", "[I", true)
  | 19 => ("LateSeekersModel", "holdsWhich", "[I", true)
  | 20 => ("LateSeekersModel", "holdsMany", "[I", true)
  | 21 => ("LateSeekersModel", "bodies", "[I", true)
  | 22 => ("LateSeekersModel", "ran", "I", false)
  | 23 => ("LateSeekersModel", "actKind", "I", false)
  | 24 => ("LateSeekersModel", "actN", "I", false)
  | 25 => ("LateSeekersModel", "actA", "I", false)
  | _ => ("LateSeekersModel", "isParted", "Z", false)
def t_Md : Nat → FieldType := fun k => match k with
  | 0 => .array .int
  | 1 => .array .int
  | 2 => .array .int
  | 3 => .array .int
  | 4 => .boolean
  | 5 => .array .int
  | 6 => .int
  | 7 => .int
  | 8 => .int
  | 9 => .int
  | 10 => .int
  | 11 => .boolean
  | 12 => .array .int
  | 13 => .array .int
  | 14 => .int
  | 15 => .array .int
  | 16 => .array .int
  | 17 => .array .int
  | 18 => .array .int
  | 19 => .array .int
  | 20 => .array .int
  | 21 => .array .int
  | 22 => .int
  | 23 => .int
  | 24 => .int
  | 25 => .int
  | _ => .boolean
theorem n_Md : ∀ a, a < 27 → ∀ b, b < 27 → a ≠ b → (F_Md a).2.1 ≠ (F_Md b).2.1 := by decide +kernel
theorem t_Md_ok : ∀ k, k < 27 → parseFieldDescriptor (F_Md k).2.2.1 = some (t_Md k) := by decide +kernel
set_option maxRecDepth 20000 in
theorem i_Md : ∀ w ∈ u_ws R_Md F_Md 27, w ∈ tb := by decide +kernel
abbrev classes : List vw_C := [(R_LS, F_LS, 9), (R_Pk, F_Pk, 12), (R_Tr, F_Tr, 2), (R_Tp, F_Tp, 6), (R_Rw, F_Rw, 2), (R_Sh, F_Sh, 3), (R_Sv, F_Sv, 3), (R_Ac, F_Ac, 6), (R_Md, F_Md, 27)]
/-- what is known of class ci: its words are among the tables', its fields' types, their names apart -/
def CF (ci : Nat) : Prop := ∃ (C : String) (T : u_T) (N : Nat) (t : Nat → FieldType), classes[ci]? = some (C, T, N) ∧ (∀ w ∈ u_ws C T N, w ∈ tb) ∧ (∀ k, k < N → parseFieldDescriptor (T k).2.2.1 = some (t k)) ∧ (∀ a, a < N → ∀ b, b < N → a ≠ b → (T a).2.1 ≠ (T b).2.1)
theorem cf_all : ∀ ci, ci < 9 → CF ci := by
  intro ci h
  match ci, h with
  | 0, _ => exact ⟨R_LS, F_LS, 9, t_LS, rfl, i_LS, t_LS_ok, n_LS⟩
  | 1, _ => exact ⟨R_Pk, F_Pk, 12, t_Pk, rfl, i_Pk, t_Pk_ok, n_Pk⟩
  | 2, _ => exact ⟨R_Tr, F_Tr, 2, t_Tr, rfl, i_Tr, t_Tr_ok, n_Tr⟩
  | 3, _ => exact ⟨R_Tp, F_Tp, 6, t_Tp, rfl, i_Tp, t_Tp_ok, n_Tp⟩
  | 4, _ => exact ⟨R_Rw, F_Rw, 2, t_Rw, rfl, i_Rw, t_Rw_ok, n_Rw⟩
  | 5, _ => exact ⟨R_Sh, F_Sh, 3, t_Sh, rfl, i_Sh, t_Sh_ok, n_Sh⟩
  | 6, _ => exact ⟨R_Sv, F_Sv, 3, t_Sv, rfl, i_Sv, t_Sv_ok, n_Sv⟩
  | 7, _ => exact ⟨R_Ac, F_Ac, 6, t_Ac, rfl, i_Ac, t_Ac_ok, n_Ac⟩
  | 8, _ => exact ⟨R_Md, F_Md, 27, t_Md, rfl, i_Md, t_Md_ok, n_Md⟩
end
section
/-! THE FRAME: a store of numbered cells (objects whose references are fixed, arrays of numbers) and a judgement G over it, one row an instruction -/
abbrev Store : Type := Nat → Nat → Int32
abbrev Shape : Type := (Bool × Nat) ⊕ (Nat × List (Option Nat))
abbrev Lay : Type := List Shape
/-- a store with one place written -/
def s_up (σ : Store) (k j : Nat) (v : Int32) : Store := fun a => if a = k then upd (σ a) j v else σ a
theorem s_up_k (σ : Store) (k j : Nat) (v : Int32) : s_up σ k j v k = upd (σ k) j v := by simp [s_up]
theorem s_up_n (σ : Store) {a k : Nat} (j : Nat) (v : Int32) (h : a ≠ k) : s_up σ k j v a = σ a := by simp [s_up, h]
/-- a store with one cell replaced -/
def s_row (σ : Store) (k : Nat) (f : Nat → Int32) : Store := fun a => if a = k then f else σ a
theorem s_row_k (σ : Store) (k : Nat) (f : Nat → Int32) : s_row σ k f k = f := by simp [s_row]
theorem s_row_n (σ : Store) {a k : Nat} (f : Nat → Int32) (h : a ≠ k) : s_row σ k f a = σ a := by simp [s_row, h]
/-- a reference of the store is a cell's number; its address is ad of it -/
def cv (ad : Nat → Nat) : Value → Value
  | .ref k => .ref (ad k)
  | v => v
theorem cv_cat (ad : Nat → Nat) (v : Value) : (cv ad v).category = v.category := by cases v <;> rfl
def fv (ad : Nat → Nat) (v : Nat → Int32) : Nat → List (Option Nat) → List Value
  | _, [] => []
  | j, none :: r => .int (v j) :: fv ad v (j + 1) r
  | j, some k :: r => .ref (ad k) :: fv ad v (j + 1) r
def fo (ad : Nat → Nat) (v : Nat → Int32) (j : Nat) : Option Nat → Value
  | none => .int (v j)
  | some k => .ref (ad k)
theorem fv_get (ad : Nat → Nat) (v : Nat → Int32) : ∀ (fs : List (Option Nat)) (j i : Nat), (fv ad v j fs)[i]? = fs[i]?.map (fo ad v (j + i)) := by
  intro fs
  induction fs with
  | nil => intro j i; simp [fv]
  | cons f r ih =>
    intro j i
    cases i with
    | zero => cases f <;> simp [fv, fo]
    | succ i =>
      have e : j + (i + 1) = (j + 1) + i := by omega
      cases f <;> simp [fv, ih, e]
theorem fv_len (ad : Nat → Nat) (v : Nat → Int32) : ∀ (fs : List (Option Nat)) (j : Nat), (fv ad v j fs).length = fs.length := by
  intro fs
  induction fs with
  | nil => intro j; rfl
  | cons f r ih => intro j; cases f <;> simp [fv, ih]
theorem fv_set (ad : Nat → Nat) (v : Nat → Int32) (fs : List (Option Nat)) {i : Nat} (x : Int32) (h : fs[i]? = some none) : (fv ad v 0 fs).set i (.int x) = fv ad (upd v i x) 0 fs := by
  apply List.ext_getElem?
  intro k
  rw [List.getElem?_set, fv_get, fv_len, fv_get]
  by_cases hk : i = k
  · subst hk
    have hl : i < fs.length := (List.getElem?_eq_some_iff.mp h).1
    have h3 : fs[i] = none := (List.getElem?_eq_some_iff.mp h).2
    simp [hl, h3, fo, upd]
  · rw [if_neg hk]
    cases hf : fs[k]? with
    | none => rfl
    | some o => cases o <;> simp [fo, upd, Ne.symm hk]
def ce (cI cB : ClassId) (ad : Nat → Nat) (v : Nat → Int32) : Shape → va_E
  | .inl (b, n) => .inl (if b then cB else cI, n, .inl v)
  | .inr (ci, fs) => .inr (ci, fv ad v 0 fs)
def wr (cI cB : ClassId) (ad : Nat → Nat) (σ : Store) : Nat → Lay → va_W
  | _, [] => []
  | k, sh :: r => (ad k, ce cI cB ad (σ k) sh) :: wr cI cB ad σ (k + 1) r
theorem wr_get (cI cB : ClassId) (ad : Nat → Nat) (σ : Store) : ∀ (Λ : Lay) (k i : Nat), (wr cI cB ad σ k Λ)[i]? = Λ[i]?.map (fun sh => (ad (k + i), ce cI cB ad (σ (k + i)) sh)) := by
  intro Λ
  induction Λ with
  | nil => intro k i; simp [wr]
  | cons f r ih =>
    intro k i
    cases i with
    | zero => simp [wr]
    | succ i =>
      have e : k + (i + 1) = (k + 1) + i := by omega
      simp [wr, ih, e]
theorem wr_at {cI cB : ClassId} {ad : Nat → Nat} {σ : Store} {Λ : Lay} {i : Nat} {sh : Shape} (h : Λ[i]? = some sh) : (wr cI cB ad σ 0 Λ)[i]? = some (ad i, ce cI cB ad (σ i) sh) := by
  rw [wr_get, h]; simp
theorem wr_len (cI cB : ClassId) (ad : Nat → Nat) (σ : Store) : ∀ (Λ : Lay) (k : Nat), (wr cI cB ad σ k Λ).length = Λ.length := by
  intro Λ
  induction Λ with
  | nil => intro k; rfl
  | cons f r ih => intro k; simp [wr, ih]
theorem wr_set {cI cB : ClassId} {ad : Nat → Nat} {σ : Store} {Λ : Lay} {i : Nat} {sh : Shape} (f : Nat → Int32) (h : Λ[i]? = some sh) : (wr cI cB ad σ 0 Λ).set i (ad i, ce cI cB ad f sh) = wr cI cB ad (s_row σ i f) 0 Λ := by
  apply List.ext_getElem?
  intro k
  rw [List.getElem?_set, wr_get, wr_len, wr_get]
  by_cases hk : i = k
  · subst hk
    have hl : i < Λ.length := (List.getElem?_eq_some_iff.mp h).1
    have h3 : Λ[i] = sh := (List.getElem?_eq_some_iff.mp h).2
    simp [hl, h3, s_row]
  · rw [if_neg hk]
    cases hf : Λ[k]? with
    | none => rfl
    | some o => simp [s_row, Ne.symm hk]
theorem s_row_up (σ : Store) (k j : Nat) (v : Int32) : s_row σ k (upd (σ k) j v) = s_up σ k j v := by
  funext a
  by_cases h : a = k
  · subst h; simp [s_row, s_up]
  · simp [s_row, s_up, h]
/-- the cells' addresses are apart; which they are -/
def Ap (Λ : Lay) (ad : Nat → Nat) : Prop := ∀ i j, i < Λ.length → j < Λ.length → ad i = ad j → i = j
def Aw (Λ : Lay) (ad : Nat → Nat) : Nat → Prop := fun q => ∃ k, k < Λ.length ∧ q = ad k
theorem wr_D {cI cB : ClassId} {ad : Nat → Nat} {σ : Store} {Λ : Lay} {A : Nat → Prop} (h : Ap Λ ad) (hA : ∀ k, k < Λ.length → A (ad k)) : va_D A (wr cI cB ad σ 0 Λ) := by
  have key : ∀ (k : Nat) (q : Nat × va_E), (wr cI cB ad σ 0 Λ)[k]? = some q → k < Λ.length ∧ q.1 = ad k := by
    intro k q hq
    rw [wr_get] at hq
    cases hf : Λ[k]? with
    | none => rw [hf] at hq; cases hq
    | some o =>
      rw [hf] at hq
      have := Option.some.inj hq
      refine ⟨(List.getElem?_eq_some_iff.mp hf).1, ?_⟩
      rw [← this]; simp
  refine ⟨fun i j p q hp hq e => ?_, fun k q hq => ?_⟩
  · obtain ⟨a1, a2⟩ := key i p hp
    obtain ⟨b1, b2⟩ := key j q hq
    exact h i j a1 b1 (by rw [← a2, ← b2]; exact e)
  · obtain ⟨a1, a2⟩ := key k q hq
    rw [a2]; exact hA k a1
-- what nobody writes: static arrays, String constants
def roC : Nat → String × String := fun j => match j with
  | 0 => ("LateSeekers", "LAW_AT_FIRST")
  | 1 => ("LateSeekers", "LAW_MOST")
  | 2 => ("LateSeekers", "KIND_ABOVE")
  | _ => ("LateSeekers$Actor", "BODIES")
def roV : Nat → List Int32 := fun j => match j with
  | 0 => [60, 2, 1, 20]
  | 1 => [99, 9, 9, 99]
  | 2 => [-1, 0, 0, 1, 2, 0]
  | _ => [10, 11, 12, 13, 10, 20, 12, 13, 30, 11, 12, 31, 51, 20, 50, 13, 40, 41, 12, 31, 10, 11, 61, 60]
/-- the String constants: place in the pool, text -/
def strK : List (Nat × String) := [(64, "at"), (74, "age"), (80, "wit"), (82, "seeks"), (98, "cover"), (100, "is"), (120, "child"), (122, "widower"), (124, "keeper"), (126, "grandson"), (128, "scholar"), (130, "lady"), (132, "out"), (134, "dark"), (136, "lamp"), (138, "peep")]
def strB : List (List Int32) := [[97, 116], [97, 103, 101], [119, 105, 116], [115, 101, 101, 107, 115], [99, 111, 118, 101, 114], [105, 115], [99, 104, 105, 108, 100], [119, 105, 100, 111, 119, 101, 114], [107, 101, 101, 112, 101, 114], [103, 114, 97, 110, 100, 115, 111, 110], [115, 99, 104, 111, 108, 97, 114], [108, 97, 100, 121], [111, 117, 116], [100, 97, 114, 107], [108, 97, 109, 112], [112, 101, 101, 112]]
def strL : List Nat := [2, 3, 3, 5, 5, 2, 5, 7, 6, 8, 7, 4, 3, 4, 4, 4]
def RO (ad : Nat → Nat) (A : Nat → Prop) (U : State) : Prop :=
  (∀ j, j < 4 → va_Z (roC j).1 (roC j).2 "[I" (.ref (ad (900 + j))) A U U.heap ∧ va_T .int (ad (900 + j)) (roV j).length (fun i => .int ((roV j).getD i 0)) A U U.heap) ∧
  vk_S 16 strL strB (fun i => ad (1000 + i)) (fun i => ad (1100 + i)) A U U.heap ∧
  (∀ i, i < 16 → vk_R "LateSeekers$TapeReader" (strK.getD i (0, "")).1 (strK.getD i (0, "")).2 (ad (1000 + i)) U) ∧
  va_Z "java/lang/String" "COMPACT_STRINGS" "Z" (.int 1) A U U.heap ∧
  (va_Z "jdk/internal/util/Preconditions" "SIOOBE_FORMATTER" "Ljava/util/function/BiFunction;" .null A U U.heap ∨ va_Z "jdk/internal/util/Preconditions" "SIOOBE_FORMATTER" "Ljava/util/function/BiFunction;" (.ref (ad 1200)) A U U.heap) ∧
  va_Nw (.fieldLinkNest "LateSeekers$Park" 43 "LateSeekers" "LAW_AT_FIRST" "[I" "LateSeekers") U ∧ va_Nw (.fieldLinkNest "LateSeekers$TapeReader" 91 "LateSeekers" "LAW_MOST" "[I" "LateSeekers") U
/-- at a later state of the same run -/
theorem RO.later {ad : Nat → Nat} {A B : Nat → Prop} {s U : State} {H : Heap} {locs : List Loc} (h : RO ad A s) (hS : va_S A s.heap H locs) (hU : U.heap = H) (hW : s.WarmedH U.vm) (hB : ∀ q, B q → A q) : RO ad B U := by
  obtain ⟨h1, h2, h3, h4, h5, h6, h7⟩ := h
  have hv := hW.alike
  subst hU
  refine ⟨fun j hj => ⟨((va_Z.moved hv (h1 j hj).1).kept hS.2.1).narrow hB, ((va_T.moved hv (h1 j hj).2).kept hS.2.1).narrow hB⟩, ((vk_S.moved hv h2).kept hS.2.1).narrow hB, fun i hi => (h3 i hi).warm hW, ((va_Z.moved hv h4).kept hS.2.1).narrow hB, ?_, va_Nw.warmF hW h6, va_Nw.warmF hW h7⟩
  rcases h5 with h | h
  · exact Or.inl (((va_Z.moved hv h).kept hS.2.1).narrow hB)
  · exact Or.inr (((va_Z.moved hv h).kept hS.2.1).narrow hB)
theorem RO.calling {ad : Nat → Nat} {A : Nat → Prop} {U : State} (g : JFrame) (mk : MethodId) (a : Array Value) (h : RO ad A U) : RO ad A (U.calling g mk a) := by
  obtain ⟨h1, h2, h3, h4, h5, h6, h7⟩ := h
  have hv : U.vm.Alike (U.calling g mk a).vm := Vm.Alike.refl U.vm
  refine ⟨fun j hj => ⟨va_Z.moved hv (h1 j hj).1, va_T.moved hv (h1 j hj).2⟩, vk_S.moved hv h2, fun i hi => (h3 i hi).same rfl, va_Z.moved hv h4, ?_, va_Nw.same rfl rfl h6, va_Nw.same rfl rfl h7⟩
  rcases h5 with h | h
  · exact Or.inl (va_Z.moved hv h)
  · exact Or.inr (va_Z.moved hv h)
theorem RO.re {ad ad' : Nat → Nat} {A : Nat → Prop} {U : State} (h : RO ad A U) (he : ∀ k, 900 ≤ k → ad' k = ad k) : RO ad' A U := by
  obtain ⟨h1, h2, h3, h4, h5, h6, h7⟩ := h
  refine ⟨fun j hj => ?_, ⟨fun i hi => ?_, fun i j hi hj e => ?_⟩, fun i hi => ?_, h4, ?_, h6, h7⟩
  · rw [he (900 + j) (by omega)]; exact h1 j hj
  · have := h2.1 i hi
    show va_O _ (ad' (1000 + i)) A U U.heap ∧ va_OF _ _ _ _ (ad' (1000 + i)) A U U.heap ∧ va_OF _ _ _ (.ref (ad' (1100 + i))) (ad' (1000 + i)) A U U.heap ∧ va_T _ (ad' (1100 + i)) _ _ A U U.heap
    rw [he (1000 + i) (by omega), he (1100 + i) (by omega)]
    exact this
  · have e1 : ad' (1000 + i) = ad' (1000 + j) := e
    rw [he (1000 + i) (by omega), he (1000 + j) (by omega)] at e1
    exact h2.2 i j hi hj e1
  · rw [he (1000 + i) (by omega)]; exact h3 i hi
  · rw [he 1200 (by omega)]; exact h5
-- locals by their places
def clr (L : List (Option Value)) : Nat → List (Option Value)
  | 0 => L
  | j + 1 => match L[j]? with
    | some (some (.long _)) => L.set j none
    | some (some (.double _)) => L.set j none
    | _ => L
def st1 (L : List (Option Value)) (i : Nat) (v : Value) : List (Option Value) := (clr L i).set i (some v)
def st2 (L : List (Option Value)) (i : Nat) (v : Value) : List (Option Value) := ((clr L i).set i (some v)).set (i + 1) none
def ent (as : List Value) (n : Nat) : List (Option Value) := let l := as.flatMap (fun v => match v with
    | .long z => [some (.long z), none]
    | .double z => [some (.double z), none]
    | w => [some w]); l ++ List.replicate (n - l.length) none
def lh (ls : Array Slot) (nL : Nat) (ad : Nat → Nat) (L : List (Option Value)) : Prop := ls.size = nL ∧ lv_wf ls ∧ ∀ (i : Nat) (v : Value), L[i]? = some (some v) → ls[i]? = some (.val (cv ad v))
def prs (ad : Nat → Nat) : Nat → List (Option Value) → List (Nat × Value)
  | _, [] => []
  | i, none :: r => prs ad (i + 1) r
  | i, some v :: r => (i, cv ad v) :: prs ad (i + 1) r
theorem prs_mem (ad : Nat → Nat) : ∀ (L : List (Option Value)) (i : Nat) (q : Nat × Value), q ∈ prs ad i L ↔ ∃ (k : Nat) (v : Value), L[k]? = some (some v) ∧ q = (i + k, cv ad v) := by
  intro L
  induction L with
  | nil => intro i q; simp [prs]
  | cons f r ih =>
    intro i q
    have aux : (∃ (k : Nat) (v : Value), r[k]? = some (some v) ∧ q = (i + 1 + k, cv ad v)) ↔ ∃ (k : Nat) (v : Value), (f :: r)[k + 1]? = some (some v) ∧ q = (i + (k + 1), cv ad v) := by
      constructor
      · rintro ⟨k, v, h1, h2⟩; exact ⟨k, v, by simpa using h1, by rw [h2, show i + (k + 1) = i + 1 + k by omega]⟩
      · rintro ⟨k, v, h1, h2⟩; exact ⟨k, v, by simpa using h1, by rw [h2, show i + (k + 1) = i + 1 + k by omega]⟩
    cases f with
    | none =>
      rw [prs, ih, aux]
      constructor
      · rintro ⟨k, v, h1, h2⟩; exact ⟨k + 1, v, h1, h2⟩
      · rintro ⟨k, v, h1, h2⟩
        cases k with
        | zero => simp at h1
        | succ k => exact ⟨k, v, h1, h2⟩
    | some w =>
      rw [prs, List.mem_cons, ih, aux]
      constructor
      · rintro (h | ⟨k, v, h1, h2⟩)
        · exact ⟨0, w, rfl, by rw [h]; simp⟩
        · exact ⟨k + 1, v, h1, h2⟩
      · rintro ⟨k, v, h1, h2⟩
        cases k with
        | zero =>
          have : w = v := by simpa using h1
          subst this
          exact Or.inl (by rw [h2]; simp)
        | succ k => exact Or.inr ⟨k, v, h1, h2⟩
theorem lh_pairs {ls : Array Slot} {nL : Nat} {ad : Nat → Nat} {L : List (Option Value)} (h : lh ls nL ad L) : lv_has ls nL (prs ad 0 L) := by
  refine ⟨h.1, h.2.1, fun q hq => ?_⟩
  obtain ⟨k, v, h1, h2⟩ := (prs_mem ad L 0 q).mp hq
  rw [h2]
  simpa using h.2.2 k v h1
theorem lh_at {ls : Array Slot} {nL : Nat} {ad : Nat → Nat} {L : List (Option Value)} (h : lh ls nL ad L) {i : Nat} {v : Value} (hi : L[i]? = some (some v)) : ls[i]? = some (.val (cv ad v)) := h.2.2 i v hi
theorem set_some {L : List (Option Value)} {j i : Nat} {o : Option Value} {w : Value} (h : (L.set i o)[j]? = some (some w)) : (j = i ∧ o = some w) ∨ (j ≠ i ∧ L[j]? = some (some w)) := by
  rw [List.getElem?_set] at h
  by_cases e : i = j
  · subst e
    rw [if_pos rfl] at h
    by_cases hl : i < L.length
    · rw [if_pos hl] at h
      exact Or.inl ⟨rfl, Option.some.inj h⟩
    · rw [if_neg hl] at h; cases h
  · rw [if_neg e] at h
    exact Or.inr ⟨fun q => e q.symm, h⟩
theorem clr_some {L : List (Option Value)} {i j : Nat} {w : Value} (h : (clr L i)[j]? = some (some w)) : L[j]? = some (some w) ∧ ¬ (j + 1 = i ∧ w.category = 2) := by
  cases i with
  | zero => exact ⟨h, fun q => by omega⟩
  | succ i =>
    have base : ∀ v : Value, L[i]? = some (some v) → v.category = 2 → clr L (i + 1) = L.set i none := by
      intro v hv hc
      show (match L[i]? with
        | some (some (.long _)) => L.set i none
        | some (some (.double _)) => L.set i none
        | _ => L) = _
      rw [hv]
      cases v <;> simp [Value.category] at hc <;> rfl
    by_cases hb : ∃ v : Value, L[i]? = some (some v) ∧ v.category = 2
    · obtain ⟨v, hv, hc⟩ := hb
      rw [base v hv hc] at h
      rcases set_some h with ⟨_, h2⟩ | ⟨h1, h2⟩
      · cases h2
      · exact ⟨h2, fun q => h1 (by omega)⟩
    · have e : clr L (i + 1) = L := by
        show (match L[i]? with
          | some (some (.long _)) => L.set i none
          | some (some (.double _)) => L.set i none
          | _ => L) = _
        split
        · rename_i z hz; exact absurd ⟨_, hz, rfl⟩ hb
        · rename_i z hz; exact absurd ⟨_, hz, rfl⟩ hb
        · rfl
      rw [e] at h
      refine ⟨h, fun q => hb ⟨w, ?_, q.2⟩⟩
      have : j = i := by omega
      rw [← this]; exact h
theorem lh_st1 {ls' : Array Slot} {nL i : Nat} {ad : Nat → Nat} {L L' : List (Option Value)} {v : Value} (h' : lv_has ls' nL ((i, cv ad v) :: (prs ad 0 L).filter (fun q => !(q.1 == i) && !(q.1 + 1 == i && q.2.category == 2)))) (hL : st1 L i v = L') : lh ls' nL ad L' := by
  subst hL
  refine ⟨h'.1, h'.2.1, fun j w hj => ?_⟩
  rcases set_some hj with ⟨h1, h2⟩ | ⟨h1, h2⟩
  · cases h2; subst h1
    exact h'.2.2 _ List.mem_cons_self
  · obtain ⟨h3, h4⟩ := clr_some h2
    refine h'.2.2 (j, cv ad w) (List.mem_cons_of_mem _ (List.mem_filter.mpr ⟨(prs_mem ad L 0 _).mpr ⟨j, w, h3, by simp⟩, ?_⟩))
    rw [cv_cat]
    by_cases e : j + 1 = i
    · have : ¬ w.category = 2 := fun q => h4 ⟨e, q⟩
      simp [h1, this]
    · simp [h1, e]
theorem lh_st2 {ls' : Array Slot} {nL i : Nat} {ad : Nat → Nat} {L L' : List (Option Value)} {v : Value} (h' : lv_has ls' nL ((i, cv ad v) :: (prs ad 0 L).filter (fun q => !(q.1 == i) && (!(q.1 == i + 1) && !(q.1 + 1 == i && q.2.category == 2))))) (hL : st2 L i v = L') : lh ls' nL ad L' := by
  subst hL
  refine ⟨h'.1, h'.2.1, fun j w hj => ?_⟩
  rcases set_some hj with ⟨_, h2⟩ | ⟨h0, hj⟩
  · cases h2
  rcases set_some hj with ⟨h1, h2⟩ | ⟨h1, h2⟩
  · cases h2; subst h1
    exact h'.2.2 _ List.mem_cons_self
  · obtain ⟨h3, h4⟩ := clr_some h2
    refine h'.2.2 (j, cv ad w) (List.mem_cons_of_mem _ (List.mem_filter.mpr ⟨(prs_mem ad L 0 _).mpr ⟨j, w, h3, by simp⟩, ?_⟩))
    rw [cv_cat]
    by_cases e : j + 1 = i
    · have : ¬ w.category = 2 := fun q => h4 ⟨e, q⟩
      simp [h1, h0, this]
    · simp [h1, h0, e]
/-- fewer listed locals -/
def leL : List (Option Value) → List (Option Value) → Prop
  | [], _ => True
  | none :: a, [] => leL a []
  | none :: a, _ :: b => leL a b
  | some _ :: _, [] => False
  | some v :: a, w :: b => w = some v ∧ leL a b
theorem leL_at : ∀ (L M : List (Option Value)), leL L M → ∀ (i : Nat) (v : Value), L[i]? = some (some v) → M[i]? = some (some v) := by
  intro L
  induction L with
  | nil => intro M _ i v h; simp at h
  | cons f r ih =>
    intro M h i v hv
    cases f with
    | none =>
      cases i with
      | zero => simp at hv
      | succ i =>
        cases M with
        | nil => have := ih [] h i v (by simpa using hv); simp at this
        | cons w b => have := ih b h i v (by simpa using hv); simpa using this
    | some u =>
      cases M with
      | nil => exact h.elim
      | cons w b =>
        obtain ⟨h1, h2⟩ := h
        cases i with
        | zero => simp at hv; subst hv; simp [h1]
        | succ i => have := ih b h2 i v (by simpa using hv); simpa using this
theorem lh_sub {ls : Array Slot} {nL : Nat} {ad : Nat → Nat} {L M : List (Option Value)} (h : lh ls nL ad M) (hs : leL L M) : lh ls nL ad L := ⟨h.1, h.2.1, fun i v hv => h.2.2 i v (leL_at L M hs i v hv)⟩
theorem ent_args (ad : Nat → Nat) : ∀ (as : List Value) (i : Nat), ∀ (k : Nat) (v : Value), (as.flatMap (fun v => match v with
    | .long z => [some (.long z), none]
    | .double z => [some (.double z), none]
    | w => [some w]))[k]? = some (some v) → (i + k, cv ad v) ∈ lv_args i (as.map (cv ad)) := by
  intro as
  induction as with
  | nil => intro i k v h; simp at h
  | cons a r ih =>
    intro i k v h
    have one : ∀ (w : Value), w.category = 1 → (some w :: r.flatMap (fun v => match v with
        | .long z => [some (.long z), none]
        | .double z => [some (.double z), none]
        | w => [some w]))[k]? = some (some v) → (i + k, cv ad v) ∈ lv_args i (cv ad w :: r.map (cv ad)) := by
      intro w hw h
      have hc : ¬ (cv ad w).category = 2 := by rw [cv_cat, hw]; decide
      cases k with
      | zero =>
        have : w = v := by simpa using h
        subst this
        exact List.mem_cons_self
      | succ k =>
        have := ih (i + 1) k v (by simpa using h)
        refine List.mem_cons_of_mem _ ?_
        rw [if_neg hc, show i + (k + 1) = i + 1 + k by omega]
        exact this
    have two : ∀ (w : Value), w.category = 2 → (some w :: none :: r.flatMap (fun v => match v with
        | .long z => [some (.long z), none]
        | .double z => [some (.double z), none]
        | w => [some w]))[k]? = some (some v) → (i + k, cv ad v) ∈ lv_args i (cv ad w :: r.map (cv ad)) := by
      intro w hw h
      have hc : (cv ad w).category = 2 := by rw [cv_cat, hw]
      match k, h with
      | 0, h =>
        have : w = v := by simpa using h
        subst this
        exact List.mem_cons_self
      | 1, h => simp at h
      | k + 2, h =>
        have := ih (i + 2) k v (by simpa using h)
        refine List.mem_cons_of_mem _ ?_
        rw [if_pos hc, show i + (k + 2) = i + 2 + k by omega]
        exact this
    cases a with
    | long z => exact two _ rfl h
    | double z => exact two _ rfl h
    | int z => exact one _ rfl h
    | float z => exact one _ rfl h
    | null => exact one _ rfl h
    | ref z => exact one _ rfl h
    | retAddr z => exact one _ rfl h
theorem lh_ent {ls : Array Slot} {n : Nat} {ad : Nat → Nat} {as : List Value} (h : lv_has ls n (lv_args 0 (as.map (cv ad)))) : lh ls n ad (ent as n) := by
  refine ⟨h.1, h.2.1, fun i v hv => ?_⟩
  have hm : (0 + i, cv ad v) ∈ lv_args 0 (as.map (cv ad)) := by
    apply ent_args
    unfold ent at hv
    rw [List.getElem?_append] at hv
    split at hv
    · exact hv
    · rw [List.getElem?_replicate] at hv
      split at hv <;> simp at hv
  have := h.2.2 _ hm
  simpa using this
end
section
/-! THE JUDGEMENT: a method by name, code, locals, answer's type; its machine; G: from here the machine comes to its end -/
abbrev Mt : Type := MethodName × ByteArray × Nat × Option FieldType
abbrev MC : Type := Lay × Mt × Nat
abbrev CX : Type := (Program × Launch × Env × Room) × (State × MethodId × Array Value × List Frame) × (Method × Code × (State → Prop)) × ((Nat → ClassId) × (Nat → Nat → Nat) × ClassId × ClassId) × ((Nat → Nat) × (Nat → Prop) × Nat × Nat)
abbrev tyl (cI cB : ClassId) : List (ClassId × FieldType) := [(cI, .int), (cB, .byte)]
def Ok (Γ : MC) (X : CX) : Prop := match X with
  | ((p, _, _, R), (s, m, args, _), (_, c, _), (dC, dI, cI, cB), (ad, A, cells, slots)) =>
    p.tables.exec = Jvm.exec ∧ c.code = Γ.2.1.2.1 ∧ c.maxLocals = Γ.2.1.2.2.1 ∧ s.vm.findClass Γ.2.1.1.cls = some m.cls ∧ (∀ w ∈ tb, w.before args s = true) ∧ va_K (dC, dI) classes (tyl cI cB) s ∧ Ap Γ.1 ad ∧ (∀ k, k < Γ.1.length → A (ad k)) ∧ RO ad A s ∧ Γ.2.2 ≤ R.frames ∧ 40 * Γ.2.2 ≤ R.locals ∧ cells ≤ R.cells ∧ slots ≤ R.slots
def G (Γ : MC) (X : CX) (σ : Store) (L : List (Option Value)) (st : List Value) (pc : Nat) : Prop := match X with
  | ((p, l, e, R), (s, m, args, below), (meth, c, Q), (dC, dI, cI, cB), (ad, A, cells, slots)) =>
    Ok Γ X → ∀ (H : Heap) (locs : List Loc) (ls : Array Slot), va_P (dC, dI) classes (wr cI cB ad σ 0 Γ.1) H → va_S A s.heap H locs → lh ls Γ.2.1.2.2.1 ad L →
      W p l e R s m args below meth c H locs cells slots Q (F0 m pc ls (st.map (cv ad)))
section GL
variable {Γ : MC} {X : CX} {σ : Store} {L L' : List (Option Value)} {st : List Value} {pc : Nat}
theorem g_sub (hs : leL L' L) (k : G Γ X σ L' st pc) : G Γ X σ L st pc := by
  obtain ⟨⟨p, l, e, R⟩, ⟨s, m, args, below⟩, ⟨meth, c, Q⟩, ⟨dC, dI, cI, cB⟩, ⟨ad, A, cells, slots⟩⟩ := X
  intro ok H locs ls hP hS hl
  exact k ok H locs ls hP hS (lh_sub hl hs)
theorem g_eq {σ' : Store} {st' : List Value} (h1 : σ = σ') (h2 : L = L') (h3 : st = st') (k : G Γ X σ' L' st' pc) : G Γ X σ L st pc := by
  subst h1; subst h2; subst h3; exact k
theorem g_iconst {n : Int} {v : Int32} (hd : decode Γ.2.1.2.1 pc = .ok (.iconst n, 1)) (hv : Int32.ofInt n = v) (k : G Γ X σ L (.int v :: st) (pc + 1)) : G Γ X σ L (st) pc := by
  obtain ⟨⟨p, l, e, R⟩, ⟨s, m, args, below⟩, ⟨meth, c, Q⟩, ⟨dC, dI, cI, cB⟩, ⟨ad, A, cells, slots⟩⟩ := X
  intro ok H locs ls hP hS hl
  have hk := k ok H locs ls hP hS hl
  obtain ⟨hx, hb, -⟩ := ok
  exact lv_iconst hx hb hd hv hk
theorem g_bipush {n : Int} {v : Int32} (hd : decode Γ.2.1.2.1 pc = .ok (.bipush n, 2)) (hv : (Int8.ofInt n).toInt32 = v) (k : G Γ X σ L (.int v :: st) (pc + 2)) : G Γ X σ L (st) pc := by
  obtain ⟨⟨p, l, e, R⟩, ⟨s, m, args, below⟩, ⟨meth, c, Q⟩, ⟨dC, dI, cI, cB⟩, ⟨ad, A, cells, slots⟩⟩ := X
  intro ok H locs ls hP hS hl
  have hk := k ok H locs ls hP hS hl
  obtain ⟨hx, hb, -⟩ := ok
  exact lv_bipush hx hb hd hv hk
theorem g_sipush {n : Int} {v : Int32} (hd : decode Γ.2.1.2.1 pc = .ok (.sipush n, 3)) (hv : (Int16.ofInt n).toInt32 = v) (k : G Γ X σ L (.int v :: st) (pc + 3)) : G Γ X σ L (st) pc := by
  obtain ⟨⟨p, l, e, R⟩, ⟨s, m, args, below⟩, ⟨meth, c, Q⟩, ⟨dC, dI, cI, cB⟩, ⟨ad, A, cells, slots⟩⟩ := X
  intro ok H locs ls hP hS hl
  have hk := k ok H locs ls hP hS hl
  obtain ⟨hx, hb, -⟩ := ok
  exact lv_sipush hx hb hd hv hk
theorem g_lconst {n : Fin 2} {v : Int64} (hd : decode Γ.2.1.2.1 pc = .ok (.lconst n, 1)) (hv : Int64.ofNat (n : Nat) = v) (k : G Γ X σ L (.long v :: st) (pc + 1)) : G Γ X σ L (st) pc := by
  obtain ⟨⟨p, l, e, R⟩, ⟨s, m, args, below⟩, ⟨meth, c, Q⟩, ⟨dC, dI, cI, cB⟩, ⟨ad, A, cells, slots⟩⟩ := X
  intro ok H locs ls hP hS hl
  have hk := k ok H locs ls hP hS hl
  obtain ⟨hx, hb, -⟩ := ok
  exact lv_lconst hx hb hd hv hk
theorem g_iload_n {i : Fin 4} {v : Int32} (hd : decode Γ.2.1.2.1 pc = .ok (.iload_n i, 1)) (h : L[(i : Nat)]? = some (some (.int v))) (k : G Γ X σ L (.int v :: st) (pc + 1)) : G Γ X σ L (st) pc := by
  obtain ⟨⟨p, l, e, R⟩, ⟨s, m, args, below⟩, ⟨meth, c, Q⟩, ⟨dC, dI, cI, cB⟩, ⟨ad, A, cells, slots⟩⟩ := X
  intro ok H locs ls hP hS hl
  have hk := k ok H locs ls hP hS hl
  obtain ⟨hx, hb, -⟩ := ok
  exact lv_iload_n hx hb hd rfl (lh_at hl h) hk
theorem g_iload {i : Nat} {v : Int32} (hd : decode Γ.2.1.2.1 pc = .ok (.iload i, 2)) (h : L[i]? = some (some (.int v))) (k : G Γ X σ L (.int v :: st) (pc + 2)) : G Γ X σ L (st) pc := by
  obtain ⟨⟨p, l, e, R⟩, ⟨s, m, args, below⟩, ⟨meth, c, Q⟩, ⟨dC, dI, cI, cB⟩, ⟨ad, A, cells, slots⟩⟩ := X
  intro ok H locs ls hP hS hl
  have hk := k ok H locs ls hP hS hl
  obtain ⟨hx, hb, -⟩ := ok
  exact lv_iload hx hb hd (lh_at hl h) hk
theorem g_lload_n {i : Fin 4} {v : Int64} (hd : decode Γ.2.1.2.1 pc = .ok (.lload_n i, 1)) (h : L[(i : Nat)]? = some (some (.long v))) (k : G Γ X σ L (.long v :: st) (pc + 1)) : G Γ X σ L (st) pc := by
  obtain ⟨⟨p, l, e, R⟩, ⟨s, m, args, below⟩, ⟨meth, c, Q⟩, ⟨dC, dI, cI, cB⟩, ⟨ad, A, cells, slots⟩⟩ := X
  intro ok H locs ls hP hS hl
  have hk := k ok H locs ls hP hS hl
  obtain ⟨hx, hb, -⟩ := ok
  exact lv_lload_n hx hb hd rfl (lh_at hl h) hk
theorem g_lload {i : Nat} {v : Int64} (hd : decode Γ.2.1.2.1 pc = .ok (.lload i, 2)) (h : L[i]? = some (some (.long v))) (k : G Γ X σ L (.long v :: st) (pc + 2)) : G Γ X σ L (st) pc := by
  obtain ⟨⟨p, l, e, R⟩, ⟨s, m, args, below⟩, ⟨meth, c, Q⟩, ⟨dC, dI, cI, cB⟩, ⟨ad, A, cells, slots⟩⟩ := X
  intro ok H locs ls hP hS hl
  have hk := k ok H locs ls hP hS hl
  obtain ⟨hx, hb, -⟩ := ok
  exact lv_lload hx hb hd (lh_at hl h) hk
theorem g_aload_n {i : Fin 4} {v : Nat} (hd : decode Γ.2.1.2.1 pc = .ok (.aload_n i, 1)) (h : L[(i : Nat)]? = some (some (.ref v))) (k : G Γ X σ L (.ref v :: st) (pc + 1)) : G Γ X σ L (st) pc := by
  obtain ⟨⟨p, l, e, R⟩, ⟨s, m, args, below⟩, ⟨meth, c, Q⟩, ⟨dC, dI, cI, cB⟩, ⟨ad, A, cells, slots⟩⟩ := X
  intro ok H locs ls hP hS hl
  have hk := k ok H locs ls hP hS hl
  obtain ⟨hx, hb, -⟩ := ok
  exact lv_aload_n hx hb hd rfl (lh_at hl h) hk
theorem g_aload {i : Nat} {v : Nat} (hd : decode Γ.2.1.2.1 pc = .ok (.aload i, 2)) (h : L[i]? = some (some (.ref v))) (k : G Γ X σ L (.ref v :: st) (pc + 2)) : G Γ X σ L (st) pc := by
  obtain ⟨⟨p, l, e, R⟩, ⟨s, m, args, below⟩, ⟨meth, c, Q⟩, ⟨dC, dI, cI, cB⟩, ⟨ad, A, cells, slots⟩⟩ := X
  intro ok H locs ls hP hS hl
  have hk := k ok H locs ls hP hS hl
  obtain ⟨hx, hb, -⟩ := ok
  exact lv_aload hx hb hd (lh_at hl h) hk
theorem g_iadd {x y : Int32} (hd : decode Γ.2.1.2.1 pc = .ok (.iadd, 1)) (k : G Γ X σ L (.int (x + y) :: st) (pc + 1)) : G Γ X σ L (.int y :: .int x :: st) pc := by
  obtain ⟨⟨p, l, e, R⟩, ⟨s, m, args, below⟩, ⟨meth, c, Q⟩, ⟨dC, dI, cI, cB⟩, ⟨ad, A, cells, slots⟩⟩ := X
  intro ok H locs ls hP hS hl
  have hk := k ok H locs ls hP hS hl
  obtain ⟨hx, hb, -⟩ := ok
  exact lv_iadd hx hb hd hk
theorem g_isub {x y : Int32} (hd : decode Γ.2.1.2.1 pc = .ok (.isub, 1)) (k : G Γ X σ L (.int (x - y) :: st) (pc + 1)) : G Γ X σ L (.int y :: .int x :: st) pc := by
  obtain ⟨⟨p, l, e, R⟩, ⟨s, m, args, below⟩, ⟨meth, c, Q⟩, ⟨dC, dI, cI, cB⟩, ⟨ad, A, cells, slots⟩⟩ := X
  intro ok H locs ls hP hS hl
  have hk := k ok H locs ls hP hS hl
  obtain ⟨hx, hb, -⟩ := ok
  exact lv_isub hx hb hd hk
theorem g_imul {x y : Int32} (hd : decode Γ.2.1.2.1 pc = .ok (.imul, 1)) (k : G Γ X σ L (.int (x * y) :: st) (pc + 1)) : G Γ X σ L (.int y :: .int x :: st) pc := by
  obtain ⟨⟨p, l, e, R⟩, ⟨s, m, args, below⟩, ⟨meth, c, Q⟩, ⟨dC, dI, cI, cB⟩, ⟨ad, A, cells, slots⟩⟩ := X
  intro ok H locs ls hP hS hl
  have hk := k ok H locs ls hP hS hl
  obtain ⟨hx, hb, -⟩ := ok
  exact lv_imul hx hb hd hk
theorem g_iand {x y : Int32} (hd : decode Γ.2.1.2.1 pc = .ok (.iand, 1)) (k : G Γ X σ L (.int (x &&& y) :: st) (pc + 1)) : G Γ X σ L (.int y :: .int x :: st) pc := by
  obtain ⟨⟨p, l, e, R⟩, ⟨s, m, args, below⟩, ⟨meth, c, Q⟩, ⟨dC, dI, cI, cB⟩, ⟨ad, A, cells, slots⟩⟩ := X
  intro ok H locs ls hP hS hl
  have hk := k ok H locs ls hP hS hl
  obtain ⟨hx, hb, -⟩ := ok
  exact lv_iand hx hb hd hk
theorem g_ior {x y : Int32} (hd : decode Γ.2.1.2.1 pc = .ok (.ior, 1)) (k : G Γ X σ L (.int (x ||| y) :: st) (pc + 1)) : G Γ X σ L (.int y :: .int x :: st) pc := by
  obtain ⟨⟨p, l, e, R⟩, ⟨s, m, args, below⟩, ⟨meth, c, Q⟩, ⟨dC, dI, cI, cB⟩, ⟨ad, A, cells, slots⟩⟩ := X
  intro ok H locs ls hP hS hl
  have hk := k ok H locs ls hP hS hl
  obtain ⟨hx, hb, -⟩ := ok
  exact lv_ior hx hb hd hk
theorem g_ixor {x y : Int32} (hd : decode Γ.2.1.2.1 pc = .ok (.ixor, 1)) (k : G Γ X σ L (.int (x ^^^ y) :: st) (pc + 1)) : G Γ X σ L (.int y :: .int x :: st) pc := by
  obtain ⟨⟨p, l, e, R⟩, ⟨s, m, args, below⟩, ⟨meth, c, Q⟩, ⟨dC, dI, cI, cB⟩, ⟨ad, A, cells, slots⟩⟩ := X
  intro ok H locs ls hP hS hl
  have hk := k ok H locs ls hP hS hl
  obtain ⟨hx, hb, -⟩ := ok
  exact lv_ixor hx hb hd hk
theorem g_idiv {x y : Int32} (hd : decode Γ.2.1.2.1 pc = .ok (.idiv, 1)) (hne : ¬ y = 0) (k : G Γ X σ L (.int (x / y) :: st) (pc + 1)) : G Γ X σ L (.int y :: .int x :: st) pc := by
  obtain ⟨⟨p, l, e, R⟩, ⟨s, m, args, below⟩, ⟨meth, c, Q⟩, ⟨dC, dI, cI, cB⟩, ⟨ad, A, cells, slots⟩⟩ := X
  intro ok H locs ls hP hS hl
  have hk := k ok H locs ls hP hS hl
  obtain ⟨hx, hb, -⟩ := ok
  exact lv_idiv hx hb hd hne hk
theorem g_irem {x y : Int32} (hd : decode Γ.2.1.2.1 pc = .ok (.irem, 1)) (hne : ¬ y = 0) (k : G Γ X σ L (.int (x - x / y * y) :: st) (pc + 1)) : G Γ X σ L (.int y :: .int x :: st) pc := by
  obtain ⟨⟨p, l, e, R⟩, ⟨s, m, args, below⟩, ⟨meth, c, Q⟩, ⟨dC, dI, cI, cB⟩, ⟨ad, A, cells, slots⟩⟩ := X
  intro ok H locs ls hP hS hl
  have hk := k ok H locs ls hP hS hl
  obtain ⟨hx, hb, -⟩ := ok
  exact lv_irem hx hb hd hne hk
theorem g_ladd {x y : Int64} (hd : decode Γ.2.1.2.1 pc = .ok (.ladd, 1)) (k : G Γ X σ L (.long (x + y) :: st) (pc + 1)) : G Γ X σ L (.long y :: .long x :: st) pc := by
  obtain ⟨⟨p, l, e, R⟩, ⟨s, m, args, below⟩, ⟨meth, c, Q⟩, ⟨dC, dI, cI, cB⟩, ⟨ad, A, cells, slots⟩⟩ := X
  intro ok H locs ls hP hS hl
  have hk := k ok H locs ls hP hS hl
  obtain ⟨hx, hb, -⟩ := ok
  exact lv_ladd hx hb hd hk
theorem g_lsub {x y : Int64} (hd : decode Γ.2.1.2.1 pc = .ok (.lsub, 1)) (k : G Γ X σ L (.long (x - y) :: st) (pc + 1)) : G Γ X σ L (.long y :: .long x :: st) pc := by
  obtain ⟨⟨p, l, e, R⟩, ⟨s, m, args, below⟩, ⟨meth, c, Q⟩, ⟨dC, dI, cI, cB⟩, ⟨ad, A, cells, slots⟩⟩ := X
  intro ok H locs ls hP hS hl
  have hk := k ok H locs ls hP hS hl
  obtain ⟨hx, hb, -⟩ := ok
  exact lv_lsub hx hb hd hk
theorem g_lmul {x y : Int64} (hd : decode Γ.2.1.2.1 pc = .ok (.lmul, 1)) (k : G Γ X σ L (.long (x * y) :: st) (pc + 1)) : G Γ X σ L (.long y :: .long x :: st) pc := by
  obtain ⟨⟨p, l, e, R⟩, ⟨s, m, args, below⟩, ⟨meth, c, Q⟩, ⟨dC, dI, cI, cB⟩, ⟨ad, A, cells, slots⟩⟩ := X
  intro ok H locs ls hP hS hl
  have hk := k ok H locs ls hP hS hl
  obtain ⟨hx, hb, -⟩ := ok
  exact lv_lmul hx hb hd hk
theorem g_land {x y : Int64} (hd : decode Γ.2.1.2.1 pc = .ok (.land, 1)) (k : G Γ X σ L (.long (x &&& y) :: st) (pc + 1)) : G Γ X σ L (.long y :: .long x :: st) pc := by
  obtain ⟨⟨p, l, e, R⟩, ⟨s, m, args, below⟩, ⟨meth, c, Q⟩, ⟨dC, dI, cI, cB⟩, ⟨ad, A, cells, slots⟩⟩ := X
  intro ok H locs ls hP hS hl
  have hk := k ok H locs ls hP hS hl
  obtain ⟨hx, hb, -⟩ := ok
  exact lv_land hx hb hd hk
theorem g_lor {x y : Int64} (hd : decode Γ.2.1.2.1 pc = .ok (.lor, 1)) (k : G Γ X σ L (.long (x ||| y) :: st) (pc + 1)) : G Γ X σ L (.long y :: .long x :: st) pc := by
  obtain ⟨⟨p, l, e, R⟩, ⟨s, m, args, below⟩, ⟨meth, c, Q⟩, ⟨dC, dI, cI, cB⟩, ⟨ad, A, cells, slots⟩⟩ := X
  intro ok H locs ls hP hS hl
  have hk := k ok H locs ls hP hS hl
  obtain ⟨hx, hb, -⟩ := ok
  exact lv_lor hx hb hd hk
theorem g_lxor {x y : Int64} (hd : decode Γ.2.1.2.1 pc = .ok (.lxor, 1)) (k : G Γ X σ L (.long (x ^^^ y) :: st) (pc + 1)) : G Γ X σ L (.long y :: .long x :: st) pc := by
  obtain ⟨⟨p, l, e, R⟩, ⟨s, m, args, below⟩, ⟨meth, c, Q⟩, ⟨dC, dI, cI, cB⟩, ⟨ad, A, cells, slots⟩⟩ := X
  intro ok H locs ls hP hS hl
  have hk := k ok H locs ls hP hS hl
  obtain ⟨hx, hb, -⟩ := ok
  exact lv_lxor hx hb hd hk
theorem g_ldiv {x y : Int64} (hd : decode Γ.2.1.2.1 pc = .ok (.ldiv, 1)) (hne : ¬ y = 0) (k : G Γ X σ L (.long (x / y) :: st) (pc + 1)) : G Γ X σ L (.long y :: .long x :: st) pc := by
  obtain ⟨⟨p, l, e, R⟩, ⟨s, m, args, below⟩, ⟨meth, c, Q⟩, ⟨dC, dI, cI, cB⟩, ⟨ad, A, cells, slots⟩⟩ := X
  intro ok H locs ls hP hS hl
  have hk := k ok H locs ls hP hS hl
  obtain ⟨hx, hb, -⟩ := ok
  exact lv_ldiv hx hb hd hne hk
theorem g_lrem {x y : Int64} (hd : decode Γ.2.1.2.1 pc = .ok (.lrem, 1)) (hne : ¬ y = 0) (k : G Γ X σ L (.long (x - x / y * y) :: st) (pc + 1)) : G Γ X σ L (.long y :: .long x :: st) pc := by
  obtain ⟨⟨p, l, e, R⟩, ⟨s, m, args, below⟩, ⟨meth, c, Q⟩, ⟨dC, dI, cI, cB⟩, ⟨ad, A, cells, slots⟩⟩ := X
  intro ok H locs ls hP hS hl
  have hk := k ok H locs ls hP hS hl
  obtain ⟨hx, hb, -⟩ := ok
  exact lv_lrem hx hb hd hne hk
theorem g_ineg {x : Int32} (hd : decode Γ.2.1.2.1 pc = .ok (.ineg, 1)) (k : G Γ X σ L (.int (-x) :: st) (pc + 1)) : G Γ X σ L (.int x :: st) pc := by
  obtain ⟨⟨p, l, e, R⟩, ⟨s, m, args, below⟩, ⟨meth, c, Q⟩, ⟨dC, dI, cI, cB⟩, ⟨ad, A, cells, slots⟩⟩ := X
  intro ok H locs ls hP hS hl
  have hk := k ok H locs ls hP hS hl
  obtain ⟨hx, hb, -⟩ := ok
  exact lv_ineg hx hb hd hk
theorem g_ishl {x y : Int32} (hd : decode Γ.2.1.2.1 pc = .ok (.ishl, 1)) (k : G Γ X σ L (.int (x <<< (y &&& 31)) :: st) (pc + 1)) : G Γ X σ L (.int y :: .int x :: st) pc := by
  obtain ⟨⟨p, l, e, R⟩, ⟨s, m, args, below⟩, ⟨meth, c, Q⟩, ⟨dC, dI, cI, cB⟩, ⟨ad, A, cells, slots⟩⟩ := X
  intro ok H locs ls hP hS hl
  have hk := k ok H locs ls hP hS hl
  obtain ⟨hx, hb, -⟩ := ok
  exact lv_ishl hx hb hd hk
theorem g_ishr {x y : Int32} (hd : decode Γ.2.1.2.1 pc = .ok (.ishr, 1)) (k : G Γ X σ L (.int (x >>> (y &&& 31)) :: st) (pc + 1)) : G Γ X σ L (.int y :: .int x :: st) pc := by
  obtain ⟨⟨p, l, e, R⟩, ⟨s, m, args, below⟩, ⟨meth, c, Q⟩, ⟨dC, dI, cI, cB⟩, ⟨ad, A, cells, slots⟩⟩ := X
  intro ok H locs ls hP hS hl
  have hk := k ok H locs ls hP hS hl
  obtain ⟨hx, hb, -⟩ := ok
  exact lv_ishr hx hb hd hk
theorem g_iushr {x y : Int32} (hd : decode Γ.2.1.2.1 pc = .ok (.iushr, 1)) (k : G Γ X σ L (.int (x.toUInt32 >>> (y.toUInt32 &&& Int32.toUInt32 31)).toInt32 :: st) (pc + 1)) : G Γ X σ L (.int y :: .int x :: st) pc := by
  obtain ⟨⟨p, l, e, R⟩, ⟨s, m, args, below⟩, ⟨meth, c, Q⟩, ⟨dC, dI, cI, cB⟩, ⟨ad, A, cells, slots⟩⟩ := X
  intro ok H locs ls hP hS hl
  have hk := k ok H locs ls hP hS hl
  obtain ⟨hx, hb, -⟩ := ok
  exact lv_iushr hx hb hd rfl hk
theorem g_lushr {x : Int64} {y : Int32} (hd : decode Γ.2.1.2.1 pc = .ok (.lushr, 1)) (k : G Γ X σ L (.long (x.toUInt64 >>> (y.toInt64.toUInt64 &&& Int64.toUInt64 63)).toInt64 :: st) (pc + 1)) : G Γ X σ L (.int y :: .long x :: st) pc := by
  obtain ⟨⟨p, l, e, R⟩, ⟨s, m, args, below⟩, ⟨meth, c, Q⟩, ⟨dC, dI, cI, cB⟩, ⟨ad, A, cells, slots⟩⟩ := X
  intro ok H locs ls hP hS hl
  have hk := k ok H locs ls hP hS hl
  obtain ⟨hx, hb, -⟩ := ok
  exact lv_lushr hx hb hd rfl hk
theorem g_lshl {x : Int64} {y : Int32} (hd : decode Γ.2.1.2.1 pc = .ok (.lshl, 1)) (k : G Γ X σ L (.long (x <<< (y.toInt64 &&& 63)) :: st) (pc + 1)) : G Γ X σ L (.int y :: .long x :: st) pc := by
  obtain ⟨⟨p, l, e, R⟩, ⟨s, m, args, below⟩, ⟨meth, c, Q⟩, ⟨dC, dI, cI, cB⟩, ⟨ad, A, cells, slots⟩⟩ := X
  intro ok H locs ls hP hS hl
  have hk := k ok H locs ls hP hS hl
  obtain ⟨hx, hb, -⟩ := ok
  exact lv_lshl hx hb hd rfl hk
theorem g_lshr {x : Int64} {y : Int32} (hd : decode Γ.2.1.2.1 pc = .ok (.lshr, 1)) (k : G Γ X σ L (.long (x >>> (y.toInt64 &&& 63)) :: st) (pc + 1)) : G Γ X σ L (.int y :: .long x :: st) pc := by
  obtain ⟨⟨p, l, e, R⟩, ⟨s, m, args, below⟩, ⟨meth, c, Q⟩, ⟨dC, dI, cI, cB⟩, ⟨ad, A, cells, slots⟩⟩ := X
  intro ok H locs ls hP hS hl
  have hk := k ok H locs ls hP hS hl
  obtain ⟨hx, hb, -⟩ := ok
  exact lv_lshr hx hb hd rfl hk
theorem g_i2l {x : Int32} (hd : decode Γ.2.1.2.1 pc = .ok (.i2l, 1)) (k : G Γ X σ L (.long x.toInt64 :: st) (pc + 1)) : G Γ X σ L (.int x :: st) pc := by
  obtain ⟨⟨p, l, e, R⟩, ⟨s, m, args, below⟩, ⟨meth, c, Q⟩, ⟨dC, dI, cI, cB⟩, ⟨ad, A, cells, slots⟩⟩ := X
  intro ok H locs ls hP hS hl
  have hk := k ok H locs ls hP hS hl
  obtain ⟨hx, hb, -⟩ := ok
  exact lv_i2l hx hb hd rfl hk
theorem g_l2i {x : Int64} (hd : decode Γ.2.1.2.1 pc = .ok (.l2i, 1)) (k : G Γ X σ L (.int x.toInt32 :: st) (pc + 1)) : G Γ X σ L (.long x :: st) pc := by
  obtain ⟨⟨p, l, e, R⟩, ⟨s, m, args, below⟩, ⟨meth, c, Q⟩, ⟨dC, dI, cI, cB⟩, ⟨ad, A, cells, slots⟩⟩ := X
  intro ok H locs ls hP hS hl
  have hk := k ok H locs ls hP hS hl
  obtain ⟨hx, hb, -⟩ := ok
  exact lv_l2i hx hb hd rfl hk
theorem g_i2b {x : Int32} (hd : decode Γ.2.1.2.1 pc = .ok (.i2b, 1)) (k : G Γ X σ L (.int x.toInt8.toInt32 :: st) (pc + 1)) : G Γ X σ L (.int x :: st) pc := by
  obtain ⟨⟨p, l, e, R⟩, ⟨s, m, args, below⟩, ⟨meth, c, Q⟩, ⟨dC, dI, cI, cB⟩, ⟨ad, A, cells, slots⟩⟩ := X
  intro ok H locs ls hP hS hl
  have hk := k ok H locs ls hP hS hl
  obtain ⟨hx, hb, -⟩ := ok
  exact lv_i2b hx hb hd rfl hk
theorem g_i2s {x : Int32} (hd : decode Γ.2.1.2.1 pc = .ok (.i2s, 1)) (k : G Γ X σ L (.int x.toInt16.toInt32 :: st) (pc + 1)) : G Γ X σ L (.int x :: st) pc := by
  obtain ⟨⟨p, l, e, R⟩, ⟨s, m, args, below⟩, ⟨meth, c, Q⟩, ⟨dC, dI, cI, cB⟩, ⟨ad, A, cells, slots⟩⟩ := X
  intro ok H locs ls hP hS hl
  have hk := k ok H locs ls hP hS hl
  obtain ⟨hx, hb, -⟩ := ok
  exact lv_i2s hx hb hd rfl hk
theorem g_i2c {x : Int32} (hd : decode Γ.2.1.2.1 pc = .ok (.i2c, 1)) (k : G Γ X σ L (.int (x.toUInt32 % 65536).toInt32 :: st) (pc + 1)) : G Γ X σ L (.int x :: st) pc := by
  obtain ⟨⟨p, l, e, R⟩, ⟨s, m, args, below⟩, ⟨meth, c, Q⟩, ⟨dC, dI, cI, cB⟩, ⟨ad, A, cells, slots⟩⟩ := X
  intro ok H locs ls hP hS hl
  have hk := k ok H locs ls hP hS hl
  obtain ⟨hx, hb, -⟩ := ok
  exact lv_i2c hx hb hd rfl hk
theorem g_lcmp {x y : Int64} (hd : decode Γ.2.1.2.1 pc = .ok (.lcmp, 1)) (k : G Γ X σ L (.int (lg_cmp x y) :: st) (pc + 1)) : G Γ X σ L (.long y :: .long x :: st) pc := by
  obtain ⟨⟨p, l, e, R⟩, ⟨s, m, args, below⟩, ⟨meth, c, Q⟩, ⟨dC, dI, cI, cB⟩, ⟨ad, A, cells, slots⟩⟩ := X
  intro ok H locs ls hP hS hl
  have hk := k ok H locs ls hP hS hl
  obtain ⟨hx, hb, -⟩ := ok
  exact W.lcmp hx hb hd hk
theorem g_dup {v : Value} (hd : decode Γ.2.1.2.1 pc = .ok (.dup, 1)) (hc : v.category = 1) (k : G Γ X σ L (v :: v :: st) (pc + 1)) : G Γ X σ L (v :: st) pc := by
  obtain ⟨⟨p, l, e, R⟩, ⟨s, m, args, below⟩, ⟨meth, c, Q⟩, ⟨dC, dI, cI, cB⟩, ⟨ad, A, cells, slots⟩⟩ := X
  intro ok H locs ls hP hS hl
  have hk := k ok H locs ls hP hS hl
  obtain ⟨hx, hb, -⟩ := ok
  exact lv_dup hx hb hd (by rw [cv_cat]; exact hc) hk
theorem g_pop {v : Value} (hd : decode Γ.2.1.2.1 pc = .ok (.pop, 1)) (hc : v.category = 1) (k : G Γ X σ L (st) (pc + 1)) : G Γ X σ L (v :: st) pc := by
  obtain ⟨⟨p, l, e, R⟩, ⟨s, m, args, below⟩, ⟨meth, c, Q⟩, ⟨dC, dI, cI, cB⟩, ⟨ad, A, cells, slots⟩⟩ := X
  intro ok H locs ls hP hS hl
  have hk := k ok H locs ls hP hS hl
  obtain ⟨hx, hb, -⟩ := ok
  exact lv_pop hx hb hd (by rw [cv_cat]; exact hc) hk
theorem g_dup_x1 {v w : Value} (hd : decode Γ.2.1.2.1 pc = .ok (.dup_x1, 1)) (hc : v.category = 1) (hc2 : w.category = 1) (k : G Γ X σ L (v :: w :: v :: st) (pc + 1)) : G Γ X σ L (v :: w :: st) pc := by
  obtain ⟨⟨p, l, e, R⟩, ⟨s, m, args, below⟩, ⟨meth, c, Q⟩, ⟨dC, dI, cI, cB⟩, ⟨ad, A, cells, slots⟩⟩ := X
  intro ok H locs ls hP hS hl
  have hk := k ok H locs ls hP hS hl
  obtain ⟨hx, hb, -⟩ := ok
  exact lv_dup_x1 hx hb hd (by rw [cv_cat]; exact hc) (by rw [cv_cat]; exact hc2) hk
theorem g_dup2 {v w : Value} (hd : decode Γ.2.1.2.1 pc = .ok (.dup2, 1)) (hc : v.category = 1) (hc2 : w.category = 1) (k : G Γ X σ L (v :: w :: v :: w :: st) (pc + 1)) : G Γ X σ L (v :: w :: st) pc := by
  obtain ⟨⟨p, l, e, R⟩, ⟨s, m, args, below⟩, ⟨meth, c, Q⟩, ⟨dC, dI, cI, cB⟩, ⟨ad, A, cells, slots⟩⟩ := X
  intro ok H locs ls hP hS hl
  have hk := k ok H locs ls hP hS hl
  obtain ⟨hx, hb, -⟩ := ok
  exact lv_dup2_11 hx hb hd (by rw [cv_cat]; exact hc) (by rw [cv_cat]; exact hc2) hk
theorem g_istore_n {i : Fin 4} {v : Int32} (hd : decode Γ.2.1.2.1 pc = .ok (.istore_n i, 1)) (hn : (i : Nat) < Γ.2.1.2.2.1) (hL : st1 L (i : Nat) (.int v) = L') (k : G Γ X σ L' st (pc + 1)) : G Γ X σ L (.int v :: st) pc := by
  obtain ⟨⟨p, l, e, R⟩, ⟨s, m, args, below⟩, ⟨meth, c, Q⟩, ⟨dC, dI, cI, cB⟩, ⟨ad, A, cells, slots⟩⟩ := X
  intro ok H locs ls hP hS hl
  have hk := fun ls hl => k ok H locs ls hP hS hl
  obtain ⟨hx, hb, -⟩ := ok
  exact lv_istore_n hx hb hd rfl (lh_pairs hl) hn rfl (fun ls' hl' => hk ls' (lh_st1 hl' hL))
theorem g_istore {i : Nat} {v : Int32} (hd : decode Γ.2.1.2.1 pc = .ok (.istore i, 2)) (hn : i < Γ.2.1.2.2.1) (hL : st1 L i (.int v) = L') (k : G Γ X σ L' st (pc + 2)) : G Γ X σ L (.int v :: st) pc := by
  obtain ⟨⟨p, l, e, R⟩, ⟨s, m, args, below⟩, ⟨meth, c, Q⟩, ⟨dC, dI, cI, cB⟩, ⟨ad, A, cells, slots⟩⟩ := X
  intro ok H locs ls hP hS hl
  have hk := fun ls hl => k ok H locs ls hP hS hl
  obtain ⟨hx, hb, -⟩ := ok
  exact lv_istore hx hb hd (lh_pairs hl) hn rfl (fun ls' hl' => hk ls' (lh_st1 hl' hL))
theorem g_lstore_n {i : Fin 4} {v : Int64} (hd : decode Γ.2.1.2.1 pc = .ok (.lstore_n i, 1)) (hn : (i : Nat) + 1 < Γ.2.1.2.2.1) (hL : st2 L (i : Nat) (.long v) = L') (k : G Γ X σ L' st (pc + 1)) : G Γ X σ L (.long v :: st) pc := by
  obtain ⟨⟨p, l, e, R⟩, ⟨s, m, args, below⟩, ⟨meth, c, Q⟩, ⟨dC, dI, cI, cB⟩, ⟨ad, A, cells, slots⟩⟩ := X
  intro ok H locs ls hP hS hl
  have hk := fun ls hl => k ok H locs ls hP hS hl
  obtain ⟨hx, hb, -⟩ := ok
  exact lv_lstore_n hx hb hd rfl (lh_pairs hl) hn rfl (fun ls' hl' => hk ls' (lh_st2 hl' hL))
theorem g_lstore {i : Nat} {v : Int64} (hd : decode Γ.2.1.2.1 pc = .ok (.lstore i, 2)) (hn : i + 1 < Γ.2.1.2.2.1) (hL : st2 L i (.long v) = L') (k : G Γ X σ L' st (pc + 2)) : G Γ X σ L (.long v :: st) pc := by
  obtain ⟨⟨p, l, e, R⟩, ⟨s, m, args, below⟩, ⟨meth, c, Q⟩, ⟨dC, dI, cI, cB⟩, ⟨ad, A, cells, slots⟩⟩ := X
  intro ok H locs ls hP hS hl
  have hk := fun ls hl => k ok H locs ls hP hS hl
  obtain ⟨hx, hb, -⟩ := ok
  exact lv_lstore hx hb hd (lh_pairs hl) hn rfl (fun ls' hl' => hk ls' (lh_st2 hl' hL))
theorem g_astore_n {i : Fin 4} {v : Nat} (hd : decode Γ.2.1.2.1 pc = .ok (.astore_n i, 1)) (hn : (i : Nat) < Γ.2.1.2.2.1) (hL : st1 L (i : Nat) (.ref v) = L') (k : G Γ X σ L' st (pc + 1)) : G Γ X σ L (.ref v :: st) pc := by
  obtain ⟨⟨p, l, e, R⟩, ⟨s, m, args, below⟩, ⟨meth, c, Q⟩, ⟨dC, dI, cI, cB⟩, ⟨ad, A, cells, slots⟩⟩ := X
  intro ok H locs ls hP hS hl
  have hk := fun ls hl => k ok H locs ls hP hS hl
  obtain ⟨hx, hb, -⟩ := ok
  exact lv_astore_n hx hb hd rfl (lh_pairs hl) hn rfl (fun ls' hl' => hk ls' (lh_st1 hl' hL))
theorem g_astore {i : Nat} {v : Nat} (hd : decode Γ.2.1.2.1 pc = .ok (.astore i, 2)) (hn : i < Γ.2.1.2.2.1) (hL : st1 L i (.ref v) = L') (k : G Γ X σ L' st (pc + 2)) : G Γ X σ L (.ref v :: st) pc := by
  obtain ⟨⟨p, l, e, R⟩, ⟨s, m, args, below⟩, ⟨meth, c, Q⟩, ⟨dC, dI, cI, cB⟩, ⟨ad, A, cells, slots⟩⟩ := X
  intro ok H locs ls hP hS hl
  have hk := fun ls hl => k ok H locs ls hP hS hl
  obtain ⟨hx, hb, -⟩ := ok
  exact lv_astore hx hb hd (lh_pairs hl) hn rfl (fun ls' hl' => hk ls' (lh_st1 hl' hL))
theorem g_iinc {i : Nat} {n : Int} {x v : Int32} (hd : decode Γ.2.1.2.1 pc = .ok (.iinc i n, 3)) (h : L[i]? = some (some (.int x))) (hv : x + Int32.ofInt n = v) (hn : i < Γ.2.1.2.2.1) (hL : st1 L i (.int v) = L') (k : G Γ X σ L' st (pc + 3)) : G Γ X σ L st pc := by
  obtain ⟨⟨p, l, e, R⟩, ⟨s, m, args, below⟩, ⟨meth, c, Q⟩, ⟨dC, dI, cI, cB⟩, ⟨ad, A, cells, slots⟩⟩ := X
  intro ok H locs ls hP hS hl
  have hk := fun ls hl => k ok H locs ls hP hS hl
  obtain ⟨hx, hb, -⟩ := ok
  obtain ⟨q, hq⟩ := List.getElem?_of_mem ((prs_mem ad L 0 (i, cv ad (.int x))).mpr ⟨i, _, h, by simp⟩)
  exact lv_iinc hx hb hd (lh_pairs hl) hq hv hn rfl (fun ls' hl' => hk ls' (lh_st1 hl' hL))
theorem g_if_eq {x : Int32} {off : Int} {tgt : Nat} (hd : decode Γ.2.1.2.1 pc = .ok (.ifCond .eq off, 3)) (ht : (pc : Int) + off = (tgt : Int)) (kt : x = 0 → G Γ X σ L st tgt) (kf : ¬ x = 0 → G Γ X σ L st (pc + 3)) : G Γ X σ L (.int x :: st) pc := by
  obtain ⟨⟨p, l, e, R⟩, ⟨s, m, args, below⟩, ⟨meth, c, Q⟩, ⟨dC, dI, cI, cB⟩, ⟨ad, A, cells, slots⟩⟩ := X
  intro ok H locs ls hP hS hl
  have h1 := fun h => kt h ok H locs ls hP hS hl
  have h2 := fun h => kf h ok H locs ls hP hS hl
  obtain ⟨hx, hb, -⟩ := ok
  exact lv_if_eq hx hb hd ht h1 h2
theorem g_icmp_eq {x y : Int32} {off : Int} {tgt : Nat} (hd : decode Γ.2.1.2.1 pc = .ok (.if_icmp .eq off, 3)) (ht : (pc : Int) + off = (tgt : Int)) (kt : x = y → G Γ X σ L st tgt) (kf : ¬ x = y → G Γ X σ L st (pc + 3)) : G Γ X σ L (.int y :: .int x :: st) pc := by
  obtain ⟨⟨p, l, e, R⟩, ⟨s, m, args, below⟩, ⟨meth, c, Q⟩, ⟨dC, dI, cI, cB⟩, ⟨ad, A, cells, slots⟩⟩ := X
  intro ok H locs ls hP hS hl
  have h1 := fun h => kt h ok H locs ls hP hS hl
  have h2 := fun h => kf h ok H locs ls hP hS hl
  obtain ⟨hx, hb, -⟩ := ok
  exact lv_icmp_eq hx hb hd ht h1 h2
theorem g_if_ne {x : Int32} {off : Int} {tgt : Nat} (hd : decode Γ.2.1.2.1 pc = .ok (.ifCond .ne off, 3)) (ht : (pc : Int) + off = (tgt : Int)) (kt : ¬ x = 0 → G Γ X σ L st tgt) (kf : x = 0 → G Γ X σ L st (pc + 3)) : G Γ X σ L (.int x :: st) pc := by
  obtain ⟨⟨p, l, e, R⟩, ⟨s, m, args, below⟩, ⟨meth, c, Q⟩, ⟨dC, dI, cI, cB⟩, ⟨ad, A, cells, slots⟩⟩ := X
  intro ok H locs ls hP hS hl
  have h1 := fun h => kt h ok H locs ls hP hS hl
  have h2 := fun h => kf h ok H locs ls hP hS hl
  obtain ⟨hx, hb, -⟩ := ok
  exact lv_if_ne hx hb hd ht h1 h2
theorem g_icmp_ne {x y : Int32} {off : Int} {tgt : Nat} (hd : decode Γ.2.1.2.1 pc = .ok (.if_icmp .ne off, 3)) (ht : (pc : Int) + off = (tgt : Int)) (kt : ¬ x = y → G Γ X σ L st tgt) (kf : x = y → G Γ X σ L st (pc + 3)) : G Γ X σ L (.int y :: .int x :: st) pc := by
  obtain ⟨⟨p, l, e, R⟩, ⟨s, m, args, below⟩, ⟨meth, c, Q⟩, ⟨dC, dI, cI, cB⟩, ⟨ad, A, cells, slots⟩⟩ := X
  intro ok H locs ls hP hS hl
  have h1 := fun h => kt h ok H locs ls hP hS hl
  have h2 := fun h => kf h ok H locs ls hP hS hl
  obtain ⟨hx, hb, -⟩ := ok
  exact lv_icmp_ne hx hb hd ht h1 h2
theorem g_if_lt {x : Int32} {off : Int} {tgt : Nat} (hd : decode Γ.2.1.2.1 pc = .ok (.ifCond .lt off, 3)) (ht : (pc : Int) + off = (tgt : Int)) (kt : x < 0 → G Γ X σ L st tgt) (kf : ¬ x < 0 → G Γ X σ L st (pc + 3)) : G Γ X σ L (.int x :: st) pc := by
  obtain ⟨⟨p, l, e, R⟩, ⟨s, m, args, below⟩, ⟨meth, c, Q⟩, ⟨dC, dI, cI, cB⟩, ⟨ad, A, cells, slots⟩⟩ := X
  intro ok H locs ls hP hS hl
  have h1 := fun h => kt h ok H locs ls hP hS hl
  have h2 := fun h => kf h ok H locs ls hP hS hl
  obtain ⟨hx, hb, -⟩ := ok
  exact lv_if_lt hx hb hd ht h1 h2
theorem g_icmp_lt {x y : Int32} {off : Int} {tgt : Nat} (hd : decode Γ.2.1.2.1 pc = .ok (.if_icmp .lt off, 3)) (ht : (pc : Int) + off = (tgt : Int)) (kt : x < y → G Γ X σ L st tgt) (kf : ¬ x < y → G Γ X σ L st (pc + 3)) : G Γ X σ L (.int y :: .int x :: st) pc := by
  obtain ⟨⟨p, l, e, R⟩, ⟨s, m, args, below⟩, ⟨meth, c, Q⟩, ⟨dC, dI, cI, cB⟩, ⟨ad, A, cells, slots⟩⟩ := X
  intro ok H locs ls hP hS hl
  have h1 := fun h => kt h ok H locs ls hP hS hl
  have h2 := fun h => kf h ok H locs ls hP hS hl
  obtain ⟨hx, hb, -⟩ := ok
  exact lv_icmp_lt hx hb hd ht h1 h2
theorem g_if_ge {x : Int32} {off : Int} {tgt : Nat} (hd : decode Γ.2.1.2.1 pc = .ok (.ifCond .ge off, 3)) (ht : (pc : Int) + off = (tgt : Int)) (kt : 0 ≤ x → G Γ X σ L st tgt) (kf : ¬ 0 ≤ x → G Γ X σ L st (pc + 3)) : G Γ X σ L (.int x :: st) pc := by
  obtain ⟨⟨p, l, e, R⟩, ⟨s, m, args, below⟩, ⟨meth, c, Q⟩, ⟨dC, dI, cI, cB⟩, ⟨ad, A, cells, slots⟩⟩ := X
  intro ok H locs ls hP hS hl
  have h1 := fun h => kt h ok H locs ls hP hS hl
  have h2 := fun h => kf h ok H locs ls hP hS hl
  obtain ⟨hx, hb, -⟩ := ok
  exact lv_if_ge hx hb hd ht h1 h2
theorem g_icmp_ge {x y : Int32} {off : Int} {tgt : Nat} (hd : decode Γ.2.1.2.1 pc = .ok (.if_icmp .ge off, 3)) (ht : (pc : Int) + off = (tgt : Int)) (kt : y ≤ x → G Γ X σ L st tgt) (kf : ¬ y ≤ x → G Γ X σ L st (pc + 3)) : G Γ X σ L (.int y :: .int x :: st) pc := by
  obtain ⟨⟨p, l, e, R⟩, ⟨s, m, args, below⟩, ⟨meth, c, Q⟩, ⟨dC, dI, cI, cB⟩, ⟨ad, A, cells, slots⟩⟩ := X
  intro ok H locs ls hP hS hl
  have h1 := fun h => kt h ok H locs ls hP hS hl
  have h2 := fun h => kf h ok H locs ls hP hS hl
  obtain ⟨hx, hb, -⟩ := ok
  exact lv_icmp_ge hx hb hd ht h1 h2
theorem g_if_gt {x : Int32} {off : Int} {tgt : Nat} (hd : decode Γ.2.1.2.1 pc = .ok (.ifCond .gt off, 3)) (ht : (pc : Int) + off = (tgt : Int)) (kt : 0 < x → G Γ X σ L st tgt) (kf : ¬ 0 < x → G Γ X σ L st (pc + 3)) : G Γ X σ L (.int x :: st) pc := by
  obtain ⟨⟨p, l, e, R⟩, ⟨s, m, args, below⟩, ⟨meth, c, Q⟩, ⟨dC, dI, cI, cB⟩, ⟨ad, A, cells, slots⟩⟩ := X
  intro ok H locs ls hP hS hl
  have h1 := fun h => kt h ok H locs ls hP hS hl
  have h2 := fun h => kf h ok H locs ls hP hS hl
  obtain ⟨hx, hb, -⟩ := ok
  exact lv_if_gt hx hb hd ht h1 h2
theorem g_icmp_gt {x y : Int32} {off : Int} {tgt : Nat} (hd : decode Γ.2.1.2.1 pc = .ok (.if_icmp .gt off, 3)) (ht : (pc : Int) + off = (tgt : Int)) (kt : y < x → G Γ X σ L st tgt) (kf : ¬ y < x → G Γ X σ L st (pc + 3)) : G Γ X σ L (.int y :: .int x :: st) pc := by
  obtain ⟨⟨p, l, e, R⟩, ⟨s, m, args, below⟩, ⟨meth, c, Q⟩, ⟨dC, dI, cI, cB⟩, ⟨ad, A, cells, slots⟩⟩ := X
  intro ok H locs ls hP hS hl
  have h1 := fun h => kt h ok H locs ls hP hS hl
  have h2 := fun h => kf h ok H locs ls hP hS hl
  obtain ⟨hx, hb, -⟩ := ok
  exact lv_icmp_gt hx hb hd ht h1 h2
theorem g_if_le {x : Int32} {off : Int} {tgt : Nat} (hd : decode Γ.2.1.2.1 pc = .ok (.ifCond .le off, 3)) (ht : (pc : Int) + off = (tgt : Int)) (kt : x ≤ 0 → G Γ X σ L st tgt) (kf : ¬ x ≤ 0 → G Γ X σ L st (pc + 3)) : G Γ X σ L (.int x :: st) pc := by
  obtain ⟨⟨p, l, e, R⟩, ⟨s, m, args, below⟩, ⟨meth, c, Q⟩, ⟨dC, dI, cI, cB⟩, ⟨ad, A, cells, slots⟩⟩ := X
  intro ok H locs ls hP hS hl
  have h1 := fun h => kt h ok H locs ls hP hS hl
  have h2 := fun h => kf h ok H locs ls hP hS hl
  obtain ⟨hx, hb, -⟩ := ok
  exact lv_if_le hx hb hd ht h1 h2
theorem g_icmp_le {x y : Int32} {off : Int} {tgt : Nat} (hd : decode Γ.2.1.2.1 pc = .ok (.if_icmp .le off, 3)) (ht : (pc : Int) + off = (tgt : Int)) (kt : x ≤ y → G Γ X σ L st tgt) (kf : ¬ x ≤ y → G Γ X σ L st (pc + 3)) : G Γ X σ L (.int y :: .int x :: st) pc := by
  obtain ⟨⟨p, l, e, R⟩, ⟨s, m, args, below⟩, ⟨meth, c, Q⟩, ⟨dC, dI, cI, cB⟩, ⟨ad, A, cells, slots⟩⟩ := X
  intro ok H locs ls hP hS hl
  have h1 := fun h => kt h ok H locs ls hP hS hl
  have h2 := fun h => kf h ok H locs ls hP hS hl
  obtain ⟨hx, hb, -⟩ := ok
  exact lv_icmp_le hx hb hd ht h1 h2
theorem g_goto {off : Int} {tgt : Nat} (hd : decode Γ.2.1.2.1 pc = .ok (.goto off, 3)) (ht : (pc : Int) + off = (tgt : Int)) (k : G Γ X σ L st tgt) : G Γ X σ L st pc := by
  obtain ⟨⟨p, l, e, R⟩, ⟨s, m, args, below⟩, ⟨meth, c, Q⟩, ⟨dC, dI, cI, cB⟩, ⟨ad, A, cells, slots⟩⟩ := X
  intro ok H locs ls hP hS hl
  have hk := k ok H locs ls hP hS hl
  obtain ⟨hx, hb, -⟩ := ok
  exact lv_goto hx hb hd ht hk
theorem g_tableIn {dflt lo hi : Int} {offs : Array Int} {len : Nat} {x : Int32} {off : Int} {tgt : Nat} (hd : decode Γ.2.1.2.1 pc = .ok (.tableswitch dflt lo hi offs, len)) (h1 : ¬ x.toInt < lo) (h2 : ¬ hi < x.toInt) (ho : offs[(x.toInt - lo).toNat]? = some off) (ht : (pc : Int) + off = (tgt : Int)) (k : G Γ X σ L st tgt) : G Γ X σ L (.int x :: st) pc := by
  obtain ⟨⟨p, l, e, R⟩, ⟨s, m, args, below⟩, ⟨meth, c, Q⟩, ⟨dC, dI, cI, cB⟩, ⟨ad, A, cells, slots⟩⟩ := X
  intro ok H locs ls hP hS hl
  have hk := k ok H locs ls hP hS hl
  obtain ⟨hx, hb, -⟩ := ok
  exact lv_tableIn hx hb hd h1 h2 ho ht hk
theorem g_tableOut {dflt lo hi : Int} {offs : Array Int} {len : Nat} {x : Int32} {tgt : Nat} (hd : decode Γ.2.1.2.1 pc = .ok (.tableswitch dflt lo hi offs, len)) (h : x.toInt < lo ∨ hi < x.toInt) (ht : (pc : Int) + dflt = (tgt : Int)) (k : G Γ X σ L st tgt) : G Γ X σ L (.int x :: st) pc := by
  obtain ⟨⟨p, l, e, R⟩, ⟨s, m, args, below⟩, ⟨meth, c, Q⟩, ⟨dC, dI, cI, cB⟩, ⟨ad, A, cells, slots⟩⟩ := X
  intro ok H locs ls hP hS hl
  have hk := k ok H locs ls hP hS hl
  obtain ⟨hx, hb, -⟩ := ok
  exact lv_tableOut hx hb hd h ht hk
theorem g_lookup {dflt : Int} {ps : Array (Int × Int)} {len : Nat} {x : Int32} {off : Int} {tgt : Nat} (hd : decode Γ.2.1.2.1 pc = .ok (.lookupswitch dflt ps, len)) (hp : (ps.toList.zip (ps.toList.drop 1)).all (fun (a, next) => a.1 < next.1) = true) (ho : Op.lookupswitch.offset ps.toList dflt x.toInt = off) (ht : (pc : Int) + off = (tgt : Int)) (k : G Γ X σ L st tgt) : G Γ X σ L (.int x :: st) pc := by
  obtain ⟨⟨p, l, e, R⟩, ⟨s, m, args, below⟩, ⟨meth, c, Q⟩, ⟨dC, dI, cI, cB⟩, ⟨ad, A, cells, slots⟩⟩ := X
  intro ok H locs ls hP hS hl
  have hk := k ok H locs ls hP hS hl
  obtain ⟨hx, hb, -⟩ := ok
  exact lv_lookup hx hb hd hp ho ht hk
theorem g_ldc {i : Nat} {v : Int32} (hd : decode Γ.2.1.2.1 pc = .ok (.ldc i, 2)) (hc : Cond.constant Γ.2.1.1.cls i v ∈ tb) (k : G Γ X σ L (.int v :: st) (pc + 2)) : G Γ X σ L st pc := by
  obtain ⟨⟨p, l, e, R⟩, ⟨s, m, args, below⟩, ⟨meth, c, Q⟩, ⟨dC, dI, cI, cB⟩, ⟨ad, A, cells, slots⟩⟩ := X
  intro ok H locs ls hP hS hl
  have hk := k ok H locs ls hP hS hl
  obtain ⟨hx, hb, hm, hown, hts, -⟩ := ok
  exact lv_ldc hx hb hown (hts _ hc) hd hk
theorem g_ldcw {i : Nat} {v : Int32} (hd : decode Γ.2.1.2.1 pc = .ok (.ldc_w i, 3)) (hc : Cond.constant Γ.2.1.1.cls i v ∈ tb) (k : G Γ X σ L (.int v :: st) (pc + 3)) : G Γ X σ L st pc := by
  obtain ⟨⟨p, l, e, R⟩, ⟨s, m, args, below⟩, ⟨meth, c, Q⟩, ⟨dC, dI, cI, cB⟩, ⟨ad, A, cells, slots⟩⟩ := X
  intro ok H locs ls hP hS hl
  have hk := k ok H locs ls hP hS hl
  obtain ⟨hx, hb, hm, hown, hts, -⟩ := ok
  exact lv_ldcw hx hb hown (hts _ hc) hd hk
theorem g_ldc2 {i : Nat} {v : Int64} (hd : decode Γ.2.1.2.1 pc = .ok (.ldc2_w i, 3)) (hc : Cond.constantLong Γ.2.1.1.cls i v ∈ tb) (k : G Γ X σ L (.long v :: st) (pc + 3)) : G Γ X σ L st pc := by
  obtain ⟨⟨p, l, e, R⟩, ⟨s, m, args, below⟩, ⟨meth, c, Q⟩, ⟨dC, dI, cI, cB⟩, ⟨ad, A, cells, slots⟩⟩ := X
  intro ok H locs ls hP hS hl
  have hk := k ok H locs ls hP hS hl
  obtain ⟨hx, hb, hm, hown, hts, -⟩ := ok
  exact lv_ldc2 hx hb hown (hts _ hc) hd hk
end GL
end
section
/-! fields and arrays of the store; what nobody writes -/
/-- entry i of the pool of class own is field j of class ci, of descriptor d -/
def FL (own : String) (i ci j : Nat) (d : String) : Prop := ci < 9 ∧ ∃ (C : String) (T : u_T) (N : Nat), classes[ci]? = some (C, T, N) ∧ j < N ∧ Cond.fieldLink own i (T j).1 (T j).2.1 (T j).2.2.1 ∈ tb ∧ (T j).2.2.1 = d
def FLp (own : String) (i ci j : Nat) (d : String) : Prop := ci < 9 ∧ ∃ (C : String) (T : u_T) (N : Nat), classes[ci]? = some (C, T, N) ∧ j < N ∧ Cond.fieldLink own i (T j).1 (T j).2.1 (T j).2.2.1 ∈ tb ∧ (T j).2.2.1 = d ∧ (T j).2.2.2 = false
theorem FLp.get {own : String} {i ci j : Nat} {d : String} (h : FLp own i ci j d) : FL own i ci j d := by
  obtain ⟨h0, C, T, N, h1, h2, h3, h4, -⟩ := h
  exact ⟨h0, C, T, N, h1, h2, h3, h4⟩
section GM
variable {Γ : MC} {X : CX} {σ : Store} {L L' : List (Option Value)} {st : List Value} {pc : Nat}
theorem g_get {i ci j k : Nat} {d : String} {fs : List (Option Nat)} {v : Value} (hd : decode Γ.2.1.2.1 pc = .ok (.getfield i, 3)) (hf : FL Γ.2.1.1.cls i ci j d) (hk : Γ.1[k]? = some (.inr (ci, fs))) (hv : ∀ ad, (fs[j]?).map (fo ad (σ k) j) = some (cv ad v)) (kk : G Γ X σ L (v :: st) (pc + 3)) : G Γ X σ L (.ref k :: st) pc := by
  obtain ⟨⟨p, l, e, R⟩, ⟨s, m, args, below⟩, ⟨meth, c, Q⟩, ⟨dC, dI, cI, cB⟩, ⟨ad, A, cells, slots⟩⟩ := X
  intro ok H locs ls hP hS hl
  have h1 := kk ok H locs ls hP hS hl
  obtain ⟨hx, hb, hm, hown, hts, hK, -⟩ := ok
  obtain ⟨h0, C, T, N, hc, hj, hlk, hdd⟩ := hf
  obtain ⟨C', T', N', t', hc', hin, -, -⟩ := cf_all ci h0
  rw [hc] at hc'
  cases hc'
  exact va_get (v := cv ad v) hx hb hts hin hown hK hP k (wr_at hk) hc j hj (hts _ hlk) (fun _ h => h) (by rw [fv_get, Nat.zero_add]; exact hv ad) hd h1
theorem g_getI {i ci j k : Nat} {d : String} {fs : List (Option Nat)} (hd : decode Γ.2.1.2.1 pc = .ok (.getfield i, 3)) (hf : FL Γ.2.1.1.cls i ci j d) (hk : Γ.1[k]? = some (.inr (ci, fs))) (hj : fs[j]? = some none) (kk : G Γ X σ L (.int (σ k j) :: st) (pc + 3)) : G Γ X σ L (.ref k :: st) pc :=
  g_get hd hf hk (fun ad => by rw [hj]; rfl) kk
theorem g_getR {i ci j k r : Nat} {d : String} {fs : List (Option Nat)} (hd : decode Γ.2.1.2.1 pc = .ok (.getfield i, 3)) (hf : FL Γ.2.1.1.cls i ci j d) (hk : Γ.1[k]? = some (.inr (ci, fs))) (hj : fs[j]? = some (some r)) (kk : G Γ X σ L (.ref r :: st) (pc + 3)) : G Γ X σ L (.ref k :: st) pc :=
  g_get hd hf hk (fun ad => by rw [hj]; rfl) kk
theorem g_put {i ci j k : Nat} {d : String} {ty : FieldType} {fs : List (Option Nat)} {v : Int32} (hd : decode Γ.2.1.2.1 pc = .ok (.putfield i, 3)) (hf : FLp Γ.2.1.1.cls i ci j d) (hty : parseFieldDescriptor d = some ty) (hn : narrow ty (.int v) = .int v) (hfit : fits ty (.int v) = true) (hk : Γ.1[k]? = some (.inr (ci, fs))) (hj : fs[j]? = some none) (kk : G Γ X (s_up σ k j v) L st (pc + 3)) : G Γ X σ L (.int v :: .ref k :: st) pc := by
  obtain ⟨⟨p, l, e, R⟩, ⟨s, m, args, below⟩, ⟨meth, c, Q⟩, ⟨dC, dI, cI, cB⟩, ⟨ad, A, cells, slots⟩⟩ := X
  intro ok H locs ls hP hS hl
  have h1 := fun H locs hP hS => kk ok H locs ls hP hS hl
  obtain ⟨hx, hb, hm, hown, hts, hK, hAp, hA, -⟩ := ok
  obtain ⟨h0, C, T, N, hc, hjN, hlk, hdd, hfin⟩ := hf
  obtain ⟨C', T', N', t', hc', hin, hts2, hnm⟩ := cf_all ci h0
  rw [hc] at hc'
  cases hc'
  have hlen : j < (fv ad (σ k) 0 fs).length := by rw [fv_len]; exact (List.getElem?_eq_some_iff.mp hj).1
  refine va_put (v := .int v) (ty := ty) hx hb hts hin t' hts2 hnm hown hK hP (wr_D hAp hA) hS k (wr_at hk) hc j hjN (hts _ hlk) (fun _ h => h) hfin (by rw [hdd]; exact hty) hn hfit hlen hd (fun H1 locs1 hP1 _ hS1 => h1 H1 locs1 ?_ hS1)
  rw [fv_set ad (σ k) fs v hj] at hP1
  have e1 := wr_set (cI := cI) (cB := cB) (ad := ad) (σ := σ) (upd (σ k) j v) hk
  rw [← s_row_up, ← e1]
  exact hP1
theorem g_putI {i ci j k : Nat} {fs : List (Option Nat)} {v : Int32} (hd : decode Γ.2.1.2.1 pc = .ok (.putfield i, 3)) (hf : FLp Γ.2.1.1.cls i ci j "I") (hk : Γ.1[k]? = some (.inr (ci, fs))) (hj : fs[j]? = some none) (kk : G Γ X (s_up σ k j v) L st (pc + 3)) : G Γ X σ L (.int v :: .ref k :: st) pc :=
  g_put hd hf (ty := .int) (by decide +kernel) rfl rfl hk hj kk
theorem g_putZ {i ci j k : Nat} {fs : List (Option Nat)} {v : Int32} (hd : decode Γ.2.1.2.1 pc = .ok (.putfield i, 3)) (hf : FLp Γ.2.1.1.cls i ci j "Z") (hk : Γ.1[k]? = some (.inr (ci, fs))) (hj : fs[j]? = some none) (hv : v = 0 ∨ v = 1) (kk : G Γ X (s_up σ k j v) L st (pc + 3)) : G Γ X σ L (.int v :: .ref k :: st) pc := by
  rcases hv with rfl | rfl
  · exact g_put hd hf (ty := .boolean) (by decide +kernel) (by decide +kernel) (by decide +kernel) hk hj kk
  · exact g_put hd hf (ty := .boolean) (by decide +kernel) (by decide +kernel) (by decide +kernel) hk hj kk
theorem cl_of {i : Int32} {a n : Nat} (h : i = nI a) (ha : a < n) (hn : n < 2 ^ 31) : vp_in i n ∧ i.toNatClampNeg = a := by
  subst h
  exact ⟨vp_in_nI ha hn, nI_clamp (by omega)⟩
theorem g_iaload {k n a : Nat} {i : Int32} (hd : decode Γ.2.1.2.1 pc = .ok (.iaload, 1)) (hk : Γ.1[k]? = some (.inl (false, n))) (hi : i = nI a) (ha : a < n) (hn : n < 2 ^ 31) (kk : G Γ X σ L (.int (σ k a) :: st) (pc + 1)) : G Γ X σ L (.int i :: .ref k :: st) pc := by
  obtain ⟨⟨p, l, e, R⟩, ⟨s, m, args, below⟩, ⟨meth, c, Q⟩, ⟨dC, dI, cI, cB⟩, ⟨ad, A, cells, slots⟩⟩ := X
  intro ok H locs ls hP hS hl
  have h1 := kk ok H locs ls hP hS hl
  obtain ⟨hx, hb, hm, hown, hts, hK, -⟩ := ok
  obtain ⟨h2, h3⟩ := cl_of hi ha hn
  refine va_iald (f := σ k) (n := n) (cA := cI) hx hb hK hP k 0 (wr_at hk) rfl h2 hd ?_
  rw [h3]; exact h1
theorem g_baload {k n a : Nat} {i : Int32} (hd : decode Γ.2.1.2.1 pc = .ok (.baload, 1)) (hk : Γ.1[k]? = some (.inl (true, n))) (hi : i = nI a) (ha : a < n) (hn : n < 2 ^ 31) (kk : G Γ X σ L (.int (σ k a) :: st) (pc + 1)) : G Γ X σ L (.int i :: .ref k :: st) pc := by
  obtain ⟨⟨p, l, e, R⟩, ⟨s, m, args, below⟩, ⟨meth, c, Q⟩, ⟨dC, dI, cI, cB⟩, ⟨ad, A, cells, slots⟩⟩ := X
  intro ok H locs ls hP hS hl
  have h1 := kk ok H locs ls hP hS hl
  obtain ⟨hx, hb, hm, hown, hts, hK, -⟩ := ok
  obtain ⟨h2, h3⟩ := cl_of hi ha hn
  refine va_bald (f := σ k) (n := n) (cA := cB) hx hb hK hP k 1 (wr_at hk) rfl h2 hd ?_
  rw [h3]; exact h1
theorem g_iastore {k n a : Nat} {i v : Int32} (hd : decode Γ.2.1.2.1 pc = .ok (.iastore, 1)) (hk : Γ.1[k]? = some (.inl (false, n))) (hi : i = nI a) (ha : a < n) (hn : n < 2 ^ 31) (kk : G Γ X (s_up σ k a v) L st (pc + 1)) : G Γ X σ L (.int v :: .int i :: .ref k :: st) pc := by
  obtain ⟨⟨p, l, e, R⟩, ⟨s, m, args, below⟩, ⟨meth, c, Q⟩, ⟨dC, dI, cI, cB⟩, ⟨ad, A, cells, slots⟩⟩ := X
  intro ok H locs ls hP hS hl
  have h1 := fun H locs hP hS => kk ok H locs ls hP hS hl
  obtain ⟨hx, hb, hm, hown, hts, hK, hAp, hA, -⟩ := ok
  obtain ⟨h2, h3⟩ := cl_of hi ha hn
  refine va_iast (f := σ k) (n := n) (cA := cI) (x := v) hx hb hK hP (wr_D hAp hA) hS k 0 (wr_at hk) rfl h2 hd (fun H1 locs1 hP1 _ hS1 => h1 H1 locs1 ?_ hS1)
  rw [h3] at hP1
  have e1 := wr_set (cI := cI) (cB := cB) (ad := ad) (σ := σ) (upd (σ k) a v) hk
  rw [← s_row_up, ← e1]
  exact hP1
theorem g_bastore {k n a : Nat} {i v : Int32} (hd : decode Γ.2.1.2.1 pc = .ok (.bastore, 1)) (hk : Γ.1[k]? = some (.inl (true, n))) (hi : i = nI a) (ha : a < n) (hn : n < 2 ^ 31) (kk : G Γ X (s_up σ k a v.toInt8.toInt32) L st (pc + 1)) : G Γ X σ L (.int v :: .int i :: .ref k :: st) pc := by
  obtain ⟨⟨p, l, e, R⟩, ⟨s, m, args, below⟩, ⟨meth, c, Q⟩, ⟨dC, dI, cI, cB⟩, ⟨ad, A, cells, slots⟩⟩ := X
  intro ok H locs ls hP hS hl
  have h1 := fun H locs hP hS => kk ok H locs ls hP hS hl
  obtain ⟨hx, hb, hm, hown, hts, hK, hAp, hA, -⟩ := ok
  obtain ⟨h2, h3⟩ := cl_of hi ha hn
  refine va_bast (f := σ k) (n := n) (cA := cB) (x := v) hx hb hK hP (wr_D hAp hA) hS k 1 (wr_at hk) rfl h2 hd (fun H1 locs1 hP1 _ hS1 => h1 H1 locs1 ?_ hS1)
  rw [h3, vp_nar_byte] at hP1
  have e1 := wr_set (cI := cI) (cB := cB) (ad := ad) (σ := σ) (upd (σ k) a v.toInt8.toInt32) hk
  rw [← s_row_up, ← e1]
  exact hP1
theorem g_alen {k n : Nat} {b : Bool} (hd : decode Γ.2.1.2.1 pc = .ok (.arraylength, 1)) (hk : Γ.1[k]? = some (.inl (b, n))) (kk : G Γ X σ L (.int (nI n) :: st) (pc + 1)) : G Γ X σ L (.ref k :: st) pc := by
  obtain ⟨⟨p, l, e, R⟩, ⟨s, m, args, below⟩, ⟨meth, c, Q⟩, ⟨dC, dI, cI, cB⟩, ⟨ad, A, cells, slots⟩⟩ := X
  intro ok H locs ls hP hS hl
  have h1 := kk ok H locs ls hP hS hl
  obtain ⟨hx, hb, hm, hown, hts, hK, -⟩ := ok
  cases b with
  | false => exact va_alen (x := (n, .inl (σ k))) hx hb hK hP k 0 (wr_at hk) rfl rfl hd h1
  | true => exact va_alen (x := (n, .inl (σ k))) hx hb hK hP k 1 (wr_at hk) rfl rfl hd h1
/-- a static array that nobody writes, by its own class's link -/
theorem g_gets {i j : Nat} (hd : decode Γ.2.1.2.1 pc = .ok (.getstatic i, 3)) (hj : j < 4) (hlk : Cond.fieldLink Γ.2.1.1.cls i (roC j).1 (roC j).2 "[I" ∈ tb) (kk : G Γ X σ L (.ref (900 + j) :: st) (pc + 3)) : G Γ X σ L st pc := by
  obtain ⟨⟨p, l, e, R⟩, ⟨s, m, args, below⟩, ⟨meth, c, Q⟩, ⟨dC, dI, cI, cB⟩, ⟨ad, A, cells, slots⟩⟩ := X
  intro ok H locs ls hP hS hl
  have h1 := kk ok H locs ls hP hS hl
  obtain ⟨hx, hb, hm, hown, hts, hK, hAp, hA, hRO, -⟩ := ok
  exact va_gets hx hb (hRO.1 j hj).1 hS hown (hts _ hlk) (fun _ h => h) hd h1
theorem g_getsN {i j : Nat} (hd : decode Γ.2.1.2.1 pc = .ok (.getstatic i, 3)) (hj : j < 4) (hlk : (Γ.2.1.1.cls, i, j) = ("LateSeekers$Park", 43, 0) ∨ (Γ.2.1.1.cls, i, j) = ("LateSeekers$TapeReader", 91, 1)) (kk : G Γ X σ L (.ref (900 + j) :: st) (pc + 3)) : G Γ X σ L st pc := by
  obtain ⟨⟨p, l, e, R⟩, ⟨s, m, args, below⟩, ⟨meth, c, Q⟩, ⟨dC, dI, cI, cB⟩, ⟨ad, A, cells, slots⟩⟩ := X
  intro ok H locs ls hP hS hl
  have h1 := kk ok H locs ls hP hS hl
  obtain ⟨hx, hb, hm, hown, hts, hK, hAp, hA, hRO, -⟩ := ok
  obtain ⟨r1, -, -, -, -, r6, r7⟩ := hRO
  rcases hlk with h | h
  · obtain ⟨e1, e2, e3⟩ := Prod.mk.inj h |>.imp id Prod.mk.inj
    rw [e1] at hown
    subst e2; subst e3
    exact va_getsN hx hb (r1 0 (by decide)).1 hS hown (va_Nw.use rfl r6) (fun _ h => h) hd h1
  · obtain ⟨e1, e2, e3⟩ := Prod.mk.inj h |>.imp id Prod.mk.inj
    rw [e1] at hown
    subst e2; subst e3
    exact va_getsN hx hb (r1 1 (by decide)).1 hS hown (va_Nw.use rfl r7) (fun _ h => h) hd h1
theorem va_Tld {p : Program} {l : Launch} {e : Env} {R : Room} {s : State} {m : MethodId} {args : Array Value} {below : List Frame} {meth : Method} {c : Code} {H : Heap} {locs : List Loc} {cells slots : Nat} {Q : State → Prop} {cc : ByteArray} {pc : Nat} {ls : Array Slot} {rest : List Value} {A : Nat → Prop} (hx : p.tables.exec = Jvm.exec) (hb : c.code = cc) {t N a : Nat} {f : Nat → Value} (hT : va_T .int t N f A s s.heap) (hS : va_S A s.heap H locs) {i : Int32} (hi : i = nI a) (ha : a < N) (hN : N < 2 ^ 31) (hd : decode cc pc = .ok (.iaload, 1)) (kk : W p l e R s m args below meth c H locs cells slots Q (F0 m (pc + 1) ls (f a :: rest))) : W p l e R s m args below meth c H locs cells slots Q (F0 m pc ls (.int i :: .ref t :: rest)) := by
  obtain ⟨cell, h1, h2, h3, h4, h5, h6, h7⟩ := hT.kept hS.2.1
  obtain ⟨g1, g2⟩ := cl_of hi ha hN
  refine W.iald (v := f a) hx hb h1 h2 h3 (fun q => ?_) (by rw [g2]; exact h6 a ha) rfl rfl hd kk
  rcases q with q | q
  · exact g1 (Or.inl q)
  · rw [g2] at q; omega
theorem g_roload {j a : Nat} {i : Int32} (hd : decode Γ.2.1.2.1 pc = .ok (.iaload, 1)) (hj : j < 4) (hi : i = nI a) (ha : a < (roV j).length) (kk : G Γ X σ L (.int ((roV j).getD a 0) :: st) (pc + 1)) : G Γ X σ L (.int i :: .ref (900 + j) :: st) pc := by
  obtain ⟨⟨p, l, e, R⟩, ⟨s, m, args, below⟩, ⟨meth, c, Q⟩, ⟨dC, dI, cI, cB⟩, ⟨ad, A, cells, slots⟩⟩ := X
  intro ok H locs ls hP hS hl
  have h1 := kk ok H locs ls hP hS hl
  obtain ⟨hx, hb, hm, hown, hts, hK, hAp, hA, hRO, -⟩ := ok
  have hN : (roV j).length < 2 ^ 31 := by
    match j, hj with
    | 0, _ => decide
    | 1, _ => decide
    | 2, _ => decide
    | 3, _ => decide
  exact va_Tld (f := fun i => .int ((roV j).getD i 0)) hx hb (hRO.1 j hj).2 hS hi ha hN hd h1
theorem g_rolen {j : Nat} (hd : decode Γ.2.1.2.1 pc = .ok (.arraylength, 1)) (hj : j < 4) (kk : G Γ X σ L (.int (nI (roV j).length) :: st) (pc + 1)) : G Γ X σ L (.ref (900 + j) :: st) pc := by
  obtain ⟨⟨p, l, e, R⟩, ⟨s, m, args, below⟩, ⟨meth, c, Q⟩, ⟨dC, dI, cI, cB⟩, ⟨ad, A, cells, slots⟩⟩ := X
  intro ok H locs ls hP hS hl
  have h1 := kk ok H locs ls hP hS hl
  obtain ⟨hx, hb, hm, hown, hts, hK, hAp, hA, hRO, -⟩ := ok
  obtain ⟨cell, q1, q2, q3, q4, q5, q6, q7⟩ := (hRO.1 j hj).2.kept hS.2.1
  exact W.alen (n := nI (roV j).length) hx hb q1 q2 q5 rfl rfl hd h1
/-- System.arraycopy of ints from the places 0 on, between two cells -/
theorem g_copy {i k0 k1 n0 n1 n : Nat} {v : Int32} (hd : decode Γ.2.1.2.1 pc = .ok (.invokestatic i, 3)) (hlk : Cond.methodLink Γ.2.1.1.cls i arraycopyName ∈ tb) (h2 : Cond.native arraycopyName ∈ tb ∧ Cond.static arraycopyName ∈ tb ∧ Cond.initialized "java/lang/System" ∈ tb) (hk0 : Γ.1[k0]? = some (.inl (false, n0))) (hk1 : Γ.1[k1]? = some (.inl (false, n1))) (hv : v = nI n) (hn0 : n ≤ n0) (hn1 : n ≤ n1) (hb31 : n < 2 ^ 31) (hdep : 1 ≤ Γ.2.2) (hst : st = []) (kk : G Γ X (s_row σ k1 (va_cpy (σ k0) (σ k1) 0 0 n)) L st (pc + 3)) : G Γ X σ L (.int v :: .int 0 :: .ref k1 :: .int 0 :: .ref k0 :: st) pc := by
  obtain ⟨⟨p, l, e, R⟩, ⟨s, m, args, below⟩, ⟨meth, c, Q⟩, ⟨dC, dI, cI, cB⟩, ⟨ad, A, cells, slots⟩⟩ := X
  intro ok H locs ls hP hS hl
  have h1 := fun H locs hP hS => kk ok H locs ls hP hS hl
  obtain ⟨hx, hb, hm, hown, hts, hK, hAp, hA, hRO, hfr, hlo, -⟩ := ok
  subst hst
  have hc : v.toNatClampNeg = n := by rw [hv]; exact nI_clamp hb31
  have hz : (0 : Int32).toNatClampNeg = 0 := sb_cl0
  refine va_copyi (ty := .int) hx hb (by rw [hm, hl.1]) hown (hts _ hlk) (hts _ h2.1) (hts _ h2.2.1) (hts _ h2.2.2) hK hP (wr_D hAp hA) hS k0 k1 0 0 (wr_at hk0) (wr_at hk1) rfl rfl rfl (by decide) (by decide) (by rw [hv]; exact nI_pos hb31) (by rw [hc, hz]; omega) (by rw [hc, hz]; omega) (fun _ _ => rfl) (by have := hdep; exact Nat.le_trans this hfr) ?_ hd (fun H1 locs1 hP1 _ hS1 => h1 H1 locs1 ?_ hS1)
  · have e1 : (([] : List Value).map (cv ad)).map (fun v => v.category) = [] := rfl
    rw [e1]
    have e2 : nativeFrameWords "java/lang/System" "arraycopy" 5 + 11 ≤ 40 := by decide +kernel
    have e3 : 40 * 1 ≤ 40 * Γ.2.2 := Nat.mul_le_mul_left 40 hdep
    have e4 : ([] : List Nat).sum = 0 := rfl
    omega
  · rw [hc, hz] at hP1
    have e1 := wr_set (cI := cI) (cB := cB) (ad := ad) (σ := σ) (va_cpy (σ k0) (σ k1) 0 0 n) hk1
    rw [← e1]
    exact hP1
end GM
end
section
/-! CONTRACTS over the store, their ends, their calls, and their embedding into a larger store -/
def rmd (d : Nat) : Room := { frames := d, cells := 0, slots := 0, locals := 40 * d }
def Pw (Λ : Lay) (dC : Nat → ClassId) (dI : Nat → Nat → Nat) (cI cB : ClassId) (ad : Nat → Nat) (σ : Store) (U : State) : Prop :=
  va_P (dC, dI) classes (wr cI cB ad σ 0 Λ) U.heap ∧ va_K (dC, dI) classes (tyl cI cB) U ∧ Ap Λ ad ∧ RO ad (Aw Λ ad) U
def Qw (Λ : Lay) (dC : Nat → ClassId) (dI : Nat → Nat → Nat) (cI cB : ClassId) (ad : Nat → Nat) (Post : Option Value → Store → Prop) : Array Value → State → Outcome → State → Prop := fun _ st oc t =>
  (∃ (v : Option Value) (σ : Store), oc = .returned (v.map (cv ad)) ∧ Post v σ ∧ va_P (dC, dI) classes (wr cI cB ad σ 0 Λ) t.heap) ∧ va_F (Aw Λ ad) st t
abbrev wds (μ : Mt) : List Cond := Cond.code μ.1 μ.2.1 μ.2.2.1 μ.2.2.2 :: tb
/-- the contract: from the store σ, with these arguments, the method returns, and Post holds of its answer and the store -/
def Ct (Λ : Lay) (μ : Mt) (d : Nat) (as : List Value) (σ : Store) (Post : Option Value → Store → Prop) : Prop :=
  ∀ (l : Launch) (dC : Nat → ClassId) (dI : Nat → Nat → Nat) (cI cB : ClassId) (ad : Nat → Nat), Met l μ.1 (wds μ) (rmd d) (va_Pc (as.map (cv ad)) (Pw Λ dC dI cI cB ad σ)) (Qw Λ dC dI cI cB ad Post) 0 0 (Aw Λ ad)
def Rt (Γ : MC) (Post : Option Value → Store → Prop) (X : CX) : Prop := match X with
  | (_, (s, _, args, below), (meth, _, Q), (dC, dI, cI, cB), (ad, A, cells, slots)) =>
    meth.sig.returnType = Γ.2.1.2.2.2 ∧ meth.locks = false ∧ A = Aw Γ.1 ad ∧ cells = 0 ∧ slots = 0 ∧ Q = MQ below (Qw Γ.1 dC dI cI cB ad Post) args s 0 0 (Aw Γ.1 ad)
theorem Ct.of {Λ : Lay} {μ : Mt} {d : Nat} {as : List Value} {σ : Store} {Post : Option Value → Store → Prop} (hy : plainName μ.1.cls = true) (hfit : (lg_sl as).length ≤ μ.2.2.1) (body : ∀ X, Rt (Λ, μ, d) Post X → G (Λ, μ, d) X σ (ent as μ.2.2.1) [] 0) : Ct Λ μ d as σ Post := by
  intro l dC dI cI cB ad
  refine Met.ofW (cc := μ.2.1) (maxL := μ.2.2.1) (ret := μ.2.2.2) hy rfl ?_
  intro p e s m args below meth c s₁ B hml hv
  obtain ⟨rfl, hP, hK, hAp, hRO⟩ := hv
  have hts := atoms_spec (ws := wds μ) B.pre
  have hown : s.vm.findClass μ.1.cls = some m.cls := findClass_of_methodNamed B.named
  have hlen : (lg_sl (as.map (cv ad))).length ≤ μ.2.2.1 := by
    have : (lg_sl (as.map (cv ad))).length = (lg_sl as).length := by
      unfold lg_sl
      rw [List.length_flatMap, List.length_flatMap, List.map_map]
      congr 1
      apply List.map_congr_left
      intro v _
      show (if (cv ad v).category = 2 then _ else _ : List Slot).length = _
      rw [cv_cat]
      split <;> rfl
    omega
  have hl := lv_entry (as.map (cv ad)) hlen
  rw [lg_entry_eq]
  generalize (lg_sl (as.map (cv ad)) ++ List.replicate (μ.2.2.1 - (lg_sl (as.map (cv ad))).length) Slot.unset).toArray = ls at hl ⊢
  exact body ((p, l, e, (headSpec (wds μ) (rmd d)).room), (s, m, (as.map (cv ad)).toArray, below), (meth, c, MQ below (Qw Λ dC dI cI cB ad Post) (as.map (cv ad)).toArray s 0 0 (Aw Λ ad)), (dC, dI, cI, cB), (ad, Aw Λ ad, 0, 0))
    ⟨B.returns, B.notSynchronized, rfl, rfl, rfl, rfl⟩ ⟨B.exec, B.bytes, hml, hown, fun w hw => hts w (List.mem_cons_of_mem _ hw), hK, hAp, fun k hk => ⟨k, hk, rfl⟩, hRO, Nat.le_refl _, Nat.le_refl _, Nat.zero_le _, Nat.zero_le _⟩ s.heap [] ls hP va_S.rf (lh_ent hl)
section GR
variable {Γ : MC} {X : CX} {σ : Store} {L L' : List (Option Value)} {st : List Value} {pc : Nat} {Post : Option Value → Store → Prop}
theorem g_vret (hR : Rt Γ Post X) (hd : decode Γ.2.1.2.1 pc = .ok (.return_, 1)) (hr : Γ.2.1.2.2.2 = none) (hp : Post none σ) : G Γ X σ L [] pc := by
  obtain ⟨⟨p, l, e, R⟩, ⟨s, m, args, below⟩, ⟨meth, c, Q⟩, ⟨dC, dI, cI, cB⟩, ⟨ad, A, cells, slots⟩⟩ := X
  obtain ⟨hr2, hlk, hA, hc0, hs0, hQ⟩ := hR
  intro ok H locs ls hP hS hl
  obtain ⟨hx, hb, hm, hown, hts, hK, -⟩ := ok
  subst hA; subst hc0; subst hs0; subst hQ
  exact W.vret hx hb (hr2.trans hr) (fun t ht hW => ⟨⟨none, σ, rfl, hp, by rw [ht]; exact hP⟩, hS.F ht⟩) hS.2.2 hd hlk
theorem g_iret {v : Int32} (hR : Rt Γ Post X) (hd : decode Γ.2.1.2.1 pc = .ok (.ireturn, 1)) (hr : Γ.2.1.2.2.2 = some .int) (hp : Post (some (.int v)) σ) : G Γ X σ L [.int v] pc := by
  obtain ⟨⟨p, l, e, R⟩, ⟨s, m, args, below⟩, ⟨meth, c, Q⟩, ⟨dC, dI, cI, cB⟩, ⟨ad, A, cells, slots⟩⟩ := X
  obtain ⟨hr2, hlk, hA, hc0, hs0, hQ⟩ := hR
  intro ok H locs ls hP hS hl
  obtain ⟨hx, hb, hm, hown, hts, hK, -⟩ := ok
  subst hA; subst hc0; subst hs0; subst hQ
  exact W.iret (v := v) hx hb (hr2.trans hr) (fun t ht hW => ⟨⟨some (.int v), σ, rfl, hp, by rw [ht]; exact hP⟩, hS.F ht⟩) hS.2.2 hd hlk
theorem g_lret {v : Int64} (hR : Rt Γ Post X) (hd : decode Γ.2.1.2.1 pc = .ok (.lreturn, 1)) (hr : Γ.2.1.2.2.2 = some .long) (hp : Post (some (.long v)) σ) : G Γ X σ L [.long v] pc := by
  obtain ⟨⟨p, l, e, R⟩, ⟨s, m, args, below⟩, ⟨meth, c, Q⟩, ⟨dC, dI, cI, cB⟩, ⟨ad, A, cells, slots⟩⟩ := X
  obtain ⟨hr2, hlk, hA, hc0, hs0, hQ⟩ := hR
  intro ok H locs ls hP hS hl
  obtain ⟨hx, hb, hm, hown, hts, hK, -⟩ := ok
  subst hA; subst hc0; subst hs0; subst hQ
  exact W.lret (v := v) hx hb (hr2.trans hr) (fun t ht hW => ⟨⟨some (.long v), σ, rfl, hp, by rw [ht]; exact hP⟩, hS.F ht⟩) hS.2.2 hd hlk
/-- an answer of a narrower type -/
theorem g_nret {v : Int32} {ty : FieldType} (hR : Rt Γ Post X) (hd : decode Γ.2.1.2.1 pc = .ok (.ireturn, 1)) (hr : Γ.2.1.2.2.2 = some ty) (hn : narrow ty (.int v) = .int v) (hp : Post (some (.int v)) σ) : G Γ X σ L [.int v] pc := by
  obtain ⟨⟨p, l, e, R⟩, ⟨s, m, args, below⟩, ⟨meth, c, Q⟩, ⟨dC, dI, cI, cB⟩, ⟨ad, A, cells, slots⟩⟩ := X
  obtain ⟨hr2, hlk, hA, hc0, hs0, hQ⟩ := hR
  intro ok H locs ls hP hS hl
  obtain ⟨hx, hb, hm, hown, hts, hK, -⟩ := ok
  subst hA; subst hc0; subst hs0; subst hQ
  exact W.zret (v := v) hx hb (hr2.trans hr) hn (fun t ht hW => ⟨⟨some (.int v), σ, rfl, hp, by rw [ht]; exact hP⟩, hS.F ht⟩) hS.2.2 hd hlk
theorem g_zret {v : Int32} (hR : Rt Γ Post X) (hd : decode Γ.2.1.2.1 pc = .ok (.ireturn, 1)) (hr : Γ.2.1.2.2.2 = some .boolean) (hv : v = 0 ∨ v = 1) (hp : Post (some (.int v)) σ) : G Γ X σ L [.int v] pc :=
  g_nret hR hd hr (by rcases hv with rfl | rfl <;> decide +kernel) hp
theorem g_aret {k : Nat} {C : String} (hR : Rt Γ Post X) (hd : decode Γ.2.1.2.1 pc = .ok (.areturn, 1)) (hr : Γ.2.1.2.2.2 = some (.object C)) (hp : Post (some (.ref k)) σ) : G Γ X σ L [.ref k] pc := by
  obtain ⟨⟨p, l, e, R⟩, ⟨s, m, args, below⟩, ⟨meth, c, Q⟩, ⟨dC, dI, cI, cB⟩, ⟨ad, A, cells, slots⟩⟩ := X
  obtain ⟨hr2, hlk, hA, hc0, hs0, hQ⟩ := hR
  intro ok H locs ls hP hS hl
  obtain ⟨hx, hb, hm, hown, hts, hK, -⟩ := ok
  subst hA; subst hc0; subst hs0; subst hQ
  exact W.aret (v := .ref (ad k)) hx hb (hr2.trans hr) (Or.inl ⟨C, rfl⟩) (Or.inr ⟨_, rfl⟩) (fun t ht hW => ⟨⟨some (.ref k), σ, rfl, hp, by rw [ht]; exact hP⟩, hS.F ht⟩) hS.2.2 hd hlk
end GR
/-- entry i of own's pool is method ν: of objects, or static; with n parameters -/
def LkV (own : String) (i : Nat) (ν : Mt) (n : Nat) : Prop := Cond.methodLink own i ν.1 ∈ tb ∧ Cond.instanceMethod ν.1 ∈ tb ∧ Cond.selects ν.1.cls ν.1 ν.1 ∈ tb ∧ Cond.initialized ν.1.cls ∈ tb ∧ Cond.code ν.1 ν.2.1 ν.2.2.1 ν.2.2.2 ∈ tb ∧ (ν.1.cls ≠ "java/lang/invoke/MethodHandle" ∧ ν.1.cls ≠ "java/lang/invoke/VarHandle" ∧ (parseMethodDescriptor ν.1.desc).map (fun d => d.parameters.length) = some n) ∧ ν.2.2.1 ≤ 20
def LkS (own : String) (i : Nat) (ν : Mt) (n : Nat) : Prop := Cond.methodLink own i ν.1 ∈ tb ∧ Cond.static ν.1 ∈ tb ∧ Cond.initialized ν.1.cls ∈ tb ∧ Cond.code ν.1 ν.2.1 ν.2.2.1 ν.2.2.2 ∈ tb ∧ (ν.1.cls ≠ "java/lang/invoke/MethodHandle" ∧ ν.1.cls ≠ "java/lang/invoke/VarHandle" ∧ (parseMethodDescriptor ν.1.desc).map (fun d => d.parameters.length) = some n) ∧ ν.2.2.1 ≤ 20
theorem good_tb {ν : Mt} (h : Cond.code ν.1 ν.2.1 ν.2.2.1 ν.2.2.2 ∈ tb) : GoodIn tb (wds ν) := by
  intro w hw
  have hm : w ∈ tb := by
    rcases List.mem_cons.mp hw with e | e
    · rw [e]; exact h
    · exact e
  exact ⟨hm, good_of_word (List.mem_filter.mp hm).2⟩
section GC
variable {Γ : MC} {X : CX} {σ : Store} {L L' : List (Option Value)} {st : List Value} {pc : Nat} {Post : Option Value → Store → Prop}
theorem Pw_blind {Λ : Lay} {dC : Nat → ClassId} {dI : Nat → Nat → Nat} {cI cB : ClassId} {ad : Nat → Nat} {av : List Value} : FrameBlind (va_Pc av (Pw Λ dC dI cI cB ad σ)) := by
  intro a U g mk h
  obtain ⟨h0, h1, h2, h3, h4⟩ := h
  exact ⟨h0, h1, va_K.moved (u := U) (U := U.calling g mk a) (Vm.Alike.refl U.vm) h2, h3, h4.calling g mk a⟩
theorem Pw_at {Λ : Lay} {dC : Nat → ClassId} {dI : Nat → Nat → Nat} {cI cB : ClassId} {ad : Nat → Nat} {A : Nat → Prop} {s U : State} {H : Heap} {locs : List Loc} (hP : va_P (dC, dI) classes (wr cI cB ad σ 0 Λ) H) (hS : va_S A s.heap H locs) (hK : va_K (dC, dI) classes (tyl cI cB) s) (hAp : Ap Λ ad) (hA : ∀ k, k < Λ.length → A (ad k)) (hRO : RO ad A s) (hU : U.heap = H) (hW : s.WarmedH U.vm) : Pw Λ dC dI cI cB ad σ U :=
  ⟨by rw [hU]; exact hP, va_K.moved hW.alike hK, hAp, hRO.later hS hU hW (fun q ⟨k, h1, h2⟩ => by rw [h2]; exact hA k h1)⟩
theorem g_run {p : Program} {l : Launch} {e : Env} {R : Room} {s : State} {m : MethodId} {args : Array Value} {below : List Frame} {meth : Method} {c : Code} {Q : State → Prop} {dC : Nat → ClassId} {dI : Nat → Nat → Nat} {cI cB : ClassId} {ad : Nat → Nat} {A : Nat → Prop} {cells slots : Nat} {H : Heap} {locs : List Loc} {ls : Array Slot} {st0 rest : List Value} {a : Array Value}
    (hr : va_Run p l e R s m args below meth c H locs cells slots 0 0 (F0 m pc ls st0) (rest.map (cv ad)) (Qw Γ.1 dC dI cI cB ad Post a) (Aw Γ.1 ad)) (hS : va_S A s.heap H locs) (hA : ∀ k, k < Γ.1.length → A (ad k)) (kk : ∀ (v : Option Value) (σ' : Store) (H1 : Heap) (locs1 : List Loc), Post v σ' → va_P (dC, dI) classes (wr cI cB ad σ' 0 Γ.1) H1 → va_S A s.heap H1 locs1 → W p l e R s m args below meth c H1 locs1 cells slots Q (F0 m (pc + 3) ls ((v.toList ++ rest).map (cv ad)))) : W p l e R s m args below meth c H locs cells slots Q (F0 m pc ls st0) := by
  have hA' : ∀ q, Aw Γ.1 ad q → A q := fun q ⟨k, h1, h2⟩ => by rw [h2]; exact hA k h1
  intro T hT Y
  obtain ⟨v, st₀, t, T', L, h0, Y', hL, e1, e2, ⟨⟨w, σ', hv, hp, hP1⟩, hz, hk⟩, go⟩ := hr T hT Y
  have hv' : v = w.map (cv ad) := Outcome.returned.inj hv
  subst hv'
  rw [h0] at hz hk
  obtain ⟨t2, a1, b1⟩ := kk w σ' T'.heap (locs ++ L) hp (by rw [e1]; exact hP1)
    ⟨Nat.le_trans hS.1 (by rw [e1]; exact hz), fun q h1 h2 => by rw [e1, hk q (Nat.lt_of_lt_of_le h1 hS.1) (fun z => h2 (hA' q z))]; exact hS.2.1 q h1 h2, fun q hq => by
      rcases List.mem_append.mp hq with h | h
      · exact hS.2.2 q h
      · exact hA' _ (hL q h)⟩ T' rfl Y'
  refine ⟨t2, go t2 ?_, b1⟩
  have e3 : (w.toList ++ rest).map (cv ad) = (w.map (cv ad)).toList ++ rest.map (cv ad) := by cases w <;> simp
  rw [e3] at a1
  exact a1
theorem room_cv {m : MethodId} {pc : Nat} {ls : Array Slot} {stk rest : List Value} (ad : Nat → Nat) (h : (rest.map (fun v => v.category)).sum ≤ 8) : 2 * (F0 m pc ls stk).monitorRoom + ((rest.map (cv ad)).map fun v => v.category).sum ≤ 8 := by
  have e1 : (fun v : Value => v.category) ∘ cv ad = fun v => v.category := by
    funext v
    exact cv_cat ad v
  rw [List.map_map, e1]
  show 2 * 0 + _ ≤ 8
  omega
theorem g_callV {i k ci n d : Nat} {ν : Mt} {As rest : List Value} {fs : List (Option Nat)} {T : u_T} {N : Nat} (hd : decode Γ.2.1.2.1 pc = .ok (.invokevirtual i, 3)) (hlk : LkV Γ.2.1.1.cls i ν n) (hn : As.length = n) (hst : st = As.reverse ++ .ref k :: rest) (hk : Γ.1[k]? = some (.inr (ci, fs))) (hci : classes[ci]? = some (ν.1.cls, T, N)) (hroom : (rest.map (fun v => v.category)).sum ≤ 8) (hdep : d < Γ.2.2) (hC : Ct Γ.1 ν d (.ref k :: As) σ Post) (kk : ∀ (v : Option Value) (σ' : Store), Post v σ' → G Γ X σ' L (v.toList ++ rest) (pc + 3)) : G Γ X σ L st pc := by
  obtain ⟨⟨p, l, e, R⟩, ⟨s, m, args, below⟩, ⟨meth, c, Q⟩, ⟨dC, dI, cI, cB⟩, ⟨ad, A, cells, slots⟩⟩ := X
  intro ok H locs ls hP hS hl
  have h1 := fun v σ' H locs hp hP hS => kk v σ' hp ok H locs ls hP hS hl
  obtain ⟨hx, hb, hm, hown, hts, hK, hAp, hA, hRO, hfr, hlo, hce, hsl⟩ := ok
  obtain ⟨l1, l2, l3, l4, l5, l6, l7⟩ := hlk
  subst hst
  have cw : CallW R s args Γ.2.1.1.cls ν.1.cls i ν.1 ν.2.1 ν.2.2.1 ν.2.2.2 (wds ν) (rmd d) 0 0 n :=
    ⟨callB_of n hts (good_tb l5) rfl rfl rfl (hts _ l4) (hts _ l1) l6 ⟨by show d + 1 ≤ _; omega, by show 8 + (ν.2.2.1 + 11) + 40 * d ≤ _; omega⟩, hts _ l2, hts _ l3⟩
  have hst2 : (As.reverse ++ .ref k :: rest).map (cv ad) = (As.map (cv ad)).reverse ++ .ref (ad k) :: rest.map (cv ad) := by simp [cv]
  have hrm := room_cv (m := m) (pc := pc) (ls := ls) (stk := (As.reverse ++ .ref k :: rest).map (cv ad)) ad hroom
  have hrun := va_runV (p := p) (e := e) (below := below) (meth := meth) (locs := locs) (cells := cells) (slots := slots) (nL := Γ.2.1.2.2.1) (g := F0 m pc ls ((As.reverse ++ .ref k :: rest).map (cv ad))) (As := As.map (cv ad)) (rest := rest.map (cv ad)) (b := ad k) ⟨hx, hb, hm, hown, hts⟩ (hC l dC dI cI cB ad) cw ⟨Pw_blind, va_recv hK hP hci (wr_at hk), fun U hU hW => ⟨rfl, Pw_at hP hS hK hAp hA hRO hU hW⟩⟩ rfl (by rw [List.length_map]; exact hn) hl.1 hst2 hrm hd ⟨hce, hsl⟩
  exact g_run (Γ := Γ) (A := A) (rest := rest) hrun hS hA (fun v σ' H1 locs1 hp hP1 hS1 => h1 v σ' H1 locs1 hp hP1 hS1)
theorem g_callS {i n d : Nat} {ν : Mt} {As rest : List Value} (hd : decode Γ.2.1.2.1 pc = .ok (.invokestatic i, 3)) (hlk : LkS Γ.2.1.1.cls i ν n) (hn : As.length = n) (hst : st = As.reverse ++ rest) (hroom : (rest.map (fun v => v.category)).sum ≤ 8) (hdep : d < Γ.2.2) (hC : Ct Γ.1 ν d As σ Post) (kk : ∀ (v : Option Value) (σ' : Store), Post v σ' → G Γ X σ' L (v.toList ++ rest) (pc + 3)) : G Γ X σ L st pc := by
  obtain ⟨⟨p, l, e, R⟩, ⟨s, m, args, below⟩, ⟨meth, c, Q⟩, ⟨dC, dI, cI, cB⟩, ⟨ad, A, cells, slots⟩⟩ := X
  intro ok H locs ls hP hS hl
  have h1 := fun v σ' H locs hp hP hS => kk v σ' hp ok H locs ls hP hS hl
  obtain ⟨hx, hb, hm, hown, hts, hK, hAp, hA, hRO, hfr, hlo, hce, hsl⟩ := ok
  obtain ⟨l1, l2, l4, l5, l6, l7⟩ := hlk
  subst hst
  have cw : CallB R s args Γ.2.1.1.cls i ν.1 ν.2.1 ν.2.2.1 ν.2.2.2 (wds ν) (rmd d) 0 0 n ∧ (Cond.static ν.1).before args s = true :=
    ⟨callB_of n hts (good_tb l5) rfl rfl rfl (hts _ l4) (hts _ l1) l6 ⟨by show d + 1 ≤ _; omega, by show 8 + (ν.2.2.1 + 11) + 40 * d ≤ _; omega⟩, hts _ l2⟩
  have hst2 : (As.reverse ++ rest).map (cv ad) = (As.map (cv ad)).reverse ++ rest.map (cv ad) := by simp
  have hrm := room_cv (m := m) (pc := pc) (ls := ls) (stk := (As.reverse ++ rest).map (cv ad)) ad hroom
  have hrun := va_runS (p := p) (e := e) (below := below) (meth := meth) (locs := locs) (cells := cells) (slots := slots) (nL := Γ.2.1.2.2.1) (g := F0 m pc ls ((As.reverse ++ rest).map (cv ad))) (As := As.map (cv ad)) (rest := rest.map (cv ad)) ⟨hx, hb, hm, hown, hts⟩ (hC l dC dI cI cB ad) cw ⟨Pw_blind, fun U hU hW => ⟨rfl, Pw_at hP hS hK hAp hA hRO hU hW⟩⟩ rfl (by rw [List.length_map]; exact hn) hl.1 hst2 hrm hd ⟨hce, hsl⟩
  exact g_run (Γ := Γ) (A := A) (rest := rest) hrun hS hA (fun v σ' H1 locs1 hp hP1 hS1 => h1 v σ' H1 locs1 hp hP1 hS1)
end GC
end
section
/-! a contract over a small store serves a larger one that holds its cells: the frame rule -/
theorem Met.conseq {l : Launch} {y : MethodName} {ws : List Cond} {rm : Room} {Pc Pc' : Array Value → State → Prop} {Qc Qc' : Array Value → State → Outcome → State → Prop} {mc ms : Nat} {free free' : Addr → Prop} (h : Met l y ws rm Pc Qc mc ms free) (hP : ∀ a s, Pc' a s → Pc a s) (hQ : ∀ a s o t, Pc' a s → Qc a s o t → Qc' a s o t) (hF : ∀ q, free q → free' q) : Met l y ws rm Pc' Qc' mc ms free' := by
  intro p e h1 h2 h3 s m args below hf happ hp hK
  obtain ⟨n, o, a1, a2, a3, a4, Ls, a5, a6⟩ := h p e h1 h2 h3 s m args below hf happ (hP _ _ hp) hK
  exact ⟨n, o, a1, a2, a3, hQ _ _ _ _ hp a4, Ls, a5, fun q hq => hF _ (a6 q hq)⟩
theorem Ct.post {Λ : Lay} {μ : Mt} {d : Nat} {as : List Value} {σ : Store} {P P' : Option Value → Store → Prop} (h : Ct Λ μ d as σ P) (hp : ∀ v σ', P v σ' → P' v σ') : Ct Λ μ d as σ P' := by
  intro l dC dI cI cB ad
  refine Met.conseq (h l dC dI cI cB ad) (fun _ _ h => h) ?_ (fun _ h => h)
  rintro a s o t _ ⟨⟨v, σ', h1, h2, h3⟩, h4⟩
  exact ⟨⟨v, σ', h1, hp v σ' h2, h3⟩, h4⟩
theorem RO.narrow {ad : Nat → Nat} {A B : Nat → Prop} {U : State} (h : RO ad A U) (hB : ∀ q, B q → A q) : RO ad B U := by
  obtain ⟨h1, h2, h3, h4, h5, h6, h7⟩ := h
  refine ⟨fun j hj => ⟨(h1 j hj).1.narrow hB, (h1 j hj).2.narrow hB⟩, h2.narrow hB, h3, h4.narrow hB, ?_, h6, h7⟩
  rcases h5 with h | h
  · exact Or.inl (h.narrow hB)
  · exact Or.inr (h.narrow hB)
/-- the number in the larger store -/
def io (is : List Nat) (k : Nat) : Nat := is.getD k k
def re (is : List Nat) : Value → Value
  | .ref k => .ref (io is k)
  | v => v
def reS (is : List Nat) : Shape → Shape
  | .inl q => .inl q
  | .inr (ci, fs) => .inr (ci, fs.map (fun o => o.map (io is)))
def sub (is : List Nat) (σ : Store) : Store := fun k => σ (io is k)
def pos (is : List Nat) : Nat → Nat → Option Nat := match is with
  | [] => fun _ _ => none
  | a :: r => fun j k => if a = k then some j else pos r (j + 1) k
def over (σ : Store) (is : List Nat) (τ : Store) : Store := fun k => match pos is 0 k with
  | some j => τ j
  | none => σ k
def embB (Λ1 Λ2 : Lay) (is : List Nat) : Bool := decide (is.length = Λ1.length) && decide (is.length ≤ 900) && decide is.Nodup && (List.range Λ1.length).all (fun k => decide (Λ2[io is k]? = Λ1[k]?.map (reS is)))
theorem pos_some : ∀ (is : List Nat) (j0 k j : Nat), pos is j0 k = some j → j0 ≤ j ∧ is[j - j0]? = some k := by
  intro is
  induction is with
  | nil => intro j0 k j h; cases h
  | cons a r ih =>
    intro j0 k j h
    have h' : (if a = k then some j0 else pos r (j0 + 1) k) = some j := h
    by_cases e : a = k
    · rw [if_pos e] at h'
      cases h'
      refine ⟨Nat.le_refl _, ?_⟩
      rw [Nat.sub_self, e]; rfl
    · rw [if_neg e] at h'
      obtain ⟨h1, h2⟩ := ih _ _ _ h'
      refine ⟨by omega, ?_⟩
      rw [show j - j0 = (j - (j0 + 1)) + 1 by omega]
      exact h2
theorem pos_none : ∀ (is : List Nat) (j0 k : Nat), pos is j0 k = none → k ∉ is := by
  intro is
  induction is with
  | nil => intro j0 k h; exact List.not_mem_nil
  | cons a r ih =>
    intro j0 k h
    have h' : (if a = k then some j0 else pos r (j0 + 1) k) = none := h
    by_cases e : a = k
    · rw [if_pos e] at h'; cases h'
    · rw [if_neg e] at h'
      intro hm
      rcases List.mem_cons.mp hm with q | q
      · exact e q.symm
      · exact ih _ _ h' q
theorem fv_re (is : List Nat) (ad : Nat → Nat) (v : Nat → Int32) : ∀ (fs : List (Option Nat)) (j : Nat), fv ad v j (fs.map (fun o => o.map (io is))) = fv (fun k => ad (io is k)) v j fs := by
  intro fs
  induction fs with
  | nil => intro j; rfl
  | cons f r ih => intro j; cases f <;> simp [fv, ih]
theorem ce_re (is : List Nat) (cI cB : ClassId) (ad : Nat → Nat) (v : Nat → Int32) (sh : Shape) : ce cI cB ad v (reS is sh) = ce cI cB (fun k => ad (io is k)) v sh := by
  rcases sh with ⟨b, n⟩ | ⟨ci, fs⟩
  · rfl
  · simp [reS, ce, fv_re]
theorem cv_re (is : List Nat) (ad : Nat → Nat) (v : Value) : cv ad (re is v) = cv (fun k => ad (io is k)) v := by cases v <;> rfl
theorem io_at {is : List Nat} {k : Nat} (h : k < is.length) : is[k]? = some (io is k) := by
  unfold io
  rw [List.getD_eq_getElem?_getD, List.getElem?_eq_getElem h]; rfl
theorem Ct.emb {Λ1 Λ2 : Lay} {μ : Mt} {d : Nat} {as : List Value} {σ : Store} {Post : Option Value → Store → Prop} (is : List Nat) (hE : embB Λ1 Λ2 is = true) (h : Ct Λ1 μ d as (sub is σ) Post) : Ct Λ2 μ d (as.map (re is)) σ (fun v σ' => ∃ (w : Option Value) (τ : Store), Post w τ ∧ v = w.map (re is) ∧ σ' = over σ is τ) := by
  simp only [embB, Bool.and_eq_true, decide_eq_true_eq, List.all_eq_true, List.mem_range] at hE
  obtain ⟨⟨⟨hlen, h900⟩, hnd⟩, hall⟩ := hE
  have hsh : ∀ (k : Nat) (sh : Shape), Λ1[k]? = some sh → Λ2[io is k]? = some (reS is sh) := by
    intro k sh hk
    have hl : k < Λ1.length := (List.getElem?_eq_some_iff.mp hk).1
    rw [hall k hl, hk]; rfl
  have hin : ∀ k, k < Λ1.length → io is k < Λ2.length := by
    intro k hk
    have := hsh k _ (List.getElem?_eq_getElem hk)
    exact (List.getElem?_eq_some_iff.mp this).1
  have hinj : ∀ i j, i < Λ1.length → j < Λ1.length → io is i = io is j → i = j := by
    intro i j hi hj e
    have h1 := io_at (is := is) (k := i) (by omega)
    have h2 := io_at (is := is) (k := j) (by omega)
    rw [e] at h1
    exact (List.getElem?_inj (i := i) (by omega) hnd).mp (h1.trans h2.symm)
  intro l dC dI cI cB ad
  have hA : ∀ q, Aw Λ1 (fun k => ad (io is k)) q → Aw Λ2 ad q := fun q ⟨k, h1, h2⟩ => ⟨io is k, hin k h1, h2⟩
  refine Met.conseq (h l dC dI cI cB (fun k => ad (io is k))) ?_ ?_ hA
  · rintro a s ⟨ha, hP, hK, hAp, hRO⟩
    refine ⟨?_, ?_, hK, fun i j hi hj e => hinj i j hi hj (hAp _ _ (hin i hi) (hin j hj) e), (hRO.narrow hA).re (fun k hk => ?_)⟩
    · rw [ha, List.map_map]
      congr 1
      apply List.map_congr_left
      intro v _
      exact cv_re is ad v
    · intro k q hq
      rw [wr_get] at hq
      cases hs : Λ1[k]? with
      | none => rw [hs] at hq; cases hq
      | some sh =>
        rw [hs] at hq
        have hq' := Option.some.inj hq
        rw [← hq']
        have h2 := hP (io is k) _ (wr_at (hsh k sh hs))
        rw [ce_re] at h2
        simp only [Nat.zero_add]
        exact h2
    · have : is.length ≤ k := by omega
      show ad (is.getD k k) = ad k
      rw [List.getD_eq_getElem?_getD, List.getElem?_eq_none this]; rfl
  · rintro a s o t ⟨ha, hP, hK, hAp, hRO⟩ ⟨⟨w, τ, h1, h2, h3⟩, hz, hk⟩
    refine ⟨⟨w.map (re is), over σ is τ, ?_, ⟨w, τ, h2, rfl, rfl⟩, ?_⟩, hz, fun q h1 h2 => hk q h1 (fun z => h2 (hA q z))⟩
    · rw [h1, Option.map_map]
      congr 2
      funext v
      exact (cv_re is ad v).symm
    · intro k q hq
      rw [wr_get] at hq
      cases hs : Λ2[k]? with
      | none => rw [hs] at hq; cases hq
      | some sh =>
        rw [hs] at hq
        have hq' := Option.some.inj hq
        rw [← hq']
        simp only [Nat.zero_add]
        cases hp : pos is 0 k with
        | some j =>
          obtain ⟨-, hj⟩ := pos_some is 0 k j hp
          rw [Nat.sub_zero] at hj
          have hjl : j < is.length := (List.getElem?_eq_some_iff.mp hj).1
          have hio : io is j = k := by
            have := io_at hjl
            rw [hj] at this
            exact (Option.some.inj this).symm
          obtain ⟨sh1, hs1⟩ : ∃ sh1, Λ1[j]? = some sh1 := ⟨_, List.getElem?_eq_getElem (by omega)⟩
          have e2 := hsh j sh1 hs1
          rw [hio, hs] at e2
          have e3 : sh = reS is sh1 := Option.some.inj e2
          have h4 := h3 j _ (wr_at hs1)
          have e4 : over σ is τ k = τ j := by simp [over, hp]
          rw [e4, e3, ce_re]
          have e5 : ad k = (fun k => ad (io is k)) j := by show ad k = ad (io is j); rw [hio]
          rw [e5]
          exact h4
        | none =>
          have hn := pos_none is 0 k hp
          have e4 : over σ is τ k = σ k := by simp [over, hp]
          rw [e4]
          have h4 := hP k _ (wr_at hs)
          refine h4.kept (hk (ad k) h4.lt (fun z => ?_))
          obtain ⟨j, hj, e5⟩ := z
          have hkl : k < Λ2.length := (List.getElem?_eq_some_iff.mp hs).1
          have e6 : k = io is j := hAp k (io is j) hkl (hin j hj) e5
          apply hn
          rw [e6]
          exact List.mem_of_getElem? (io_at (by omega))
/-- contracts by the sort of their answer -/
def PI (P : Int32 → Store → Prop) : Option Value → Store → Prop := fun v σ => ∃ r, v = some (.int r) ∧ P r σ
def PL (P : Int64 → Store → Prop) : Option Value → Store → Prop := fun v σ => ∃ r, v = some (.long r) ∧ P r σ
def PV (P : Store → Prop) : Option Value → Store → Prop := fun v σ => v = none ∧ P σ
section GD
variable {Γ : MC} {X : CX} {σ : Store} {L L' : List (Option Value)} {st : List Value} {pc : Nat}
theorem g_callVI {i k ci n d : Nat} {ν : Mt} {rest : List Value} {fs : List (Option Nat)} {T : u_T} {N : Nat} {P : Int32 → Store → Prop} (As : List Value) (hd : decode Γ.2.1.2.1 pc = .ok (.invokevirtual i, 3)) (hlk : LkV Γ.2.1.1.cls i ν n) (hC : Ct Γ.1 ν d (.ref k :: As) σ (PI P)) (hn : As.length = n) (hst : st = As.reverse ++ .ref k :: rest) (hk : Γ.1[k]? = some (.inr (ci, fs))) (hci : classes[ci]? = some (ν.1.cls, T, N)) (hroom : (rest.map (fun v => v.category)).sum ≤ 8) (hdep : d < Γ.2.2) (kk : ∀ (r : Int32) (σ' : Store), P r σ' → G Γ X σ' L (.int r :: rest) (pc + 3)) : G Γ X σ L st pc :=
  g_callV hd hlk hn hst hk hci hroom hdep hC (fun v σ' h => by obtain ⟨r, rfl, h⟩ := h; exact kk r σ' h)
theorem g_callVL {i k ci n d : Nat} {ν : Mt} {rest : List Value} {fs : List (Option Nat)} {T : u_T} {N : Nat} {P : Int64 → Store → Prop} (As : List Value) (hd : decode Γ.2.1.2.1 pc = .ok (.invokevirtual i, 3)) (hlk : LkV Γ.2.1.1.cls i ν n) (hC : Ct Γ.1 ν d (.ref k :: As) σ (PL P)) (hn : As.length = n) (hst : st = As.reverse ++ .ref k :: rest) (hk : Γ.1[k]? = some (.inr (ci, fs))) (hci : classes[ci]? = some (ν.1.cls, T, N)) (hroom : (rest.map (fun v => v.category)).sum ≤ 8) (hdep : d < Γ.2.2) (kk : ∀ (r : Int64) (σ' : Store), P r σ' → G Γ X σ' L (.long r :: rest) (pc + 3)) : G Γ X σ L st pc :=
  g_callV hd hlk hn hst hk hci hroom hdep hC (fun v σ' h => by obtain ⟨r, rfl, h⟩ := h; exact kk r σ' h)
theorem g_callVV {i k ci n d : Nat} {ν : Mt} {rest : List Value} {fs : List (Option Nat)} {T : u_T} {N : Nat} {P : Store → Prop} (As : List Value) (hd : decode Γ.2.1.2.1 pc = .ok (.invokevirtual i, 3)) (hlk : LkV Γ.2.1.1.cls i ν n) (hC : Ct Γ.1 ν d (.ref k :: As) σ (PV P)) (hn : As.length = n) (hst : st = As.reverse ++ .ref k :: rest) (hk : Γ.1[k]? = some (.inr (ci, fs))) (hci : classes[ci]? = some (ν.1.cls, T, N)) (hroom : (rest.map (fun v => v.category)).sum ≤ 8) (hdep : d < Γ.2.2) (kk : ∀ (σ' : Store), P σ' → G Γ X σ' L rest (pc + 3)) : G Γ X σ L st pc :=
  g_callV hd hlk hn hst hk hci hroom hdep hC (fun v σ' h => by obtain ⟨rfl, h⟩ := h; exact kk σ' h)
theorem g_callSI {i n d : Nat} {ν : Mt} {rest : List Value} {P : Int32 → Store → Prop} (As : List Value) (hd : decode Γ.2.1.2.1 pc = .ok (.invokestatic i, 3)) (hlk : LkS Γ.2.1.1.cls i ν n) (hC : Ct Γ.1 ν d As σ (PI P)) (hn : As.length = n) (hst : st = As.reverse ++ rest) (hroom : (rest.map (fun v => v.category)).sum ≤ 8) (hdep : d < Γ.2.2) (kk : ∀ (r : Int32) (σ' : Store), P r σ' → G Γ X σ' L (.int r :: rest) (pc + 3)) : G Γ X σ L st pc :=
  g_callS hd hlk hn hst hroom hdep hC (fun v σ' h => by obtain ⟨r, rfl, h⟩ := h; exact kk r σ' h)
theorem g_callSL {i n d : Nat} {ν : Mt} {rest : List Value} {P : Int64 → Store → Prop} (As : List Value) (hd : decode Γ.2.1.2.1 pc = .ok (.invokestatic i, 3)) (hlk : LkS Γ.2.1.1.cls i ν n) (hC : Ct Γ.1 ν d As σ (PL P)) (hn : As.length = n) (hst : st = As.reverse ++ rest) (hroom : (rest.map (fun v => v.category)).sum ≤ 8) (hdep : d < Γ.2.2) (kk : ∀ (r : Int64) (σ' : Store), P r σ' → G Γ X σ' L (.long r :: rest) (pc + 3)) : G Γ X σ L st pc :=
  g_callS hd hlk hn hst hroom hdep hC (fun v σ' h => by obtain ⟨r, rfl, h⟩ := h; exact kk r σ' h)
theorem g_callSV {i n d : Nat} {ν : Mt} {rest : List Value} {P : Store → Prop} (As : List Value) (hd : decode Γ.2.1.2.1 pc = .ok (.invokestatic i, 3)) (hlk : LkS Γ.2.1.1.cls i ν n) (hC : Ct Γ.1 ν d As σ (PV P)) (hn : As.length = n) (hst : st = As.reverse ++ rest) (hroom : (rest.map (fun v => v.category)).sum ≤ 8) (hdep : d < Γ.2.2) (kk : ∀ (σ' : Store), P σ' → G Γ X σ' L rest (pc + 3)) : G Γ X σ L st pc :=
  g_callS hd hlk hn hst hroom hdep hC (fun v σ' h => by obtain ⟨rfl, h⟩ := h; exact kk σ' h)
end GD
theorem Ct.embI {Λ1 Λ2 : Lay} {μ : Mt} {d : Nat} {as as' : List Value} {σ : Store} {P : Int32 → Store → Prop} (is : List Nat) (h : Ct Λ1 μ d as (sub is σ) (PI P)) (hE : embB Λ1 Λ2 is = true) (ha : as.map (re is) = as') : Ct Λ2 μ d as' σ (PI (fun r σ' => ∃ τ, P r τ ∧ σ' = over σ is τ)) := by
  subst ha
  refine (Ct.emb is hE h).post ?_
  rintro v σ' ⟨w, τ, ⟨r, rfl, h1⟩, rfl, rfl⟩
  exact ⟨r, rfl, τ, h1, rfl⟩
theorem Ct.embV {Λ1 Λ2 : Lay} {μ : Mt} {d : Nat} {as as' : List Value} {σ : Store} {P : Store → Prop} (is : List Nat) (h : Ct Λ1 μ d as (sub is σ) (PV P)) (hE : embB Λ1 Λ2 is = true) (ha : as.map (re is) = as') : Ct Λ2 μ d as' σ (PV (fun σ' => ∃ τ, P τ ∧ σ' = over σ is τ)) := by
  subst ha
  refine (Ct.emb is hE h).post ?_
  rintro v σ' ⟨w, τ, ⟨rfl, h1⟩, rfl, rfl⟩
  exact ⟨rfl, τ, h1, rfl⟩
theorem Ct.embL {Λ1 Λ2 : Lay} {μ : Mt} {d : Nat} {as as' : List Value} {σ : Store} {P : Int64 → Store → Prop} (is : List Nat) (h : Ct Λ1 μ d as (sub is σ) (PL P)) (hE : embB Λ1 Λ2 is = true) (ha : as.map (re is) = as') : Ct Λ2 μ d as' σ (PL (fun r σ' => ∃ τ, P r τ ∧ σ' = over σ is τ)) := by
  subst ha
  refine (Ct.emb is hE h).post ?_
  rintro v σ' ⟨w, τ, ⟨r, rfl, h1⟩, rfl, rfl⟩
  exact ⟨r, rfl, τ, h1, rfl⟩
end
