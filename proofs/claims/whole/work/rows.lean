section
-- ===== PART A: goes FIRST, ahead of the names: the tables' words, and 'selects' of the private methods out of them =====
/-- a private method of a class that the tables say can be made, by its rows of tables_1 -/
def lw_okq (q : MethodName × Nat) : Prop := (q.1.cls ≠ "java/lang/invoke/MethodHandle" ∧ q.1.cls ≠ "java/lang/invoke/VarHandle") ∧ Cond.instantiable q.1.cls q.2 ∈ tables_1 ∧ Cond.privateMethod q.1 ∈ tables_1 ∧ Cond.instanceMethod q.1 ∈ tables_1
theorem lw_p0 : lw_okq (⟨"SevenAsks$House", "isPoorer", "(II)Z"⟩, 4) := ⟨⟨by decide +kernel, by decide +kernel⟩, List.mem_of_getElem? (i := 28) (by decide +kernel), List.mem_of_getElem? (i := 191) (by decide +kernel), List.mem_of_getElem? (i := 192) (by decide +kernel)⟩
theorem lw_p1 : lw_okq (⟨"SevenAsks", "withAccounts", "(J)J"⟩, 7) := ⟨⟨by decide +kernel, by decide +kernel⟩, List.mem_of_getElem? (i := 20) (by decide +kernel), List.mem_of_getElem? (i := 222) (by decide +kernel), List.mem_of_getElem? (i := 223) (by decide +kernel)⟩
theorem lw_p2 : lw_okq (⟨"SevenAsks", "accountOf", "(I)I"⟩, 7) := ⟨⟨by decide +kernel, by decide +kernel⟩, List.mem_of_getElem? (i := 20) (by decide +kernel), List.mem_of_getElem? (i := 226) (by decide +kernel), List.mem_of_getElem? (i := 227) (by decide +kernel)⟩
theorem lw_p3 : lw_okq (⟨"SevenAsks", "withBeds", "(J)J"⟩, 7) := ⟨⟨by decide +kernel, by decide +kernel⟩, List.mem_of_getElem? (i := 20) (by decide +kernel), List.mem_of_getElem? (i := 246) (by decide +kernel), List.mem_of_getElem? (i := 247) (by decide +kernel)⟩
theorem lw_p4 : lw_okq (⟨"SevenAsks", "withLodgers", "(J)J"⟩, 7) := ⟨⟨by decide +kernel, by decide +kernel⟩, List.mem_of_getElem? (i := 20) (by decide +kernel), List.mem_of_getElem? (i := 254) (by decide +kernel), List.mem_of_getElem? (i := 255) (by decide +kernel)⟩
theorem lw_p5 : lw_okq (⟨"SevenAsks$Night", "isOpenTo", "(III)Z"⟩, 2) := ⟨⟨by decide +kernel, by decide +kernel⟩, List.mem_of_getElem? (i := 34) (by decide +kernel), List.mem_of_getElem? (i := 274) (by decide +kernel), List.mem_of_getElem? (i := 275) (by decide +kernel)⟩
theorem lw_p6 : lw_okq (⟨"SevenAsks$House", "isEighth", "(I)Z"⟩, 4) := ⟨⟨by decide +kernel, by decide +kernel⟩, List.mem_of_getElem? (i := 28) (by decide +kernel), List.mem_of_getElem? (i := 299) (by decide +kernel), List.mem_of_getElem? (i := 300) (by decide +kernel)⟩
theorem lw_p7 : lw_okq (⟨"SevenAsks$House", "hasTooLittleNeed", "(I)Z"⟩, 4) := ⟨⟨by decide +kernel, by decide +kernel⟩, List.mem_of_getElem? (i := 28) (by decide +kernel), List.mem_of_getElem? (i := 303) (by decide +kernel), List.mem_of_getElem? (i := 304) (by decide +kernel)⟩
theorem lw_p8 : lw_okq (⟨"SevenAsks$BedLaying", "lay", "(II)I"⟩, 1) := ⟨⟨by decide +kernel, by decide +kernel⟩, List.mem_of_getElem? (i := 112) (by decide +kernel), List.mem_of_getElem? (i := 331) (by decide +kernel), List.mem_of_getElem? (i := 332) (by decide +kernel)⟩
theorem lw_p9 : lw_okq (⟨"SevenAsks", "withText", "(J)J"⟩, 7) := ⟨⟨by decide +kernel, by decide +kernel⟩, List.mem_of_getElem? (i := 20) (by decide +kernel), List.mem_of_getElem? (i := 351) (by decide +kernel), List.mem_of_getElem? (i := 352) (by decide +kernel)⟩
theorem lw_p10 : lw_okq (⟨"java/lang/Throwable", "fillInStackTrace", "(I)Ljava/lang/Throwable;"⟩, 6) := ⟨⟨by decide +kernel, by decide +kernel⟩, List.mem_of_getElem? (i := 413) (by decide +kernel), List.mem_of_getElem? (i := 411) (by decide +kernel), List.mem_of_getElem? (i := 412) (by decide +kernel)⟩
theorem lw_p11 : lw_okq (⟨"SevenAsks", "saveState", "()V"⟩, 7) := ⟨⟨by decide +kernel, by decide +kernel⟩, List.mem_of_getElem? (i := 20) (by decide +kernel), List.mem_of_getElem? (i := 460) (by decide +kernel), List.mem_of_getElem? (i := 461) (by decide +kernel)⟩
theorem lw_p12 : lw_okq (⟨"SevenAsks$Shelf", "houseIn", "(I)LSevenAsks$House;"⟩, 2) := ⟨⟨by decide +kernel, by decide +kernel⟩, List.mem_of_getElem? (i := 94) (by decide +kernel), List.mem_of_getElem? (i := 468) (by decide +kernel), List.mem_of_getElem? (i := 469) (by decide +kernel)⟩
theorem lw_p13 : lw_okq (⟨"SevenAsks$House", "refuse", "(II)V"⟩, 4) := ⟨⟨by decide +kernel, by decide +kernel⟩, List.mem_of_getElem? (i := 28) (by decide +kernel), List.mem_of_getElem? (i := 492) (by decide +kernel), List.mem_of_getElem? (i := 493) (by decide +kernel)⟩
theorem lw_p14 : lw_okq (⟨"SevenAsks$House", "countRefusal", "(I)V"⟩, 4) := ⟨⟨by decide +kernel, by decide +kernel⟩, List.mem_of_getElem? (i := 28) (by decide +kernel), List.mem_of_getElem? (i := 502) (by decide +kernel), List.mem_of_getElem? (i := 503) (by decide +kernel)⟩
theorem lw_p15 : lw_okq (⟨"SevenAsks$House", "grant", "(IIII)V"⟩, 4) := ⟨⟨by decide +kernel, by decide +kernel⟩, List.mem_of_getElem? (i := 28) (by decide +kernel), List.mem_of_getElem? (i := 509) (by decide +kernel), List.mem_of_getElem? (i := 510) (by decide +kernel)⟩
def lw_privs_1 : List (MethodName × Nat) := [(⟨"SevenAsks$House", "isPoorer", "(II)Z"⟩, 4), (⟨"SevenAsks", "withAccounts", "(J)J"⟩, 7), (⟨"SevenAsks", "accountOf", "(I)I"⟩, 7), (⟨"SevenAsks", "withBeds", "(J)J"⟩, 7), (⟨"SevenAsks", "withLodgers", "(J)J"⟩, 7), (⟨"SevenAsks$Night", "isOpenTo", "(III)Z"⟩, 2), (⟨"SevenAsks$House", "isEighth", "(I)Z"⟩, 4), (⟨"SevenAsks$House", "hasTooLittleNeed", "(I)Z"⟩, 4), (⟨"SevenAsks$BedLaying", "lay", "(II)I"⟩, 1), (⟨"SevenAsks", "withText", "(J)J"⟩, 7), (⟨"java/lang/Throwable", "fillInStackTrace", "(I)Ljava/lang/Throwable;"⟩, 6), (⟨"SevenAsks", "saveState", "()V"⟩, 7), (⟨"SevenAsks$Shelf", "houseIn", "(I)LSevenAsks$House;"⟩, 2), (⟨"SevenAsks$House", "refuse", "(II)V"⟩, 4), (⟨"SevenAsks$House", "countRefusal", "(I)V"⟩, 4), (⟨"SevenAsks$House", "grant", "(IIII)V"⟩, 4)]
theorem lw_r1 : ∀ q ∈ lw_privs_1, lw_okq q := List.forall_mem_cons.mpr ⟨lw_p0, List.forall_mem_cons.mpr ⟨lw_p1, List.forall_mem_cons.mpr ⟨lw_p2, List.forall_mem_cons.mpr ⟨lw_p3, List.forall_mem_cons.mpr ⟨lw_p4, List.forall_mem_cons.mpr ⟨lw_p5, List.forall_mem_cons.mpr ⟨lw_p6, List.forall_mem_cons.mpr ⟨lw_p7, List.forall_mem_cons.mpr ⟨lw_p8, List.forall_mem_cons.mpr ⟨lw_p9, List.forall_mem_cons.mpr ⟨lw_p10, List.forall_mem_cons.mpr ⟨lw_p11, List.forall_mem_cons.mpr ⟨lw_p12, List.forall_mem_cons.mpr ⟨lw_p13, List.forall_mem_cons.mpr ⟨lw_p14, List.forall_mem_cons.mpr ⟨lw_p15, fun _ h => absurd h List.not_mem_nil⟩⟩⟩⟩⟩⟩⟩⟩⟩⟩⟩⟩⟩⟩⟩⟩
theorem lw_p16 : lw_okq (⟨"SevenAsks$House", "countPutOut", "(I)V"⟩, 4) := ⟨⟨by decide +kernel, by decide +kernel⟩, List.mem_of_getElem? (i := 28) (by decide +kernel), List.mem_of_getElem? (i := 513) (by decide +kernel), List.mem_of_getElem? (i := 514) (by decide +kernel)⟩
theorem lw_p17 : lw_okq (⟨"SevenAsks", "doText", "()I"⟩, 7) := ⟨⟨by decide +kernel, by decide +kernel⟩, List.mem_of_getElem? (i := 20) (by decide +kernel), List.mem_of_getElem? (i := 659) (by decide +kernel), List.mem_of_getElem? (i := 660) (by decide +kernel)⟩
theorem lw_p18 : lw_okq (⟨"SevenAsks", "canDo", "(I)Z"⟩, 7) := ⟨⟨by decide +kernel, by decide +kernel⟩, List.mem_of_getElem? (i := 20) (by decide +kernel), List.mem_of_getElem? (i := 663) (by decide +kernel), List.mem_of_getElem? (i := 664) (by decide +kernel)⟩
theorem lw_p19 : lw_okq (⟨"SevenAsksModel", "holds", "(I)Z"⟩, 16) := ⟨⟨by decide +kernel, by decide +kernel⟩, List.mem_of_getElem? (i := 770) (by decide +kernel), List.mem_of_getElem? (i := 845) (by decide +kernel), List.mem_of_getElem? (i := 846) (by decide +kernel)⟩
theorem lw_p20 : lw_okq (⟨"SevenAsksModel", "save", "()V"⟩, 16) := ⟨⟨by decide +kernel, by decide +kernel⟩, List.mem_of_getElem? (i := 770) (by decide +kernel), List.mem_of_getElem? (i := 849) (by decide +kernel), List.mem_of_getElem? (i := 850) (by decide +kernel)⟩
theorem lw_p21 : lw_okq (⟨"SevenAsksModel", "asks", "(III)I"⟩, 16) := ⟨⟨by decide +kernel, by decide +kernel⟩, List.mem_of_getElem? (i := 770) (by decide +kernel), List.mem_of_getElem? (i := 853) (by decide +kernel), List.mem_of_getElem? (i := 854) (by decide +kernel)⟩
theorem lw_p22 : lw_okq (⟨"SevenAsksModel", "hindrance", "(III)I"⟩, 16) := ⟨⟨by decide +kernel, by decide +kernel⟩, List.mem_of_getElem? (i := 770) (by decide +kernel), List.mem_of_getElem? (i := 857) (by decide +kernel), List.mem_of_getElem? (i := 858) (by decide +kernel)⟩
theorem lw_p23 : lw_okq (⟨"SevenAsksModel", "hasBed", "(III)Z"⟩, 16) := ⟨⟨by decide +kernel, by decide +kernel⟩, List.mem_of_getElem? (i := 770) (by decide +kernel), List.mem_of_getElem? (i := 861) (by decide +kernel), List.mem_of_getElem? (i := 862) (by decide +kernel)⟩
theorem lw_p24 : lw_okq (⟨"SevenAsksModel", "bedOf", "(II)I"⟩, 16) := ⟨⟨by decide +kernel, by decide +kernel⟩, List.mem_of_getElem? (i := 770) (by decide +kernel), List.mem_of_getElem? (i := 865) (by decide +kernel), List.mem_of_getElem? (i := 866) (by decide +kernel)⟩
theorem lw_p25 : lw_okq (⟨"SevenAsksModel", "emptiest", "(II)I"⟩, 16) := ⟨⟨by decide +kernel, by decide +kernel⟩, List.mem_of_getElem? (i := 770) (by decide +kernel), List.mem_of_getElem? (i := 872) (by decide +kernel), List.mem_of_getElem? (i := 873) (by decide +kernel)⟩
theorem lw_p26 : lw_okq (⟨"SevenAsksModel", "lentIn", "(III)I"⟩, 16) := ⟨⟨by decide +kernel, by decide +kernel⟩, List.mem_of_getElem? (i := 770) (by decide +kernel), List.mem_of_getElem? (i := 876) (by decide +kernel), List.mem_of_getElem? (i := 877) (by decide +kernel)⟩
theorem lw_p27 : lw_okq (⟨"SevenAsksModel", "putsOut", "(II)V"⟩, 16) := ⟨⟨by decide +kernel, by decide +kernel⟩, List.mem_of_getElem? (i := 770) (by decide +kernel), List.mem_of_getElem? (i := 880) (by decide +kernel), List.mem_of_getElem? (i := 881) (by decide +kernel)⟩
theorem lw_p28 : lw_okq (⟨"SevenAsksModel", "frees", "(III)V"⟩, 16) := ⟨⟨by decide +kernel, by decide +kernel⟩, List.mem_of_getElem? (i := 770) (by decide +kernel), List.mem_of_getElem? (i := 884) (by decide +kernel), List.mem_of_getElem? (i := 885) (by decide +kernel)⟩
theorem lw_p29 : lw_okq (⟨"SevenAsksModel", "refuses", "()I"⟩, 16) := ⟨⟨by decide +kernel, by decide +kernel⟩, List.mem_of_getElem? (i := 770) (by decide +kernel), List.mem_of_getElem? (i := 892) (by decide +kernel), List.mem_of_getElem? (i := 893) (by decide +kernel)⟩
theorem lw_p30 : lw_okq (⟨"SevenAsksModel", "becomes", "(II)I"⟩, 16) := ⟨⟨by decide +kernel, by decide +kernel⟩, List.mem_of_getElem? (i := 770) (by decide +kernel), List.mem_of_getElem? (i := 904) (by decide +kernel), List.mem_of_getElem? (i := 905) (by decide +kernel)⟩
theorem lw_p31 : lw_okq (⟨"SevenAsksModel", "passes", "()I"⟩, 16) := ⟨⟨by decide +kernel, by decide +kernel⟩, List.mem_of_getElem? (i := 770) (by decide +kernel), List.mem_of_getElem? (i := 912) (by decide +kernel), List.mem_of_getElem? (i := 913) (by decide +kernel)⟩
def lw_privs_2 : List (MethodName × Nat) := [(⟨"SevenAsks$House", "countPutOut", "(I)V"⟩, 4), (⟨"SevenAsks", "doText", "()I"⟩, 7), (⟨"SevenAsks", "canDo", "(I)Z"⟩, 7), (⟨"SevenAsksModel", "holds", "(I)Z"⟩, 16), (⟨"SevenAsksModel", "save", "()V"⟩, 16), (⟨"SevenAsksModel", "asks", "(III)I"⟩, 16), (⟨"SevenAsksModel", "hindrance", "(III)I"⟩, 16), (⟨"SevenAsksModel", "hasBed", "(III)Z"⟩, 16), (⟨"SevenAsksModel", "bedOf", "(II)I"⟩, 16), (⟨"SevenAsksModel", "emptiest", "(II)I"⟩, 16), (⟨"SevenAsksModel", "lentIn", "(III)I"⟩, 16), (⟨"SevenAsksModel", "putsOut", "(II)V"⟩, 16), (⟨"SevenAsksModel", "frees", "(III)V"⟩, 16), (⟨"SevenAsksModel", "refuses", "()I"⟩, 16), (⟨"SevenAsksModel", "becomes", "(II)I"⟩, 16), (⟨"SevenAsksModel", "passes", "()I"⟩, 16)]
theorem lw_r2 : ∀ q ∈ lw_privs_2, lw_okq q := List.forall_mem_cons.mpr ⟨lw_p16, List.forall_mem_cons.mpr ⟨lw_p17, List.forall_mem_cons.mpr ⟨lw_p18, List.forall_mem_cons.mpr ⟨lw_p19, List.forall_mem_cons.mpr ⟨lw_p20, List.forall_mem_cons.mpr ⟨lw_p21, List.forall_mem_cons.mpr ⟨lw_p22, List.forall_mem_cons.mpr ⟨lw_p23, List.forall_mem_cons.mpr ⟨lw_p24, List.forall_mem_cons.mpr ⟨lw_p25, List.forall_mem_cons.mpr ⟨lw_p26, List.forall_mem_cons.mpr ⟨lw_p27, List.forall_mem_cons.mpr ⟨lw_p28, List.forall_mem_cons.mpr ⟨lw_p29, List.forall_mem_cons.mpr ⟨lw_p30, List.forall_mem_cons.mpr ⟨lw_p31, fun _ h => absurd h List.not_mem_nil⟩⟩⟩⟩⟩⟩⟩⟩⟩⟩⟩⟩⟩⟩⟩⟩
theorem lw_p32 : lw_okq (⟨"SevenAsksModel", "goesThrough", "(Z)I"⟩, 16) := ⟨⟨by decide +kernel, by decide +kernel⟩, List.mem_of_getElem? (i := 770) (by decide +kernel), List.mem_of_getElem? (i := 932) (by decide +kernel), List.mem_of_getElem? (i := 933) (by decide +kernel)⟩
theorem lw_p33 : lw_okq (⟨"SevenAsksModel", "readOne", "()V"⟩, 16) := ⟨⟨by decide +kernel, by decide +kernel⟩, List.mem_of_getElem? (i := 770) (by decide +kernel), List.mem_of_getElem? (i := 936) (by decide +kernel), List.mem_of_getElem? (i := 937) (by decide +kernel)⟩
theorem lw_p34 : lw_okq (⟨"SevenAsksModel", "isNext", "(II)Z"⟩, 16) := ⟨⟨by decide +kernel, by decide +kernel⟩, List.mem_of_getElem? (i := 770) (by decide +kernel), List.mem_of_getElem? (i := 940) (by decide +kernel), List.mem_of_getElem? (i := 941) (by decide +kernel)⟩
theorem lw_p35 : lw_okq (⟨"SevenAsksModel", "takes", "(II)I"⟩, 16) := ⟨⟨by decide +kernel, by decide +kernel⟩, List.mem_of_getElem? (i := 770) (by decide +kernel), List.mem_of_getElem? (i := 944) (by decide +kernel), List.mem_of_getElem? (i := 945) (by decide +kernel)⟩
theorem lw_p36 : lw_okq (⟨"SevenAsksModel", "isPossible", "()Z"⟩, 16) := ⟨⟨by decide +kernel, by decide +kernel⟩, List.mem_of_getElem? (i := 770) (by decide +kernel), List.mem_of_getElem? (i := 948) (by decide +kernel), List.mem_of_getElem? (i := 949) (by decide +kernel)⟩
theorem lw_p37 : lw_okq (⟨"SevenAsksModel", "does", "()I"⟩, 16) := ⟨⟨by decide +kernel, by decide +kernel⟩, List.mem_of_getElem? (i := 770) (by decide +kernel), List.mem_of_getElem? (i := 952) (by decide +kernel), List.mem_of_getElem? (i := 953) (by decide +kernel)⟩
theorem lw_p38 : lw_okq (⟨"SevenAsksModel", "lent", "()I"⟩, 16) := ⟨⟨by decide +kernel, by decide +kernel⟩, List.mem_of_getElem? (i := 770) (by decide +kernel), List.mem_of_getElem? (i := 964) (by decide +kernel), List.mem_of_getElem? (i := 965) (by decide +kernel)⟩
theorem lw_p39 : lw_okq (⟨"SevenAsksModel", "ofLodger", "(II)I"⟩, 16) := ⟨⟨by decide +kernel, by decide +kernel⟩, List.mem_of_getElem? (i := 770) (by decide +kernel), List.mem_of_getElem? (i := 984) (by decide +kernel), List.mem_of_getElem? (i := 985) (by decide +kernel)⟩
theorem lw_p40 : lw_okq (⟨"SevenAsksModel", "lentTo", "(I)I"⟩, 16) := ⟨⟨by decide +kernel, by decide +kernel⟩, List.mem_of_getElem? (i := 770) (by decide +kernel), List.mem_of_getElem? (i := 988) (by decide +kernel), List.mem_of_getElem? (i := 989) (by decide +kernel)⟩
theorem lw_p41 : lw_okq (⟨"SevenAsksModel", "counted", "(I)I"⟩, 16) := ⟨⟨by decide +kernel, by decide +kernel⟩, List.mem_of_getElem? (i := 770) (by decide +kernel), List.mem_of_getElem? (i := 996) (by decide +kernel), List.mem_of_getElem? (i := 997) (by decide +kernel)⟩
theorem lw_p42 : lw_okq (⟨"SevenAsksModel", "slept", "()I"⟩, 16) := ⟨⟨by decide +kernel, by decide +kernel⟩, List.mem_of_getElem? (i := 770) (by decide +kernel), List.mem_of_getElem? (i := 1000) (by decide +kernel), List.mem_of_getElem? (i := 1001) (by decide +kernel)⟩
theorem lw_p43 : lw_okq (⟨"SevenAsksModel", "would", "(III)I"⟩, 16) := ⟨⟨by decide +kernel, by decide +kernel⟩, List.mem_of_getElem? (i := 770) (by decide +kernel), List.mem_of_getElem? (i := 1012) (by decide +kernel), List.mem_of_getElem? (i := 1013) (by decide +kernel)⟩
theorem lw_p44 : lw_okq (⟨"SevenAsksModel", "mostAtOnce", "()I"⟩, 16) := ⟨⟨by decide +kernel, by decide +kernel⟩, List.mem_of_getElem? (i := 770) (by decide +kernel), List.mem_of_getElem? (i := 1024) (by decide +kernel), List.mem_of_getElem? (i := 1025) (by decide +kernel)⟩
theorem lw_p45 : lw_okq (⟨"SevenAsksModel", "longestFor", "(II)I"⟩, 16) := ⟨⟨by decide +kernel, by decide +kernel⟩, List.mem_of_getElem? (i := 770) (by decide +kernel), List.mem_of_getElem? (i := 1032) (by decide +kernel), List.mem_of_getElem? (i := 1033) (by decide +kernel)⟩
theorem lw_p46 : lw_okq (⟨"SevenAsksModel", "refusedMost", "()I"⟩, 16) := ⟨⟨by decide +kernel, by decide +kernel⟩, List.mem_of_getElem? (i := 770) (by decide +kernel), List.mem_of_getElem? (i := 1040) (by decide +kernel), List.mem_of_getElem? (i := 1041) (by decide +kernel)⟩
theorem lw_p47 : lw_okq (⟨"SevenAsksModel", "share", "()D"⟩, 16) := ⟨⟨by decide +kernel, by decide +kernel⟩, List.mem_of_getElem? (i := 770) (by decide +kernel), List.mem_of_getElem? (i := 1048) (by decide +kernel), List.mem_of_getElem? (i := 1049) (by decide +kernel)⟩
def lw_privs_3 : List (MethodName × Nat) := [(⟨"SevenAsksModel", "goesThrough", "(Z)I"⟩, 16), (⟨"SevenAsksModel", "readOne", "()V"⟩, 16), (⟨"SevenAsksModel", "isNext", "(II)Z"⟩, 16), (⟨"SevenAsksModel", "takes", "(II)I"⟩, 16), (⟨"SevenAsksModel", "isPossible", "()Z"⟩, 16), (⟨"SevenAsksModel", "does", "()I"⟩, 16), (⟨"SevenAsksModel", "lent", "()I"⟩, 16), (⟨"SevenAsksModel", "ofLodger", "(II)I"⟩, 16), (⟨"SevenAsksModel", "lentTo", "(I)I"⟩, 16), (⟨"SevenAsksModel", "counted", "(I)I"⟩, 16), (⟨"SevenAsksModel", "slept", "()I"⟩, 16), (⟨"SevenAsksModel", "would", "(III)I"⟩, 16), (⟨"SevenAsksModel", "mostAtOnce", "()I"⟩, 16), (⟨"SevenAsksModel", "longestFor", "(II)I"⟩, 16), (⟨"SevenAsksModel", "refusedMost", "()I"⟩, 16), (⟨"SevenAsksModel", "share", "()D"⟩, 16)]
theorem lw_r3 : ∀ q ∈ lw_privs_3, lw_okq q := List.forall_mem_cons.mpr ⟨lw_p32, List.forall_mem_cons.mpr ⟨lw_p33, List.forall_mem_cons.mpr ⟨lw_p34, List.forall_mem_cons.mpr ⟨lw_p35, List.forall_mem_cons.mpr ⟨lw_p36, List.forall_mem_cons.mpr ⟨lw_p37, List.forall_mem_cons.mpr ⟨lw_p38, List.forall_mem_cons.mpr ⟨lw_p39, List.forall_mem_cons.mpr ⟨lw_p40, List.forall_mem_cons.mpr ⟨lw_p41, List.forall_mem_cons.mpr ⟨lw_p42, List.forall_mem_cons.mpr ⟨lw_p43, List.forall_mem_cons.mpr ⟨lw_p44, List.forall_mem_cons.mpr ⟨lw_p45, List.forall_mem_cons.mpr ⟨lw_p46, List.forall_mem_cons.mpr ⟨lw_p47, fun _ h => absurd h List.not_mem_nil⟩⟩⟩⟩⟩⟩⟩⟩⟩⟩⟩⟩⟩⟩⟩⟩
theorem lw_p48 : lw_okq (⟨"SevenAsksModel", "digestOne", "(J)V"⟩, 16) := ⟨⟨by decide +kernel, by decide +kernel⟩, List.mem_of_getElem? (i := 770) (by decide +kernel), List.mem_of_getElem? (i := 1058) (by decide +kernel), List.mem_of_getElem? (i := 1059) (by decide +kernel)⟩
theorem lw_p49 : lw_okq (⟨"SevenAsksModel", "digestLodger", "(I)V"⟩, 16) := ⟨⟨by decide +kernel, by decide +kernel⟩, List.mem_of_getElem? (i := 770) (by decide +kernel), List.mem_of_getElem? (i := 1063) (by decide +kernel), List.mem_of_getElem? (i := 1064) (by decide +kernel)⟩
def lw_privs_4 : List (MethodName × Nat) := [(⟨"SevenAsksModel", "digestOne", "(J)V"⟩, 16), (⟨"SevenAsksModel", "digestLodger", "(I)V"⟩, 16)]
theorem lw_r4 : ∀ q ∈ lw_privs_4, lw_okq q := List.forall_mem_cons.mpr ⟨lw_p48, List.forall_mem_cons.mpr ⟨lw_p49, fun _ h => absurd h List.not_mem_nil⟩⟩
def lw_privs : List (MethodName × Nat) := lw_privs_1 ++ (lw_privs_2 ++ (lw_privs_3 ++ (lw_privs_4)))
def lw_tbl : List Cond := k2_sels lw_privs ++ tables_1
theorem lw_privs_ok : ∀ q ∈ lw_privs, lw_okq q := by
  show ∀ q ∈ lw_privs_1 ++ (lw_privs_2 ++ (lw_privs_3 ++ (lw_privs_4))), lw_okq q
  exact List.forall_mem_append.mpr ⟨lw_r1, List.forall_mem_append.mpr ⟨lw_r2, List.forall_mem_append.mpr ⟨lw_r3, lw_r4⟩⟩⟩
/-- the streams that the claim lets the run draw from -/
abbrev lw_cs : List Choice := [Jvm.Choice.named "NaN.bits"]
theorem lw_bits : nanBits ∈ lw_cs := by first | decide | exact List.mem_cons_self | simp [lw_cs, nanBits]
-- ===== end of PART A; then your names; then what follows =====
/-! ===== BEGIN words of one list among another's, by their places ===== -/
theorem goodIn_r {big : List Cond} (ws : List Cond) (ps : List Nat) (hp : ws = ps.filterMap (fun i => big[i]?)) (h : ws.all goodWord = true) : GoodIn big ws := by
  intro w hw
  have h1 := List.all_eq_true.mp h w hw
  rw [hp] at hw
  obtain ⟨i, -, hi⟩ := List.mem_filterMap.mp hw
  have hm : w ∈ big := by first | exact List.mem_of_getElem? hi | exact List.getElem?_mem hi
  exact ⟨hm, good_of_word h1⟩
theorem goodIn_app {big a b : List Cond} (ha : GoodIn big a) (hb : GoodIn big b) : GoodIn big (a ++ b) := fun w h => (List.mem_append.mp h).elim (ha w) (hb w)
theorem goodIn_ca {big a b : List Cond} {c : Cond} (ha : GoodIn big (c :: a)) (hb : GoodIn big b) : GoodIn big (c :: (a ++ b)) := fun w h => (List.mem_cons.mp h).elim (fun e => ha w (List.mem_cons.mpr (Or.inl e))) (fun h => (List.mem_append.mp h).elim (fun h => ha w (List.mem_cons.mpr (Or.inr h))) (hb w))
theorem goodIn_sub {big ws : List Cond} (hm : ∀ w ∈ ws, w ∈ big) (h : ws.all goodWord = true) : GoodIn big ws := fun w hw => ⟨hm w hw, good_of_word (List.all_eq_true.mp h w hw)⟩
/-! ===== END ===== -/

/-! ===== BEGIN exceptions that leave a method, and their catching by the caller (launches without stack traces) ===== -/
section VXA
/-! The laws vx_back, vx_callV, vx_callS, vx_callSW, vx_throw0, vx_throwS follow proofs of the library, with one case more: JvmDerived/Free/Laws.lean (Back.of_free), Shelf42/LK1.lean (callV, callS), Shelf/KitTraced.lean (throwNew0V, throwNewS). -/
/-- where a method has thrown q: the class by its name, the cell, what was written, the world -/
def vx_T (XC : String → State → State → Prop) (st : State) (q : Addr) (t : State) (mc ms : Nat) (free : Addr → Prop) : Prop :=
  ∃ (E : String) (ce : Cell) (L : List Loc), XC E st t ∧ t.heap[q]? = some ce ∧ ce.vm = .none ∧ st.vm.findClass E = some ce.cls ∧ st.WarmedH t.vm ∧ st.sameButNew ({ t with vm := st.vm } : State) L mc ms ∧ ∀ z ∈ L, free z.base
def vx_Q (Qc : Array Value → State → Outcome → State → Prop) (XC : String → State → State → Prop) (mc ms : Nat) (free : Addr → Prop) : Array Value → State → Outcome → State → Prop := fun a st o t =>
  (Qc a st o t ∧ ∃ L, FrameEnd st o t L mc ms ∧ ∀ q ∈ L, free q.base) ∨ ∃ q, o = .threw q ∧ vx_T XC st q t mc ms free
/-- a callee that returns or throws -/
def vx_Met (l : Launch) (y : MethodName) (ws : List Cond) (rm : Room) (Pc : Array Value → State → Prop) (Qc : Array Value → State → Outcome → State → Prop) (XC : String → State → State → Prop) (mc ms : Nat) (free : Addr → Prop) : Prop :=
  MetFree l y (headSpec ws rm) Pc (fun _ _ _ _ _ => True) (vx_Q Qc XC mc ms free)
def vx_Post (XC : String → State → State → Prop) (mc ms : Nat) (free : Addr → Prop) : Pt → Array Value → Addr → Pt → Prop := fun A a q B =>
  ∃ (g : JFrame) (mk : MethodId) (t : State) (L : List Loc) (E : String) (ce : Cell), B.U.heap = t.heap ∧ B.U.vm = t.vm ∧ XC E (A.U.calling g mk a) t ∧ t.heap[q]? = some ce ∧ ce.vm = .none ∧ A.U.vm.findClass E = some ce.cls ∧ B.locs = A.locs ++ L ∧ (∀ z ∈ L, free z.base) ∧ B.cells = A.cells + mc ∧ B.slots = A.slots + ms
def vx_Back (l : Launch) (R : Room) (p : Program) (e : Env) (below : List Frame) (s : State) (sargs : Array Value) (y : MethodName) (len W9 : Nat)
    (Pre : Pt → Array Value → Prop) (Post : Pt → Array Value → Option Value → Pt → Prop) (PostX : Pt → Array Value → Addr → Pt → Prop) : Prop :=
  ∀ (m : MethodId) (meth : Method) (c : Code) (A : Pt) (g : JFrame) (ig : Instr) (mk : MethodId) (a : Array Value),
    Stand p l e R s m sargs below meth c A.U A.locs A.cells A.slots → g.method = m → g.locals.size = c.maxLocals → decode c.code g.pc = .ok (ig, len) →
    2 * g.monitorRoom + (g.stack.map fun v => v.category).sum ≤ W9 → A.U.methodNamed? y = some mk → Pre A a →
    (∃ (v : Option Value) (B : Pt), Stand p l e R s m sargs below meth c B.U B.locs B.cells B.slots ∧ Post A a v B ∧
      Steps p.tables e below (doInvoke e (A.U.setTop g) [] mk a).1 (B.U.setTop { g with pc := g.pc + len, stack := v.toList ++ g.stack })) ∨
    (∃ (q : Addr) (B : Pt), Stand p l e R s m sargs below meth c B.U B.locs B.cells B.slots ∧ PostX A a q B ∧
      Steps p.tables e below (doInvoke e (A.U.setTop g) [] mk a).1 ((B.U.setTop g).pushFrame (.throwing q)))
section Payer
variable {l : Launch} {R : Room} {p : Program} {e : Env} {below : List Frame} {s : State} {sargs : Array Value} {y : MethodName} {len W9 : Nat}
theorem vx_back {ws : List Cond} {rm : Room} {Pc : Array Value → State → Prop} {Qc : Array Value → State → Outcome → State → Prop} {XC : String → State → State → Prop} {mc ms : Nat} {free : Addr → Prop} {bytes : ByteArray} {maxL : Nat} {ret : Option FieldType}
    (hM : vx_Met l y ws rm Pc Qc XC mc ms free) (hblind : FrameBlind Pc) (hrc : rm.cells = mc) (hrs : rm.slots = ms)
    (hframes : rm.frames + 1 ≤ R.frames) (hlocals : W9 + (maxL + 11) + rm.locals ≤ R.locals)
    (hws : ∀ w ∈ ws, ∀ a' U, s.WarmedH U.vm → w.before a' U = true) (hcode : Cond.code y bytes maxL ret ∈ ws) (hinit : ∀ a' U, s.WarmedH U.vm → (Cond.initialized y.cls).before a' U = true) :
    vx_Back l R p e below s sargs y len W9 (PreOf R mc ms Pc) (PostOf Qc mc ms free) (vx_Post XC mc ms free) := by
  intro m meth c A g ig mk a X hg hsize hdg hW hn hp
  have h1 : (headSpec ws rm).pre.before a A.U = true := atoms_intro fun w hw => hws w hw _ _ X.warmed
  have h2 : (Cond.code y bytes maxL ret).before a A.U = true := hws _ hcode _ _ X.warmed
  have h3 : (Cond.initialized y.cls).before a A.U = true := hinit _ _ X.warmed
  have h4 : A.cells + (headSpec ws rm).room.cells ≤ R.cells := by rw [show (headSpec ws rm).room.cells = mc from hrc]; exact hp.1
  have h5 : A.slots + (headSpec ws rm).room.slots ≤ R.slots := by rw [show (headSpec ws rm).room.slots = ms from hrs]; exact hp.2.1
  have hPc : Pc a (A.U.calling g mk a) := hblind _ _ _ _ hp.2.2
  obtain ⟨U, Ls, c0, s0⟩ := A
  dsimp only [Pt.U, Pt.locs, Pt.cells, Pt.slots] at h1 h2 h3 h4 h5 X hn hPc ⊢
  obtain ⟨methY, cY, hmY, hcY, -, hlY, -, -, -, -⟩ := Cond.code_spec hn h2
  obtain ⟨kY, hkY, -⟩ := className_of_methodNamed hn
  have hinitY : kY.init = .initialized := Cond.initialized_spec (findClass_of_methodNamed hn) hkY h3
  have h : At U g.method c below := by rw [hg]; exact X.here
  have hlocals9 : W9 + (maxL + 11) + (headSpec ws rm).room.locals ≤ R.locals := hlocals
  have happ : (headSpec ws rm).appliesLoose y e.platform (U.calling g mk a) = true :=
    Spec.appliesLoose_calling (g := g) h hdg hn hkY hinitY
      (X.room_calling (g := g) (R' := (headSpec ws rm).room) hsize hmY hcY hframes (by rw [hlY]; omega) h4 h5) h1
  obtain ⟨mid, hmid⟩ := h.above
  have hfr : (U.setTop g).frames = (.java g :: mid) ++ below := by rw [State.frames_setTop' g h.top, hmid]; rfl
  obtain ⟨o, s₂, hsteps, -, hend, hq⟩ := Steps.callFree hM p X.admits X.cas X.clock (acts := []) hfr happ hPc trivial
  have hq' : vx_Q Qc XC mc ms free a (U.calling g mk a) o s₂ := hq
  rw [State.frames_setTop' g h.top] at hend
  obtain ⟨g₀, hg0⟩ := Option.isSome_iff_exists.mp h.top
  obtain ⟨r, hr⟩ := State.topJava?_eq_some.mp hg0
  have hr' : (({ U with heap := s₂.heap, slotsUsed := s₂.slotsUsed } : State).setVm s₂.vm).frames = .java g₀ :: r := hr
  rcases hq' with ⟨hqc, L, hfe, hL⟩ | ⟨q, rfl, E, ce, L, hx, hce, hcv, hcl, hW₂, hsm, hL⟩
  · obtain ⟨⟨v, rfl⟩, hW₂, e2, q2, q3, q4, q5, q6⟩ := id hfe
    have e3 : s₂ = ({ (U.calling g mk a).setFrames s₂.frames with heap := s₂.heap, slotsUsed := s₂.slotsUsed } : State).setVm s₂.vm := by
      have : s₂ = ({ s₂ with vm := (U.calling g mk a).vm } : State).setVm s₂.vm := rfl
      rw [e2] at this
      exact this
    obtain ⟨c₂, i₂, len₂, hc₂, hd₂, hf₂⟩ := hend
    have hW' : U.WarmedH s₂.vm := hW₂
    have hcc : c₂ = c := by
      have h1 : s₂.code? g.method = U.code? g.method := by
        rw [State.code?_eq, State.code?_eq, hW'.alike.method?]
      exact Option.some.inj (hc₂.symm.trans (h1.trans h.code))
    subst hcc
    have hlen : len₂ = len := by rw [hdg] at hd₂; cases hd₂; rfl
    subst hlen
    have hs₂ : s₂ = (({ U with heap := s₂.heap, slotsUsed := s₂.slotsUsed } : State).setVm s₂.vm).setTop { g with pc := g.pc + len₂, stack := v.toList ++ g.stack } := by
      refine e3.trans ?_
      rw [hf₂, State.calling_eq h.top, State.setFrames_setFrames, State.setTop_of_frames _ hr', hr]
      rfl
    have hsame : U.sameButNew ({ U with heap := s₂.heap, slotsUsed := s₂.slotsUsed } : State) L mc ms := by
      refine ⟨?_, q2, q3, q4, q5, q6⟩
      obtain ⟨t, ht, -⟩ := State.frames_cons hr
      show ({ U with heap := s₂.heap, slotsUsed := s₂.slotsUsed } : State) = { U.setFrames U.frames with heap := s₂.heap, slotsUsed := s₂.slotsUsed }
      rw [State.setFrames_self ht]
    subst hg
    refine Or.inl ⟨v, ⟨(({ U with heap := s₂.heap, slotsUsed := s₂.slotsUsed } : State).setVm s₂.vm), Ls ++ L, c0 + mc, s0 + ms⟩,
      ⟨X.admits, X.cas, X.clock, X.frames, X.room, X.hears, X.method, X.code, (X.here.setHeapUsed s₂.heap s₂.slotsUsed).setVm hW'.alike, X.tail, State.WarmedH.trans X.warmed hW', X.limits, X.bytes, X.same.trans (hsame.setVm s.vm)⟩,
      ⟨g, mk, s₂, L, rfl, rfl, hqc, rfl, hL, rfl, rfl⟩, ?_⟩
    show Steps p.tables e below _ ((({ U with heap := s₂.heap, slotsUsed := s₂.slotsUsed } : State).setVm s₂.vm).setTop { g with pc := g.pc + len₂, stack := v.toList ++ g.stack })
    rw [← hs₂]
    exact hsteps
  · obtain ⟨e2, q2, q3, q4, q5, q6⟩ := id hsm
    have e3 : s₂ = ({ (U.calling g mk a).setFrames s₂.frames with heap := s₂.heap, slotsUsed := s₂.slotsUsed } : State).setVm s₂.vm := by
      have : s₂ = ({ s₂ with vm := (U.calling g mk a).vm } : State).setVm s₂.vm := rfl
      rw [e2] at this
      exact this
    have hf₂ : s₂.frames = .throwing q :: .java g :: U.frames.tail := hend
    have hW' : U.WarmedH s₂.vm := hW₂
    have hs₂ : s₂ = ((({ U with heap := s₂.heap, slotsUsed := s₂.slotsUsed } : State).setVm s₂.vm).setTop g).pushFrame (.throwing q) := by
      refine e3.trans ?_
      rw [hf₂, State.calling_eq h.top, State.setFrames_setFrames, State.pushFrame, State.frames_setTop _ hr', State.setTop_of_frames _ hr', State.setFrames_setFrames, hr]
      rfl
    have hsame : U.sameButNew ({ U with heap := s₂.heap, slotsUsed := s₂.slotsUsed } : State) L mc ms := by
      refine ⟨?_, q2, q3, q4, q5, q6⟩
      obtain ⟨t, ht, -⟩ := State.frames_cons hr
      show ({ U with heap := s₂.heap, slotsUsed := s₂.slotsUsed } : State) = { U.setFrames U.frames with heap := s₂.heap, slotsUsed := s₂.slotsUsed }
      rw [State.setFrames_self ht]
    subst hg
    refine Or.inr ⟨q, ⟨(({ U with heap := s₂.heap, slotsUsed := s₂.slotsUsed } : State).setVm s₂.vm), Ls ++ L, c0 + mc, s0 + ms⟩,
      ⟨X.admits, X.cas, X.clock, X.frames, X.room, X.hears, X.method, X.code, (X.here.setHeapUsed s₂.heap s₂.slotsUsed).setVm hW'.alike, X.tail, State.WarmedH.trans X.warmed hW', X.limits, X.bytes, X.same.trans (hsame.setVm s.vm)⟩,
      ⟨g, mk, s₂, L, E, ce, rfl, rfl, hx, hce, hcv, hcl, rfl, hL, rfl, rfl⟩, ?_⟩
    show Steps p.tables e below _ (((({ U with heap := s₂.heap, slotsUsed := s₂.slotsUsed } : State).setVm s₂.vm).setTop g).pushFrame (.throwing q))
    rw [← hs₂]
    exact hsteps
end Payer
section Calls
variable {p : Program} {l : Launch} {e : Env} {R : Room} {s : State} {m : MethodId} {args : Array Value} {below : List Frame} {meth : Method} {c : Code} {T : State} {locs : List Loc} {cells slots : Nat}
theorem vx_callV (X : Stand p l e R s m args below meth c T locs cells slots) (hexec : p.tables.exec = Jvm.exec) {own C : String} {index : Nat} {y : MethodName} {bytes : ByteArray} {maxL : Nat} {ret : Option FieldType}
    (hown : s.vm.findClass own = some m.cls) (hlink : (Cond.methodLink own index y).before args s = true) (hinst : (Cond.instanceMethod y).before args s = true) (hsel : (Cond.selects C y y).before args s = true)
    (hcode : (Cond.code y bytes maxL ret).before args s = true) (hy : y.cls ≠ "java/lang/invoke/MethodHandle" ∧ y.cls ≠ "java/lang/invoke/VarHandle")
    {W9 : Nat} {Pre : Pt → Array Value → Prop} {Post : Pt → Array Value → Option Value → Pt → Prop} {PostX : Pt → Array Value → Addr → Pt → Prop} (hK : vx_Back l R p e below s args y 3 W9 Pre Post PostX)
    {b : Addr} {cellB : Cell} (hcell : T.heap[b]? = some cellB) (hobj : cellB.vm.isStatics = false) (hcls : s.vm.findClass C = some cellB.cls)
    {g : JFrame} (hg : g.method = m) (hsize : g.locals.size = c.maxLocals) {argsL rest : List Value} (hlen : ∀ sig, parseMethodDescriptor y.desc = some sig → argsL.length = sig.parameters.length)
    (hstack : g.stack = argsL.reverse ++ .ref b :: rest) (hW : 2 * g.monitorRoom + (rest.map fun v => v.category).sum ≤ W9) (hdg : decode c.code g.pc = .ok (.invokevirtual index, 3))
    (hpre : ∀ vm₁, s.WarmedH vm₁ → Pre ⟨T.setVm vm₁, locs, cells, slots⟩ (Value.ref b :: argsL).toArray) :
    (∃ (v : Option Value) (vm₁ : Vm) (B : Pt), s.WarmedH vm₁ ∧ Stand p l e R s m args below meth c B.U B.locs B.cells B.slots ∧ Post ⟨T.setVm vm₁, locs, cells, slots⟩ (Value.ref b :: argsL).toArray v B ∧
      ∀ target, Steps p.tables e below (B.U.setTop { g with pc := g.pc + 3, stack := v.toList ++ rest }) target → Steps p.tables e below (T.setTop g) target) ∨
    (∃ (q : Addr) (vm₁ : Vm) (B : Pt), s.WarmedH vm₁ ∧ Stand p l e R s m args below meth c B.U B.locs B.cells B.slots ∧ PostX ⟨T.setVm vm₁, locs, cells, slots⟩ (Value.ref b :: argsL).toArray q B ∧
      Steps p.tables e below (T.setTop g) ((B.U.setTop { g with stack := rest }).pushFrame (.throwing q))) := by
  obtain ⟨mk, methM, hnamed, hmethM, hstM, habM⟩ := Cond.instanceMethod_spec hinst
  obtain ⟨methM', cM, hmethM', -, -, -, -, -, -, hsigM⟩ := Cond.code_spec hnamed hcode
  cases hmethM.symm.trans hmethM'
  obtain ⟨c2, r2, m2, q1, q2, q3, q4, kP, hkP, hkPi⟩ := Cond.selects_spec hsel
  cases hcls.symm.trans q1
  cases (State.methodFound?_of_named hnamed hy).symm.trans q2
  cases hnamed.symm.trans q3
  have hselP : selectMethod e.platform s.vm cellB.cls mk = .method mk := by rw [Launch.admits_selectMethod X.admits]; exact q4
  obtain ⟨vm₁, X₁, hstep₁⟩ := X.invokevirtual hexec hown hlink hnamed hmethM hstM hkP hkPi hy (a := b) (cell := cellB) hcell
    (fun z h => by rw [h] at hobj; cases hobj) hselP hmethM habM hkP hkPi (g := g) hg (argsL := argsL) (rest := rest) (hlen _ hsigM) hstack hdg
  rcases hK m meth c ⟨T.setVm vm₁, locs, cells, slots⟩ { g with stack := rest } (.invokevirtual index) mk (Value.ref b :: argsL).toArray X₁ hg hsize hdg hW (X₁.named hnamed) (hpre vm₁ X₁.warmed) with ⟨v, B, X', hpost, hsteps⟩ | ⟨q, B, X', hpost, hsteps⟩
  · exact Or.inl ⟨v, vm₁, B, X₁.warmed, X', hpost, fun target h => hstep₁ _ fun acts => by rw [doInvoke_state]; exact hsteps.trans h⟩
  · exact Or.inr ⟨q, vm₁, B, X₁.warmed, X', hpost, hstep₁ _ fun acts => by rw [doInvoke_state]; exact hsteps⟩
theorem vx_callS (X : Stand p l e R s m args below meth c T locs cells slots) (hexec : p.tables.exec = Jvm.exec) {own : String} {index : Nat} {y : MethodName} {bytes : ByteArray} {maxL : Nat} {ret : Option FieldType}
    (hown : s.vm.findClass own = some m.cls) (hlink : (Cond.methodLink own index y).before args s = true) (hstat : (Cond.static y).before args s = true) (hinit : (Cond.initialized y.cls).before args s = true)
    (hcode : (Cond.code y bytes maxL ret).before args s = true) (hy : y.cls ≠ "java/lang/invoke/MethodHandle" ∧ y.cls ≠ "java/lang/invoke/VarHandle")
    {W9 : Nat} {Pre : Pt → Array Value → Prop} {Post : Pt → Array Value → Option Value → Pt → Prop} {PostX : Pt → Array Value → Addr → Pt → Prop} (hK : vx_Back l R p e below s args y 3 W9 Pre Post PostX)
    {g : JFrame} (hg : g.method = m) (hsize : g.locals.size = c.maxLocals) {argsL rest : List Value} (hlen : ∀ sig, parseMethodDescriptor y.desc = some sig → argsL.length = sig.parameters.length)
    (hstack : g.stack = argsL.reverse ++ rest) (hW : 2 * g.monitorRoom + (rest.map fun v => v.category).sum ≤ W9) (hdg : decode c.code g.pc = .ok (.invokestatic index, 3))
    (hpre : ∀ vm₁, s.WarmedH vm₁ → Pre ⟨T.setVm vm₁, locs, cells, slots⟩ argsL.toArray) :
    (∃ (v : Option Value) (vm₁ : Vm) (B : Pt), s.WarmedH vm₁ ∧ Stand p l e R s m args below meth c B.U B.locs B.cells B.slots ∧ Post ⟨T.setVm vm₁, locs, cells, slots⟩ argsL.toArray v B ∧
      ∀ target, Steps p.tables e below (B.U.setTop { g with pc := g.pc + 3, stack := v.toList ++ rest }) target → Steps p.tables e below (T.setTop g) target) ∨
    (∃ (q : Addr) (vm₁ : Vm) (B : Pt), s.WarmedH vm₁ ∧ Stand p l e R s m args below meth c B.U B.locs B.cells B.slots ∧ PostX ⟨T.setVm vm₁, locs, cells, slots⟩ argsL.toArray q B ∧
      Steps p.tables e below (T.setTop g) ((B.U.setTop { g with stack := rest }).pushFrame (.throwing q))) := by
  obtain ⟨mk, hnamed⟩ := Cond.code_named hcode
  obtain ⟨methM, cM, hmethM, -, -, -, -, -, -, hsigM⟩ := Cond.code_spec hnamed hcode
  have hstatic : methM.isStatic = true := Cond.static_spec hnamed hmethM hstat
  obtain ⟨kP, hkP, -⟩ := className_of_methodNamed hnamed
  have hinitP : kP.init = .initialized := Cond.initialized_spec (findClass_of_methodNamed hnamed) hkP hinit
  obtain ⟨vm₁, X₁, hstep₁⟩ := X.invokestatic hexec hown hlink hnamed hmethM hstatic hkP hinitP hy (g := g) hg (argsL := argsL) (rest := rest) (hlen _ hsigM) hstack hdg
  rcases hK m meth c ⟨T.setVm vm₁, locs, cells, slots⟩ { g with stack := rest } (.invokestatic index) mk argsL.toArray X₁ hg hsize hdg hW (X₁.named hnamed) (hpre vm₁ X₁.warmed) with ⟨v, B, X', hpost, hsteps⟩ | ⟨q, B, X', hpost, hsteps⟩
  · exact Or.inl ⟨v, vm₁, B, X₁.warmed, X', hpost, fun target h => hstep₁ _ fun acts => by rw [doInvoke_state]; exact hsteps.trans h⟩
  · exact Or.inr ⟨q, vm₁, B, X₁.warmed, X', hpost, hstep₁ _ fun acts => by rw [doInvoke_state]; exact hsteps⟩
end Calls
theorem vx_cls {s : State} {T : State} {vm₁ : Vm} {E : String} {k : ClassId} (hW : s.WarmedH vm₁) (h : (T.setVm vm₁).vm.findClass E = some k) : s.vm.findClass E = some k := by
  have h1 : vm₁.findClass E = some k := h
  rw [hW.alike.findClass] at h1
  exact h1
/-- the method's frame g, with q thrown over it -/
def vx_W (p : Program) (l : Launch) (e : Env) (R : Room) (s : State) (m : MethodId) (args : Array Value) (below : List Frame) (meth : Method) (c : Code) (H : Heap) (locs : List Loc) (cells slots : Nat) (Q : State → Prop) (g : JFrame) (q : Addr) : Prop :=
  ∀ T : State, T.heap = H → Stand p l e R s m args below meth c T locs cells slots → ∃ t, Steps p.tables e below ((T.setTop g).pushFrame (.throwing q)) t ∧ Q t
def vx_Run (p : Program) (l : Launch) (e : Env) (R : Room) (s : State) (m : MethodId) (args : Array Value) (below : List Frame) (meth : Method) (c : Code) (H : Heap) (locs : List Loc) (cells slots mc ms : Nat) (g : JFrame) (rest : List Value) (Qa : State → Outcome → State → Prop) (XC : String → State → State → Prop) (free : Addr → Prop) : Prop :=
  ∀ T : State, T.heap = H → Stand p l e R s m args below meth c T locs cells slots →
    (∃ (v : Option Value) (st₀ t T' : State) (L : List Loc), st₀.heap = H ∧ Stand p l e R s m args below meth c T' (locs ++ L) (cells + mc) (slots + ms) ∧ (∀ q ∈ L, free q.base) ∧ T'.heap = t.heap ∧ T'.vm = t.vm ∧ Qa st₀ (.returned v) t ∧
      Goes p e below T g T' { g with pc := g.pc + 3, stack := v.toList ++ rest }) ∨
    (∃ (q : Addr) (st₀ t T' : State) (L : List Loc) (E : String) (ce : Cell), st₀.heap = H ∧ Stand p l e R s m args below meth c T' (locs ++ L) (cells + mc) (slots + ms) ∧ (∀ z ∈ L, free z.base) ∧ T'.heap = t.heap ∧ T'.vm = t.vm ∧ XC E st₀ t ∧ t.heap[q]? = some ce ∧ ce.vm = .none ∧ s.vm.findClass E = some ce.cls ∧
      Steps p.tables e below (T.setTop g) ((T'.setTop { g with stack := rest }).pushFrame (.throwing q)))
def vx_X {S : Type} (px : S → Prop) (B : String → S → State → Prop) (A : Nat → Prop) : String → State → State → Prop := fun E st t => ∃ u : S, px u ∧ B E u t ∧ va_F A st t
section Runs
variable {p : Program} {l : Launch} {e : Env} {R : Room} {s : State} {m : MethodId} {args : Array Value} {below : List Frame} {meth : Method} {c : Code} {H : Heap} {locs : List Loc} {cells slots : Nat}
variable {y : MethodName} {bytes cc : ByteArray} {maxL nL mc ms n index : Nat} {ret : Option FieldType} {ws : List Cond} {rm : Room} {Pc : Array Value → State → Prop} {Qc : Array Value → State → Outcome → State → Prop} {XC : String → State → State → Prop} {free : Addr → Prop} {Ts : List Cond} {own C : String} {b : Addr} {As rest : List Value} {g : JFrame}
theorem vx_callBack (cb : CallB R s args own index y bytes maxL ret ws rm mc ms n) (hM : vx_Met l y ws rm Pc Qc XC mc ms free) (hbl : FrameBlind Pc) : vx_Back l R p e below s args y 3 8 (PreOf R mc ms Pc) (PostOf Qc mc ms free) (vx_Post XC mc ms free) := by
  obtain ⟨hrc, hrs, hfr, hlo, hws, hcw, -, hini, -⟩ := cb
  exact vx_back (bytes := bytes) (maxL := maxL) (ret := ret) hM hbl hrc hrs hfr hlo hws hcw (fun a' U hW => word_at hW (Or.inl (by first | rfl | simp [Cond.onTables, Cond.keeps, Cond.steady])) hini)
theorem vx_runV (S : CallFix p m c cc nL s args Ts own) (hM : vx_Met l y ws rm Pc Qc XC mc ms free) (cw : CallW R s args own C index y bytes maxL ret ws rm mc ms n) (hp : PreV s H C b Pc As)
    (hg : g.method = m) (hn : As.length = n) (hsize : g.locals.size = nL) (hstack : g.stack = As.reverse ++ .ref b :: rest) (hW : 2 * g.monitorRoom + (rest.map fun v => v.category).sum ≤ 8) (hdg : decode cc g.pc = .ok (.invokevirtual index, 3)) (hf : cells + mc ≤ R.cells ∧ slots + ms ≤ R.slots) :
    vx_Run p l e R s m args below meth c H locs cells slots mc ms g rest (Qc (Value.ref b :: As).toArray) XC free := by
  have hK : vx_Back l R p e below s args y 3 8 (PreOf R mc ms Pc) (PostOf Qc mc ms free) (vx_Post XC mc ms free) := vx_callBack cw.1 hM hp.1
  obtain ⟨⟨-, -, -, -, -, -, hcode, -, hy, hlen, hl⟩, hin, hse⟩ := cw
  obtain ⟨hx, hb, hml, ho, -⟩ := S
  obtain ⟨-, ⟨cellB, hcB, hoB, hclB⟩, hPc⟩ := hp
  intro T hT X
  rcases vx_callV X hx (C := C) (bytes := bytes) (maxL := maxL) (ret := ret) ho hl hin hse hcode hy hK (by rw [hT]; exact hcB) hoB hclB hg (hsize.trans hml.symm) (argsL := As) (rest := rest) (fun sig h => hn.trans (hlen sig h)) hstack hW (by rw [hb]; exact hdg)
    (fun vm₁ hW₁ => ⟨hf.1, hf.2, hPc (T.setVm vm₁) hT hW₁⟩) with ⟨v, vm₁, ⟨U', l2, c2, s2⟩, hW₁, X', ⟨g', mk, t, L, e1, e2, hq, h1, hL, h2, h3⟩, st⟩ | ⟨q, vm₁, ⟨U', l2, c2, s2⟩, hW₁, X', ⟨g', mk, t, L, E, ce, e1, e2, hq, hce, hcv, hcl, h1, hL, h2, h3⟩, st⟩
  · dsimp only [Pt.U, Pt.locs, Pt.cells, Pt.slots] at X' e1 e2 h1 h2 h3 st
    subst h1; subst h2; subst h3
    exact Or.inl ⟨v, (T.setVm vm₁).calling g' mk (Value.ref b :: As).toArray, t, U', L, hT, X', hL, e1, e2, hq, st⟩
  · dsimp only [Pt.U, Pt.locs, Pt.cells, Pt.slots] at X' e1 e2 h1 h2 h3 st hcl
    subst h1; subst h2; subst h3
    exact Or.inr ⟨q, (T.setVm vm₁).calling g' mk (Value.ref b :: As).toArray, t, U', L, E, ce, hT, X', hL, e1, e2, hq, hce, hcv, vx_cls hW₁ hcl, st⟩
theorem vx_runS (S : CallFix p m c cc nL s args Ts own) (hM : vx_Met l y ws rm Pc Qc XC mc ms free) (cw : CallB R s args own index y bytes maxL ret ws rm mc ms n ∧ (Cond.static y).before args s = true) (hp : PreS s H Pc As)
    (hg : g.method = m) (hn : As.length = n) (hsize : g.locals.size = nL) (hstack : g.stack = As.reverse ++ rest) (hW : 2 * g.monitorRoom + (rest.map fun v => v.category).sum ≤ 8) (hdg : decode cc g.pc = .ok (.invokestatic index, 3)) (hf : cells + mc ≤ R.cells ∧ slots + ms ≤ R.slots) :
    vx_Run p l e R s m args below meth c H locs cells slots mc ms g rest (Qc As.toArray) XC free := by
  have hK : vx_Back l R p e below s args y 3 8 (PreOf R mc ms Pc) (PostOf Qc mc ms free) (vx_Post XC mc ms free) := vx_callBack cw.1 hM hp.1
  obtain ⟨⟨-, -, -, -, -, -, hcode, hini, hy, hlen, hl⟩, hstt⟩ := cw
  obtain ⟨hx, hb, hml, ho, -⟩ := S
  intro T hT X
  rcases vx_callS X hx (bytes := bytes) (maxL := maxL) (ret := ret) ho hl hstt hini hcode hy hK hg (hsize.trans hml.symm) (argsL := As) (rest := rest) (fun sig h => hn.trans (hlen sig h)) hstack hW (by rw [hb]; exact hdg)
    (fun vm₁ hW₁ => ⟨hf.1, hf.2, hp.2 (T.setVm vm₁) hT hW₁⟩) with ⟨v, vm₁, ⟨U', l2, c2, s2⟩, hW₁, X', ⟨g', mk, t, L, e1, e2, hq, h1, hL, h2, h3⟩, st⟩ | ⟨q, vm₁, ⟨U', l2, c2, s2⟩, hW₁, X', ⟨g', mk, t, L, E, ce, e1, e2, hq, hce, hcv, hcl, h1, hL, h2, h3⟩, st⟩
  · dsimp only [Pt.U, Pt.locs, Pt.cells, Pt.slots] at X' e1 e2 h1 h2 h3 st
    subst h1; subst h2; subst h3
    exact Or.inl ⟨v, (T.setVm vm₁).calling g' mk As.toArray, t, U', L, hT, X', hL, e1, e2, hq, st⟩
  · dsimp only [Pt.U, Pt.locs, Pt.cells, Pt.slots] at X' e1 e2 h1 h2 h3 st hcl
    subst h1; subst h2; subst h3
    exact Or.inr ⟨q, (T.setVm vm₁).calling g' mk As.toArray, t, U', L, E, ce, hT, X', hL, e1, e2, hq, hce, hcv, vx_cls hW₁ hcl, st⟩
end Runs
section Rows
variable {p : Program} {l : Launch} {e : Env} {R : Room} {s : State} {m : MethodId} {args : Array Value} {below : List Frame} {meth : Method} {c : Code} {H : Heap} {locs : List Loc} {cells slots : Nat} {Q : State → Prop}
variable {mc ms : Nat} {free : Addr → Prop} {A0 A1 : Nat → Prop} {H0 : Heap} {a : Array Value} {pc : Nat} {ls : Array Slot} {st0 rest : List Value}
theorem vx_keep {st₀ t T' : State} {L : List Loc} (h0 : st₀.heap = H) (e1 : T'.heap = t.heap) (hS : va_S A0 H0 H locs) (hA : ∀ q, q < H.size → A1 q → A0 q) (hf : ∀ q, free q → A0 q) (hL : ∀ q ∈ L, free q.base) (hF : va_F A1 st₀ t) :
    H.size ≤ T'.heap.size ∧ (∀ q : Nat, q < H.size → ¬ A1 q → T'.heap[q]? = H[q]?) ∧ va_S A0 H0 T'.heap (locs ++ L) := by
  obtain ⟨hz, hk⟩ := hF
  rw [h0] at hz hk
  exact ⟨by rw [e1]; exact hz, fun q h1 h2 => by rw [e1]; exact hk q h1 h2,
    ⟨Nat.le_trans hS.1 (by rw [e1]; exact hz), fun q h1 h2 => by rw [e1, hk q (Nat.lt_of_lt_of_le h1 hS.1) (fun z => h2 (hA q (Nat.lt_of_lt_of_le h1 hS.1) z))]; exact hS.2.1 q h1 h2, fun q hq => by
      rcases List.mem_append.mp hq with h | h
      · exact hS.2.2 q h
      · exact hf _ (hL q h)⟩⟩
theorem vx_calli {S SX : Type} {post : Int32 → S → Prop} {px : SX → Prop} {B : S → State → Prop} {BX : String → SX → State → Prop} {AX : Nat → Prop} (hr : vx_Run p l e R s m args below meth c H locs cells slots mc ms (F0 m pc ls st0) rest (va_Qi post B A1 a) (vx_X px BX AX) free) (hS : va_S A0 H0 H locs) (hA : ∀ q, q < H.size → A1 q → A0 q) (hf : ∀ q, free q → A0 q) (hAX : ∀ q, q < H.size → AX q → A0 q)
    (kx : ∀ (E : String) (ce : Cell) (q9 : Addr) (u : SX) (t : State) (H1 : Heap) (locs1 : List Loc), t.heap = H1 → s.vm.Alike t.vm → px u → BX E u t → H.size ≤ H1.size → (∀ q : Nat, q < H.size → ¬ AX q → H1[q]? = H[q]?) → va_S A0 H0 H1 locs1 → H1[q9]? = some ce → ce.vm = .none → s.vm.findClass E = some ce.cls → vx_W p l e R s m args below meth c H1 locs1 (cells + mc) (slots + ms) Q (F0 m pc ls rest) q9)
    (kk : ∀ (r : Int32) (u : S) (t : State) (H1 : Heap) (locs1 : List Loc), t.heap = H1 → s.vm.Alike t.vm → post r u → B u t → H.size ≤ H1.size → (∀ q : Nat, q < H.size → ¬ A1 q → H1[q]? = H[q]?) → va_S A0 H0 H1 locs1 → W p l e R s m args below meth c H1 locs1 (cells + mc) (slots + ms) Q (F0 m (pc + 3) ls (.int r :: rest))) : W p l e R s m args below meth c H locs cells slots Q (F0 m pc ls st0) := by
  intro T hT X
  rcases hr T hT X with ⟨v, st₀, t, T', L, h0, X', hL, e1, e2, ⟨⟨r, u, hv, hp, hb⟩, hF⟩, st⟩ | ⟨q, st₀, t, T', L, E, ce, h0, X', hL, e1, e2, ⟨u, hp, hb, hF⟩, hce, hcv, hcl, st⟩
  · cases hv
    obtain ⟨k1, k2, k3⟩ := vx_keep h0 e1 hS hA hf hL hF
    obtain ⟨t2, a1, b1⟩ := kk r u t T'.heap (locs ++ L) e1.symm (by rw [← e2]; exact X'.warmed.alike) hp hb k1 k2 k3 T' rfl X'
    exact ⟨t2, st t2 a1, b1⟩
  · obtain ⟨k1, k2, k3⟩ := vx_keep h0 e1 hS hAX hf hL hF
    obtain ⟨t2, a1, b1⟩ := kx E ce q u t T'.heap (locs ++ L) e1.symm (by rw [← e2]; exact X'.warmed.alike) hp hb k1 k2 k3 (by rw [e1]; exact hce) hcv hcl T' rfl X'
    exact ⟨t2, st.trans a1, b1⟩
theorem vx_calll {S SX : Type} {post : Int64 → S → Prop} {px : SX → Prop} {B : S → State → Prop} {BX : String → SX → State → Prop} {AX : Nat → Prop} (hr : vx_Run p l e R s m args below meth c H locs cells slots mc ms (F0 m pc ls st0) rest (va_Ql post B A1 a) (vx_X px BX AX) free) (hS : va_S A0 H0 H locs) (hA : ∀ q, q < H.size → A1 q → A0 q) (hf : ∀ q, free q → A0 q) (hAX : ∀ q, q < H.size → AX q → A0 q)
    (kx : ∀ (E : String) (ce : Cell) (q9 : Addr) (u : SX) (t : State) (H1 : Heap) (locs1 : List Loc), t.heap = H1 → s.vm.Alike t.vm → px u → BX E u t → H.size ≤ H1.size → (∀ q : Nat, q < H.size → ¬ AX q → H1[q]? = H[q]?) → va_S A0 H0 H1 locs1 → H1[q9]? = some ce → ce.vm = .none → s.vm.findClass E = some ce.cls → vx_W p l e R s m args below meth c H1 locs1 (cells + mc) (slots + ms) Q (F0 m pc ls rest) q9)
    (kk : ∀ (r : Int64) (u : S) (t : State) (H1 : Heap) (locs1 : List Loc), t.heap = H1 → s.vm.Alike t.vm → post r u → B u t → H.size ≤ H1.size → (∀ q : Nat, q < H.size → ¬ A1 q → H1[q]? = H[q]?) → va_S A0 H0 H1 locs1 → W p l e R s m args below meth c H1 locs1 (cells + mc) (slots + ms) Q (F0 m (pc + 3) ls (.long r :: rest))) : W p l e R s m args below meth c H locs cells slots Q (F0 m pc ls st0) := by
  intro T hT X
  rcases hr T hT X with ⟨v, st₀, t, T', L, h0, X', hL, e1, e2, ⟨⟨r, u, hv, hp, hb⟩, hF⟩, st⟩ | ⟨q, st₀, t, T', L, E, ce, h0, X', hL, e1, e2, ⟨u, hp, hb, hF⟩, hce, hcv, hcl, st⟩
  · cases hv
    obtain ⟨k1, k2, k3⟩ := vx_keep h0 e1 hS hA hf hL hF
    obtain ⟨t2, a1, b1⟩ := kk r u t T'.heap (locs ++ L) e1.symm (by rw [← e2]; exact X'.warmed.alike) hp hb k1 k2 k3 T' rfl X'
    exact ⟨t2, st t2 a1, b1⟩
  · obtain ⟨k1, k2, k3⟩ := vx_keep h0 e1 hS hAX hf hL hF
    obtain ⟨t2, a1, b1⟩ := kx E ce q u t T'.heap (locs ++ L) e1.symm (by rw [← e2]; exact X'.warmed.alike) hp hb k1 k2 k3 (by rw [e1]; exact hce) hcv hcl T' rfl X'
    exact ⟨t2, st.trans a1, b1⟩
theorem vx_callf {S SX : Type} {post : UInt32 → S → Prop} {px : SX → Prop} {B : S → State → Prop} {BX : String → SX → State → Prop} {AX : Nat → Prop} (hr : vx_Run p l e R s m args below meth c H locs cells slots mc ms (F0 m pc ls st0) rest (va_Qf post B A1 a) (vx_X px BX AX) free) (hS : va_S A0 H0 H locs) (hA : ∀ q, q < H.size → A1 q → A0 q) (hf : ∀ q, free q → A0 q) (hAX : ∀ q, q < H.size → AX q → A0 q)
    (kx : ∀ (E : String) (ce : Cell) (q9 : Addr) (u : SX) (t : State) (H1 : Heap) (locs1 : List Loc), t.heap = H1 → s.vm.Alike t.vm → px u → BX E u t → H.size ≤ H1.size → (∀ q : Nat, q < H.size → ¬ AX q → H1[q]? = H[q]?) → va_S A0 H0 H1 locs1 → H1[q9]? = some ce → ce.vm = .none → s.vm.findClass E = some ce.cls → vx_W p l e R s m args below meth c H1 locs1 (cells + mc) (slots + ms) Q (F0 m pc ls rest) q9)
    (kk : ∀ (r : UInt32) (u : S) (t : State) (H1 : Heap) (locs1 : List Loc), t.heap = H1 → s.vm.Alike t.vm → post r u → B u t → H.size ≤ H1.size → (∀ q : Nat, q < H.size → ¬ A1 q → H1[q]? = H[q]?) → va_S A0 H0 H1 locs1 → W p l e R s m args below meth c H1 locs1 (cells + mc) (slots + ms) Q (F0 m (pc + 3) ls (.float r :: rest))) : W p l e R s m args below meth c H locs cells slots Q (F0 m pc ls st0) := by
  intro T hT X
  rcases hr T hT X with ⟨v, st₀, t, T', L, h0, X', hL, e1, e2, ⟨⟨r, u, hv, hp, hb⟩, hF⟩, st⟩ | ⟨q, st₀, t, T', L, E, ce, h0, X', hL, e1, e2, ⟨u, hp, hb, hF⟩, hce, hcv, hcl, st⟩
  · cases hv
    obtain ⟨k1, k2, k3⟩ := vx_keep h0 e1 hS hA hf hL hF
    obtain ⟨t2, a1, b1⟩ := kk r u t T'.heap (locs ++ L) e1.symm (by rw [← e2]; exact X'.warmed.alike) hp hb k1 k2 k3 T' rfl X'
    exact ⟨t2, st t2 a1, b1⟩
  · obtain ⟨k1, k2, k3⟩ := vx_keep h0 e1 hS hAX hf hL hF
    obtain ⟨t2, a1, b1⟩ := kx E ce q u t T'.heap (locs ++ L) e1.symm (by rw [← e2]; exact X'.warmed.alike) hp hb k1 k2 k3 (by rw [e1]; exact hce) hcv hcl T' rfl X'
    exact ⟨t2, st.trans a1, b1⟩
theorem vx_calld {S SX : Type} {post : UInt64 → S → Prop} {px : SX → Prop} {B : S → State → Prop} {BX : String → SX → State → Prop} {AX : Nat → Prop} (hr : vx_Run p l e R s m args below meth c H locs cells slots mc ms (F0 m pc ls st0) rest (va_Qd post B A1 a) (vx_X px BX AX) free) (hS : va_S A0 H0 H locs) (hA : ∀ q, q < H.size → A1 q → A0 q) (hf : ∀ q, free q → A0 q) (hAX : ∀ q, q < H.size → AX q → A0 q)
    (kx : ∀ (E : String) (ce : Cell) (q9 : Addr) (u : SX) (t : State) (H1 : Heap) (locs1 : List Loc), t.heap = H1 → s.vm.Alike t.vm → px u → BX E u t → H.size ≤ H1.size → (∀ q : Nat, q < H.size → ¬ AX q → H1[q]? = H[q]?) → va_S A0 H0 H1 locs1 → H1[q9]? = some ce → ce.vm = .none → s.vm.findClass E = some ce.cls → vx_W p l e R s m args below meth c H1 locs1 (cells + mc) (slots + ms) Q (F0 m pc ls rest) q9)
    (kk : ∀ (r : UInt64) (u : S) (t : State) (H1 : Heap) (locs1 : List Loc), t.heap = H1 → s.vm.Alike t.vm → post r u → B u t → H.size ≤ H1.size → (∀ q : Nat, q < H.size → ¬ A1 q → H1[q]? = H[q]?) → va_S A0 H0 H1 locs1 → W p l e R s m args below meth c H1 locs1 (cells + mc) (slots + ms) Q (F0 m (pc + 3) ls (.double r :: rest))) : W p l e R s m args below meth c H locs cells slots Q (F0 m pc ls st0) := by
  intro T hT X
  rcases hr T hT X with ⟨v, st₀, t, T', L, h0, X', hL, e1, e2, ⟨⟨r, u, hv, hp, hb⟩, hF⟩, st⟩ | ⟨q, st₀, t, T', L, E, ce, h0, X', hL, e1, e2, ⟨u, hp, hb, hF⟩, hce, hcv, hcl, st⟩
  · cases hv
    obtain ⟨k1, k2, k3⟩ := vx_keep h0 e1 hS hA hf hL hF
    obtain ⟨t2, a1, b1⟩ := kk r u t T'.heap (locs ++ L) e1.symm (by rw [← e2]; exact X'.warmed.alike) hp hb k1 k2 k3 T' rfl X'
    exact ⟨t2, st t2 a1, b1⟩
  · obtain ⟨k1, k2, k3⟩ := vx_keep h0 e1 hS hAX hf hL hF
    obtain ⟨t2, a1, b1⟩ := kx E ce q u t T'.heap (locs ++ L) e1.symm (by rw [← e2]; exact X'.warmed.alike) hp hb k1 k2 k3 (by rw [e1]; exact hce) hcv hcl T' rfl X'
    exact ⟨t2, st.trans a1, b1⟩
theorem vx_callv {S SX : Type} {post : S → Prop} {px : SX → Prop} {B : S → State → Prop} {BX : String → SX → State → Prop} {AX : Nat → Prop} (hr : vx_Run p l e R s m args below meth c H locs cells slots mc ms (F0 m pc ls st0) rest (va_Qv post B A1 a) (vx_X px BX AX) free) (hS : va_S A0 H0 H locs) (hA : ∀ q, q < H.size → A1 q → A0 q) (hf : ∀ q, free q → A0 q) (hAX : ∀ q, q < H.size → AX q → A0 q)
    (kx : ∀ (E : String) (ce : Cell) (q9 : Addr) (u : SX) (t : State) (H1 : Heap) (locs1 : List Loc), t.heap = H1 → s.vm.Alike t.vm → px u → BX E u t → H.size ≤ H1.size → (∀ q : Nat, q < H.size → ¬ AX q → H1[q]? = H[q]?) → va_S A0 H0 H1 locs1 → H1[q9]? = some ce → ce.vm = .none → s.vm.findClass E = some ce.cls → vx_W p l e R s m args below meth c H1 locs1 (cells + mc) (slots + ms) Q (F0 m pc ls rest) q9)
    (kk : ∀ (u : S) (t : State) (H1 : Heap) (locs1 : List Loc), t.heap = H1 → s.vm.Alike t.vm → post u → B u t → H.size ≤ H1.size → (∀ q : Nat, q < H.size → ¬ A1 q → H1[q]? = H[q]?) → va_S A0 H0 H1 locs1 → W p l e R s m args below meth c H1 locs1 (cells + mc) (slots + ms) Q (F0 m (pc + 3) ls (rest))) : W p l e R s m args below meth c H locs cells slots Q (F0 m pc ls st0) := by
  intro T hT X
  rcases hr T hT X with ⟨v, st₀, t, T', L, h0, X', hL, e1, e2, ⟨⟨u, hv, hp, hb⟩, hF⟩, st⟩ | ⟨q, st₀, t, T', L, E, ce, h0, X', hL, e1, e2, ⟨u, hp, hb, hF⟩, hce, hcv, hcl, st⟩
  · cases hv
    obtain ⟨k1, k2, k3⟩ := vx_keep h0 e1 hS hA hf hL hF
    obtain ⟨t2, a1, b1⟩ := kk u t T'.heap (locs ++ L) e1.symm (by rw [← e2]; exact X'.warmed.alike) hp hb k1 k2 k3 T' rfl X'
    exact ⟨t2, st t2 a1, b1⟩
  · obtain ⟨k1, k2, k3⟩ := vx_keep h0 e1 hS hAX hf hL hF
    obtain ⟨t2, a1, b1⟩ := kx E ce q u t T'.heap (locs ++ L) e1.symm (by rw [← e2]; exact X'.warmed.alike) hp hb k1 k2 k3 (by rw [e1]; exact hce) hcv hcl T' rfl X'
    exact ⟨t2, st.trans a1, b1⟩
/-- caught by the row x of this method's table; the rows ahead don't take it -/
theorem vx_catch {own name : String} {E : String} {ce : Cell} {q : Addr} (hown : s.vm.findClass own = some m.cls) (pre : List ExceptionTableEntry) (x : ExceptionTableEntry) (suf : List ExceptionTableEntry) (hsplit : c.exceptionTable.toList = pre ++ x :: suf)
    (hpass : ∀ z ∈ pre, covers z pc = false ∨ (z.catchType ≠ 0 ∧ ∃ nm : String, (Cond.classLink own z.catchType nm).before args s = true ∧ va_Nc E nm s)) (hx : covers x pc = true) (h0 : x.catchType ≠ 0)
    (hlink : (Cond.classLink own x.catchType name).before args s = true) (hcast : (Cond.castable E name).before args s = true) (hcell : H[q]? = some ce) (hv : ce.vm = .none) (hcl : s.vm.findClass E = some ce.cls)
    (kk : W p l e R s m args below meth c H locs cells slots Q (F0 m x.handlerPc ls [.ref q])) : vx_W p l e R s m args below meth c H locs cells slots Q (F0 m pc ls rest) q := by
  intro T hT X
  have hpl : e.platform.magicAccessors = ({} : Platform).magicAccessors := by rw [X.admits.platform]
  obtain ⟨c3, c4, hc3, hc4, hasg⟩ := Cond.castable_spec hcast
  cases Option.some.inj (hc3.symm.trans hcl)
  obtain ⟨c5, hc5, hcl5⟩ := Cond.classLink_spec hown hlink e.platform hpl
  cases Option.some.inj (hc4.symm.trans hc5)
  obtain ⟨vm', X', st⟩ := X.thenCaughtThrough q (g := F0 m pc ls rest) rfl (Steps.refl _) (by rw [hT]; exact hcell) (by rw [hv]; rfl) (by obtain ⟨k9, h9, -⟩ := Vm.findClass_spec hcl; exact ⟨k9, h9⟩) pre x suf hsplit
    (fun z hz => by
      rcases hpass z hz with h | ⟨hz0, nm, hl1, hn1⟩
      · exact Or.inl h
      · obtain ⟨c6, hc6, hcl6⟩ := Cond.classLink_spec hown hl1 e.platform hpl
        obtain ⟨a8, b8, h1, h2, h3⟩ := hn1
        cases Option.some.inj (h1.symm.trans hcl)
        cases Option.some.inj (h2.symm.trans hc6)
        exact Or.inr ⟨hz0, _, hcl6, h3⟩) hx (Or.inr ⟨h0, c4, hcl5, hasg⟩)
  obtain ⟨t, a1, b1⟩ := kk (T.setVm vm') hT X'
  exact ⟨t, st.trans a1, b1⟩
end Rows
section Ends
variable {p : Program} {l : Launch} {e : Env} {R : Room} {s : State} {m : MethodId} {args : Array Value} {below : List Frame} {meth : Method} {c : Code} {H : Heap} {locs : List Loc} {cells slots : Nat} {Q : State → Prop}
variable {mc ms : Nat} {free : Addr → Prop} {A0 A1 : Nat → Prop} {H0 : Heap} {a : Array Value} {ls : Array Slot} {st0 rest : List Value}
variable {Qc : Array Value → State → Outcome → State → Prop} {XC : String → State → State → Prop}
/-- what a body that may throw owes at its end -/
def vx_MQ (below : List Frame) (Qc : Array Value → State → Outcome → State → Prop) (XC : String → State → State → Prop) (a : Array Value) (s : State) (mc ms : Nat) (free : Addr → Prop) : State → Prop := fun t =>
  ∃ o, t.status = .running ∧ Ended t below o ∧ vx_Q Qc XC mc ms free a s o t
theorem vx_ret {g : JFrame} {mc ms : Nat} (k : W p l e R s m args below meth c H locs cells slots (MQ below Qc args s mc ms free) g) : W p l e R s m args below meth c H locs cells slots (vx_MQ below Qc XC args s mc ms free) g := by
  intro T hT X
  obtain ⟨t, a1, o, b1, b2, b3, b4⟩ := k T hT X
  exact ⟨t, a1, o, b1, b2, Or.inl ⟨b3, b4⟩⟩
/-- not caught here: it goes on to the caller -/
theorem vx_widen {g : JFrame} {q : Addr} {k n : Nat} (h1 : cells ≤ k) (h2 : slots ≤ n) (kk : vx_W p l e R s m args below meth c H locs k n Q g q) : vx_W p l e R s m args below meth c H locs cells slots Q g q := fun T hT X => kk T hT (stand_widen X h1 h2)
theorem vx_out {pc : Nat} {E : String} {ce : Cell} {q : Addr} {mc ms : Nat} (hout : ∀ x ∈ c.exceptionTable.toList, covers x pc = false) (hlocks : meth.locks = false) (hcell : H[q]? = some ce) (hv : ce.vm = .none) (hcl : s.vm.findClass E = some ce.cls)
    (hx : ∀ t : State, t.heap = H → s.vm.Alike t.vm → XC E s t) (hf : ∀ z ∈ locs, free z.base) (hc : cells ≤ mc) (hs : slots ≤ ms) :
    vx_W p l e R s m args below meth c H locs cells slots (vx_MQ below Qc XC args s mc ms free) (F0 m pc ls rest) q := by
  intro T hT X
  obtain ⟨st1, hrun, hend, hW, hsm⟩ := X.leaveThrown q (g := F0 m pc ls rest) rfl rfl rfl hout hlocks
  have hcell9 : (T.setFrames (.throwing q :: below)).heap[q]? = some ce := by
    show T.heap[q]? = some ce
    rw [hT]; exact hcell
  exact ⟨_, st1, .threw q, hrun, hend, Or.inr ⟨q, rfl, E, ce, locs, hx _ hT hW.alike, hcell9, hv, hcl, hW, hsm.mono hc hs, hf⟩⟩
theorem vx_frame {U : State} {k n : Nat} (h : s.sameButNew ({ U with vm := s.vm } : State) locs k n) : s.heap.size ≤ U.heap.size ∧ ∀ q : Nat, q < s.heap.size → (∀ z ∈ locs, z.base ≠ q) → U.heap[q]? = s.heap[q]? := by
  obtain ⟨-, h2, -, -, -, h6⟩ := h
  refine ⟨h2, fun q hq hz => ?_⟩
  obtain ⟨c9, e1, e2, e3, e4⟩ := h6 q _ (Array.getElem?_eq_getElem hq)
  have hs : c9.slots = (s.heap[q]).slots := Array.ext_getElem? fun i => e4 i fun hm => hz _ hm rfl
  have h9 : c9 = s.heap[q] := by
    rw [hs] at e2
    exact e2
  have e5 : U.heap[q]? = some c9 := e1
  rw [e5, h9, Array.getElem?_eq_getElem hq]
/-- the words of a throw but the four that speak of the heap -/
def vx_no (w : Cond) : Bool := decide (w ≠ .isRef (.static Bundle.tN "UNASSIGNED_STACK" Bundle.steD)) && decide (w ≠ .isRef (.static Bundle.tN "SUPPRESSED_SENTINEL" Bundle.listD)) && decide (w ≠ .laysStatic Bundle.tN "UNASSIGNED_STACK" Bundle.steD) && decide (w ≠ .laysStatic Bundle.tN "SUPPRESSED_SENTINEL" Bundle.listD)
def vx_at0 (own : String) (ic : Nat) (X : String) (names : List String) : List Cond := (Bundle.ownAtoms0 own ic X names).filter vx_no
def vx_atS (own : String) (ic : Nat) (X : String) (names : List String) : List Cond := (Bundle.ownAtoms own ic X names).filter vx_no
/-- a word that the tables alone decide, or a good one -/
def vx_ot (w : Cond) : Bool := w.onTables || goodWord w
theorem vx_ot_at {args a' : Array Value} {s U : State} {w : Cond} (hW : s.WarmedH U.vm) (hvm : s.vm = U.vm) (hg : vx_ot w = true) (h : w.before args s = true) : w.before a' U = true := by
  simp only [vx_ot, Bool.or_eq_true] at hg
  rcases hg with hg | hg
  · exact va_tabs hg hvm h
  · exact word_at hW (good_of_word hg) h
/-- a list's words: the good ones out of the method's own list, the others by premises of their own -/
theorem vx_hat {args : Array Value} {s : State} {L B : List Cond} (h1 : ∀ w ∈ L.filter goodWord, w.before args s = true) (h2 : ∀ w ∈ L.filter (fun w => !goodWord w), w ∈ B) (h3 : ∀ w ∈ B, w.before args s = true) : ∀ w ∈ L, w.before args s = true := by
  intro w hw
  by_cases g : goodWord w = true
  · exact h1 w (List.mem_filter.mpr ⟨hw, g⟩)
  · refine h3 w (h2 w (List.mem_filter.mpr ⟨hw, ?_⟩))
    show (!goodWord w) = true
    cases hgw : goodWord w
    · rfl
    · exact absurd hgw g
theorem vx_c {args : Array Value} {s : State} {w : Cond} {B : List Cond} (h : w.before args s = true) (t : ∀ w ∈ B, w.before args s = true) : ∀ w' ∈ w :: B, w'.before args s = true := fun w' h' => (List.mem_cons.mp h').elim (fun e => by rw [e]; exact h) (t w')
theorem vx_n {args : Array Value} {s : State} : ∀ w ∈ ([] : List Cond), w.before args s = true := fun _ h => nomatch h
theorem vx_own {args : Array Value} {s : State} {L : List Cond} (h1 : ∀ w ∈ L.filter vx_no, w.before args s = true)
    (hU : (Cond.isRef (.static Bundle.tN "UNASSIGNED_STACK" Bundle.steD)).before args s = true) (hN : (Cond.isRef (.static Bundle.tN "SUPPRESSED_SENTINEL" Bundle.listD)).before args s = true)
    (lU : (Cond.laysStatic Bundle.tN "UNASSIGNED_STACK" Bundle.steD).before args s = true) (lN : (Cond.laysStatic Bundle.tN "SUPPRESSED_SENTINEL" Bundle.listD).before args s = true) : ∀ w ∈ L, w.before args s = true := by
  intro w hw
  by_cases e1 : w = .isRef (.static Bundle.tN "UNASSIGNED_STACK" Bundle.steD)
  · rw [e1]; exact hU
  · by_cases e2 : w = .isRef (.static Bundle.tN "SUPPRESSED_SENTINEL" Bundle.listD)
    · rw [e2]; exact hN
    · by_cases e3 : w = .laysStatic Bundle.tN "UNASSIGNED_STACK" Bundle.steD
      · rw [e3]; exact lU
      · by_cases e4 : w = .laysStatic Bundle.tN "SUPPRESSED_SENTINEL" Bundle.listD
        · rw [e4]; exact lN
        · exact h1 w (List.mem_filter.mpr ⟨hw, by unfold vx_no; rw [decide_eq_true e1, decide_eq_true e2, decide_eq_true e3, decide_eq_true e4]; rfl⟩)
/-- where a static field lies, its class's statics cell in H -/
def vx_L (C n d : String) (A : Nat → Prop) (U : State) (H : Heap) : Prop := ∃ (c : ClassId) (k : Class) (i : Nat) (f : Field) (a : Nat) (cell : Cell), U.vm.findClass C = some c ∧ U.fieldFound? C n d = some (c, k, i, f) ∧ f.isStatic = true ∧ k.statics = some a ∧ H[a]? = some cell ∧ cell.vm.isStatics = true ∧ cell.cls = c ∧ f.slot < cell.slots.size ∧ k.staticTypes[f.slot]? = some f.type ∧ ¬ A a
theorem vx_L.moved {C n d : String} {A : Nat → Prop} {u U : State} {H : Heap} (hvm : u.vm.Alike U.vm) (h : vx_L C n d A u H) : vx_L C n d A U H := by
  obtain ⟨c, k, i, f, a, cell, h1, h2, h3, h4, h5, h6, h7, h8, h9, h10⟩ := h
  obtain ⟨k', hi', he⟩ := State.fieldFound?_setVm hvm h2
  exact ⟨c, k', i, f, a, cell, by rw [hvm.findClass]; exact h1, hi', h3, by rw [he]; exact h4, h5, h6, h7, h8, by rw [he]; exact h9, h10⟩
theorem vx_L.kept {C n d : String} {A : Nat → Prop} {U : State} {H H1 : Heap} (h : vx_L C n d A U H) (hq : ∀ a : Nat, a < H.size → ¬ A a → H1[a]? = H[a]?) : vx_L C n d A U H1 := by
  obtain ⟨c, k, i, f, a, cell, h1, h2, h3, h4, h5, h6, h7, h8, h9, h10⟩ := h
  exact ⟨c, k, i, f, a, cell, h1, h2, h3, h4, by rw [hq a (Array.getElem?_eq_some_iff.mp h5).1 h10]; exact h5, h6, h7, h8, h9, h10⟩
theorem vx_L.narrow {C n d : String} {A B : Nat → Prop} {U : State} {H : Heap} (h : vx_L C n d A U H) (hAB : ∀ q, B q → A q) : vx_L C n d B U H := by
  obtain ⟨c, k, i, f, a, cell, h1, h2, h3, h4, h5, h6, h7, h8, h9, h10⟩ := h
  exact ⟨c, k, i, f, a, cell, h1, h2, h3, h4, h5, h6, h7, h8, h9, fun z => h10 (hAB _ z)⟩
theorem vx_L.word {C n d : String} {A : Nat → Prop} {s : State} {args : Array Value} (h : vx_L C n d A s s.heap) : (Cond.laysStatic C n d).before args s = true := by
  obtain ⟨c, k, i, f, a, cell, h1, h2, h3, h4, h5, h6, h7, h8, h9, -⟩ := h
  show (Cond.laysStatic C n d).holds args s none s [] = true
  exact Cond.laysStatic_of h1 h2 h3 h4 h5 h6 h7 h8 h9
/-- .. and what it holds: null or some reference -/
def vx_Zq (C n d : String) (A : Nat → Prop) (U : State) (H : Heap) : Prop := va_Zq C n d A U H ∧ vx_L C n d A U H
theorem vx_Zq.moved {C n d : String} {A : Nat → Prop} {u U : State} {H : Heap} (hvm : u.vm.Alike U.vm) (h : vx_Zq C n d A u H) : vx_Zq C n d A U H := ⟨va_Zq.moved hvm h.1, vx_L.moved hvm h.2⟩
theorem vx_Zq.kept {C n d : String} {A : Nat → Prop} {U : State} {H H1 : Heap} (h : vx_Zq C n d A U H) (hq : ∀ a : Nat, a < H.size → ¬ A a → H1[a]? = H[a]?) : vx_Zq C n d A U H1 := ⟨va_Zq.kept h.1 hq, vx_L.kept h.2 hq⟩
theorem vx_Zq.narrow {C n d : String} {A B : Nat → Prop} {U : State} {H : Heap} (h : vx_Zq C n d A U H) (hAB : ∀ q, B q → A q) : vx_Zq C n d B U H := ⟨va_Zq.narrow h.1 hAB, vx_L.narrow h.2 hAB⟩
theorem vx_Zqof {args : Array Value} {s : State} {C n d : String} {A : Nat → Prop} (hl : (Cond.laysStatic C n d).before args s = true) (hini : (Cond.initialized C).before args s = true) (h : (Cond.isRef (.static C n d)).before args s = true) (hA : ∀ a : Nat, a < s.heap.size → ¬ A a) : vx_Zq C n d A s s.heap := by
  refine ⟨va_Zqof hl hini h hA, ?_⟩
  obtain ⟨c, k, i, f, a, cell, h1, h2, h3, h4, h5, h6, h7, h8, h9⟩ := Cond.laysStatic_spec hl
  exact ⟨c, k, i, f, a, cell, h1, h2, h3, h4, h5, h6, h7, h8, h9, hA a (Array.getElem?_eq_some_iff.mp h5).1⟩
theorem vx_isRef {C n d : String} {v : Value} {A : Nat → Prop} {s : State} {args : Array Value} (h : va_Z C n d v A s s.heap) (hv : v.isRef = true) : (Cond.isRef (.static C n d)).before args s = true := by
  obtain ⟨cf, kf, fi, f, a, cell, h1, h2, h3, h4, h5, h6, h7, -⟩ := h
  have he : (Term.static C n d).eval args s none [] s = some v := by
    simp [Term.eval, State.fieldNamed?, h1, h2, h4, h5, h6, h7]
  simp only [Cond.before, Cond.holds, Cond.value, he]
  cases v <;> simp_all [Value.isRef]
theorem vx_isRefq {C n d : String} {A : Nat → Prop} {s : State} {args : Array Value} (h : va_Zq C n d A s s.heap) : (Cond.isRef (.static C n d)).before args s = true := by
  rcases h with h | ⟨t, h⟩
  · exact vx_isRef h rfl
  · exact vx_isRef h rfl
/-- the same frame, seen from here: as if the method were called anew in this heap -/
theorem vx_rebase {T : State} (X : Stand p l e R s m args below meth c T locs cells slots) {R' : Room} (hf : R'.frames ≤ R.frames) (hl : R'.locals ≤ R.locals) (hc : cells + R'.cells ≤ R.cells) (hs : slots + R'.slots ≤ R.slots) :
    Stand p l e R' ((T.setVm s.vm).setFrames (.invoking m args :: below)) m args below meth c T [] 0 0 := by
  have htop : (T.setVm s.vm).topJava?.isSome := X.here.top
  have hF : ((T.setVm s.vm).setFrames (.invoking m args :: below)).frames = .invoking m args :: below := State.frames_setFrames _ (State.cur_lt_of_top htop)
  obtain ⟨g₀, hg0⟩ := Option.isSome_iff_exists.mp htop
  obtain ⟨r, hr⟩ := State.topJava?_eq_some.mp hg0
  have hl9 : e.platform.stackLimits (T.setVm s.vm).me = e.platform.stackLimits s.me := X.limits
  have hb9 : (T.setVm s.vm).me.stackBytes = s.me.stackBytes := X.bytes
  refine ⟨X.admits, X.cas, X.clock, hF, ?_, X.hears, X.method, X.code, X.here, X.tail, X.warmed, ?_, ?_, ?_⟩
  · have h := X.room
    have hU : ((T.setVm s.vm).setFrames (.invoking m args :: below)).localsInUse = s.localsInUse := by
      rw [State.localsInUse_invoking hF (meth := meth) (c := c) X.method X.code, State.localsInUse_invoking X.frames X.method X.code]
    simp only [State.hasRoom, Bool.and_eq_true, decide_eq_true_eq] at h ⊢
    obtain ⟨⟨⟨⟨h1, h2, h3, h4, h5, h6⟩, h7⟩, h8⟩, h9⟩ := h
    rw [X.frames, List.length_cons] at h2 h3
    have q1 := X.heapSize
    have q2 := X.used
    simp only [hF, hU, List.length_cons, State.stackLimits_setFrames, State.stackBytes_setFrames, hl9, hb9]
    refine ⟨⟨⟨⟨by omega, by omega, by omega, by omega, by omega, h6⟩, ?_⟩, ?_⟩, X.book⟩
    · show T.heap.size + R'.cells ≤ e.platform.maxCells
      omega
    · show T.slotsUsed + R'.slots ≤ e.platform.maxSlots
      omega
  · rw [State.stackLimits_setFrames]; rfl
  · rw [State.stackBytes_setFrames]; rfl
  · refine ⟨?_, Nat.le_refl _, Nat.le_refl _, ?_, ?_, fun a c9 h9 => ⟨c9, h9, rfl, rfl, fun _ _ => rfl⟩⟩
    · obtain ⟨t, ht, -⟩ := State.frames_cons hr
      show T.setVm s.vm = { ((T.setVm s.vm).setFrames (.invoking m args :: below)).setFrames (T.setVm s.vm).frames with heap := T.heap, slotsUsed := T.slotsUsed }
      rw [State.setFrames_setFrames, State.setFrames_self ht]
      rfl
    · show T.slotsUsed = T.slotsUsed + ((T.heap.toList.drop T.heap.size).map (·.slots.size)).sum
      rw [List.drop_eq_nil_of_le (Nat.le_of_eq Array.length_toList)]
      rfl
    · show ((T.heap.toList.drop T.heap.size).map (·.slots.size)).sum ≤ 0
      rw [List.drop_eq_nil_of_le (Nat.le_of_eq Array.length_toList)]
      exact Nat.le_refl _
/-- 'throw new E()': new; dup; invokespecial; athrow -/
theorem vx_throw0 {cc : ByteArray} {pc : Nat} (hexec : p.tables.exec = Jvm.exec) (hb : c.code = cc) (hl : l.stackTraces = false) {own cls : String} {names : List String} {ik ic mc ms : Nat} {A : Nat → Prop}
    (hown : s.vm.findClass own = some m.cls) (hcls : Bundle.fit cls = true) (hnames : ∀ n ∈ names, Bundle.fit n = true)
    (hk : (Cond.classLink own ik cls).before args s = true) (hini : (Cond.initialized cls).before args s = true) (hat : ∀ w ∈ vx_at0 own ic cls names, w.before args s = true)
    (hgood : ∀ w ∈ Cond.classLink own ik cls :: Cond.initialized cls :: vx_at0 own ic cls names, vx_ot w = true)
    (hU : vx_Zq Bundle.tN "UNASSIGNED_STACK" Bundle.steD A s s.heap) (hN : vx_Zq Bundle.tN "SUPPRESSED_SENTINEL" Bundle.listD A s s.heap) (hS : va_S A s.heap H locs) (hsize : ls.size = c.maxLocals)
    (d0 : decode cc pc = .ok (.new ik, 3)) (d3 : decode cc (pc + 3) = .ok (.dup, 1)) (d4 : decode cc (pc + 4) = .ok (.invokespecial ic, 3)) (d7 : decode cc (pc + 7) = .ok (.athrow, 1))
    (hout : ∀ x ∈ c.exceptionTable.toList, covers x (pc + 7) = false)
    (hRframes : names.length + 3 < R.frames) (hRlocals : (rest.map fun v => v.category).sum + (13 * (names.length + 1) + 42) ≤ R.locals) (hRcells : cells + 1 ≤ R.cells) (hRslots : slots + 6 ≤ R.slots) (hlocks : meth.locks = false)
    (hx : ∀ t : State, s.vm.Alike t.vm → H.size ≤ t.heap.size → (∀ q : Nat, q < H.size → t.heap[q]? = H[q]?) → XC cls s t)
    (hf : ∀ z ∈ locs, free z.base) (hc : cells + 1 ≤ mc) (hs : slots + 6 ≤ ms) :
    W p l e R s m args below meth c H locs cells slots (vx_MQ below Qc XC args s mc ms free) (F0 m pc ls rest) := by
  intro T hT X
  have htr : e.platform.stackTraces = false := (show e.platform.stackTraces = l.stackTraces by rw [X.admits.platform]).trans hl
  have Y := vx_rebase X (R' := { frames := R.frames, locals := R.locals, cells := 1, slots := 6 }) (Nat.le_refl _) (Nat.le_refl _) hRcells hRslots
  obtain ⟨s', hA⟩ : ∃ z, z = (T.setVm s.vm).setFrames (.invoking m args :: below) := ⟨_, rfl⟩
  rw [← hA] at Y
  have hvm : s'.vm = s.vm := by rw [hA]; rfl
  have hhp : s'.heap = H := by rw [hA]; exact hT
  have hW0 : s.WarmedH s'.vm := by rw [hvm]; exact State.WarmedH.refl s
  have hat' : ∀ w ∈ vx_at0 own ic cls names, w.before args s' = true := fun w hw => vx_ot_at hW0 hvm.symm (hgood w (List.mem_cons_of_mem _ (List.mem_cons_of_mem _ hw))) (hat w hw)
  have hk' : (Cond.classLink own ik cls).before args s' = true := vx_ot_at hW0 hvm.symm (hgood _ List.mem_cons_self) hk
  have hini' : (Cond.initialized cls).before args s' = true := vx_ot_at hW0 hvm.symm (hgood _ (List.mem_cons_of_mem _ List.mem_cons_self)) hini
  have hU' : vx_Zq Bundle.tN "UNASSIGNED_STACK" Bundle.steD A s' s'.heap := by rw [hhp]; exact vx_Zq.moved hW0.alike (hU.kept hS.2.1)
  have hN' : vx_Zq Bundle.tN "SUPPRESSED_SENTINEL" Bundle.listD A s' s'.heap := by rw [hhp]; exact vx_Zq.moved hW0.alike (hN.kept hS.2.1)
  have h : ∀ w ∈ Bundle.ownAtoms0 own ic cls names, w.before args s' = true := vx_own hat' (vx_isRefq hU'.1) (vx_isRefq hN'.1) hU'.2.word hN'.2.word
  have hown' : s'.vm.findClass own = some m.cls := by rw [hvm]; exact hown
  have hins : (Cond.instantiable cls 6).before args s' = true := h _ (by simp [Bundle.ownAtoms0])
  obtain ⟨vm₁, cX, kX, hfX, hkX, -, -, X₁, st1⟩ := Y.newCold hexec (own := own) (C := cls) (index := ik) (n := 6) hown' hk' hins hini'
    (g := F0 m pc ls rest) rfl (by rw [hb]; exact d0) (Nat.le_refl _) (Nat.le_refl _)
  generalize hT1 : (T.setVm vm₁).pushCell { cls := cX, slots := kX.instanceTypes.map defaultValue, vm := .none } = T1 at X₁ st1
  have hcat : (Value.ref T.heap.size).category = 1 := rfl
  have hcellA : T1.heap[T.heap.size]? = some (freshCell cX kX) := by rw [← hT1]; exact State.heap_pushCell_size _ _
  have d3' : decode c.code (pc + 3) = .ok (.dup, 1) := by rw [hb]; exact d3
  obtain ⟨U, hsteps, hrun, hend, hW, hsame, ce, hce, hO⟩ := X₁.ctorThrow0 hexec htr (own := own) (cls := cls) (names := names) (ic := ic) hown' hcls hnames h (fun x hx => nomatch hx) hfX hkX hcellA (by rw [hhp, hT]; exact Nat.le_refl _)
    (g := { method := m, pc := pc + 4, locals := ls, stack := .ref T.heap.size :: .ref T.heap.size :: rest, locked := none }) rfl hsize rfl rfl (rest := rest) rfl
    (by rw [hb]; exact d4) (by rw [hb]; exact d7) hout hRframes (by simp only [List.map_cons, List.sum_cons, hcat]; omega) hlocks
  obtain ⟨f1, f2⟩ := vx_frame hsame
  rw [hhp] at f1 f2
  have hWs : s.WarmedH U.vm := State.WarmedH.trans hW0 hW
  have hcl : s.vm.findClass cls = some ce.cls := by
    have h9 := hO.cls
    rw [hvm] at h9
    exact h9
  have hall : s.sameButNew ({ U with vm := s.vm } : State) locs mc ms := by
    subst hA
    obtain ⟨e1, e2⟩ := hsame
    rw [State.setFrames_setFrames] at e1
    have h2 : (T.setVm s.vm).sameButNew ({ U with vm := s.vm } : State) [] (0 + 1) (0 + 6) := ⟨e1, e2⟩
    have h3 := X.same.trans h2
    rw [List.append_nil] at h3
    exact h3.mono hc hs
  refine ⟨U, ?_, .threw T.heap.size, hrun, hend, Or.inr ⟨T.heap.size, rfl, cls, ce, locs, hx U hWs.alike f1 (fun q hq => f2 q hq (fun z hz => nomatch hz)), hce, hO.vm, hcl, hWs, hall, hf⟩⟩
  refine st1 _ ?_
  show Steps p.tables e below (T1.setTop { method := m, pc := pc + 3, locals := ls, stack := .ref T.heap.size :: rest, locked := none }) _
  jvm_step X₁.here [X₁.here.top, hexec, d3', Value.category]
  exact hsteps
/-- 'throw new E("text")': new; dup; ldc; invokespecial; athrow -/
theorem vx_throwS {cc : ByteArray} {pc : Nat} (hexec : p.tables.exec = Jvm.exec) (hb : c.code = cc) (hl : l.stackTraces = false) {own cls text : String} {names : List String} {ik is ic mc ms sa : Nat} {A : Nat → Prop}
    (hown : s.vm.findClass own = some m.cls) (hcls : Bundle.fit cls = true) (hnames : ∀ n ∈ names, Bundle.fit n = true)
    (hk : (Cond.classLink own ik cls).before args s = true) (hini : (Cond.initialized cls).before args s = true) (hstr : vk_R own is text sa s) (hat : ∀ w ∈ vx_atS own ic cls names, w.before args s = true)
    (hgood : ∀ w ∈ Cond.classLink own ik cls :: Cond.initialized cls :: vx_atS own ic cls names, vx_ot w = true)
    (hU : vx_Zq Bundle.tN "UNASSIGNED_STACK" Bundle.steD A s s.heap) (hN : vx_Zq Bundle.tN "SUPPRESSED_SENTINEL" Bundle.listD A s s.heap) (hS : va_S A s.heap H locs) (hsize : ls.size = c.maxLocals)
    (d0 : decode cc pc = .ok (.new ik, 3)) (d3 : decode cc (pc + 3) = .ok (.dup, 1)) (d4 : decode cc (pc + 4) = .ok (.ldc is, 2)) (d6 : decode cc (pc + 6) = .ok (.invokespecial ic, 3)) (d9 : decode cc (pc + 9) = .ok (.athrow, 1))
    (hout : ∀ x ∈ c.exceptionTable.toList, covers x (pc + 9) = false)
    (hRframes : names.length + 3 < R.frames) (hRlocals : (rest.map fun v => v.category).sum + (13 * (names.length + 1) + 43) ≤ R.locals) (hRcells : cells + 1 ≤ R.cells) (hRslots : slots + 6 ≤ R.slots) (hlocks : meth.locks = false)
    (hx : ∀ t : State, s.vm.Alike t.vm → H.size ≤ t.heap.size → (∀ q : Nat, q < H.size → t.heap[q]? = H[q]?) → XC cls s t)
    (hf : ∀ z ∈ locs, free z.base) (hc : cells + 1 ≤ mc) (hs : slots + 6 ≤ ms) :
    W p l e R s m args below meth c H locs cells slots (vx_MQ below Qc XC args s mc ms free) (F0 m pc ls rest) := by
  intro T hT X
  have htr : e.platform.stackTraces = false := (show e.platform.stackTraces = l.stackTraces by rw [X.admits.platform]).trans hl
  have Y := vx_rebase X (R' := { frames := R.frames, locals := R.locals, cells := 1, slots := 6 }) (Nat.le_refl _) (Nat.le_refl _) hRcells hRslots
  obtain ⟨s', hA⟩ : ∃ z, z = (T.setVm s.vm).setFrames (.invoking m args :: below) := ⟨_, rfl⟩
  rw [← hA] at Y
  have hvm : s'.vm = s.vm := by rw [hA]; rfl
  have hhp : s'.heap = H := by rw [hA]; exact hT
  have hW0 : s.WarmedH s'.vm := by rw [hvm]; exact State.WarmedH.refl s
  have hat' : ∀ w ∈ vx_atS own ic cls names, w.before args s' = true := fun w hw => vx_ot_at hW0 hvm.symm (hgood w (List.mem_cons_of_mem _ (List.mem_cons_of_mem _ hw))) (hat w hw)
  have hk' : (Cond.classLink own ik cls).before args s' = true := vx_ot_at hW0 hvm.symm (hgood _ List.mem_cons_self) hk
  have hini' : (Cond.initialized cls).before args s' = true := vx_ot_at hW0 hvm.symm (hgood _ (List.mem_cons_of_mem _ List.mem_cons_self)) hini
  have hU' : vx_Zq Bundle.tN "UNASSIGNED_STACK" Bundle.steD A s' s'.heap := by rw [hhp]; exact vx_Zq.moved hW0.alike (hU.kept hS.2.1)
  have hN' : vx_Zq Bundle.tN "SUPPRESSED_SENTINEL" Bundle.listD A s' s'.heap := by rw [hhp]; exact vx_Zq.moved hW0.alike (hN.kept hS.2.1)
  have h : ∀ w ∈ Bundle.ownAtoms own ic cls names, w.before args s' = true := vx_own hat' (vx_isRefq hU'.1) (vx_isRefq hN'.1) hU'.2.word hN'.2.word
  have hown' : s'.vm.findClass own = some m.cls := by rw [hvm]; exact hown
  have hins : (Cond.instantiable cls 6).before args s' = true := h _ (by simp [Bundle.ownAtoms])
  obtain ⟨vm₁, cX, kX, hfX, hkX, -, -, X₁, st1⟩ := Y.newCold hexec (own := own) (C := cls) (index := ik) (n := 6) hown' hk' hins hini'
    (g := F0 m pc ls rest) rfl (by rw [hb]; exact d0) (Nat.le_refl _) (Nat.le_refl _)
  generalize hT1 : (T.setVm vm₁).pushCell { cls := cX, slots := kX.instanceTypes.map defaultValue, vm := .none } = T1 at X₁ st1
  have hcat : (Value.ref T.heap.size).category = 1 := rfl
  have hcellA : T1.heap[T.heap.size]? = some (freshCell cX kX) := by rw [← hT1]; exact State.heap_pushCell_size _ _
  have d3' : decode c.code (pc + 3) = .ok (.dup, 1) := by rw [hb]; exact d3
  have d4' : decode c.code (pc + 4) = .ok (.ldc is, 2) := by rw [hb]; exact d4
  have hstr' : vk_R own is text sa s' := vk_R.warm hW0 hstr
  obtain ⟨U, hsteps, hrun, hend, hW, hsame, ce, hce, hO⟩ := X₁.ctorThrowS hexec htr (own := own) (cls := cls) (names := names) (ic := ic) hown' hcls hnames h (fun x hx => nomatch hx) hfX hkX hcellA (by rw [hhp, hT]; exact Nat.le_refl _) (msg := .ref sa) rfl
    (g := { method := m, pc := pc + 6, locals := ls, stack := .ref sa :: .ref T.heap.size :: .ref T.heap.size :: rest, locked := none }) rfl hsize rfl rfl (rest := rest) rfl
    (by rw [hb]; exact d6) (by rw [hb]; exact d9) hout hRframes (by simp only [List.map_cons, List.sum_cons, hcat]; omega) hlocks
  obtain ⟨f1, f2⟩ := vx_frame hsame
  rw [hhp] at f1 f2
  have hWs : s.WarmedH U.vm := State.WarmedH.trans hW0 hW
  have hcl : s.vm.findClass cls = some ce.cls := by
    have h9 := hO.cls
    rw [hvm] at h9
    exact h9
  have hall : s.sameButNew ({ U with vm := s.vm } : State) locs mc ms := by
    subst hA
    obtain ⟨e1, e2⟩ := hsame
    rw [State.setFrames_setFrames] at e1
    have h2 : (T.setVm s.vm).sameButNew ({ U with vm := s.vm } : State) [] (0 + 1) (0 + 6) := ⟨e1, e2⟩
    have h3 := X.same.trans h2
    rw [List.append_nil] at h3
    exact h3.mono hc hs
  refine ⟨U, ?_, .threw T.heap.size, hrun, hend, Or.inr ⟨T.heap.size, rfl, cls, ce, locs, hx U hWs.alike f1 (fun q hq => f2 q hq (fun z hz => nomatch hz)), hce, hO.vm, hcl, hWs, hall, hf⟩⟩
  refine st1 _ ?_
  show Steps p.tables e below (T1.setTop { method := m, pc := pc + 3, locals := ls, stack := .ref T.heap.size :: rest, locked := none }) _
  jvm_step X₁.here [X₁.here.top, hexec, d3', Value.category]
  exact X₁.ldcString hexec (own := own) (text := text) (index := is) (a := sa) hown' hstr'.1 hstr'.2
    (g := { method := m, pc := pc + 4, locals := ls, stack := .ref T.heap.size :: .ref T.heap.size :: rest, locked := none }) rfl d4' _ hsteps
/-- 'throw new E("text")', the text by a wide index -/
theorem vx_throwSW {cc : ByteArray} {pc : Nat} (hexec : p.tables.exec = Jvm.exec) (hb : c.code = cc) (hl : l.stackTraces = false) {own cls text : String} {names : List String} {ik is ic mc ms sa : Nat} {A : Nat → Prop}
    (hown : s.vm.findClass own = some m.cls) (hcls : Bundle.fit cls = true) (hnames : ∀ n ∈ names, Bundle.fit n = true)
    (hk : (Cond.classLink own ik cls).before args s = true) (hini : (Cond.initialized cls).before args s = true) (hstr : vk_R own is text sa s) (hat : ∀ w ∈ vx_atS own ic cls names, w.before args s = true)
    (hgood : ∀ w ∈ Cond.classLink own ik cls :: Cond.initialized cls :: vx_atS own ic cls names, vx_ot w = true)
    (hU : vx_Zq Bundle.tN "UNASSIGNED_STACK" Bundle.steD A s s.heap) (hN : vx_Zq Bundle.tN "SUPPRESSED_SENTINEL" Bundle.listD A s s.heap) (hS : va_S A s.heap H locs) (hsize : ls.size = c.maxLocals)
    (d0 : decode cc pc = .ok (.new ik, 3)) (d3 : decode cc (pc + 3) = .ok (.dup, 1)) (d4 : decode cc (pc + 4) = .ok (.ldc_w is, 3)) (d7 : decode cc (pc + 7) = .ok (.invokespecial ic, 3)) (d10 : decode cc (pc + 10) = .ok (.athrow, 1))
    (hout : ∀ x ∈ c.exceptionTable.toList, covers x (pc + 10) = false)
    (hRframes : names.length + 3 < R.frames) (hRlocals : (rest.map fun v => v.category).sum + (13 * (names.length + 1) + 43) ≤ R.locals) (hRcells : cells + 1 ≤ R.cells) (hRslots : slots + 6 ≤ R.slots) (hlocks : meth.locks = false)
    (hx : ∀ t : State, s.vm.Alike t.vm → H.size ≤ t.heap.size → (∀ q : Nat, q < H.size → t.heap[q]? = H[q]?) → XC cls s t)
    (hf : ∀ z ∈ locs, free z.base) (hc : cells + 1 ≤ mc) (hs : slots + 6 ≤ ms) :
    W p l e R s m args below meth c H locs cells slots (vx_MQ below Qc XC args s mc ms free) (F0 m pc ls rest) := by
  intro T hT X
  have htr : e.platform.stackTraces = false := (show e.platform.stackTraces = l.stackTraces by rw [X.admits.platform]).trans hl
  have Y := vx_rebase X (R' := { frames := R.frames, locals := R.locals, cells := 1, slots := 6 }) (Nat.le_refl _) (Nat.le_refl _) hRcells hRslots
  obtain ⟨s', hA⟩ : ∃ z, z = (T.setVm s.vm).setFrames (.invoking m args :: below) := ⟨_, rfl⟩
  rw [← hA] at Y
  have hvm : s'.vm = s.vm := by rw [hA]; rfl
  have hhp : s'.heap = H := by rw [hA]; exact hT
  have hW0 : s.WarmedH s'.vm := by rw [hvm]; exact State.WarmedH.refl s
  have hat' : ∀ w ∈ vx_atS own ic cls names, w.before args s' = true := fun w hw => vx_ot_at hW0 hvm.symm (hgood w (List.mem_cons_of_mem _ (List.mem_cons_of_mem _ hw))) (hat w hw)
  have hk' : (Cond.classLink own ik cls).before args s' = true := vx_ot_at hW0 hvm.symm (hgood _ List.mem_cons_self) hk
  have hini' : (Cond.initialized cls).before args s' = true := vx_ot_at hW0 hvm.symm (hgood _ (List.mem_cons_of_mem _ List.mem_cons_self)) hini
  have hU' : vx_Zq Bundle.tN "UNASSIGNED_STACK" Bundle.steD A s' s'.heap := by rw [hhp]; exact vx_Zq.moved hW0.alike (hU.kept hS.2.1)
  have hN' : vx_Zq Bundle.tN "SUPPRESSED_SENTINEL" Bundle.listD A s' s'.heap := by rw [hhp]; exact vx_Zq.moved hW0.alike (hN.kept hS.2.1)
  have h : ∀ w ∈ Bundle.ownAtoms own ic cls names, w.before args s' = true := vx_own hat' (vx_isRefq hU'.1) (vx_isRefq hN'.1) hU'.2.word hN'.2.word
  have hown' : s'.vm.findClass own = some m.cls := by rw [hvm]; exact hown
  have hins : (Cond.instantiable cls 6).before args s' = true := h _ (by simp [Bundle.ownAtoms])
  obtain ⟨vm₁, cX, kX, hfX, hkX, -, -, X₁, st1⟩ := Y.newCold hexec (own := own) (C := cls) (index := ik) (n := 6) hown' hk' hins hini'
    (g := F0 m pc ls rest) rfl (by rw [hb]; exact d0) (Nat.le_refl _) (Nat.le_refl _)
  generalize hT1 : (T.setVm vm₁).pushCell { cls := cX, slots := kX.instanceTypes.map defaultValue, vm := .none } = T1 at X₁ st1
  have hcat : (Value.ref T.heap.size).category = 1 := rfl
  have hcellA : T1.heap[T.heap.size]? = some (freshCell cX kX) := by rw [← hT1]; exact State.heap_pushCell_size _ _
  have d3' : decode c.code (pc + 3) = .ok (.dup, 1) := by rw [hb]; exact d3
  have d4' : decode c.code (pc + 4) = .ok (.ldc_w is, 3) := by rw [hb]; exact d4
  have hstr' : vk_R own is text sa s' := vk_R.warm hW0 hstr
  obtain ⟨U, hsteps, hrun, hend, hW, hsame, ce, hce, hO⟩ := X₁.ctorThrowS hexec htr (own := own) (cls := cls) (names := names) (ic := ic) hown' hcls hnames h (fun x hx => nomatch hx) hfX hkX hcellA (by rw [hhp, hT]; exact Nat.le_refl _) (msg := .ref sa) rfl
    (g := { method := m, pc := pc + 7, locals := ls, stack := .ref sa :: .ref T.heap.size :: .ref T.heap.size :: rest, locked := none }) rfl hsize rfl rfl (rest := rest) rfl
    (by rw [hb]; exact d7) (by rw [hb]; exact d10) hout hRframes (by simp only [List.map_cons, List.sum_cons, hcat]; omega) hlocks
  obtain ⟨f1, f2⟩ := vx_frame hsame
  rw [hhp] at f1 f2
  have hWs : s.WarmedH U.vm := State.WarmedH.trans hW0 hW
  have hcl : s.vm.findClass cls = some ce.cls := by
    have h9 := hO.cls
    rw [hvm] at h9
    exact h9
  have hall : s.sameButNew ({ U with vm := s.vm } : State) locs mc ms := by
    subst hA
    obtain ⟨e1, e2⟩ := hsame
    rw [State.setFrames_setFrames] at e1
    have h2 : (T.setVm s.vm).sameButNew ({ U with vm := s.vm } : State) [] (0 + 1) (0 + 6) := ⟨e1, e2⟩
    have h3 := X.same.trans h2
    rw [List.append_nil] at h3
    exact h3.mono hc hs
  refine ⟨U, ?_, .threw T.heap.size, hrun, hend, Or.inr ⟨T.heap.size, rfl, cls, ce, locs, hx U hWs.alike f1 (fun q hq => f2 q hq (fun z hz => nomatch hz)), hce, hO.vm, hcl, hWs, hall, hf⟩⟩
  refine st1 _ ?_
  show Steps p.tables e below (T1.setTop { method := m, pc := pc + 3, locals := ls, stack := .ref T.heap.size :: rest, locked := none }) _
  jvm_step X₁.here [X₁.here.top, hexec, d3', Value.category]
  exact X₁.ldcStringW hexec (own := own) (text := text) (index := is) (a := sa) hown' hstr'.1 hstr'.2
    (g := { method := m, pc := pc + 4, locals := ls, stack := .ref T.heap.size :: .ref T.heap.size :: rest, locked := none }) rfl d4' _ hsteps
end Ends
section Bodies
variable {l : Launch}
theorem vx_ofW {y : MethodName} {ws ws' : List Cond} {rm : Room} {Pc : Array Value → State → Prop} {Qc : Array Value → State → Outcome → State → Prop} {XC : String → State → State → Prop} {mc ms : Nat} {free : Addr → Prop} {cc : ByteArray} {maxL : Nat} {ret : Option FieldType}
    (hy : plainName y.cls = true) (hw : ws = Cond.code y cc maxL ret :: ws')
    (body : ∀ p e s m args below meth c s₁, BodyLoose p l y (headSpec ws rm) cc maxL ret e s m args below meth c s₁ → c.maxLocals = maxL → (∀ x ∈ c.exceptionTable.toList, False) → Pc args s →
      W p l e (headSpec ws rm).room s m args below meth c s.heap [] 0 0 (vx_MQ below Qc XC args s mc ms free) (entryFrame m args maxL)) : vx_Met l y ws rm Pc Qc XC mc ms free := by
  refine MetFree.of_bodyS (code := cc) (maxLocals := maxL) (ret := ret) hy ?_ ?_
  · intro args s m h hn
    obtain ⟨meth, c, h1, h2, h3, h4, h5, h6, -, -⟩ := Cond.code_spec hn (atoms_spec (ws := ws) h _ (by rw [hw]; exact List.mem_cons_self))
    exact ⟨meth, c, h1, h2, h3, h4, h5, h6⟩
  · intro p e s m args below meth c s₁ B hml hP _
    have hh0 : s₁.heap = s.heap := by rw [B.state]; rfl
    have ht : ∀ x ∈ c.exceptionTable.toList, False := by
      obtain ⟨meth9, c9, h1, h2, -, -, -, -, h7, -⟩ := Cond.code_spec B.named (atoms_spec (ws := ws) B.pre _ (by rw [hw]; exact List.mem_cons_self))
      cases Option.some.inj (h1.symm.trans B.method)
      cases Option.some.inj (h2.symm.trans (Stand.of_body B).code)
      intro x hx
      rw [Array.isEmpty_iff.mp h7] at hx
      cases hx
    obtain ⟨t, a1, o, b1, b2, b3⟩ := body p e s m args below meth c s₁ B hml ht hP s₁ hh0 (Stand.of_body B)
    exact ⟨t, o, a1, b1, b2, b3⟩
/-- the table of a body with handlers -/
theorem vx_table {p : Program} {x y : MethodName} {S : Spec} {cc bytes : ByteArray} {maxL maxL' : Nat} {ret ret' : Option FieldType} {e : Env} {s s₁ : State} {m : MethodId} {args : Array Value} {below : List Frame} {meth : Method} {c : Code} {hh : List (Nat × Nat × Nat × Nat)}
    (B : BodyLoose p l y S cc maxL ret e s m args below meth c s₁) (h : (Cond.codeWith y bytes maxL' ret' hh).before args s = true) : c.exceptionTable.toList = tableOf hh := by
  obtain ⟨m9, meth9, c9, hn9, h1, h2, -, -, h6, -⟩ := Cond.codeWith_spec h
  cases Option.some.inj (hn9.symm.trans B.named)
  cases Option.some.inj (h1.symm.trans B.method)
  cases Option.some.inj (h2.symm.trans (Stand.of_body B).code)
  rw [← h6, table_eq]
end Bodies
end VXA
/-! ===== END ===== -/
/-! ===== BEGIN a static call of a method with an exception table ===== -/
section VXS
variable {p : Program} {l : Launch} {e : Env} {R : Room} {s : State} {m : MethodId} {args : Array Value} {below : List Frame} {meth : Method} {c : Code} {T : State} {H : Heap} {locs : List Loc} {cells slots : Nat}
abbrev vx_CSW (R : Room) (s : State) (args : Array Value) (own : String) (index : Nat) (y : MethodName) (bytes : ByteArray) (maxL : Nat) (ret : Option FieldType) (hh : List (Nat × Nat × Nat × Nat)) (ws : List Cond) (rm : Room) (mc ms n : Nat) : Prop :=
  (rm.cells = mc ∧ rm.slots = ms ∧ rm.frames + 1 ≤ R.frames ∧ 8 + (maxL + 11) + rm.locals ≤ R.locals ∧ (∀ w ∈ ws, ∀ (a' : Array Value) (U : State), s.WarmedH U.vm → w.before a' U = true) ∧ Cond.codeWith y bytes maxL ret hh ∈ ws) ∧
  (Cond.codeWith y bytes maxL ret hh).before args s = true ∧ (Cond.initialized y.cls).before args s = true ∧ (y.cls ≠ "java/lang/invoke/MethodHandle" ∧ y.cls ≠ "java/lang/invoke/VarHandle") ∧
  (∀ sig, parseMethodDescriptor y.desc = some sig → n = sig.parameters.length) ∧ (Cond.methodLink own index y).before args s = true ∧ (Cond.static y).before args s = true
theorem vx_cwSW {own : String} {index maxL mc ms : Nat} {y : MethodName} {bytes : ByteArray} {ret : Option FieldType} {hh : List (Nat × Nat × Nat × Nat)} {Ts ws ws' : List Cond} {rm : Room} (n : Nat) (ht : ∀ w ∈ Ts, w.before args s = true) (hT : GoodIn Ts (va_wsS own index y ws)) (hw : ws = Cond.codeWith y bytes maxL ret hh :: ws') (hrc : rm.cells = mc) (hrs : rm.slots = ms)
    (hd : y.cls ≠ "java/lang/invoke/MethodHandle" ∧ y.cls ≠ "java/lang/invoke/VarHandle" ∧ (parseMethodDescriptor y.desc).map (fun d => d.parameters.length) = some n) (hR : rm.frames + 1 ≤ R.frames ∧ 8 + (maxL + 11) + rm.locals ≤ R.locals) :
    vx_CSW R s args own index y bytes maxL ret hh ws rm mc ms n := by
  have ok : ∀ w ∈ va_wsS own index y ws, w.before args s = true := fun w h => ht w (hT w h).1
  have hG : GoodIn Ts ws := fun w h => hT w (by unfold va_wsS; exact List.mem_append_right _ h)
  have hc : Cond.codeWith y bytes maxL ret hh ∈ ws := by rw [hw]; exact List.mem_cons_self
  refine ⟨⟨hrc, hrs, hR.1, hR.2, pay_in ht hG, hc⟩, ht _ (hG _ hc).1, ok _ (by simp [va_wsS]), ⟨hd.1, hd.2.1⟩, fun sig h => ?_, ok _ (by simp [va_wsS]), ok _ (by simp [va_wsS])⟩
  have h2 := hd.2.2
  rw [h] at h2
  exact (Option.some.inj h2).symm
theorem vx_callSW (X : Stand p l e R s m args below meth c T locs cells slots) (hexec : p.tables.exec = Jvm.exec) {own : String} {index : Nat} {y : MethodName} {bytes : ByteArray} {maxL : Nat} {ret : Option FieldType} {hh : List (Nat × Nat × Nat × Nat)}
    (hown : s.vm.findClass own = some m.cls) (hlink : (Cond.methodLink own index y).before args s = true) (hstat : (Cond.static y).before args s = true) (hinit : (Cond.initialized y.cls).before args s = true)
    (hcode : (Cond.codeWith y bytes maxL ret hh).before args s = true) (hy : y.cls ≠ "java/lang/invoke/MethodHandle" ∧ y.cls ≠ "java/lang/invoke/VarHandle")
    {W9 : Nat} {Pre : Pt → Array Value → Prop} {Post : Pt → Array Value → Option Value → Pt → Prop} (hK : Back l R p e below s args y 3 W9 Pre Post)
    {g : JFrame} (hg : g.method = m) (hsize : g.locals.size = c.maxLocals) {argsL rest : List Value} (hlen : ∀ sig, parseMethodDescriptor y.desc = some sig → argsL.length = sig.parameters.length)
    (hstack : g.stack = argsL.reverse ++ rest) (hW : 2 * g.monitorRoom + (rest.map fun v => v.category).sum ≤ W9) (hdg : decode c.code g.pc = .ok (.invokestatic index, 3))
    (hpre : ∀ vm₁, s.WarmedH vm₁ → Pre ⟨T.setVm vm₁, locs, cells, slots⟩ argsL.toArray) :
    ∃ (v : Option Value) (vm₁ : Vm) (B : Pt), s.WarmedH vm₁ ∧ Stand p l e R s m args below meth c B.U B.locs B.cells B.slots ∧ Post ⟨T.setVm vm₁, locs, cells, slots⟩ argsL.toArray v B ∧
      ∀ target, Steps p.tables e below (B.U.setTop { g with pc := g.pc + 3, stack := v.toList ++ rest }) target → Steps p.tables e below (T.setTop g) target := by
  obtain ⟨mk, methM, cM, hnamed, hmethM, -, -, -, -, -, -, hsigM⟩ := Cond.codeWith_spec hcode
  have hstatic : methM.isStatic = true := Cond.static_spec hnamed hmethM hstat
  obtain ⟨kP, hkP, -⟩ := className_of_methodNamed hnamed
  have hinitP : kP.init = .initialized := Cond.initialized_spec (findClass_of_methodNamed hnamed) hkP hinit
  obtain ⟨vm₁, X₁, hstep₁⟩ := X.invokestatic hexec hown hlink hnamed hmethM hstatic hkP hinitP hy (g := g) hg (argsL := argsL) (rest := rest) (hlen _ hsigM) hstack hdg
  obtain ⟨v, B, X', hpost, hsteps⟩ := hK m meth c ⟨T.setVm vm₁, locs, cells, slots⟩ { g with stack := rest } (.invokestatic index) mk argsL.toArray X₁ hg hsize hdg hW (X₁.named hnamed) (hpre vm₁ X₁.warmed)
  exact ⟨v, vm₁, B, X₁.warmed, X', hpost, fun target h => hstep₁ _ fun acts => by rw [doInvoke_state]; exact hsteps.trans h⟩
theorem vx_runSW {y : MethodName} {bytes cc : ByteArray} {maxL nL mc ms n index : Nat} {ret : Option FieldType} {hh : List (Nat × Nat × Nat × Nat)} {ws : List Cond} {rm : Room} {Pc : Array Value → State → Prop} {Qc : Array Value → State → Outcome → State → Prop} {free : Addr → Prop} {Ts : List Cond} {own : String} {As rest : List Value} {g : JFrame}
    (S : CallFix p m c cc nL s args Ts own) (hM : Met l y ws rm Pc Qc mc ms free) (cw : vx_CSW R s args own index y bytes maxL ret hh ws rm mc ms n) (hp : PreS s H Pc As)
    (hg : g.method = m) (hn : As.length = n) (hsize : g.locals.size = nL) (hstack : g.stack = As.reverse ++ rest) (hW : 2 * g.monitorRoom + (rest.map fun v => v.category).sum ≤ 8) (hdg : decode cc g.pc = .ok (.invokestatic index, 3)) (hf : cells + mc ≤ R.cells ∧ slots + ms ≤ R.slots) :
    va_Run p l e R s m args below meth c H locs cells slots mc ms g rest (Qc As.toArray) (free) := by
  obtain ⟨⟨hrc, hrs, hfr, hlo, hws, hcw⟩, hcode, hini, hy, hlen, hl, hstt⟩ := cw
  have hK : Back l R p e below s args y 3 8 (PreOf R mc ms Pc) (PostOf Qc mc ms free) := va_backW (hh := hh) (bytes := bytes) (maxL := maxL) (ret := ret) hM hp.1 hrc hrs hfr hlo hws hcw (fun a' U hW => word_at hW (Or.inl (by first | rfl | simp [Cond.onTables, Cond.keeps, Cond.steady])) hini)
  obtain ⟨hx, hb, hml, ho, -⟩ := S
  intro T hT X
  obtain ⟨v, vm₁, ⟨U', l2, c2, s2⟩, hW₁, X', ⟨g', mk, t, L, e1, e2, hq, h1, hL, h2, h3⟩, st⟩ := vx_callSW X hx (hh := hh) (bytes := bytes) (maxL := maxL) (ret := ret) ho hl hstt hini hcode hy hK hg (hsize.trans hml.symm) (argsL := As) (rest := rest) (fun sig h => hn.trans (hlen sig h)) hstack hW (by rw [hb]; exact hdg)
    (fun vm₁ hW₁ => ⟨hf.1, hf.2, hp.2 (T.setVm vm₁) hT hW₁⟩)
  dsimp only [Pt.U, Pt.locs, Pt.cells, Pt.slots] at X' e1 e2 h1 h2 h3 st
  subst h1; subst h2; subst h3
  exact ⟨v, (T.setVm vm₁).calling g' mk As.toArray, t, U', L, hT, X', hL, e1, e2, hq, st⟩
/-- not caught here, past rows that name other classes: it goes on to the caller -/
theorem vx_outP {p : Program} {l : Launch} {e : Env} {R : Room} {s : State} {m : MethodId} {args : Array Value} {below : List Frame} {meth : Method} {c : Code} {H : Heap} {locs : List Loc} {cells slots : Nat} {free : Addr → Prop} {ls : Array Slot} {rest : List Value} {Qc : Array Value → State → Outcome → State → Prop} {XC : String → State → State → Prop}
    {pc : Nat} {own E : String} {ce : Cell} {q : Addr} {mc ms : Nat} (hown : s.vm.findClass own = some m.cls) (hlocks : meth.locks = false)
    (hpass : ∀ z ∈ c.exceptionTable.toList, covers z pc = false ∨ (z.catchType ≠ 0 ∧ ∃ nm : String, (Cond.classLink own z.catchType nm).before args s = true ∧ va_Nc E nm s)) (hcell : H[q]? = some ce) (hv : ce.vm = .none) (hcl : s.vm.findClass E = some ce.cls)
    (hx : ∀ t : State, t.heap = H → s.vm.Alike t.vm → XC E s t) (hf : ∀ z ∈ locs, free z.base) (hc : cells ≤ mc) (hs : slots ≤ ms) :
    vx_W p l e R s m args below meth c H locs cells slots (vx_MQ below Qc XC args s mc ms free) (F0 m pc ls rest) q := by
  intro T hT X
  have hpl : e.platform.magicAccessors = ({} : Platform).magicAccessors := by rw [X.admits.platform]
  obtain ⟨vm', hW', X', st⟩ := X.outThrough hlocks q (g := F0 m pc ls rest) rfl rfl rfl (cell := ce) (by rw [hT]; exact hcell) (by rw [hv]; rfl)
    (by obtain ⟨k9, h9, -⟩ := Vm.findClass_spec hcl; exact ⟨k9, h9⟩) (fun z hz => by
      rcases hpass z hz with h | ⟨hz0, nm, hl1, hn1⟩
      · exact Or.inl h
      · obtain ⟨c6, hc6, hcl6⟩ := Cond.classLink_spec hown hl1 e.platform hpl
        obtain ⟨a8, b8, h1, h2, h3⟩ := hn1
        cases Option.some.inj (h1.symm.trans hcl)
        cases Option.some.inj (h2.symm.trans hc6)
        exact Or.inr ⟨hz0, _, hcl6, h3⟩)
  obtain ⟨g₀, hfr⟩ := X'.frames_eq
  have hcell9 : ((T.setVm vm').setFrames (.throwing q :: below)).heap[q]? = some ce := by
    show T.heap[q]? = some ce
    rw [hT]; exact hcell
  have hend : Ended ((T.setVm vm').setFrames (.throwing q :: below)) below (.threw q) := State.frames_setFrames _ (State.cur_lt_of_frames hfr)
  refine ⟨(T.setVm vm').setFrames (.throwing q :: below), ?_, .threw q, X'.here.running, hend, Or.inr ⟨q, rfl, E, ce, locs, hx _ hT (X'.ends _).1.alike, hcell9, hv, hcl, (X'.ends _).1, (X'.ends _).2.mono hc hs, hf⟩⟩
  rw [X.pushThrowing_eq]
  exact st
/-- a thing of a world lies in the heap -/
theorem vx_lt {D : va_G} {cl : List vw_C} {ws : va_W} {H1 : Heap} (h : va_P D cl ws H1) {k : Nat} {q : Nat × va_E} (hk : ws[k]? = some q) : q.1 < H1.size := (h k q hk).lt
end VXS
/-! ===== END ===== -/
/-! ===== BEGIN methods with a table of their own: called by a name, returning or throwing ===== -/
section VXH
/-! vx_backW, vx_callVX, vx_callSX, vx_callVW, vx_runVW, vx_runVX, vx_runSX, vx_ofWH follow the same proofs as their sisters above (Free/Laws.lean, Shelf42/LK1.lean); vx_outP calls Shelf42/NT130.lean (outThrough). -/
section
variable {l : Launch} {R : Room} {p : Program} {e : Env} {below : List Frame} {s : State} {sargs : Array Value} {y : MethodName} {len W9 : Nat}
theorem vx_backW {ws : List Cond} {rm : Room} {Pc : Array Value → State → Prop} {Qc : Array Value → State → Outcome → State → Prop} {XC : String → State → State → Prop} {mc ms : Nat} {free : Addr → Prop} {bytes : ByteArray} {maxL : Nat} {ret : Option FieldType} {hh : List (Nat × Nat × Nat × Nat)}
    (hM : vx_Met l y ws rm Pc Qc XC mc ms free) (hblind : FrameBlind Pc) (hrc : rm.cells = mc) (hrs : rm.slots = ms)
    (hframes : rm.frames + 1 ≤ R.frames) (hlocals : W9 + (maxL + 11) + rm.locals ≤ R.locals)
    (hws : ∀ w ∈ ws, ∀ a' U, s.WarmedH U.vm → w.before a' U = true) (hcode : Cond.codeWith y bytes maxL ret hh ∈ ws) (hinit : ∀ a' U, s.WarmedH U.vm → (Cond.initialized y.cls).before a' U = true) :
    vx_Back l R p e below s sargs y len W9 (PreOf R mc ms Pc) (PostOf Qc mc ms free) (vx_Post XC mc ms free) := by
  intro m meth c A g ig mk a X hg hsize hdg hW hn hp
  have h1 : (headSpec ws rm).pre.before a A.U = true := atoms_intro fun w hw => hws w hw _ _ X.warmed
  have h2 : (Cond.codeWith y bytes maxL ret hh).before a A.U = true := hws _ hcode _ _ X.warmed
  have h3 : (Cond.initialized y.cls).before a A.U = true := hinit _ _ X.warmed
  have h4 : A.cells + (headSpec ws rm).room.cells ≤ R.cells := by rw [show (headSpec ws rm).room.cells = mc from hrc]; exact hp.1
  have h5 : A.slots + (headSpec ws rm).room.slots ≤ R.slots := by rw [show (headSpec ws rm).room.slots = ms from hrs]; exact hp.2.1
  have hPc : Pc a (A.U.calling g mk a) := hblind _ _ _ _ hp.2.2
  obtain ⟨U, Ls, c0, s0⟩ := A
  dsimp only [Pt.U, Pt.locs, Pt.cells, Pt.slots] at h1 h2 h3 h4 h5 X hn hPc ⊢
  obtain ⟨m9, methY, cY, hn9, hmY, hcY, -, hlY, -⟩ := Cond.codeWith_spec h2
  cases Option.some.inj (hn9.symm.trans hn)
  obtain ⟨kY, hkY, -⟩ := className_of_methodNamed hn
  have hinitY : kY.init = .initialized := Cond.initialized_spec (findClass_of_methodNamed hn) hkY h3
  have h : At U g.method c below := by rw [hg]; exact X.here
  have hlocals9 : W9 + (maxL + 11) + (headSpec ws rm).room.locals ≤ R.locals := hlocals
  have happ : (headSpec ws rm).appliesLoose y e.platform (U.calling g mk a) = true :=
    Spec.appliesLoose_calling (g := g) h hdg hn hkY hinitY
      (X.room_calling (g := g) (R' := (headSpec ws rm).room) hsize hmY hcY hframes (by rw [hlY]; omega) h4 h5) h1
  obtain ⟨mid, hmid⟩ := h.above
  have hfr : (U.setTop g).frames = (.java g :: mid) ++ below := by rw [State.frames_setTop' g h.top, hmid]; rfl
  obtain ⟨o, s₂, hsteps, -, hend, hq⟩ := Steps.callFree hM p X.admits X.cas X.clock (acts := []) hfr happ hPc trivial
  have hq' : vx_Q Qc XC mc ms free a (U.calling g mk a) o s₂ := hq
  rw [State.frames_setTop' g h.top] at hend
  obtain ⟨g₀, hg0⟩ := Option.isSome_iff_exists.mp h.top
  obtain ⟨r, hr⟩ := State.topJava?_eq_some.mp hg0
  have hr' : (({ U with heap := s₂.heap, slotsUsed := s₂.slotsUsed } : State).setVm s₂.vm).frames = .java g₀ :: r := hr
  rcases hq' with ⟨hqc, L, hfe, hL⟩ | ⟨q, rfl, E, ce, L, hx, hce, hcv, hcl, hW₂, hsm, hL⟩
  · obtain ⟨⟨v, rfl⟩, hW₂, e2, q2, q3, q4, q5, q6⟩ := id hfe
    have e3 : s₂ = ({ (U.calling g mk a).setFrames s₂.frames with heap := s₂.heap, slotsUsed := s₂.slotsUsed } : State).setVm s₂.vm := by
      have : s₂ = ({ s₂ with vm := (U.calling g mk a).vm } : State).setVm s₂.vm := rfl
      rw [e2] at this
      exact this
    obtain ⟨c₂, i₂, len₂, hc₂, hd₂, hf₂⟩ := hend
    have hW' : U.WarmedH s₂.vm := hW₂
    have hcc : c₂ = c := by
      have h1 : s₂.code? g.method = U.code? g.method := by
        rw [State.code?_eq, State.code?_eq, hW'.alike.method?]
      exact Option.some.inj (hc₂.symm.trans (h1.trans h.code))
    subst hcc
    have hlen : len₂ = len := by rw [hdg] at hd₂; cases hd₂; rfl
    subst hlen
    have hs₂ : s₂ = (({ U with heap := s₂.heap, slotsUsed := s₂.slotsUsed } : State).setVm s₂.vm).setTop { g with pc := g.pc + len₂, stack := v.toList ++ g.stack } := by
      refine e3.trans ?_
      rw [hf₂, State.calling_eq h.top, State.setFrames_setFrames, State.setTop_of_frames _ hr', hr]
      rfl
    have hsame : U.sameButNew ({ U with heap := s₂.heap, slotsUsed := s₂.slotsUsed } : State) L mc ms := by
      refine ⟨?_, q2, q3, q4, q5, q6⟩
      obtain ⟨t, ht, -⟩ := State.frames_cons hr
      show ({ U with heap := s₂.heap, slotsUsed := s₂.slotsUsed } : State) = { U.setFrames U.frames with heap := s₂.heap, slotsUsed := s₂.slotsUsed }
      rw [State.setFrames_self ht]
    subst hg
    refine Or.inl ⟨v, ⟨(({ U with heap := s₂.heap, slotsUsed := s₂.slotsUsed } : State).setVm s₂.vm), Ls ++ L, c0 + mc, s0 + ms⟩,
      ⟨X.admits, X.cas, X.clock, X.frames, X.room, X.hears, X.method, X.code, (X.here.setHeapUsed s₂.heap s₂.slotsUsed).setVm hW'.alike, X.tail, State.WarmedH.trans X.warmed hW', X.limits, X.bytes, X.same.trans (hsame.setVm s.vm)⟩,
      ⟨g, mk, s₂, L, rfl, rfl, hqc, rfl, hL, rfl, rfl⟩, ?_⟩
    show Steps p.tables e below _ ((({ U with heap := s₂.heap, slotsUsed := s₂.slotsUsed } : State).setVm s₂.vm).setTop { g with pc := g.pc + len₂, stack := v.toList ++ g.stack })
    rw [← hs₂]
    exact hsteps
  · obtain ⟨e2, q2, q3, q4, q5, q6⟩ := id hsm
    have e3 : s₂ = ({ (U.calling g mk a).setFrames s₂.frames with heap := s₂.heap, slotsUsed := s₂.slotsUsed } : State).setVm s₂.vm := by
      have : s₂ = ({ s₂ with vm := (U.calling g mk a).vm } : State).setVm s₂.vm := rfl
      rw [e2] at this
      exact this
    have hf₂ : s₂.frames = .throwing q :: .java g :: U.frames.tail := hend
    have hW' : U.WarmedH s₂.vm := hW₂
    have hs₂ : s₂ = ((({ U with heap := s₂.heap, slotsUsed := s₂.slotsUsed } : State).setVm s₂.vm).setTop g).pushFrame (.throwing q) := by
      refine e3.trans ?_
      rw [hf₂, State.calling_eq h.top, State.setFrames_setFrames, State.pushFrame, State.frames_setTop _ hr', State.setTop_of_frames _ hr', State.setFrames_setFrames, hr]
      rfl
    have hsame : U.sameButNew ({ U with heap := s₂.heap, slotsUsed := s₂.slotsUsed } : State) L mc ms := by
      refine ⟨?_, q2, q3, q4, q5, q6⟩
      obtain ⟨t, ht, -⟩ := State.frames_cons hr
      show ({ U with heap := s₂.heap, slotsUsed := s₂.slotsUsed } : State) = { U.setFrames U.frames with heap := s₂.heap, slotsUsed := s₂.slotsUsed }
      rw [State.setFrames_self ht]
    subst hg
    refine Or.inr ⟨q, ⟨(({ U with heap := s₂.heap, slotsUsed := s₂.slotsUsed } : State).setVm s₂.vm), Ls ++ L, c0 + mc, s0 + ms⟩,
      ⟨X.admits, X.cas, X.clock, X.frames, X.room, X.hears, X.method, X.code, (X.here.setHeapUsed s₂.heap s₂.slotsUsed).setVm hW'.alike, X.tail, State.WarmedH.trans X.warmed hW', X.limits, X.bytes, X.same.trans (hsame.setVm s.vm)⟩,
      ⟨g, mk, s₂, L, E, ce, rfl, rfl, hx, hce, hcv, hcl, rfl, hL, rfl, rfl⟩, ?_⟩
    show Steps p.tables e below _ (((({ U with heap := s₂.heap, slotsUsed := s₂.slotsUsed } : State).setVm s₂.vm).setTop g).pushFrame (.throwing q))
    rw [← hs₂]
    exact hsteps
end
variable {p : Program} {l : Launch} {e : Env} {R : Room} {s : State} {m : MethodId} {args : Array Value} {below : List Frame} {meth : Method} {c : Code} {T : State} {H : Heap} {locs : List Loc} {cells slots : Nat}
theorem vx_callVX (X : Stand p l e R s m args below meth c T locs cells slots) (hexec : p.tables.exec = Jvm.exec) {own C : String} {index : Nat} {y : MethodName} {bytes : ByteArray} {maxL : Nat} {ret : Option FieldType} {hh : List (Nat × Nat × Nat × Nat)}
    (hown : s.vm.findClass own = some m.cls) (hlink : (Cond.methodLink own index y).before args s = true) (hinst : (Cond.instanceMethod y).before args s = true) (hsel : (Cond.selects C y y).before args s = true)
    (hcode : (Cond.codeWith y bytes maxL ret hh).before args s = true) (hy : y.cls ≠ "java/lang/invoke/MethodHandle" ∧ y.cls ≠ "java/lang/invoke/VarHandle")
    {W9 : Nat} {Pre : Pt → Array Value → Prop} {Post : Pt → Array Value → Option Value → Pt → Prop} {PostX : Pt → Array Value → Addr → Pt → Prop} (hK : vx_Back l R p e below s args y 3 W9 Pre Post PostX)
    {b : Addr} {cellB : Cell} (hcell : T.heap[b]? = some cellB) (hobj : cellB.vm.isStatics = false) (hcls : s.vm.findClass C = some cellB.cls)
    {g : JFrame} (hg : g.method = m) (hsize : g.locals.size = c.maxLocals) {argsL rest : List Value} (hlen : ∀ sig, parseMethodDescriptor y.desc = some sig → argsL.length = sig.parameters.length)
    (hstack : g.stack = argsL.reverse ++ .ref b :: rest) (hW : 2 * g.monitorRoom + (rest.map fun v => v.category).sum ≤ W9) (hdg : decode c.code g.pc = .ok (.invokevirtual index, 3))
    (hpre : ∀ vm₁, s.WarmedH vm₁ → Pre ⟨T.setVm vm₁, locs, cells, slots⟩ (Value.ref b :: argsL).toArray) :
    (∃ (v : Option Value) (vm₁ : Vm) (B : Pt), s.WarmedH vm₁ ∧ Stand p l e R s m args below meth c B.U B.locs B.cells B.slots ∧ Post ⟨T.setVm vm₁, locs, cells, slots⟩ (Value.ref b :: argsL).toArray v B ∧
      ∀ target, Steps p.tables e below (B.U.setTop { g with pc := g.pc + 3, stack := v.toList ++ rest }) target → Steps p.tables e below (T.setTop g) target) ∨
    (∃ (q : Addr) (vm₁ : Vm) (B : Pt), s.WarmedH vm₁ ∧ Stand p l e R s m args below meth c B.U B.locs B.cells B.slots ∧ PostX ⟨T.setVm vm₁, locs, cells, slots⟩ (Value.ref b :: argsL).toArray q B ∧
      Steps p.tables e below (T.setTop g) ((B.U.setTop { g with stack := rest }).pushFrame (.throwing q))) := by
  obtain ⟨mk, methM, hnamed, hmethM, hstM, habM⟩ := Cond.instanceMethod_spec hinst
  obtain ⟨m8, methM', cM, hn8, hmethM', -, -, -, -, -, -, hsigM⟩ := Cond.codeWith_spec hcode
  cases Option.some.inj (hn8.symm.trans hnamed)
  cases hmethM.symm.trans hmethM'
  obtain ⟨c2, r2, m2, q1, q2, q3, q4, kP, hkP, hkPi⟩ := Cond.selects_spec hsel
  cases hcls.symm.trans q1
  cases (State.methodFound?_of_named hnamed hy).symm.trans q2
  cases hnamed.symm.trans q3
  have hselP : selectMethod e.platform s.vm cellB.cls mk = .method mk := by rw [Launch.admits_selectMethod X.admits]; exact q4
  obtain ⟨vm₁, X₁, hstep₁⟩ := X.invokevirtual hexec hown hlink hnamed hmethM hstM hkP hkPi hy (a := b) (cell := cellB) hcell
    (fun z h => by rw [h] at hobj; cases hobj) hselP hmethM habM hkP hkPi (g := g) hg (argsL := argsL) (rest := rest) (hlen _ hsigM) hstack hdg
  rcases hK m meth c ⟨T.setVm vm₁, locs, cells, slots⟩ { g with stack := rest } (.invokevirtual index) mk (Value.ref b :: argsL).toArray X₁ hg hsize hdg hW (X₁.named hnamed) (hpre vm₁ X₁.warmed) with ⟨v, B, X', hpost, hsteps⟩ | ⟨q, B, X', hpost, hsteps⟩
  · exact Or.inl ⟨v, vm₁, B, X₁.warmed, X', hpost, fun target h => hstep₁ _ fun acts => by rw [doInvoke_state]; exact hsteps.trans h⟩
  · exact Or.inr ⟨q, vm₁, B, X₁.warmed, X', hpost, hstep₁ _ fun acts => by rw [doInvoke_state]; exact hsteps⟩
theorem vx_callSX (X : Stand p l e R s m args below meth c T locs cells slots) (hexec : p.tables.exec = Jvm.exec) {own : String} {index : Nat} {y : MethodName} {bytes : ByteArray} {maxL : Nat} {ret : Option FieldType} {hh : List (Nat × Nat × Nat × Nat)}
    (hown : s.vm.findClass own = some m.cls) (hlink : (Cond.methodLink own index y).before args s = true) (hstat : (Cond.static y).before args s = true) (hinit : (Cond.initialized y.cls).before args s = true)
    (hcode : (Cond.codeWith y bytes maxL ret hh).before args s = true) (hy : y.cls ≠ "java/lang/invoke/MethodHandle" ∧ y.cls ≠ "java/lang/invoke/VarHandle")
    {W9 : Nat} {Pre : Pt → Array Value → Prop} {Post : Pt → Array Value → Option Value → Pt → Prop} {PostX : Pt → Array Value → Addr → Pt → Prop} (hK : vx_Back l R p e below s args y 3 W9 Pre Post PostX)
    {g : JFrame} (hg : g.method = m) (hsize : g.locals.size = c.maxLocals) {argsL rest : List Value} (hlen : ∀ sig, parseMethodDescriptor y.desc = some sig → argsL.length = sig.parameters.length)
    (hstack : g.stack = argsL.reverse ++ rest) (hW : 2 * g.monitorRoom + (rest.map fun v => v.category).sum ≤ W9) (hdg : decode c.code g.pc = .ok (.invokestatic index, 3))
    (hpre : ∀ vm₁, s.WarmedH vm₁ → Pre ⟨T.setVm vm₁, locs, cells, slots⟩ argsL.toArray) :
    (∃ (v : Option Value) (vm₁ : Vm) (B : Pt), s.WarmedH vm₁ ∧ Stand p l e R s m args below meth c B.U B.locs B.cells B.slots ∧ Post ⟨T.setVm vm₁, locs, cells, slots⟩ argsL.toArray v B ∧
      ∀ target, Steps p.tables e below (B.U.setTop { g with pc := g.pc + 3, stack := v.toList ++ rest }) target → Steps p.tables e below (T.setTop g) target) ∨
    (∃ (q : Addr) (vm₁ : Vm) (B : Pt), s.WarmedH vm₁ ∧ Stand p l e R s m args below meth c B.U B.locs B.cells B.slots ∧ PostX ⟨T.setVm vm₁, locs, cells, slots⟩ argsL.toArray q B ∧
      Steps p.tables e below (T.setTop g) ((B.U.setTop { g with stack := rest }).pushFrame (.throwing q))) := by
  obtain ⟨mk, methM, cM, hnamed, hmethM, -, -, -, -, -, -, hsigM⟩ := Cond.codeWith_spec hcode
  have hstatic : methM.isStatic = true := Cond.static_spec hnamed hmethM hstat
  obtain ⟨kP, hkP, -⟩ := className_of_methodNamed hnamed
  have hinitP : kP.init = .initialized := Cond.initialized_spec (findClass_of_methodNamed hnamed) hkP hinit
  obtain ⟨vm₁, X₁, hstep₁⟩ := X.invokestatic hexec hown hlink hnamed hmethM hstatic hkP hinitP hy (g := g) hg (argsL := argsL) (rest := rest) (hlen _ hsigM) hstack hdg
  rcases hK m meth c ⟨T.setVm vm₁, locs, cells, slots⟩ { g with stack := rest } (.invokestatic index) mk argsL.toArray X₁ hg hsize hdg hW (X₁.named hnamed) (hpre vm₁ X₁.warmed) with ⟨v, B, X', hpost, hsteps⟩ | ⟨q, B, X', hpost, hsteps⟩
  · exact Or.inl ⟨v, vm₁, B, X₁.warmed, X', hpost, fun target h => hstep₁ _ fun acts => by rw [doInvoke_state]; exact hsteps.trans h⟩
  · exact Or.inr ⟨q, vm₁, B, X₁.warmed, X', hpost, hstep₁ _ fun acts => by rw [doInvoke_state]; exact hsteps⟩
theorem vx_callVW (X : Stand p l e R s m args below meth c T locs cells slots) (hexec : p.tables.exec = Jvm.exec) {own C : String} {index : Nat} {y : MethodName} {bytes : ByteArray} {maxL : Nat} {ret : Option FieldType} {hh : List (Nat × Nat × Nat × Nat)}
    (hown : s.vm.findClass own = some m.cls) (hlink : (Cond.methodLink own index y).before args s = true) (hinst : (Cond.instanceMethod y).before args s = true) (hsel : (Cond.selects C y y).before args s = true)
    (hcode : (Cond.codeWith y bytes maxL ret hh).before args s = true) (hy : y.cls ≠ "java/lang/invoke/MethodHandle" ∧ y.cls ≠ "java/lang/invoke/VarHandle")
    {W9 : Nat} {Pre : Pt → Array Value → Prop} {Post : Pt → Array Value → Option Value → Pt → Prop} (hK : Back l R p e below s args y 3 W9 Pre Post)
    {b : Addr} {cellB : Cell} (hcell : T.heap[b]? = some cellB) (hobj : cellB.vm.isStatics = false) (hcls : s.vm.findClass C = some cellB.cls)
    {g : JFrame} (hg : g.method = m) (hsize : g.locals.size = c.maxLocals) {argsL rest : List Value} (hlen : ∀ sig, parseMethodDescriptor y.desc = some sig → argsL.length = sig.parameters.length)
    (hstack : g.stack = argsL.reverse ++ .ref b :: rest) (hW : 2 * g.monitorRoom + (rest.map fun v => v.category).sum ≤ W9) (hdg : decode c.code g.pc = .ok (.invokevirtual index, 3))
    (hpre : ∀ vm₁, s.WarmedH vm₁ → Pre ⟨T.setVm vm₁, locs, cells, slots⟩ (Value.ref b :: argsL).toArray) :
    ∃ (v : Option Value) (vm₁ : Vm) (B : Pt), s.WarmedH vm₁ ∧ Stand p l e R s m args below meth c B.U B.locs B.cells B.slots ∧ Post ⟨T.setVm vm₁, locs, cells, slots⟩ (Value.ref b :: argsL).toArray v B ∧
      ∀ target, Steps p.tables e below (B.U.setTop { g with pc := g.pc + 3, stack := v.toList ++ rest }) target → Steps p.tables e below (T.setTop g) target := by
  obtain ⟨mk, methM, hnamed, hmethM, hstM, habM⟩ := Cond.instanceMethod_spec hinst
  obtain ⟨m8, methM', cM, hn8, hmethM', -, -, -, -, -, -, hsigM⟩ := Cond.codeWith_spec hcode
  cases Option.some.inj (hn8.symm.trans hnamed)
  cases hmethM.symm.trans hmethM'
  obtain ⟨c2, r2, m2, q1, q2, q3, q4, kP, hkP, hkPi⟩ := Cond.selects_spec hsel
  cases hcls.symm.trans q1
  cases (State.methodFound?_of_named hnamed hy).symm.trans q2
  cases hnamed.symm.trans q3
  have hselP : selectMethod e.platform s.vm cellB.cls mk = .method mk := by rw [Launch.admits_selectMethod X.admits]; exact q4
  obtain ⟨vm₁, X₁, hstep₁⟩ := X.invokevirtual hexec hown hlink hnamed hmethM hstM hkP hkPi hy (a := b) (cell := cellB) hcell
    (fun z h => by rw [h] at hobj; cases hobj) hselP hmethM habM hkP hkPi (g := g) hg (argsL := argsL) (rest := rest) (hlen _ hsigM) hstack hdg
  obtain ⟨v, B, X', hpost, hsteps⟩ := hK m meth c ⟨T.setVm vm₁, locs, cells, slots⟩ { g with stack := rest } (.invokevirtual index) mk (Value.ref b :: argsL).toArray X₁ hg hsize hdg hW (X₁.named hnamed) (hpre vm₁ X₁.warmed)
  exact ⟨v, vm₁, B, X₁.warmed, X', hpost, fun target h => hstep₁ _ fun acts => by rw [doInvoke_state]; exact hsteps.trans h⟩
abbrev vx_CVW (R : Room) (s : State) (args : Array Value) (own C : String) (index : Nat) (y : MethodName) (bytes : ByteArray) (maxL : Nat) (ret : Option FieldType) (hh : List (Nat × Nat × Nat × Nat)) (ws : List Cond) (rm : Room) (mc ms n : Nat) : Prop :=
  (rm.cells = mc ∧ rm.slots = ms ∧ rm.frames + 1 ≤ R.frames ∧ 8 + (maxL + 11) + rm.locals ≤ R.locals ∧ (∀ w ∈ ws, ∀ (a' : Array Value) (U : State), s.WarmedH U.vm → w.before a' U = true) ∧ Cond.codeWith y bytes maxL ret hh ∈ ws) ∧
  (Cond.codeWith y bytes maxL ret hh).before args s = true ∧ (Cond.initialized y.cls).before args s = true ∧ (y.cls ≠ "java/lang/invoke/MethodHandle" ∧ y.cls ≠ "java/lang/invoke/VarHandle") ∧
  (∀ sig, parseMethodDescriptor y.desc = some sig → n = sig.parameters.length) ∧ (Cond.methodLink own index y).before args s = true ∧ (Cond.instanceMethod y).before args s = true ∧ (Cond.selects C y y).before args s = true
theorem vx_cwVW {own C : String} {index maxL mc ms : Nat} {y : MethodName} {bytes : ByteArray} {ret : Option FieldType} {hh : List (Nat × Nat × Nat × Nat)} {Ts ws ws' : List Cond} {rm : Room} (n : Nat) (ht : ∀ w ∈ Ts, w.before args s = true) (hT : GoodIn Ts (wsV own index C y ws)) (hw : ws = Cond.codeWith y bytes maxL ret hh :: ws') (hrc : rm.cells = mc) (hrs : rm.slots = ms)
    (hd : y.cls = C ∧ y.cls ≠ "java/lang/invoke/MethodHandle" ∧ y.cls ≠ "java/lang/invoke/VarHandle" ∧ (parseMethodDescriptor y.desc).map (fun d => d.parameters.length) = some n) (hR : rm.frames + 1 ≤ R.frames ∧ 8 + (maxL + 11) + rm.locals ≤ R.locals) :
    vx_CVW R s args own C index y bytes maxL ret hh ws rm mc ms n := by
  obtain ⟨hC, hd⟩ := hd
  subst hC
  have ok : ∀ w ∈ wsV own index y.cls y ws, w.before args s = true := fun w h => ht w (hT w h).1
  have hG : GoodIn Ts ws := fun w h => hT w (by unfold wsV; exact List.mem_append_right _ h)
  have hc : Cond.codeWith y bytes maxL ret hh ∈ ws := by rw [hw]; exact List.mem_cons_self
  refine ⟨⟨hrc, hrs, hR.1, hR.2, pay_in ht hG, hc⟩, ht _ (hG _ hc).1, ok _ (by simp [wsV]), ⟨hd.1, hd.2.1⟩, fun sig h => ?_, ok _ (by simp [wsV]), ok _ (by simp [wsV]), ok _ (by simp [wsV])⟩
  have h2 := hd.2.2
  rw [h] at h2
  exact (Option.some.inj h2).symm
theorem vx_runVW {y : MethodName} {bytes cc : ByteArray} {maxL nL mc ms n index : Nat} {ret : Option FieldType} {hh : List (Nat × Nat × Nat × Nat)} {ws : List Cond} {rm : Room} {Pc : Array Value → State → Prop} {Qc : Array Value → State → Outcome → State → Prop} {free : Addr → Prop} {Ts : List Cond} {own C : String} {b : Addr} {As rest : List Value} {g : JFrame}
    (S : CallFix p m c cc nL s args Ts own) (hM : Met l y ws rm Pc Qc mc ms free) (cw : vx_CVW R s args own C index y bytes maxL ret hh ws rm mc ms n) (hp : PreV s H C b Pc As)
    (hg : g.method = m) (hn : As.length = n) (hsize : g.locals.size = nL) (hstack : g.stack = As.reverse ++ .ref b :: rest) (hW : 2 * g.monitorRoom + (rest.map fun v => v.category).sum ≤ 8) (hdg : decode cc g.pc = .ok (.invokevirtual index, 3)) (hf : cells + mc ≤ R.cells ∧ slots + ms ≤ R.slots) :
    va_Run p l e R s m args below meth c H locs cells slots mc ms g rest (Qc (Value.ref b :: As).toArray) free := by
  obtain ⟨⟨hrc, hrs, hfr, hlo, hws, hcw⟩, hcode, hini, hy, hlen, hl, hin, hse⟩ := cw
  have hK : Back l R p e below s args y 3 8 (PreOf R mc ms Pc) (PostOf Qc mc ms free) := va_backW (hh := hh) (bytes := bytes) (maxL := maxL) (ret := ret) hM hp.1 hrc hrs hfr hlo hws hcw (fun a' U hW => word_at hW (Or.inl (by first | rfl | simp [Cond.onTables, Cond.keeps, Cond.steady])) hini)
  obtain ⟨hx, hb, hml, ho, -⟩ := S
  obtain ⟨-, ⟨cellB, hcB, hoB, hclB⟩, hPc⟩ := hp
  intro T hT X
  obtain ⟨v, vm₁, ⟨U', l2, c2, s2⟩, hW₁, X', ⟨g', mk, t, L, e1, e2, hq, h1, hL, h2, h3⟩, st⟩ := vx_callVW X hx (C := C) (hh := hh) (bytes := bytes) (maxL := maxL) (ret := ret) ho hl hin hse hcode hy hK (by rw [hT]; exact hcB) hoB hclB hg (hsize.trans hml.symm) (argsL := As) (rest := rest) (fun sig h => hn.trans (hlen sig h)) hstack hW (by rw [hb]; exact hdg)
    (fun vm₁ hW₁ => ⟨hf.1, hf.2, hPc (T.setVm vm₁) hT hW₁⟩)
  dsimp only [Pt.U, Pt.locs, Pt.cells, Pt.slots] at X' e1 e2 h1 h2 h3 st
  subst h1; subst h2; subst h3
  exact ⟨v, (T.setVm vm₁).calling g' mk (Value.ref b :: As).toArray, t, U', L, hT, X', hL, e1, e2, hq, st⟩
section
variable {y : MethodName} {bytes cc : ByteArray} {maxL nL mc ms n index : Nat} {ret : Option FieldType} {ws : List Cond} {rm : Room} {Pc : Array Value → State → Prop} {Qc : Array Value → State → Outcome → State → Prop} {XC : String → State → State → Prop} {free : Addr → Prop} {Ts : List Cond} {own C : String} {b : Addr} {As rest : List Value} {g : JFrame}
theorem vx_runVX {hh : List (Nat × Nat × Nat × Nat)} (S : CallFix p m c cc nL s args Ts own) (hM : vx_Met l y ws rm Pc Qc XC mc ms free) (cw : vx_CVW R s args own C index y bytes maxL ret hh ws rm mc ms n) (hp : PreV s H C b Pc As)
    (hg : g.method = m) (hn : As.length = n) (hsize : g.locals.size = nL) (hstack : g.stack = As.reverse ++ .ref b :: rest) (hW : 2 * g.monitorRoom + (rest.map fun v => v.category).sum ≤ 8) (hdg : decode cc g.pc = .ok (.invokevirtual index, 3)) (hf : cells + mc ≤ R.cells ∧ slots + ms ≤ R.slots) :
    vx_Run p l e R s m args below meth c H locs cells slots mc ms g rest (Qc (Value.ref b :: As).toArray) XC free := by
  obtain ⟨⟨hrc, hrs, hfr, hlo, hws, hcw⟩, hcode, hini, hy, hlen, hl, hin, hse⟩ := cw
  have hK : vx_Back l R p e below s args y 3 8 (PreOf R mc ms Pc) (PostOf Qc mc ms free) (vx_Post XC mc ms free) := vx_backW (hh := hh) (bytes := bytes) (maxL := maxL) (ret := ret) hM hp.1 hrc hrs hfr hlo hws hcw (fun a' U hW => word_at hW (Or.inl (by first | rfl | simp [Cond.onTables, Cond.keeps, Cond.steady])) hini)
  obtain ⟨hx, hb, hml, ho, -⟩ := S
  obtain ⟨-, ⟨cellB, hcB, hoB, hclB⟩, hPc⟩ := hp
  intro T hT X
  rcases vx_callVX X hx (C := C) (hh := hh) (bytes := bytes) (maxL := maxL) (ret := ret) ho hl hin hse hcode hy hK (by rw [hT]; exact hcB) hoB hclB hg (hsize.trans hml.symm) (argsL := As) (rest := rest) (fun sig h => hn.trans (hlen sig h)) hstack hW (by rw [hb]; exact hdg)
    (fun vm₁ hW₁ => ⟨hf.1, hf.2, hPc (T.setVm vm₁) hT hW₁⟩) with ⟨v, vm₁, ⟨U', l2, c2, s2⟩, hW₁, X', ⟨g', mk, t, L, e1, e2, hq, h1, hL, h2, h3⟩, st⟩ | ⟨q, vm₁, ⟨U', l2, c2, s2⟩, hW₁, X', ⟨g', mk, t, L, E, ce, e1, e2, hq, hce, hcv, hcl, h1, hL, h2, h3⟩, st⟩
  · dsimp only [Pt.U, Pt.locs, Pt.cells, Pt.slots] at X' e1 e2 h1 h2 h3 st
    subst h1; subst h2; subst h3
    exact Or.inl ⟨v, (T.setVm vm₁).calling g' mk (Value.ref b :: As).toArray, t, U', L, hT, X', hL, e1, e2, hq, st⟩
  · dsimp only [Pt.U, Pt.locs, Pt.cells, Pt.slots] at X' e1 e2 h1 h2 h3 st hcl
    subst h1; subst h2; subst h3
    exact Or.inr ⟨q, (T.setVm vm₁).calling g' mk (Value.ref b :: As).toArray, t, U', L, E, ce, hT, X', hL, e1, e2, hq, hce, hcv, vx_cls hW₁ hcl, st⟩
theorem vx_runSX {hh : List (Nat × Nat × Nat × Nat)} (S : CallFix p m c cc nL s args Ts own) (hM : vx_Met l y ws rm Pc Qc XC mc ms free) (cw : vx_CSW R s args own index y bytes maxL ret hh ws rm mc ms n) (hp : PreS s H Pc As)
    (hg : g.method = m) (hn : As.length = n) (hsize : g.locals.size = nL) (hstack : g.stack = As.reverse ++ rest) (hW : 2 * g.monitorRoom + (rest.map fun v => v.category).sum ≤ 8) (hdg : decode cc g.pc = .ok (.invokestatic index, 3)) (hf : cells + mc ≤ R.cells ∧ slots + ms ≤ R.slots) :
    vx_Run p l e R s m args below meth c H locs cells slots mc ms g rest (Qc As.toArray) XC free := by
  obtain ⟨⟨hrc, hrs, hfr, hlo, hws, hcw⟩, hcode, hini, hy, hlen, hl, hstt⟩ := cw
  have hK : vx_Back l R p e below s args y 3 8 (PreOf R mc ms Pc) (PostOf Qc mc ms free) (vx_Post XC mc ms free) := vx_backW (hh := hh) (bytes := bytes) (maxL := maxL) (ret := ret) hM hp.1 hrc hrs hfr hlo hws hcw (fun a' U hW => word_at hW (Or.inl (by first | rfl | simp [Cond.onTables, Cond.keeps, Cond.steady])) hini)
  obtain ⟨hx, hb, hml, ho, -⟩ := S
  intro T hT X
  rcases vx_callSX X hx (hh := hh) (bytes := bytes) (maxL := maxL) (ret := ret) ho hl hstt hini hcode hy hK hg (hsize.trans hml.symm) (argsL := As) (rest := rest) (fun sig h => hn.trans (hlen sig h)) hstack hW (by rw [hb]; exact hdg)
    (fun vm₁ hW₁ => ⟨hf.1, hf.2, hp.2 (T.setVm vm₁) hT hW₁⟩) with ⟨v, vm₁, ⟨U', l2, c2, s2⟩, hW₁, X', ⟨g', mk, t, L, e1, e2, hq, h1, hL, h2, h3⟩, st⟩ | ⟨q, vm₁, ⟨U', l2, c2, s2⟩, hW₁, X', ⟨g', mk, t, L, E, ce, e1, e2, hq, hce, hcv, hcl, h1, hL, h2, h3⟩, st⟩
  · dsimp only [Pt.U, Pt.locs, Pt.cells, Pt.slots] at X' e1 e2 h1 h2 h3 st
    subst h1; subst h2; subst h3
    exact Or.inl ⟨v, (T.setVm vm₁).calling g' mk As.toArray, t, U', L, hT, X', hL, e1, e2, hq, st⟩
  · dsimp only [Pt.U, Pt.locs, Pt.cells, Pt.slots] at X' e1 e2 h1 h2 h3 st hcl
    subst h1; subst h2; subst h3
    exact Or.inr ⟨q, (T.setVm vm₁).calling g' mk As.toArray, t, U', L, E, ce, hT, X', hL, e1, e2, hq, hce, hcv, vx_cls hW₁ hcl, st⟩
end
end VXH
theorem vx_ofWH {l : Launch} {y : MethodName} {ws ws' : List Cond} {rm : Room} {Pc : Array Value → State → Prop} {Qc : Array Value → State → Outcome → State → Prop} {XC : String → State → State → Prop} {mc ms : Nat} {free : Addr → Prop} {cc : ByteArray} {maxL : Nat} {ret : Option FieldType} {hh : List (Nat × Nat × Nat × Nat)}
    (hy : plainName y.cls = true) (hw : ws = Cond.codeWith y cc maxL ret hh :: ws')
    (body : ∀ p e s m args below meth c s₁, BodyLoose p l y (headSpec ws rm) cc maxL ret e s m args below meth c s₁ → c.maxLocals = maxL → Pc args s →
      W p l e (headSpec ws rm).room s m args below meth c s.heap [] 0 0 (vx_MQ below Qc XC args s mc ms free) (entryFrame m args maxL)) : vx_Met l y ws rm Pc Qc XC mc ms free := by
  refine MetFree.of_bodyS (code := cc) (maxLocals := maxL) (ret := ret) hy ?_ ?_
  · intro args s m h hn
    obtain ⟨m9, meth, c, hn9, h1, h2, h3, h4, -, h5, h6, -⟩ := Cond.codeWith_spec (atoms_spec (ws := ws) h _ (by rw [hw]; exact List.mem_cons_self))
    cases hn.symm.trans hn9
    exact ⟨meth, c, h1, h2, h3, h4, h5, h6⟩
  · intro p e s m args below meth c s₁ B hml hP _
    have hh0 : s₁.heap = s.heap := by rw [B.state]; rfl
    obtain ⟨t, a1, o, b1, b2, b3⟩ := body p e s m args below meth c s₁ B hml hP s₁ hh0 (Stand.of_body B)
    exact ⟨t, o, a1, b1, b2, b3⟩
/-! ===== END ===== -/
end
section
def RX0 : String := "SevenAsks$AskingText"
def TX0 : u_T := fun k => match k with
  | 0 => ("SevenAsks$AskingText", "signs", "[I", true)
  | _ => ("SevenAsks$AskingText", "size", "I", false)
def tyX0 : Nat → FieldType := fun k => match k with
  | 0 => .array .int
  | _ => .int
abbrev wsX00 : List Cond := u_ws RX0 TX0 2
theorem nmX0 : ∀ a, a < 2 → ∀ b, b < 2 → a ≠ b → (TX0 a).2.1 ≠ (TX0 b).2.1 := by decide +kernel
theorem tyX0_ok : ∀ k, k < 2 → parseFieldDescriptor (TX0 k).2.2.1 = some (tyX0 k) := by decide +kernel
abbrev cX0_init : ByteArray := prog_2_method_1_code
def yX0_init : MethodName := ⟨RX0, "<init>", "()V"⟩
abbrev cX0_size : ByteArray := prog_2_method_2_code
def yX0_size : MethodName := ⟨RX0, "size", "()I"⟩
abbrev cX0_sign : ByteArray := prog_2_method_3_code
def yX0_sign : MethodName := ⟨RX0, "sign", "(I)I"⟩
abbrev cX0_isFull : ByteArray := prog_2_method_4_code
def yX0_isFull : MethodName := ⟨RX0, "isFull", "()Z"⟩
abbrev cX0_addSign : ByteArray := prog_2_method_5_code
def yX0_addSign : MethodName := ⟨RX0, "addSign", "(I)I"⟩
abbrev cX0_empty : ByteArray := prog_2_method_6_code
def yX0_empty : MethodName := ⟨RX0, "empty", "()I"⟩
abbrev cX0_errorPlace : ByteArray := prog_2_method_7_code
def yX0_errorPlace : MethodName := ⟨RX0, "errorPlace", "()I"⟩
abbrev cX0_tellsAskings : ByteArray := prog_2_method_8_code
def yX0_tellsAskings : MethodName := ⟨RX0, "tellsAskings", "()Z"⟩
abbrev cX0_stateAfter : ByteArray := prog_2_method_9_code
def yX0_stateAfter : MethodName := ⟨RX0, "stateAfter", "(II)I"⟩
abbrev cX0_next : ByteArray := prog_2_method_10_code
def yX0_next : MethodName := ⟨RX0, "next", "(ZI)I"⟩
abbrev cX0_tellsHour : ByteArray := prog_2_method_11_code
def yX0_tellsHour : MethodName := ⟨RX0, "tellsHour", "(I)Z"⟩
abbrev cX0_lodger : ByteArray := prog_2_method_12_code
def yX0_lodger : MethodName := ⟨RX0, "lodger", "(I)I"⟩
abbrev cX0_firstHour : ByteArray := prog_2_method_13_code
def yX0_firstHour : MethodName := ⟨RX0, "firstHour", "(I)I"⟩
abbrev cX0_hours : ByteArray := prog_2_method_14_code
def yX0_hours : MethodName := ⟨RX0, "hours", "(I)I"⟩
def RX1 : String := "SevenAsks$BedLaying"
def TX1 : u_T := fun k => match k with
  | _ => ("SevenAsks$BedLaying", "busyUntil", "[I", true)
def tyX1 : Nat → FieldType := fun k => match k with
  | _ => .array .int
abbrev wsX10 : List Cond := u_ws RX1 TX1 1
theorem nmX1 : ∀ a, a < 1 → ∀ b, b < 1 → a ≠ b → (TX1 a).2.1 ≠ (TX1 b).2.1 := by decide +kernel
theorem tyX1_ok : ∀ k, k < 1 → parseFieldDescriptor (TX1 k).2.2.1 = some (tyX1 k) := by decide +kernel
abbrev cX1_init : ByteArray := prog_3_method_1_code
def yX1_init : MethodName := ⟨RX1, "<init>", "()V"⟩
abbrev cX1_bedsFor : ByteArray := prog_3_method_2_code
def yX1_bedsFor : MethodName := ⟨RX1, "bedsFor", "(LSevenAsks$Night;)I"⟩
abbrev cX1_lay : ByteArray := prog_3_method_3_code
def yX1_lay : MethodName := ⟨RX1, "lay", "(II)I"⟩
def RX2 : String := "SevenAsks$Grid"
def TX2 : u_T := fun k => match k with
  | 0 => ("SevenAsks$Grid", "rows", "I", true)
  | 1 => ("SevenAsks$Grid", "columns", "I", true)
  | _ => ("SevenAsks$Grid", "numbers", "[I", true)
def tyX2 : Nat → FieldType := fun k => match k with
  | 0 => .int
  | 1 => .int
  | _ => .array .int
abbrev wsX20 : List Cond := u_ws RX2 TX2 3
theorem nmX2 : ∀ a, a < 3 → ∀ b, b < 3 → a ≠ b → (TX2 a).2.1 ≠ (TX2 b).2.1 := by decide +kernel
theorem tyX2_ok : ∀ k, k < 3 → parseFieldDescriptor (TX2 k).2.2.1 = some (tyX2 k) := by decide +kernel
abbrev cX2_init : ByteArray := prog_4_method_1_code
def yX2_init : MethodName := ⟨RX2, "<init>", "(II)V"⟩
abbrev cX2_get : ByteArray := prog_4_method_2_code
def yX2_get : MethodName := ⟨RX2, "get", "(II)I"⟩
abbrev cX2_put : ByteArray := prog_4_method_3_code
def yX2_put : MethodName := ⟨RX2, "put", "(III)V"⟩
abbrev cX2_raise : ByteArray := prog_4_method_4_code
def yX2_raise : MethodName := ⟨RX2, "raise", "(III)V"⟩
abbrev cX2_fill : ByteArray := prog_4_method_5_code
def yX2_fill : MethodName := ⟨RX2, "fill", "(I)V"⟩
abbrev cX2_copyFrom : ByteArray := prog_4_method_6_code
def yX2_copyFrom : MethodName := ⟨RX2, "copyFrom", "(LSevenAsks$Grid;)V"⟩
def RX3 : String := "SevenAsks$House"
def TX3 : u_T := fun k => match k with
  | 0 => ("SevenAsks$House", "night", "LSevenAsks$Night;", true)
  | 1 => ("SevenAsks$House", "lodgers", "LSevenAsks$Grid;", true)
  | 2 => ("SevenAsks$House", "accounts", "LSevenAsks$Grid;", true)
  | _ => ("SevenAsks$House", "reasons", "LSevenAsks$Grid;", true)
def tyX3 : Nat → FieldType := fun k => match k with
  | 0 => .object "SevenAsks$Night"
  | 1 => .object "SevenAsks$Grid"
  | 2 => .object "SevenAsks$Grid"
  | _ => .object "SevenAsks$Grid"
abbrev wsX30 : List Cond := u_ws RX3 TX3 4
theorem nmX3 : ∀ a, a < 4 → ∀ b, b < 4 → a ≠ b → (TX3 a).2.1 ≠ (TX3 b).2.1 := by decide +kernel
theorem tyX3_ok : ∀ k, k < 4 → parseFieldDescriptor (TX3 k).2.2.1 = some (tyX3 k) := by decide +kernel
abbrev cX3_init : ByteArray := prog_5_method_1_code
def yX3_init : MethodName := ⟨RX3, "<init>", "()V"⟩
abbrev cX3_copyFrom : ByteArray := prog_5_method_2_code
def yX3_copyFrom : MethodName := ⟨RX3, "copyFrom", "(LSevenAsks$House;)V"⟩
abbrev cX3_account : ByteArray := prog_5_method_3_code
def yX3_account : MethodName := ⟨RX3, "account", "(I)I"⟩
abbrev cX3_refusedFor : ByteArray := prog_5_method_4_code
def yX3_refusedFor : MethodName := ⟨RX3, "refusedFor", "(I)I"⟩
abbrev cX3_lodgerNumber : ByteArray := prog_5_method_5_code
def yX3_lodgerNumber : MethodName := ⟨RX3, "lodgerNumber", "(II)I"⟩
abbrev cX3_shareLent : ByteArray := prog_5_method_6_code
def yX3_shareLent : MethodName := ⟨RX3, "shareLent", "()D"⟩
abbrev cX3_poorestLodger : ByteArray := prog_5_method_7_code
def yX3_poorestLodger : MethodName := ⟨RX3, "poorestLodger", "()I"⟩
abbrev cX3_isPoorer : ByteArray := prog_5_method_8_code
def yX3_isPoorer : MethodName := ⟨RX3, "isPoorer", "(II)Z"⟩
abbrev cX3_answerTo : ByteArray := prog_5_method_9_code
def yX3_answerTo : MethodName := ⟨RX3, "answerTo", "(III)I"⟩
abbrev cX3_isEighth : ByteArray := prog_5_method_10_code
def yX3_isEighth : MethodName := ⟨RX3, "isEighth", "(I)Z"⟩
abbrev cX3_hasTooLittleNeed : ByteArray := prog_5_method_11_code
def yX3_hasTooLittleNeed : MethodName := ⟨RX3, "hasTooLittleNeed", "(I)Z"⟩
abbrev cX3_wouldBePutOut : ByteArray := prog_5_method_12_code
def yX3_wouldBePutOut : MethodName := ⟨RX3, "wouldBePutOut", "(III)I"⟩
abbrev cX3_takeAsking : ByteArray := prog_5_method_13_code
def yX3_takeAsking : MethodName := ⟨RX3, "takeAsking", "(III)I"⟩
abbrev cX3_refuse : ByteArray := prog_5_method_14_code
def yX3_refuse : MethodName := ⟨RX3, "refuse", "(II)V"⟩
abbrev cX3_countRefusal : ByteArray := prog_5_method_15_code
def yX3_countRefusal : MethodName := ⟨RX3, "countRefusal", "(I)V"⟩
abbrev cX3_grant : ByteArray := prog_5_method_16_code
def yX3_grant : MethodName := ⟨RX3, "grant", "(IIII)V"⟩
abbrev cX3_countPutOut : ByteArray := prog_5_method_17_code
def yX3_countPutOut : MethodName := ⟨RX3, "countPutOut", "(I)V"⟩
abbrev cX3_takeBack : ByteArray := prog_5_method_18_code
def yX3_takeBack : MethodName := ⟨RX3, "takeBack", "(II)I"⟩
abbrev cX3_giveFavour : ByteArray := prog_5_method_19_code
def yX3_giveFavour : MethodName := ⟨RX3, "giveFavour", "(I)I"⟩
abbrev cX3_changeNeed : ByteArray := prog_5_method_20_code
def yX3_changeNeed : MethodName := ⟨RX3, "changeNeed", "(II)I"⟩
abbrev cX3_changeSetting : ByteArray := prog_5_method_21_code
def yX3_changeSetting : MethodName := ⟨RX3, "changeSetting", "(I)I"⟩
abbrev cX3_canLetHourGo : ByteArray := prog_5_method_22_code
def yX3_canLetHourGo : MethodName := ⟨RX3, "canLetHourGo", "()Z"⟩
abbrev cX3_letHourGo : ByteArray := prog_5_method_23_code
def yX3_letHourGo : MethodName := ⟨RX3, "letHourGo", "()I"⟩
def RX4 : String := "SevenAsks$Night"
def TX4 : u_T := fun k => match k with
  | 0 => ("SevenAsks$Night", "holders", "LSevenAsks$Grid;", true)
  | _ => ("SevenAsks$Night", "gone", "I", false)
def tyX4 : Nat → FieldType := fun k => match k with
  | 0 => .object "SevenAsks$Grid"
  | _ => .int
abbrev wsX40 : List Cond := u_ws RX4 TX4 2
theorem nmX4 : ∀ a, a < 2 → ∀ b, b < 2 → a ≠ b → (TX4 a).2.1 ≠ (TX4 b).2.1 := by decide +kernel
theorem tyX4_ok : ∀ k, k < 2 → parseFieldDescriptor (TX4 k).2.2.1 = some (tyX4 k) := by decide +kernel
abbrev cX4_init : ByteArray := prog_6_method_1_code
def yX4_init : MethodName := ⟨RX4, "<init>", "()V"⟩
abbrev cX4_copyFrom : ByteArray := prog_6_method_2_code
def yX4_copyFrom : MethodName := ⟨RX4, "copyFrom", "(LSevenAsks$Night;)V"⟩
abbrev cX4_goneHours : ByteArray := prog_6_method_3_code
def yX4_goneHours : MethodName := ⟨RX4, "goneHours", "()I"⟩
abbrev cX4_wentBy : ByteArray := prog_6_method_4_code
def yX4_wentBy : MethodName := ⟨RX4, "wentBy", "(I)Z"⟩
abbrev cX4_advance : ByteArray := prog_6_method_5_code
def yX4_advance : MethodName := ⟨RX4, "advance", "()V"⟩
abbrev cX4_holder : ByteArray := prog_6_method_6_code
def yX4_holder : MethodName := ⟨RX4, "holder", "(II)I"⟩
abbrev cX4_lend : ByteArray := prog_6_method_7_code
def yX4_lend : MethodName := ⟨RX4, "lend", "(IIII)V"⟩
abbrev cX4_lentBeds : ByteArray := prog_6_method_8_code
def yX4_lentBeds : MethodName := ⟨RX4, "lentBeds", "(I)I"⟩
abbrev cX4_mostLentBeds : ByteArray := prog_6_method_9_code
def yX4_mostLentBeds : MethodName := ⟨RX4, "mostLentBeds", "()I"⟩
abbrev cX4_lentHours : ByteArray := prog_6_method_10_code
def yX4_lentHours : MethodName := ⟨RX4, "lentHours", "()I"⟩
abbrev cX4_bedOf : ByteArray := prog_6_method_11_code
def yX4_bedOf : MethodName := ⟨RX4, "bedOf", "(II)I"⟩
abbrev cX4_hoursWithBed : ByteArray := prog_6_method_12_code
def yX4_hoursWithBed : MethodName := ⟨RX4, "hoursWithBed", "(III)I"⟩
abbrev cX4_lentHoursIn : ByteArray := prog_6_method_13_code
def yX4_lentHoursIn : MethodName := ⟨RX4, "lentHoursIn", "(III)I"⟩
abbrev cX4_leastLentBed : ByteArray := prog_6_method_14_code
def yX4_leastLentBed : MethodName := ⟨RX4, "leastLentBed", "(II)I"⟩
abbrev cX4_holdersMask : ByteArray := prog_6_method_15_code
def yX4_holdersMask : MethodName := ⟨RX4, "holdersMask", "(III)I"⟩
abbrev cX4_startsPiece : ByteArray := prog_6_method_16_code
def yX4_startsPiece : MethodName := ⟨RX4, "startsPiece", "(II)Z"⟩
abbrev cX4_pieceEnd : ByteArray := prog_6_method_17_code
def yX4_pieceEnd : MethodName := ⟨RX4, "pieceEnd", "(II)I"⟩
abbrev cX4_freePieceFrom : ByteArray := prog_6_method_18_code
def yX4_freePieceFrom : MethodName := ⟨RX4, "freePieceFrom", "(II)I"⟩
abbrev cX4_freePiecesIn : ByteArray := prog_6_method_19_code
def yX4_freePiecesIn : MethodName := ⟨RX4, "freePiecesIn", "(III)I"⟩
abbrev cX4_longestFor : ByteArray := prog_6_method_20_code
def yX4_longestFor : MethodName := ⟨RX4, "longestFor", "(II)I"⟩
abbrev cX4_isOpenTo : ByteArray := prog_6_method_21_code
def yX4_isOpenTo : MethodName := ⟨RX4, "isOpenTo", "(III)Z"⟩
def RX5 : String := "SevenAsks$Shelf"
def TX5 : u_T := fun k => match k with
  | 0 => ("SevenAsks$Shelf", "houses", "[LSevenAsks$House;", true)
  | _ => ("SevenAsks$Shelf", "filled", "[Z", true)
def tyX5 : Nat → FieldType := fun k => match k with
  | 0 => .array (.object "SevenAsks$House")
  | _ => .array .boolean
abbrev wsX50 : List Cond := u_ws RX5 TX5 2
theorem nmX5 : ∀ a, a < 2 → ∀ b, b < 2 → a ≠ b → (TX5 a).2.1 ≠ (TX5 b).2.1 := by decide +kernel
theorem tyX5_ok : ∀ k, k < 2 → parseFieldDescriptor (TX5 k).2.2.1 = some (tyX5 k) := by decide +kernel
abbrev cX5_init : ByteArray := prog_7_method_1_code
def yX5_init : MethodName := ⟨RX5, "<init>", "(I)V"⟩
abbrev cX5_houseIn : ByteArray := prog_7_method_2_code
def yX5_houseIn : MethodName := ⟨RX5, "houseIn", "(I)LSevenAsks$House;"⟩
abbrev cX5_isFilled : ByteArray := prog_7_method_3_code
def yX5_isFilled : MethodName := ⟨RX5, "isFilled", "(I)Z"⟩
abbrev cX5_store : ByteArray := prog_7_method_4_code
def yX5_store : MethodName := ⟨RX5, "store", "(ILSevenAsks$House;)V"⟩
abbrev cX5_restore : ByteArray := prog_7_method_5_code
def yX5_restore : MethodName := ⟨RX5, "restore", "(ILSevenAsks$House;)V"⟩
def RX6 : String := "SevenAsks"
def TX6 : u_T := fun k => match k with
  | 0 => ("SevenAsks", "house", "LSevenAsks$House;", true)
  | 1 => ("SevenAsks", "slots", "LSevenAsks$Shelf;", true)
  | 2 => ("SevenAsks", "saved", "LSevenAsks$Shelf;", true)
  | 3 => ("SevenAsks", "laying", "LSevenAsks$BedLaying;", true)
  | 4 => ("SevenAsks", "text", "LSevenAsks$AskingText;", true)
  | 5 => ("SevenAsks", "savedCount", "I", false)
  | _ => ("SevenAsks", "nextSaved", "I", false)
def tyX6 : Nat → FieldType := fun k => match k with
  | 0 => .object "SevenAsks$House"
  | 1 => .object "SevenAsks$Shelf"
  | 2 => .object "SevenAsks$Shelf"
  | 3 => .object "SevenAsks$BedLaying"
  | 4 => .object "SevenAsks$AskingText"
  | 5 => .int
  | _ => .int
abbrev wsX60 : List Cond := u_ws RX6 TX6 7
theorem nmX6 : ∀ a, a < 7 → ∀ b, b < 7 → a ≠ b → (TX6 a).2.1 ≠ (TX6 b).2.1 := by decide +kernel
theorem tyX6_ok : ∀ k, k < 7 → parseFieldDescriptor (TX6 k).2.2.1 = some (tyX6 k) := by decide +kernel
abbrev cX6_init : ByteArray := prog_1_method_1_code
def yX6_init : MethodName := ⟨RX6, "<init>", "()V"⟩
abbrev cX6_ask : ByteArray := prog_1_method_2_code
def yX6_ask : MethodName := ⟨RX6, "ask", "(III)I"⟩
abbrev cX6_giveBack : ByteArray := prog_1_method_3_code
def yX6_giveBack : MethodName := ⟨RX6, "giveBack", "(II)I"⟩
abbrev cX6_favour : ByteArray := prog_1_method_4_code
def yX6_favour : MethodName := ⟨RX6, "favour", "(I)I"⟩
abbrev cX6_need : ByteArray := prog_1_method_5_code
def yX6_need : MethodName := ⟨RX6, "need", "(II)I"⟩
abbrev cX6_pass : ByteArray := prog_1_method_6_code
def yX6_pass : MethodName := ⟨RX6, "pass", "()I"⟩
abbrev cX6_set : ByteArray := prog_1_method_7_code
def yX6_set : MethodName := ⟨RX6, "set", "(I)I"⟩
abbrev cX6_append : ByteArray := prog_1_method_8_code
def yX6_append : MethodName := ⟨RX6, "append", "(I)I"⟩
abbrev cX6_clearBuffer : ByteArray := prog_1_method_9_code
def yX6_clearBuffer : MethodName := ⟨RX6, "clearBuffer", "()I"⟩
abbrev cX6_firstError : ByteArray := prog_1_method_10_code
def yX6_firstError : MethodName := ⟨RX6, "firstError", "()I"⟩
abbrev cX6_run : ByteArray := prog_1_method_11_code
def yX6_run : MethodName := ⟨RX6, "run", "()I"⟩
abbrev cX6_keep : ByteArray := prog_1_method_12_code
def yX6_keep : MethodName := ⟨RX6, "keep", "(I)I"⟩
abbrev cX6_goBack : ByteArray := prog_1_method_13_code
def yX6_goBack : MethodName := ⟨RX6, "goBack", "(I)I"⟩
abbrev cX6_undo : ByteArray := prog_1_method_14_code
def yX6_undo : MethodName := ⟨RX6, "undo", "()I"⟩
abbrev cX6_at : ByteArray := prog_1_method_15_code
def yX6_at : MethodName := ⟨RX6, "at", "(II)I"⟩
abbrev cX6_lodgerOf : ByteArray := prog_1_method_16_code
def yX6_lodgerOf : MethodName := ⟨RX6, "lodgerOf", "(II)I"⟩
abbrev cX6_count : ByteArray := prog_1_method_17_code
def yX6_count : MethodName := ⟨RX6, "count", "(I)I"⟩
abbrev cX6_refused : ByteArray := prog_1_method_18_code
def yX6_refused : MethodName := ⟨RX6, "refused", "(I)I"⟩
abbrev cX6_ifAsked : ByteArray := prog_1_method_19_code
def yX6_ifAsked : MethodName := ⟨RX6, "ifAsked", "(III)I"⟩
abbrev cX6_ifPutOut : ByteArray := prog_1_method_20_code
def yX6_ifPutOut : MethodName := ⟨RX6, "ifPutOut", "(III)I"⟩
abbrev cX6_fewestBeds : ByteArray := prog_1_method_21_code
def yX6_fewestBeds : MethodName := ⟨RX6, "fewestBeds", "(I)I"⟩
abbrev cX6_longest : ByteArray := prog_1_method_22_code
def yX6_longest : MethodName := ⟨RX6, "longest", "(II)I"⟩
abbrev cX6_poorest : ByteArray := prog_1_method_23_code
def yX6_poorest : MethodName := ⟨RX6, "poorest", "()I"⟩
abbrev cX6_fullness : ByteArray := prog_1_method_24_code
def yX6_fullness : MethodName := ⟨RX6, "fullness", "()D"⟩
abbrev cX6_digest : ByteArray := prog_1_method_25_code
def yX6_digest : MethodName := ⟨RX6, "digest", "()J"⟩
abbrev cX6_mixed : ByteArray := prog_1_method_26_code
def yX6_mixed : MethodName := ⟨RX6, "mixed", "(JJ)J"⟩
abbrev cX6_withAccounts : ByteArray := prog_1_method_27_code
def yX6_withAccounts : MethodName := ⟨RX6, "withAccounts", "(J)J"⟩
abbrev cX6_withBeds : ByteArray := prog_1_method_28_code
def yX6_withBeds : MethodName := ⟨RX6, "withBeds", "(J)J"⟩
abbrev cX6_withLodgers : ByteArray := prog_1_method_29_code
def yX6_withLodgers : MethodName := ⟨RX6, "withLodgers", "(J)J"⟩
abbrev cX6_withText : ByteArray := prog_1_method_30_code
def yX6_withText : MethodName := ⟨RX6, "withText", "(J)J"⟩
abbrev cX6_bitsOf : ByteArray := prog_1_method_31_code
def yX6_bitsOf : MethodName := ⟨RX6, "bitsOf", "(D)J"⟩
abbrev cX6_checkLodger : ByteArray := prog_1_method_32_code
def yX6_checkLodger : MethodName := ⟨RX6, "checkLodger", "(I)V"⟩
abbrev cX6_checkHour : ByteArray := prog_1_method_33_code
def yX6_checkHour : MethodName := ⟨RX6, "checkHour", "(I)V"⟩
abbrev cX6_checkNeed : ByteArray := prog_1_method_34_code
def yX6_checkNeed : MethodName := ⟨RX6, "checkNeed", "(I)V"⟩
abbrev cX6_checkSlot : ByteArray := prog_1_method_35_code
def yX6_checkSlot : MethodName := ⟨RX6, "checkSlot", "(I)V"⟩
abbrev cX6_checkRange : ByteArray := prog_1_method_36_code
def yX6_checkRange : MethodName := ⟨RX6, "checkRange", "(III)V"⟩
abbrev cX6_checkAsking : ByteArray := prog_1_method_37_code
def yX6_checkAsking : MethodName := ⟨RX6, "checkAsking", "(III)V"⟩
abbrev cX6_isWithinNight : ByteArray := prog_1_method_38_code
def yX6_isWithinNight : MethodName := ⟨RX6, "isWithinNight", "(II)Z"⟩
abbrev cX6_accountOf : ByteArray := prog_1_method_39_code
def yX6_accountOf : MethodName := ⟨RX6, "accountOf", "(I)I"⟩
abbrev cX6_saveState : ByteArray := prog_1_method_40_code
def yX6_saveState : MethodName := ⟨RX6, "saveState", "()V"⟩
abbrev cX6_doText : ByteArray := prog_1_method_41_code
def yX6_doText : MethodName := ⟨RX6, "doText", "()I"⟩
abbrev cX6_canDo : ByteArray := prog_1_method_42_code
def yX6_canDo : MethodName := ⟨RX6, "canDo", "(I)Z"⟩
def RX7 : String := "SevenAsksModel"
def TX7 : u_T := fun k => match k with
  | 0 => ("SevenAsksModel", "thrown", "I", false)
  | 1 => ("SevenAsksModel", "s", "[I", true)
  | 2 => ("SevenAsksModel", "aside", "[I", true)
  | 3 => ("SevenAsksModel", "saved", "[I", true)
  | 4 => ("SevenAsksModel", "savedMany", "I", false)
  | 5 => ("SevenAsksModel", "slots", "[I", true)
  | 6 => ("SevenAsksModel", "kept", "I", false)
  | 7 => ("SevenAsksModel", "text", "[I", true)
  | 8 => ("SevenAsksModel", "length", "I", false)
  | 9 => ("SevenAsksModel", "wereOut", "I", false)
  | 10 => ("SevenAsksModel", "spot", "I", false)
  | 11 => ("SevenAsksModel", "isWrong", "Z", false)
  | 12 => ("SevenAsksModel", "asker", "I", false)
  | 13 => ("SevenAsksModel", "askedFirst", "I", false)
  | 14 => ("SevenAsksModel", "askedHours", "I", false)
  | _ => ("SevenAsksModel", "digested", "J", false)
def tyX7 : Nat → FieldType := fun k => match k with
  | 0 => .int
  | 1 => .array .int
  | 2 => .array .int
  | 3 => .array .int
  | 4 => .int
  | 5 => .array .int
  | 6 => .int
  | 7 => .array .int
  | 8 => .int
  | 9 => .int
  | 10 => .int
  | 11 => .boolean
  | 12 => .int
  | 13 => .int
  | 14 => .int
  | _ => .long
abbrev wsX70 : List Cond := u_ws RX7 TX7 16
theorem nmX7 : ∀ a, a < 16 → ∀ b, b < 16 → a ≠ b → (TX7 a).2.1 ≠ (TX7 b).2.1 := by decide +kernel
theorem tyX7_ok : ∀ k, k < 16 → parseFieldDescriptor (TX7 k).2.2.1 = some (tyX7 k) := by decide +kernel
abbrev cX7_init : ByteArray := prog_9_method_1_code
def yX7_init : MethodName := ⟨RX7, "<init>", "()V"⟩
abbrev cX7_thrown : ByteArray := prog_9_method_2_code
def yX7_thrown : MethodName := ⟨RX7, "thrown", "()I"⟩
abbrev cX7_in : ByteArray := prog_9_method_3_code
def yX7_in : MethodName := ⟨RX7, "in", "(III)Z"⟩
abbrev cX7_holds : ByteArray := prog_9_method_4_code
def yX7_holds : MethodName := ⟨RX7, "holds", "(I)Z"⟩
abbrev cX7_of : ByteArray := prog_9_method_5_code
def yX7_of : MethodName := ⟨RX7, "of", "(II)I"⟩
abbrev cX7_ofBed : ByteArray := prog_9_method_6_code
def yX7_ofBed : MethodName := ⟨RX7, "ofBed", "(II)I"⟩
abbrev cX7_isLodger : ByteArray := prog_9_method_7_code
def yX7_isLodger : MethodName := ⟨RX7, "isLodger", "(I)Z"⟩
abbrev cX7_isTime : ByteArray := prog_9_method_8_code
def yX7_isTime : MethodName := ⟨RX7, "isTime", "(II)Z"⟩
abbrev cX7_save : ByteArray := prog_9_method_9_code
def yX7_save : MethodName := ⟨RX7, "save", "()V"⟩
abbrev cX7_lentIn : ByteArray := prog_9_method_10_code
def yX7_lentIn : MethodName := ⟨RX7, "lentIn", "(III)I"⟩
abbrev cX7_emptiest : ByteArray := prog_9_method_11_code
def yX7_emptiest : MethodName := ⟨RX7, "emptiest", "(II)I"⟩
abbrev cX7_bedOf : ByteArray := prog_9_method_12_code
def yX7_bedOf : MethodName := ⟨RX7, "bedOf", "(II)I"⟩
abbrev cX7_hasBed : ByteArray := prog_9_method_13_code
def yX7_hasBed : MethodName := ⟨RX7, "hasBed", "(III)Z"⟩
abbrev cX7_hindrance : ByteArray := prog_9_method_14_code
def yX7_hindrance : MethodName := ⟨RX7, "hindrance", "(III)I"⟩
abbrev cX7_frees : ByteArray := prog_9_method_15_code
def yX7_frees : MethodName := ⟨RX7, "frees", "(III)V"⟩
abbrev cX7_putsOut : ByteArray := prog_9_method_16_code
def yX7_putsOut : MethodName := ⟨RX7, "putsOut", "(II)V"⟩
abbrev cX7_asks : ByteArray := prog_9_method_17_code
def yX7_asks : MethodName := ⟨RX7, "asks", "(III)I"⟩
abbrev cX7_ask : ByteArray := prog_9_method_18_code
def yX7_ask : MethodName := ⟨RX7, "ask", "(III)I"⟩
abbrev cX7_refuses : ByteArray := prog_9_method_19_code
def yX7_refuses : MethodName := ⟨RX7, "refuses", "()I"⟩
abbrev cX7_giveBack : ByteArray := prog_9_method_20_code
def yX7_giveBack : MethodName := ⟨RX7, "giveBack", "(II)I"⟩
abbrev cX7_favour : ByteArray := prog_9_method_21_code
def yX7_favour : MethodName := ⟨RX7, "favour", "(I)I"⟩
abbrev cX7_becomes : ByteArray := prog_9_method_22_code
def yX7_becomes : MethodName := ⟨RX7, "becomes", "(II)I"⟩
abbrev cX7_need : ByteArray := prog_9_method_23_code
def yX7_need : MethodName := ⟨RX7, "need", "(II)I"⟩
abbrev cX7_passes : ByteArray := prog_9_method_24_code
def yX7_passes : MethodName := ⟨RX7, "passes", "()I"⟩
abbrev cX7_pass : ByteArray := prog_9_method_25_code
def yX7_pass : MethodName := ⟨RX7, "pass", "()I"⟩
abbrev cX7_set : ByteArray := prog_9_method_26_code
def yX7_set : MethodName := ⟨RX7, "set", "(I)I"⟩
abbrev cX7_append : ByteArray := prog_9_method_27_code
def yX7_append : MethodName := ⟨RX7, "append", "(I)I"⟩
abbrev cX7_clearBuffer : ByteArray := prog_9_method_28_code
def yX7_clearBuffer : MethodName := ⟨RX7, "clearBuffer", "()I"⟩
abbrev cX7_isNext : ByteArray := prog_9_method_29_code
def yX7_isNext : MethodName := ⟨RX7, "isNext", "(II)Z"⟩
abbrev cX7_takes : ByteArray := prog_9_method_30_code
def yX7_takes : MethodName := ⟨RX7, "takes", "(II)I"⟩
abbrev cX7_readOne : ByteArray := prog_9_method_31_code
def yX7_readOne : MethodName := ⟨RX7, "readOne", "()V"⟩
abbrev cX7_isPossible : ByteArray := prog_9_method_32_code
def yX7_isPossible : MethodName := ⟨RX7, "isPossible", "()Z"⟩
abbrev cX7_does : ByteArray := prog_9_method_33_code
def yX7_does : MethodName := ⟨RX7, "does", "()I"⟩
abbrev cX7_goesThrough : ByteArray := prog_9_method_34_code
def yX7_goesThrough : MethodName := ⟨RX7, "goesThrough", "(Z)I"⟩
abbrev cX7_firstError : ByteArray := prog_9_method_35_code
def yX7_firstError : MethodName := ⟨RX7, "firstError", "()I"⟩
abbrev cX7_run : ByteArray := prog_9_method_36_code
def yX7_run : MethodName := ⟨RX7, "run", "()I"⟩
abbrev cX7_lent : ByteArray := prog_9_method_37_code
def yX7_lent : MethodName := ⟨RX7, "lent", "()I"⟩
abbrev cX7_keep : ByteArray := prog_9_method_38_code
def yX7_keep : MethodName := ⟨RX7, "keep", "(I)I"⟩
abbrev cX7_goBack : ByteArray := prog_9_method_39_code
def yX7_goBack : MethodName := ⟨RX7, "goBack", "(I)I"⟩
abbrev cX7_undo : ByteArray := prog_9_method_40_code
def yX7_undo : MethodName := ⟨RX7, "undo", "()I"⟩
abbrev cX7_at : ByteArray := prog_9_method_41_code
def yX7_at : MethodName := ⟨RX7, "at", "(II)I"⟩
abbrev cX7_lentTo : ByteArray := prog_9_method_42_code
def yX7_lentTo : MethodName := ⟨RX7, "lentTo", "(I)I"⟩
abbrev cX7_ofLodger : ByteArray := prog_9_method_43_code
def yX7_ofLodger : MethodName := ⟨RX7, "ofLodger", "(II)I"⟩
abbrev cX7_lodgerOf : ByteArray := prog_9_method_44_code
def yX7_lodgerOf : MethodName := ⟨RX7, "lodgerOf", "(II)I"⟩
abbrev cX7_slept : ByteArray := prog_9_method_45_code
def yX7_slept : MethodName := ⟨RX7, "slept", "()I"⟩
abbrev cX7_counted : ByteArray := prog_9_method_46_code
def yX7_counted : MethodName := ⟨RX7, "counted", "(I)I"⟩
abbrev cX7_count : ByteArray := prog_9_method_47_code
def yX7_count : MethodName := ⟨RX7, "count", "(I)I"⟩
abbrev cX7_refused : ByteArray := prog_9_method_48_code
def yX7_refused : MethodName := ⟨RX7, "refused", "(I)I"⟩
abbrev cX7_would : ByteArray := prog_9_method_49_code
def yX7_would : MethodName := ⟨RX7, "would", "(III)I"⟩
abbrev cX7_ifAsked : ByteArray := prog_9_method_50_code
def yX7_ifAsked : MethodName := ⟨RX7, "ifAsked", "(III)I"⟩
abbrev cX7_ifPutOut : ByteArray := prog_9_method_51_code
def yX7_ifPutOut : MethodName := ⟨RX7, "ifPutOut", "(III)I"⟩
abbrev cX7_mostAtOnce : ByteArray := prog_9_method_52_code
def yX7_mostAtOnce : MethodName := ⟨RX7, "mostAtOnce", "()I"⟩
abbrev cX7_fewestBeds : ByteArray := prog_9_method_53_code
def yX7_fewestBeds : MethodName := ⟨RX7, "fewestBeds", "(I)I"⟩
abbrev cX7_longestFor : ByteArray := prog_9_method_54_code
def yX7_longestFor : MethodName := ⟨RX7, "longestFor", "(II)I"⟩
abbrev cX7_longest : ByteArray := prog_9_method_55_code
def yX7_longest : MethodName := ⟨RX7, "longest", "(II)I"⟩
abbrev cX7_refusedMost : ByteArray := prog_9_method_56_code
def yX7_refusedMost : MethodName := ⟨RX7, "refusedMost", "()I"⟩
abbrev cX7_poorest : ByteArray := prog_9_method_57_code
def yX7_poorest : MethodName := ⟨RX7, "poorest", "()I"⟩
abbrev cX7_share : ByteArray := prog_9_method_58_code
def yX7_share : MethodName := ⟨RX7, "share", "()D"⟩
abbrev cX7_fullness : ByteArray := prog_9_method_59_code
def yX7_fullness : MethodName := ⟨RX7, "fullness", "()D"⟩
abbrev cX7_bitsOf : ByteArray := prog_9_method_60_code
def yX7_bitsOf : MethodName := ⟨RX7, "bitsOf", "(D)J"⟩
abbrev cX7_digestOne : ByteArray := prog_9_method_61_code
def yX7_digestOne : MethodName := ⟨RX7, "digestOne", "(J)V"⟩
abbrev cX7_digestLodger : ByteArray := prog_9_method_62_code
def yX7_digestLodger : MethodName := ⟨RX7, "digestLodger", "(I)V"⟩
abbrev cX7_digest : ByteArray := prog_9_method_63_code
def yX7_digest : MethodName := ⟨RX7, "digest", "()J"⟩
def RJx145de : String := "java/io/Serializable"
def TJx145de : u_T := fun k => match k with
  | _ => ("", "", "", false)
def tyJx145de : Nat → FieldType := fun k => match k with
  | _ => .int
abbrev wsJx145de0 : List Cond := u_ws RJx145de TJx145de 0
theorem nmJx145de : ∀ a, a < 0 → ∀ b, b < 0 → a ≠ b → (TJx145de a).2.1 ≠ (TJx145de b).2.1 := by decide +kernel
theorem tyJx145de_ok : ∀ k, k < 0 → parseFieldDescriptor (TJx145de k).2.2.1 = some (tyJx145de k) := by decide +kernel
def RJ6 : String := "java/lang/Integer"
def TJ6 : u_T := fun k => match k with
  | _ => ("", "", "", false)
def tyJ6 : Nat → FieldType := fun k => match k with
  | _ => .int
abbrev wsJ60 : List Cond := u_ws RJ6 TJ6 0
theorem nmJ6 : ∀ a, a < 0 → ∀ b, b < 0 → a ≠ b → (TJ6 a).2.1 ≠ (TJ6 b).2.1 := by decide +kernel
theorem tyJ6_ok : ∀ k, k < 0 → parseFieldDescriptor (TJ6 k).2.2.1 = some (tyJ6 k) := by decide +kernel
abbrev cJ6_bitCount_0f7a4 : ByteArray := prog_14_method_49_code
def yJ6_bitCount_0f7a4 : MethodName := ⟨RJ6, "bitCount", "(I)I"⟩
def RJ9 : String := "java/lang/Math"
def TJ9 : u_T := fun k => match k with
  | _ => ("", "", "", false)
def tyJ9 : Nat → FieldType := fun k => match k with
  | _ => .int
abbrev wsJ90 : List Cond := u_ws RJ9 TJ9 0
theorem nmJ9 : ∀ a, a < 0 → ∀ b, b < 0 → a ≠ b → (TJ9 a).2.1 ≠ (TJ9 b).2.1 := by decide +kernel
theorem tyJ9_ok : ∀ k, k < 0 → parseFieldDescriptor (TJ9 k).2.2.1 = some (tyJ9 k) := by decide +kernel
abbrev cJ9_max_7cf53 : ByteArray := prog_15_method_65_code
def yJ9_max_7cf53 : MethodName := ⟨RJ9, "max", "(II)I"⟩
abbrev cJ9_min_7cf53 : ByteArray := prog_15_method_69_code
def yJ9_min_7cf53 : MethodName := ⟨RJ9, "min", "(II)I"⟩
def RJ0 : String := "java/lang/String"
def TJ0 : u_T := fun k => match k with
  | _ => ("", "", "", false)
def tyJ0 : Nat → FieldType := fun k => match k with
  | _ => .int
abbrev wsJ00 : List Cond := u_ws RJ0 TJ0 0
theorem nmJ0 : ∀ a, a < 0 → ∀ b, b < 0 → a ≠ b → (TJ0 a).2.1 ≠ (TJ0 b).2.1 := by decide +kernel
theorem tyJ0_ok : ∀ k, k < 0 → parseFieldDescriptor (TJ0 k).2.2.1 = some (tyJ0 k) := by decide +kernel
def RJ10 : String := "java/lang/System"
def TJ10 : u_T := fun k => match k with
  | _ => ("", "", "", false)
def tyJ10 : Nat → FieldType := fun k => match k with
  | _ => .int
abbrev wsJ100 : List Cond := u_ws RJ10 TJ10 0
theorem nmJ10 : ∀ a, a < 0 → ∀ b, b < 0 → a ≠ b → (TJ10 a).2.1 ≠ (TJ10 b).2.1 := by decide +kernel
theorem tyJ10_ok : ∀ k, k < 0 → parseFieldDescriptor (TJ10 k).2.2.1 = some (tyJ10 k) := by decide +kernel
def RJ7 : String := "java/util/Arrays"
def TJ7 : u_T := fun k => match k with
  | _ => ("", "", "", false)
def tyJ7 : Nat → FieldType := fun k => match k with
  | _ => .int
abbrev wsJ70 : List Cond := u_ws RJ7 TJ7 0
theorem nmJ7 : ∀ a, a < 0 → ∀ b, b < 0 → a ≠ b → (TJ7 a).2.1 ≠ (TJ7 b).2.1 := by decide +kernel
theorem tyJ7_ok : ∀ k, k < 0 → parseFieldDescriptor (TJ7 k).2.2.1 = some (tyJ7 k) := by decide +kernel
abbrev cJ7_fill_53178 : ByteArray := prog_20_method_103_code
def yJ7_fill_53178 : MethodName := ⟨RJ7, "fill", "([II)V"⟩
def RL : String := "SevenAsksLaw"
abbrev cL_ask : ByteArray := method_3_code
def yL_ask : MethodName := ⟨RL, "ask", "(LSevenAsks;III[J)I"⟩
abbrev cL_giveBack : ByteArray := method_4_code
def yL_giveBack : MethodName := ⟨RL, "giveBack", "(LSevenAsks;II[J)I"⟩
abbrev cL_favour : ByteArray := method_5_code
def yL_favour : MethodName := ⟨RL, "favour", "(LSevenAsks;I[J)I"⟩
abbrev cL_need : ByteArray := method_6_code
def yL_need : MethodName := ⟨RL, "need", "(LSevenAsks;II[J)I"⟩
abbrev cL_pass : ByteArray := method_7_code
def yL_pass : MethodName := ⟨RL, "pass", "(LSevenAsks;[J)I"⟩
abbrev cL_set : ByteArray := method_8_code
def yL_set : MethodName := ⟨RL, "set", "(LSevenAsks;I[J)I"⟩
abbrev cL_append : ByteArray := method_9_code
def yL_append : MethodName := ⟨RL, "append", "(LSevenAsks;I[J)I"⟩
abbrev cL_run : ByteArray := method_10_code
def yL_run : MethodName := ⟨RL, "run", "(LSevenAsks;[J)I"⟩
abbrev cL_keep : ByteArray := method_11_code
def yL_keep : MethodName := ⟨RL, "keep", "(LSevenAsks;I[J)I"⟩
abbrev cL_goBack : ByteArray := method_12_code
def yL_goBack : MethodName := ⟨RL, "goBack", "(LSevenAsks;I[J)I"⟩
abbrev cL_undo : ByteArray := method_13_code
def yL_undo : MethodName := ⟨RL, "undo", "(LSevenAsks;[J)I"⟩
abbrev cL_at : ByteArray := method_14_code
def yL_at : MethodName := ⟨RL, "at", "(LSevenAsks;II[J)I"⟩
abbrev cL_lodgerOf : ByteArray := method_15_code
def yL_lodgerOf : MethodName := ⟨RL, "lodgerOf", "(LSevenAsks;II[J)I"⟩
abbrev cL_count : ByteArray := method_16_code
def yL_count : MethodName := ⟨RL, "count", "(LSevenAsks;I[J)I"⟩
abbrev cL_refused : ByteArray := method_17_code
def yL_refused : MethodName := ⟨RL, "refused", "(LSevenAsks;I[J)I"⟩
abbrev cL_ifAsked : ByteArray := method_18_code
def yL_ifAsked : MethodName := ⟨RL, "ifAsked", "(LSevenAsks;III[J)I"⟩
abbrev cL_ifPutOut : ByteArray := method_19_code
def yL_ifPutOut : MethodName := ⟨RL, "ifPutOut", "(LSevenAsks;III[J)I"⟩
abbrev cL_fewestBeds : ByteArray := method_20_code
def yL_fewestBeds : MethodName := ⟨RL, "fewestBeds", "(LSevenAsks;I[J)I"⟩
abbrev cL_longest : ByteArray := method_21_code
def yL_longest : MethodName := ⟨RL, "longest", "(LSevenAsks;II[J)I"⟩
abbrev cL_law : ByteArray := code
def yL_law : MethodName := ⟨RL, "law", "([I)Z"⟩
abbrev vwCl : List vw_C := [(RX0, TX0, 2), (RX1, TX1, 1), (RX2, TX2, 3), (RX3, TX3, 4), (RX4, TX4, 2), (RX5, TX5, 2), (RX6, TX6, 7), (RX7, TX7, 16)]
end
section
theorem dX0_init_0 : decode cX0_init 0 = .ok (.aload_n 0, 1) := by decide +kernel
theorem dX0_init_1 : decode cX0_init 1 = .ok (.invokespecial 3, 3) := by decide +kernel
theorem dX0_init_4 : decode cX0_init 4 = .ok (.aload_n 0, 1) := by decide +kernel
theorem dX0_init_5 : decode cX0_init 5 = .ok (.bipush 60, 2) := by decide +kernel
theorem dX0_init_7 : decode cX0_init 7 = .ok (.newarray .int, 2) := by decide +kernel
theorem dX0_init_9 : decode cX0_init 9 = .ok (.putfield 9, 3) := by decide +kernel
theorem dX0_init_12 : decode cX0_init 12 = .ok (.return_, 1) := by decide +kernel
theorem dX0_size_0 : decode cX0_size 0 = .ok (.aload_n 0, 1) := by decide +kernel
theorem dX0_size_1 : decode cX0_size 1 = .ok (.getfield 15, 3) := by decide +kernel
theorem dX0_size_4 : decode cX0_size 4 = .ok (.ireturn, 1) := by decide +kernel
theorem dX0_sign_0 : decode cX0_sign 0 = .ok (.iload_n 1, 1) := by decide +kernel
theorem dX0_sign_1 : decode cX0_sign 1 = .ok (.ifCond .lt 29, 3) := by decide +kernel
theorem dX0_sign_4 : decode cX0_sign 4 = .ok (.iload_n 1, 1) := by decide +kernel
theorem dX0_sign_5 : decode cX0_sign 5 = .ok (.aload_n 0, 1) := by decide +kernel
theorem dX0_sign_6 : decode cX0_sign 6 = .ok (.getfield 15, 3) := by decide +kernel
theorem dX0_sign_9 : decode cX0_sign 9 = .ok (.if_icmp .ge 21, 3) := by decide +kernel
theorem dX0_sign_12 : decode cX0_sign 12 = .ok (.iload_n 1, 1) := by decide +kernel
theorem dX0_sign_13 : decode cX0_sign 13 = .ok (.aload_n 0, 1) := by decide +kernel
theorem dX0_sign_14 : decode cX0_sign 14 = .ok (.getfield 9, 3) := by decide +kernel
theorem dX0_sign_17 : decode cX0_sign 17 = .ok (.arraylength, 1) := by decide +kernel
theorem dX0_sign_18 : decode cX0_sign 18 = .ok (.if_icmp .ge 12, 3) := by decide +kernel
theorem dX0_sign_21 : decode cX0_sign 21 = .ok (.aload_n 0, 1) := by decide +kernel
theorem dX0_sign_22 : decode cX0_sign 22 = .ok (.getfield 9, 3) := by decide +kernel
theorem dX0_sign_25 : decode cX0_sign 25 = .ok (.iload_n 1, 1) := by decide +kernel
theorem dX0_sign_26 : decode cX0_sign 26 = .ok (.iaload, 1) := by decide +kernel
theorem dX0_sign_27 : decode cX0_sign 27 = .ok (.goto 4, 3) := by decide +kernel
theorem dX0_sign_30 : decode cX0_sign 30 = .ok (.iconst (-1), 1) := by decide +kernel
theorem dX0_sign_31 : decode cX0_sign 31 = .ok (.ireturn, 1) := by decide +kernel
theorem dX0_isFull_0 : decode cX0_isFull 0 = .ok (.aload_n 0, 1) := by decide +kernel
theorem dX0_isFull_1 : decode cX0_isFull 1 = .ok (.getfield 15, 3) := by decide +kernel
theorem dX0_isFull_4 : decode cX0_isFull 4 = .ok (.aload_n 0, 1) := by decide +kernel
theorem dX0_isFull_5 : decode cX0_isFull 5 = .ok (.getfield 9, 3) := by decide +kernel
theorem dX0_isFull_8 : decode cX0_isFull 8 = .ok (.arraylength, 1) := by decide +kernel
theorem dX0_isFull_9 : decode cX0_isFull 9 = .ok (.if_icmp .lt 7, 3) := by decide +kernel
theorem dX0_isFull_12 : decode cX0_isFull 12 = .ok (.iconst 1, 1) := by decide +kernel
theorem dX0_isFull_13 : decode cX0_isFull 13 = .ok (.goto 4, 3) := by decide +kernel
theorem dX0_isFull_16 : decode cX0_isFull 16 = .ok (.iconst 0, 1) := by decide +kernel
theorem dX0_isFull_17 : decode cX0_isFull 17 = .ok (.ireturn, 1) := by decide +kernel
theorem dX0_addSign_0 : decode cX0_addSign 0 = .ok (.aload_n 0, 1) := by decide +kernel
theorem dX0_addSign_1 : decode cX0_addSign 1 = .ok (.getfield 15, 3) := by decide +kernel
theorem dX0_addSign_4 : decode cX0_addSign 4 = .ok (.ifCond .lt 35, 3) := by decide +kernel
theorem dX0_addSign_7 : decode cX0_addSign 7 = .ok (.aload_n 0, 1) := by decide +kernel
theorem dX0_addSign_8 : decode cX0_addSign 8 = .ok (.getfield 15, 3) := by decide +kernel
theorem dX0_addSign_11 : decode cX0_addSign 11 = .ok (.aload_n 0, 1) := by decide +kernel
theorem dX0_addSign_12 : decode cX0_addSign 12 = .ok (.getfield 9, 3) := by decide +kernel
theorem dX0_addSign_15 : decode cX0_addSign 15 = .ok (.arraylength, 1) := by decide +kernel
theorem dX0_addSign_16 : decode cX0_addSign 16 = .ok (.if_icmp .ge 23, 3) := by decide +kernel
theorem dX0_addSign_19 : decode cX0_addSign 19 = .ok (.aload_n 0, 1) := by decide +kernel
theorem dX0_addSign_20 : decode cX0_addSign 20 = .ok (.getfield 9, 3) := by decide +kernel
theorem dX0_addSign_23 : decode cX0_addSign 23 = .ok (.aload_n 0, 1) := by decide +kernel
theorem dX0_addSign_24 : decode cX0_addSign 24 = .ok (.getfield 15, 3) := by decide +kernel
theorem dX0_addSign_27 : decode cX0_addSign 27 = .ok (.iload_n 1, 1) := by decide +kernel
theorem dX0_addSign_28 : decode cX0_addSign 28 = .ok (.iastore, 1) := by decide +kernel
theorem dX0_addSign_29 : decode cX0_addSign 29 = .ok (.aload_n 0, 1) := by decide +kernel
theorem dX0_addSign_30 : decode cX0_addSign 30 = .ok (.dup, 1) := by decide +kernel
theorem dX0_addSign_31 : decode cX0_addSign 31 = .ok (.getfield 15, 3) := by decide +kernel
theorem dX0_addSign_34 : decode cX0_addSign 34 = .ok (.iconst 1, 1) := by decide +kernel
theorem dX0_addSign_35 : decode cX0_addSign 35 = .ok (.iadd, 1) := by decide +kernel
theorem dX0_addSign_36 : decode cX0_addSign 36 = .ok (.putfield 15, 3) := by decide +kernel
theorem dX0_addSign_39 : decode cX0_addSign 39 = .ok (.aload_n 0, 1) := by decide +kernel
theorem dX0_addSign_40 : decode cX0_addSign 40 = .ok (.getfield 15, 3) := by decide +kernel
theorem dX0_addSign_43 : decode cX0_addSign 43 = .ok (.ireturn, 1) := by decide +kernel
theorem dX0_empty_0 : decode cX0_empty 0 = .ok (.aload_n 0, 1) := by decide +kernel
theorem dX0_empty_1 : decode cX0_empty 1 = .ok (.getfield 15, 3) := by decide +kernel
theorem dX0_empty_4 : decode cX0_empty 4 = .ok (.istore_n 1, 1) := by decide +kernel
theorem dX0_empty_5 : decode cX0_empty 5 = .ok (.aload_n 0, 1) := by decide +kernel
theorem dX0_empty_6 : decode cX0_empty 6 = .ok (.iconst 0, 1) := by decide +kernel
theorem dX0_empty_7 : decode cX0_empty 7 = .ok (.putfield 15, 3) := by decide +kernel
theorem dX0_empty_10 : decode cX0_empty 10 = .ok (.iload_n 1, 1) := by decide +kernel
theorem dX0_empty_11 : decode cX0_empty 11 = .ok (.ireturn, 1) := by decide +kernel
theorem dX0_errorPlace_0 : decode cX0_errorPlace 0 = .ok (.iconst 0, 1) := by decide +kernel
theorem dX0_errorPlace_1 : decode cX0_errorPlace 1 = .ok (.istore_n 1, 1) := by decide +kernel
theorem dX0_errorPlace_2 : decode cX0_errorPlace 2 = .ok (.iconst 0, 1) := by decide +kernel
theorem dX0_errorPlace_3 : decode cX0_errorPlace 3 = .ok (.istore_n 2, 1) := by decide +kernel
theorem dX0_errorPlace_4 : decode cX0_errorPlace 4 = .ok (.iload_n 2, 1) := by decide +kernel
theorem dX0_errorPlace_5 : decode cX0_errorPlace 5 = .ok (.aload_n 0, 1) := by decide +kernel
theorem dX0_errorPlace_6 : decode cX0_errorPlace 6 = .ok (.getfield 15, 3) := by decide +kernel
theorem dX0_errorPlace_9 : decode cX0_errorPlace 9 = .ok (.if_icmp .ge 26, 3) := by decide +kernel
theorem dX0_errorPlace_12 : decode cX0_errorPlace 12 = .ok (.iload_n 1, 1) := by decide +kernel
theorem dX0_errorPlace_13 : decode cX0_errorPlace 13 = .ok (.aload_n 0, 1) := by decide +kernel
theorem dX0_errorPlace_14 : decode cX0_errorPlace 14 = .ok (.iload_n 2, 1) := by decide +kernel
theorem dX0_errorPlace_15 : decode cX0_errorPlace 15 = .ok (.invokevirtual 19, 3) := by decide +kernel
theorem dX0_errorPlace_18 : decode cX0_errorPlace 18 = .ok (.invokestatic 23, 3) := by decide +kernel
theorem dX0_errorPlace_21 : decode cX0_errorPlace 21 = .ok (.istore_n 1, 1) := by decide +kernel
theorem dX0_errorPlace_22 : decode cX0_errorPlace 22 = .ok (.iload_n 1, 1) := by decide +kernel
theorem dX0_errorPlace_23 : decode cX0_errorPlace 23 = .ok (.iconst 5, 1) := by decide +kernel
theorem dX0_errorPlace_24 : decode cX0_errorPlace 24 = .ok (.if_icmp .ne 5, 3) := by decide +kernel
theorem dX0_errorPlace_27 : decode cX0_errorPlace 27 = .ok (.iload_n 2, 1) := by decide +kernel
theorem dX0_errorPlace_28 : decode cX0_errorPlace 28 = .ok (.ireturn, 1) := by decide +kernel
theorem dX0_errorPlace_29 : decode cX0_errorPlace 29 = .ok (.iinc 2 1, 3) := by decide +kernel
theorem dX0_errorPlace_32 : decode cX0_errorPlace 32 = .ok (.goto (-28), 3) := by decide +kernel
theorem dX0_errorPlace_35 : decode cX0_errorPlace 35 = .ok (.aload_n 0, 1) := by decide +kernel
theorem dX0_errorPlace_36 : decode cX0_errorPlace 36 = .ok (.getfield 15, 3) := by decide +kernel
theorem dX0_errorPlace_39 : decode cX0_errorPlace 39 = .ok (.ireturn, 1) := by decide +kernel
theorem dX0_tellsAskings_0 : decode cX0_tellsAskings 0 = .ok (.iconst 0, 1) := by decide +kernel
theorem dX0_tellsAskings_1 : decode cX0_tellsAskings 1 = .ok (.istore_n 1, 1) := by decide +kernel
theorem dX0_tellsAskings_2 : decode cX0_tellsAskings 2 = .ok (.iconst 0, 1) := by decide +kernel
theorem dX0_tellsAskings_3 : decode cX0_tellsAskings 3 = .ok (.istore_n 2, 1) := by decide +kernel
theorem dX0_tellsAskings_4 : decode cX0_tellsAskings 4 = .ok (.iload_n 2, 1) := by decide +kernel
theorem dX0_tellsAskings_5 : decode cX0_tellsAskings 5 = .ok (.aload_n 0, 1) := by decide +kernel
theorem dX0_tellsAskings_6 : decode cX0_tellsAskings 6 = .ok (.getfield 15, 3) := by decide +kernel
theorem dX0_tellsAskings_9 : decode cX0_tellsAskings 9 = .ok (.if_icmp .ge 19, 3) := by decide +kernel
theorem dX0_tellsAskings_12 : decode cX0_tellsAskings 12 = .ok (.iload_n 1, 1) := by decide +kernel
theorem dX0_tellsAskings_13 : decode cX0_tellsAskings 13 = .ok (.aload_n 0, 1) := by decide +kernel
theorem dX0_tellsAskings_14 : decode cX0_tellsAskings 14 = .ok (.iload_n 2, 1) := by decide +kernel
theorem dX0_tellsAskings_15 : decode cX0_tellsAskings 15 = .ok (.invokevirtual 19, 3) := by decide +kernel
theorem dX0_tellsAskings_18 : decode cX0_tellsAskings 18 = .ok (.invokestatic 23, 3) := by decide +kernel
theorem dX0_tellsAskings_21 : decode cX0_tellsAskings 21 = .ok (.istore_n 1, 1) := by decide +kernel
theorem dX0_tellsAskings_22 : decode cX0_tellsAskings 22 = .ok (.iinc 2 1, 3) := by decide +kernel
theorem dX0_tellsAskings_25 : decode cX0_tellsAskings 25 = .ok (.goto (-21), 3) := by decide +kernel
theorem dX0_tellsAskings_28 : decode cX0_tellsAskings 28 = .ok (.iload_n 1, 1) := by decide +kernel
theorem dX0_tellsAskings_29 : decode cX0_tellsAskings 29 = .ok (.iconst 4, 1) := by decide +kernel
theorem dX0_tellsAskings_30 : decode cX0_tellsAskings 30 = .ok (.if_icmp .ne 7, 3) := by decide +kernel
theorem dX0_tellsAskings_33 : decode cX0_tellsAskings 33 = .ok (.iconst 1, 1) := by decide +kernel
theorem dX0_tellsAskings_34 : decode cX0_tellsAskings 34 = .ok (.goto 4, 3) := by decide +kernel
theorem dX0_tellsAskings_37 : decode cX0_tellsAskings 37 = .ok (.iconst 0, 1) := by decide +kernel
theorem dX0_tellsAskings_38 : decode cX0_tellsAskings 38 = .ok (.ireturn, 1) := by decide +kernel
theorem dX0_stateAfter_0 : decode cX0_stateAfter 0 = .ok (.iload_n 0, 1) := by decide +kernel
theorem dX0_stateAfter_1 : decode cX0_stateAfter 1 = .ok (.tableswitch 143 0 4 #[35, 67, 83, 105, 127], 35) := by decide +kernel
theorem dX0_stateAfter_36 : decode cX0_stateAfter 36 = .ok (.iload_n 1, 1) := by decide +kernel
theorem dX0_stateAfter_37 : decode cX0_stateAfter 37 = .ok (.bipush 104, 2) := by decide +kernel
theorem dX0_stateAfter_39 : decode cX0_stateAfter 39 = .ok (.if_icmp .ne 7, 3) := by decide +kernel
theorem dX0_stateAfter_42 : decode cX0_stateAfter 42 = .ok (.iconst 4, 1) := by decide +kernel
theorem dX0_stateAfter_43 : decode cX0_stateAfter 43 = .ok (.goto 24, 3) := by decide +kernel
theorem dX0_stateAfter_46 : decode cX0_stateAfter 46 = .ok (.iload_n 1, 1) := by decide +kernel
theorem dX0_stateAfter_47 : decode cX0_stateAfter 47 = .ok (.bipush 48, 2) := by decide +kernel
theorem dX0_stateAfter_49 : decode cX0_stateAfter 49 = .ok (.if_icmp .lt 13, 3) := by decide +kernel
theorem dX0_stateAfter_52 : decode cX0_stateAfter 52 = .ok (.iload_n 1, 1) := by decide +kernel
theorem dX0_stateAfter_53 : decode cX0_stateAfter 53 = .ok (.bipush 57, 2) := by decide +kernel
theorem dX0_stateAfter_55 : decode cX0_stateAfter 55 = .ok (.if_icmp .gt 7, 3) := by decide +kernel
theorem dX0_stateAfter_58 : decode cX0_stateAfter 58 = .ok (.iconst 1, 1) := by decide +kernel
theorem dX0_stateAfter_59 : decode cX0_stateAfter 59 = .ok (.goto 4, 3) := by decide +kernel
theorem dX0_stateAfter_62 : decode cX0_stateAfter 62 = .ok (.iconst 0, 1) := by decide +kernel
theorem dX0_stateAfter_63 : decode cX0_stateAfter 63 = .ok (.iconst 1, 1) := by decide +kernel
theorem dX0_stateAfter_64 : decode cX0_stateAfter 64 = .ok (.invokestatic 27, 3) := by decide +kernel
theorem dX0_stateAfter_67 : decode cX0_stateAfter 67 = .ok (.ireturn, 1) := by decide +kernel
theorem dX0_stateAfter_68 : decode cX0_stateAfter 68 = .ok (.iload_n 1, 1) := by decide +kernel
theorem dX0_stateAfter_69 : decode cX0_stateAfter 69 = .ok (.bipush 64, 2) := by decide +kernel
theorem dX0_stateAfter_71 : decode cX0_stateAfter 71 = .ok (.if_icmp .ne 7, 3) := by decide +kernel
theorem dX0_stateAfter_74 : decode cX0_stateAfter 74 = .ok (.iconst 1, 1) := by decide +kernel
theorem dX0_stateAfter_75 : decode cX0_stateAfter 75 = .ok (.goto 4, 3) := by decide +kernel
theorem dX0_stateAfter_78 : decode cX0_stateAfter 78 = .ok (.iconst 0, 1) := by decide +kernel
theorem dX0_stateAfter_79 : decode cX0_stateAfter 79 = .ok (.iconst 2, 1) := by decide +kernel
theorem dX0_stateAfter_80 : decode cX0_stateAfter 80 = .ok (.invokestatic 27, 3) := by decide +kernel
theorem dX0_stateAfter_83 : decode cX0_stateAfter 83 = .ok (.ireturn, 1) := by decide +kernel
theorem dX0_stateAfter_84 : decode cX0_stateAfter 84 = .ok (.iload_n 1, 1) := by decide +kernel
theorem dX0_stateAfter_85 : decode cX0_stateAfter 85 = .ok (.bipush 97, 2) := by decide +kernel
theorem dX0_stateAfter_87 : decode cX0_stateAfter 87 = .ok (.if_icmp .lt 13, 3) := by decide +kernel
theorem dX0_stateAfter_90 : decode cX0_stateAfter 90 = .ok (.iload_n 1, 1) := by decide +kernel
theorem dX0_stateAfter_91 : decode cX0_stateAfter 91 = .ok (.bipush 108, 2) := by decide +kernel
theorem dX0_stateAfter_93 : decode cX0_stateAfter 93 = .ok (.if_icmp .gt 7, 3) := by decide +kernel
theorem dX0_stateAfter_96 : decode cX0_stateAfter 96 = .ok (.iconst 1, 1) := by decide +kernel
theorem dX0_stateAfter_97 : decode cX0_stateAfter 97 = .ok (.goto 4, 3) := by decide +kernel
theorem dX0_stateAfter_100 : decode cX0_stateAfter 100 = .ok (.iconst 0, 1) := by decide +kernel
theorem dX0_stateAfter_101 : decode cX0_stateAfter 101 = .ok (.iconst 3, 1) := by decide +kernel
theorem dX0_stateAfter_102 : decode cX0_stateAfter 102 = .ok (.invokestatic 27, 3) := by decide +kernel
theorem dX0_stateAfter_105 : decode cX0_stateAfter 105 = .ok (.ireturn, 1) := by decide +kernel
theorem dX0_stateAfter_106 : decode cX0_stateAfter 106 = .ok (.iload_n 1, 1) := by decide +kernel
theorem dX0_stateAfter_107 : decode cX0_stateAfter 107 = .ok (.bipush 49, 2) := by decide +kernel
theorem dX0_stateAfter_109 : decode cX0_stateAfter 109 = .ok (.if_icmp .lt 13, 3) := by decide +kernel
theorem dX0_stateAfter_112 : decode cX0_stateAfter 112 = .ok (.iload_n 1, 1) := by decide +kernel
theorem dX0_stateAfter_113 : decode cX0_stateAfter 113 = .ok (.bipush 57, 2) := by decide +kernel
theorem dX0_stateAfter_115 : decode cX0_stateAfter 115 = .ok (.if_icmp .gt 7, 3) := by decide +kernel
theorem dX0_stateAfter_118 : decode cX0_stateAfter 118 = .ok (.iconst 1, 1) := by decide +kernel
theorem dX0_stateAfter_119 : decode cX0_stateAfter 119 = .ok (.goto 4, 3) := by decide +kernel
theorem dX0_stateAfter_122 : decode cX0_stateAfter 122 = .ok (.iconst 0, 1) := by decide +kernel
theorem dX0_stateAfter_123 : decode cX0_stateAfter 123 = .ok (.iconst 4, 1) := by decide +kernel
theorem dX0_stateAfter_124 : decode cX0_stateAfter 124 = .ok (.invokestatic 27, 3) := by decide +kernel
theorem dX0_stateAfter_127 : decode cX0_stateAfter 127 = .ok (.ireturn, 1) := by decide +kernel
theorem dX0_stateAfter_128 : decode cX0_stateAfter 128 = .ok (.iload_n 1, 1) := by decide +kernel
theorem dX0_stateAfter_129 : decode cX0_stateAfter 129 = .ok (.bipush 59, 2) := by decide +kernel
theorem dX0_stateAfter_131 : decode cX0_stateAfter 131 = .ok (.if_icmp .ne 7, 3) := by decide +kernel
theorem dX0_stateAfter_134 : decode cX0_stateAfter 134 = .ok (.iconst 1, 1) := by decide +kernel
theorem dX0_stateAfter_135 : decode cX0_stateAfter 135 = .ok (.goto 4, 3) := by decide +kernel
theorem dX0_stateAfter_138 : decode cX0_stateAfter 138 = .ok (.iconst 0, 1) := by decide +kernel
theorem dX0_stateAfter_139 : decode cX0_stateAfter 139 = .ok (.iconst 0, 1) := by decide +kernel
theorem dX0_stateAfter_140 : decode cX0_stateAfter 140 = .ok (.invokestatic 27, 3) := by decide +kernel
theorem dX0_stateAfter_143 : decode cX0_stateAfter 143 = .ok (.ireturn, 1) := by decide +kernel
theorem dX0_stateAfter_144 : decode cX0_stateAfter 144 = .ok (.iconst 5, 1) := by decide +kernel
theorem dX0_stateAfter_145 : decode cX0_stateAfter 145 = .ok (.ireturn, 1) := by decide +kernel
theorem dX0_next_0 : decode cX0_next 0 = .ok (.iload_n 0, 1) := by decide +kernel
theorem dX0_next_1 : decode cX0_next 1 = .ok (.ifCond .eq 7, 3) := by decide +kernel
theorem dX0_next_4 : decode cX0_next 4 = .ok (.iload_n 1, 1) := by decide +kernel
theorem dX0_next_5 : decode cX0_next 5 = .ok (.goto 4, 3) := by decide +kernel
theorem dX0_next_8 : decode cX0_next 8 = .ok (.iconst 5, 1) := by decide +kernel
theorem dX0_next_9 : decode cX0_next 9 = .ok (.ireturn, 1) := by decide +kernel
theorem dX0_tellsHour_0 : decode cX0_tellsHour 0 = .ok (.aload_n 0, 1) := by decide +kernel
theorem dX0_tellsHour_1 : decode cX0_tellsHour 1 = .ok (.iload_n 1, 1) := by decide +kernel
theorem dX0_tellsHour_2 : decode cX0_tellsHour 2 = .ok (.invokevirtual 19, 3) := by decide +kernel
theorem dX0_tellsHour_5 : decode cX0_tellsHour 5 = .ok (.bipush 104, 2) := by decide +kernel
theorem dX0_tellsHour_7 : decode cX0_tellsHour 7 = .ok (.if_icmp .ne 7, 3) := by decide +kernel
theorem dX0_tellsHour_10 : decode cX0_tellsHour 10 = .ok (.iconst 1, 1) := by decide +kernel
theorem dX0_tellsHour_11 : decode cX0_tellsHour 11 = .ok (.goto 4, 3) := by decide +kernel
theorem dX0_tellsHour_14 : decode cX0_tellsHour 14 = .ok (.iconst 0, 1) := by decide +kernel
theorem dX0_tellsHour_15 : decode cX0_tellsHour 15 = .ok (.ireturn, 1) := by decide +kernel
theorem dX0_lodger_0 : decode cX0_lodger 0 = .ok (.aload_n 0, 1) := by decide +kernel
theorem dX0_lodger_1 : decode cX0_lodger 1 = .ok (.iload_n 1, 1) := by decide +kernel
theorem dX0_lodger_2 : decode cX0_lodger 2 = .ok (.invokevirtual 19, 3) := by decide +kernel
theorem dX0_lodger_5 : decode cX0_lodger 5 = .ok (.bipush 48, 2) := by decide +kernel
theorem dX0_lodger_7 : decode cX0_lodger 7 = .ok (.isub, 1) := by decide +kernel
theorem dX0_lodger_8 : decode cX0_lodger 8 = .ok (.ireturn, 1) := by decide +kernel
theorem dX0_firstHour_0 : decode cX0_firstHour 0 = .ok (.aload_n 0, 1) := by decide +kernel
theorem dX0_firstHour_1 : decode cX0_firstHour 1 = .ok (.iload_n 1, 1) := by decide +kernel
theorem dX0_firstHour_2 : decode cX0_firstHour 2 = .ok (.iconst 2, 1) := by decide +kernel
theorem dX0_firstHour_3 : decode cX0_firstHour 3 = .ok (.iadd, 1) := by decide +kernel
theorem dX0_firstHour_4 : decode cX0_firstHour 4 = .ok (.invokevirtual 19, 3) := by decide +kernel
theorem dX0_firstHour_7 : decode cX0_firstHour 7 = .ok (.bipush 97, 2) := by decide +kernel
theorem dX0_firstHour_9 : decode cX0_firstHour 9 = .ok (.isub, 1) := by decide +kernel
theorem dX0_firstHour_10 : decode cX0_firstHour 10 = .ok (.ireturn, 1) := by decide +kernel
theorem dX0_hours_0 : decode cX0_hours 0 = .ok (.aload_n 0, 1) := by decide +kernel
theorem dX0_hours_1 : decode cX0_hours 1 = .ok (.iload_n 1, 1) := by decide +kernel
theorem dX0_hours_2 : decode cX0_hours 2 = .ok (.iconst 3, 1) := by decide +kernel
theorem dX0_hours_3 : decode cX0_hours 3 = .ok (.iadd, 1) := by decide +kernel
theorem dX0_hours_4 : decode cX0_hours 4 = .ok (.invokevirtual 19, 3) := by decide +kernel
theorem dX0_hours_7 : decode cX0_hours 7 = .ok (.bipush 48, 2) := by decide +kernel
theorem dX0_hours_9 : decode cX0_hours 9 = .ok (.isub, 1) := by decide +kernel
theorem dX0_hours_10 : decode cX0_hours 10 = .ok (.ireturn, 1) := by decide +kernel
theorem dX1_init_0 : decode cX1_init 0 = .ok (.aload_n 0, 1) := by decide +kernel
theorem dX1_init_1 : decode cX1_init 1 = .ok (.invokespecial 3, 3) := by decide +kernel
theorem dX1_init_4 : decode cX1_init 4 = .ok (.aload_n 0, 1) := by decide +kernel
theorem dX1_init_5 : decode cX1_init 5 = .ok (.iconst 4, 1) := by decide +kernel
theorem dX1_init_6 : decode cX1_init 6 = .ok (.newarray .int, 2) := by decide +kernel
theorem dX1_init_8 : decode cX1_init 8 = .ok (.putfield 9, 3) := by decide +kernel
theorem dX1_init_11 : decode cX1_init 11 = .ok (.return_, 1) := by decide +kernel
theorem dX1_bedsFor_0 : decode cX1_bedsFor 0 = .ok (.aload_n 0, 1) := by decide +kernel
theorem dX1_bedsFor_1 : decode cX1_bedsFor 1 = .ok (.getfield 9, 3) := by decide +kernel
theorem dX1_bedsFor_4 : decode cX1_bedsFor 4 = .ok (.iconst 0, 1) := by decide +kernel
theorem dX1_bedsFor_5 : decode cX1_bedsFor 5 = .ok (.invokestatic 15, 3) := by decide +kernel
theorem dX1_bedsFor_8 : decode cX1_bedsFor 8 = .ok (.iconst 0, 1) := by decide +kernel
theorem dX1_bedsFor_9 : decode cX1_bedsFor 9 = .ok (.istore_n 2, 1) := by decide +kernel
theorem dX1_bedsFor_10 : decode cX1_bedsFor 10 = .ok (.iconst 0, 1) := by decide +kernel
theorem dX1_bedsFor_11 : decode cX1_bedsFor 11 = .ok (.istore_n 3, 1) := by decide +kernel
theorem dX1_bedsFor_12 : decode cX1_bedsFor 12 = .ok (.iload_n 3, 1) := by decide +kernel
theorem dX1_bedsFor_13 : decode cX1_bedsFor 13 = .ok (.bipush 12, 2) := by decide +kernel
theorem dX1_bedsFor_15 : decode cX1_bedsFor 15 = .ok (.if_icmp .ge 53, 3) := by decide +kernel
theorem dX1_bedsFor_18 : decode cX1_bedsFor 18 = .ok (.iconst 0, 1) := by decide +kernel
theorem dX1_bedsFor_19 : decode cX1_bedsFor 19 = .ok (.istore 4, 2) := by decide +kernel
theorem dX1_bedsFor_21 : decode cX1_bedsFor 21 = .ok (.iload 4, 2) := by decide +kernel
theorem dX1_bedsFor_23 : decode cX1_bedsFor 23 = .ok (.iconst 4, 1) := by decide +kernel
theorem dX1_bedsFor_24 : decode cX1_bedsFor 24 = .ok (.if_icmp .ge 38, 3) := by decide +kernel
theorem dX1_bedsFor_27 : decode cX1_bedsFor 27 = .ok (.aload_n 1, 1) := by decide +kernel
theorem dX1_bedsFor_28 : decode cX1_bedsFor 28 = .ok (.iload 4, 2) := by decide +kernel
theorem dX1_bedsFor_30 : decode cX1_bedsFor 30 = .ok (.iload_n 3, 1) := by decide +kernel
theorem dX1_bedsFor_31 : decode cX1_bedsFor 31 = .ok (.invokevirtual 21, 3) := by decide +kernel
theorem dX1_bedsFor_34 : decode cX1_bedsFor 34 = .ok (.ifCond .eq 22, 3) := by decide +kernel
theorem dX1_bedsFor_37 : decode cX1_bedsFor 37 = .ok (.iload_n 2, 1) := by decide +kernel
theorem dX1_bedsFor_38 : decode cX1_bedsFor 38 = .ok (.aload_n 0, 1) := by decide +kernel
theorem dX1_bedsFor_39 : decode cX1_bedsFor 39 = .ok (.iload_n 3, 1) := by decide +kernel
theorem dX1_bedsFor_40 : decode cX1_bedsFor 40 = .ok (.aload_n 1, 1) := by decide +kernel
theorem dX1_bedsFor_41 : decode cX1_bedsFor 41 = .ok (.iload 4, 2) := by decide +kernel
theorem dX1_bedsFor_43 : decode cX1_bedsFor 43 = .ok (.iload_n 3, 1) := by decide +kernel
theorem dX1_bedsFor_44 : decode cX1_bedsFor 44 = .ok (.invokevirtual 27, 3) := by decide +kernel
theorem dX1_bedsFor_47 : decode cX1_bedsFor 47 = .ok (.invokevirtual 31, 3) := by decide +kernel
theorem dX1_bedsFor_50 : decode cX1_bedsFor 50 = .ok (.iconst 1, 1) := by decide +kernel
theorem dX1_bedsFor_51 : decode cX1_bedsFor 51 = .ok (.iadd, 1) := by decide +kernel
theorem dX1_bedsFor_52 : decode cX1_bedsFor 52 = .ok (.invokestatic 34, 3) := by decide +kernel
theorem dX1_bedsFor_55 : decode cX1_bedsFor 55 = .ok (.istore_n 2, 1) := by decide +kernel
theorem dX1_bedsFor_56 : decode cX1_bedsFor 56 = .ok (.iinc 4 1, 3) := by decide +kernel
theorem dX1_bedsFor_59 : decode cX1_bedsFor 59 = .ok (.goto (-38), 3) := by decide +kernel
theorem dX1_bedsFor_62 : decode cX1_bedsFor 62 = .ok (.iinc 3 1, 3) := by decide +kernel
theorem dX1_bedsFor_65 : decode cX1_bedsFor 65 = .ok (.goto (-53), 3) := by decide +kernel
theorem dX1_bedsFor_68 : decode cX1_bedsFor 68 = .ok (.iload_n 2, 1) := by decide +kernel
theorem dX1_bedsFor_69 : decode cX1_bedsFor 69 = .ok (.ireturn, 1) := by decide +kernel
theorem dX1_lay_0 : decode cX1_lay 0 = .ok (.iconst 0, 1) := by decide +kernel
theorem dX1_lay_1 : decode cX1_lay 1 = .ok (.istore_n 3, 1) := by decide +kernel
theorem dX1_lay_2 : decode cX1_lay 2 = .ok (.iload_n 3, 1) := by decide +kernel
theorem dX1_lay_3 : decode cX1_lay 3 = .ok (.aload_n 0, 1) := by decide +kernel
theorem dX1_lay_4 : decode cX1_lay 4 = .ok (.getfield 9, 3) := by decide +kernel
theorem dX1_lay_7 : decode cX1_lay 7 = .ok (.arraylength, 1) := by decide +kernel
theorem dX1_lay_8 : decode cX1_lay 8 = .ok (.if_icmp .ge 28, 3) := by decide +kernel
theorem dX1_lay_11 : decode cX1_lay 11 = .ok (.aload_n 0, 1) := by decide +kernel
theorem dX1_lay_12 : decode cX1_lay 12 = .ok (.getfield 9, 3) := by decide +kernel
theorem dX1_lay_15 : decode cX1_lay 15 = .ok (.iload_n 3, 1) := by decide +kernel
theorem dX1_lay_16 : decode cX1_lay 16 = .ok (.iaload, 1) := by decide +kernel
theorem dX1_lay_17 : decode cX1_lay 17 = .ok (.iload_n 1, 1) := by decide +kernel
theorem dX1_lay_18 : decode cX1_lay 18 = .ok (.if_icmp .gt 12, 3) := by decide +kernel
theorem dX1_lay_21 : decode cX1_lay 21 = .ok (.aload_n 0, 1) := by decide +kernel
theorem dX1_lay_22 : decode cX1_lay 22 = .ok (.getfield 9, 3) := by decide +kernel
theorem dX1_lay_25 : decode cX1_lay 25 = .ok (.iload_n 3, 1) := by decide +kernel
theorem dX1_lay_26 : decode cX1_lay 26 = .ok (.iload_n 2, 1) := by decide +kernel
theorem dX1_lay_27 : decode cX1_lay 27 = .ok (.iastore, 1) := by decide +kernel
theorem dX1_lay_28 : decode cX1_lay 28 = .ok (.iload_n 3, 1) := by decide +kernel
theorem dX1_lay_29 : decode cX1_lay 29 = .ok (.ireturn, 1) := by decide +kernel
theorem dX1_lay_30 : decode cX1_lay 30 = .ok (.iinc 3 1, 3) := by decide +kernel
theorem dX1_lay_33 : decode cX1_lay 33 = .ok (.goto (-31), 3) := by decide +kernel
theorem dX1_lay_36 : decode cX1_lay 36 = .ok (.iconst (-1), 1) := by decide +kernel
theorem dX1_lay_37 : decode cX1_lay 37 = .ok (.ireturn, 1) := by decide +kernel
theorem dX2_init_0 : decode cX2_init 0 = .ok (.aload_n 0, 1) := by decide +kernel
theorem dX2_init_1 : decode cX2_init 1 = .ok (.invokespecial 3, 3) := by decide +kernel
theorem dX2_init_4 : decode cX2_init 4 = .ok (.aload_n 0, 1) := by decide +kernel
theorem dX2_init_5 : decode cX2_init 5 = .ok (.iconst 0, 1) := by decide +kernel
theorem dX2_init_6 : decode cX2_init 6 = .ok (.iload_n 1, 1) := by decide +kernel
theorem dX2_init_7 : decode cX2_init 7 = .ok (.invokestatic 9, 3) := by decide +kernel
theorem dX2_init_10 : decode cX2_init 10 = .ok (.putfield 15, 3) := by decide +kernel
theorem dX2_init_13 : decode cX2_init 13 = .ok (.aload_n 0, 1) := by decide +kernel
theorem dX2_init_14 : decode cX2_init 14 = .ok (.iconst 0, 1) := by decide +kernel
theorem dX2_init_15 : decode cX2_init 15 = .ok (.iload_n 2, 1) := by decide +kernel
theorem dX2_init_16 : decode cX2_init 16 = .ok (.invokestatic 9, 3) := by decide +kernel
theorem dX2_init_19 : decode cX2_init 19 = .ok (.putfield 21, 3) := by decide +kernel
theorem dX2_init_22 : decode cX2_init 22 = .ok (.aload_n 0, 1) := by decide +kernel
theorem dX2_init_23 : decode cX2_init 23 = .ok (.aload_n 0, 1) := by decide +kernel
theorem dX2_init_24 : decode cX2_init 24 = .ok (.getfield 15, 3) := by decide +kernel
theorem dX2_init_27 : decode cX2_init 27 = .ok (.aload_n 0, 1) := by decide +kernel
theorem dX2_init_28 : decode cX2_init 28 = .ok (.getfield 21, 3) := by decide +kernel
theorem dX2_init_31 : decode cX2_init 31 = .ok (.imul, 1) := by decide +kernel
theorem dX2_init_32 : decode cX2_init 32 = .ok (.newarray .int, 2) := by decide +kernel
theorem dX2_init_34 : decode cX2_init 34 = .ok (.putfield 24, 3) := by decide +kernel
theorem dX2_init_37 : decode cX2_init 37 = .ok (.return_, 1) := by decide +kernel
theorem dX2_get_0 : decode cX2_get 0 = .ok (.iload_n 1, 1) := by decide +kernel
theorem dX2_get_1 : decode cX2_get 1 = .ok (.ifCond .lt 23, 3) := by decide +kernel
theorem dX2_get_4 : decode cX2_get 4 = .ok (.iload_n 1, 1) := by decide +kernel
theorem dX2_get_5 : decode cX2_get 5 = .ok (.aload_n 0, 1) := by decide +kernel
theorem dX2_get_6 : decode cX2_get 6 = .ok (.getfield 15, 3) := by decide +kernel
theorem dX2_get_9 : decode cX2_get 9 = .ok (.if_icmp .ge 15, 3) := by decide +kernel
theorem dX2_get_12 : decode cX2_get 12 = .ok (.iload_n 2, 1) := by decide +kernel
theorem dX2_get_13 : decode cX2_get 13 = .ok (.ifCond .lt 11, 3) := by decide +kernel
theorem dX2_get_16 : decode cX2_get 16 = .ok (.iload_n 2, 1) := by decide +kernel
theorem dX2_get_17 : decode cX2_get 17 = .ok (.aload_n 0, 1) := by decide +kernel
theorem dX2_get_18 : decode cX2_get 18 = .ok (.getfield 21, 3) := by decide +kernel
theorem dX2_get_21 : decode cX2_get 21 = .ok (.if_icmp .lt 5, 3) := by decide +kernel
theorem dX2_get_24 : decode cX2_get 24 = .ok (.iconst (-1), 1) := by decide +kernel
theorem dX2_get_25 : decode cX2_get 25 = .ok (.ireturn, 1) := by decide +kernel
theorem dX2_get_26 : decode cX2_get 26 = .ok (.aload_n 0, 1) := by decide +kernel
theorem dX2_get_27 : decode cX2_get 27 = .ok (.getfield 24, 3) := by decide +kernel
theorem dX2_get_30 : decode cX2_get 30 = .ok (.iload_n 1, 1) := by decide +kernel
theorem dX2_get_31 : decode cX2_get 31 = .ok (.aload_n 0, 1) := by decide +kernel
theorem dX2_get_32 : decode cX2_get 32 = .ok (.getfield 21, 3) := by decide +kernel
theorem dX2_get_35 : decode cX2_get 35 = .ok (.imul, 1) := by decide +kernel
theorem dX2_get_36 : decode cX2_get 36 = .ok (.iload_n 2, 1) := by decide +kernel
theorem dX2_get_37 : decode cX2_get 37 = .ok (.iadd, 1) := by decide +kernel
theorem dX2_get_38 : decode cX2_get 38 = .ok (.iaload, 1) := by decide +kernel
theorem dX2_get_39 : decode cX2_get 39 = .ok (.ireturn, 1) := by decide +kernel
theorem dX2_put_0 : decode cX2_put 0 = .ok (.iload_n 1, 1) := by decide +kernel
theorem dX2_put_1 : decode cX2_put 1 = .ok (.ifCond .lt 23, 3) := by decide +kernel
theorem dX2_put_4 : decode cX2_put 4 = .ok (.iload_n 1, 1) := by decide +kernel
theorem dX2_put_5 : decode cX2_put 5 = .ok (.aload_n 0, 1) := by decide +kernel
theorem dX2_put_6 : decode cX2_put 6 = .ok (.getfield 15, 3) := by decide +kernel
theorem dX2_put_9 : decode cX2_put 9 = .ok (.if_icmp .ge 15, 3) := by decide +kernel
theorem dX2_put_12 : decode cX2_put 12 = .ok (.iload_n 2, 1) := by decide +kernel
theorem dX2_put_13 : decode cX2_put 13 = .ok (.ifCond .lt 11, 3) := by decide +kernel
theorem dX2_put_16 : decode cX2_put 16 = .ok (.iload_n 2, 1) := by decide +kernel
theorem dX2_put_17 : decode cX2_put 17 = .ok (.aload_n 0, 1) := by decide +kernel
theorem dX2_put_18 : decode cX2_put 18 = .ok (.getfield 21, 3) := by decide +kernel
theorem dX2_put_21 : decode cX2_put 21 = .ok (.if_icmp .lt 4, 3) := by decide +kernel
theorem dX2_put_24 : decode cX2_put 24 = .ok (.return_, 1) := by decide +kernel
theorem dX2_put_25 : decode cX2_put 25 = .ok (.aload_n 0, 1) := by decide +kernel
theorem dX2_put_26 : decode cX2_put 26 = .ok (.getfield 24, 3) := by decide +kernel
theorem dX2_put_29 : decode cX2_put 29 = .ok (.iload_n 1, 1) := by decide +kernel
theorem dX2_put_30 : decode cX2_put 30 = .ok (.aload_n 0, 1) := by decide +kernel
theorem dX2_put_31 : decode cX2_put 31 = .ok (.getfield 21, 3) := by decide +kernel
theorem dX2_put_34 : decode cX2_put 34 = .ok (.imul, 1) := by decide +kernel
theorem dX2_put_35 : decode cX2_put 35 = .ok (.iload_n 2, 1) := by decide +kernel
theorem dX2_put_36 : decode cX2_put 36 = .ok (.iadd, 1) := by decide +kernel
theorem dX2_put_37 : decode cX2_put 37 = .ok (.iload_n 3, 1) := by decide +kernel
theorem dX2_put_38 : decode cX2_put 38 = .ok (.iastore, 1) := by decide +kernel
theorem dX2_put_39 : decode cX2_put 39 = .ok (.return_, 1) := by decide +kernel
theorem dX2_raise_0 : decode cX2_raise 0 = .ok (.aload_n 0, 1) := by decide +kernel
theorem dX2_raise_1 : decode cX2_raise 1 = .ok (.iload_n 1, 1) := by decide +kernel
theorem dX2_raise_2 : decode cX2_raise 2 = .ok (.iload_n 2, 1) := by decide +kernel
theorem dX2_raise_3 : decode cX2_raise 3 = .ok (.aload_n 0, 1) := by decide +kernel
theorem dX2_raise_4 : decode cX2_raise 4 = .ok (.iload_n 1, 1) := by decide +kernel
theorem dX2_raise_5 : decode cX2_raise 5 = .ok (.iload_n 2, 1) := by decide +kernel
theorem dX2_raise_6 : decode cX2_raise 6 = .ok (.invokevirtual 28, 3) := by decide +kernel
theorem dX2_raise_9 : decode cX2_raise 9 = .ok (.iload_n 3, 1) := by decide +kernel
theorem dX2_raise_10 : decode cX2_raise 10 = .ok (.iadd, 1) := by decide +kernel
theorem dX2_raise_11 : decode cX2_raise 11 = .ok (.invokevirtual 31, 3) := by decide +kernel
theorem dX2_raise_14 : decode cX2_raise 14 = .ok (.return_, 1) := by decide +kernel
theorem dX2_fill_0 : decode cX2_fill 0 = .ok (.aload_n 0, 1) := by decide +kernel
theorem dX2_fill_1 : decode cX2_fill 1 = .ok (.getfield 24, 3) := by decide +kernel
theorem dX2_fill_4 : decode cX2_fill 4 = .ok (.iload_n 1, 1) := by decide +kernel
theorem dX2_fill_5 : decode cX2_fill 5 = .ok (.invokestatic 35, 3) := by decide +kernel
theorem dX2_fill_8 : decode cX2_fill 8 = .ok (.return_, 1) := by decide +kernel
theorem dX2_copyFrom_0 : decode cX2_copyFrom 0 = .ok (.aload_n 1, 1) := by decide +kernel
theorem dX2_copyFrom_1 : decode cX2_copyFrom 1 = .ok (.getfield 24, 3) := by decide +kernel
theorem dX2_copyFrom_4 : decode cX2_copyFrom 4 = .ok (.arraylength, 1) := by decide +kernel
theorem dX2_copyFrom_5 : decode cX2_copyFrom 5 = .ok (.aload_n 0, 1) := by decide +kernel
theorem dX2_copyFrom_6 : decode cX2_copyFrom 6 = .ok (.getfield 24, 3) := by decide +kernel
theorem dX2_copyFrom_9 : decode cX2_copyFrom 9 = .ok (.arraylength, 1) := by decide +kernel
theorem dX2_copyFrom_10 : decode cX2_copyFrom 10 = .ok (.if_icmp .ne 21, 3) := by decide +kernel
theorem dX2_copyFrom_13 : decode cX2_copyFrom 13 = .ok (.aload_n 1, 1) := by decide +kernel
theorem dX2_copyFrom_14 : decode cX2_copyFrom 14 = .ok (.getfield 24, 3) := by decide +kernel
theorem dX2_copyFrom_17 : decode cX2_copyFrom 17 = .ok (.iconst 0, 1) := by decide +kernel
theorem dX2_copyFrom_18 : decode cX2_copyFrom 18 = .ok (.aload_n 0, 1) := by decide +kernel
theorem dX2_copyFrom_19 : decode cX2_copyFrom 19 = .ok (.getfield 24, 3) := by decide +kernel
theorem dX2_copyFrom_22 : decode cX2_copyFrom 22 = .ok (.iconst 0, 1) := by decide +kernel
theorem dX2_copyFrom_23 : decode cX2_copyFrom 23 = .ok (.aload_n 0, 1) := by decide +kernel
theorem dX2_copyFrom_24 : decode cX2_copyFrom 24 = .ok (.getfield 24, 3) := by decide +kernel
theorem dX2_copyFrom_27 : decode cX2_copyFrom 27 = .ok (.arraylength, 1) := by decide +kernel
theorem dX2_copyFrom_28 : decode cX2_copyFrom 28 = .ok (.invokestatic 41, 3) := by decide +kernel
theorem dX2_copyFrom_31 : decode cX2_copyFrom 31 = .ok (.return_, 1) := by decide +kernel
theorem dX3_init_0 : decode cX3_init 0 = .ok (.aload_n 0, 1) := by decide +kernel
theorem dX3_init_1 : decode cX3_init 1 = .ok (.invokespecial 3, 3) := by decide +kernel
theorem dX3_init_4 : decode cX3_init 4 = .ok (.aload_n 0, 1) := by decide +kernel
theorem dX3_init_5 : decode cX3_init 5 = .ok (.new 9, 3) := by decide +kernel
theorem dX3_init_8 : decode cX3_init 8 = .ok (.dup, 1) := by decide +kernel
theorem dX3_init_9 : decode cX3_init 9 = .ok (.invokespecial 11, 3) := by decide +kernel
theorem dX3_init_12 : decode cX3_init 12 = .ok (.putfield 12, 3) := by decide +kernel
theorem dX3_init_15 : decode cX3_init 15 = .ok (.aload_n 0, 1) := by decide +kernel
theorem dX3_init_16 : decode cX3_init 16 = .ok (.new 18, 3) := by decide +kernel
theorem dX3_init_19 : decode cX3_init 19 = .ok (.dup, 1) := by decide +kernel
theorem dX3_init_20 : decode cX3_init 20 = .ok (.bipush 10, 2) := by decide +kernel
theorem dX3_init_22 : decode cX3_init 22 = .ok (.bipush 7, 2) := by decide +kernel
theorem dX3_init_24 : decode cX3_init 24 = .ok (.invokespecial 20, 3) := by decide +kernel
theorem dX3_init_27 : decode cX3_init 27 = .ok (.putfield 23, 3) := by decide +kernel
theorem dX3_init_30 : decode cX3_init 30 = .ok (.aload_n 0, 1) := by decide +kernel
theorem dX3_init_31 : decode cX3_init 31 = .ok (.new 18, 3) := by decide +kernel
theorem dX3_init_34 : decode cX3_init 34 = .ok (.dup, 1) := by decide +kernel
theorem dX3_init_35 : decode cX3_init 35 = .ok (.iconst 1, 1) := by decide +kernel
theorem dX3_init_36 : decode cX3_init 36 = .ok (.bipush 12, 2) := by decide +kernel
theorem dX3_init_38 : decode cX3_init 38 = .ok (.invokespecial 20, 3) := by decide +kernel
theorem dX3_init_41 : decode cX3_init 41 = .ok (.putfield 27, 3) := by decide +kernel
theorem dX3_init_44 : decode cX3_init 44 = .ok (.aload_n 0, 1) := by decide +kernel
theorem dX3_init_45 : decode cX3_init 45 = .ok (.new 18, 3) := by decide +kernel
theorem dX3_init_48 : decode cX3_init 48 = .ok (.dup, 1) := by decide +kernel
theorem dX3_init_49 : decode cX3_init 49 = .ok (.iconst 1, 1) := by decide +kernel
theorem dX3_init_50 : decode cX3_init 50 = .ok (.iconst 5, 1) := by decide +kernel
theorem dX3_init_51 : decode cX3_init 51 = .ok (.invokespecial 20, 3) := by decide +kernel
theorem dX3_init_54 : decode cX3_init 54 = .ok (.putfield 30, 3) := by decide +kernel
theorem dX3_init_57 : decode cX3_init 57 = .ok (.iconst 0, 1) := by decide +kernel
theorem dX3_init_58 : decode cX3_init 58 = .ok (.istore_n 1, 1) := by decide +kernel
theorem dX3_init_59 : decode cX3_init 59 = .ok (.iload_n 1, 1) := by decide +kernel
theorem dX3_init_60 : decode cX3_init 60 = .ok (.bipush 10, 2) := by decide +kernel
theorem dX3_init_62 : decode cX3_init 62 = .ok (.if_icmp .ge 19, 3) := by decide +kernel
theorem dX3_init_65 : decode cX3_init 65 = .ok (.aload_n 0, 1) := by decide +kernel
theorem dX3_init_66 : decode cX3_init 66 = .ok (.getfield 23, 3) := by decide +kernel
theorem dX3_init_69 : decode cX3_init 69 = .ok (.iload_n 1, 1) := by decide +kernel
theorem dX3_init_70 : decode cX3_init 70 = .ok (.iconst 0, 1) := by decide +kernel
theorem dX3_init_71 : decode cX3_init 71 = .ok (.iload_n 1, 1) := by decide +kernel
theorem dX3_init_72 : decode cX3_init 72 = .ok (.invokevirtual 33, 3) := by decide +kernel
theorem dX3_init_75 : decode cX3_init 75 = .ok (.iinc 1 1, 3) := by decide +kernel
theorem dX3_init_78 : decode cX3_init 78 = .ok (.goto (-19), 3) := by decide +kernel
theorem dX3_init_81 : decode cX3_init 81 = .ok (.aload_n 0, 1) := by decide +kernel
theorem dX3_init_82 : decode cX3_init 82 = .ok (.getfield 27, 3) := by decide +kernel
theorem dX3_init_85 : decode cX3_init 85 = .ok (.iconst 0, 1) := by decide +kernel
theorem dX3_init_86 : decode cX3_init 86 = .ok (.bipush 9, 2) := by decide +kernel
theorem dX3_init_88 : decode cX3_init 88 = .ok (.iconst 3, 1) := by decide +kernel
theorem dX3_init_89 : decode cX3_init 89 = .ok (.invokevirtual 33, 3) := by decide +kernel
theorem dX3_init_92 : decode cX3_init 92 = .ok (.return_, 1) := by decide +kernel
theorem dX3_copyFrom_0 : decode cX3_copyFrom 0 = .ok (.aload_n 0, 1) := by decide +kernel
theorem dX3_copyFrom_1 : decode cX3_copyFrom 1 = .ok (.getfield 12, 3) := by decide +kernel
theorem dX3_copyFrom_4 : decode cX3_copyFrom 4 = .ok (.aload_n 1, 1) := by decide +kernel
theorem dX3_copyFrom_5 : decode cX3_copyFrom 5 = .ok (.getfield 12, 3) := by decide +kernel
theorem dX3_copyFrom_8 : decode cX3_copyFrom 8 = .ok (.invokevirtual 37, 3) := by decide +kernel
theorem dX3_copyFrom_11 : decode cX3_copyFrom 11 = .ok (.aload_n 0, 1) := by decide +kernel
theorem dX3_copyFrom_12 : decode cX3_copyFrom 12 = .ok (.getfield 23, 3) := by decide +kernel
theorem dX3_copyFrom_15 : decode cX3_copyFrom 15 = .ok (.aload_n 1, 1) := by decide +kernel
theorem dX3_copyFrom_16 : decode cX3_copyFrom 16 = .ok (.getfield 23, 3) := by decide +kernel
theorem dX3_copyFrom_19 : decode cX3_copyFrom 19 = .ok (.invokevirtual 41, 3) := by decide +kernel
theorem dX3_copyFrom_22 : decode cX3_copyFrom 22 = .ok (.aload_n 0, 1) := by decide +kernel
theorem dX3_copyFrom_23 : decode cX3_copyFrom 23 = .ok (.getfield 27, 3) := by decide +kernel
theorem dX3_copyFrom_26 : decode cX3_copyFrom 26 = .ok (.aload_n 1, 1) := by decide +kernel
theorem dX3_copyFrom_27 : decode cX3_copyFrom 27 = .ok (.getfield 27, 3) := by decide +kernel
theorem dX3_copyFrom_30 : decode cX3_copyFrom 30 = .ok (.invokevirtual 41, 3) := by decide +kernel
theorem dX3_copyFrom_33 : decode cX3_copyFrom 33 = .ok (.aload_n 0, 1) := by decide +kernel
theorem dX3_copyFrom_34 : decode cX3_copyFrom 34 = .ok (.getfield 30, 3) := by decide +kernel
theorem dX3_copyFrom_37 : decode cX3_copyFrom 37 = .ok (.aload_n 1, 1) := by decide +kernel
theorem dX3_copyFrom_38 : decode cX3_copyFrom 38 = .ok (.getfield 30, 3) := by decide +kernel
theorem dX3_copyFrom_41 : decode cX3_copyFrom 41 = .ok (.invokevirtual 41, 3) := by decide +kernel
theorem dX3_copyFrom_44 : decode cX3_copyFrom 44 = .ok (.return_, 1) := by decide +kernel
theorem dX3_account_0 : decode cX3_account 0 = .ok (.iload_n 1, 1) := by decide +kernel
theorem dX3_account_1 : decode cX3_account 1 = .ok (.ifCond .ne 11, 3) := by decide +kernel
theorem dX3_account_4 : decode cX3_account 4 = .ok (.aload_n 0, 1) := by decide +kernel
theorem dX3_account_5 : decode cX3_account 5 = .ok (.getfield 12, 3) := by decide +kernel
theorem dX3_account_8 : decode cX3_account 8 = .ok (.invokevirtual 44, 3) := by decide +kernel
theorem dX3_account_11 : decode cX3_account 11 = .ok (.ireturn, 1) := by decide +kernel
theorem dX3_account_12 : decode cX3_account 12 = .ok (.iload_n 1, 1) := by decide +kernel
theorem dX3_account_13 : decode cX3_account 13 = .ok (.iconst 2, 1) := by decide +kernel
theorem dX3_account_14 : decode cX3_account 14 = .ok (.if_icmp .ne 13, 3) := by decide +kernel
theorem dX3_account_17 : decode cX3_account 17 = .ok (.aload_n 0, 1) := by decide +kernel
theorem dX3_account_18 : decode cX3_account 18 = .ok (.getfield 12, 3) := by decide +kernel
theorem dX3_account_21 : decode cX3_account 21 = .ok (.invokevirtual 48, 3) := by decide +kernel
theorem dX3_account_24 : decode cX3_account 24 = .ok (.goto 12, 3) := by decide +kernel
theorem dX3_account_27 : decode cX3_account 27 = .ok (.aload_n 0, 1) := by decide +kernel
theorem dX3_account_28 : decode cX3_account 28 = .ok (.getfield 27, 3) := by decide +kernel
theorem dX3_account_31 : decode cX3_account 31 = .ok (.iconst 0, 1) := by decide +kernel
theorem dX3_account_32 : decode cX3_account 32 = .ok (.iload_n 1, 1) := by decide +kernel
theorem dX3_account_33 : decode cX3_account 33 = .ok (.invokevirtual 51, 3) := by decide +kernel
theorem dX3_account_36 : decode cX3_account 36 = .ok (.ireturn, 1) := by decide +kernel
theorem dX3_refusedFor_0 : decode cX3_refusedFor 0 = .ok (.aload_n 0, 1) := by decide +kernel
theorem dX3_refusedFor_1 : decode cX3_refusedFor 1 = .ok (.getfield 30, 3) := by decide +kernel
theorem dX3_refusedFor_4 : decode cX3_refusedFor 4 = .ok (.iconst 0, 1) := by decide +kernel
theorem dX3_refusedFor_5 : decode cX3_refusedFor 5 = .ok (.iload_n 1, 1) := by decide +kernel
theorem dX3_refusedFor_6 : decode cX3_refusedFor 6 = .ok (.invokevirtual 51, 3) := by decide +kernel
theorem dX3_refusedFor_9 : decode cX3_refusedFor 9 = .ok (.ireturn, 1) := by decide +kernel
theorem dX3_lodgerNumber_0 : decode cX3_lodgerNumber 0 = .ok (.iload_n 2, 1) := by decide +kernel
theorem dX3_lodgerNumber_1 : decode cX3_lodgerNumber 1 = .ok (.iconst 3, 1) := by decide +kernel
theorem dX3_lodgerNumber_2 : decode cX3_lodgerNumber 2 = .ok (.if_icmp .ne 15, 3) := by decide +kernel
theorem dX3_lodgerNumber_5 : decode cX3_lodgerNumber 5 = .ok (.aload_n 0, 1) := by decide +kernel
theorem dX3_lodgerNumber_6 : decode cX3_lodgerNumber 6 = .ok (.getfield 12, 3) := by decide +kernel
theorem dX3_lodgerNumber_9 : decode cX3_lodgerNumber 9 = .ok (.iload_n 1, 1) := by decide +kernel
theorem dX3_lodgerNumber_10 : decode cX3_lodgerNumber 10 = .ok (.iconst 0, 1) := by decide +kernel
theorem dX3_lodgerNumber_11 : decode cX3_lodgerNumber 11 = .ok (.bipush 12, 2) := by decide +kernel
theorem dX3_lodgerNumber_13 : decode cX3_lodgerNumber 13 = .ok (.invokevirtual 55, 3) := by decide +kernel
theorem dX3_lodgerNumber_16 : decode cX3_lodgerNumber 16 = .ok (.ireturn, 1) := by decide +kernel
theorem dX3_lodgerNumber_17 : decode cX3_lodgerNumber 17 = .ok (.aload_n 0, 1) := by decide +kernel
theorem dX3_lodgerNumber_18 : decode cX3_lodgerNumber 18 = .ok (.getfield 23, 3) := by decide +kernel
theorem dX3_lodgerNumber_21 : decode cX3_lodgerNumber 21 = .ok (.iload_n 1, 1) := by decide +kernel
theorem dX3_lodgerNumber_22 : decode cX3_lodgerNumber 22 = .ok (.iload_n 2, 1) := by decide +kernel
theorem dX3_lodgerNumber_23 : decode cX3_lodgerNumber 23 = .ok (.invokevirtual 51, 3) := by decide +kernel
theorem dX3_lodgerNumber_26 : decode cX3_lodgerNumber 26 = .ok (.ireturn, 1) := by decide +kernel
theorem dX3_shareLent_0 : decode cX3_shareLent 0 = .ok (.aload_n 0, 1) := by decide +kernel
theorem dX3_shareLent_1 : decode cX3_shareLent 1 = .ok (.getfield 12, 3) := by decide +kernel
theorem dX3_shareLent_4 : decode cX3_shareLent 4 = .ok (.invokevirtual 48, 3) := by decide +kernel
theorem dX3_shareLent_7 : decode cX3_shareLent 7 = .ok (.i2d, 1) := by decide +kernel
theorem dX3_shareLent_8 : decode cX3_shareLent 8 = .ok (.ldc2_w 59, 3) := by decide +kernel
theorem dX3_shareLent_11 : decode cX3_shareLent 11 = .ok (.ddiv, 1) := by decide +kernel
theorem dX3_shareLent_12 : decode cX3_shareLent 12 = .ok (.dreturn, 1) := by decide +kernel
theorem dX3_poorestLodger_0 : decode cX3_poorestLodger 0 = .ok (.iconst 0, 1) := by decide +kernel
theorem dX3_poorestLodger_1 : decode cX3_poorestLodger 1 = .ok (.istore_n 1, 1) := by decide +kernel
theorem dX3_poorestLodger_2 : decode cX3_poorestLodger 2 = .ok (.iconst 1, 1) := by decide +kernel
theorem dX3_poorestLodger_3 : decode cX3_poorestLodger 3 = .ok (.istore_n 2, 1) := by decide +kernel
theorem dX3_poorestLodger_4 : decode cX3_poorestLodger 4 = .ok (.iload_n 2, 1) := by decide +kernel
theorem dX3_poorestLodger_5 : decode cX3_poorestLodger 5 = .ok (.bipush 10, 2) := by decide +kernel
theorem dX3_poorestLodger_7 : decode cX3_poorestLodger 7 = .ok (.if_icmp .ge 20, 3) := by decide +kernel
theorem dX3_poorestLodger_10 : decode cX3_poorestLodger 10 = .ok (.aload_n 0, 1) := by decide +kernel
theorem dX3_poorestLodger_11 : decode cX3_poorestLodger 11 = .ok (.iload_n 2, 1) := by decide +kernel
theorem dX3_poorestLodger_12 : decode cX3_poorestLodger 12 = .ok (.iload_n 1, 1) := by decide +kernel
theorem dX3_poorestLodger_13 : decode cX3_poorestLodger 13 = .ok (.invokevirtual 61, 3) := by decide +kernel
theorem dX3_poorestLodger_16 : decode cX3_poorestLodger 16 = .ok (.ifCond .eq 5, 3) := by decide +kernel
theorem dX3_poorestLodger_19 : decode cX3_poorestLodger 19 = .ok (.iload_n 2, 1) := by decide +kernel
theorem dX3_poorestLodger_20 : decode cX3_poorestLodger 20 = .ok (.istore_n 1, 1) := by decide +kernel
theorem dX3_poorestLodger_21 : decode cX3_poorestLodger 21 = .ok (.iinc 2 1, 3) := by decide +kernel
theorem dX3_poorestLodger_24 : decode cX3_poorestLodger 24 = .ok (.goto (-20), 3) := by decide +kernel
theorem dX3_poorestLodger_27 : decode cX3_poorestLodger 27 = .ok (.iload_n 1, 1) := by decide +kernel
theorem dX3_poorestLodger_28 : decode cX3_poorestLodger 28 = .ok (.ireturn, 1) := by decide +kernel
theorem dX3_isPoorer_0 : decode cX3_isPoorer 0 = .ok (.aload_n 0, 1) := by decide +kernel
theorem dX3_isPoorer_1 : decode cX3_isPoorer 1 = .ok (.getfield 23, 3) := by decide +kernel
theorem dX3_isPoorer_4 : decode cX3_isPoorer 4 = .ok (.iload_n 1, 1) := by decide +kernel
theorem dX3_isPoorer_5 : decode cX3_isPoorer 5 = .ok (.iconst 1, 1) := by decide +kernel
theorem dX3_isPoorer_6 : decode cX3_isPoorer 6 = .ok (.invokevirtual 51, 3) := by decide +kernel
theorem dX3_isPoorer_9 : decode cX3_isPoorer 9 = .ok (.aload_n 0, 1) := by decide +kernel
theorem dX3_isPoorer_10 : decode cX3_isPoorer 10 = .ok (.getfield 23, 3) := by decide +kernel
theorem dX3_isPoorer_13 : decode cX3_isPoorer 13 = .ok (.iload_n 2, 1) := by decide +kernel
theorem dX3_isPoorer_14 : decode cX3_isPoorer 14 = .ok (.iconst 1, 1) := by decide +kernel
theorem dX3_isPoorer_15 : decode cX3_isPoorer 15 = .ok (.invokevirtual 51, 3) := by decide +kernel
theorem dX3_isPoorer_18 : decode cX3_isPoorer 18 = .ok (.isub, 1) := by decide +kernel
theorem dX3_isPoorer_19 : decode cX3_isPoorer 19 = .ok (.istore_n 3, 1) := by decide +kernel
theorem dX3_isPoorer_20 : decode cX3_isPoorer 20 = .ok (.iload_n 3, 1) := by decide +kernel
theorem dX3_isPoorer_21 : decode cX3_isPoorer 21 = .ok (.ifCond .gt 28, 3) := by decide +kernel
theorem dX3_isPoorer_24 : decode cX3_isPoorer 24 = .ok (.iload_n 3, 1) := by decide +kernel
theorem dX3_isPoorer_25 : decode cX3_isPoorer 25 = .ok (.ifCond .ne 28, 3) := by decide +kernel
theorem dX3_isPoorer_28 : decode cX3_isPoorer 28 = .ok (.aload_n 0, 1) := by decide +kernel
theorem dX3_isPoorer_29 : decode cX3_isPoorer 29 = .ok (.getfield 23, 3) := by decide +kernel
theorem dX3_isPoorer_32 : decode cX3_isPoorer 32 = .ok (.iload_n 1, 1) := by decide +kernel
theorem dX3_isPoorer_33 : decode cX3_isPoorer 33 = .ok (.iconst 0, 1) := by decide +kernel
theorem dX3_isPoorer_34 : decode cX3_isPoorer 34 = .ok (.invokevirtual 51, 3) := by decide +kernel
theorem dX3_isPoorer_37 : decode cX3_isPoorer 37 = .ok (.aload_n 0, 1) := by decide +kernel
theorem dX3_isPoorer_38 : decode cX3_isPoorer 38 = .ok (.getfield 23, 3) := by decide +kernel
theorem dX3_isPoorer_41 : decode cX3_isPoorer 41 = .ok (.iload_n 2, 1) := by decide +kernel
theorem dX3_isPoorer_42 : decode cX3_isPoorer 42 = .ok (.iconst 0, 1) := by decide +kernel
theorem dX3_isPoorer_43 : decode cX3_isPoorer 43 = .ok (.invokevirtual 51, 3) := by decide +kernel
theorem dX3_isPoorer_46 : decode cX3_isPoorer 46 = .ok (.if_icmp .le 7, 3) := by decide +kernel
theorem dX3_isPoorer_49 : decode cX3_isPoorer 49 = .ok (.iconst 1, 1) := by decide +kernel
theorem dX3_isPoorer_50 : decode cX3_isPoorer 50 = .ok (.goto 4, 3) := by decide +kernel
theorem dX3_isPoorer_53 : decode cX3_isPoorer 53 = .ok (.iconst 0, 1) := by decide +kernel
theorem dX3_isPoorer_54 : decode cX3_isPoorer 54 = .ok (.ireturn, 1) := by decide +kernel
theorem dX3_answerTo_0 : decode cX3_answerTo 0 = .ok (.aload_n 0, 1) := by decide +kernel
theorem dX3_answerTo_1 : decode cX3_answerTo 1 = .ok (.getfield 12, 3) := by decide +kernel
theorem dX3_answerTo_4 : decode cX3_answerTo 4 = .ok (.iload_n 2, 1) := by decide +kernel
theorem dX3_answerTo_5 : decode cX3_answerTo 5 = .ok (.invokevirtual 65, 3) := by decide +kernel
theorem dX3_answerTo_8 : decode cX3_answerTo 8 = .ok (.ifCond .eq 5, 3) := by decide +kernel
theorem dX3_answerTo_11 : decode cX3_answerTo 11 = .ok (.iconst 1, 1) := by decide +kernel
theorem dX3_answerTo_12 : decode cX3_answerTo 12 = .ok (.ireturn, 1) := by decide +kernel
theorem dX3_answerTo_13 : decode cX3_answerTo 13 = .ok (.aload_n 0, 1) := by decide +kernel
theorem dX3_answerTo_14 : decode cX3_answerTo 14 = .ok (.getfield 12, 3) := by decide +kernel
theorem dX3_answerTo_17 : decode cX3_answerTo 17 = .ok (.iload_n 1, 1) := by decide +kernel
theorem dX3_answerTo_18 : decode cX3_answerTo 18 = .ok (.iload_n 2, 1) := by decide +kernel
theorem dX3_answerTo_19 : decode cX3_answerTo 19 = .ok (.iload_n 3, 1) := by decide +kernel
theorem dX3_answerTo_20 : decode cX3_answerTo 20 = .ok (.invokevirtual 55, 3) := by decide +kernel
theorem dX3_answerTo_23 : decode cX3_answerTo 23 = .ok (.ifCond .le 5, 3) := by decide +kernel
theorem dX3_answerTo_26 : decode cX3_answerTo 26 = .ok (.iconst 2, 1) := by decide +kernel
theorem dX3_answerTo_27 : decode cX3_answerTo 27 = .ok (.ireturn, 1) := by decide +kernel
theorem dX3_answerTo_28 : decode cX3_answerTo 28 = .ok (.aload_n 0, 1) := by decide +kernel
theorem dX3_answerTo_29 : decode cX3_answerTo 29 = .ok (.iload_n 1, 1) := by decide +kernel
theorem dX3_answerTo_30 : decode cX3_answerTo 30 = .ok (.invokevirtual 69, 3) := by decide +kernel
theorem dX3_answerTo_33 : decode cX3_answerTo 33 = .ok (.istore 4, 2) := by decide +kernel
theorem dX3_answerTo_35 : decode cX3_answerTo 35 = .ok (.iload 4, 2) := by decide +kernel
theorem dX3_answerTo_37 : decode cX3_answerTo 37 = .ok (.ifCond .ne 25, 3) := by decide +kernel
theorem dX3_answerTo_40 : decode cX3_answerTo 40 = .ok (.aload_n 0, 1) := by decide +kernel
theorem dX3_answerTo_41 : decode cX3_answerTo 41 = .ok (.iload_n 1, 1) := by decide +kernel
theorem dX3_answerTo_42 : decode cX3_answerTo 42 = .ok (.invokevirtual 72, 3) := by decide +kernel
theorem dX3_answerTo_45 : decode cX3_answerTo 45 = .ok (.ifCond .eq 17, 3) := by decide +kernel
theorem dX3_answerTo_48 : decode cX3_answerTo 48 = .ok (.aload_n 0, 1) := by decide +kernel
theorem dX3_answerTo_49 : decode cX3_answerTo 49 = .ok (.getfield 23, 3) := by decide +kernel
theorem dX3_answerTo_52 : decode cX3_answerTo 52 = .ok (.iload_n 1, 1) := by decide +kernel
theorem dX3_answerTo_53 : decode cX3_answerTo 53 = .ok (.iconst 2, 1) := by decide +kernel
theorem dX3_answerTo_54 : decode cX3_answerTo 54 = .ok (.invokevirtual 51, 3) := by decide +kernel
theorem dX3_answerTo_57 : decode cX3_answerTo 57 = .ok (.ifCond .ne 5, 3) := by decide +kernel
theorem dX3_answerTo_60 : decode cX3_answerTo 60 = .ok (.iconst 3, 1) := by decide +kernel
theorem dX3_answerTo_61 : decode cX3_answerTo 61 = .ok (.ireturn, 1) := by decide +kernel
theorem dX3_answerTo_62 : decode cX3_answerTo 62 = .ok (.aload_n 0, 1) := by decide +kernel
theorem dX3_answerTo_63 : decode cX3_answerTo 63 = .ok (.getfield 12, 3) := by decide +kernel
theorem dX3_answerTo_66 : decode cX3_answerTo 66 = .ok (.iload_n 2, 1) := by decide +kernel
theorem dX3_answerTo_67 : decode cX3_answerTo 67 = .ok (.iload_n 3, 1) := by decide +kernel
theorem dX3_answerTo_68 : decode cX3_answerTo 68 = .ok (.invokevirtual 75, 3) := by decide +kernel
theorem dX3_answerTo_71 : decode cX3_answerTo 71 = .ok (.istore 5, 2) := by decide +kernel
theorem dX3_answerTo_73 : decode cX3_answerTo 73 = .ok (.iload 4, 2) := by decide +kernel
theorem dX3_answerTo_75 : decode cX3_answerTo 75 = .ok (.ifCond .ne 19, 3) := by decide +kernel
theorem dX3_answerTo_78 : decode cX3_answerTo 78 = .ok (.aload_n 0, 1) := by decide +kernel
theorem dX3_answerTo_79 : decode cX3_answerTo 79 = .ok (.getfield 12, 3) := by decide +kernel
theorem dX3_answerTo_82 : decode cX3_answerTo 82 = .ok (.iload 5, 2) := by decide +kernel
theorem dX3_answerTo_84 : decode cX3_answerTo 84 = .ok (.iload_n 2, 1) := by decide +kernel
theorem dX3_answerTo_85 : decode cX3_answerTo 85 = .ok (.iload_n 3, 1) := by decide +kernel
theorem dX3_answerTo_86 : decode cX3_answerTo 86 = .ok (.invokevirtual 78, 3) := by decide +kernel
theorem dX3_answerTo_89 : decode cX3_answerTo 89 = .ok (.ifCond .le 5, 3) := by decide +kernel
theorem dX3_answerTo_92 : decode cX3_answerTo 92 = .ok (.iconst 4, 1) := by decide +kernel
theorem dX3_answerTo_93 : decode cX3_answerTo 93 = .ok (.ireturn, 1) := by decide +kernel
theorem dX3_answerTo_94 : decode cX3_answerTo 94 = .ok (.bipush 10, 2) := by decide +kernel
theorem dX3_answerTo_96 : decode cX3_answerTo 96 = .ok (.iload 5, 2) := by decide +kernel
theorem dX3_answerTo_98 : decode cX3_answerTo 98 = .ok (.iadd, 1) := by decide +kernel
theorem dX3_answerTo_99 : decode cX3_answerTo 99 = .ok (.ireturn, 1) := by decide +kernel
theorem dX3_isEighth_0 : decode cX3_isEighth 0 = .ok (.aload_n 0, 1) := by decide +kernel
theorem dX3_isEighth_1 : decode cX3_isEighth 1 = .ok (.getfield 23, 3) := by decide +kernel
theorem dX3_isEighth_4 : decode cX3_isEighth 4 = .ok (.iload_n 1, 1) := by decide +kernel
theorem dX3_isEighth_5 : decode cX3_isEighth 5 = .ok (.iconst 1, 1) := by decide +kernel
theorem dX3_isEighth_6 : decode cX3_isEighth 6 = .ok (.invokevirtual 51, 3) := by decide +kernel
theorem dX3_isEighth_9 : decode cX3_isEighth 9 = .ok (.bipush 7, 2) := by decide +kernel
theorem dX3_isEighth_11 : decode cX3_isEighth 11 = .ok (.if_icmp .lt 7, 3) := by decide +kernel
theorem dX3_isEighth_14 : decode cX3_isEighth 14 = .ok (.iconst 1, 1) := by decide +kernel
theorem dX3_isEighth_15 : decode cX3_isEighth 15 = .ok (.goto 4, 3) := by decide +kernel
theorem dX3_isEighth_18 : decode cX3_isEighth 18 = .ok (.iconst 0, 1) := by decide +kernel
theorem dX3_isEighth_19 : decode cX3_isEighth 19 = .ok (.ireturn, 1) := by decide +kernel
theorem dX3_hasTooLittleNeed_0 : decode cX3_hasTooLittleNeed 0 = .ok (.aload_n 0, 1) := by decide +kernel
theorem dX3_hasTooLittleNeed_1 : decode cX3_hasTooLittleNeed 1 = .ok (.getfield 23, 3) := by decide +kernel
theorem dX3_hasTooLittleNeed_4 : decode cX3_hasTooLittleNeed 4 = .ok (.iload_n 1, 1) := by decide +kernel
theorem dX3_hasTooLittleNeed_5 : decode cX3_hasTooLittleNeed 5 = .ok (.iconst 0, 1) := by decide +kernel
theorem dX3_hasTooLittleNeed_6 : decode cX3_hasTooLittleNeed 6 = .ok (.invokevirtual 51, 3) := by decide +kernel
theorem dX3_hasTooLittleNeed_9 : decode cX3_hasTooLittleNeed 9 = .ok (.aload_n 0, 1) := by decide +kernel
theorem dX3_hasTooLittleNeed_10 : decode cX3_hasTooLittleNeed 10 = .ok (.getfield 27, 3) := by decide +kernel
theorem dX3_hasTooLittleNeed_13 : decode cX3_hasTooLittleNeed 13 = .ok (.iconst 0, 1) := by decide +kernel
theorem dX3_hasTooLittleNeed_14 : decode cX3_hasTooLittleNeed 14 = .ok (.bipush 9, 2) := by decide +kernel
theorem dX3_hasTooLittleNeed_16 : decode cX3_hasTooLittleNeed 16 = .ok (.invokevirtual 51, 3) := by decide +kernel
theorem dX3_hasTooLittleNeed_19 : decode cX3_hasTooLittleNeed 19 = .ok (.if_icmp .ge 7, 3) := by decide +kernel
theorem dX3_hasTooLittleNeed_22 : decode cX3_hasTooLittleNeed 22 = .ok (.iconst 1, 1) := by decide +kernel
theorem dX3_hasTooLittleNeed_23 : decode cX3_hasTooLittleNeed 23 = .ok (.goto 4, 3) := by decide +kernel
theorem dX3_hasTooLittleNeed_26 : decode cX3_hasTooLittleNeed 26 = .ok (.iconst 0, 1) := by decide +kernel
theorem dX3_hasTooLittleNeed_27 : decode cX3_hasTooLittleNeed 27 = .ok (.ireturn, 1) := by decide +kernel
theorem dX3_wouldBePutOut_0 : decode cX3_wouldBePutOut 0 = .ok (.aload_n 0, 1) := by decide +kernel
theorem dX3_wouldBePutOut_1 : decode cX3_wouldBePutOut 1 = .ok (.iload_n 1, 1) := by decide +kernel
theorem dX3_wouldBePutOut_2 : decode cX3_wouldBePutOut 2 = .ok (.iload_n 2, 1) := by decide +kernel
theorem dX3_wouldBePutOut_3 : decode cX3_wouldBePutOut 3 = .ok (.iload_n 3, 1) := by decide +kernel
theorem dX3_wouldBePutOut_4 : decode cX3_wouldBePutOut 4 = .ok (.invokevirtual 81, 3) := by decide +kernel
theorem dX3_wouldBePutOut_7 : decode cX3_wouldBePutOut 7 = .ok (.istore 4, 2) := by decide +kernel
theorem dX3_wouldBePutOut_9 : decode cX3_wouldBePutOut 9 = .ok (.iload 4, 2) := by decide +kernel
theorem dX3_wouldBePutOut_11 : decode cX3_wouldBePutOut 11 = .ok (.bipush 10, 2) := by decide +kernel
theorem dX3_wouldBePutOut_13 : decode cX3_wouldBePutOut 13 = .ok (.if_icmp .ge 7, 3) := by decide +kernel
theorem dX3_wouldBePutOut_16 : decode cX3_wouldBePutOut 16 = .ok (.iconst 0, 1) := by decide +kernel
theorem dX3_wouldBePutOut_17 : decode cX3_wouldBePutOut 17 = .ok (.goto 17, 3) := by decide +kernel
theorem dX3_wouldBePutOut_20 : decode cX3_wouldBePutOut 20 = .ok (.aload_n 0, 1) := by decide +kernel
theorem dX3_wouldBePutOut_21 : decode cX3_wouldBePutOut 21 = .ok (.getfield 12, 3) := by decide +kernel
theorem dX3_wouldBePutOut_24 : decode cX3_wouldBePutOut 24 = .ok (.iload 4, 2) := by decide +kernel
theorem dX3_wouldBePutOut_26 : decode cX3_wouldBePutOut 26 = .ok (.bipush 10, 2) := by decide +kernel
theorem dX3_wouldBePutOut_28 : decode cX3_wouldBePutOut 28 = .ok (.isub, 1) := by decide +kernel
theorem dX3_wouldBePutOut_29 : decode cX3_wouldBePutOut 29 = .ok (.iload_n 2, 1) := by decide +kernel
theorem dX3_wouldBePutOut_30 : decode cX3_wouldBePutOut 30 = .ok (.iload_n 3, 1) := by decide +kernel
theorem dX3_wouldBePutOut_31 : decode cX3_wouldBePutOut 31 = .ok (.invokevirtual 84, 3) := by decide +kernel
theorem dX3_wouldBePutOut_34 : decode cX3_wouldBePutOut 34 = .ok (.ireturn, 1) := by decide +kernel
theorem dX3_takeAsking_0 : decode cX3_takeAsking 0 = .ok (.aload_n 0, 1) := by decide +kernel
theorem dX3_takeAsking_1 : decode cX3_takeAsking 1 = .ok (.iload_n 1, 1) := by decide +kernel
theorem dX3_takeAsking_2 : decode cX3_takeAsking 2 = .ok (.iload_n 2, 1) := by decide +kernel
theorem dX3_takeAsking_3 : decode cX3_takeAsking 3 = .ok (.iload_n 3, 1) := by decide +kernel
theorem dX3_takeAsking_4 : decode cX3_takeAsking 4 = .ok (.invokevirtual 81, 3) := by decide +kernel
theorem dX3_takeAsking_7 : decode cX3_takeAsking 7 = .ok (.istore 4, 2) := by decide +kernel
theorem dX3_takeAsking_9 : decode cX3_takeAsking 9 = .ok (.iload 4, 2) := by decide +kernel
theorem dX3_takeAsking_11 : decode cX3_takeAsking 11 = .ok (.bipush 10, 2) := by decide +kernel
theorem dX3_takeAsking_13 : decode cX3_takeAsking 13 = .ok (.if_icmp .ge 13, 3) := by decide +kernel
theorem dX3_takeAsking_16 : decode cX3_takeAsking 16 = .ok (.aload_n 0, 1) := by decide +kernel
theorem dX3_takeAsking_17 : decode cX3_takeAsking 17 = .ok (.iload_n 1, 1) := by decide +kernel
theorem dX3_takeAsking_18 : decode cX3_takeAsking 18 = .ok (.iload 4, 2) := by decide +kernel
theorem dX3_takeAsking_20 : decode cX3_takeAsking 20 = .ok (.invokevirtual 87, 3) := by decide +kernel
theorem dX3_takeAsking_23 : decode cX3_takeAsking 23 = .ok (.goto 15, 3) := by decide +kernel
theorem dX3_takeAsking_26 : decode cX3_takeAsking 26 = .ok (.aload_n 0, 1) := by decide +kernel
theorem dX3_takeAsking_27 : decode cX3_takeAsking 27 = .ok (.iload_n 1, 1) := by decide +kernel
theorem dX3_takeAsking_28 : decode cX3_takeAsking 28 = .ok (.iload 4, 2) := by decide +kernel
theorem dX3_takeAsking_30 : decode cX3_takeAsking 30 = .ok (.bipush 10, 2) := by decide +kernel
theorem dX3_takeAsking_32 : decode cX3_takeAsking 32 = .ok (.isub, 1) := by decide +kernel
theorem dX3_takeAsking_33 : decode cX3_takeAsking 33 = .ok (.iload_n 2, 1) := by decide +kernel
theorem dX3_takeAsking_34 : decode cX3_takeAsking 34 = .ok (.iload_n 3, 1) := by decide +kernel
theorem dX3_takeAsking_35 : decode cX3_takeAsking 35 = .ok (.invokevirtual 90, 3) := by decide +kernel
theorem dX3_takeAsking_38 : decode cX3_takeAsking 38 = .ok (.iload 4, 2) := by decide +kernel
theorem dX3_takeAsking_40 : decode cX3_takeAsking 40 = .ok (.ireturn, 1) := by decide +kernel
theorem dX3_refuse_0 : decode cX3_refuse 0 = .ok (.aload_n 0, 1) := by decide +kernel
theorem dX3_refuse_1 : decode cX3_refuse 1 = .ok (.getfield 30, 3) := by decide +kernel
theorem dX3_refuse_4 : decode cX3_refuse 4 = .ok (.iconst 0, 1) := by decide +kernel
theorem dX3_refuse_5 : decode cX3_refuse 5 = .ok (.iload_n 2, 1) := by decide +kernel
theorem dX3_refuse_6 : decode cX3_refuse 6 = .ok (.iconst 1, 1) := by decide +kernel
theorem dX3_refuse_7 : decode cX3_refuse 7 = .ok (.invokevirtual 94, 3) := by decide +kernel
theorem dX3_refuse_10 : decode cX3_refuse 10 = .ok (.aload_n 0, 1) := by decide +kernel
theorem dX3_refuse_11 : decode cX3_refuse 11 = .ok (.getfield 27, 3) := by decide +kernel
theorem dX3_refuse_14 : decode cX3_refuse 14 = .ok (.iconst 0, 1) := by decide +kernel
theorem dX3_refuse_15 : decode cX3_refuse 15 = .ok (.iconst 5, 1) := by decide +kernel
theorem dX3_refuse_16 : decode cX3_refuse 16 = .ok (.iconst 1, 1) := by decide +kernel
theorem dX3_refuse_17 : decode cX3_refuse 17 = .ok (.invokevirtual 94, 3) := by decide +kernel
theorem dX3_refuse_20 : decode cX3_refuse 20 = .ok (.iload_n 2, 1) := by decide +kernel
theorem dX3_refuse_21 : decode cX3_refuse 21 = .ok (.iconst 3, 1) := by decide +kernel
theorem dX3_refuse_22 : decode cX3_refuse 22 = .ok (.if_icmp .eq 8, 3) := by decide +kernel
theorem dX3_refuse_25 : decode cX3_refuse 25 = .ok (.iload_n 2, 1) := by decide +kernel
theorem dX3_refuse_26 : decode cX3_refuse 26 = .ok (.iconst 4, 1) := by decide +kernel
theorem dX3_refuse_27 : decode cX3_refuse 27 = .ok (.if_icmp .ne 8, 3) := by decide +kernel
theorem dX3_refuse_30 : decode cX3_refuse 30 = .ok (.aload_n 0, 1) := by decide +kernel
theorem dX3_refuse_31 : decode cX3_refuse 31 = .ok (.iload_n 1, 1) := by decide +kernel
theorem dX3_refuse_32 : decode cX3_refuse 32 = .ok (.invokevirtual 97, 3) := by decide +kernel
theorem dX3_refuse_35 : decode cX3_refuse 35 = .ok (.return_, 1) := by decide +kernel
theorem dX3_countRefusal_0 : decode cX3_countRefusal 0 = .ok (.aload_n 0, 1) := by decide +kernel
theorem dX3_countRefusal_1 : decode cX3_countRefusal 1 = .ok (.getfield 23, 3) := by decide +kernel
theorem dX3_countRefusal_4 : decode cX3_countRefusal 4 = .ok (.iload_n 1, 1) := by decide +kernel
theorem dX3_countRefusal_5 : decode cX3_countRefusal 5 = .ok (.iconst 1, 1) := by decide +kernel
theorem dX3_countRefusal_6 : decode cX3_countRefusal 6 = .ok (.invokevirtual 51, 3) := by decide +kernel
theorem dX3_countRefusal_9 : decode cX3_countRefusal 9 = .ok (.iconst 1, 1) := by decide +kernel
theorem dX3_countRefusal_10 : decode cX3_countRefusal 10 = .ok (.iadd, 1) := by decide +kernel
theorem dX3_countRefusal_11 : decode cX3_countRefusal 11 = .ok (.istore_n 2, 1) := by decide +kernel
theorem dX3_countRefusal_12 : decode cX3_countRefusal 12 = .ok (.aload_n 0, 1) := by decide +kernel
theorem dX3_countRefusal_13 : decode cX3_countRefusal 13 = .ok (.getfield 23, 3) := by decide +kernel
theorem dX3_countRefusal_16 : decode cX3_countRefusal 16 = .ok (.iload_n 1, 1) := by decide +kernel
theorem dX3_countRefusal_17 : decode cX3_countRefusal 17 = .ok (.iconst 1, 1) := by decide +kernel
theorem dX3_countRefusal_18 : decode cX3_countRefusal 18 = .ok (.bipush 7, 2) := by decide +kernel
theorem dX3_countRefusal_20 : decode cX3_countRefusal 20 = .ok (.iload_n 2, 1) := by decide +kernel
theorem dX3_countRefusal_21 : decode cX3_countRefusal 21 = .ok (.invokestatic 101, 3) := by decide +kernel
theorem dX3_countRefusal_24 : decode cX3_countRefusal 24 = .ok (.invokevirtual 33, 3) := by decide +kernel
theorem dX3_countRefusal_27 : decode cX3_countRefusal 27 = .ok (.return_, 1) := by decide +kernel
theorem dX3_grant_0 : decode cX3_grant 0 = .ok (.aload_n 0, 1) := by decide +kernel
theorem dX3_grant_1 : decode cX3_grant 1 = .ok (.iload_n 1, 1) := by decide +kernel
theorem dX3_grant_2 : decode cX3_grant 2 = .ok (.invokevirtual 69, 3) := by decide +kernel
theorem dX3_grant_5 : decode cX3_grant 5 = .ok (.ifCond .eq 53, 3) := by decide +kernel
theorem dX3_grant_8 : decode cX3_grant 8 = .ok (.aload_n 0, 1) := by decide +kernel
theorem dX3_grant_9 : decode cX3_grant 9 = .ok (.getfield 23, 3) := by decide +kernel
theorem dX3_grant_12 : decode cX3_grant 12 = .ok (.iload_n 1, 1) := by decide +kernel
theorem dX3_grant_13 : decode cX3_grant 13 = .ok (.bipush 6, 2) := by decide +kernel
theorem dX3_grant_15 : decode cX3_grant 15 = .ok (.iconst 1, 1) := by decide +kernel
theorem dX3_grant_16 : decode cX3_grant 16 = .ok (.invokevirtual 94, 3) := by decide +kernel
theorem dX3_grant_19 : decode cX3_grant 19 = .ok (.aload_n 0, 1) := by decide +kernel
theorem dX3_grant_20 : decode cX3_grant 20 = .ok (.aload_n 0, 1) := by decide +kernel
theorem dX3_grant_21 : decode cX3_grant 21 = .ok (.getfield 12, 3) := by decide +kernel
theorem dX3_grant_24 : decode cX3_grant 24 = .ok (.iload_n 2, 1) := by decide +kernel
theorem dX3_grant_25 : decode cX3_grant 25 = .ok (.iload_n 3, 1) := by decide +kernel
theorem dX3_grant_26 : decode cX3_grant 26 = .ok (.iload 4, 2) := by decide +kernel
theorem dX3_grant_28 : decode cX3_grant 28 = .ok (.invokevirtual 84, 3) := by decide +kernel
theorem dX3_grant_31 : decode cX3_grant 31 = .ok (.invokevirtual 106, 3) := by decide +kernel
theorem dX3_grant_34 : decode cX3_grant 34 = .ok (.aload_n 0, 1) := by decide +kernel
theorem dX3_grant_35 : decode cX3_grant 35 = .ok (.getfield 27, 3) := by decide +kernel
theorem dX3_grant_38 : decode cX3_grant 38 = .ok (.iconst 0, 1) := by decide +kernel
theorem dX3_grant_39 : decode cX3_grant 39 = .ok (.bipush 7, 2) := by decide +kernel
theorem dX3_grant_41 : decode cX3_grant 41 = .ok (.aload_n 0, 1) := by decide +kernel
theorem dX3_grant_42 : decode cX3_grant 42 = .ok (.getfield 12, 3) := by decide +kernel
theorem dX3_grant_45 : decode cX3_grant 45 = .ok (.iload_n 2, 1) := by decide +kernel
theorem dX3_grant_46 : decode cX3_grant 46 = .ok (.iload_n 3, 1) := by decide +kernel
theorem dX3_grant_47 : decode cX3_grant 47 = .ok (.iload 4, 2) := by decide +kernel
theorem dX3_grant_49 : decode cX3_grant 49 = .ok (.invokevirtual 109, 3) := by decide +kernel
theorem dX3_grant_52 : decode cX3_grant 52 = .ok (.invokevirtual 94, 3) := by decide +kernel
theorem dX3_grant_55 : decode cX3_grant 55 = .ok (.goto 32, 3) := by decide +kernel
theorem dX3_grant_58 : decode cX3_grant 58 = .ok (.aload_n 0, 1) := by decide +kernel
theorem dX3_grant_59 : decode cX3_grant 59 = .ok (.iload_n 1, 1) := by decide +kernel
theorem dX3_grant_60 : decode cX3_grant 60 = .ok (.invokevirtual 72, 3) := by decide +kernel
theorem dX3_grant_63 : decode cX3_grant 63 = .ok (.ifCond .eq 24, 3) := by decide +kernel
theorem dX3_grant_66 : decode cX3_grant 66 = .ok (.aload_n 0, 1) := by decide +kernel
theorem dX3_grant_67 : decode cX3_grant 67 = .ok (.getfield 23, 3) := by decide +kernel
theorem dX3_grant_70 : decode cX3_grant 70 = .ok (.iload_n 1, 1) := by decide +kernel
theorem dX3_grant_71 : decode cX3_grant 71 = .ok (.iconst 2, 1) := by decide +kernel
theorem dX3_grant_72 : decode cX3_grant 72 = .ok (.iconst (-1), 1) := by decide +kernel
theorem dX3_grant_73 : decode cX3_grant 73 = .ok (.invokevirtual 94, 3) := by decide +kernel
theorem dX3_grant_76 : decode cX3_grant 76 = .ok (.aload_n 0, 1) := by decide +kernel
theorem dX3_grant_77 : decode cX3_grant 77 = .ok (.getfield 27, 3) := by decide +kernel
theorem dX3_grant_80 : decode cX3_grant 80 = .ok (.iconst 0, 1) := by decide +kernel
theorem dX3_grant_81 : decode cX3_grant 81 = .ok (.bipush 8, 2) := by decide +kernel
theorem dX3_grant_83 : decode cX3_grant 83 = .ok (.iconst 1, 1) := by decide +kernel
theorem dX3_grant_84 : decode cX3_grant 84 = .ok (.invokevirtual 94, 3) := by decide +kernel
theorem dX3_grant_87 : decode cX3_grant 87 = .ok (.aload_n 0, 1) := by decide +kernel
theorem dX3_grant_88 : decode cX3_grant 88 = .ok (.getfield 23, 3) := by decide +kernel
theorem dX3_grant_91 : decode cX3_grant 91 = .ok (.iload_n 1, 1) := by decide +kernel
theorem dX3_grant_92 : decode cX3_grant 92 = .ok (.iconst 1, 1) := by decide +kernel
theorem dX3_grant_93 : decode cX3_grant 93 = .ok (.iconst 0, 1) := by decide +kernel
theorem dX3_grant_94 : decode cX3_grant 94 = .ok (.invokevirtual 33, 3) := by decide +kernel
theorem dX3_grant_97 : decode cX3_grant 97 = .ok (.aload_n 0, 1) := by decide +kernel
theorem dX3_grant_98 : decode cX3_grant 98 = .ok (.getfield 12, 3) := by decide +kernel
theorem dX3_grant_101 : decode cX3_grant 101 = .ok (.iload_n 1, 1) := by decide +kernel
theorem dX3_grant_102 : decode cX3_grant 102 = .ok (.iload_n 2, 1) := by decide +kernel
theorem dX3_grant_103 : decode cX3_grant 103 = .ok (.iload_n 3, 1) := by decide +kernel
theorem dX3_grant_104 : decode cX3_grant 104 = .ok (.iload 4, 2) := by decide +kernel
theorem dX3_grant_106 : decode cX3_grant 106 = .ok (.invokevirtual 112, 3) := by decide +kernel
theorem dX3_grant_109 : decode cX3_grant 109 = .ok (.aload_n 0, 1) := by decide +kernel
theorem dX3_grant_110 : decode cX3_grant 110 = .ok (.getfield 27, 3) := by decide +kernel
theorem dX3_grant_113 : decode cX3_grant 113 = .ok (.iconst 0, 1) := by decide +kernel
theorem dX3_grant_114 : decode cX3_grant 114 = .ok (.iconst 4, 1) := by decide +kernel
theorem dX3_grant_115 : decode cX3_grant 115 = .ok (.iconst 1, 1) := by decide +kernel
theorem dX3_grant_116 : decode cX3_grant 116 = .ok (.invokevirtual 94, 3) := by decide +kernel
theorem dX3_grant_119 : decode cX3_grant 119 = .ok (.return_, 1) := by decide +kernel
theorem dX3_countPutOut_0 : decode cX3_countPutOut 0 = .ok (.aload_n 0, 1) := by decide +kernel
theorem dX3_countPutOut_1 : decode cX3_countPutOut 1 = .ok (.getfield 27, 3) := by decide +kernel
theorem dX3_countPutOut_4 : decode cX3_countPutOut 4 = .ok (.iconst 0, 1) := by decide +kernel
theorem dX3_countPutOut_5 : decode cX3_countPutOut 5 = .ok (.bipush 6, 2) := by decide +kernel
theorem dX3_countPutOut_7 : decode cX3_countPutOut 7 = .ok (.iload_n 1, 1) := by decide +kernel
theorem dX3_countPutOut_8 : decode cX3_countPutOut 8 = .ok (.invokestatic 115, 3) := by decide +kernel
theorem dX3_countPutOut_11 : decode cX3_countPutOut 11 = .ok (.invokevirtual 94, 3) := by decide +kernel
theorem dX3_countPutOut_14 : decode cX3_countPutOut 14 = .ok (.iconst 0, 1) := by decide +kernel
theorem dX3_countPutOut_15 : decode cX3_countPutOut 15 = .ok (.istore_n 2, 1) := by decide +kernel
theorem dX3_countPutOut_16 : decode cX3_countPutOut 16 = .ok (.iload_n 2, 1) := by decide +kernel
theorem dX3_countPutOut_17 : decode cX3_countPutOut 17 = .ok (.bipush 10, 2) := by decide +kernel
theorem dX3_countPutOut_19 : decode cX3_countPutOut 19 = .ok (.if_icmp .ge 33, 3) := by decide +kernel
theorem dX3_countPutOut_22 : decode cX3_countPutOut 22 = .ok (.iload_n 1, 1) := by decide +kernel
theorem dX3_countPutOut_23 : decode cX3_countPutOut 23 = .ok (.iload_n 2, 1) := by decide +kernel
theorem dX3_countPutOut_24 : decode cX3_countPutOut 24 = .ok (.ishr, 1) := by decide +kernel
theorem dX3_countPutOut_25 : decode cX3_countPutOut 25 = .ok (.iconst 1, 1) := by decide +kernel
theorem dX3_countPutOut_26 : decode cX3_countPutOut 26 = .ok (.iand, 1) := by decide +kernel
theorem dX3_countPutOut_27 : decode cX3_countPutOut 27 = .ok (.iconst 1, 1) := by decide +kernel
theorem dX3_countPutOut_28 : decode cX3_countPutOut 28 = .ok (.if_icmp .ne 18, 3) := by decide +kernel
theorem dX3_countPutOut_31 : decode cX3_countPutOut 31 = .ok (.aload_n 0, 1) := by decide +kernel
theorem dX3_countPutOut_32 : decode cX3_countPutOut 32 = .ok (.getfield 23, 3) := by decide +kernel
theorem dX3_countPutOut_35 : decode cX3_countPutOut 35 = .ok (.iload_n 2, 1) := by decide +kernel
theorem dX3_countPutOut_36 : decode cX3_countPutOut 36 = .ok (.iconst 5, 1) := by decide +kernel
theorem dX3_countPutOut_37 : decode cX3_countPutOut 37 = .ok (.iconst 1, 1) := by decide +kernel
theorem dX3_countPutOut_38 : decode cX3_countPutOut 38 = .ok (.invokevirtual 94, 3) := by decide +kernel
theorem dX3_countPutOut_41 : decode cX3_countPutOut 41 = .ok (.aload_n 0, 1) := by decide +kernel
theorem dX3_countPutOut_42 : decode cX3_countPutOut 42 = .ok (.iload_n 2, 1) := by decide +kernel
theorem dX3_countPutOut_43 : decode cX3_countPutOut 43 = .ok (.invokevirtual 97, 3) := by decide +kernel
theorem dX3_countPutOut_46 : decode cX3_countPutOut 46 = .ok (.iinc 2 1, 3) := by decide +kernel
theorem dX3_countPutOut_49 : decode cX3_countPutOut 49 = .ok (.goto (-33), 3) := by decide +kernel
theorem dX3_countPutOut_52 : decode cX3_countPutOut 52 = .ok (.return_, 1) := by decide +kernel
theorem dX3_takeBack_0 : decode cX3_takeBack 0 = .ok (.aload_n 0, 1) := by decide +kernel
theorem dX3_takeBack_1 : decode cX3_takeBack 1 = .ok (.getfield 12, 3) := by decide +kernel
theorem dX3_takeBack_4 : decode cX3_takeBack 4 = .ok (.iload_n 1, 1) := by decide +kernel
theorem dX3_takeBack_5 : decode cX3_takeBack 5 = .ok (.iload_n 2, 1) := by decide +kernel
theorem dX3_takeBack_6 : decode cX3_takeBack 6 = .ok (.invokevirtual 121, 3) := by decide +kernel
theorem dX3_takeBack_9 : decode cX3_takeBack 9 = .ok (.istore_n 3, 1) := by decide +kernel
theorem dX3_takeBack_10 : decode cX3_takeBack 10 = .ok (.iload_n 3, 1) := by decide +kernel
theorem dX3_takeBack_11 : decode cX3_takeBack 11 = .ok (.iconst (-1), 1) := by decide +kernel
theorem dX3_takeBack_12 : decode cX3_takeBack 12 = .ok (.if_icmp .eq 14, 3) := by decide +kernel
theorem dX3_takeBack_15 : decode cX3_takeBack 15 = .ok (.aload_n 0, 1) := by decide +kernel
theorem dX3_takeBack_16 : decode cX3_takeBack 16 = .ok (.getfield 12, 3) := by decide +kernel
theorem dX3_takeBack_19 : decode cX3_takeBack 19 = .ok (.iload_n 2, 1) := by decide +kernel
theorem dX3_takeBack_20 : decode cX3_takeBack 20 = .ok (.invokevirtual 65, 3) := by decide +kernel
theorem dX3_takeBack_23 : decode cX3_takeBack 23 = .ok (.ifCond .eq 16, 3) := by decide +kernel
theorem dX3_takeBack_26 : decode cX3_takeBack 26 = .ok (.aload_n 0, 1) := by decide +kernel
theorem dX3_takeBack_27 : decode cX3_takeBack 27 = .ok (.getfield 27, 3) := by decide +kernel
theorem dX3_takeBack_30 : decode cX3_takeBack 30 = .ok (.iconst 0, 1) := by decide +kernel
theorem dX3_takeBack_31 : decode cX3_takeBack 31 = .ok (.bipush 10, 2) := by decide +kernel
theorem dX3_takeBack_33 : decode cX3_takeBack 33 = .ok (.iconst 1, 1) := by decide +kernel
theorem dX3_takeBack_34 : decode cX3_takeBack 34 = .ok (.invokevirtual 94, 3) := by decide +kernel
theorem dX3_takeBack_37 : decode cX3_takeBack 37 = .ok (.iconst (-1), 1) := by decide +kernel
theorem dX3_takeBack_38 : decode cX3_takeBack 38 = .ok (.ireturn, 1) := by decide +kernel
theorem dX3_takeBack_39 : decode cX3_takeBack 39 = .ok (.aload_n 0, 1) := by decide +kernel
theorem dX3_takeBack_40 : decode cX3_takeBack 40 = .ok (.getfield 12, 3) := by decide +kernel
theorem dX3_takeBack_43 : decode cX3_takeBack 43 = .ok (.iload_n 3, 1) := by decide +kernel
theorem dX3_takeBack_44 : decode cX3_takeBack 44 = .ok (.iload_n 2, 1) := by decide +kernel
theorem dX3_takeBack_45 : decode cX3_takeBack 45 = .ok (.invokevirtual 124, 3) := by decide +kernel
theorem dX3_takeBack_48 : decode cX3_takeBack 48 = .ok (.ireturn, 1) := by decide +kernel
theorem dX3_giveFavour_0 : decode cX3_giveFavour 0 = .ok (.aload_n 0, 1) := by decide +kernel
theorem dX3_giveFavour_1 : decode cX3_giveFavour 1 = .ok (.getfield 23, 3) := by decide +kernel
theorem dX3_giveFavour_4 : decode cX3_giveFavour 4 = .ok (.iload_n 1, 1) := by decide +kernel
theorem dX3_giveFavour_5 : decode cX3_giveFavour 5 = .ok (.iconst 2, 1) := by decide +kernel
theorem dX3_giveFavour_6 : decode cX3_giveFavour 6 = .ok (.invokevirtual 51, 3) := by decide +kernel
theorem dX3_giveFavour_9 : decode cX3_giveFavour 9 = .ok (.iconst 3, 1) := by decide +kernel
theorem dX3_giveFavour_10 : decode cX3_giveFavour 10 = .ok (.if_icmp .lt 16, 3) := by decide +kernel
theorem dX3_giveFavour_13 : decode cX3_giveFavour 13 = .ok (.aload_n 0, 1) := by decide +kernel
theorem dX3_giveFavour_14 : decode cX3_giveFavour 14 = .ok (.getfield 27, 3) := by decide +kernel
theorem dX3_giveFavour_17 : decode cX3_giveFavour 17 = .ok (.iconst 0, 1) := by decide +kernel
theorem dX3_giveFavour_18 : decode cX3_giveFavour 18 = .ok (.bipush 10, 2) := by decide +kernel
theorem dX3_giveFavour_20 : decode cX3_giveFavour 20 = .ok (.iconst 1, 1) := by decide +kernel
theorem dX3_giveFavour_21 : decode cX3_giveFavour 21 = .ok (.invokevirtual 94, 3) := by decide +kernel
theorem dX3_giveFavour_24 : decode cX3_giveFavour 24 = .ok (.iconst (-1), 1) := by decide +kernel
theorem dX3_giveFavour_25 : decode cX3_giveFavour 25 = .ok (.ireturn, 1) := by decide +kernel
theorem dX3_giveFavour_26 : decode cX3_giveFavour 26 = .ok (.aload_n 0, 1) := by decide +kernel
theorem dX3_giveFavour_27 : decode cX3_giveFavour 27 = .ok (.getfield 23, 3) := by decide +kernel
theorem dX3_giveFavour_30 : decode cX3_giveFavour 30 = .ok (.iload_n 1, 1) := by decide +kernel
theorem dX3_giveFavour_31 : decode cX3_giveFavour 31 = .ok (.iconst 2, 1) := by decide +kernel
theorem dX3_giveFavour_32 : decode cX3_giveFavour 32 = .ok (.iconst 1, 1) := by decide +kernel
theorem dX3_giveFavour_33 : decode cX3_giveFavour 33 = .ok (.invokevirtual 94, 3) := by decide +kernel
theorem dX3_giveFavour_36 : decode cX3_giveFavour 36 = .ok (.aload_n 0, 1) := by decide +kernel
theorem dX3_giveFavour_37 : decode cX3_giveFavour 37 = .ok (.getfield 23, 3) := by decide +kernel
theorem dX3_giveFavour_40 : decode cX3_giveFavour 40 = .ok (.iload_n 1, 1) := by decide +kernel
theorem dX3_giveFavour_41 : decode cX3_giveFavour 41 = .ok (.iconst 2, 1) := by decide +kernel
theorem dX3_giveFavour_42 : decode cX3_giveFavour 42 = .ok (.invokevirtual 51, 3) := by decide +kernel
theorem dX3_giveFavour_45 : decode cX3_giveFavour 45 = .ok (.ireturn, 1) := by decide +kernel
theorem dX3_changeNeed_0 : decode cX3_changeNeed 0 = .ok (.aload_n 0, 1) := by decide +kernel
theorem dX3_changeNeed_1 : decode cX3_changeNeed 1 = .ok (.getfield 23, 3) := by decide +kernel
theorem dX3_changeNeed_4 : decode cX3_changeNeed 4 = .ok (.iload_n 1, 1) := by decide +kernel
theorem dX3_changeNeed_5 : decode cX3_changeNeed 5 = .ok (.iconst 0, 1) := by decide +kernel
theorem dX3_changeNeed_6 : decode cX3_changeNeed 6 = .ok (.invokevirtual 51, 3) := by decide +kernel
theorem dX3_changeNeed_9 : decode cX3_changeNeed 9 = .ok (.istore_n 3, 1) := by decide +kernel
theorem dX3_changeNeed_10 : decode cX3_changeNeed 10 = .ok (.aload_n 0, 1) := by decide +kernel
theorem dX3_changeNeed_11 : decode cX3_changeNeed 11 = .ok (.getfield 23, 3) := by decide +kernel
theorem dX3_changeNeed_14 : decode cX3_changeNeed 14 = .ok (.iload_n 1, 1) := by decide +kernel
theorem dX3_changeNeed_15 : decode cX3_changeNeed 15 = .ok (.iconst 0, 1) := by decide +kernel
theorem dX3_changeNeed_16 : decode cX3_changeNeed 16 = .ok (.iload_n 2, 1) := by decide +kernel
theorem dX3_changeNeed_17 : decode cX3_changeNeed 17 = .ok (.invokevirtual 33, 3) := by decide +kernel
theorem dX3_changeNeed_20 : decode cX3_changeNeed 20 = .ok (.iload_n 3, 1) := by decide +kernel
theorem dX3_changeNeed_21 : decode cX3_changeNeed 21 = .ok (.ireturn, 1) := by decide +kernel
theorem dX3_changeSetting_0 : decode cX3_changeSetting 0 = .ok (.aload_n 0, 1) := by decide +kernel
theorem dX3_changeSetting_1 : decode cX3_changeSetting 1 = .ok (.getfield 27, 3) := by decide +kernel
theorem dX3_changeSetting_4 : decode cX3_changeSetting 4 = .ok (.iconst 0, 1) := by decide +kernel
theorem dX3_changeSetting_5 : decode cX3_changeSetting 5 = .ok (.bipush 9, 2) := by decide +kernel
theorem dX3_changeSetting_7 : decode cX3_changeSetting 7 = .ok (.invokevirtual 51, 3) := by decide +kernel
theorem dX3_changeSetting_10 : decode cX3_changeSetting 10 = .ok (.istore_n 2, 1) := by decide +kernel
theorem dX3_changeSetting_11 : decode cX3_changeSetting 11 = .ok (.aload_n 0, 1) := by decide +kernel
theorem dX3_changeSetting_12 : decode cX3_changeSetting 12 = .ok (.getfield 27, 3) := by decide +kernel
theorem dX3_changeSetting_15 : decode cX3_changeSetting 15 = .ok (.iconst 0, 1) := by decide +kernel
theorem dX3_changeSetting_16 : decode cX3_changeSetting 16 = .ok (.bipush 9, 2) := by decide +kernel
theorem dX3_changeSetting_18 : decode cX3_changeSetting 18 = .ok (.iload_n 1, 1) := by decide +kernel
theorem dX3_changeSetting_19 : decode cX3_changeSetting 19 = .ok (.invokevirtual 33, 3) := by decide +kernel
theorem dX3_changeSetting_22 : decode cX3_changeSetting 22 = .ok (.iload_n 2, 1) := by decide +kernel
theorem dX3_changeSetting_23 : decode cX3_changeSetting 23 = .ok (.ireturn, 1) := by decide +kernel
theorem dX3_canLetHourGo_0 : decode cX3_canLetHourGo 0 = .ok (.aload_n 0, 1) := by decide +kernel
theorem dX3_canLetHourGo_1 : decode cX3_canLetHourGo 1 = .ok (.getfield 27, 3) := by decide +kernel
theorem dX3_canLetHourGo_4 : decode cX3_canLetHourGo 4 = .ok (.iconst 0, 1) := by decide +kernel
theorem dX3_canLetHourGo_5 : decode cX3_canLetHourGo 5 = .ok (.iconst 1, 1) := by decide +kernel
theorem dX3_canLetHourGo_6 : decode cX3_canLetHourGo 6 = .ok (.invokevirtual 51, 3) := by decide +kernel
theorem dX3_canLetHourGo_9 : decode cX3_canLetHourGo 9 = .ok (.sipush 999, 3) := by decide +kernel
theorem dX3_canLetHourGo_12 : decode cX3_canLetHourGo 12 = .ok (.if_icmp .ge 7, 3) := by decide +kernel
theorem dX3_canLetHourGo_15 : decode cX3_canLetHourGo 15 = .ok (.iconst 1, 1) := by decide +kernel
theorem dX3_canLetHourGo_16 : decode cX3_canLetHourGo 16 = .ok (.goto 4, 3) := by decide +kernel
theorem dX3_canLetHourGo_19 : decode cX3_canLetHourGo 19 = .ok (.iconst 0, 1) := by decide +kernel
theorem dX3_canLetHourGo_20 : decode cX3_canLetHourGo 20 = .ok (.ireturn, 1) := by decide +kernel
theorem dX3_letHourGo_0 : decode cX3_letHourGo 0 = .ok (.aload_n 0, 1) := by decide +kernel
theorem dX3_letHourGo_1 : decode cX3_letHourGo 1 = .ok (.getfield 12, 3) := by decide +kernel
theorem dX3_letHourGo_4 : decode cX3_letHourGo 4 = .ok (.invokevirtual 44, 3) := by decide +kernel
theorem dX3_letHourGo_7 : decode cX3_letHourGo 7 = .ok (.istore_n 1, 1) := by decide +kernel
theorem dX3_letHourGo_8 : decode cX3_letHourGo 8 = .ok (.aload_n 0, 1) := by decide +kernel
theorem dX3_letHourGo_9 : decode cX3_letHourGo 9 = .ok (.getfield 12, 3) := by decide +kernel
theorem dX3_letHourGo_12 : decode cX3_letHourGo 12 = .ok (.iload_n 1, 1) := by decide +kernel
theorem dX3_letHourGo_13 : decode cX3_letHourGo 13 = .ok (.invokevirtual 127, 3) := by decide +kernel
theorem dX3_letHourGo_16 : decode cX3_letHourGo 16 = .ok (.istore_n 2, 1) := by decide +kernel
theorem dX3_letHourGo_17 : decode cX3_letHourGo 17 = .ok (.iconst 0, 1) := by decide +kernel
theorem dX3_letHourGo_18 : decode cX3_letHourGo 18 = .ok (.istore_n 3, 1) := by decide +kernel
theorem dX3_letHourGo_19 : decode cX3_letHourGo 19 = .ok (.iload_n 3, 1) := by decide +kernel
theorem dX3_letHourGo_20 : decode cX3_letHourGo 20 = .ok (.bipush 10, 2) := by decide +kernel
theorem dX3_letHourGo_22 : decode cX3_letHourGo 22 = .ok (.if_icmp .ge 28, 3) := by decide +kernel
theorem dX3_letHourGo_25 : decode cX3_letHourGo 25 = .ok (.aload_n 0, 1) := by decide +kernel
theorem dX3_letHourGo_26 : decode cX3_letHourGo 26 = .ok (.getfield 23, 3) := by decide +kernel
theorem dX3_letHourGo_29 : decode cX3_letHourGo 29 = .ok (.iload_n 3, 1) := by decide +kernel
theorem dX3_letHourGo_30 : decode cX3_letHourGo 30 = .ok (.iconst 4, 1) := by decide +kernel
theorem dX3_letHourGo_31 : decode cX3_letHourGo 31 = .ok (.aload_n 0, 1) := by decide +kernel
theorem dX3_letHourGo_32 : decode cX3_letHourGo 32 = .ok (.getfield 12, 3) := by decide +kernel
theorem dX3_letHourGo_35 : decode cX3_letHourGo 35 = .ok (.iload_n 3, 1) := by decide +kernel
theorem dX3_letHourGo_36 : decode cX3_letHourGo 36 = .ok (.iload_n 1, 1) := by decide +kernel
theorem dX3_letHourGo_37 : decode cX3_letHourGo 37 = .ok (.iconst 1, 1) := by decide +kernel
theorem dX3_letHourGo_38 : decode cX3_letHourGo 38 = .ok (.invokevirtual 55, 3) := by decide +kernel
theorem dX3_letHourGo_41 : decode cX3_letHourGo 41 = .ok (.invokevirtual 94, 3) := by decide +kernel
theorem dX3_letHourGo_44 : decode cX3_letHourGo 44 = .ok (.iinc 3 1, 3) := by decide +kernel
theorem dX3_letHourGo_47 : decode cX3_letHourGo 47 = .ok (.goto (-28), 3) := by decide +kernel
theorem dX3_letHourGo_50 : decode cX3_letHourGo 50 = .ok (.aload_n 0, 1) := by decide +kernel
theorem dX3_letHourGo_51 : decode cX3_letHourGo 51 = .ok (.getfield 27, 3) := by decide +kernel
theorem dX3_letHourGo_54 : decode cX3_letHourGo 54 = .ok (.iconst 0, 1) := by decide +kernel
theorem dX3_letHourGo_55 : decode cX3_letHourGo 55 = .ok (.iconst 3, 1) := by decide +kernel
theorem dX3_letHourGo_56 : decode cX3_letHourGo 56 = .ok (.iload_n 2, 1) := by decide +kernel
theorem dX3_letHourGo_57 : decode cX3_letHourGo 57 = .ok (.invokevirtual 94, 3) := by decide +kernel
theorem dX3_letHourGo_60 : decode cX3_letHourGo 60 = .ok (.aload_n 0, 1) := by decide +kernel
theorem dX3_letHourGo_61 : decode cX3_letHourGo 61 = .ok (.getfield 12, 3) := by decide +kernel
theorem dX3_letHourGo_64 : decode cX3_letHourGo 64 = .ok (.invokevirtual 130, 3) := by decide +kernel
theorem dX3_letHourGo_67 : decode cX3_letHourGo 67 = .ok (.aload_n 0, 1) := by decide +kernel
theorem dX3_letHourGo_68 : decode cX3_letHourGo 68 = .ok (.getfield 12, 3) := by decide +kernel
theorem dX3_letHourGo_71 : decode cX3_letHourGo 71 = .ok (.invokevirtual 44, 3) := by decide +kernel
theorem dX3_letHourGo_74 : decode cX3_letHourGo 74 = .ok (.ifCond .ne 13, 3) := by decide +kernel
theorem dX3_letHourGo_77 : decode cX3_letHourGo 77 = .ok (.aload_n 0, 1) := by decide +kernel
theorem dX3_letHourGo_78 : decode cX3_letHourGo 78 = .ok (.getfield 27, 3) := by decide +kernel
theorem dX3_letHourGo_81 : decode cX3_letHourGo 81 = .ok (.iconst 0, 1) := by decide +kernel
theorem dX3_letHourGo_82 : decode cX3_letHourGo 82 = .ok (.iconst 1, 1) := by decide +kernel
theorem dX3_letHourGo_83 : decode cX3_letHourGo 83 = .ok (.iconst 1, 1) := by decide +kernel
theorem dX3_letHourGo_84 : decode cX3_letHourGo 84 = .ok (.invokevirtual 94, 3) := by decide +kernel
theorem dX3_letHourGo_87 : decode cX3_letHourGo 87 = .ok (.iload_n 2, 1) := by decide +kernel
theorem dX3_letHourGo_88 : decode cX3_letHourGo 88 = .ok (.ireturn, 1) := by decide +kernel
theorem dX4_init_0 : decode cX4_init 0 = .ok (.aload_n 0, 1) := by decide +kernel
theorem dX4_init_1 : decode cX4_init 1 = .ok (.invokespecial 3, 3) := by decide +kernel
theorem dX4_init_4 : decode cX4_init 4 = .ok (.aload_n 0, 1) := by decide +kernel
theorem dX4_init_5 : decode cX4_init 5 = .ok (.new 9, 3) := by decide +kernel
theorem dX4_init_8 : decode cX4_init 8 = .ok (.dup, 1) := by decide +kernel
theorem dX4_init_9 : decode cX4_init 9 = .ok (.iconst 4, 1) := by decide +kernel
theorem dX4_init_10 : decode cX4_init 10 = .ok (.bipush 12, 2) := by decide +kernel
theorem dX4_init_12 : decode cX4_init 12 = .ok (.invokespecial 11, 3) := by decide +kernel
theorem dX4_init_15 : decode cX4_init 15 = .ok (.putfield 14, 3) := by decide +kernel
theorem dX4_init_18 : decode cX4_init 18 = .ok (.aload_n 0, 1) := by decide +kernel
theorem dX4_init_19 : decode cX4_init 19 = .ok (.getfield 14, 3) := by decide +kernel
theorem dX4_init_22 : decode cX4_init 22 = .ok (.iconst (-1), 1) := by decide +kernel
theorem dX4_init_23 : decode cX4_init 23 = .ok (.invokevirtual 20, 3) := by decide +kernel
theorem dX4_init_26 : decode cX4_init 26 = .ok (.return_, 1) := by decide +kernel
theorem dX4_copyFrom_0 : decode cX4_copyFrom 0 = .ok (.aload_n 0, 1) := by decide +kernel
theorem dX4_copyFrom_1 : decode cX4_copyFrom 1 = .ok (.getfield 14, 3) := by decide +kernel
theorem dX4_copyFrom_4 : decode cX4_copyFrom 4 = .ok (.aload_n 1, 1) := by decide +kernel
theorem dX4_copyFrom_5 : decode cX4_copyFrom 5 = .ok (.getfield 14, 3) := by decide +kernel
theorem dX4_copyFrom_8 : decode cX4_copyFrom 8 = .ok (.invokevirtual 24, 3) := by decide +kernel
theorem dX4_copyFrom_11 : decode cX4_copyFrom 11 = .ok (.aload_n 0, 1) := by decide +kernel
theorem dX4_copyFrom_12 : decode cX4_copyFrom 12 = .ok (.aload_n 1, 1) := by decide +kernel
theorem dX4_copyFrom_13 : decode cX4_copyFrom 13 = .ok (.getfield 28, 3) := by decide +kernel
theorem dX4_copyFrom_16 : decode cX4_copyFrom 16 = .ok (.putfield 28, 3) := by decide +kernel
theorem dX4_copyFrom_19 : decode cX4_copyFrom 19 = .ok (.return_, 1) := by decide +kernel
theorem dX4_goneHours_0 : decode cX4_goneHours 0 = .ok (.aload_n 0, 1) := by decide +kernel
theorem dX4_goneHours_1 : decode cX4_goneHours 1 = .ok (.getfield 28, 3) := by decide +kernel
theorem dX4_goneHours_4 : decode cX4_goneHours 4 = .ok (.ireturn, 1) := by decide +kernel
theorem dX4_wentBy_0 : decode cX4_wentBy 0 = .ok (.iload_n 1, 1) := by decide +kernel
theorem dX4_wentBy_1 : decode cX4_wentBy 1 = .ok (.aload_n 0, 1) := by decide +kernel
theorem dX4_wentBy_2 : decode cX4_wentBy 2 = .ok (.getfield 28, 3) := by decide +kernel
theorem dX4_wentBy_5 : decode cX4_wentBy 5 = .ok (.if_icmp .ge 7, 3) := by decide +kernel
theorem dX4_wentBy_8 : decode cX4_wentBy 8 = .ok (.iconst 1, 1) := by decide +kernel
theorem dX4_wentBy_9 : decode cX4_wentBy 9 = .ok (.goto 4, 3) := by decide +kernel
theorem dX4_wentBy_12 : decode cX4_wentBy 12 = .ok (.iconst 0, 1) := by decide +kernel
theorem dX4_wentBy_13 : decode cX4_wentBy 13 = .ok (.ireturn, 1) := by decide +kernel
theorem dX4_advance_0 : decode cX4_advance 0 = .ok (.aload_n 0, 1) := by decide +kernel
theorem dX4_advance_1 : decode cX4_advance 1 = .ok (.dup, 1) := by decide +kernel
theorem dX4_advance_2 : decode cX4_advance 2 = .ok (.getfield 28, 3) := by decide +kernel
theorem dX4_advance_5 : decode cX4_advance 5 = .ok (.iconst 1, 1) := by decide +kernel
theorem dX4_advance_6 : decode cX4_advance 6 = .ok (.iadd, 1) := by decide +kernel
theorem dX4_advance_7 : decode cX4_advance 7 = .ok (.putfield 28, 3) := by decide +kernel
theorem dX4_advance_10 : decode cX4_advance 10 = .ok (.aload_n 0, 1) := by decide +kernel
theorem dX4_advance_11 : decode cX4_advance 11 = .ok (.getfield 28, 3) := by decide +kernel
theorem dX4_advance_14 : decode cX4_advance 14 = .ok (.bipush 12, 2) := by decide +kernel
theorem dX4_advance_16 : decode cX4_advance 16 = .ok (.if_icmp .lt 16, 3) := by decide +kernel
theorem dX4_advance_19 : decode cX4_advance 19 = .ok (.aload_n 0, 1) := by decide +kernel
theorem dX4_advance_20 : decode cX4_advance 20 = .ok (.getfield 14, 3) := by decide +kernel
theorem dX4_advance_23 : decode cX4_advance 23 = .ok (.iconst (-1), 1) := by decide +kernel
theorem dX4_advance_24 : decode cX4_advance 24 = .ok (.invokevirtual 20, 3) := by decide +kernel
theorem dX4_advance_27 : decode cX4_advance 27 = .ok (.aload_n 0, 1) := by decide +kernel
theorem dX4_advance_28 : decode cX4_advance 28 = .ok (.iconst 0, 1) := by decide +kernel
theorem dX4_advance_29 : decode cX4_advance 29 = .ok (.putfield 28, 3) := by decide +kernel
theorem dX4_advance_32 : decode cX4_advance 32 = .ok (.return_, 1) := by decide +kernel
theorem dX4_holder_0 : decode cX4_holder 0 = .ok (.aload_n 0, 1) := by decide +kernel
theorem dX4_holder_1 : decode cX4_holder 1 = .ok (.getfield 14, 3) := by decide +kernel
theorem dX4_holder_4 : decode cX4_holder 4 = .ok (.iload_n 1, 1) := by decide +kernel
theorem dX4_holder_5 : decode cX4_holder 5 = .ok (.iload_n 2, 1) := by decide +kernel
theorem dX4_holder_6 : decode cX4_holder 6 = .ok (.invokevirtual 32, 3) := by decide +kernel
theorem dX4_holder_9 : decode cX4_holder 9 = .ok (.ireturn, 1) := by decide +kernel
theorem dX4_lend_0 : decode cX4_lend 0 = .ok (.iload_n 3, 1) := by decide +kernel
theorem dX4_lend_1 : decode cX4_lend 1 = .ok (.istore 5, 2) := by decide +kernel
theorem dX4_lend_3 : decode cX4_lend 3 = .ok (.iload 5, 2) := by decide +kernel
theorem dX4_lend_5 : decode cX4_lend 5 = .ok (.iload_n 3, 1) := by decide +kernel
theorem dX4_lend_6 : decode cX4_lend 6 = .ok (.iload 4, 2) := by decide +kernel
theorem dX4_lend_8 : decode cX4_lend 8 = .ok (.iadd, 1) := by decide +kernel
theorem dX4_lend_9 : decode cX4_lend 9 = .ok (.if_icmp .ge 20, 3) := by decide +kernel
theorem dX4_lend_12 : decode cX4_lend 12 = .ok (.aload_n 0, 1) := by decide +kernel
theorem dX4_lend_13 : decode cX4_lend 13 = .ok (.getfield 14, 3) := by decide +kernel
theorem dX4_lend_16 : decode cX4_lend 16 = .ok (.iload_n 2, 1) := by decide +kernel
theorem dX4_lend_17 : decode cX4_lend 17 = .ok (.iload 5, 2) := by decide +kernel
theorem dX4_lend_19 : decode cX4_lend 19 = .ok (.iload_n 1, 1) := by decide +kernel
theorem dX4_lend_20 : decode cX4_lend 20 = .ok (.invokevirtual 36, 3) := by decide +kernel
theorem dX4_lend_23 : decode cX4_lend 23 = .ok (.iinc 5 1, 3) := by decide +kernel
theorem dX4_lend_26 : decode cX4_lend 26 = .ok (.goto (-23), 3) := by decide +kernel
theorem dX4_lend_29 : decode cX4_lend 29 = .ok (.return_, 1) := by decide +kernel
theorem dX4_lentBeds_0 : decode cX4_lentBeds 0 = .ok (.iconst 0, 1) := by decide +kernel
theorem dX4_lentBeds_1 : decode cX4_lentBeds 1 = .ok (.istore_n 2, 1) := by decide +kernel
theorem dX4_lentBeds_2 : decode cX4_lentBeds 2 = .ok (.iconst 0, 1) := by decide +kernel
theorem dX4_lentBeds_3 : decode cX4_lentBeds 3 = .ok (.istore_n 3, 1) := by decide +kernel
theorem dX4_lentBeds_4 : decode cX4_lentBeds 4 = .ok (.iload_n 3, 1) := by decide +kernel
theorem dX4_lentBeds_5 : decode cX4_lentBeds 5 = .ok (.iconst 4, 1) := by decide +kernel
theorem dX4_lentBeds_6 : decode cX4_lentBeds 6 = .ok (.if_icmp .ge 30, 3) := by decide +kernel
theorem dX4_lentBeds_9 : decode cX4_lentBeds 9 = .ok (.iload_n 2, 1) := by decide +kernel
theorem dX4_lentBeds_10 : decode cX4_lentBeds 10 = .ok (.aload_n 0, 1) := by decide +kernel
theorem dX4_lentBeds_11 : decode cX4_lentBeds 11 = .ok (.getfield 14, 3) := by decide +kernel
theorem dX4_lentBeds_14 : decode cX4_lentBeds 14 = .ok (.iload_n 3, 1) := by decide +kernel
theorem dX4_lentBeds_15 : decode cX4_lentBeds 15 = .ok (.iload_n 1, 1) := by decide +kernel
theorem dX4_lentBeds_16 : decode cX4_lentBeds 16 = .ok (.invokevirtual 32, 3) := by decide +kernel
theorem dX4_lentBeds_19 : decode cX4_lentBeds 19 = .ok (.iconst (-1), 1) := by decide +kernel
theorem dX4_lentBeds_20 : decode cX4_lentBeds 20 = .ok (.if_icmp .eq 7, 3) := by decide +kernel
theorem dX4_lentBeds_23 : decode cX4_lentBeds 23 = .ok (.iconst 1, 1) := by decide +kernel
theorem dX4_lentBeds_24 : decode cX4_lentBeds 24 = .ok (.goto 4, 3) := by decide +kernel
theorem dX4_lentBeds_27 : decode cX4_lentBeds 27 = .ok (.iconst 0, 1) := by decide +kernel
theorem dX4_lentBeds_28 : decode cX4_lentBeds 28 = .ok (.iadd, 1) := by decide +kernel
theorem dX4_lentBeds_29 : decode cX4_lentBeds 29 = .ok (.istore_n 2, 1) := by decide +kernel
theorem dX4_lentBeds_30 : decode cX4_lentBeds 30 = .ok (.iinc 3 1, 3) := by decide +kernel
theorem dX4_lentBeds_33 : decode cX4_lentBeds 33 = .ok (.goto (-29), 3) := by decide +kernel
theorem dX4_lentBeds_36 : decode cX4_lentBeds 36 = .ok (.iload_n 2, 1) := by decide +kernel
theorem dX4_lentBeds_37 : decode cX4_lentBeds 37 = .ok (.ireturn, 1) := by decide +kernel
theorem dX4_mostLentBeds_0 : decode cX4_mostLentBeds 0 = .ok (.iconst 0, 1) := by decide +kernel
theorem dX4_mostLentBeds_1 : decode cX4_mostLentBeds 1 = .ok (.istore_n 1, 1) := by decide +kernel
theorem dX4_mostLentBeds_2 : decode cX4_mostLentBeds 2 = .ok (.iconst 0, 1) := by decide +kernel
theorem dX4_mostLentBeds_3 : decode cX4_mostLentBeds 3 = .ok (.istore_n 2, 1) := by decide +kernel
theorem dX4_mostLentBeds_4 : decode cX4_mostLentBeds 4 = .ok (.iload_n 2, 1) := by decide +kernel
theorem dX4_mostLentBeds_5 : decode cX4_mostLentBeds 5 = .ok (.bipush 12, 2) := by decide +kernel
theorem dX4_mostLentBeds_7 : decode cX4_mostLentBeds 7 = .ok (.if_icmp .ge 19, 3) := by decide +kernel
theorem dX4_mostLentBeds_10 : decode cX4_mostLentBeds 10 = .ok (.iload_n 1, 1) := by decide +kernel
theorem dX4_mostLentBeds_11 : decode cX4_mostLentBeds 11 = .ok (.aload_n 0, 1) := by decide +kernel
theorem dX4_mostLentBeds_12 : decode cX4_mostLentBeds 12 = .ok (.iload_n 2, 1) := by decide +kernel
theorem dX4_mostLentBeds_13 : decode cX4_mostLentBeds 13 = .ok (.invokevirtual 40, 3) := by decide +kernel
theorem dX4_mostLentBeds_16 : decode cX4_mostLentBeds 16 = .ok (.invokestatic 44, 3) := by decide +kernel
theorem dX4_mostLentBeds_19 : decode cX4_mostLentBeds 19 = .ok (.istore_n 1, 1) := by decide +kernel
theorem dX4_mostLentBeds_20 : decode cX4_mostLentBeds 20 = .ok (.iinc 2 1, 3) := by decide +kernel
theorem dX4_mostLentBeds_23 : decode cX4_mostLentBeds 23 = .ok (.goto (-19), 3) := by decide +kernel
theorem dX4_mostLentBeds_26 : decode cX4_mostLentBeds 26 = .ok (.iload_n 1, 1) := by decide +kernel
theorem dX4_mostLentBeds_27 : decode cX4_mostLentBeds 27 = .ok (.ireturn, 1) := by decide +kernel
theorem dX4_lentHours_0 : decode cX4_lentHours 0 = .ok (.iconst 0, 1) := by decide +kernel
theorem dX4_lentHours_1 : decode cX4_lentHours 1 = .ok (.istore_n 1, 1) := by decide +kernel
theorem dX4_lentHours_2 : decode cX4_lentHours 2 = .ok (.iconst 0, 1) := by decide +kernel
theorem dX4_lentHours_3 : decode cX4_lentHours 3 = .ok (.istore_n 2, 1) := by decide +kernel
theorem dX4_lentHours_4 : decode cX4_lentHours 4 = .ok (.iload_n 2, 1) := by decide +kernel
theorem dX4_lentHours_5 : decode cX4_lentHours 5 = .ok (.bipush 12, 2) := by decide +kernel
theorem dX4_lentHours_7 : decode cX4_lentHours 7 = .ok (.if_icmp .ge 17, 3) := by decide +kernel
theorem dX4_lentHours_10 : decode cX4_lentHours 10 = .ok (.iload_n 1, 1) := by decide +kernel
theorem dX4_lentHours_11 : decode cX4_lentHours 11 = .ok (.aload_n 0, 1) := by decide +kernel
theorem dX4_lentHours_12 : decode cX4_lentHours 12 = .ok (.iload_n 2, 1) := by decide +kernel
theorem dX4_lentHours_13 : decode cX4_lentHours 13 = .ok (.invokevirtual 40, 3) := by decide +kernel
theorem dX4_lentHours_16 : decode cX4_lentHours 16 = .ok (.iadd, 1) := by decide +kernel
theorem dX4_lentHours_17 : decode cX4_lentHours 17 = .ok (.istore_n 1, 1) := by decide +kernel
theorem dX4_lentHours_18 : decode cX4_lentHours 18 = .ok (.iinc 2 1, 3) := by decide +kernel
theorem dX4_lentHours_21 : decode cX4_lentHours 21 = .ok (.goto (-17), 3) := by decide +kernel
theorem dX4_lentHours_24 : decode cX4_lentHours 24 = .ok (.iload_n 1, 1) := by decide +kernel
theorem dX4_lentHours_25 : decode cX4_lentHours 25 = .ok (.ireturn, 1) := by decide +kernel
theorem dX4_bedOf_0 : decode cX4_bedOf 0 = .ok (.iconst 0, 1) := by decide +kernel
theorem dX4_bedOf_1 : decode cX4_bedOf 1 = .ok (.istore_n 3, 1) := by decide +kernel
theorem dX4_bedOf_2 : decode cX4_bedOf 2 = .ok (.iload_n 3, 1) := by decide +kernel
theorem dX4_bedOf_3 : decode cX4_bedOf 3 = .ok (.iconst 4, 1) := by decide +kernel
theorem dX4_bedOf_4 : decode cX4_bedOf 4 = .ok (.if_icmp .ge 24, 3) := by decide +kernel
theorem dX4_bedOf_7 : decode cX4_bedOf 7 = .ok (.aload_n 0, 1) := by decide +kernel
theorem dX4_bedOf_8 : decode cX4_bedOf 8 = .ok (.getfield 14, 3) := by decide +kernel
theorem dX4_bedOf_11 : decode cX4_bedOf 11 = .ok (.iload_n 3, 1) := by decide +kernel
theorem dX4_bedOf_12 : decode cX4_bedOf 12 = .ok (.iload_n 2, 1) := by decide +kernel
theorem dX4_bedOf_13 : decode cX4_bedOf 13 = .ok (.invokevirtual 32, 3) := by decide +kernel
theorem dX4_bedOf_16 : decode cX4_bedOf 16 = .ok (.iload_n 1, 1) := by decide +kernel
theorem dX4_bedOf_17 : decode cX4_bedOf 17 = .ok (.if_icmp .ne 5, 3) := by decide +kernel
theorem dX4_bedOf_20 : decode cX4_bedOf 20 = .ok (.iload_n 3, 1) := by decide +kernel
theorem dX4_bedOf_21 : decode cX4_bedOf 21 = .ok (.ireturn, 1) := by decide +kernel
theorem dX4_bedOf_22 : decode cX4_bedOf 22 = .ok (.iinc 3 1, 3) := by decide +kernel
theorem dX4_bedOf_25 : decode cX4_bedOf 25 = .ok (.goto (-23), 3) := by decide +kernel
theorem dX4_bedOf_28 : decode cX4_bedOf 28 = .ok (.iconst (-1), 1) := by decide +kernel
theorem dX4_bedOf_29 : decode cX4_bedOf 29 = .ok (.ireturn, 1) := by decide +kernel
theorem dX4_hoursWithBed_0 : decode cX4_hoursWithBed 0 = .ok (.iconst 0, 1) := by decide +kernel
theorem dX4_hoursWithBed_1 : decode cX4_hoursWithBed 1 = .ok (.istore 4, 2) := by decide +kernel
theorem dX4_hoursWithBed_3 : decode cX4_hoursWithBed 3 = .ok (.iload_n 2, 1) := by decide +kernel
theorem dX4_hoursWithBed_4 : decode cX4_hoursWithBed 4 = .ok (.istore 5, 2) := by decide +kernel
theorem dX4_hoursWithBed_6 : decode cX4_hoursWithBed 6 = .ok (.iload 5, 2) := by decide +kernel
theorem dX4_hoursWithBed_8 : decode cX4_hoursWithBed 8 = .ok (.iload_n 2, 1) := by decide +kernel
theorem dX4_hoursWithBed_9 : decode cX4_hoursWithBed 9 = .ok (.iload_n 3, 1) := by decide +kernel
theorem dX4_hoursWithBed_10 : decode cX4_hoursWithBed 10 = .ok (.iadd, 1) := by decide +kernel
theorem dX4_hoursWithBed_11 : decode cX4_hoursWithBed 11 = .ok (.if_icmp .ge 30, 3) := by decide +kernel
theorem dX4_hoursWithBed_14 : decode cX4_hoursWithBed 14 = .ok (.iload 4, 2) := by decide +kernel
theorem dX4_hoursWithBed_16 : decode cX4_hoursWithBed 16 = .ok (.aload_n 0, 1) := by decide +kernel
theorem dX4_hoursWithBed_17 : decode cX4_hoursWithBed 17 = .ok (.iload_n 1, 1) := by decide +kernel
theorem dX4_hoursWithBed_18 : decode cX4_hoursWithBed 18 = .ok (.iload 5, 2) := by decide +kernel
theorem dX4_hoursWithBed_20 : decode cX4_hoursWithBed 20 = .ok (.invokevirtual 49, 3) := by decide +kernel
theorem dX4_hoursWithBed_23 : decode cX4_hoursWithBed 23 = .ok (.iconst (-1), 1) := by decide +kernel
theorem dX4_hoursWithBed_24 : decode cX4_hoursWithBed 24 = .ok (.if_icmp .eq 7, 3) := by decide +kernel
theorem dX4_hoursWithBed_27 : decode cX4_hoursWithBed 27 = .ok (.iconst 1, 1) := by decide +kernel
theorem dX4_hoursWithBed_28 : decode cX4_hoursWithBed 28 = .ok (.goto 4, 3) := by decide +kernel
theorem dX4_hoursWithBed_31 : decode cX4_hoursWithBed 31 = .ok (.iconst 0, 1) := by decide +kernel
theorem dX4_hoursWithBed_32 : decode cX4_hoursWithBed 32 = .ok (.iadd, 1) := by decide +kernel
theorem dX4_hoursWithBed_33 : decode cX4_hoursWithBed 33 = .ok (.istore 4, 2) := by decide +kernel
theorem dX4_hoursWithBed_35 : decode cX4_hoursWithBed 35 = .ok (.iinc 5 1, 3) := by decide +kernel
theorem dX4_hoursWithBed_38 : decode cX4_hoursWithBed 38 = .ok (.goto (-32), 3) := by decide +kernel
theorem dX4_hoursWithBed_41 : decode cX4_hoursWithBed 41 = .ok (.iload 4, 2) := by decide +kernel
theorem dX4_hoursWithBed_43 : decode cX4_hoursWithBed 43 = .ok (.ireturn, 1) := by decide +kernel
theorem dX4_lentHoursIn_0 : decode cX4_lentHoursIn 0 = .ok (.iconst 0, 1) := by decide +kernel
theorem dX4_lentHoursIn_1 : decode cX4_lentHoursIn 1 = .ok (.istore 4, 2) := by decide +kernel
theorem dX4_lentHoursIn_3 : decode cX4_lentHoursIn 3 = .ok (.iload_n 2, 1) := by decide +kernel
theorem dX4_lentHoursIn_4 : decode cX4_lentHoursIn 4 = .ok (.istore 5, 2) := by decide +kernel
theorem dX4_lentHoursIn_6 : decode cX4_lentHoursIn 6 = .ok (.iload 5, 2) := by decide +kernel
theorem dX4_lentHoursIn_8 : decode cX4_lentHoursIn 8 = .ok (.iload_n 2, 1) := by decide +kernel
theorem dX4_lentHoursIn_9 : decode cX4_lentHoursIn 9 = .ok (.iload_n 3, 1) := by decide +kernel
theorem dX4_lentHoursIn_10 : decode cX4_lentHoursIn 10 = .ok (.iadd, 1) := by decide +kernel
theorem dX4_lentHoursIn_11 : decode cX4_lentHoursIn 11 = .ok (.if_icmp .ge 33, 3) := by decide +kernel
theorem dX4_lentHoursIn_14 : decode cX4_lentHoursIn 14 = .ok (.iload 4, 2) := by decide +kernel
theorem dX4_lentHoursIn_16 : decode cX4_lentHoursIn 16 = .ok (.aload_n 0, 1) := by decide +kernel
theorem dX4_lentHoursIn_17 : decode cX4_lentHoursIn 17 = .ok (.getfield 14, 3) := by decide +kernel
theorem dX4_lentHoursIn_20 : decode cX4_lentHoursIn 20 = .ok (.iload_n 1, 1) := by decide +kernel
theorem dX4_lentHoursIn_21 : decode cX4_lentHoursIn 21 = .ok (.iload 5, 2) := by decide +kernel
theorem dX4_lentHoursIn_23 : decode cX4_lentHoursIn 23 = .ok (.invokevirtual 32, 3) := by decide +kernel
theorem dX4_lentHoursIn_26 : decode cX4_lentHoursIn 26 = .ok (.iconst (-1), 1) := by decide +kernel
theorem dX4_lentHoursIn_27 : decode cX4_lentHoursIn 27 = .ok (.if_icmp .eq 7, 3) := by decide +kernel
theorem dX4_lentHoursIn_30 : decode cX4_lentHoursIn 30 = .ok (.iconst 1, 1) := by decide +kernel
theorem dX4_lentHoursIn_31 : decode cX4_lentHoursIn 31 = .ok (.goto 4, 3) := by decide +kernel
theorem dX4_lentHoursIn_34 : decode cX4_lentHoursIn 34 = .ok (.iconst 0, 1) := by decide +kernel
theorem dX4_lentHoursIn_35 : decode cX4_lentHoursIn 35 = .ok (.iadd, 1) := by decide +kernel
theorem dX4_lentHoursIn_36 : decode cX4_lentHoursIn 36 = .ok (.istore 4, 2) := by decide +kernel
theorem dX4_lentHoursIn_38 : decode cX4_lentHoursIn 38 = .ok (.iinc 5 1, 3) := by decide +kernel
theorem dX4_lentHoursIn_41 : decode cX4_lentHoursIn 41 = .ok (.goto (-35), 3) := by decide +kernel
theorem dX4_lentHoursIn_44 : decode cX4_lentHoursIn 44 = .ok (.iload 4, 2) := by decide +kernel
theorem dX4_lentHoursIn_46 : decode cX4_lentHoursIn 46 = .ok (.ireturn, 1) := by decide +kernel
theorem dX4_leastLentBed_0 : decode cX4_leastLentBed 0 = .ok (.iconst 0, 1) := by decide +kernel
theorem dX4_leastLentBed_1 : decode cX4_leastLentBed 1 = .ok (.istore_n 3, 1) := by decide +kernel
theorem dX4_leastLentBed_2 : decode cX4_leastLentBed 2 = .ok (.iconst 1, 1) := by decide +kernel
theorem dX4_leastLentBed_3 : decode cX4_leastLentBed 3 = .ok (.istore 4, 2) := by decide +kernel
theorem dX4_leastLentBed_5 : decode cX4_leastLentBed 5 = .ok (.iload 4, 2) := by decide +kernel
theorem dX4_leastLentBed_7 : decode cX4_leastLentBed 7 = .ok (.iconst 4, 1) := by decide +kernel
theorem dX4_leastLentBed_8 : decode cX4_leastLentBed 8 = .ok (.if_icmp .ge 30, 3) := by decide +kernel
theorem dX4_leastLentBed_11 : decode cX4_leastLentBed 11 = .ok (.aload_n 0, 1) := by decide +kernel
theorem dX4_leastLentBed_12 : decode cX4_leastLentBed 12 = .ok (.iload 4, 2) := by decide +kernel
theorem dX4_leastLentBed_14 : decode cX4_leastLentBed 14 = .ok (.iload_n 1, 1) := by decide +kernel
theorem dX4_leastLentBed_15 : decode cX4_leastLentBed 15 = .ok (.iload_n 2, 1) := by decide +kernel
theorem dX4_leastLentBed_16 : decode cX4_leastLentBed 16 = .ok (.invokevirtual 52, 3) := by decide +kernel
theorem dX4_leastLentBed_19 : decode cX4_leastLentBed 19 = .ok (.aload_n 0, 1) := by decide +kernel
theorem dX4_leastLentBed_20 : decode cX4_leastLentBed 20 = .ok (.iload_n 3, 1) := by decide +kernel
theorem dX4_leastLentBed_21 : decode cX4_leastLentBed 21 = .ok (.iload_n 1, 1) := by decide +kernel
theorem dX4_leastLentBed_22 : decode cX4_leastLentBed 22 = .ok (.iload_n 2, 1) := by decide +kernel
theorem dX4_leastLentBed_23 : decode cX4_leastLentBed 23 = .ok (.invokevirtual 52, 3) := by decide +kernel
theorem dX4_leastLentBed_26 : decode cX4_leastLentBed 26 = .ok (.if_icmp .ge 6, 3) := by decide +kernel
theorem dX4_leastLentBed_29 : decode cX4_leastLentBed 29 = .ok (.iload 4, 2) := by decide +kernel
theorem dX4_leastLentBed_31 : decode cX4_leastLentBed 31 = .ok (.istore_n 3, 1) := by decide +kernel
theorem dX4_leastLentBed_32 : decode cX4_leastLentBed 32 = .ok (.iinc 4 1, 3) := by decide +kernel
theorem dX4_leastLentBed_35 : decode cX4_leastLentBed 35 = .ok (.goto (-30), 3) := by decide +kernel
theorem dX4_leastLentBed_38 : decode cX4_leastLentBed 38 = .ok (.iload_n 3, 1) := by decide +kernel
theorem dX4_leastLentBed_39 : decode cX4_leastLentBed 39 = .ok (.ireturn, 1) := by decide +kernel
theorem dX4_holdersMask_0 : decode cX4_holdersMask 0 = .ok (.iconst 0, 1) := by decide +kernel
theorem dX4_holdersMask_1 : decode cX4_holdersMask 1 = .ok (.istore 4, 2) := by decide +kernel
theorem dX4_holdersMask_3 : decode cX4_holdersMask 3 = .ok (.iload_n 2, 1) := by decide +kernel
theorem dX4_holdersMask_4 : decode cX4_holdersMask 4 = .ok (.istore 5, 2) := by decide +kernel
theorem dX4_holdersMask_6 : decode cX4_holdersMask 6 = .ok (.iload 5, 2) := by decide +kernel
theorem dX4_holdersMask_8 : decode cX4_holdersMask 8 = .ok (.iload_n 2, 1) := by decide +kernel
theorem dX4_holdersMask_9 : decode cX4_holdersMask 9 = .ok (.iload_n 3, 1) := by decide +kernel
theorem dX4_holdersMask_10 : decode cX4_holdersMask 10 = .ok (.iadd, 1) := by decide +kernel
theorem dX4_holdersMask_11 : decode cX4_holdersMask 11 = .ok (.if_icmp .ge 40, 3) := by decide +kernel
theorem dX4_holdersMask_14 : decode cX4_holdersMask 14 = .ok (.aload_n 0, 1) := by decide +kernel
theorem dX4_holdersMask_15 : decode cX4_holdersMask 15 = .ok (.getfield 14, 3) := by decide +kernel
theorem dX4_holdersMask_18 : decode cX4_holdersMask 18 = .ok (.iload_n 1, 1) := by decide +kernel
theorem dX4_holdersMask_19 : decode cX4_holdersMask 19 = .ok (.iload 5, 2) := by decide +kernel
theorem dX4_holdersMask_21 : decode cX4_holdersMask 21 = .ok (.invokevirtual 32, 3) := by decide +kernel
theorem dX4_holdersMask_24 : decode cX4_holdersMask 24 = .ok (.istore 6, 2) := by decide +kernel
theorem dX4_holdersMask_26 : decode cX4_holdersMask 26 = .ok (.iload 4, 2) := by decide +kernel
theorem dX4_holdersMask_28 : decode cX4_holdersMask 28 = .ok (.iload 6, 2) := by decide +kernel
theorem dX4_holdersMask_30 : decode cX4_holdersMask 30 = .ok (.iconst (-1), 1) := by decide +kernel
theorem dX4_holdersMask_31 : decode cX4_holdersMask 31 = .ok (.if_icmp .ne 7, 3) := by decide +kernel
theorem dX4_holdersMask_34 : decode cX4_holdersMask 34 = .ok (.iconst 0, 1) := by decide +kernel
theorem dX4_holdersMask_35 : decode cX4_holdersMask 35 = .ok (.goto 7, 3) := by decide +kernel
theorem dX4_holdersMask_38 : decode cX4_holdersMask 38 = .ok (.iconst 1, 1) := by decide +kernel
theorem dX4_holdersMask_39 : decode cX4_holdersMask 39 = .ok (.iload 6, 2) := by decide +kernel
theorem dX4_holdersMask_41 : decode cX4_holdersMask 41 = .ok (.ishl, 1) := by decide +kernel
theorem dX4_holdersMask_42 : decode cX4_holdersMask 42 = .ok (.ior, 1) := by decide +kernel
theorem dX4_holdersMask_43 : decode cX4_holdersMask 43 = .ok (.istore 4, 2) := by decide +kernel
theorem dX4_holdersMask_45 : decode cX4_holdersMask 45 = .ok (.iinc 5 1, 3) := by decide +kernel
theorem dX4_holdersMask_48 : decode cX4_holdersMask 48 = .ok (.goto (-42), 3) := by decide +kernel
theorem dX4_holdersMask_51 : decode cX4_holdersMask 51 = .ok (.iload 4, 2) := by decide +kernel
theorem dX4_holdersMask_53 : decode cX4_holdersMask 53 = .ok (.ireturn, 1) := by decide +kernel
theorem dX4_startsPiece_0 : decode cX4_startsPiece 0 = .ok (.aload_n 0, 1) := by decide +kernel
theorem dX4_startsPiece_1 : decode cX4_startsPiece 1 = .ok (.getfield 14, 3) := by decide +kernel
theorem dX4_startsPiece_4 : decode cX4_startsPiece 4 = .ok (.iload_n 1, 1) := by decide +kernel
theorem dX4_startsPiece_5 : decode cX4_startsPiece 5 = .ok (.iload_n 2, 1) := by decide +kernel
theorem dX4_startsPiece_6 : decode cX4_startsPiece 6 = .ok (.invokevirtual 32, 3) := by decide +kernel
theorem dX4_startsPiece_9 : decode cX4_startsPiece 9 = .ok (.istore_n 3, 1) := by decide +kernel
theorem dX4_startsPiece_10 : decode cX4_startsPiece 10 = .ok (.iload_n 3, 1) := by decide +kernel
theorem dX4_startsPiece_11 : decode cX4_startsPiece 11 = .ok (.iconst (-1), 1) := by decide +kernel
theorem dX4_startsPiece_12 : decode cX4_startsPiece 12 = .ok (.if_icmp .eq 22, 3) := by decide +kernel
theorem dX4_startsPiece_15 : decode cX4_startsPiece 15 = .ok (.iload_n 3, 1) := by decide +kernel
theorem dX4_startsPiece_16 : decode cX4_startsPiece 16 = .ok (.aload_n 0, 1) := by decide +kernel
theorem dX4_startsPiece_17 : decode cX4_startsPiece 17 = .ok (.getfield 14, 3) := by decide +kernel
theorem dX4_startsPiece_20 : decode cX4_startsPiece 20 = .ok (.iload_n 1, 1) := by decide +kernel
theorem dX4_startsPiece_21 : decode cX4_startsPiece 21 = .ok (.iload_n 2, 1) := by decide +kernel
theorem dX4_startsPiece_22 : decode cX4_startsPiece 22 = .ok (.iconst 1, 1) := by decide +kernel
theorem dX4_startsPiece_23 : decode cX4_startsPiece 23 = .ok (.isub, 1) := by decide +kernel
theorem dX4_startsPiece_24 : decode cX4_startsPiece 24 = .ok (.invokevirtual 32, 3) := by decide +kernel
theorem dX4_startsPiece_27 : decode cX4_startsPiece 27 = .ok (.if_icmp .eq 7, 3) := by decide +kernel
theorem dX4_startsPiece_30 : decode cX4_startsPiece 30 = .ok (.iconst 1, 1) := by decide +kernel
theorem dX4_startsPiece_31 : decode cX4_startsPiece 31 = .ok (.goto 4, 3) := by decide +kernel
theorem dX4_startsPiece_34 : decode cX4_startsPiece 34 = .ok (.iconst 0, 1) := by decide +kernel
theorem dX4_startsPiece_35 : decode cX4_startsPiece 35 = .ok (.ireturn, 1) := by decide +kernel
theorem dX4_pieceEnd_0 : decode cX4_pieceEnd 0 = .ok (.iload_n 2, 1) := by decide +kernel
theorem dX4_pieceEnd_1 : decode cX4_pieceEnd 1 = .ok (.iconst 1, 1) := by decide +kernel
theorem dX4_pieceEnd_2 : decode cX4_pieceEnd 2 = .ok (.iadd, 1) := by decide +kernel
theorem dX4_pieceEnd_3 : decode cX4_pieceEnd 3 = .ok (.istore_n 3, 1) := by decide +kernel
theorem dX4_pieceEnd_4 : decode cX4_pieceEnd 4 = .ok (.iload_n 3, 1) := by decide +kernel
theorem dX4_pieceEnd_5 : decode cX4_pieceEnd 5 = .ok (.bipush 12, 2) := by decide +kernel
theorem dX4_pieceEnd_7 : decode cX4_pieceEnd 7 = .ok (.if_icmp .ge 30, 3) := by decide +kernel
theorem dX4_pieceEnd_10 : decode cX4_pieceEnd 10 = .ok (.aload_n 0, 1) := by decide +kernel
theorem dX4_pieceEnd_11 : decode cX4_pieceEnd 11 = .ok (.getfield 14, 3) := by decide +kernel
theorem dX4_pieceEnd_14 : decode cX4_pieceEnd 14 = .ok (.iload_n 1, 1) := by decide +kernel
theorem dX4_pieceEnd_15 : decode cX4_pieceEnd 15 = .ok (.iload_n 3, 1) := by decide +kernel
theorem dX4_pieceEnd_16 : decode cX4_pieceEnd 16 = .ok (.invokevirtual 32, 3) := by decide +kernel
theorem dX4_pieceEnd_19 : decode cX4_pieceEnd 19 = .ok (.aload_n 0, 1) := by decide +kernel
theorem dX4_pieceEnd_20 : decode cX4_pieceEnd 20 = .ok (.getfield 14, 3) := by decide +kernel
theorem dX4_pieceEnd_23 : decode cX4_pieceEnd 23 = .ok (.iload_n 1, 1) := by decide +kernel
theorem dX4_pieceEnd_24 : decode cX4_pieceEnd 24 = .ok (.iload_n 2, 1) := by decide +kernel
theorem dX4_pieceEnd_25 : decode cX4_pieceEnd 25 = .ok (.invokevirtual 32, 3) := by decide +kernel
theorem dX4_pieceEnd_28 : decode cX4_pieceEnd 28 = .ok (.if_icmp .ne 9, 3) := by decide +kernel
theorem dX4_pieceEnd_31 : decode cX4_pieceEnd 31 = .ok (.iinc 3 1, 3) := by decide +kernel
theorem dX4_pieceEnd_34 : decode cX4_pieceEnd 34 = .ok (.goto (-30), 3) := by decide +kernel
theorem dX4_pieceEnd_37 : decode cX4_pieceEnd 37 = .ok (.iload_n 3, 1) := by decide +kernel
theorem dX4_pieceEnd_38 : decode cX4_pieceEnd 38 = .ok (.ireturn, 1) := by decide +kernel
theorem dX4_freePieceFrom_0 : decode cX4_freePieceFrom 0 = .ok (.aload_n 0, 1) := by decide +kernel
theorem dX4_freePieceFrom_1 : decode cX4_freePieceFrom 1 = .ok (.iload_n 1, 1) := by decide +kernel
theorem dX4_freePieceFrom_2 : decode cX4_freePieceFrom 2 = .ok (.iload_n 2, 1) := by decide +kernel
theorem dX4_freePieceFrom_3 : decode cX4_freePieceFrom 3 = .ok (.invokevirtual 56, 3) := by decide +kernel
theorem dX4_freePieceFrom_6 : decode cX4_freePieceFrom 6 = .ok (.iload_n 2, 1) := by decide +kernel
theorem dX4_freePieceFrom_7 : decode cX4_freePieceFrom 7 = .ok (.isub, 1) := by decide +kernel
theorem dX4_freePieceFrom_8 : decode cX4_freePieceFrom 8 = .ok (.istore_n 3, 1) := by decide +kernel
theorem dX4_freePieceFrom_9 : decode cX4_freePieceFrom 9 = .ok (.aload_n 0, 1) := by decide +kernel
theorem dX4_freePieceFrom_10 : decode cX4_freePieceFrom 10 = .ok (.iconst (-1), 1) := by decide +kernel
theorem dX4_freePieceFrom_11 : decode cX4_freePieceFrom 11 = .ok (.iload_n 1, 1) := by decide +kernel
theorem dX4_freePieceFrom_12 : decode cX4_freePieceFrom 12 = .ok (.iload_n 2, 1) := by decide +kernel
theorem dX4_freePieceFrom_13 : decode cX4_freePieceFrom 13 = .ok (.iload_n 3, 1) := by decide +kernel
theorem dX4_freePieceFrom_14 : decode cX4_freePieceFrom 14 = .ok (.invokevirtual 59, 3) := by decide +kernel
theorem dX4_freePieceFrom_17 : decode cX4_freePieceFrom 17 = .ok (.iload_n 3, 1) := by decide +kernel
theorem dX4_freePieceFrom_18 : decode cX4_freePieceFrom 18 = .ok (.ireturn, 1) := by decide +kernel
theorem dX4_freePiecesIn_0 : decode cX4_freePiecesIn 0 = .ok (.iload_n 2, 1) := by decide +kernel
theorem dX4_freePiecesIn_1 : decode cX4_freePiecesIn 1 = .ok (.istore 4, 2) := by decide +kernel
theorem dX4_freePiecesIn_3 : decode cX4_freePiecesIn 3 = .ok (.iload 4, 2) := by decide +kernel
theorem dX4_freePiecesIn_5 : decode cX4_freePiecesIn 5 = .ok (.aload_n 0, 1) := by decide +kernel
theorem dX4_freePiecesIn_6 : decode cX4_freePiecesIn 6 = .ok (.getfield 28, 3) := by decide +kernel
theorem dX4_freePiecesIn_9 : decode cX4_freePiecesIn 9 = .ok (.if_icmp .le 33, 3) := by decide +kernel
theorem dX4_freePiecesIn_12 : decode cX4_freePiecesIn 12 = .ok (.aload_n 0, 1) := by decide +kernel
theorem dX4_freePiecesIn_13 : decode cX4_freePiecesIn 13 = .ok (.getfield 14, 3) := by decide +kernel
theorem dX4_freePiecesIn_16 : decode cX4_freePiecesIn 16 = .ok (.iload_n 1, 1) := by decide +kernel
theorem dX4_freePiecesIn_17 : decode cX4_freePiecesIn 17 = .ok (.iload 4, 2) := by decide +kernel
theorem dX4_freePiecesIn_19 : decode cX4_freePiecesIn 19 = .ok (.iconst 1, 1) := by decide +kernel
theorem dX4_freePiecesIn_20 : decode cX4_freePiecesIn 20 = .ok (.isub, 1) := by decide +kernel
theorem dX4_freePiecesIn_21 : decode cX4_freePiecesIn 21 = .ok (.invokevirtual 32, 3) := by decide +kernel
theorem dX4_freePiecesIn_24 : decode cX4_freePiecesIn 24 = .ok (.aload_n 0, 1) := by decide +kernel
theorem dX4_freePiecesIn_25 : decode cX4_freePiecesIn 25 = .ok (.getfield 14, 3) := by decide +kernel
theorem dX4_freePiecesIn_28 : decode cX4_freePiecesIn 28 = .ok (.iload_n 1, 1) := by decide +kernel
theorem dX4_freePiecesIn_29 : decode cX4_freePiecesIn 29 = .ok (.iload_n 2, 1) := by decide +kernel
theorem dX4_freePiecesIn_30 : decode cX4_freePiecesIn 30 = .ok (.invokevirtual 32, 3) := by decide +kernel
theorem dX4_freePiecesIn_33 : decode cX4_freePiecesIn 33 = .ok (.if_icmp .ne 9, 3) := by decide +kernel
theorem dX4_freePiecesIn_36 : decode cX4_freePiecesIn 36 = .ok (.iinc 4 (-1), 3) := by decide +kernel
theorem dX4_freePiecesIn_39 : decode cX4_freePiecesIn 39 = .ok (.goto (-36), 3) := by decide +kernel
theorem dX4_freePiecesIn_42 : decode cX4_freePiecesIn 42 = .ok (.aload_n 0, 1) := by decide +kernel
theorem dX4_freePiecesIn_43 : decode cX4_freePiecesIn 43 = .ok (.iload_n 1, 1) := by decide +kernel
theorem dX4_freePiecesIn_44 : decode cX4_freePiecesIn 44 = .ok (.iload_n 2, 1) := by decide +kernel
theorem dX4_freePiecesIn_45 : decode cX4_freePiecesIn 45 = .ok (.iload_n 3, 1) := by decide +kernel
theorem dX4_freePiecesIn_46 : decode cX4_freePiecesIn 46 = .ok (.iadd, 1) := by decide +kernel
theorem dX4_freePiecesIn_47 : decode cX4_freePiecesIn 47 = .ok (.iconst 1, 1) := by decide +kernel
theorem dX4_freePiecesIn_48 : decode cX4_freePiecesIn 48 = .ok (.isub, 1) := by decide +kernel
theorem dX4_freePiecesIn_49 : decode cX4_freePiecesIn 49 = .ok (.invokevirtual 56, 3) := by decide +kernel
theorem dX4_freePiecesIn_52 : decode cX4_freePiecesIn 52 = .ok (.istore 5, 2) := by decide +kernel
theorem dX4_freePiecesIn_54 : decode cX4_freePiecesIn 54 = .ok (.aload_n 0, 1) := by decide +kernel
theorem dX4_freePiecesIn_55 : decode cX4_freePiecesIn 55 = .ok (.iload_n 1, 1) := by decide +kernel
theorem dX4_freePiecesIn_56 : decode cX4_freePiecesIn 56 = .ok (.iload 4, 2) := by decide +kernel
theorem dX4_freePiecesIn_58 : decode cX4_freePiecesIn 58 = .ok (.iload 5, 2) := by decide +kernel
theorem dX4_freePiecesIn_60 : decode cX4_freePiecesIn 60 = .ok (.iload 4, 2) := by decide +kernel
theorem dX4_freePiecesIn_62 : decode cX4_freePiecesIn 62 = .ok (.isub, 1) := by decide +kernel
theorem dX4_freePiecesIn_63 : decode cX4_freePiecesIn 63 = .ok (.invokevirtual 52, 3) := by decide +kernel
theorem dX4_freePiecesIn_66 : decode cX4_freePiecesIn 66 = .ok (.istore 6, 2) := by decide +kernel
theorem dX4_freePiecesIn_68 : decode cX4_freePiecesIn 68 = .ok (.aload_n 0, 1) := by decide +kernel
theorem dX4_freePiecesIn_69 : decode cX4_freePiecesIn 69 = .ok (.iconst (-1), 1) := by decide +kernel
theorem dX4_freePiecesIn_70 : decode cX4_freePiecesIn 70 = .ok (.iload_n 1, 1) := by decide +kernel
theorem dX4_freePiecesIn_71 : decode cX4_freePiecesIn 71 = .ok (.iload 4, 2) := by decide +kernel
theorem dX4_freePiecesIn_73 : decode cX4_freePiecesIn 73 = .ok (.iload 5, 2) := by decide +kernel
theorem dX4_freePiecesIn_75 : decode cX4_freePiecesIn 75 = .ok (.iload 4, 2) := by decide +kernel
theorem dX4_freePiecesIn_77 : decode cX4_freePiecesIn 77 = .ok (.isub, 1) := by decide +kernel
theorem dX4_freePiecesIn_78 : decode cX4_freePiecesIn 78 = .ok (.invokevirtual 59, 3) := by decide +kernel
theorem dX4_freePiecesIn_81 : decode cX4_freePiecesIn 81 = .ok (.iload 6, 2) := by decide +kernel
theorem dX4_freePiecesIn_83 : decode cX4_freePiecesIn 83 = .ok (.ireturn, 1) := by decide +kernel
theorem dX4_longestFor_0 : decode cX4_longestFor 0 = .ok (.iconst 0, 1) := by decide +kernel
theorem dX4_longestFor_1 : decode cX4_longestFor 1 = .ok (.istore_n 3, 1) := by decide +kernel
theorem dX4_longestFor_2 : decode cX4_longestFor 2 = .ok (.iload_n 3, 1) := by decide +kernel
theorem dX4_longestFor_3 : decode cX4_longestFor 3 = .ok (.bipush 9, 2) := by decide +kernel
theorem dX4_longestFor_5 : decode cX4_longestFor 5 = .ok (.if_icmp .ge 21, 3) := by decide +kernel
theorem dX4_longestFor_8 : decode cX4_longestFor 8 = .ok (.aload_n 0, 1) := by decide +kernel
theorem dX4_longestFor_9 : decode cX4_longestFor 9 = .ok (.iload_n 1, 1) := by decide +kernel
theorem dX4_longestFor_10 : decode cX4_longestFor 10 = .ok (.iload_n 2, 1) := by decide +kernel
theorem dX4_longestFor_11 : decode cX4_longestFor 11 = .ok (.iload_n 3, 1) := by decide +kernel
theorem dX4_longestFor_12 : decode cX4_longestFor 12 = .ok (.iconst 1, 1) := by decide +kernel
theorem dX4_longestFor_13 : decode cX4_longestFor 13 = .ok (.iadd, 1) := by decide +kernel
theorem dX4_longestFor_14 : decode cX4_longestFor 14 = .ok (.invokevirtual 63, 3) := by decide +kernel
theorem dX4_longestFor_17 : decode cX4_longestFor 17 = .ok (.ifCond .eq 9, 3) := by decide +kernel
theorem dX4_longestFor_20 : decode cX4_longestFor 20 = .ok (.iinc 3 1, 3) := by decide +kernel
theorem dX4_longestFor_23 : decode cX4_longestFor 23 = .ok (.goto (-21), 3) := by decide +kernel
theorem dX4_longestFor_26 : decode cX4_longestFor 26 = .ok (.iload_n 3, 1) := by decide +kernel
theorem dX4_longestFor_27 : decode cX4_longestFor 27 = .ok (.ireturn, 1) := by decide +kernel
theorem dX4_isOpenTo_0 : decode cX4_isOpenTo 0 = .ok (.iload_n 2, 1) := by decide +kernel
theorem dX4_isOpenTo_1 : decode cX4_isOpenTo 1 = .ok (.iload_n 3, 1) := by decide +kernel
theorem dX4_isOpenTo_2 : decode cX4_isOpenTo 2 = .ok (.invokestatic 67, 3) := by decide +kernel
theorem dX4_isOpenTo_5 : decode cX4_isOpenTo 5 = .ok (.ifCond .eq 11, 3) := by decide +kernel
theorem dX4_isOpenTo_8 : decode cX4_isOpenTo 8 = .ok (.aload_n 0, 1) := by decide +kernel
theorem dX4_isOpenTo_9 : decode cX4_isOpenTo 9 = .ok (.iload_n 2, 1) := by decide +kernel
theorem dX4_isOpenTo_10 : decode cX4_isOpenTo 10 = .ok (.invokevirtual 71, 3) := by decide +kernel
theorem dX4_isOpenTo_13 : decode cX4_isOpenTo 13 = .ok (.ifCond .eq 5, 3) := by decide +kernel
theorem dX4_isOpenTo_16 : decode cX4_isOpenTo 16 = .ok (.iconst 0, 1) := by decide +kernel
theorem dX4_isOpenTo_17 : decode cX4_isOpenTo 17 = .ok (.ireturn, 1) := by decide +kernel
theorem dX4_isOpenTo_18 : decode cX4_isOpenTo 18 = .ok (.aload_n 0, 1) := by decide +kernel
theorem dX4_isOpenTo_19 : decode cX4_isOpenTo 19 = .ok (.iload_n 1, 1) := by decide +kernel
theorem dX4_isOpenTo_20 : decode cX4_isOpenTo 20 = .ok (.iload_n 2, 1) := by decide +kernel
theorem dX4_isOpenTo_21 : decode cX4_isOpenTo 21 = .ok (.iload_n 3, 1) := by decide +kernel
theorem dX4_isOpenTo_22 : decode cX4_isOpenTo 22 = .ok (.invokevirtual 75, 3) := by decide +kernel
theorem dX4_isOpenTo_25 : decode cX4_isOpenTo 25 = .ok (.ifCond .ne 22, 3) := by decide +kernel
theorem dX4_isOpenTo_28 : decode cX4_isOpenTo 28 = .ok (.aload_n 0, 1) := by decide +kernel
theorem dX4_isOpenTo_29 : decode cX4_isOpenTo 29 = .ok (.aload_n 0, 1) := by decide +kernel
theorem dX4_isOpenTo_30 : decode cX4_isOpenTo 30 = .ok (.iload_n 2, 1) := by decide +kernel
theorem dX4_isOpenTo_31 : decode cX4_isOpenTo 31 = .ok (.iload_n 3, 1) := by decide +kernel
theorem dX4_isOpenTo_32 : decode cX4_isOpenTo 32 = .ok (.invokevirtual 78, 3) := by decide +kernel
theorem dX4_isOpenTo_35 : decode cX4_isOpenTo 35 = .ok (.iload_n 2, 1) := by decide +kernel
theorem dX4_isOpenTo_36 : decode cX4_isOpenTo 36 = .ok (.iload_n 3, 1) := by decide +kernel
theorem dX4_isOpenTo_37 : decode cX4_isOpenTo 37 = .ok (.invokevirtual 52, 3) := by decide +kernel
theorem dX4_isOpenTo_40 : decode cX4_isOpenTo 40 = .ok (.ifCond .ne 7, 3) := by decide +kernel
theorem dX4_isOpenTo_43 : decode cX4_isOpenTo 43 = .ok (.iconst 1, 1) := by decide +kernel
theorem dX4_isOpenTo_44 : decode cX4_isOpenTo 44 = .ok (.goto 4, 3) := by decide +kernel
theorem dX4_isOpenTo_47 : decode cX4_isOpenTo 47 = .ok (.iconst 0, 1) := by decide +kernel
theorem dX4_isOpenTo_48 : decode cX4_isOpenTo 48 = .ok (.ireturn, 1) := by decide +kernel
theorem dX5_init_0 : decode cX5_init 0 = .ok (.aload_n 0, 1) := by decide +kernel
theorem dX5_init_1 : decode cX5_init 1 = .ok (.invokespecial 1, 3) := by decide +kernel
theorem dX5_init_4 : decode cX5_init 4 = .ok (.aload_n 0, 1) := by decide +kernel
theorem dX5_init_5 : decode cX5_init 5 = .ok (.iconst 0, 1) := by decide +kernel
theorem dX5_init_6 : decode cX5_init 6 = .ok (.iload_n 1, 1) := by decide +kernel
theorem dX5_init_7 : decode cX5_init 7 = .ok (.invokestatic 7, 3) := by decide +kernel
theorem dX5_init_10 : decode cX5_init 10 = .ok (.anewarray 13, 3) := by decide +kernel
theorem dX5_init_13 : decode cX5_init 13 = .ok (.putfield 15, 3) := by decide +kernel
theorem dX5_init_16 : decode cX5_init 16 = .ok (.aload_n 0, 1) := by decide +kernel
theorem dX5_init_17 : decode cX5_init 17 = .ok (.aload_n 0, 1) := by decide +kernel
theorem dX5_init_18 : decode cX5_init 18 = .ok (.getfield 15, 3) := by decide +kernel
theorem dX5_init_21 : decode cX5_init 21 = .ok (.arraylength, 1) := by decide +kernel
theorem dX5_init_22 : decode cX5_init 22 = .ok (.newarray .boolean, 2) := by decide +kernel
theorem dX5_init_24 : decode cX5_init 24 = .ok (.putfield 21, 3) := by decide +kernel
theorem dX5_init_27 : decode cX5_init 27 = .ok (.iconst 0, 1) := by decide +kernel
theorem dX5_init_28 : decode cX5_init 28 = .ok (.istore_n 2, 1) := by decide +kernel
theorem dX5_init_29 : decode cX5_init 29 = .ok (.iload_n 2, 1) := by decide +kernel
theorem dX5_init_30 : decode cX5_init 30 = .ok (.aload_n 0, 1) := by decide +kernel
theorem dX5_init_31 : decode cX5_init 31 = .ok (.getfield 15, 3) := by decide +kernel
theorem dX5_init_34 : decode cX5_init 34 = .ok (.arraylength, 1) := by decide +kernel
theorem dX5_init_35 : decode cX5_init 35 = .ok (.if_icmp .ge 22, 3) := by decide +kernel
theorem dX5_init_38 : decode cX5_init 38 = .ok (.aload_n 0, 1) := by decide +kernel
theorem dX5_init_39 : decode cX5_init 39 = .ok (.getfield 15, 3) := by decide +kernel
theorem dX5_init_42 : decode cX5_init 42 = .ok (.iload_n 2, 1) := by decide +kernel
theorem dX5_init_43 : decode cX5_init 43 = .ok (.new 13, 3) := by decide +kernel
theorem dX5_init_46 : decode cX5_init 46 = .ok (.dup, 1) := by decide +kernel
theorem dX5_init_47 : decode cX5_init 47 = .ok (.invokespecial 25, 3) := by decide +kernel
theorem dX5_init_50 : decode cX5_init 50 = .ok (.aastore, 1) := by decide +kernel
theorem dX5_init_51 : decode cX5_init 51 = .ok (.iinc 2 1, 3) := by decide +kernel
theorem dX5_init_54 : decode cX5_init 54 = .ok (.goto (-25), 3) := by decide +kernel
theorem dX5_init_57 : decode cX5_init 57 = .ok (.return_, 1) := by decide +kernel
theorem dX5_houseIn_0 : decode cX5_houseIn 0 = .ok (.iload_n 1, 1) := by decide +kernel
theorem dX5_houseIn_1 : decode cX5_houseIn 1 = .ok (.ifCond .lt 21, 3) := by decide +kernel
theorem dX5_houseIn_4 : decode cX5_houseIn 4 = .ok (.iload_n 1, 1) := by decide +kernel
theorem dX5_houseIn_5 : decode cX5_houseIn 5 = .ok (.aload_n 0, 1) := by decide +kernel
theorem dX5_houseIn_6 : decode cX5_houseIn 6 = .ok (.getfield 15, 3) := by decide +kernel
theorem dX5_houseIn_9 : decode cX5_houseIn 9 = .ok (.arraylength, 1) := by decide +kernel
theorem dX5_houseIn_10 : decode cX5_houseIn 10 = .ok (.if_icmp .ge 12, 3) := by decide +kernel
theorem dX5_houseIn_13 : decode cX5_houseIn 13 = .ok (.aload_n 0, 1) := by decide +kernel
theorem dX5_houseIn_14 : decode cX5_houseIn 14 = .ok (.getfield 15, 3) := by decide +kernel
theorem dX5_houseIn_17 : decode cX5_houseIn 17 = .ok (.iload_n 1, 1) := by decide +kernel
theorem dX5_houseIn_18 : decode cX5_houseIn 18 = .ok (.aaload, 1) := by decide +kernel
theorem dX5_houseIn_19 : decode cX5_houseIn 19 = .ok (.goto 4, 3) := by decide +kernel
theorem dX5_houseIn_22 : decode cX5_houseIn 22 = .ok (.aconst_null, 1) := by decide +kernel
theorem dX5_houseIn_23 : decode cX5_houseIn 23 = .ok (.areturn, 1) := by decide +kernel
theorem dX5_isFilled_0 : decode cX5_isFilled 0 = .ok (.iload_n 1, 1) := by decide +kernel
theorem dX5_isFilled_1 : decode cX5_isFilled 1 = .ok (.ifCond .lt 25, 3) := by decide +kernel
theorem dX5_isFilled_4 : decode cX5_isFilled 4 = .ok (.iload_n 1, 1) := by decide +kernel
theorem dX5_isFilled_5 : decode cX5_isFilled 5 = .ok (.aload_n 0, 1) := by decide +kernel
theorem dX5_isFilled_6 : decode cX5_isFilled 6 = .ok (.getfield 21, 3) := by decide +kernel
theorem dX5_isFilled_9 : decode cX5_isFilled 9 = .ok (.arraylength, 1) := by decide +kernel
theorem dX5_isFilled_10 : decode cX5_isFilled 10 = .ok (.if_icmp .ge 16, 3) := by decide +kernel
theorem dX5_isFilled_13 : decode cX5_isFilled 13 = .ok (.aload_n 0, 1) := by decide +kernel
theorem dX5_isFilled_14 : decode cX5_isFilled 14 = .ok (.getfield 21, 3) := by decide +kernel
theorem dX5_isFilled_17 : decode cX5_isFilled 17 = .ok (.iload_n 1, 1) := by decide +kernel
theorem dX5_isFilled_18 : decode cX5_isFilled 18 = .ok (.baload, 1) := by decide +kernel
theorem dX5_isFilled_19 : decode cX5_isFilled 19 = .ok (.ifCond .eq 7, 3) := by decide +kernel
theorem dX5_isFilled_22 : decode cX5_isFilled 22 = .ok (.iconst 1, 1) := by decide +kernel
theorem dX5_isFilled_23 : decode cX5_isFilled 23 = .ok (.goto 4, 3) := by decide +kernel
theorem dX5_isFilled_26 : decode cX5_isFilled 26 = .ok (.iconst 0, 1) := by decide +kernel
theorem dX5_isFilled_27 : decode cX5_isFilled 27 = .ok (.ireturn, 1) := by decide +kernel
theorem dX5_store_0 : decode cX5_store 0 = .ok (.aload_n 0, 1) := by decide +kernel
theorem dX5_store_1 : decode cX5_store 1 = .ok (.iload_n 1, 1) := by decide +kernel
theorem dX5_store_2 : decode cX5_store 2 = .ok (.invokevirtual 26, 3) := by decide +kernel
theorem dX5_store_5 : decode cX5_store 5 = .ok (.astore_n 3, 1) := by decide +kernel
theorem dX5_store_6 : decode cX5_store 6 = .ok (.aload_n 3, 1) := by decide +kernel
theorem dX5_store_7 : decode cX5_store 7 = .ok (.ifnull 28, 3) := by decide +kernel
theorem dX5_store_10 : decode cX5_store 10 = .ok (.iload_n 1, 1) := by decide +kernel
theorem dX5_store_11 : decode cX5_store 11 = .ok (.ifCond .lt 24, 3) := by decide +kernel
theorem dX5_store_14 : decode cX5_store 14 = .ok (.iload_n 1, 1) := by decide +kernel
theorem dX5_store_15 : decode cX5_store 15 = .ok (.aload_n 0, 1) := by decide +kernel
theorem dX5_store_16 : decode cX5_store 16 = .ok (.getfield 21, 3) := by decide +kernel
theorem dX5_store_19 : decode cX5_store 19 = .ok (.arraylength, 1) := by decide +kernel
theorem dX5_store_20 : decode cX5_store 20 = .ok (.if_icmp .ge 15, 3) := by decide +kernel
theorem dX5_store_23 : decode cX5_store 23 = .ok (.aload_n 3, 1) := by decide +kernel
theorem dX5_store_24 : decode cX5_store 24 = .ok (.aload_n 2, 1) := by decide +kernel
theorem dX5_store_25 : decode cX5_store 25 = .ok (.invokevirtual 30, 3) := by decide +kernel
theorem dX5_store_28 : decode cX5_store 28 = .ok (.aload_n 0, 1) := by decide +kernel
theorem dX5_store_29 : decode cX5_store 29 = .ok (.getfield 21, 3) := by decide +kernel
theorem dX5_store_32 : decode cX5_store 32 = .ok (.iload_n 1, 1) := by decide +kernel
theorem dX5_store_33 : decode cX5_store 33 = .ok (.iconst 1, 1) := by decide +kernel
theorem dX5_store_34 : decode cX5_store 34 = .ok (.bastore, 1) := by decide +kernel
theorem dX5_store_35 : decode cX5_store 35 = .ok (.return_, 1) := by decide +kernel
theorem dX5_restore_0 : decode cX5_restore 0 = .ok (.aload_n 0, 1) := by decide +kernel
theorem dX5_restore_1 : decode cX5_restore 1 = .ok (.iload_n 1, 1) := by decide +kernel
theorem dX5_restore_2 : decode cX5_restore 2 = .ok (.invokevirtual 26, 3) := by decide +kernel
theorem dX5_restore_5 : decode cX5_restore 5 = .ok (.astore_n 3, 1) := by decide +kernel
theorem dX5_restore_6 : decode cX5_restore 6 = .ok (.aload_n 3, 1) := by decide +kernel
theorem dX5_restore_7 : decode cX5_restore 7 = .ok (.ifnull 8, 3) := by decide +kernel
theorem dX5_restore_10 : decode cX5_restore 10 = .ok (.aload_n 2, 1) := by decide +kernel
theorem dX5_restore_11 : decode cX5_restore 11 = .ok (.aload_n 3, 1) := by decide +kernel
theorem dX5_restore_12 : decode cX5_restore 12 = .ok (.invokevirtual 30, 3) := by decide +kernel
theorem dX5_restore_15 : decode cX5_restore 15 = .ok (.return_, 1) := by decide +kernel
theorem dX6_init_0 : decode cX6_init 0 = .ok (.aload_n 0, 1) := by decide +kernel
theorem dX6_init_1 : decode cX6_init 1 = .ok (.invokespecial 1, 3) := by decide +kernel
theorem dX6_init_4 : decode cX6_init 4 = .ok (.aload_n 0, 1) := by decide +kernel
theorem dX6_init_5 : decode cX6_init 5 = .ok (.new 7, 3) := by decide +kernel
theorem dX6_init_8 : decode cX6_init 8 = .ok (.dup, 1) := by decide +kernel
theorem dX6_init_9 : decode cX6_init 9 = .ok (.invokespecial 9, 3) := by decide +kernel
theorem dX6_init_12 : decode cX6_init 12 = .ok (.putfield 10, 3) := by decide +kernel
theorem dX6_init_15 : decode cX6_init 15 = .ok (.aload_n 0, 1) := by decide +kernel
theorem dX6_init_16 : decode cX6_init 16 = .ok (.new 16, 3) := by decide +kernel
theorem dX6_init_19 : decode cX6_init 19 = .ok (.dup, 1) := by decide +kernel
theorem dX6_init_20 : decode cX6_init 20 = .ok (.iconst 2, 1) := by decide +kernel
theorem dX6_init_21 : decode cX6_init 21 = .ok (.invokespecial 18, 3) := by decide +kernel
theorem dX6_init_24 : decode cX6_init 24 = .ok (.putfield 21, 3) := by decide +kernel
theorem dX6_init_27 : decode cX6_init 27 = .ok (.aload_n 0, 1) := by decide +kernel
theorem dX6_init_28 : decode cX6_init 28 = .ok (.new 16, 3) := by decide +kernel
theorem dX6_init_31 : decode cX6_init 31 = .ok (.dup, 1) := by decide +kernel
theorem dX6_init_32 : decode cX6_init 32 = .ok (.bipush 6, 2) := by decide +kernel
theorem dX6_init_34 : decode cX6_init 34 = .ok (.invokespecial 18, 3) := by decide +kernel
theorem dX6_init_37 : decode cX6_init 37 = .ok (.putfield 25, 3) := by decide +kernel
theorem dX6_init_40 : decode cX6_init 40 = .ok (.aload_n 0, 1) := by decide +kernel
theorem dX6_init_41 : decode cX6_init 41 = .ok (.new 28, 3) := by decide +kernel
theorem dX6_init_44 : decode cX6_init 44 = .ok (.dup, 1) := by decide +kernel
theorem dX6_init_45 : decode cX6_init 45 = .ok (.invokespecial 30, 3) := by decide +kernel
theorem dX6_init_48 : decode cX6_init 48 = .ok (.putfield 31, 3) := by decide +kernel
theorem dX6_init_51 : decode cX6_init 51 = .ok (.aload_n 0, 1) := by decide +kernel
theorem dX6_init_52 : decode cX6_init 52 = .ok (.new 35, 3) := by decide +kernel
theorem dX6_init_55 : decode cX6_init 55 = .ok (.dup, 1) := by decide +kernel
theorem dX6_init_56 : decode cX6_init 56 = .ok (.invokespecial 37, 3) := by decide +kernel
theorem dX6_init_59 : decode cX6_init 59 = .ok (.putfield 38, 3) := by decide +kernel
theorem dX6_init_62 : decode cX6_init 62 = .ok (.return_, 1) := by decide +kernel
theorem dX6_ask_0 : decode cX6_ask 0 = .ok (.iload_n 1, 1) := by decide +kernel
theorem dX6_ask_1 : decode cX6_ask 1 = .ok (.iload_n 2, 1) := by decide +kernel
theorem dX6_ask_2 : decode cX6_ask 2 = .ok (.iload_n 3, 1) := by decide +kernel
theorem dX6_ask_3 : decode cX6_ask 3 = .ok (.invokestatic 42, 3) := by decide +kernel
theorem dX6_ask_6 : decode cX6_ask 6 = .ok (.aload_n 0, 1) := by decide +kernel
theorem dX6_ask_7 : decode cX6_ask 7 = .ok (.invokevirtual 46, 3) := by decide +kernel
theorem dX6_ask_10 : decode cX6_ask 10 = .ok (.aload_n 0, 1) := by decide +kernel
theorem dX6_ask_11 : decode cX6_ask 11 = .ok (.getfield 10, 3) := by decide +kernel
theorem dX6_ask_14 : decode cX6_ask 14 = .ok (.iload_n 1, 1) := by decide +kernel
theorem dX6_ask_15 : decode cX6_ask 15 = .ok (.iload_n 2, 1) := by decide +kernel
theorem dX6_ask_16 : decode cX6_ask 16 = .ok (.iload_n 3, 1) := by decide +kernel
theorem dX6_ask_17 : decode cX6_ask 17 = .ok (.invokevirtual 49, 3) := by decide +kernel
theorem dX6_ask_20 : decode cX6_ask 20 = .ok (.ireturn, 1) := by decide +kernel
theorem dX6_giveBack_0 : decode cX6_giveBack 0 = .ok (.iload_n 1, 1) := by decide +kernel
theorem dX6_giveBack_1 : decode cX6_giveBack 1 = .ok (.invokestatic 53, 3) := by decide +kernel
theorem dX6_giveBack_4 : decode cX6_giveBack 4 = .ok (.iload_n 2, 1) := by decide +kernel
theorem dX6_giveBack_5 : decode cX6_giveBack 5 = .ok (.invokestatic 56, 3) := by decide +kernel
theorem dX6_giveBack_8 : decode cX6_giveBack 8 = .ok (.aload_n 0, 1) := by decide +kernel
theorem dX6_giveBack_9 : decode cX6_giveBack 9 = .ok (.invokevirtual 46, 3) := by decide +kernel
theorem dX6_giveBack_12 : decode cX6_giveBack 12 = .ok (.aload_n 0, 1) := by decide +kernel
theorem dX6_giveBack_13 : decode cX6_giveBack 13 = .ok (.getfield 10, 3) := by decide +kernel
theorem dX6_giveBack_16 : decode cX6_giveBack 16 = .ok (.iload_n 1, 1) := by decide +kernel
theorem dX6_giveBack_17 : decode cX6_giveBack 17 = .ok (.iload_n 2, 1) := by decide +kernel
theorem dX6_giveBack_18 : decode cX6_giveBack 18 = .ok (.invokevirtual 59, 3) := by decide +kernel
theorem dX6_giveBack_21 : decode cX6_giveBack 21 = .ok (.ireturn, 1) := by decide +kernel
theorem dX6_favour_0 : decode cX6_favour 0 = .ok (.iload_n 1, 1) := by decide +kernel
theorem dX6_favour_1 : decode cX6_favour 1 = .ok (.invokestatic 53, 3) := by decide +kernel
theorem dX6_favour_4 : decode cX6_favour 4 = .ok (.aload_n 0, 1) := by decide +kernel
theorem dX6_favour_5 : decode cX6_favour 5 = .ok (.invokevirtual 46, 3) := by decide +kernel
theorem dX6_favour_8 : decode cX6_favour 8 = .ok (.aload_n 0, 1) := by decide +kernel
theorem dX6_favour_9 : decode cX6_favour 9 = .ok (.getfield 10, 3) := by decide +kernel
theorem dX6_favour_12 : decode cX6_favour 12 = .ok (.iload_n 1, 1) := by decide +kernel
theorem dX6_favour_13 : decode cX6_favour 13 = .ok (.invokevirtual 63, 3) := by decide +kernel
theorem dX6_favour_16 : decode cX6_favour 16 = .ok (.ireturn, 1) := by decide +kernel
theorem dX6_need_0 : decode cX6_need 0 = .ok (.iload_n 1, 1) := by decide +kernel
theorem dX6_need_1 : decode cX6_need 1 = .ok (.invokestatic 53, 3) := by decide +kernel
theorem dX6_need_4 : decode cX6_need 4 = .ok (.iload_n 2, 1) := by decide +kernel
theorem dX6_need_5 : decode cX6_need 5 = .ok (.invokestatic 67, 3) := by decide +kernel
theorem dX6_need_8 : decode cX6_need 8 = .ok (.aload_n 0, 1) := by decide +kernel
theorem dX6_need_9 : decode cX6_need 9 = .ok (.invokevirtual 46, 3) := by decide +kernel
theorem dX6_need_12 : decode cX6_need 12 = .ok (.aload_n 0, 1) := by decide +kernel
theorem dX6_need_13 : decode cX6_need 13 = .ok (.getfield 10, 3) := by decide +kernel
theorem dX6_need_16 : decode cX6_need 16 = .ok (.iload_n 1, 1) := by decide +kernel
theorem dX6_need_17 : decode cX6_need 17 = .ok (.iload_n 2, 1) := by decide +kernel
theorem dX6_need_18 : decode cX6_need 18 = .ok (.invokevirtual 70, 3) := by decide +kernel
theorem dX6_need_21 : decode cX6_need 21 = .ok (.ireturn, 1) := by decide +kernel
theorem dX6_pass_0 : decode cX6_pass 0 = .ok (.aload_n 0, 1) := by decide +kernel
theorem dX6_pass_1 : decode cX6_pass 1 = .ok (.getfield 10, 3) := by decide +kernel
theorem dX6_pass_4 : decode cX6_pass 4 = .ok (.invokevirtual 73, 3) := by decide +kernel
theorem dX6_pass_7 : decode cX6_pass 7 = .ok (.ifCond .ne 13, 3) := by decide +kernel
theorem dX6_pass_10 : decode cX6_pass 10 = .ok (.new 77, 3) := by decide +kernel
theorem dX6_pass_13 : decode cX6_pass 13 = .ok (.dup, 1) := by decide +kernel
theorem dX6_pass_14 : decode cX6_pass 14 = .ok (.ldc 79, 2) := by decide +kernel
theorem dX6_pass_16 : decode cX6_pass 16 = .ok (.invokespecial 81, 3) := by decide +kernel
theorem dX6_pass_19 : decode cX6_pass 19 = .ok (.athrow, 1) := by decide +kernel
theorem dX6_pass_20 : decode cX6_pass 20 = .ok (.aload_n 0, 1) := by decide +kernel
theorem dX6_pass_21 : decode cX6_pass 21 = .ok (.invokevirtual 46, 3) := by decide +kernel
theorem dX6_pass_24 : decode cX6_pass 24 = .ok (.aload_n 0, 1) := by decide +kernel
theorem dX6_pass_25 : decode cX6_pass 25 = .ok (.getfield 10, 3) := by decide +kernel
theorem dX6_pass_28 : decode cX6_pass 28 = .ok (.invokevirtual 84, 3) := by decide +kernel
theorem dX6_pass_31 : decode cX6_pass 31 = .ok (.ireturn, 1) := by decide +kernel
theorem dX6_set_0 : decode cX6_set 0 = .ok (.iload_n 1, 1) := by decide +kernel
theorem dX6_set_1 : decode cX6_set 1 = .ok (.invokestatic 67, 3) := by decide +kernel
theorem dX6_set_4 : decode cX6_set 4 = .ok (.aload_n 0, 1) := by decide +kernel
theorem dX6_set_5 : decode cX6_set 5 = .ok (.invokevirtual 46, 3) := by decide +kernel
theorem dX6_set_8 : decode cX6_set 8 = .ok (.aload_n 0, 1) := by decide +kernel
theorem dX6_set_9 : decode cX6_set 9 = .ok (.getfield 10, 3) := by decide +kernel
theorem dX6_set_12 : decode cX6_set 12 = .ok (.iload_n 1, 1) := by decide +kernel
theorem dX6_set_13 : decode cX6_set 13 = .ok (.invokevirtual 88, 3) := by decide +kernel
theorem dX6_set_16 : decode cX6_set 16 = .ok (.ireturn, 1) := by decide +kernel
theorem dX6_append_0 : decode cX6_append 0 = .ok (.iload_n 1, 1) := by decide +kernel
theorem dX6_append_1 : decode cX6_append 1 = .ok (.bipush 33, 2) := by decide +kernel
theorem dX6_append_3 : decode cX6_append 3 = .ok (.if_icmp .lt 9, 3) := by decide +kernel
theorem dX6_append_6 : decode cX6_append 6 = .ok (.iload_n 1, 1) := by decide +kernel
theorem dX6_append_7 : decode cX6_append 7 = .ok (.bipush 126, 2) := by decide +kernel
theorem dX6_append_9 : decode cX6_append 9 = .ok (.if_icmp .le 13, 3) := by decide +kernel
theorem dX6_append_12 : decode cX6_append 12 = .ok (.new 91, 3) := by decide +kernel
theorem dX6_append_15 : decode cX6_append 15 = .ok (.dup, 1) := by decide +kernel
theorem dX6_append_16 : decode cX6_append 16 = .ok (.ldc 93, 2) := by decide +kernel
theorem dX6_append_18 : decode cX6_append 18 = .ok (.invokespecial 95, 3) := by decide +kernel
theorem dX6_append_21 : decode cX6_append 21 = .ok (.athrow, 1) := by decide +kernel
theorem dX6_append_22 : decode cX6_append 22 = .ok (.aload_n 0, 1) := by decide +kernel
theorem dX6_append_23 : decode cX6_append 23 = .ok (.getfield 38, 3) := by decide +kernel
theorem dX6_append_26 : decode cX6_append 26 = .ok (.invokevirtual 96, 3) := by decide +kernel
theorem dX6_append_29 : decode cX6_append 29 = .ok (.ifCond .eq 13, 3) := by decide +kernel
theorem dX6_append_32 : decode cX6_append 32 = .ok (.new 77, 3) := by decide +kernel
theorem dX6_append_35 : decode cX6_append 35 = .ok (.dup, 1) := by decide +kernel
theorem dX6_append_36 : decode cX6_append 36 = .ok (.ldc 99, 2) := by decide +kernel
theorem dX6_append_38 : decode cX6_append 38 = .ok (.invokespecial 81, 3) := by decide +kernel
theorem dX6_append_41 : decode cX6_append 41 = .ok (.athrow, 1) := by decide +kernel
theorem dX6_append_42 : decode cX6_append 42 = .ok (.aload_n 0, 1) := by decide +kernel
theorem dX6_append_43 : decode cX6_append 43 = .ok (.getfield 38, 3) := by decide +kernel
theorem dX6_append_46 : decode cX6_append 46 = .ok (.iload_n 1, 1) := by decide +kernel
theorem dX6_append_47 : decode cX6_append 47 = .ok (.invokevirtual 101, 3) := by decide +kernel
theorem dX6_append_50 : decode cX6_append 50 = .ok (.ireturn, 1) := by decide +kernel
theorem dX6_clearBuffer_0 : decode cX6_clearBuffer 0 = .ok (.aload_n 0, 1) := by decide +kernel
theorem dX6_clearBuffer_1 : decode cX6_clearBuffer 1 = .ok (.getfield 38, 3) := by decide +kernel
theorem dX6_clearBuffer_4 : decode cX6_clearBuffer 4 = .ok (.invokevirtual 104, 3) := by decide +kernel
theorem dX6_clearBuffer_7 : decode cX6_clearBuffer 7 = .ok (.ireturn, 1) := by decide +kernel
theorem dX6_firstError_0 : decode cX6_firstError 0 = .ok (.aload_n 0, 1) := by decide +kernel
theorem dX6_firstError_1 : decode cX6_firstError 1 = .ok (.getfield 38, 3) := by decide +kernel
theorem dX6_firstError_4 : decode cX6_firstError 4 = .ok (.invokevirtual 107, 3) := by decide +kernel
theorem dX6_firstError_7 : decode cX6_firstError 7 = .ok (.ireturn, 1) := by decide +kernel
theorem dX6_run_0 : decode cX6_run 0 = .ok (.aload_n 0, 1) := by decide +kernel
theorem dX6_run_1 : decode cX6_run 1 = .ok (.getfield 38, 3) := by decide +kernel
theorem dX6_run_4 : decode cX6_run 4 = .ok (.invokevirtual 110, 3) := by decide +kernel
theorem dX6_run_7 : decode cX6_run 7 = .ok (.ifCond .ne 13, 3) := by decide +kernel
theorem dX6_run_10 : decode cX6_run 10 = .ok (.new 91, 3) := by decide +kernel
theorem dX6_run_13 : decode cX6_run 13 = .ok (.dup, 1) := by decide +kernel
theorem dX6_run_14 : decode cX6_run 14 = .ok (.ldc 113, 2) := by decide +kernel
theorem dX6_run_16 : decode cX6_run 16 = .ok (.invokespecial 95, 3) := by decide +kernel
theorem dX6_run_19 : decode cX6_run 19 = .ok (.athrow, 1) := by decide +kernel
theorem dX6_run_20 : decode cX6_run 20 = .ok (.aload_n 0, 1) := by decide +kernel
theorem dX6_run_21 : decode cX6_run 21 = .ok (.invokevirtual 46, 3) := by decide +kernel
theorem dX6_run_24 : decode cX6_run 24 = .ok (.aload_n 0, 1) := by decide +kernel
theorem dX6_run_25 : decode cX6_run 25 = .ok (.invokevirtual 115, 3) := by decide +kernel
theorem dX6_run_28 : decode cX6_run 28 = .ok (.istore_n 1, 1) := by decide +kernel
theorem dX6_run_29 : decode cX6_run 29 = .ok (.aload_n 0, 1) := by decide +kernel
theorem dX6_run_30 : decode cX6_run 30 = .ok (.getfield 38, 3) := by decide +kernel
theorem dX6_run_33 : decode cX6_run 33 = .ok (.invokevirtual 104, 3) := by decide +kernel
theorem dX6_run_36 : decode cX6_run 36 = .ok (.pop, 1) := by decide +kernel
theorem dX6_run_37 : decode cX6_run 37 = .ok (.iload_n 1, 1) := by decide +kernel
theorem dX6_run_38 : decode cX6_run 38 = .ok (.ireturn, 1) := by decide +kernel
theorem dX6_keep_0 : decode cX6_keep 0 = .ok (.iload_n 1, 1) := by decide +kernel
theorem dX6_keep_1 : decode cX6_keep 1 = .ok (.invokestatic 118, 3) := by decide +kernel
theorem dX6_keep_4 : decode cX6_keep 4 = .ok (.aload_n 0, 1) := by decide +kernel
theorem dX6_keep_5 : decode cX6_keep 5 = .ok (.getfield 21, 3) := by decide +kernel
theorem dX6_keep_8 : decode cX6_keep 8 = .ok (.iload_n 1, 1) := by decide +kernel
theorem dX6_keep_9 : decode cX6_keep 9 = .ok (.aload_n 0, 1) := by decide +kernel
theorem dX6_keep_10 : decode cX6_keep 10 = .ok (.getfield 10, 3) := by decide +kernel
theorem dX6_keep_13 : decode cX6_keep 13 = .ok (.invokevirtual 121, 3) := by decide +kernel
theorem dX6_keep_16 : decode cX6_keep 16 = .ok (.aload_n 0, 1) := by decide +kernel
theorem dX6_keep_17 : decode cX6_keep 17 = .ok (.getfield 10, 3) := by decide +kernel
theorem dX6_keep_20 : decode cX6_keep 20 = .ok (.iconst 2, 1) := by decide +kernel
theorem dX6_keep_21 : decode cX6_keep 21 = .ok (.invokevirtual 125, 3) := by decide +kernel
theorem dX6_keep_24 : decode cX6_keep 24 = .ok (.ireturn, 1) := by decide +kernel
theorem dX6_goBack_0 : decode cX6_goBack 0 = .ok (.iload_n 1, 1) := by decide +kernel
theorem dX6_goBack_1 : decode cX6_goBack 1 = .ok (.invokestatic 118, 3) := by decide +kernel
theorem dX6_goBack_4 : decode cX6_goBack 4 = .ok (.aload_n 0, 1) := by decide +kernel
theorem dX6_goBack_5 : decode cX6_goBack 5 = .ok (.getfield 21, 3) := by decide +kernel
theorem dX6_goBack_8 : decode cX6_goBack 8 = .ok (.iload_n 1, 1) := by decide +kernel
theorem dX6_goBack_9 : decode cX6_goBack 9 = .ok (.invokevirtual 128, 3) := by decide +kernel
theorem dX6_goBack_12 : decode cX6_goBack 12 = .ok (.ifCond .ne 13, 3) := by decide +kernel
theorem dX6_goBack_15 : decode cX6_goBack 15 = .ok (.new 77, 3) := by decide +kernel
theorem dX6_goBack_18 : decode cX6_goBack 18 = .ok (.dup, 1) := by decide +kernel
theorem dX6_goBack_19 : decode cX6_goBack 19 = .ok (.ldc 132, 2) := by decide +kernel
theorem dX6_goBack_21 : decode cX6_goBack 21 = .ok (.invokespecial 81, 3) := by decide +kernel
theorem dX6_goBack_24 : decode cX6_goBack 24 = .ok (.athrow, 1) := by decide +kernel
theorem dX6_goBack_25 : decode cX6_goBack 25 = .ok (.aload_n 0, 1) := by decide +kernel
theorem dX6_goBack_26 : decode cX6_goBack 26 = .ok (.invokevirtual 46, 3) := by decide +kernel
theorem dX6_goBack_29 : decode cX6_goBack 29 = .ok (.aload_n 0, 1) := by decide +kernel
theorem dX6_goBack_30 : decode cX6_goBack 30 = .ok (.getfield 21, 3) := by decide +kernel
theorem dX6_goBack_33 : decode cX6_goBack 33 = .ok (.iload_n 1, 1) := by decide +kernel
theorem dX6_goBack_34 : decode cX6_goBack 34 = .ok (.aload_n 0, 1) := by decide +kernel
theorem dX6_goBack_35 : decode cX6_goBack 35 = .ok (.getfield 10, 3) := by decide +kernel
theorem dX6_goBack_38 : decode cX6_goBack 38 = .ok (.invokevirtual 134, 3) := by decide +kernel
theorem dX6_goBack_41 : decode cX6_goBack 41 = .ok (.aload_n 0, 1) := by decide +kernel
theorem dX6_goBack_42 : decode cX6_goBack 42 = .ok (.getfield 10, 3) := by decide +kernel
theorem dX6_goBack_45 : decode cX6_goBack 45 = .ok (.iconst 2, 1) := by decide +kernel
theorem dX6_goBack_46 : decode cX6_goBack 46 = .ok (.invokevirtual 125, 3) := by decide +kernel
theorem dX6_goBack_49 : decode cX6_goBack 49 = .ok (.ireturn, 1) := by decide +kernel
theorem dX6_undo_0 : decode cX6_undo 0 = .ok (.aload_n 0, 1) := by decide +kernel
theorem dX6_undo_1 : decode cX6_undo 1 = .ok (.getfield 137, 3) := by decide +kernel
theorem dX6_undo_4 : decode cX6_undo 4 = .ok (.ifCond .ne 13, 3) := by decide +kernel
theorem dX6_undo_7 : decode cX6_undo 7 = .ok (.new 77, 3) := by decide +kernel
theorem dX6_undo_10 : decode cX6_undo 10 = .ok (.dup, 1) := by decide +kernel
theorem dX6_undo_11 : decode cX6_undo 11 = .ok (.ldc 141, 2) := by decide +kernel
theorem dX6_undo_13 : decode cX6_undo 13 = .ok (.invokespecial 81, 3) := by decide +kernel
theorem dX6_undo_16 : decode cX6_undo 16 = .ok (.athrow, 1) := by decide +kernel
theorem dX6_undo_17 : decode cX6_undo 17 = .ok (.aload_n 0, 1) := by decide +kernel
theorem dX6_undo_18 : decode cX6_undo 18 = .ok (.aload_n 0, 1) := by decide +kernel
theorem dX6_undo_19 : decode cX6_undo 19 = .ok (.getfield 143, 3) := by decide +kernel
theorem dX6_undo_22 : decode cX6_undo 22 = .ok (.ifCond .ne 7, 3) := by decide +kernel
theorem dX6_undo_25 : decode cX6_undo 25 = .ok (.iconst 5, 1) := by decide +kernel
theorem dX6_undo_26 : decode cX6_undo 26 = .ok (.goto 9, 3) := by decide +kernel
theorem dX6_undo_29 : decode cX6_undo 29 = .ok (.aload_n 0, 1) := by decide +kernel
theorem dX6_undo_30 : decode cX6_undo 30 = .ok (.getfield 143, 3) := by decide +kernel
theorem dX6_undo_33 : decode cX6_undo 33 = .ok (.iconst 1, 1) := by decide +kernel
theorem dX6_undo_34 : decode cX6_undo 34 = .ok (.isub, 1) := by decide +kernel
theorem dX6_undo_35 : decode cX6_undo 35 = .ok (.putfield 143, 3) := by decide +kernel
theorem dX6_undo_38 : decode cX6_undo 38 = .ok (.aload_n 0, 1) := by decide +kernel
theorem dX6_undo_39 : decode cX6_undo 39 = .ok (.dup, 1) := by decide +kernel
theorem dX6_undo_40 : decode cX6_undo 40 = .ok (.getfield 137, 3) := by decide +kernel
theorem dX6_undo_43 : decode cX6_undo 43 = .ok (.iconst 1, 1) := by decide +kernel
theorem dX6_undo_44 : decode cX6_undo 44 = .ok (.isub, 1) := by decide +kernel
theorem dX6_undo_45 : decode cX6_undo 45 = .ok (.putfield 137, 3) := by decide +kernel
theorem dX6_undo_48 : decode cX6_undo 48 = .ok (.aload_n 0, 1) := by decide +kernel
theorem dX6_undo_49 : decode cX6_undo 49 = .ok (.getfield 25, 3) := by decide +kernel
theorem dX6_undo_52 : decode cX6_undo 52 = .ok (.aload_n 0, 1) := by decide +kernel
theorem dX6_undo_53 : decode cX6_undo 53 = .ok (.getfield 143, 3) := by decide +kernel
theorem dX6_undo_56 : decode cX6_undo 56 = .ok (.aload_n 0, 1) := by decide +kernel
theorem dX6_undo_57 : decode cX6_undo 57 = .ok (.getfield 10, 3) := by decide +kernel
theorem dX6_undo_60 : decode cX6_undo 60 = .ok (.invokevirtual 134, 3) := by decide +kernel
theorem dX6_undo_63 : decode cX6_undo 63 = .ok (.aload_n 0, 1) := by decide +kernel
theorem dX6_undo_64 : decode cX6_undo 64 = .ok (.getfield 137, 3) := by decide +kernel
theorem dX6_undo_67 : decode cX6_undo 67 = .ok (.ireturn, 1) := by decide +kernel
theorem dX6_at_0 : decode cX6_at 0 = .ok (.iload_n 1, 1) := by decide +kernel
theorem dX6_at_1 : decode cX6_at 1 = .ok (.ifCond .lt 8, 3) := by decide +kernel
theorem dX6_at_4 : decode cX6_at 4 = .ok (.iload_n 1, 1) := by decide +kernel
theorem dX6_at_5 : decode cX6_at 5 = .ok (.iconst 4, 1) := by decide +kernel
theorem dX6_at_6 : decode cX6_at 6 = .ok (.if_icmp .lt 13, 3) := by decide +kernel
theorem dX6_at_9 : decode cX6_at 9 = .ok (.new 146, 3) := by decide +kernel
theorem dX6_at_12 : decode cX6_at 12 = .ok (.dup, 1) := by decide +kernel
theorem dX6_at_13 : decode cX6_at 13 = .ok (.ldc 148, 2) := by decide +kernel
theorem dX6_at_15 : decode cX6_at 15 = .ok (.invokespecial 150, 3) := by decide +kernel
theorem dX6_at_18 : decode cX6_at 18 = .ok (.athrow, 1) := by decide +kernel
theorem dX6_at_19 : decode cX6_at 19 = .ok (.iload_n 2, 1) := by decide +kernel
theorem dX6_at_20 : decode cX6_at 20 = .ok (.invokestatic 56, 3) := by decide +kernel
theorem dX6_at_23 : decode cX6_at 23 = .ok (.aload_n 0, 1) := by decide +kernel
theorem dX6_at_24 : decode cX6_at 24 = .ok (.getfield 10, 3) := by decide +kernel
theorem dX6_at_27 : decode cX6_at 27 = .ok (.getfield 151, 3) := by decide +kernel
theorem dX6_at_30 : decode cX6_at 30 = .ok (.iload_n 1, 1) := by decide +kernel
theorem dX6_at_31 : decode cX6_at 31 = .ok (.iload_n 2, 1) := by decide +kernel
theorem dX6_at_32 : decode cX6_at 32 = .ok (.invokevirtual 155, 3) := by decide +kernel
theorem dX6_at_35 : decode cX6_at 35 = .ok (.ireturn, 1) := by decide +kernel
theorem dX6_lodgerOf_0 : decode cX6_lodgerOf 0 = .ok (.iload_n 1, 1) := by decide +kernel
theorem dX6_lodgerOf_1 : decode cX6_lodgerOf 1 = .ok (.invokestatic 53, 3) := by decide +kernel
theorem dX6_lodgerOf_4 : decode cX6_lodgerOf 4 = .ok (.iload_n 2, 1) := by decide +kernel
theorem dX6_lodgerOf_5 : decode cX6_lodgerOf 5 = .ok (.iconst 0, 1) := by decide +kernel
theorem dX6_lodgerOf_6 : decode cX6_lodgerOf 6 = .ok (.bipush 6, 2) := by decide +kernel
theorem dX6_lodgerOf_8 : decode cX6_lodgerOf 8 = .ok (.invokestatic 160, 3) := by decide +kernel
theorem dX6_lodgerOf_11 : decode cX6_lodgerOf 11 = .ok (.aload_n 0, 1) := by decide +kernel
theorem dX6_lodgerOf_12 : decode cX6_lodgerOf 12 = .ok (.getfield 10, 3) := by decide +kernel
theorem dX6_lodgerOf_15 : decode cX6_lodgerOf 15 = .ok (.iload_n 1, 1) := by decide +kernel
theorem dX6_lodgerOf_16 : decode cX6_lodgerOf 16 = .ok (.iload_n 2, 1) := by decide +kernel
theorem dX6_lodgerOf_17 : decode cX6_lodgerOf 17 = .ok (.invokevirtual 163, 3) := by decide +kernel
theorem dX6_lodgerOf_20 : decode cX6_lodgerOf 20 = .ok (.ireturn, 1) := by decide +kernel
theorem dX6_count_0 : decode cX6_count 0 = .ok (.iload_n 1, 1) := by decide +kernel
theorem dX6_count_1 : decode cX6_count 1 = .ok (.iconst 0, 1) := by decide +kernel
theorem dX6_count_2 : decode cX6_count 2 = .ok (.bipush 11, 2) := by decide +kernel
theorem dX6_count_4 : decode cX6_count 4 = .ok (.invokestatic 160, 3) := by decide +kernel
theorem dX6_count_7 : decode cX6_count 7 = .ok (.aload_n 0, 1) := by decide +kernel
theorem dX6_count_8 : decode cX6_count 8 = .ok (.iload_n 1, 1) := by decide +kernel
theorem dX6_count_9 : decode cX6_count 9 = .ok (.invokevirtual 166, 3) := by decide +kernel
theorem dX6_count_12 : decode cX6_count 12 = .ok (.ireturn, 1) := by decide +kernel
theorem dX6_refused_0 : decode cX6_refused 0 = .ok (.iload_n 1, 1) := by decide +kernel
theorem dX6_refused_1 : decode cX6_refused 1 = .ok (.iconst 1, 1) := by decide +kernel
theorem dX6_refused_2 : decode cX6_refused 2 = .ok (.iconst 4, 1) := by decide +kernel
theorem dX6_refused_3 : decode cX6_refused 3 = .ok (.invokestatic 160, 3) := by decide +kernel
theorem dX6_refused_6 : decode cX6_refused 6 = .ok (.aload_n 0, 1) := by decide +kernel
theorem dX6_refused_7 : decode cX6_refused 7 = .ok (.getfield 10, 3) := by decide +kernel
theorem dX6_refused_10 : decode cX6_refused 10 = .ok (.iload_n 1, 1) := by decide +kernel
theorem dX6_refused_11 : decode cX6_refused 11 = .ok (.invokevirtual 169, 3) := by decide +kernel
theorem dX6_refused_14 : decode cX6_refused 14 = .ok (.ireturn, 1) := by decide +kernel
theorem dX6_ifAsked_0 : decode cX6_ifAsked 0 = .ok (.iload_n 1, 1) := by decide +kernel
theorem dX6_ifAsked_1 : decode cX6_ifAsked 1 = .ok (.iload_n 2, 1) := by decide +kernel
theorem dX6_ifAsked_2 : decode cX6_ifAsked 2 = .ok (.iload_n 3, 1) := by decide +kernel
theorem dX6_ifAsked_3 : decode cX6_ifAsked 3 = .ok (.invokestatic 42, 3) := by decide +kernel
theorem dX6_ifAsked_6 : decode cX6_ifAsked 6 = .ok (.aload_n 0, 1) := by decide +kernel
theorem dX6_ifAsked_7 : decode cX6_ifAsked 7 = .ok (.getfield 10, 3) := by decide +kernel
theorem dX6_ifAsked_10 : decode cX6_ifAsked 10 = .ok (.iload_n 1, 1) := by decide +kernel
theorem dX6_ifAsked_11 : decode cX6_ifAsked 11 = .ok (.iload_n 2, 1) := by decide +kernel
theorem dX6_ifAsked_12 : decode cX6_ifAsked 12 = .ok (.iload_n 3, 1) := by decide +kernel
theorem dX6_ifAsked_13 : decode cX6_ifAsked 13 = .ok (.invokevirtual 172, 3) := by decide +kernel
theorem dX6_ifAsked_16 : decode cX6_ifAsked 16 = .ok (.ireturn, 1) := by decide +kernel
theorem dX6_ifPutOut_0 : decode cX6_ifPutOut 0 = .ok (.iload_n 1, 1) := by decide +kernel
theorem dX6_ifPutOut_1 : decode cX6_ifPutOut 1 = .ok (.iload_n 2, 1) := by decide +kernel
theorem dX6_ifPutOut_2 : decode cX6_ifPutOut 2 = .ok (.iload_n 3, 1) := by decide +kernel
theorem dX6_ifPutOut_3 : decode cX6_ifPutOut 3 = .ok (.invokestatic 42, 3) := by decide +kernel
theorem dX6_ifPutOut_6 : decode cX6_ifPutOut 6 = .ok (.aload_n 0, 1) := by decide +kernel
theorem dX6_ifPutOut_7 : decode cX6_ifPutOut 7 = .ok (.getfield 10, 3) := by decide +kernel
theorem dX6_ifPutOut_10 : decode cX6_ifPutOut 10 = .ok (.iload_n 1, 1) := by decide +kernel
theorem dX6_ifPutOut_11 : decode cX6_ifPutOut 11 = .ok (.iload_n 2, 1) := by decide +kernel
theorem dX6_ifPutOut_12 : decode cX6_ifPutOut 12 = .ok (.iload_n 3, 1) := by decide +kernel
theorem dX6_ifPutOut_13 : decode cX6_ifPutOut 13 = .ok (.invokevirtual 175, 3) := by decide +kernel
theorem dX6_ifPutOut_16 : decode cX6_ifPutOut 16 = .ok (.ireturn, 1) := by decide +kernel
theorem dX6_fewestBeds_0 : decode cX6_fewestBeds 0 = .ok (.iload_n 1, 1) := by decide +kernel
theorem dX6_fewestBeds_1 : decode cX6_fewestBeds 1 = .ok (.iconst 0, 1) := by decide +kernel
theorem dX6_fewestBeds_2 : decode cX6_fewestBeds 2 = .ok (.iconst 1, 1) := by decide +kernel
theorem dX6_fewestBeds_3 : decode cX6_fewestBeds 3 = .ok (.invokestatic 160, 3) := by decide +kernel
theorem dX6_fewestBeds_6 : decode cX6_fewestBeds 6 = .ok (.iload_n 1, 1) := by decide +kernel
theorem dX6_fewestBeds_7 : decode cX6_fewestBeds 7 = .ok (.ifCond .ne 20, 3) := by decide +kernel
theorem dX6_fewestBeds_10 : decode cX6_fewestBeds 10 = .ok (.aload_n 0, 1) := by decide +kernel
theorem dX6_fewestBeds_11 : decode cX6_fewestBeds 11 = .ok (.getfield 31, 3) := by decide +kernel
theorem dX6_fewestBeds_14 : decode cX6_fewestBeds 14 = .ok (.aload_n 0, 1) := by decide +kernel
theorem dX6_fewestBeds_15 : decode cX6_fewestBeds 15 = .ok (.getfield 10, 3) := by decide +kernel
theorem dX6_fewestBeds_18 : decode cX6_fewestBeds 18 = .ok (.getfield 151, 3) := by decide +kernel
theorem dX6_fewestBeds_21 : decode cX6_fewestBeds 21 = .ok (.invokevirtual 178, 3) := by decide +kernel
theorem dX6_fewestBeds_24 : decode cX6_fewestBeds 24 = .ok (.goto 13, 3) := by decide +kernel
theorem dX6_fewestBeds_27 : decode cX6_fewestBeds 27 = .ok (.aload_n 0, 1) := by decide +kernel
theorem dX6_fewestBeds_28 : decode cX6_fewestBeds 28 = .ok (.getfield 10, 3) := by decide +kernel
theorem dX6_fewestBeds_31 : decode cX6_fewestBeds 31 = .ok (.getfield 151, 3) := by decide +kernel
theorem dX6_fewestBeds_34 : decode cX6_fewestBeds 34 = .ok (.invokevirtual 182, 3) := by decide +kernel
theorem dX6_fewestBeds_37 : decode cX6_fewestBeds 37 = .ok (.ireturn, 1) := by decide +kernel
theorem dX6_longest_0 : decode cX6_longest 0 = .ok (.iload_n 1, 1) := by decide +kernel
theorem dX6_longest_1 : decode cX6_longest 1 = .ok (.invokestatic 53, 3) := by decide +kernel
theorem dX6_longest_4 : decode cX6_longest 4 = .ok (.iload_n 2, 1) := by decide +kernel
theorem dX6_longest_5 : decode cX6_longest 5 = .ok (.invokestatic 56, 3) := by decide +kernel
theorem dX6_longest_8 : decode cX6_longest 8 = .ok (.aload_n 0, 1) := by decide +kernel
theorem dX6_longest_9 : decode cX6_longest 9 = .ok (.getfield 10, 3) := by decide +kernel
theorem dX6_longest_12 : decode cX6_longest 12 = .ok (.getfield 151, 3) := by decide +kernel
theorem dX6_longest_15 : decode cX6_longest 15 = .ok (.iload_n 1, 1) := by decide +kernel
theorem dX6_longest_16 : decode cX6_longest 16 = .ok (.iload_n 2, 1) := by decide +kernel
theorem dX6_longest_17 : decode cX6_longest 17 = .ok (.invokevirtual 185, 3) := by decide +kernel
theorem dX6_longest_20 : decode cX6_longest 20 = .ok (.ireturn, 1) := by decide +kernel
theorem dX6_poorest_0 : decode cX6_poorest 0 = .ok (.aload_n 0, 1) := by decide +kernel
theorem dX6_poorest_1 : decode cX6_poorest 1 = .ok (.getfield 10, 3) := by decide +kernel
theorem dX6_poorest_4 : decode cX6_poorest 4 = .ok (.invokevirtual 188, 3) := by decide +kernel
theorem dX6_poorest_7 : decode cX6_poorest 7 = .ok (.ireturn, 1) := by decide +kernel
theorem dX6_fullness_0 : decode cX6_fullness 0 = .ok (.aload_n 0, 1) := by decide +kernel
theorem dX6_fullness_1 : decode cX6_fullness 1 = .ok (.getfield 10, 3) := by decide +kernel
theorem dX6_fullness_4 : decode cX6_fullness 4 = .ok (.invokevirtual 191, 3) := by decide +kernel
theorem dX6_fullness_7 : decode cX6_fullness 7 = .ok (.dreturn, 1) := by decide +kernel
theorem dX6_digest_0 : decode cX6_digest 0 = .ok (.aload_n 0, 1) := by decide +kernel
theorem dX6_digest_1 : decode cX6_digest 1 = .ok (.ldc2_w 195, 3) := by decide +kernel
theorem dX6_digest_4 : decode cX6_digest 4 = .ok (.invokevirtual 197, 3) := by decide +kernel
theorem dX6_digest_7 : decode cX6_digest 7 = .ok (.lstore_n 1, 1) := by decide +kernel
theorem dX6_digest_8 : decode cX6_digest 8 = .ok (.aload_n 0, 1) := by decide +kernel
theorem dX6_digest_9 : decode cX6_digest 9 = .ok (.lload_n 1, 1) := by decide +kernel
theorem dX6_digest_10 : decode cX6_digest 10 = .ok (.invokevirtual 201, 3) := by decide +kernel
theorem dX6_digest_13 : decode cX6_digest 13 = .ok (.lstore_n 1, 1) := by decide +kernel
theorem dX6_digest_14 : decode cX6_digest 14 = .ok (.aload_n 0, 1) := by decide +kernel
theorem dX6_digest_15 : decode cX6_digest 15 = .ok (.lload_n 1, 1) := by decide +kernel
theorem dX6_digest_16 : decode cX6_digest 16 = .ok (.invokevirtual 204, 3) := by decide +kernel
theorem dX6_digest_19 : decode cX6_digest 19 = .ok (.lstore_n 1, 1) := by decide +kernel
theorem dX6_digest_20 : decode cX6_digest 20 = .ok (.lload_n 1, 1) := by decide +kernel
theorem dX6_digest_21 : decode cX6_digest 21 = .ok (.aload_n 0, 1) := by decide +kernel
theorem dX6_digest_22 : decode cX6_digest 22 = .ok (.getfield 31, 3) := by decide +kernel
theorem dX6_digest_25 : decode cX6_digest 25 = .ok (.aload_n 0, 1) := by decide +kernel
theorem dX6_digest_26 : decode cX6_digest 26 = .ok (.getfield 10, 3) := by decide +kernel
theorem dX6_digest_29 : decode cX6_digest 29 = .ok (.getfield 151, 3) := by decide +kernel
theorem dX6_digest_32 : decode cX6_digest 32 = .ok (.invokevirtual 178, 3) := by decide +kernel
theorem dX6_digest_35 : decode cX6_digest 35 = .ok (.i2l, 1) := by decide +kernel
theorem dX6_digest_36 : decode cX6_digest 36 = .ok (.invokestatic 207, 3) := by decide +kernel
theorem dX6_digest_39 : decode cX6_digest 39 = .ok (.lstore_n 1, 1) := by decide +kernel
theorem dX6_digest_40 : decode cX6_digest 40 = .ok (.lload_n 1, 1) := by decide +kernel
theorem dX6_digest_41 : decode cX6_digest 41 = .ok (.aload_n 0, 1) := by decide +kernel
theorem dX6_digest_42 : decode cX6_digest 42 = .ok (.getfield 10, 3) := by decide +kernel
theorem dX6_digest_45 : decode cX6_digest 45 = .ok (.getfield 151, 3) := by decide +kernel
theorem dX6_digest_48 : decode cX6_digest 48 = .ok (.invokevirtual 182, 3) := by decide +kernel
theorem dX6_digest_51 : decode cX6_digest 51 = .ok (.i2l, 1) := by decide +kernel
theorem dX6_digest_52 : decode cX6_digest 52 = .ok (.invokestatic 207, 3) := by decide +kernel
theorem dX6_digest_55 : decode cX6_digest 55 = .ok (.lstore_n 1, 1) := by decide +kernel
theorem dX6_digest_56 : decode cX6_digest 56 = .ok (.lload_n 1, 1) := by decide +kernel
theorem dX6_digest_57 : decode cX6_digest 57 = .ok (.aload_n 0, 1) := by decide +kernel
theorem dX6_digest_58 : decode cX6_digest 58 = .ok (.getfield 10, 3) := by decide +kernel
theorem dX6_digest_61 : decode cX6_digest 61 = .ok (.invokevirtual 188, 3) := by decide +kernel
theorem dX6_digest_64 : decode cX6_digest 64 = .ok (.i2l, 1) := by decide +kernel
theorem dX6_digest_65 : decode cX6_digest 65 = .ok (.invokestatic 207, 3) := by decide +kernel
theorem dX6_digest_68 : decode cX6_digest 68 = .ok (.lstore_n 1, 1) := by decide +kernel
theorem dX6_digest_69 : decode cX6_digest 69 = .ok (.lload_n 1, 1) := by decide +kernel
theorem dX6_digest_70 : decode cX6_digest 70 = .ok (.aload_n 0, 1) := by decide +kernel
theorem dX6_digest_71 : decode cX6_digest 71 = .ok (.getfield 10, 3) := by decide +kernel
theorem dX6_digest_74 : decode cX6_digest 74 = .ok (.invokevirtual 191, 3) := by decide +kernel
theorem dX6_digest_77 : decode cX6_digest 77 = .ok (.invokestatic 211, 3) := by decide +kernel
theorem dX6_digest_80 : decode cX6_digest 80 = .ok (.invokestatic 207, 3) := by decide +kernel
theorem dX6_digest_83 : decode cX6_digest 83 = .ok (.lstore_n 1, 1) := by decide +kernel
theorem dX6_digest_84 : decode cX6_digest 84 = .ok (.iconst 0, 1) := by decide +kernel
theorem dX6_digest_85 : decode cX6_digest 85 = .ok (.istore_n 3, 1) := by decide +kernel
theorem dX6_digest_86 : decode cX6_digest 86 = .ok (.iload_n 3, 1) := by decide +kernel
theorem dX6_digest_87 : decode cX6_digest 87 = .ok (.iconst 2, 1) := by decide +kernel
theorem dX6_digest_88 : decode cX6_digest 88 = .ok (.if_icmp .ge 30, 3) := by decide +kernel
theorem dX6_digest_91 : decode cX6_digest 91 = .ok (.lload_n 1, 1) := by decide +kernel
theorem dX6_digest_92 : decode cX6_digest 92 = .ok (.aload_n 0, 1) := by decide +kernel
theorem dX6_digest_93 : decode cX6_digest 93 = .ok (.getfield 21, 3) := by decide +kernel
theorem dX6_digest_96 : decode cX6_digest 96 = .ok (.iload_n 3, 1) := by decide +kernel
theorem dX6_digest_97 : decode cX6_digest 97 = .ok (.invokevirtual 128, 3) := by decide +kernel
theorem dX6_digest_100 : decode cX6_digest 100 = .ok (.ifCond .eq 7, 3) := by decide +kernel
end
section
theorem dX6_digest_103 : decode cX6_digest 103 = .ok (.lconst 1, 1) := by decide +kernel
theorem dX6_digest_104 : decode cX6_digest 104 = .ok (.goto 4, 3) := by decide +kernel
theorem dX6_digest_107 : decode cX6_digest 107 = .ok (.lconst 0, 1) := by decide +kernel
theorem dX6_digest_108 : decode cX6_digest 108 = .ok (.invokestatic 207, 3) := by decide +kernel
theorem dX6_digest_111 : decode cX6_digest 111 = .ok (.lstore_n 1, 1) := by decide +kernel
theorem dX6_digest_112 : decode cX6_digest 112 = .ok (.iinc 3 1, 3) := by decide +kernel
theorem dX6_digest_115 : decode cX6_digest 115 = .ok (.goto (-29), 3) := by decide +kernel
theorem dX6_digest_118 : decode cX6_digest 118 = .ok (.aload_n 0, 1) := by decide +kernel
theorem dX6_digest_119 : decode cX6_digest 119 = .ok (.lload_n 1, 1) := by decide +kernel
theorem dX6_digest_120 : decode cX6_digest 120 = .ok (.invokevirtual 215, 3) := by decide +kernel
theorem dX6_digest_123 : decode cX6_digest 123 = .ok (.lreturn, 1) := by decide +kernel
theorem dX6_mixed_0 : decode cX6_mixed 0 = .ok (.ldc2_w 218, 3) := by decide +kernel
theorem dX6_mixed_3 : decode cX6_mixed 3 = .ok (.lload_n 0, 1) := by decide +kernel
theorem dX6_mixed_4 : decode cX6_mixed 4 = .ok (.lmul, 1) := by decide +kernel
theorem dX6_mixed_5 : decode cX6_mixed 5 = .ok (.lload_n 2, 1) := by decide +kernel
theorem dX6_mixed_6 : decode cX6_mixed 6 = .ok (.ladd, 1) := by decide +kernel
theorem dX6_mixed_7 : decode cX6_mixed 7 = .ok (.lreturn, 1) := by decide +kernel
theorem dX6_withAccounts_0 : decode cX6_withAccounts 0 = .ok (.lload_n 1, 1) := by decide +kernel
theorem dX6_withAccounts_1 : decode cX6_withAccounts 1 = .ok (.lstore_n 3, 1) := by decide +kernel
theorem dX6_withAccounts_2 : decode cX6_withAccounts 2 = .ok (.iconst 0, 1) := by decide +kernel
theorem dX6_withAccounts_3 : decode cX6_withAccounts 3 = .ok (.istore 5, 2) := by decide +kernel
theorem dX6_withAccounts_5 : decode cX6_withAccounts 5 = .ok (.iload 5, 2) := by decide +kernel
theorem dX6_withAccounts_7 : decode cX6_withAccounts 7 = .ok (.bipush 12, 2) := by decide +kernel
theorem dX6_withAccounts_9 : decode cX6_withAccounts 9 = .ok (.if_icmp .ge 21, 3) := by decide +kernel
theorem dX6_withAccounts_12 : decode cX6_withAccounts 12 = .ok (.lload_n 3, 1) := by decide +kernel
theorem dX6_withAccounts_13 : decode cX6_withAccounts 13 = .ok (.aload_n 0, 1) := by decide +kernel
theorem dX6_withAccounts_14 : decode cX6_withAccounts 14 = .ok (.iload 5, 2) := by decide +kernel
theorem dX6_withAccounts_16 : decode cX6_withAccounts 16 = .ok (.invokevirtual 166, 3) := by decide +kernel
theorem dX6_withAccounts_19 : decode cX6_withAccounts 19 = .ok (.i2l, 1) := by decide +kernel
theorem dX6_withAccounts_20 : decode cX6_withAccounts 20 = .ok (.invokestatic 207, 3) := by decide +kernel
theorem dX6_withAccounts_23 : decode cX6_withAccounts 23 = .ok (.lstore_n 3, 1) := by decide +kernel
theorem dX6_withAccounts_24 : decode cX6_withAccounts 24 = .ok (.iinc 5 1, 3) := by decide +kernel
theorem dX6_withAccounts_27 : decode cX6_withAccounts 27 = .ok (.goto (-22), 3) := by decide +kernel
theorem dX6_withAccounts_30 : decode cX6_withAccounts 30 = .ok (.iconst 1, 1) := by decide +kernel
theorem dX6_withAccounts_31 : decode cX6_withAccounts 31 = .ok (.istore 5, 2) := by decide +kernel
theorem dX6_withAccounts_33 : decode cX6_withAccounts 33 = .ok (.iload 5, 2) := by decide +kernel
theorem dX6_withAccounts_35 : decode cX6_withAccounts 35 = .ok (.iconst 4, 1) := by decide +kernel
theorem dX6_withAccounts_36 : decode cX6_withAccounts 36 = .ok (.if_icmp .gt 24, 3) := by decide +kernel
theorem dX6_withAccounts_39 : decode cX6_withAccounts 39 = .ok (.lload_n 3, 1) := by decide +kernel
theorem dX6_withAccounts_40 : decode cX6_withAccounts 40 = .ok (.aload_n 0, 1) := by decide +kernel
theorem dX6_withAccounts_41 : decode cX6_withAccounts 41 = .ok (.getfield 10, 3) := by decide +kernel
theorem dX6_withAccounts_44 : decode cX6_withAccounts 44 = .ok (.iload 5, 2) := by decide +kernel
theorem dX6_withAccounts_46 : decode cX6_withAccounts 46 = .ok (.invokevirtual 169, 3) := by decide +kernel
theorem dX6_withAccounts_49 : decode cX6_withAccounts 49 = .ok (.i2l, 1) := by decide +kernel
theorem dX6_withAccounts_50 : decode cX6_withAccounts 50 = .ok (.invokestatic 207, 3) := by decide +kernel
theorem dX6_withAccounts_53 : decode cX6_withAccounts 53 = .ok (.lstore_n 3, 1) := by decide +kernel
theorem dX6_withAccounts_54 : decode cX6_withAccounts 54 = .ok (.iinc 5 1, 3) := by decide +kernel
theorem dX6_withAccounts_57 : decode cX6_withAccounts 57 = .ok (.goto (-24), 3) := by decide +kernel
theorem dX6_withAccounts_60 : decode cX6_withAccounts 60 = .ok (.lload_n 3, 1) := by decide +kernel
theorem dX6_withAccounts_61 : decode cX6_withAccounts 61 = .ok (.lreturn, 1) := by decide +kernel
theorem dX6_withBeds_0 : decode cX6_withBeds 0 = .ok (.lload_n 1, 1) := by decide +kernel
theorem dX6_withBeds_1 : decode cX6_withBeds 1 = .ok (.lstore_n 3, 1) := by decide +kernel
theorem dX6_withBeds_2 : decode cX6_withBeds 2 = .ok (.iconst 0, 1) := by decide +kernel
theorem dX6_withBeds_3 : decode cX6_withBeds 3 = .ok (.istore 5, 2) := by decide +kernel
theorem dX6_withBeds_5 : decode cX6_withBeds 5 = .ok (.iload 5, 2) := by decide +kernel
theorem dX6_withBeds_7 : decode cX6_withBeds 7 = .ok (.iconst 4, 1) := by decide +kernel
theorem dX6_withBeds_8 : decode cX6_withBeds 8 = .ok (.if_icmp .ge 45, 3) := by decide +kernel
theorem dX6_withBeds_11 : decode cX6_withBeds 11 = .ok (.iconst 0, 1) := by decide +kernel
theorem dX6_withBeds_12 : decode cX6_withBeds 12 = .ok (.istore 6, 2) := by decide +kernel
theorem dX6_withBeds_14 : decode cX6_withBeds 14 = .ok (.iload 6, 2) := by decide +kernel
theorem dX6_withBeds_16 : decode cX6_withBeds 16 = .ok (.bipush 12, 2) := by decide +kernel
theorem dX6_withBeds_18 : decode cX6_withBeds 18 = .ok (.if_icmp .ge 29, 3) := by decide +kernel
theorem dX6_withBeds_21 : decode cX6_withBeds 21 = .ok (.lload_n 3, 1) := by decide +kernel
theorem dX6_withBeds_22 : decode cX6_withBeds 22 = .ok (.aload_n 0, 1) := by decide +kernel
theorem dX6_withBeds_23 : decode cX6_withBeds 23 = .ok (.getfield 10, 3) := by decide +kernel
theorem dX6_withBeds_26 : decode cX6_withBeds 26 = .ok (.getfield 151, 3) := by decide +kernel
theorem dX6_withBeds_29 : decode cX6_withBeds 29 = .ok (.iload 5, 2) := by decide +kernel
theorem dX6_withBeds_31 : decode cX6_withBeds 31 = .ok (.iload 6, 2) := by decide +kernel
theorem dX6_withBeds_33 : decode cX6_withBeds 33 = .ok (.invokevirtual 155, 3) := by decide +kernel
theorem dX6_withBeds_36 : decode cX6_withBeds 36 = .ok (.i2l, 1) := by decide +kernel
theorem dX6_withBeds_37 : decode cX6_withBeds 37 = .ok (.invokestatic 207, 3) := by decide +kernel
theorem dX6_withBeds_40 : decode cX6_withBeds 40 = .ok (.lstore_n 3, 1) := by decide +kernel
theorem dX6_withBeds_41 : decode cX6_withBeds 41 = .ok (.iinc 6 1, 3) := by decide +kernel
theorem dX6_withBeds_44 : decode cX6_withBeds 44 = .ok (.goto (-30), 3) := by decide +kernel
theorem dX6_withBeds_47 : decode cX6_withBeds 47 = .ok (.iinc 5 1, 3) := by decide +kernel
theorem dX6_withBeds_50 : decode cX6_withBeds 50 = .ok (.goto (-45), 3) := by decide +kernel
theorem dX6_withBeds_53 : decode cX6_withBeds 53 = .ok (.lload_n 3, 1) := by decide +kernel
theorem dX6_withBeds_54 : decode cX6_withBeds 54 = .ok (.lreturn, 1) := by decide +kernel
theorem dX6_withLodgers_0 : decode cX6_withLodgers 0 = .ok (.lload_n 1, 1) := by decide +kernel
theorem dX6_withLodgers_1 : decode cX6_withLodgers 1 = .ok (.lstore_n 3, 1) := by decide +kernel
theorem dX6_withLodgers_2 : decode cX6_withLodgers 2 = .ok (.iconst 0, 1) := by decide +kernel
theorem dX6_withLodgers_3 : decode cX6_withLodgers 3 = .ok (.istore 5, 2) := by decide +kernel
theorem dX6_withLodgers_5 : decode cX6_withLodgers 5 = .ok (.iload 5, 2) := by decide +kernel
theorem dX6_withLodgers_7 : decode cX6_withLodgers 7 = .ok (.bipush 10, 2) := by decide +kernel
theorem dX6_withLodgers_9 : decode cX6_withLodgers 9 = .ok (.if_icmp .ge 117, 3) := by decide +kernel
theorem dX6_withLodgers_12 : decode cX6_withLodgers 12 = .ok (.iconst 0, 1) := by decide +kernel
theorem dX6_withLodgers_13 : decode cX6_withLodgers 13 = .ok (.istore 6, 2) := by decide +kernel
theorem dX6_withLodgers_15 : decode cX6_withLodgers 15 = .ok (.iload 6, 2) := by decide +kernel
theorem dX6_withLodgers_17 : decode cX6_withLodgers 17 = .ok (.bipush 7, 2) := by decide +kernel
theorem dX6_withLodgers_19 : decode cX6_withLodgers 19 = .ok (.if_icmp .ge 26, 3) := by decide +kernel
theorem dX6_withLodgers_22 : decode cX6_withLodgers 22 = .ok (.lload_n 3, 1) := by decide +kernel
theorem dX6_withLodgers_23 : decode cX6_withLodgers 23 = .ok (.aload_n 0, 1) := by decide +kernel
theorem dX6_withLodgers_24 : decode cX6_withLodgers 24 = .ok (.getfield 10, 3) := by decide +kernel
theorem dX6_withLodgers_27 : decode cX6_withLodgers 27 = .ok (.iload 5, 2) := by decide +kernel
theorem dX6_withLodgers_29 : decode cX6_withLodgers 29 = .ok (.iload 6, 2) := by decide +kernel
theorem dX6_withLodgers_31 : decode cX6_withLodgers 31 = .ok (.invokevirtual 163, 3) := by decide +kernel
theorem dX6_withLodgers_34 : decode cX6_withLodgers 34 = .ok (.i2l, 1) := by decide +kernel
theorem dX6_withLodgers_35 : decode cX6_withLodgers 35 = .ok (.invokestatic 207, 3) := by decide +kernel
theorem dX6_withLodgers_38 : decode cX6_withLodgers 38 = .ok (.lstore_n 3, 1) := by decide +kernel
theorem dX6_withLodgers_39 : decode cX6_withLodgers 39 = .ok (.iinc 6 1, 3) := by decide +kernel
theorem dX6_withLodgers_42 : decode cX6_withLodgers 42 = .ok (.goto (-27), 3) := by decide +kernel
theorem dX6_withLodgers_45 : decode cX6_withLodgers 45 = .ok (.lload_n 3, 1) := by decide +kernel
theorem dX6_withLodgers_46 : decode cX6_withLodgers 46 = .ok (.aload_n 0, 1) := by decide +kernel
theorem dX6_withLodgers_47 : decode cX6_withLodgers 47 = .ok (.getfield 10, 3) := by decide +kernel
theorem dX6_withLodgers_50 : decode cX6_withLodgers 50 = .ok (.getfield 151, 3) := by decide +kernel
theorem dX6_withLodgers_53 : decode cX6_withLodgers 53 = .ok (.iload 5, 2) := by decide +kernel
theorem dX6_withLodgers_55 : decode cX6_withLodgers 55 = .ok (.iconst 0, 1) := by decide +kernel
theorem dX6_withLodgers_56 : decode cX6_withLodgers 56 = .ok (.invokevirtual 185, 3) := by decide +kernel
theorem dX6_withLodgers_59 : decode cX6_withLodgers 59 = .ok (.i2l, 1) := by decide +kernel
theorem dX6_withLodgers_60 : decode cX6_withLodgers 60 = .ok (.invokestatic 207, 3) := by decide +kernel
theorem dX6_withLodgers_63 : decode cX6_withLodgers 63 = .ok (.lstore_n 3, 1) := by decide +kernel
theorem dX6_withLodgers_64 : decode cX6_withLodgers 64 = .ok (.lload_n 3, 1) := by decide +kernel
theorem dX6_withLodgers_65 : decode cX6_withLodgers 65 = .ok (.aload_n 0, 1) := by decide +kernel
theorem dX6_withLodgers_66 : decode cX6_withLodgers 66 = .ok (.getfield 10, 3) := by decide +kernel
theorem dX6_withLodgers_69 : decode cX6_withLodgers 69 = .ok (.getfield 151, 3) := by decide +kernel
theorem dX6_withLodgers_72 : decode cX6_withLodgers 72 = .ok (.iload 5, 2) := by decide +kernel
theorem dX6_withLodgers_74 : decode cX6_withLodgers 74 = .ok (.bipush 6, 2) := by decide +kernel
theorem dX6_withLodgers_76 : decode cX6_withLodgers 76 = .ok (.invokevirtual 185, 3) := by decide +kernel
theorem dX6_withLodgers_79 : decode cX6_withLodgers 79 = .ok (.i2l, 1) := by decide +kernel
theorem dX6_withLodgers_80 : decode cX6_withLodgers 80 = .ok (.invokestatic 207, 3) := by decide +kernel
theorem dX6_withLodgers_83 : decode cX6_withLodgers 83 = .ok (.lstore_n 3, 1) := by decide +kernel
theorem dX6_withLodgers_84 : decode cX6_withLodgers 84 = .ok (.lload_n 3, 1) := by decide +kernel
theorem dX6_withLodgers_85 : decode cX6_withLodgers 85 = .ok (.aload_n 0, 1) := by decide +kernel
theorem dX6_withLodgers_86 : decode cX6_withLodgers 86 = .ok (.getfield 10, 3) := by decide +kernel
theorem dX6_withLodgers_89 : decode cX6_withLodgers 89 = .ok (.iload 5, 2) := by decide +kernel
theorem dX6_withLodgers_91 : decode cX6_withLodgers 91 = .ok (.bipush 8, 2) := by decide +kernel
theorem dX6_withLodgers_93 : decode cX6_withLodgers 93 = .ok (.iconst 3, 1) := by decide +kernel
theorem dX6_withLodgers_94 : decode cX6_withLodgers 94 = .ok (.invokevirtual 172, 3) := by decide +kernel
theorem dX6_withLodgers_97 : decode cX6_withLodgers 97 = .ok (.i2l, 1) := by decide +kernel
theorem dX6_withLodgers_98 : decode cX6_withLodgers 98 = .ok (.invokestatic 207, 3) := by decide +kernel
theorem dX6_withLodgers_101 : decode cX6_withLodgers 101 = .ok (.lstore_n 3, 1) := by decide +kernel
theorem dX6_withLodgers_102 : decode cX6_withLodgers 102 = .ok (.lload_n 3, 1) := by decide +kernel
theorem dX6_withLodgers_103 : decode cX6_withLodgers 103 = .ok (.aload_n 0, 1) := by decide +kernel
theorem dX6_withLodgers_104 : decode cX6_withLodgers 104 = .ok (.getfield 10, 3) := by decide +kernel
theorem dX6_withLodgers_107 : decode cX6_withLodgers 107 = .ok (.iload 5, 2) := by decide +kernel
theorem dX6_withLodgers_109 : decode cX6_withLodgers 109 = .ok (.bipush 8, 2) := by decide +kernel
theorem dX6_withLodgers_111 : decode cX6_withLodgers 111 = .ok (.iconst 3, 1) := by decide +kernel
theorem dX6_withLodgers_112 : decode cX6_withLodgers 112 = .ok (.invokevirtual 175, 3) := by decide +kernel
theorem dX6_withLodgers_115 : decode cX6_withLodgers 115 = .ok (.i2l, 1) := by decide +kernel
theorem dX6_withLodgers_116 : decode cX6_withLodgers 116 = .ok (.invokestatic 207, 3) := by decide +kernel
theorem dX6_withLodgers_119 : decode cX6_withLodgers 119 = .ok (.lstore_n 3, 1) := by decide +kernel
theorem dX6_withLodgers_120 : decode cX6_withLodgers 120 = .ok (.iinc 5 1, 3) := by decide +kernel
theorem dX6_withLodgers_123 : decode cX6_withLodgers 123 = .ok (.goto (-118), 3) := by decide +kernel
theorem dX6_withLodgers_126 : decode cX6_withLodgers 126 = .ok (.lload_n 3, 1) := by decide +kernel
theorem dX6_withLodgers_127 : decode cX6_withLodgers 127 = .ok (.lreturn, 1) := by decide +kernel
theorem dX6_withText_0 : decode cX6_withText 0 = .ok (.lload_n 1, 1) := by decide +kernel
theorem dX6_withText_1 : decode cX6_withText 1 = .ok (.aload_n 0, 1) := by decide +kernel
theorem dX6_withText_2 : decode cX6_withText 2 = .ok (.getfield 38, 3) := by decide +kernel
theorem dX6_withText_5 : decode cX6_withText 5 = .ok (.invokevirtual 220, 3) := by decide +kernel
theorem dX6_withText_8 : decode cX6_withText 8 = .ok (.i2l, 1) := by decide +kernel
theorem dX6_withText_9 : decode cX6_withText 9 = .ok (.invokestatic 207, 3) := by decide +kernel
theorem dX6_withText_12 : decode cX6_withText 12 = .ok (.lstore_n 3, 1) := by decide +kernel
theorem dX6_withText_13 : decode cX6_withText 13 = .ok (.iconst 0, 1) := by decide +kernel
theorem dX6_withText_14 : decode cX6_withText 14 = .ok (.istore 5, 2) := by decide +kernel
theorem dX6_withText_16 : decode cX6_withText 16 = .ok (.iload 5, 2) := by decide +kernel
theorem dX6_withText_18 : decode cX6_withText 18 = .ok (.aload_n 0, 1) := by decide +kernel
theorem dX6_withText_19 : decode cX6_withText 19 = .ok (.getfield 38, 3) := by decide +kernel
theorem dX6_withText_22 : decode cX6_withText 22 = .ok (.invokevirtual 220, 3) := by decide +kernel
theorem dX6_withText_25 : decode cX6_withText 25 = .ok (.if_icmp .ge 24, 3) := by decide +kernel
theorem dX6_withText_28 : decode cX6_withText 28 = .ok (.lload_n 3, 1) := by decide +kernel
theorem dX6_withText_29 : decode cX6_withText 29 = .ok (.aload_n 0, 1) := by decide +kernel
theorem dX6_withText_30 : decode cX6_withText 30 = .ok (.getfield 38, 3) := by decide +kernel
theorem dX6_withText_33 : decode cX6_withText 33 = .ok (.iload 5, 2) := by decide +kernel
theorem dX6_withText_35 : decode cX6_withText 35 = .ok (.invokevirtual 223, 3) := by decide +kernel
theorem dX6_withText_38 : decode cX6_withText 38 = .ok (.i2l, 1) := by decide +kernel
theorem dX6_withText_39 : decode cX6_withText 39 = .ok (.invokestatic 207, 3) := by decide +kernel
theorem dX6_withText_42 : decode cX6_withText 42 = .ok (.lstore_n 3, 1) := by decide +kernel
theorem dX6_withText_43 : decode cX6_withText 43 = .ok (.iinc 5 1, 3) := by decide +kernel
theorem dX6_withText_46 : decode cX6_withText 46 = .ok (.goto (-30), 3) := by decide +kernel
theorem dX6_withText_49 : decode cX6_withText 49 = .ok (.lload_n 3, 1) := by decide +kernel
theorem dX6_withText_50 : decode cX6_withText 50 = .ok (.lreturn, 1) := by decide +kernel
theorem dX6_bitsOf_0 : decode cX6_bitsOf 0 = .ok (.dload_n 0, 1) := by decide +kernel
theorem dX6_bitsOf_1 : decode cX6_bitsOf 1 = .ok (.dconst 0, 1) := by decide +kernel
theorem dX6_bitsOf_2 : decode cX6_bitsOf 2 = .ok (.dcmp .l, 1) := by decide +kernel
theorem dX6_bitsOf_3 : decode cX6_bitsOf 3 = .ok (.ifCond .gt 5, 3) := by decide +kernel
theorem dX6_bitsOf_6 : decode cX6_bitsOf 6 = .ok (.lconst 0, 1) := by decide +kernel
theorem dX6_bitsOf_7 : decode cX6_bitsOf 7 = .ok (.lreturn, 1) := by decide +kernel
theorem dX6_bitsOf_8 : decode cX6_bitsOf 8 = .ok (.dload_n 0, 1) := by decide +kernel
theorem dX6_bitsOf_9 : decode cX6_bitsOf 9 = .ok (.dstore_n 2, 1) := by decide +kernel
theorem dX6_bitsOf_10 : decode cX6_bitsOf 10 = .ok (.ldc2_w 226, 3) := by decide +kernel
theorem dX6_bitsOf_13 : decode cX6_bitsOf 13 = .ok (.lstore 4, 2) := by decide +kernel
theorem dX6_bitsOf_15 : decode cX6_bitsOf 15 = .ok (.iconst 0, 1) := by decide +kernel
theorem dX6_bitsOf_16 : decode cX6_bitsOf 16 = .ok (.istore 6, 2) := by decide +kernel
theorem dX6_bitsOf_18 : decode cX6_bitsOf 18 = .ok (.iload 6, 2) := by decide +kernel
theorem dX6_bitsOf_20 : decode cX6_bitsOf 20 = .ok (.sipush 1022, 3) := by decide +kernel
theorem dX6_bitsOf_23 : decode cX6_bitsOf 23 = .ok (.if_icmp .ge 27, 3) := by decide +kernel
theorem dX6_bitsOf_26 : decode cX6_bitsOf 26 = .ok (.dload_n 2, 1) := by decide +kernel
theorem dX6_bitsOf_27 : decode cX6_bitsOf 27 = .ok (.dconst 1, 1) := by decide +kernel
theorem dX6_bitsOf_28 : decode cX6_bitsOf 28 = .ok (.dcmp .g, 1) := by decide +kernel
theorem dX6_bitsOf_29 : decode cX6_bitsOf 29 = .ok (.ifCond .ge 21, 3) := by decide +kernel
theorem dX6_bitsOf_32 : decode cX6_bitsOf 32 = .ok (.dload_n 2, 1) := by decide +kernel
theorem dX6_bitsOf_33 : decode cX6_bitsOf 33 = .ok (.ldc2_w 228, 3) := by decide +kernel
theorem dX6_bitsOf_36 : decode cX6_bitsOf 36 = .ok (.dmul, 1) := by decide +kernel
theorem dX6_bitsOf_37 : decode cX6_bitsOf 37 = .ok (.dstore_n 2, 1) := by decide +kernel
theorem dX6_bitsOf_38 : decode cX6_bitsOf 38 = .ok (.lload 4, 2) := by decide +kernel
theorem dX6_bitsOf_40 : decode cX6_bitsOf 40 = .ok (.lconst 1, 1) := by decide +kernel
theorem dX6_bitsOf_41 : decode cX6_bitsOf 41 = .ok (.lsub, 1) := by decide +kernel
theorem dX6_bitsOf_42 : decode cX6_bitsOf 42 = .ok (.lstore 4, 2) := by decide +kernel
theorem dX6_bitsOf_44 : decode cX6_bitsOf 44 = .ok (.iinc 6 1, 3) := by decide +kernel
theorem dX6_bitsOf_47 : decode cX6_bitsOf 47 = .ok (.goto (-29), 3) := by decide +kernel
theorem dX6_bitsOf_50 : decode cX6_bitsOf 50 = .ok (.ldc2_w 230, 3) := by decide +kernel
theorem dX6_bitsOf_53 : decode cX6_bitsOf 53 = .ok (.lstore 6, 2) := by decide +kernel
theorem dX6_bitsOf_55 : decode cX6_bitsOf 55 = .ok (.lload 4, 2) := by decide +kernel
theorem dX6_bitsOf_57 : decode cX6_bitsOf 57 = .ok (.bipush 52, 2) := by decide +kernel
theorem dX6_bitsOf_59 : decode cX6_bitsOf 59 = .ok (.lshl, 1) := by decide +kernel
theorem dX6_bitsOf_60 : decode cX6_bitsOf 60 = .ok (.dload_n 2, 1) := by decide +kernel
theorem dX6_bitsOf_61 : decode cX6_bitsOf 61 = .ok (.lload 6, 2) := by decide +kernel
theorem dX6_bitsOf_63 : decode cX6_bitsOf 63 = .ok (.l2d, 1) := by decide +kernel
theorem dX6_bitsOf_64 : decode cX6_bitsOf 64 = .ok (.dmul, 1) := by decide +kernel
theorem dX6_bitsOf_65 : decode cX6_bitsOf 65 = .ok (.d2l, 1) := by decide +kernel
theorem dX6_bitsOf_66 : decode cX6_bitsOf 66 = .ok (.lload 6, 2) := by decide +kernel
theorem dX6_bitsOf_68 : decode cX6_bitsOf 68 = .ok (.lsub, 1) := by decide +kernel
theorem dX6_bitsOf_69 : decode cX6_bitsOf 69 = .ok (.ladd, 1) := by decide +kernel
theorem dX6_bitsOf_70 : decode cX6_bitsOf 70 = .ok (.lreturn, 1) := by decide +kernel
theorem dX6_checkLodger_0 : decode cX6_checkLodger 0 = .ok (.iload_n 0, 1) := by decide +kernel
theorem dX6_checkLodger_1 : decode cX6_checkLodger 1 = .ok (.ifCond .lt 9, 3) := by decide +kernel
theorem dX6_checkLodger_4 : decode cX6_checkLodger 4 = .ok (.iload_n 0, 1) := by decide +kernel
theorem dX6_checkLodger_5 : decode cX6_checkLodger 5 = .ok (.bipush 10, 2) := by decide +kernel
theorem dX6_checkLodger_7 : decode cX6_checkLodger 7 = .ok (.if_icmp .lt 13, 3) := by decide +kernel
theorem dX6_checkLodger_10 : decode cX6_checkLodger 10 = .ok (.new 146, 3) := by decide +kernel
theorem dX6_checkLodger_13 : decode cX6_checkLodger 13 = .ok (.dup, 1) := by decide +kernel
theorem dX6_checkLodger_14 : decode cX6_checkLodger 14 = .ok (.ldc 232, 2) := by decide +kernel
theorem dX6_checkLodger_16 : decode cX6_checkLodger 16 = .ok (.invokespecial 150, 3) := by decide +kernel
theorem dX6_checkLodger_19 : decode cX6_checkLodger 19 = .ok (.athrow, 1) := by decide +kernel
theorem dX6_checkLodger_20 : decode cX6_checkLodger 20 = .ok (.return_, 1) := by decide +kernel
theorem dX6_checkHour_0 : decode cX6_checkHour 0 = .ok (.iload_n 0, 1) := by decide +kernel
theorem dX6_checkHour_1 : decode cX6_checkHour 1 = .ok (.iconst 0, 1) := by decide +kernel
theorem dX6_checkHour_2 : decode cX6_checkHour 2 = .ok (.bipush 11, 2) := by decide +kernel
theorem dX6_checkHour_4 : decode cX6_checkHour 4 = .ok (.invokestatic 160, 3) := by decide +kernel
theorem dX6_checkHour_7 : decode cX6_checkHour 7 = .ok (.return_, 1) := by decide +kernel
theorem dX6_checkNeed_0 : decode cX6_checkNeed 0 = .ok (.iload_n 0, 1) := by decide +kernel
theorem dX6_checkNeed_1 : decode cX6_checkNeed 1 = .ok (.iconst 0, 1) := by decide +kernel
theorem dX6_checkNeed_2 : decode cX6_checkNeed 2 = .ok (.bipush 9, 2) := by decide +kernel
theorem dX6_checkNeed_4 : decode cX6_checkNeed 4 = .ok (.invokestatic 160, 3) := by decide +kernel
theorem dX6_checkNeed_7 : decode cX6_checkNeed 7 = .ok (.return_, 1) := by decide +kernel
theorem dX6_checkSlot_0 : decode cX6_checkSlot 0 = .ok (.iload_n 0, 1) := by decide +kernel
theorem dX6_checkSlot_1 : decode cX6_checkSlot 1 = .ok (.iconst 0, 1) := by decide +kernel
theorem dX6_checkSlot_2 : decode cX6_checkSlot 2 = .ok (.iconst 1, 1) := by decide +kernel
theorem dX6_checkSlot_3 : decode cX6_checkSlot 3 = .ok (.invokestatic 160, 3) := by decide +kernel
theorem dX6_checkSlot_6 : decode cX6_checkSlot 6 = .ok (.return_, 1) := by decide +kernel
theorem dX6_checkRange_0 : decode cX6_checkRange 0 = .ok (.iload_n 0, 1) := by decide +kernel
theorem dX6_checkRange_1 : decode cX6_checkRange 1 = .ok (.iload_n 1, 1) := by decide +kernel
theorem dX6_checkRange_2 : decode cX6_checkRange 2 = .ok (.if_icmp .lt 8, 3) := by decide +kernel
theorem dX6_checkRange_5 : decode cX6_checkRange 5 = .ok (.iload_n 0, 1) := by decide +kernel
theorem dX6_checkRange_6 : decode cX6_checkRange 6 = .ok (.iload_n 2, 1) := by decide +kernel
theorem dX6_checkRange_7 : decode cX6_checkRange 7 = .ok (.if_icmp .le 13, 3) := by decide +kernel
theorem dX6_checkRange_10 : decode cX6_checkRange 10 = .ok (.new 91, 3) := by decide +kernel
theorem dX6_checkRange_13 : decode cX6_checkRange 13 = .ok (.dup, 1) := by decide +kernel
theorem dX6_checkRange_14 : decode cX6_checkRange 14 = .ok (.ldc 234, 2) := by decide +kernel
theorem dX6_checkRange_16 : decode cX6_checkRange 16 = .ok (.invokespecial 95, 3) := by decide +kernel
theorem dX6_checkRange_19 : decode cX6_checkRange 19 = .ok (.athrow, 1) := by decide +kernel
theorem dX6_checkRange_20 : decode cX6_checkRange 20 = .ok (.return_, 1) := by decide +kernel
theorem dX6_checkAsking_0 : decode cX6_checkAsking 0 = .ok (.iload_n 0, 1) := by decide +kernel
theorem dX6_checkAsking_1 : decode cX6_checkAsking 1 = .ok (.invokestatic 53, 3) := by decide +kernel
theorem dX6_checkAsking_4 : decode cX6_checkAsking 4 = .ok (.iload_n 1, 1) := by decide +kernel
theorem dX6_checkAsking_5 : decode cX6_checkAsking 5 = .ok (.iload_n 2, 1) := by decide +kernel
theorem dX6_checkAsking_6 : decode cX6_checkAsking 6 = .ok (.invokestatic 236, 3) := by decide +kernel
theorem dX6_checkAsking_9 : decode cX6_checkAsking 9 = .ok (.ifCond .ne 13, 3) := by decide +kernel
theorem dX6_checkAsking_12 : decode cX6_checkAsking 12 = .ok (.new 91, 3) := by decide +kernel
theorem dX6_checkAsking_15 : decode cX6_checkAsking 15 = .ok (.dup, 1) := by decide +kernel
theorem dX6_checkAsking_16 : decode cX6_checkAsking 16 = .ok (.ldc 240, 2) := by decide +kernel
theorem dX6_checkAsking_18 : decode cX6_checkAsking 18 = .ok (.invokespecial 95, 3) := by decide +kernel
theorem dX6_checkAsking_21 : decode cX6_checkAsking 21 = .ok (.athrow, 1) := by decide +kernel
theorem dX6_checkAsking_22 : decode cX6_checkAsking 22 = .ok (.return_, 1) := by decide +kernel
theorem dX6_isWithinNight_0 : decode cX6_isWithinNight 0 = .ok (.iload_n 0, 1) := by decide +kernel
theorem dX6_isWithinNight_1 : decode cX6_isWithinNight 1 = .ok (.ifCond .lt 32, 3) := by decide +kernel
theorem dX6_isWithinNight_4 : decode cX6_isWithinNight 4 = .ok (.iload_n 0, 1) := by decide +kernel
theorem dX6_isWithinNight_5 : decode cX6_isWithinNight 5 = .ok (.bipush 12, 2) := by decide +kernel
theorem dX6_isWithinNight_7 : decode cX6_isWithinNight 7 = .ok (.if_icmp .ge 26, 3) := by decide +kernel
theorem dX6_isWithinNight_10 : decode cX6_isWithinNight 10 = .ok (.iload_n 1, 1) := by decide +kernel
theorem dX6_isWithinNight_11 : decode cX6_isWithinNight 11 = .ok (.iconst 1, 1) := by decide +kernel
theorem dX6_isWithinNight_12 : decode cX6_isWithinNight 12 = .ok (.if_icmp .lt 21, 3) := by decide +kernel
theorem dX6_isWithinNight_15 : decode cX6_isWithinNight 15 = .ok (.iload_n 1, 1) := by decide +kernel
theorem dX6_isWithinNight_16 : decode cX6_isWithinNight 16 = .ok (.bipush 9, 2) := by decide +kernel
theorem dX6_isWithinNight_18 : decode cX6_isWithinNight 18 = .ok (.if_icmp .gt 15, 3) := by decide +kernel
theorem dX6_isWithinNight_21 : decode cX6_isWithinNight 21 = .ok (.iload_n 0, 1) := by decide +kernel
theorem dX6_isWithinNight_22 : decode cX6_isWithinNight 22 = .ok (.iload_n 1, 1) := by decide +kernel
theorem dX6_isWithinNight_23 : decode cX6_isWithinNight 23 = .ok (.iadd, 1) := by decide +kernel
theorem dX6_isWithinNight_24 : decode cX6_isWithinNight 24 = .ok (.bipush 12, 2) := by decide +kernel
theorem dX6_isWithinNight_26 : decode cX6_isWithinNight 26 = .ok (.if_icmp .gt 7, 3) := by decide +kernel
theorem dX6_isWithinNight_29 : decode cX6_isWithinNight 29 = .ok (.iconst 1, 1) := by decide +kernel
theorem dX6_isWithinNight_30 : decode cX6_isWithinNight 30 = .ok (.goto 4, 3) := by decide +kernel
theorem dX6_isWithinNight_33 : decode cX6_isWithinNight 33 = .ok (.iconst 0, 1) := by decide +kernel
theorem dX6_isWithinNight_34 : decode cX6_isWithinNight 34 = .ok (.ireturn, 1) := by decide +kernel
theorem dX6_accountOf_0 : decode cX6_accountOf 0 = .ok (.iload_n 1, 1) := by decide +kernel
theorem dX6_accountOf_1 : decode cX6_accountOf 1 = .ok (.bipush 11, 2) := by decide +kernel
theorem dX6_accountOf_3 : decode cX6_accountOf 3 = .ok (.if_icmp .ne 10, 3) := by decide +kernel
theorem dX6_accountOf_6 : decode cX6_accountOf 6 = .ok (.aload_n 0, 1) := by decide +kernel
theorem dX6_accountOf_7 : decode cX6_accountOf 7 = .ok (.getfield 137, 3) := by decide +kernel
theorem dX6_accountOf_10 : decode cX6_accountOf 10 = .ok (.goto 11, 3) := by decide +kernel
theorem dX6_accountOf_13 : decode cX6_accountOf 13 = .ok (.aload_n 0, 1) := by decide +kernel
theorem dX6_accountOf_14 : decode cX6_accountOf 14 = .ok (.getfield 10, 3) := by decide +kernel
theorem dX6_accountOf_17 : decode cX6_accountOf 17 = .ok (.iload_n 1, 1) := by decide +kernel
theorem dX6_accountOf_18 : decode cX6_accountOf 18 = .ok (.invokevirtual 125, 3) := by decide +kernel
theorem dX6_accountOf_21 : decode cX6_accountOf 21 = .ok (.ireturn, 1) := by decide +kernel
theorem dX6_saveState_0 : decode cX6_saveState 0 = .ok (.aload_n 0, 1) := by decide +kernel
theorem dX6_saveState_1 : decode cX6_saveState 1 = .ok (.getfield 25, 3) := by decide +kernel
theorem dX6_saveState_4 : decode cX6_saveState 4 = .ok (.aload_n 0, 1) := by decide +kernel
theorem dX6_saveState_5 : decode cX6_saveState 5 = .ok (.getfield 143, 3) := by decide +kernel
theorem dX6_saveState_8 : decode cX6_saveState 8 = .ok (.aload_n 0, 1) := by decide +kernel
theorem dX6_saveState_9 : decode cX6_saveState 9 = .ok (.getfield 10, 3) := by decide +kernel
theorem dX6_saveState_12 : decode cX6_saveState 12 = .ok (.invokevirtual 121, 3) := by decide +kernel
theorem dX6_saveState_15 : decode cX6_saveState 15 = .ok (.aload_n 0, 1) := by decide +kernel
theorem dX6_saveState_16 : decode cX6_saveState 16 = .ok (.aload_n 0, 1) := by decide +kernel
theorem dX6_saveState_17 : decode cX6_saveState 17 = .ok (.getfield 143, 3) := by decide +kernel
theorem dX6_saveState_20 : decode cX6_saveState 20 = .ok (.iconst 1, 1) := by decide +kernel
theorem dX6_saveState_21 : decode cX6_saveState 21 = .ok (.iadd, 1) := by decide +kernel
theorem dX6_saveState_22 : decode cX6_saveState 22 = .ok (.bipush 6, 2) := by decide +kernel
theorem dX6_saveState_24 : decode cX6_saveState 24 = .ok (.if_icmp .ge 12, 3) := by decide +kernel
theorem dX6_saveState_27 : decode cX6_saveState 27 = .ok (.aload_n 0, 1) := by decide +kernel
theorem dX6_saveState_28 : decode cX6_saveState 28 = .ok (.getfield 143, 3) := by decide +kernel
theorem dX6_saveState_31 : decode cX6_saveState 31 = .ok (.iconst 1, 1) := by decide +kernel
theorem dX6_saveState_32 : decode cX6_saveState 32 = .ok (.iadd, 1) := by decide +kernel
theorem dX6_saveState_33 : decode cX6_saveState 33 = .ok (.goto 4, 3) := by decide +kernel
theorem dX6_saveState_36 : decode cX6_saveState 36 = .ok (.iconst 0, 1) := by decide +kernel
theorem dX6_saveState_37 : decode cX6_saveState 37 = .ok (.putfield 143, 3) := by decide +kernel
theorem dX6_saveState_40 : decode cX6_saveState 40 = .ok (.aload_n 0, 1) := by decide +kernel
theorem dX6_saveState_41 : decode cX6_saveState 41 = .ok (.getfield 137, 3) := by decide +kernel
theorem dX6_saveState_44 : decode cX6_saveState 44 = .ok (.bipush 6, 2) := by decide +kernel
theorem dX6_saveState_46 : decode cX6_saveState 46 = .ok (.if_icmp .ge 13, 3) := by decide +kernel
theorem dX6_saveState_49 : decode cX6_saveState 49 = .ok (.aload_n 0, 1) := by decide +kernel
theorem dX6_saveState_50 : decode cX6_saveState 50 = .ok (.dup, 1) := by decide +kernel
theorem dX6_saveState_51 : decode cX6_saveState 51 = .ok (.getfield 137, 3) := by decide +kernel
theorem dX6_saveState_54 : decode cX6_saveState 54 = .ok (.iconst 1, 1) := by decide +kernel
theorem dX6_saveState_55 : decode cX6_saveState 55 = .ok (.iadd, 1) := by decide +kernel
theorem dX6_saveState_56 : decode cX6_saveState 56 = .ok (.putfield 137, 3) := by decide +kernel
theorem dX6_saveState_59 : decode cX6_saveState 59 = .ok (.return_, 1) := by decide +kernel
theorem dX6_doText_0 : decode cX6_doText 0 = .ok (.iconst 0, 1) := by decide +kernel
theorem dX6_doText_1 : decode cX6_doText 1 = .ok (.istore_n 1, 1) := by decide +kernel
theorem dX6_doText_2 : decode cX6_doText 2 = .ok (.iconst 0, 1) := by decide +kernel
theorem dX6_doText_3 : decode cX6_doText 3 = .ok (.istore_n 2, 1) := by decide +kernel
theorem dX6_doText_4 : decode cX6_doText 4 = .ok (.iload_n 2, 1) := by decide +kernel
theorem dX6_doText_5 : decode cX6_doText 5 = .ok (.aload_n 0, 1) := by decide +kernel
theorem dX6_doText_6 : decode cX6_doText 6 = .ok (.getfield 38, 3) := by decide +kernel
theorem dX6_doText_9 : decode cX6_doText 9 = .ok (.invokevirtual 220, 3) := by decide +kernel
theorem dX6_doText_12 : decode cX6_doText 12 = .ok (.if_icmp .ge 95, 3) := by decide +kernel
theorem dX6_doText_15 : decode cX6_doText 15 = .ok (.aload_n 0, 1) := by decide +kernel
theorem dX6_doText_16 : decode cX6_doText 16 = .ok (.iload_n 2, 1) := by decide +kernel
theorem dX6_doText_17 : decode cX6_doText 17 = .ok (.invokevirtual 242, 3) := by decide +kernel
theorem dX6_doText_20 : decode cX6_doText 20 = .ok (.ifCond .eq 87, 3) := by decide +kernel
theorem dX6_doText_23 : decode cX6_doText 23 = .ok (.aload_n 0, 1) := by decide +kernel
theorem dX6_doText_24 : decode cX6_doText 24 = .ok (.getfield 38, 3) := by decide +kernel
theorem dX6_doText_27 : decode cX6_doText 27 = .ok (.iload_n 2, 1) := by decide +kernel
theorem dX6_doText_28 : decode cX6_doText 28 = .ok (.invokevirtual 245, 3) := by decide +kernel
theorem dX6_doText_31 : decode cX6_doText 31 = .ok (.ifCond .eq 20, 3) := by decide +kernel
theorem dX6_doText_34 : decode cX6_doText 34 = .ok (.aload_n 0, 1) := by decide +kernel
theorem dX6_doText_35 : decode cX6_doText 35 = .ok (.getfield 10, 3) := by decide +kernel
theorem dX6_doText_38 : decode cX6_doText 38 = .ok (.invokevirtual 84, 3) := by decide +kernel
theorem dX6_doText_41 : decode cX6_doText 41 = .ok (.pop, 1) := by decide +kernel
theorem dX6_doText_42 : decode cX6_doText 42 = .ok (.iinc 1 1, 3) := by decide +kernel
theorem dX6_doText_45 : decode cX6_doText 45 = .ok (.iinc 2 2, 3) := by decide +kernel
theorem dX6_doText_48 : decode cX6_doText 48 = .ok (.goto (-44), 3) := by decide +kernel
theorem dX6_doText_51 : decode cX6_doText 51 = .ok (.aload_n 0, 1) := by decide +kernel
theorem dX6_doText_52 : decode cX6_doText 52 = .ok (.getfield 38, 3) := by decide +kernel
theorem dX6_doText_55 : decode cX6_doText 55 = .ok (.iload_n 2, 1) := by decide +kernel
theorem dX6_doText_56 : decode cX6_doText 56 = .ok (.invokevirtual 248, 3) := by decide +kernel
theorem dX6_doText_59 : decode cX6_doText 59 = .ok (.istore_n 3, 1) := by decide +kernel
theorem dX6_doText_60 : decode cX6_doText 60 = .ok (.aload_n 0, 1) := by decide +kernel
theorem dX6_doText_61 : decode cX6_doText 61 = .ok (.getfield 10, 3) := by decide +kernel
theorem dX6_doText_64 : decode cX6_doText 64 = .ok (.aload_n 0, 1) := by decide +kernel
theorem dX6_doText_65 : decode cX6_doText 65 = .ok (.getfield 38, 3) := by decide +kernel
theorem dX6_doText_68 : decode cX6_doText 68 = .ok (.iload_n 2, 1) := by decide +kernel
theorem dX6_doText_69 : decode cX6_doText 69 = .ok (.invokevirtual 251, 3) := by decide +kernel
theorem dX6_doText_72 : decode cX6_doText 72 = .ok (.iload_n 3, 1) := by decide +kernel
theorem dX6_doText_73 : decode cX6_doText 73 = .ok (.aload_n 0, 1) := by decide +kernel
theorem dX6_doText_74 : decode cX6_doText 74 = .ok (.getfield 38, 3) := by decide +kernel
theorem dX6_doText_77 : decode cX6_doText 77 = .ok (.iload_n 2, 1) := by decide +kernel
theorem dX6_doText_78 : decode cX6_doText 78 = .ok (.invokevirtual 254, 3) := by decide +kernel
theorem dX6_doText_81 : decode cX6_doText 81 = .ok (.invokevirtual 49, 3) := by decide +kernel
theorem dX6_doText_84 : decode cX6_doText 84 = .ok (.istore 4, 2) := by decide +kernel
theorem dX6_doText_86 : decode cX6_doText 86 = .ok (.iload_n 1, 1) := by decide +kernel
theorem dX6_doText_87 : decode cX6_doText 87 = .ok (.iload 4, 2) := by decide +kernel
theorem dX6_doText_89 : decode cX6_doText 89 = .ok (.bipush 10, 2) := by decide +kernel
theorem dX6_doText_91 : decode cX6_doText 91 = .ok (.if_icmp .lt 7, 3) := by decide +kernel
theorem dX6_doText_94 : decode cX6_doText 94 = .ok (.iconst 1, 1) := by decide +kernel
theorem dX6_doText_95 : decode cX6_doText 95 = .ok (.goto 4, 3) := by decide +kernel
theorem dX6_doText_98 : decode cX6_doText 98 = .ok (.iconst 0, 1) := by decide +kernel
theorem dX6_doText_99 : decode cX6_doText 99 = .ok (.iadd, 1) := by decide +kernel
theorem dX6_doText_100 : decode cX6_doText 100 = .ok (.istore_n 1, 1) := by decide +kernel
theorem dX6_doText_101 : decode cX6_doText 101 = .ok (.iinc 2 5, 3) := by decide +kernel
theorem dX6_doText_104 : decode cX6_doText 104 = .ok (.goto (-100), 3) := by decide +kernel
theorem dX6_doText_107 : decode cX6_doText 107 = .ok (.iload_n 1, 1) := by decide +kernel
theorem dX6_doText_108 : decode cX6_doText 108 = .ok (.ireturn, 1) := by decide +kernel
theorem dX6_canDo_0 : decode cX6_canDo 0 = .ok (.aload_n 0, 1) := by decide +kernel
theorem dX6_canDo_1 : decode cX6_canDo 1 = .ok (.getfield 38, 3) := by decide +kernel
theorem dX6_canDo_4 : decode cX6_canDo 4 = .ok (.iload_n 1, 1) := by decide +kernel
theorem dX6_canDo_5 : decode cX6_canDo 5 = .ok (.invokevirtual 245, 3) := by decide +kernel
theorem dX6_canDo_8 : decode cX6_canDo 8 = .ok (.ifCond .eq 11, 3) := by decide +kernel
theorem dX6_canDo_11 : decode cX6_canDo 11 = .ok (.aload_n 0, 1) := by decide +kernel
theorem dX6_canDo_12 : decode cX6_canDo 12 = .ok (.getfield 10, 3) := by decide +kernel
theorem dX6_canDo_15 : decode cX6_canDo 15 = .ok (.invokevirtual 73, 3) := by decide +kernel
theorem dX6_canDo_18 : decode cX6_canDo 18 = .ok (.ireturn, 1) := by decide +kernel
theorem dX6_canDo_19 : decode cX6_canDo 19 = .ok (.aload_n 0, 1) := by decide +kernel
theorem dX6_canDo_20 : decode cX6_canDo 20 = .ok (.getfield 38, 3) := by decide +kernel
theorem dX6_canDo_23 : decode cX6_canDo 23 = .ok (.iload_n 1, 1) := by decide +kernel
theorem dX6_canDo_24 : decode cX6_canDo 24 = .ok (.invokevirtual 248, 3) := by decide +kernel
theorem dX6_canDo_27 : decode cX6_canDo 27 = .ok (.aload_n 0, 1) := by decide +kernel
theorem dX6_canDo_28 : decode cX6_canDo 28 = .ok (.getfield 38, 3) := by decide +kernel
theorem dX6_canDo_31 : decode cX6_canDo 31 = .ok (.iload_n 1, 1) := by decide +kernel
theorem dX6_canDo_32 : decode cX6_canDo 32 = .ok (.invokevirtual 254, 3) := by decide +kernel
theorem dX6_canDo_35 : decode cX6_canDo 35 = .ok (.invokestatic 236, 3) := by decide +kernel
theorem dX6_canDo_38 : decode cX6_canDo 38 = .ok (.ireturn, 1) := by decide +kernel
theorem dX7_init_0 : decode cX7_init 0 = .ok (.aload_n 0, 1) := by decide +kernel
theorem dX7_init_1 : decode cX7_init 1 = .ok (.invokespecial 1, 3) := by decide +kernel
theorem dX7_init_4 : decode cX7_init 4 = .ok (.aload_n 0, 1) := by decide +kernel
theorem dX7_init_5 : decode cX7_init 5 = .ok (.bipush 120, 2) := by decide +kernel
theorem dX7_init_7 : decode cX7_init 7 = .ok (.newarray .int, 2) := by decide +kernel
theorem dX7_init_9 : decode cX7_init 9 = .ok (.putfield 7, 3) := by decide +kernel
theorem dX7_init_12 : decode cX7_init 12 = .ok (.aload_n 0, 1) := by decide +kernel
theorem dX7_init_13 : decode cX7_init 13 = .ok (.bipush 120, 2) := by decide +kernel
theorem dX7_init_15 : decode cX7_init 15 = .ok (.newarray .int, 2) := by decide +kernel
theorem dX7_init_17 : decode cX7_init 17 = .ok (.putfield 13, 3) := by decide +kernel
theorem dX7_init_20 : decode cX7_init 20 = .ok (.aload_n 0, 1) := by decide +kernel
theorem dX7_init_21 : decode cX7_init 21 = .ok (.sipush 720, 3) := by decide +kernel
theorem dX7_init_24 : decode cX7_init 24 = .ok (.newarray .int, 2) := by decide +kernel
theorem dX7_init_26 : decode cX7_init 26 = .ok (.putfield 16, 3) := by decide +kernel
theorem dX7_init_29 : decode cX7_init 29 = .ok (.aload_n 0, 1) := by decide +kernel
theorem dX7_init_30 : decode cX7_init 30 = .ok (.sipush 240, 3) := by decide +kernel
theorem dX7_init_33 : decode cX7_init 33 = .ok (.newarray .int, 2) := by decide +kernel
theorem dX7_init_35 : decode cX7_init 35 = .ok (.putfield 19, 3) := by decide +kernel
theorem dX7_init_38 : decode cX7_init 38 = .ok (.aload_n 0, 1) := by decide +kernel
theorem dX7_init_39 : decode cX7_init 39 = .ok (.bipush 60, 2) := by decide +kernel
theorem dX7_init_41 : decode cX7_init 41 = .ok (.newarray .int, 2) := by decide +kernel
theorem dX7_init_43 : decode cX7_init 43 = .ok (.putfield 22, 3) := by decide +kernel
theorem dX7_init_46 : decode cX7_init 46 = .ok (.iconst 0, 1) := by decide +kernel
theorem dX7_init_47 : decode cX7_init 47 = .ok (.istore_n 1, 1) := by decide +kernel
theorem dX7_init_48 : decode cX7_init 48 = .ok (.iload_n 1, 1) := by decide +kernel
theorem dX7_init_49 : decode cX7_init 49 = .ok (.bipush 10, 2) := by decide +kernel
theorem dX7_init_51 : decode cX7_init 51 = .ok (.if_icmp .ge 20, 3) := by decide +kernel
theorem dX7_init_54 : decode cX7_init 54 = .ok (.aload_n 0, 1) := by decide +kernel
theorem dX7_init_55 : decode cX7_init 55 = .ok (.getfield 7, 3) := by decide +kernel
theorem dX7_init_58 : decode cX7_init 58 = .ok (.iload_n 1, 1) := by decide +kernel
theorem dX7_init_59 : decode cX7_init 59 = .ok (.iconst 0, 1) := by decide +kernel
theorem dX7_init_60 : decode cX7_init 60 = .ok (.invokestatic 25, 3) := by decide +kernel
theorem dX7_init_63 : decode cX7_init 63 = .ok (.iload_n 1, 1) := by decide +kernel
theorem dX7_init_64 : decode cX7_init 64 = .ok (.iastore, 1) := by decide +kernel
theorem dX7_init_65 : decode cX7_init 65 = .ok (.iinc 1 1, 3) := by decide +kernel
theorem dX7_init_68 : decode cX7_init 68 = .ok (.goto (-20), 3) := by decide +kernel
theorem dX7_init_71 : decode cX7_init 71 = .ok (.iconst 0, 1) := by decide +kernel
theorem dX7_init_72 : decode cX7_init 72 = .ok (.istore_n 1, 1) := by decide +kernel
theorem dX7_init_73 : decode cX7_init 73 = .ok (.iload_n 1, 1) := by decide +kernel
theorem dX7_init_74 : decode cX7_init 74 = .ok (.bipush 48, 2) := by decide +kernel
theorem dX7_init_76 : decode cX7_init 76 = .ok (.if_icmp .ge 19, 3) := by decide +kernel
theorem dX7_init_79 : decode cX7_init 79 = .ok (.aload_n 0, 1) := by decide +kernel
theorem dX7_init_80 : decode cX7_init 80 = .ok (.getfield 7, 3) := by decide +kernel
theorem dX7_init_83 : decode cX7_init 83 = .ok (.bipush 60, 2) := by decide +kernel
theorem dX7_init_85 : decode cX7_init 85 = .ok (.iload_n 1, 1) := by decide +kernel
theorem dX7_init_86 : decode cX7_init 86 = .ok (.iadd, 1) := by decide +kernel
theorem dX7_init_87 : decode cX7_init 87 = .ok (.iconst (-1), 1) := by decide +kernel
theorem dX7_init_88 : decode cX7_init 88 = .ok (.iastore, 1) := by decide +kernel
theorem dX7_init_89 : decode cX7_init 89 = .ok (.iinc 1 1, 3) := by decide +kernel
theorem dX7_init_92 : decode cX7_init 92 = .ok (.goto (-19), 3) := by decide +kernel
theorem dX7_init_95 : decode cX7_init 95 = .ok (.aload_n 0, 1) := by decide +kernel
theorem dX7_init_96 : decode cX7_init 96 = .ok (.getfield 7, 3) := by decide +kernel
theorem dX7_init_99 : decode cX7_init 99 = .ok (.bipush 119, 2) := by decide +kernel
theorem dX7_init_101 : decode cX7_init 101 = .ok (.iconst 3, 1) := by decide +kernel
theorem dX7_init_102 : decode cX7_init 102 = .ok (.iastore, 1) := by decide +kernel
theorem dX7_init_103 : decode cX7_init 103 = .ok (.return_, 1) := by decide +kernel
theorem dX7_thrown_0 : decode cX7_thrown 0 = .ok (.aload_n 0, 1) := by decide +kernel
theorem dX7_thrown_1 : decode cX7_thrown 1 = .ok (.getfield 29, 3) := by decide +kernel
theorem dX7_thrown_4 : decode cX7_thrown 4 = .ok (.ireturn, 1) := by decide +kernel
theorem dX7_in_0 : decode cX7_in 0 = .ok (.iload_n 0, 1) := by decide +kernel
theorem dX7_in_1 : decode cX7_in 1 = .ok (.iload_n 1, 1) := by decide +kernel
theorem dX7_in_2 : decode cX7_in 2 = .ok (.if_icmp .lt 12, 3) := by decide +kernel
theorem dX7_in_5 : decode cX7_in 5 = .ok (.iload_n 0, 1) := by decide +kernel
theorem dX7_in_6 : decode cX7_in 6 = .ok (.iload_n 2, 1) := by decide +kernel
theorem dX7_in_7 : decode cX7_in 7 = .ok (.if_icmp .gt 7, 3) := by decide +kernel
theorem dX7_in_10 : decode cX7_in 10 = .ok (.iconst 1, 1) := by decide +kernel
theorem dX7_in_11 : decode cX7_in 11 = .ok (.goto 4, 3) := by decide +kernel
theorem dX7_in_14 : decode cX7_in 14 = .ok (.iconst 0, 1) := by decide +kernel
theorem dX7_in_15 : decode cX7_in 15 = .ok (.ireturn, 1) := by decide +kernel
theorem dX7_holds_0 : decode cX7_holds 0 = .ok (.aload_n 0, 1) := by decide +kernel
theorem dX7_holds_1 : decode cX7_holds 1 = .ok (.iload_n 1, 1) := by decide +kernel
theorem dX7_holds_2 : decode cX7_holds 2 = .ok (.putfield 29, 3) := by decide +kernel
theorem dX7_holds_5 : decode cX7_holds 5 = .ok (.iload_n 1, 1) := by decide +kernel
theorem dX7_holds_6 : decode cX7_holds 6 = .ok (.ifCond .ne 7, 3) := by decide +kernel
theorem dX7_holds_9 : decode cX7_holds 9 = .ok (.iconst 1, 1) := by decide +kernel
theorem dX7_holds_10 : decode cX7_holds 10 = .ok (.goto 4, 3) := by decide +kernel
theorem dX7_holds_13 : decode cX7_holds 13 = .ok (.iconst 0, 1) := by decide +kernel
theorem dX7_holds_14 : decode cX7_holds 14 = .ok (.ireturn, 1) := by decide +kernel
theorem dX7_of_0 : decode cX7_of 0 = .ok (.iconst 0, 1) := by decide +kernel
theorem dX7_of_1 : decode cX7_of 1 = .ok (.bipush 6, 2) := by decide +kernel
theorem dX7_of_3 : decode cX7_of 3 = .ok (.iload_n 0, 1) := by decide +kernel
theorem dX7_of_4 : decode cX7_of 4 = .ok (.imul, 1) := by decide +kernel
theorem dX7_of_5 : decode cX7_of 5 = .ok (.iadd, 1) := by decide +kernel
theorem dX7_of_6 : decode cX7_of 6 = .ok (.iload_n 1, 1) := by decide +kernel
theorem dX7_of_7 : decode cX7_of 7 = .ok (.iadd, 1) := by decide +kernel
theorem dX7_of_8 : decode cX7_of 8 = .ok (.ireturn, 1) := by decide +kernel
theorem dX7_ofBed_0 : decode cX7_ofBed 0 = .ok (.bipush 60, 2) := by decide +kernel
theorem dX7_ofBed_2 : decode cX7_ofBed 2 = .ok (.bipush 12, 2) := by decide +kernel
theorem dX7_ofBed_4 : decode cX7_ofBed 4 = .ok (.iload_n 0, 1) := by decide +kernel
theorem dX7_ofBed_5 : decode cX7_ofBed 5 = .ok (.imul, 1) := by decide +kernel
theorem dX7_ofBed_6 : decode cX7_ofBed 6 = .ok (.iadd, 1) := by decide +kernel
theorem dX7_ofBed_7 : decode cX7_ofBed 7 = .ok (.iload_n 1, 1) := by decide +kernel
theorem dX7_ofBed_8 : decode cX7_ofBed 8 = .ok (.iadd, 1) := by decide +kernel
theorem dX7_ofBed_9 : decode cX7_ofBed 9 = .ok (.ireturn, 1) := by decide +kernel
theorem dX7_isLodger_0 : decode cX7_isLodger 0 = .ok (.iload_n 0, 1) := by decide +kernel
theorem dX7_isLodger_1 : decode cX7_isLodger 1 = .ok (.iconst 0, 1) := by decide +kernel
theorem dX7_isLodger_2 : decode cX7_isLodger 2 = .ok (.bipush 9, 2) := by decide +kernel
theorem dX7_isLodger_4 : decode cX7_isLodger 4 = .ok (.invokestatic 33, 3) := by decide +kernel
theorem dX7_isLodger_7 : decode cX7_isLodger 7 = .ok (.ireturn, 1) := by decide +kernel
theorem dX7_isTime_0 : decode cX7_isTime 0 = .ok (.iload_n 0, 1) := by decide +kernel
theorem dX7_isTime_1 : decode cX7_isTime 1 = .ok (.iconst 0, 1) := by decide +kernel
theorem dX7_isTime_2 : decode cX7_isTime 2 = .ok (.bipush 11, 2) := by decide +kernel
theorem dX7_isTime_4 : decode cX7_isTime 4 = .ok (.invokestatic 33, 3) := by decide +kernel
theorem dX7_isTime_7 : decode cX7_isTime 7 = .ok (.ifCond .eq 25, 3) := by decide +kernel
theorem dX7_isTime_10 : decode cX7_isTime 10 = .ok (.iload_n 1, 1) := by decide +kernel
theorem dX7_isTime_11 : decode cX7_isTime 11 = .ok (.iconst 1, 1) := by decide +kernel
theorem dX7_isTime_12 : decode cX7_isTime 12 = .ok (.bipush 9, 2) := by decide +kernel
theorem dX7_isTime_14 : decode cX7_isTime 14 = .ok (.invokestatic 33, 3) := by decide +kernel
theorem dX7_isTime_17 : decode cX7_isTime 17 = .ok (.ifCond .eq 15, 3) := by decide +kernel
theorem dX7_isTime_20 : decode cX7_isTime 20 = .ok (.iload_n 0, 1) := by decide +kernel
theorem dX7_isTime_21 : decode cX7_isTime 21 = .ok (.iload_n 1, 1) := by decide +kernel
theorem dX7_isTime_22 : decode cX7_isTime 22 = .ok (.iadd, 1) := by decide +kernel
theorem dX7_isTime_23 : decode cX7_isTime 23 = .ok (.bipush 12, 2) := by decide +kernel
theorem dX7_isTime_25 : decode cX7_isTime 25 = .ok (.if_icmp .gt 7, 3) := by decide +kernel
theorem dX7_isTime_28 : decode cX7_isTime 28 = .ok (.iconst 1, 1) := by decide +kernel
theorem dX7_isTime_29 : decode cX7_isTime 29 = .ok (.goto 4, 3) := by decide +kernel
theorem dX7_isTime_32 : decode cX7_isTime 32 = .ok (.iconst 0, 1) := by decide +kernel
theorem dX7_isTime_33 : decode cX7_isTime 33 = .ok (.ireturn, 1) := by decide +kernel
theorem dX7_save_0 : decode cX7_save 0 = .ok (.aload_n 0, 1) := by decide +kernel
theorem dX7_save_1 : decode cX7_save 1 = .ok (.getfield 37, 3) := by decide +kernel
theorem dX7_save_4 : decode cX7_save 4 = .ok (.bipush 6, 2) := by decide +kernel
theorem dX7_save_6 : decode cX7_save 6 = .ok (.if_icmp .ne 43, 3) := by decide +kernel
theorem dX7_save_9 : decode cX7_save 9 = .ok (.iconst 0, 1) := by decide +kernel
theorem dX7_save_10 : decode cX7_save 10 = .ok (.istore_n 1, 1) := by decide +kernel
theorem dX7_save_11 : decode cX7_save 11 = .ok (.iload_n 1, 1) := by decide +kernel
theorem dX7_save_12 : decode cX7_save 12 = .ok (.sipush 600, 3) := by decide +kernel
theorem dX7_save_15 : decode cX7_save 15 = .ok (.if_icmp .ge 24, 3) := by decide +kernel
theorem dX7_save_18 : decode cX7_save 18 = .ok (.aload_n 0, 1) := by decide +kernel
theorem dX7_save_19 : decode cX7_save 19 = .ok (.getfield 16, 3) := by decide +kernel
theorem dX7_save_22 : decode cX7_save 22 = .ok (.iload_n 1, 1) := by decide +kernel
theorem dX7_save_23 : decode cX7_save 23 = .ok (.aload_n 0, 1) := by decide +kernel
theorem dX7_save_24 : decode cX7_save 24 = .ok (.getfield 16, 3) := by decide +kernel
theorem dX7_save_27 : decode cX7_save 27 = .ok (.iload_n 1, 1) := by decide +kernel
theorem dX7_save_28 : decode cX7_save 28 = .ok (.bipush 120, 2) := by decide +kernel
theorem dX7_save_30 : decode cX7_save 30 = .ok (.iadd, 1) := by decide +kernel
theorem dX7_save_31 : decode cX7_save 31 = .ok (.iaload, 1) := by decide +kernel
theorem dX7_save_32 : decode cX7_save 32 = .ok (.iastore, 1) := by decide +kernel
theorem dX7_save_33 : decode cX7_save 33 = .ok (.iinc 1 1, 3) := by decide +kernel
theorem dX7_save_36 : decode cX7_save 36 = .ok (.goto (-25), 3) := by decide +kernel
theorem dX7_save_39 : decode cX7_save 39 = .ok (.aload_n 0, 1) := by decide +kernel
theorem dX7_save_40 : decode cX7_save 40 = .ok (.dup, 1) := by decide +kernel
theorem dX7_save_41 : decode cX7_save 41 = .ok (.getfield 37, 3) := by decide +kernel
theorem dX7_save_44 : decode cX7_save 44 = .ok (.iconst 1, 1) := by decide +kernel
theorem dX7_save_45 : decode cX7_save 45 = .ok (.isub, 1) := by decide +kernel
theorem dX7_save_46 : decode cX7_save 46 = .ok (.putfield 37, 3) := by decide +kernel
theorem dX7_save_49 : decode cX7_save 49 = .ok (.iconst 0, 1) := by decide +kernel
theorem dX7_save_50 : decode cX7_save 50 = .ok (.istore_n 1, 1) := by decide +kernel
theorem dX7_save_51 : decode cX7_save 51 = .ok (.iload_n 1, 1) := by decide +kernel
theorem dX7_save_52 : decode cX7_save 52 = .ok (.bipush 120, 2) := by decide +kernel
theorem dX7_save_54 : decode cX7_save 54 = .ok (.if_icmp .ge 29, 3) := by decide +kernel
theorem dX7_save_57 : decode cX7_save 57 = .ok (.aload_n 0, 1) := by decide +kernel
theorem dX7_save_58 : decode cX7_save 58 = .ok (.getfield 16, 3) := by decide +kernel
theorem dX7_save_61 : decode cX7_save 61 = .ok (.bipush 120, 2) := by decide +kernel
theorem dX7_save_63 : decode cX7_save 63 = .ok (.aload_n 0, 1) := by decide +kernel
theorem dX7_save_64 : decode cX7_save 64 = .ok (.getfield 37, 3) := by decide +kernel
theorem dX7_save_67 : decode cX7_save 67 = .ok (.imul, 1) := by decide +kernel
theorem dX7_save_68 : decode cX7_save 68 = .ok (.iload_n 1, 1) := by decide +kernel
theorem dX7_save_69 : decode cX7_save 69 = .ok (.iadd, 1) := by decide +kernel
theorem dX7_save_70 : decode cX7_save 70 = .ok (.aload_n 0, 1) := by decide +kernel
theorem dX7_save_71 : decode cX7_save 71 = .ok (.getfield 7, 3) := by decide +kernel
theorem dX7_save_74 : decode cX7_save 74 = .ok (.iload_n 1, 1) := by decide +kernel
theorem dX7_save_75 : decode cX7_save 75 = .ok (.iaload, 1) := by decide +kernel
theorem dX7_save_76 : decode cX7_save 76 = .ok (.iastore, 1) := by decide +kernel
theorem dX7_save_77 : decode cX7_save 77 = .ok (.iinc 1 1, 3) := by decide +kernel
theorem dX7_save_80 : decode cX7_save 80 = .ok (.goto (-29), 3) := by decide +kernel
theorem dX7_save_83 : decode cX7_save 83 = .ok (.aload_n 0, 1) := by decide +kernel
theorem dX7_save_84 : decode cX7_save 84 = .ok (.dup, 1) := by decide +kernel
theorem dX7_save_85 : decode cX7_save 85 = .ok (.getfield 37, 3) := by decide +kernel
theorem dX7_save_88 : decode cX7_save 88 = .ok (.iconst 1, 1) := by decide +kernel
theorem dX7_save_89 : decode cX7_save 89 = .ok (.iadd, 1) := by decide +kernel
theorem dX7_save_90 : decode cX7_save 90 = .ok (.putfield 37, 3) := by decide +kernel
theorem dX7_save_93 : decode cX7_save 93 = .ok (.return_, 1) := by decide +kernel
theorem dX7_lentIn_0 : decode cX7_lentIn 0 = .ok (.iconst 0, 1) := by decide +kernel
theorem dX7_lentIn_1 : decode cX7_lentIn 1 = .ok (.istore 4, 2) := by decide +kernel
theorem dX7_lentIn_3 : decode cX7_lentIn 3 = .ok (.iload_n 2, 1) := by decide +kernel
theorem dX7_lentIn_4 : decode cX7_lentIn 4 = .ok (.istore 5, 2) := by decide +kernel
theorem dX7_lentIn_6 : decode cX7_lentIn 6 = .ok (.iload 5, 2) := by decide +kernel
theorem dX7_lentIn_8 : decode cX7_lentIn 8 = .ok (.iload_n 2, 1) := by decide +kernel
theorem dX7_lentIn_9 : decode cX7_lentIn 9 = .ok (.iload_n 3, 1) := by decide +kernel
theorem dX7_lentIn_10 : decode cX7_lentIn 10 = .ok (.iadd, 1) := by decide +kernel
theorem dX7_lentIn_11 : decode cX7_lentIn 11 = .ok (.if_icmp .ge 34, 3) := by decide +kernel
theorem dX7_lentIn_14 : decode cX7_lentIn 14 = .ok (.iload 4, 2) := by decide +kernel
theorem dX7_lentIn_16 : decode cX7_lentIn 16 = .ok (.aload_n 0, 1) := by decide +kernel
theorem dX7_lentIn_17 : decode cX7_lentIn 17 = .ok (.getfield 7, 3) := by decide +kernel
theorem dX7_lentIn_20 : decode cX7_lentIn 20 = .ok (.iload_n 1, 1) := by decide +kernel
theorem dX7_lentIn_21 : decode cX7_lentIn 21 = .ok (.iload 5, 2) := by decide +kernel
theorem dX7_lentIn_23 : decode cX7_lentIn 23 = .ok (.invokestatic 40, 3) := by decide +kernel
theorem dX7_lentIn_26 : decode cX7_lentIn 26 = .ok (.iaload, 1) := by decide +kernel
theorem dX7_lentIn_27 : decode cX7_lentIn 27 = .ok (.iconst (-1), 1) := by decide +kernel
theorem dX7_lentIn_28 : decode cX7_lentIn 28 = .ok (.if_icmp .ne 7, 3) := by decide +kernel
theorem dX7_lentIn_31 : decode cX7_lentIn 31 = .ok (.iconst 0, 1) := by decide +kernel
theorem dX7_lentIn_32 : decode cX7_lentIn 32 = .ok (.goto 4, 3) := by decide +kernel
theorem dX7_lentIn_35 : decode cX7_lentIn 35 = .ok (.iconst 1, 1) := by decide +kernel
theorem dX7_lentIn_36 : decode cX7_lentIn 36 = .ok (.iadd, 1) := by decide +kernel
theorem dX7_lentIn_37 : decode cX7_lentIn 37 = .ok (.istore 4, 2) := by decide +kernel
theorem dX7_lentIn_39 : decode cX7_lentIn 39 = .ok (.iinc 5 1, 3) := by decide +kernel
theorem dX7_lentIn_42 : decode cX7_lentIn 42 = .ok (.goto (-36), 3) := by decide +kernel
theorem dX7_lentIn_45 : decode cX7_lentIn 45 = .ok (.iload 4, 2) := by decide +kernel
theorem dX7_lentIn_47 : decode cX7_lentIn 47 = .ok (.ireturn, 1) := by decide +kernel
theorem dX7_emptiest_0 : decode cX7_emptiest 0 = .ok (.iconst 0, 1) := by decide +kernel
theorem dX7_emptiest_1 : decode cX7_emptiest 1 = .ok (.istore_n 3, 1) := by decide +kernel
theorem dX7_emptiest_2 : decode cX7_emptiest 2 = .ok (.iconst 1, 1) := by decide +kernel
theorem dX7_emptiest_3 : decode cX7_emptiest 3 = .ok (.istore 4, 2) := by decide +kernel
theorem dX7_emptiest_5 : decode cX7_emptiest 5 = .ok (.iload 4, 2) := by decide +kernel
theorem dX7_emptiest_7 : decode cX7_emptiest 7 = .ok (.iconst 4, 1) := by decide +kernel
theorem dX7_emptiest_8 : decode cX7_emptiest 8 = .ok (.if_icmp .ge 34, 3) := by decide +kernel
theorem dX7_emptiest_11 : decode cX7_emptiest 11 = .ok (.aload_n 0, 1) := by decide +kernel
theorem dX7_emptiest_12 : decode cX7_emptiest 12 = .ok (.iload 4, 2) := by decide +kernel
theorem dX7_emptiest_14 : decode cX7_emptiest 14 = .ok (.iload_n 1, 1) := by decide +kernel
theorem dX7_emptiest_15 : decode cX7_emptiest 15 = .ok (.iload_n 2, 1) := by decide +kernel
theorem dX7_emptiest_16 : decode cX7_emptiest 16 = .ok (.invokevirtual 43, 3) := by decide +kernel
theorem dX7_emptiest_19 : decode cX7_emptiest 19 = .ok (.aload_n 0, 1) := by decide +kernel
theorem dX7_emptiest_20 : decode cX7_emptiest 20 = .ok (.iload_n 3, 1) := by decide +kernel
theorem dX7_emptiest_21 : decode cX7_emptiest 21 = .ok (.iload_n 1, 1) := by decide +kernel
theorem dX7_emptiest_22 : decode cX7_emptiest 22 = .ok (.iload_n 2, 1) := by decide +kernel
theorem dX7_emptiest_23 : decode cX7_emptiest 23 = .ok (.invokevirtual 43, 3) := by decide +kernel
theorem dX7_emptiest_26 : decode cX7_emptiest 26 = .ok (.if_icmp .ge 8, 3) := by decide +kernel
theorem dX7_emptiest_29 : decode cX7_emptiest 29 = .ok (.iload 4, 2) := by decide +kernel
theorem dX7_emptiest_31 : decode cX7_emptiest 31 = .ok (.goto 4, 3) := by decide +kernel
theorem dX7_emptiest_34 : decode cX7_emptiest 34 = .ok (.iload_n 3, 1) := by decide +kernel
theorem dX7_emptiest_35 : decode cX7_emptiest 35 = .ok (.istore_n 3, 1) := by decide +kernel
theorem dX7_emptiest_36 : decode cX7_emptiest 36 = .ok (.iinc 4 1, 3) := by decide +kernel
theorem dX7_emptiest_39 : decode cX7_emptiest 39 = .ok (.goto (-34), 3) := by decide +kernel
theorem dX7_emptiest_42 : decode cX7_emptiest 42 = .ok (.iload_n 3, 1) := by decide +kernel
theorem dX7_emptiest_43 : decode cX7_emptiest 43 = .ok (.ireturn, 1) := by decide +kernel
theorem dX7_bedOf_0 : decode cX7_bedOf 0 = .ok (.iconst (-1), 1) := by decide +kernel
theorem dX7_bedOf_1 : decode cX7_bedOf 1 = .ok (.istore_n 3, 1) := by decide +kernel
theorem dX7_bedOf_2 : decode cX7_bedOf 2 = .ok (.iconst 0, 1) := by decide +kernel
theorem dX7_bedOf_3 : decode cX7_bedOf 3 = .ok (.istore 4, 2) := by decide +kernel
theorem dX7_bedOf_5 : decode cX7_bedOf 5 = .ok (.iload 4, 2) := by decide +kernel
theorem dX7_bedOf_7 : decode cX7_bedOf 7 = .ok (.iconst 4, 1) := by decide +kernel
theorem dX7_bedOf_8 : decode cX7_bedOf 8 = .ok (.if_icmp .ge 31, 3) := by decide +kernel
theorem dX7_bedOf_11 : decode cX7_bedOf 11 = .ok (.aload_n 0, 1) := by decide +kernel
theorem dX7_bedOf_12 : decode cX7_bedOf 12 = .ok (.getfield 7, 3) := by decide +kernel
theorem dX7_bedOf_15 : decode cX7_bedOf 15 = .ok (.iload 4, 2) := by decide +kernel
theorem dX7_bedOf_17 : decode cX7_bedOf 17 = .ok (.iload_n 2, 1) := by decide +kernel
theorem dX7_bedOf_18 : decode cX7_bedOf 18 = .ok (.invokestatic 40, 3) := by decide +kernel
theorem dX7_bedOf_21 : decode cX7_bedOf 21 = .ok (.iaload, 1) := by decide +kernel
theorem dX7_bedOf_22 : decode cX7_bedOf 22 = .ok (.iload_n 1, 1) := by decide +kernel
theorem dX7_bedOf_23 : decode cX7_bedOf 23 = .ok (.if_icmp .ne 8, 3) := by decide +kernel
theorem dX7_bedOf_26 : decode cX7_bedOf 26 = .ok (.iload 4, 2) := by decide +kernel
theorem dX7_bedOf_28 : decode cX7_bedOf 28 = .ok (.goto 4, 3) := by decide +kernel
theorem dX7_bedOf_31 : decode cX7_bedOf 31 = .ok (.iload_n 3, 1) := by decide +kernel
theorem dX7_bedOf_32 : decode cX7_bedOf 32 = .ok (.istore_n 3, 1) := by decide +kernel
theorem dX7_bedOf_33 : decode cX7_bedOf 33 = .ok (.iinc 4 1, 3) := by decide +kernel
theorem dX7_bedOf_36 : decode cX7_bedOf 36 = .ok (.goto (-31), 3) := by decide +kernel
theorem dX7_bedOf_39 : decode cX7_bedOf 39 = .ok (.iload_n 3, 1) := by decide +kernel
theorem dX7_bedOf_40 : decode cX7_bedOf 40 = .ok (.ireturn, 1) := by decide +kernel
theorem dX7_hasBed_0 : decode cX7_hasBed 0 = .ok (.iconst 0, 1) := by decide +kernel
theorem dX7_hasBed_1 : decode cX7_hasBed 1 = .ok (.istore 4, 2) := by decide +kernel
theorem dX7_hasBed_3 : decode cX7_hasBed 3 = .ok (.iload_n 2, 1) := by decide +kernel
theorem dX7_hasBed_4 : decode cX7_hasBed 4 = .ok (.istore 5, 2) := by decide +kernel
theorem dX7_hasBed_6 : decode cX7_hasBed 6 = .ok (.iload 5, 2) := by decide +kernel
theorem dX7_hasBed_8 : decode cX7_hasBed 8 = .ok (.iload_n 2, 1) := by decide +kernel
theorem dX7_hasBed_9 : decode cX7_hasBed 9 = .ok (.iload_n 3, 1) := by decide +kernel
theorem dX7_hasBed_10 : decode cX7_hasBed 10 = .ok (.iadd, 1) := by decide +kernel
theorem dX7_hasBed_11 : decode cX7_hasBed 11 = .ok (.if_icmp .ge 32, 3) := by decide +kernel
theorem dX7_hasBed_14 : decode cX7_hasBed 14 = .ok (.iload 4, 2) := by decide +kernel
theorem dX7_hasBed_16 : decode cX7_hasBed 16 = .ok (.ifCond .ne 14, 3) := by decide +kernel
theorem dX7_hasBed_19 : decode cX7_hasBed 19 = .ok (.aload_n 0, 1) := by decide +kernel
theorem dX7_hasBed_20 : decode cX7_hasBed 20 = .ok (.iload_n 1, 1) := by decide +kernel
theorem dX7_hasBed_21 : decode cX7_hasBed 21 = .ok (.iload 5, 2) := by decide +kernel
theorem dX7_hasBed_23 : decode cX7_hasBed 23 = .ok (.invokevirtual 47, 3) := by decide +kernel
theorem dX7_hasBed_26 : decode cX7_hasBed 26 = .ok (.iconst (-1), 1) := by decide +kernel
theorem dX7_hasBed_27 : decode cX7_hasBed 27 = .ok (.if_icmp .eq 7, 3) := by decide +kernel
theorem dX7_hasBed_30 : decode cX7_hasBed 30 = .ok (.iconst 1, 1) := by decide +kernel
theorem dX7_hasBed_31 : decode cX7_hasBed 31 = .ok (.goto 4, 3) := by decide +kernel
theorem dX7_hasBed_34 : decode cX7_hasBed 34 = .ok (.iconst 0, 1) := by decide +kernel
theorem dX7_hasBed_35 : decode cX7_hasBed 35 = .ok (.istore 4, 2) := by decide +kernel
theorem dX7_hasBed_37 : decode cX7_hasBed 37 = .ok (.iinc 5 1, 3) := by decide +kernel
theorem dX7_hasBed_40 : decode cX7_hasBed 40 = .ok (.goto (-34), 3) := by decide +kernel
theorem dX7_hasBed_43 : decode cX7_hasBed 43 = .ok (.iload 4, 2) := by decide +kernel
theorem dX7_hasBed_45 : decode cX7_hasBed 45 = .ok (.ireturn, 1) := by decide +kernel
theorem dX7_hindrance_0 : decode cX7_hindrance 0 = .ok (.iload_n 2, 1) := by decide +kernel
theorem dX7_hindrance_1 : decode cX7_hindrance 1 = .ok (.aload_n 0, 1) := by decide +kernel
theorem dX7_hindrance_2 : decode cX7_hindrance 2 = .ok (.getfield 7, 3) := by decide +kernel
theorem dX7_hindrance_5 : decode cX7_hindrance 5 = .ok (.bipush 108, 2) := by decide +kernel
theorem dX7_hindrance_7 : decode cX7_hindrance 7 = .ok (.iaload, 1) := by decide +kernel
theorem dX7_hindrance_8 : decode cX7_hindrance 8 = .ok (.if_icmp .lt 13, 3) := by decide +kernel
theorem dX7_hindrance_11 : decode cX7_hindrance 11 = .ok (.aload_n 0, 1) := by decide +kernel
theorem dX7_hindrance_12 : decode cX7_hindrance 12 = .ok (.iload_n 1, 1) := by decide +kernel
theorem dX7_hindrance_13 : decode cX7_hindrance 13 = .ok (.iload_n 2, 1) := by decide +kernel
theorem dX7_hindrance_14 : decode cX7_hindrance 14 = .ok (.iload_n 3, 1) := by decide +kernel
theorem dX7_hindrance_15 : decode cX7_hindrance 15 = .ok (.invokevirtual 50, 3) := by decide +kernel
theorem dX7_hindrance_18 : decode cX7_hindrance 18 = .ok (.ifCond .eq 20, 3) := by decide +kernel
theorem dX7_hindrance_21 : decode cX7_hindrance 21 = .ok (.iload_n 2, 1) := by decide +kernel
theorem dX7_hindrance_22 : decode cX7_hindrance 22 = .ok (.aload_n 0, 1) := by decide +kernel
theorem dX7_hindrance_23 : decode cX7_hindrance 23 = .ok (.getfield 7, 3) := by decide +kernel
theorem dX7_hindrance_26 : decode cX7_hindrance 26 = .ok (.bipush 108, 2) := by decide +kernel
theorem dX7_hindrance_28 : decode cX7_hindrance 28 = .ok (.iaload, 1) := by decide +kernel
theorem dX7_hindrance_29 : decode cX7_hindrance 29 = .ok (.if_icmp .ge 7, 3) := by decide +kernel
theorem dX7_hindrance_32 : decode cX7_hindrance 32 = .ok (.iconst 1, 1) := by decide +kernel
theorem dX7_hindrance_33 : decode cX7_hindrance 33 = .ok (.goto 4, 3) := by decide +kernel
theorem dX7_hindrance_36 : decode cX7_hindrance 36 = .ok (.iconst 2, 1) := by decide +kernel
theorem dX7_hindrance_37 : decode cX7_hindrance 37 = .ok (.ireturn, 1) := by decide +kernel
theorem dX7_hindrance_38 : decode cX7_hindrance 38 = .ok (.aload_n 0, 1) := by decide +kernel
theorem dX7_hindrance_39 : decode cX7_hindrance 39 = .ok (.getfield 7, 3) := by decide +kernel
theorem dX7_hindrance_42 : decode cX7_hindrance 42 = .ok (.iload_n 1, 1) := by decide +kernel
theorem dX7_hindrance_43 : decode cX7_hindrance 43 = .ok (.iconst 1, 1) := by decide +kernel
theorem dX7_hindrance_44 : decode cX7_hindrance 44 = .ok (.invokestatic 25, 3) := by decide +kernel
theorem dX7_hindrance_47 : decode cX7_hindrance 47 = .ok (.iaload, 1) := by decide +kernel
theorem dX7_hindrance_48 : decode cX7_hindrance 48 = .ok (.bipush 7, 2) := by decide +kernel
theorem dX7_hindrance_50 : decode cX7_hindrance 50 = .ok (.if_icmp .ne 5, 3) := by decide +kernel
theorem dX7_hindrance_53 : decode cX7_hindrance 53 = .ok (.iconst 0, 1) := by decide +kernel
theorem dX7_hindrance_54 : decode cX7_hindrance 54 = .ok (.ireturn, 1) := by decide +kernel
theorem dX7_hindrance_55 : decode cX7_hindrance 55 = .ok (.aload_n 0, 1) := by decide +kernel
theorem dX7_hindrance_56 : decode cX7_hindrance 56 = .ok (.getfield 7, 3) := by decide +kernel
theorem dX7_hindrance_59 : decode cX7_hindrance 59 = .ok (.iload_n 1, 1) := by decide +kernel
theorem dX7_hindrance_60 : decode cX7_hindrance 60 = .ok (.iconst 0, 1) := by decide +kernel
theorem dX7_hindrance_61 : decode cX7_hindrance 61 = .ok (.invokestatic 25, 3) := by decide +kernel
theorem dX7_hindrance_64 : decode cX7_hindrance 64 = .ok (.iaload, 1) := by decide +kernel
theorem dX7_hindrance_65 : decode cX7_hindrance 65 = .ok (.aload_n 0, 1) := by decide +kernel
theorem dX7_hindrance_66 : decode cX7_hindrance 66 = .ok (.getfield 7, 3) := by decide +kernel
theorem dX7_hindrance_69 : decode cX7_hindrance 69 = .ok (.bipush 119, 2) := by decide +kernel
theorem dX7_hindrance_71 : decode cX7_hindrance 71 = .ok (.iaload, 1) := by decide +kernel
theorem dX7_hindrance_72 : decode cX7_hindrance 72 = .ok (.if_icmp .ge 18, 3) := by decide +kernel
theorem dX7_hindrance_75 : decode cX7_hindrance 75 = .ok (.aload_n 0, 1) := by decide +kernel
theorem dX7_hindrance_76 : decode cX7_hindrance 76 = .ok (.getfield 7, 3) := by decide +kernel
theorem dX7_hindrance_79 : decode cX7_hindrance 79 = .ok (.iload_n 1, 1) := by decide +kernel
theorem dX7_hindrance_80 : decode cX7_hindrance 80 = .ok (.iconst 2, 1) := by decide +kernel
theorem dX7_hindrance_81 : decode cX7_hindrance 81 = .ok (.invokestatic 25, 3) := by decide +kernel
theorem dX7_hindrance_84 : decode cX7_hindrance 84 = .ok (.iaload, 1) := by decide +kernel
theorem dX7_hindrance_85 : decode cX7_hindrance 85 = .ok (.ifCond .ne 5, 3) := by decide +kernel
theorem dX7_hindrance_88 : decode cX7_hindrance 88 = .ok (.iconst 3, 1) := by decide +kernel
theorem dX7_hindrance_89 : decode cX7_hindrance 89 = .ok (.ireturn, 1) := by decide +kernel
theorem dX7_hindrance_90 : decode cX7_hindrance 90 = .ok (.aload_n 0, 1) := by decide +kernel
theorem dX7_hindrance_91 : decode cX7_hindrance 91 = .ok (.aload_n 0, 1) := by decide +kernel
theorem dX7_hindrance_92 : decode cX7_hindrance 92 = .ok (.iload_n 2, 1) := by decide +kernel
theorem dX7_hindrance_93 : decode cX7_hindrance 93 = .ok (.iload_n 3, 1) := by decide +kernel
theorem dX7_hindrance_94 : decode cX7_hindrance 94 = .ok (.invokevirtual 53, 3) := by decide +kernel
theorem dX7_hindrance_97 : decode cX7_hindrance 97 = .ok (.iload_n 2, 1) := by decide +kernel
theorem dX7_hindrance_98 : decode cX7_hindrance 98 = .ok (.iload_n 3, 1) := by decide +kernel
theorem dX7_hindrance_99 : decode cX7_hindrance 99 = .ok (.invokevirtual 43, 3) := by decide +kernel
theorem dX7_hindrance_102 : decode cX7_hindrance 102 = .ok (.ifCond .le 7, 3) := by decide +kernel
theorem dX7_hindrance_105 : decode cX7_hindrance 105 = .ok (.iconst 4, 1) := by decide +kernel
theorem dX7_hindrance_106 : decode cX7_hindrance 106 = .ok (.goto 4, 3) := by decide +kernel
theorem dX7_hindrance_109 : decode cX7_hindrance 109 = .ok (.iconst 0, 1) := by decide +kernel
theorem dX7_hindrance_110 : decode cX7_hindrance 110 = .ok (.ireturn, 1) := by decide +kernel
theorem dX7_frees_0 : decode cX7_frees 0 = .ok (.aload_n 0, 1) := by decide +kernel
theorem dX7_frees_1 : decode cX7_frees 1 = .ok (.getfield 7, 3) := by decide +kernel
theorem dX7_frees_4 : decode cX7_frees 4 = .ok (.iload_n 1, 1) := by decide +kernel
theorem dX7_frees_5 : decode cX7_frees 5 = .ok (.iload_n 2, 1) := by decide +kernel
theorem dX7_frees_6 : decode cX7_frees 6 = .ok (.invokestatic 40, 3) := by decide +kernel
theorem dX7_frees_9 : decode cX7_frees 9 = .ok (.iaload, 1) := by decide +kernel
theorem dX7_frees_10 : decode cX7_frees 10 = .ok (.istore 4, 2) := by decide +kernel
theorem dX7_frees_12 : decode cX7_frees 12 = .ok (.iload_n 2, 1) := by decide +kernel
theorem dX7_frees_13 : decode cX7_frees 13 = .ok (.iload_n 3, 1) := by decide +kernel
theorem dX7_frees_14 : decode cX7_frees 14 = .ok (.iadd, 1) := by decide +kernel
theorem dX7_frees_15 : decode cX7_frees 15 = .ok (.istore 5, 2) := by decide +kernel
theorem dX7_frees_17 : decode cX7_frees 17 = .ok (.iload 5, 2) := by decide +kernel
theorem dX7_frees_19 : decode cX7_frees 19 = .ok (.aload_n 0, 1) := by decide +kernel
theorem dX7_frees_20 : decode cX7_frees 20 = .ok (.getfield 7, 3) := by decide +kernel
theorem dX7_frees_23 : decode cX7_frees 23 = .ok (.bipush 108, 2) := by decide +kernel
theorem dX7_frees_25 : decode cX7_frees 25 = .ok (.iaload, 1) := by decide +kernel
theorem dX7_frees_26 : decode cX7_frees 26 = .ok (.bipush 11, 2) := by decide +kernel
theorem dX7_frees_28 : decode cX7_frees 28 = .ok (.invokestatic 33, 3) := by decide +kernel
theorem dX7_frees_31 : decode cX7_frees 31 = .ok (.ifCond .eq 51, 3) := by decide +kernel
theorem dX7_frees_34 : decode cX7_frees 34 = .ok (.aload_n 0, 1) := by decide +kernel
theorem dX7_frees_35 : decode cX7_frees 35 = .ok (.getfield 7, 3) := by decide +kernel
theorem dX7_frees_38 : decode cX7_frees 38 = .ok (.iload_n 1, 1) := by decide +kernel
theorem dX7_frees_39 : decode cX7_frees 39 = .ok (.iload 5, 2) := by decide +kernel
theorem dX7_frees_41 : decode cX7_frees 41 = .ok (.invokestatic 40, 3) := by decide +kernel
theorem dX7_frees_44 : decode cX7_frees 44 = .ok (.iaload, 1) := by decide +kernel
theorem dX7_frees_45 : decode cX7_frees 45 = .ok (.iload 4, 2) := by decide +kernel
theorem dX7_frees_47 : decode cX7_frees 47 = .ok (.if_icmp .ne 35, 3) := by decide +kernel
theorem dX7_frees_50 : decode cX7_frees 50 = .ok (.aload_n 0, 1) := by decide +kernel
theorem dX7_frees_51 : decode cX7_frees 51 = .ok (.getfield 7, 3) := by decide +kernel
theorem dX7_frees_54 : decode cX7_frees 54 = .ok (.iload_n 1, 1) := by decide +kernel
theorem dX7_frees_55 : decode cX7_frees 55 = .ok (.iload 5, 2) := by decide +kernel
theorem dX7_frees_57 : decode cX7_frees 57 = .ok (.invokestatic 40, 3) := by decide +kernel
theorem dX7_frees_60 : decode cX7_frees 60 = .ok (.iconst (-1), 1) := by decide +kernel
theorem dX7_frees_61 : decode cX7_frees 61 = .ok (.iastore, 1) := by decide +kernel
theorem dX7_frees_62 : decode cX7_frees 62 = .ok (.aload_n 0, 1) := by decide +kernel
theorem dX7_frees_63 : decode cX7_frees 63 = .ok (.getfield 7, 3) := by decide +kernel
theorem dX7_frees_66 : decode cX7_frees 66 = .ok (.bipush 116, 2) := by decide +kernel
theorem dX7_frees_68 : decode cX7_frees 68 = .ok (.dup2, 1) := by decide +kernel
theorem dX7_frees_69 : decode cX7_frees 69 = .ok (.iaload, 1) := by decide +kernel
theorem dX7_frees_70 : decode cX7_frees 70 = .ok (.iconst 1, 1) := by decide +kernel
theorem dX7_frees_71 : decode cX7_frees 71 = .ok (.iadd, 1) := by decide +kernel
theorem dX7_frees_72 : decode cX7_frees 72 = .ok (.iastore, 1) := by decide +kernel
theorem dX7_frees_73 : decode cX7_frees 73 = .ok (.iload 5, 2) := by decide +kernel
theorem dX7_frees_75 : decode cX7_frees 75 = .ok (.iload_n 3, 1) := by decide +kernel
theorem dX7_frees_76 : decode cX7_frees 76 = .ok (.iadd, 1) := by decide +kernel
theorem dX7_frees_77 : decode cX7_frees 77 = .ok (.istore 5, 2) := by decide +kernel
theorem dX7_frees_79 : decode cX7_frees 79 = .ok (.goto (-62), 3) := by decide +kernel
theorem dX7_frees_82 : decode cX7_frees 82 = .ok (.return_, 1) := by decide +kernel
theorem dX7_putsOut_0 : decode cX7_putsOut 0 = .ok (.aload_n 0, 1) := by decide +kernel
theorem dX7_putsOut_1 : decode cX7_putsOut 1 = .ok (.getfield 7, 3) := by decide +kernel
theorem dX7_putsOut_4 : decode cX7_putsOut 4 = .ok (.iload_n 1, 1) := by decide +kernel
theorem dX7_putsOut_5 : decode cX7_putsOut 5 = .ok (.iload_n 2, 1) := by decide +kernel
theorem dX7_putsOut_6 : decode cX7_putsOut 6 = .ok (.invokestatic 40, 3) := by decide +kernel
theorem dX7_putsOut_9 : decode cX7_putsOut 9 = .ok (.iaload, 1) := by decide +kernel
theorem dX7_putsOut_10 : decode cX7_putsOut 10 = .ok (.istore_n 3, 1) := by decide +kernel
theorem dX7_putsOut_11 : decode cX7_putsOut 11 = .ok (.aload_n 0, 1) := by decide +kernel
theorem dX7_putsOut_12 : decode cX7_putsOut 12 = .ok (.iload_n 1, 1) := by decide +kernel
theorem dX7_putsOut_13 : decode cX7_putsOut 13 = .ok (.iload_n 2, 1) := by decide +kernel
theorem dX7_putsOut_14 : decode cX7_putsOut 14 = .ok (.iconst (-1), 1) := by decide +kernel
theorem dX7_putsOut_15 : decode cX7_putsOut 15 = .ok (.invokevirtual 56, 3) := by decide +kernel
theorem dX7_putsOut_18 : decode cX7_putsOut 18 = .ok (.aload_n 0, 1) := by decide +kernel
theorem dX7_putsOut_19 : decode cX7_putsOut 19 = .ok (.iload_n 1, 1) := by decide +kernel
theorem dX7_putsOut_20 : decode cX7_putsOut 20 = .ok (.iload_n 2, 1) := by decide +kernel
theorem dX7_putsOut_21 : decode cX7_putsOut 21 = .ok (.iconst 1, 1) := by decide +kernel
theorem dX7_putsOut_22 : decode cX7_putsOut 22 = .ok (.invokevirtual 56, 3) := by decide +kernel
theorem dX7_putsOut_25 : decode cX7_putsOut 25 = .ok (.aload_n 0, 1) := by decide +kernel
theorem dX7_putsOut_26 : decode cX7_putsOut 26 = .ok (.getfield 7, 3) := by decide +kernel
theorem dX7_putsOut_29 : decode cX7_putsOut 29 = .ok (.iload_n 1, 1) := by decide +kernel
theorem dX7_putsOut_30 : decode cX7_putsOut 30 = .ok (.iload_n 2, 1) := by decide +kernel
theorem dX7_putsOut_31 : decode cX7_putsOut 31 = .ok (.invokestatic 40, 3) := by decide +kernel
theorem dX7_putsOut_34 : decode cX7_putsOut 34 = .ok (.iconst (-1), 1) := by decide +kernel
theorem dX7_putsOut_35 : decode cX7_putsOut 35 = .ok (.iastore, 1) := by decide +kernel
theorem dX7_putsOut_36 : decode cX7_putsOut 36 = .ok (.aload_n 0, 1) := by decide +kernel
theorem dX7_putsOut_37 : decode cX7_putsOut 37 = .ok (.getfield 7, 3) := by decide +kernel
theorem dX7_putsOut_40 : decode cX7_putsOut 40 = .ok (.bipush 116, 2) := by decide +kernel
theorem dX7_putsOut_42 : decode cX7_putsOut 42 = .ok (.dup2, 1) := by decide +kernel
theorem dX7_putsOut_43 : decode cX7_putsOut 43 = .ok (.iaload, 1) := by decide +kernel
theorem dX7_putsOut_44 : decode cX7_putsOut 44 = .ok (.iconst 1, 1) := by decide +kernel
theorem dX7_putsOut_45 : decode cX7_putsOut 45 = .ok (.iadd, 1) := by decide +kernel
theorem dX7_putsOut_46 : decode cX7_putsOut 46 = .ok (.iastore, 1) := by decide +kernel
theorem dX7_putsOut_47 : decode cX7_putsOut 47 = .ok (.aload_n 0, 1) := by decide +kernel
theorem dX7_putsOut_48 : decode cX7_putsOut 48 = .ok (.getfield 60, 3) := by decide +kernel
theorem dX7_putsOut_51 : decode cX7_putsOut 51 = .ok (.iload_n 3, 1) := by decide +kernel
theorem dX7_putsOut_52 : decode cX7_putsOut 52 = .ok (.ishr, 1) := by decide +kernel
theorem dX7_putsOut_53 : decode cX7_putsOut 53 = .ok (.iconst 1, 1) := by decide +kernel
theorem dX7_putsOut_54 : decode cX7_putsOut 54 = .ok (.iand, 1) := by decide +kernel
theorem dX7_putsOut_55 : decode cX7_putsOut 55 = .ok (.ifCond .ne 73, 3) := by decide +kernel
theorem dX7_putsOut_58 : decode cX7_putsOut 58 = .ok (.aload_n 0, 1) := by decide +kernel
theorem dX7_putsOut_59 : decode cX7_putsOut 59 = .ok (.dup, 1) := by decide +kernel
theorem dX7_putsOut_60 : decode cX7_putsOut 60 = .ok (.getfield 60, 3) := by decide +kernel
theorem dX7_putsOut_63 : decode cX7_putsOut 63 = .ok (.iconst 1, 1) := by decide +kernel
theorem dX7_putsOut_64 : decode cX7_putsOut 64 = .ok (.iload_n 3, 1) := by decide +kernel
theorem dX7_putsOut_65 : decode cX7_putsOut 65 = .ok (.ishl, 1) := by decide +kernel
theorem dX7_putsOut_66 : decode cX7_putsOut 66 = .ok (.ior, 1) := by decide +kernel
theorem dX7_putsOut_67 : decode cX7_putsOut 67 = .ok (.putfield 60, 3) := by decide +kernel
theorem dX7_putsOut_70 : decode cX7_putsOut 70 = .ok (.aload_n 0, 1) := by decide +kernel
theorem dX7_putsOut_71 : decode cX7_putsOut 71 = .ok (.getfield 7, 3) := by decide +kernel
theorem dX7_putsOut_74 : decode cX7_putsOut 74 = .ok (.bipush 115, 2) := by decide +kernel
theorem dX7_putsOut_76 : decode cX7_putsOut 76 = .ok (.dup2, 1) := by decide +kernel
theorem dX7_putsOut_77 : decode cX7_putsOut 77 = .ok (.iaload, 1) := by decide +kernel
theorem dX7_putsOut_78 : decode cX7_putsOut 78 = .ok (.iconst 1, 1) := by decide +kernel
theorem dX7_putsOut_79 : decode cX7_putsOut 79 = .ok (.iadd, 1) := by decide +kernel
theorem dX7_putsOut_80 : decode cX7_putsOut 80 = .ok (.iastore, 1) := by decide +kernel
theorem dX7_putsOut_81 : decode cX7_putsOut 81 = .ok (.aload_n 0, 1) := by decide +kernel
theorem dX7_putsOut_82 : decode cX7_putsOut 82 = .ok (.getfield 7, 3) := by decide +kernel
theorem dX7_putsOut_85 : decode cX7_putsOut 85 = .ok (.iload_n 3, 1) := by decide +kernel
theorem dX7_putsOut_86 : decode cX7_putsOut 86 = .ok (.iconst 4, 1) := by decide +kernel
theorem dX7_putsOut_87 : decode cX7_putsOut 87 = .ok (.invokestatic 25, 3) := by decide +kernel
theorem dX7_putsOut_90 : decode cX7_putsOut 90 = .ok (.dup2, 1) := by decide +kernel
theorem dX7_putsOut_91 : decode cX7_putsOut 91 = .ok (.iaload, 1) := by decide +kernel
theorem dX7_putsOut_92 : decode cX7_putsOut 92 = .ok (.iconst 1, 1) := by decide +kernel
theorem dX7_putsOut_93 : decode cX7_putsOut 93 = .ok (.iadd, 1) := by decide +kernel
theorem dX7_putsOut_94 : decode cX7_putsOut 94 = .ok (.iastore, 1) := by decide +kernel
theorem dX7_putsOut_95 : decode cX7_putsOut 95 = .ok (.aload_n 0, 1) := by decide +kernel
theorem dX7_putsOut_96 : decode cX7_putsOut 96 = .ok (.getfield 7, 3) := by decide +kernel
theorem dX7_putsOut_99 : decode cX7_putsOut 99 = .ok (.iload_n 3, 1) := by decide +kernel
theorem dX7_putsOut_100 : decode cX7_putsOut 100 = .ok (.iconst 1, 1) := by decide +kernel
theorem dX7_putsOut_101 : decode cX7_putsOut 101 = .ok (.invokestatic 25, 3) := by decide +kernel
theorem dX7_putsOut_104 : decode cX7_putsOut 104 = .ok (.dup2, 1) := by decide +kernel
theorem dX7_putsOut_105 : decode cX7_putsOut 105 = .ok (.iaload, 1) := by decide +kernel
theorem dX7_putsOut_106 : decode cX7_putsOut 106 = .ok (.aload_n 0, 1) := by decide +kernel
theorem dX7_putsOut_107 : decode cX7_putsOut 107 = .ok (.getfield 7, 3) := by decide +kernel
theorem dX7_putsOut_110 : decode cX7_putsOut 110 = .ok (.iload_n 3, 1) := by decide +kernel
theorem dX7_putsOut_111 : decode cX7_putsOut 111 = .ok (.iconst 1, 1) := by decide +kernel
theorem dX7_putsOut_112 : decode cX7_putsOut 112 = .ok (.invokestatic 25, 3) := by decide +kernel
theorem dX7_putsOut_115 : decode cX7_putsOut 115 = .ok (.iaload, 1) := by decide +kernel
theorem dX7_putsOut_116 : decode cX7_putsOut 116 = .ok (.bipush 7, 2) := by decide +kernel
theorem dX7_putsOut_118 : decode cX7_putsOut 118 = .ok (.if_icmp .ge 7, 3) := by decide +kernel
theorem dX7_putsOut_121 : decode cX7_putsOut 121 = .ok (.iconst 1, 1) := by decide +kernel
theorem dX7_putsOut_122 : decode cX7_putsOut 122 = .ok (.goto 4, 3) := by decide +kernel
theorem dX7_putsOut_125 : decode cX7_putsOut 125 = .ok (.iconst 0, 1) := by decide +kernel
theorem dX7_putsOut_126 : decode cX7_putsOut 126 = .ok (.iadd, 1) := by decide +kernel
theorem dX7_putsOut_127 : decode cX7_putsOut 127 = .ok (.iastore, 1) := by decide +kernel
theorem dX7_putsOut_128 : decode cX7_putsOut 128 = .ok (.return_, 1) := by decide +kernel
theorem dX7_asks_0 : decode cX7_asks 0 = .ok (.aload_n 0, 1) := by decide +kernel
theorem dX7_asks_1 : decode cX7_asks 1 = .ok (.iload_n 1, 1) := by decide +kernel
theorem dX7_asks_2 : decode cX7_asks 2 = .ok (.iload_n 2, 1) := by decide +kernel
theorem dX7_asks_3 : decode cX7_asks 3 = .ok (.iload_n 3, 1) := by decide +kernel
theorem dX7_asks_4 : decode cX7_asks 4 = .ok (.invokevirtual 63, 3) := by decide +kernel
theorem dX7_asks_7 : decode cX7_asks 7 = .ok (.istore 4, 2) := by decide +kernel
theorem dX7_asks_9 : decode cX7_asks 9 = .ok (.aload_n 0, 1) := by decide +kernel
theorem dX7_asks_10 : decode cX7_asks 10 = .ok (.iconst 0, 1) := by decide +kernel
theorem dX7_asks_11 : decode cX7_asks 11 = .ok (.putfield 60, 3) := by decide +kernel
theorem dX7_asks_14 : decode cX7_asks 14 = .ok (.iload 4, 2) := by decide +kernel
theorem dX7_asks_16 : decode cX7_asks 16 = .ok (.ifCond .le 61, 3) := by decide +kernel
theorem dX7_asks_19 : decode cX7_asks 19 = .ok (.aload_n 0, 1) := by decide +kernel
theorem dX7_asks_20 : decode cX7_asks 20 = .ok (.getfield 7, 3) := by decide +kernel
theorem dX7_asks_23 : decode cX7_asks 23 = .ok (.bipush 111, 2) := by decide +kernel
theorem dX7_asks_25 : decode cX7_asks 25 = .ok (.iload 4, 2) := by decide +kernel
theorem dX7_asks_27 : decode cX7_asks 27 = .ok (.iadd, 1) := by decide +kernel
theorem dX7_asks_28 : decode cX7_asks 28 = .ok (.iconst 1, 1) := by decide +kernel
theorem dX7_asks_29 : decode cX7_asks 29 = .ok (.isub, 1) := by decide +kernel
theorem dX7_asks_30 : decode cX7_asks 30 = .ok (.dup2, 1) := by decide +kernel
theorem dX7_asks_31 : decode cX7_asks 31 = .ok (.iaload, 1) := by decide +kernel
theorem dX7_asks_32 : decode cX7_asks 32 = .ok (.iconst 1, 1) := by decide +kernel
theorem dX7_asks_33 : decode cX7_asks 33 = .ok (.iadd, 1) := by decide +kernel
theorem dX7_asks_34 : decode cX7_asks 34 = .ok (.iastore, 1) := by decide +kernel
theorem dX7_asks_35 : decode cX7_asks 35 = .ok (.aload_n 0, 1) := by decide +kernel
theorem dX7_asks_36 : decode cX7_asks 36 = .ok (.getfield 7, 3) := by decide +kernel
theorem dX7_asks_39 : decode cX7_asks 39 = .ok (.iload_n 1, 1) := by decide +kernel
theorem dX7_asks_40 : decode cX7_asks 40 = .ok (.iconst 1, 1) := by decide +kernel
theorem dX7_asks_41 : decode cX7_asks 41 = .ok (.invokestatic 25, 3) := by decide +kernel
theorem dX7_asks_44 : decode cX7_asks 44 = .ok (.dup2, 1) := by decide +kernel
theorem dX7_asks_45 : decode cX7_asks 45 = .ok (.iaload, 1) := by decide +kernel
theorem dX7_asks_46 : decode cX7_asks 46 = .ok (.iload 4, 2) := by decide +kernel
theorem dX7_asks_48 : decode cX7_asks 48 = .ok (.iconst 2, 1) := by decide +kernel
theorem dX7_asks_49 : decode cX7_asks 49 = .ok (.if_icmp .le 22, 3) := by decide +kernel
theorem dX7_asks_52 : decode cX7_asks 52 = .ok (.aload_n 0, 1) := by decide +kernel
theorem dX7_asks_53 : decode cX7_asks 53 = .ok (.getfield 7, 3) := by decide +kernel
theorem dX7_asks_56 : decode cX7_asks 56 = .ok (.iload_n 1, 1) := by decide +kernel
theorem dX7_asks_57 : decode cX7_asks 57 = .ok (.iconst 1, 1) := by decide +kernel
theorem dX7_asks_58 : decode cX7_asks 58 = .ok (.invokestatic 25, 3) := by decide +kernel
theorem dX7_asks_61 : decode cX7_asks 61 = .ok (.iaload, 1) := by decide +kernel
theorem dX7_asks_62 : decode cX7_asks 62 = .ok (.bipush 7, 2) := by decide +kernel
theorem dX7_asks_64 : decode cX7_asks 64 = .ok (.if_icmp .ge 7, 3) := by decide +kernel
theorem dX7_asks_67 : decode cX7_asks 67 = .ok (.iconst 1, 1) := by decide +kernel
theorem dX7_asks_68 : decode cX7_asks 68 = .ok (.goto 4, 3) := by decide +kernel
theorem dX7_asks_71 : decode cX7_asks 71 = .ok (.iconst 0, 1) := by decide +kernel
theorem dX7_asks_72 : decode cX7_asks 72 = .ok (.iadd, 1) := by decide +kernel
theorem dX7_asks_73 : decode cX7_asks 73 = .ok (.iastore, 1) := by decide +kernel
theorem dX7_asks_74 : decode cX7_asks 74 = .ok (.iload 4, 2) := by decide +kernel
theorem dX7_asks_76 : decode cX7_asks 76 = .ok (.ireturn, 1) := by decide +kernel
theorem dX7_asks_77 : decode cX7_asks 77 = .ok (.aload_n 0, 1) := by decide +kernel
theorem dX7_asks_78 : decode cX7_asks 78 = .ok (.getfield 7, 3) := by decide +kernel
theorem dX7_asks_81 : decode cX7_asks 81 = .ok (.iload_n 1, 1) := by decide +kernel
theorem dX7_asks_82 : decode cX7_asks 82 = .ok (.iconst 1, 1) := by decide +kernel
theorem dX7_asks_83 : decode cX7_asks 83 = .ok (.invokestatic 25, 3) := by decide +kernel
theorem dX7_asks_86 : decode cX7_asks 86 = .ok (.iaload, 1) := by decide +kernel
theorem dX7_asks_87 : decode cX7_asks 87 = .ok (.bipush 7, 2) := by decide +kernel
theorem dX7_asks_89 : decode cX7_asks 89 = .ok (.if_icmp .ne 7, 3) := by decide +kernel
theorem dX7_asks_92 : decode cX7_asks 92 = .ok (.iconst 1, 1) := by decide +kernel
theorem dX7_asks_93 : decode cX7_asks 93 = .ok (.goto 4, 3) := by decide +kernel
theorem dX7_asks_96 : decode cX7_asks 96 = .ok (.iconst 0, 1) := by decide +kernel
theorem dX7_asks_97 : decode cX7_asks 97 = .ok (.istore 5, 2) := by decide +kernel
theorem dX7_asks_99 : decode cX7_asks 99 = .ok (.iload 5, 2) := by decide +kernel
theorem dX7_asks_101 : decode cX7_asks 101 = .ok (.ifCond .ne 27, 3) := by decide +kernel
theorem dX7_asks_104 : decode cX7_asks 104 = .ok (.aload_n 0, 1) := by decide +kernel
theorem dX7_asks_105 : decode cX7_asks 105 = .ok (.getfield 7, 3) := by decide +kernel
theorem dX7_asks_108 : decode cX7_asks 108 = .ok (.iload_n 1, 1) := by decide +kernel
theorem dX7_asks_109 : decode cX7_asks 109 = .ok (.iconst 0, 1) := by decide +kernel
theorem dX7_asks_110 : decode cX7_asks 110 = .ok (.invokestatic 25, 3) := by decide +kernel
theorem dX7_asks_113 : decode cX7_asks 113 = .ok (.iaload, 1) := by decide +kernel
theorem dX7_asks_114 : decode cX7_asks 114 = .ok (.aload_n 0, 1) := by decide +kernel
theorem dX7_asks_115 : decode cX7_asks 115 = .ok (.getfield 7, 3) := by decide +kernel
theorem dX7_asks_118 : decode cX7_asks 118 = .ok (.bipush 119, 2) := by decide +kernel
theorem dX7_asks_120 : decode cX7_asks 120 = .ok (.iaload, 1) := by decide +kernel
theorem dX7_asks_121 : decode cX7_asks 121 = .ok (.if_icmp .ge 7, 3) := by decide +kernel
theorem dX7_asks_124 : decode cX7_asks 124 = .ok (.iconst 1, 1) := by decide +kernel
theorem dX7_asks_125 : decode cX7_asks 125 = .ok (.goto 4, 3) := by decide +kernel
theorem dX7_asks_128 : decode cX7_asks 128 = .ok (.iconst 0, 1) := by decide +kernel
theorem dX7_asks_129 : decode cX7_asks 129 = .ok (.istore 6, 2) := by decide +kernel
theorem dX7_asks_131 : decode cX7_asks 131 = .ok (.aload_n 0, 1) := by decide +kernel
theorem dX7_asks_132 : decode cX7_asks 132 = .ok (.iload_n 2, 1) := by decide +kernel
theorem dX7_asks_133 : decode cX7_asks 133 = .ok (.iload_n 3, 1) := by decide +kernel
theorem dX7_asks_134 : decode cX7_asks 134 = .ok (.invokevirtual 53, 3) := by decide +kernel
theorem dX7_asks_137 : decode cX7_asks 137 = .ok (.istore 7, 2) := by decide +kernel
theorem dX7_asks_139 : decode cX7_asks 139 = .ok (.iload_n 2, 1) := by decide +kernel
theorem dX7_asks_140 : decode cX7_asks 140 = .ok (.istore 8, 2) := by decide +kernel
theorem dX7_asks_142 : decode cX7_asks 142 = .ok (.iload 8, 2) := by decide +kernel
theorem dX7_asks_144 : decode cX7_asks 144 = .ok (.iload_n 2, 1) := by decide +kernel
theorem dX7_asks_145 : decode cX7_asks 145 = .ok (.iload_n 3, 1) := by decide +kernel
theorem dX7_asks_146 : decode cX7_asks 146 = .ok (.iadd, 1) := by decide +kernel
theorem dX7_asks_147 : decode cX7_asks 147 = .ok (.if_icmp .ge 33, 3) := by decide +kernel
theorem dX7_asks_150 : decode cX7_asks 150 = .ok (.aload_n 0, 1) := by decide +kernel
theorem dX7_asks_151 : decode cX7_asks 151 = .ok (.getfield 7, 3) := by decide +kernel
theorem dX7_asks_154 : decode cX7_asks 154 = .ok (.iload 7, 2) := by decide +kernel
theorem dX7_asks_156 : decode cX7_asks 156 = .ok (.iload 8, 2) := by decide +kernel
theorem dX7_asks_158 : decode cX7_asks 158 = .ok (.invokestatic 40, 3) := by decide +kernel
theorem dX7_asks_161 : decode cX7_asks 161 = .ok (.iaload, 1) := by decide +kernel
theorem dX7_asks_162 : decode cX7_asks 162 = .ok (.iconst (-1), 1) := by decide +kernel
theorem dX7_asks_163 : decode cX7_asks 163 = .ok (.if_icmp .eq 11, 3) := by decide +kernel
theorem dX7_asks_166 : decode cX7_asks 166 = .ok (.aload_n 0, 1) := by decide +kernel
theorem dX7_asks_167 : decode cX7_asks 167 = .ok (.iload 7, 2) := by decide +kernel
theorem dX7_asks_169 : decode cX7_asks 169 = .ok (.iload 8, 2) := by decide +kernel
theorem dX7_asks_171 : decode cX7_asks 171 = .ok (.invokevirtual 66, 3) := by decide +kernel
theorem dX7_asks_174 : decode cX7_asks 174 = .ok (.iinc 8 1, 3) := by decide +kernel
theorem dX7_asks_177 : decode cX7_asks 177 = .ok (.goto (-35), 3) := by decide +kernel
theorem dX7_asks_180 : decode cX7_asks 180 = .ok (.iload_n 2, 1) := by decide +kernel
theorem dX7_asks_181 : decode cX7_asks 181 = .ok (.istore 8, 2) := by decide +kernel
theorem dX7_asks_183 : decode cX7_asks 183 = .ok (.iload 8, 2) := by decide +kernel
theorem dX7_asks_185 : decode cX7_asks 185 = .ok (.iload_n 2, 1) := by decide +kernel
theorem dX7_asks_186 : decode cX7_asks 186 = .ok (.iload_n 3, 1) := by decide +kernel
theorem dX7_asks_187 : decode cX7_asks 187 = .ok (.iadd, 1) := by decide +kernel
theorem dX7_asks_188 : decode cX7_asks 188 = .ok (.if_icmp .ge 22, 3) := by decide +kernel
theorem dX7_asks_191 : decode cX7_asks 191 = .ok (.aload_n 0, 1) := by decide +kernel
theorem dX7_asks_192 : decode cX7_asks 192 = .ok (.getfield 7, 3) := by decide +kernel
theorem dX7_asks_195 : decode cX7_asks 195 = .ok (.iload 7, 2) := by decide +kernel
theorem dX7_asks_197 : decode cX7_asks 197 = .ok (.iload 8, 2) := by decide +kernel
theorem dX7_asks_199 : decode cX7_asks 199 = .ok (.invokestatic 40, 3) := by decide +kernel
theorem dX7_asks_202 : decode cX7_asks 202 = .ok (.iload_n 1, 1) := by decide +kernel
theorem dX7_asks_203 : decode cX7_asks 203 = .ok (.iastore, 1) := by decide +kernel
theorem dX7_asks_204 : decode cX7_asks 204 = .ok (.iinc 8 1, 3) := by decide +kernel
theorem dX7_asks_207 : decode cX7_asks 207 = .ok (.goto (-24), 3) := by decide +kernel
theorem dX7_asks_210 : decode cX7_asks 210 = .ok (.aload_n 0, 1) := by decide +kernel
theorem dX7_asks_211 : decode cX7_asks 211 = .ok (.getfield 7, 3) := by decide +kernel
theorem dX7_asks_214 : decode cX7_asks 214 = .ok (.iload_n 1, 1) := by decide +kernel
theorem dX7_asks_215 : decode cX7_asks 215 = .ok (.iconst 1, 1) := by decide +kernel
theorem dX7_asks_216 : decode cX7_asks 216 = .ok (.invokestatic 25, 3) := by decide +kernel
theorem dX7_asks_219 : decode cX7_asks 219 = .ok (.iconst 0, 1) := by decide +kernel
theorem dX7_asks_220 : decode cX7_asks 220 = .ok (.iastore, 1) := by decide +kernel
theorem dX7_asks_221 : decode cX7_asks 221 = .ok (.aload_n 0, 1) := by decide +kernel
theorem dX7_asks_222 : decode cX7_asks 222 = .ok (.getfield 7, 3) := by decide +kernel
theorem dX7_asks_225 : decode cX7_asks 225 = .ok (.iload_n 1, 1) := by decide +kernel
theorem dX7_asks_226 : decode cX7_asks 226 = .ok (.iconst 5, 1) := by decide +kernel
theorem dX7_asks_227 : decode cX7_asks 227 = .ok (.invokestatic 25, 3) := by decide +kernel
theorem dX7_asks_230 : decode cX7_asks 230 = .ok (.dup2, 1) := by decide +kernel
theorem dX7_asks_231 : decode cX7_asks 231 = .ok (.iaload, 1) := by decide +kernel
theorem dX7_asks_232 : decode cX7_asks 232 = .ok (.iload 5, 2) := by decide +kernel
theorem dX7_asks_234 : decode cX7_asks 234 = .ok (.ifCond .eq 7, 3) := by decide +kernel
theorem dX7_asks_237 : decode cX7_asks 237 = .ok (.iconst 1, 1) := by decide +kernel
theorem dX7_asks_238 : decode cX7_asks 238 = .ok (.goto 4, 3) := by decide +kernel
theorem dX7_asks_241 : decode cX7_asks 241 = .ok (.iconst 0, 1) := by decide +kernel
theorem dX7_asks_242 : decode cX7_asks 242 = .ok (.iadd, 1) := by decide +kernel
theorem dX7_asks_243 : decode cX7_asks 243 = .ok (.iastore, 1) := by decide +kernel
theorem dX7_asks_244 : decode cX7_asks 244 = .ok (.aload_n 0, 1) := by decide +kernel
theorem dX7_asks_245 : decode cX7_asks 245 = .ok (.getfield 7, 3) := by decide +kernel
theorem dX7_asks_248 : decode cX7_asks 248 = .ok (.iload_n 1, 1) := by decide +kernel
theorem dX7_asks_249 : decode cX7_asks 249 = .ok (.iconst 2, 1) := by decide +kernel
theorem dX7_asks_250 : decode cX7_asks 250 = .ok (.invokestatic 25, 3) := by decide +kernel
theorem dX7_asks_253 : decode cX7_asks 253 = .ok (.dup2, 1) := by decide +kernel
theorem dX7_asks_254 : decode cX7_asks 254 = .ok (.iaload, 1) := by decide +kernel
theorem dX7_asks_255 : decode cX7_asks 255 = .ok (.iload 6, 2) := by decide +kernel
theorem dX7_asks_257 : decode cX7_asks 257 = .ok (.ifCond .eq 7, 3) := by decide +kernel
theorem dX7_asks_260 : decode cX7_asks 260 = .ok (.iconst 1, 1) := by decide +kernel
theorem dX7_asks_261 : decode cX7_asks 261 = .ok (.goto 4, 3) := by decide +kernel
theorem dX7_asks_264 : decode cX7_asks 264 = .ok (.iconst 0, 1) := by decide +kernel
theorem dX7_asks_265 : decode cX7_asks 265 = .ok (.isub, 1) := by decide +kernel
theorem dX7_asks_266 : decode cX7_asks 266 = .ok (.iastore, 1) := by decide +kernel
theorem dX7_asks_267 : decode cX7_asks 267 = .ok (.aload_n 0, 1) := by decide +kernel
theorem dX7_asks_268 : decode cX7_asks 268 = .ok (.getfield 7, 3) := by decide +kernel
theorem dX7_asks_271 : decode cX7_asks 271 = .ok (.bipush 117, 2) := by decide +kernel
theorem dX7_asks_273 : decode cX7_asks 273 = .ok (.dup2, 1) := by decide +kernel
theorem dX7_asks_274 : decode cX7_asks 274 = .ok (.iaload, 1) := by decide +kernel
theorem dX7_asks_275 : decode cX7_asks 275 = .ok (.iload 6, 2) := by decide +kernel
theorem dX7_asks_277 : decode cX7_asks 277 = .ok (.ifCond .eq 7, 3) := by decide +kernel
theorem dX7_asks_280 : decode cX7_asks 280 = .ok (.iconst 1, 1) := by decide +kernel
theorem dX7_asks_281 : decode cX7_asks 281 = .ok (.goto 4, 3) := by decide +kernel
theorem dX7_asks_284 : decode cX7_asks 284 = .ok (.iconst 0, 1) := by decide +kernel
theorem dX7_asks_285 : decode cX7_asks 285 = .ok (.iadd, 1) := by decide +kernel
theorem dX7_asks_286 : decode cX7_asks 286 = .ok (.iastore, 1) := by decide +kernel
theorem dX7_asks_287 : decode cX7_asks 287 = .ok (.aload_n 0, 1) := by decide +kernel
theorem dX7_asks_288 : decode cX7_asks 288 = .ok (.getfield 7, 3) := by decide +kernel
theorem dX7_asks_291 : decode cX7_asks 291 = .ok (.bipush 110, 2) := by decide +kernel
theorem dX7_asks_293 : decode cX7_asks 293 = .ok (.dup2, 1) := by decide +kernel
theorem dX7_asks_294 : decode cX7_asks 294 = .ok (.iaload, 1) := by decide +kernel
theorem dX7_asks_295 : decode cX7_asks 295 = .ok (.iconst 1, 1) := by decide +kernel
theorem dX7_asks_296 : decode cX7_asks 296 = .ok (.iadd, 1) := by decide +kernel
theorem dX7_asks_297 : decode cX7_asks 297 = .ok (.iastore, 1) := by decide +kernel
theorem dX7_asks_298 : decode cX7_asks 298 = .ok (.bipush 10, 2) := by decide +kernel
theorem dX7_asks_300 : decode cX7_asks 300 = .ok (.iload 7, 2) := by decide +kernel
theorem dX7_asks_302 : decode cX7_asks 302 = .ok (.iadd, 1) := by decide +kernel
theorem dX7_asks_303 : decode cX7_asks 303 = .ok (.ireturn, 1) := by decide +kernel
theorem dX7_ask_0 : decode cX7_ask 0 = .ok (.aload_n 0, 1) := by decide +kernel
theorem dX7_ask_1 : decode cX7_ask 1 = .ok (.iload_n 1, 1) := by decide +kernel
theorem dX7_ask_2 : decode cX7_ask 2 = .ok (.invokestatic 70, 3) := by decide +kernel
theorem dX7_ask_5 : decode cX7_ask 5 = .ok (.ifCond .ne 7, 3) := by decide +kernel
theorem dX7_ask_8 : decode cX7_ask 8 = .ok (.iconst 1, 1) := by decide +kernel
theorem dX7_ask_9 : decode cX7_ask 9 = .ok (.goto 16, 3) := by decide +kernel
theorem dX7_ask_12 : decode cX7_ask 12 = .ok (.iload_n 2, 1) := by decide +kernel
theorem dX7_ask_13 : decode cX7_ask 13 = .ok (.iload_n 3, 1) := by decide +kernel
theorem dX7_ask_14 : decode cX7_ask 14 = .ok (.invokestatic 74, 3) := by decide +kernel
theorem dX7_ask_17 : decode cX7_ask 17 = .ok (.ifCond .eq 7, 3) := by decide +kernel
theorem dX7_ask_20 : decode cX7_ask 20 = .ok (.iconst 0, 1) := by decide +kernel
theorem dX7_ask_21 : decode cX7_ask 21 = .ok (.goto 4, 3) := by decide +kernel
theorem dX7_ask_24 : decode cX7_ask 24 = .ok (.iconst 2, 1) := by decide +kernel
theorem dX7_ask_25 : decode cX7_ask 25 = .ok (.invokevirtual 78, 3) := by decide +kernel
theorem dX7_ask_28 : decode cX7_ask 28 = .ok (.ifCond .ne 5, 3) := by decide +kernel
theorem dX7_ask_31 : decode cX7_ask 31 = .ok (.iconst 0, 1) := by decide +kernel
theorem dX7_ask_32 : decode cX7_ask 32 = .ok (.ireturn, 1) := by decide +kernel
theorem dX7_ask_33 : decode cX7_ask 33 = .ok (.aload_n 0, 1) := by decide +kernel
theorem dX7_ask_34 : decode cX7_ask 34 = .ok (.invokevirtual 81, 3) := by decide +kernel
theorem dX7_ask_37 : decode cX7_ask 37 = .ok (.aload_n 0, 1) := by decide +kernel
theorem dX7_ask_38 : decode cX7_ask 38 = .ok (.iload_n 1, 1) := by decide +kernel
theorem dX7_ask_39 : decode cX7_ask 39 = .ok (.iload_n 2, 1) := by decide +kernel
theorem dX7_ask_40 : decode cX7_ask 40 = .ok (.iload_n 3, 1) := by decide +kernel
theorem dX7_ask_41 : decode cX7_ask 41 = .ok (.invokevirtual 84, 3) := by decide +kernel
theorem dX7_ask_44 : decode cX7_ask 44 = .ok (.ireturn, 1) := by decide +kernel
theorem dX7_refuses_0 : decode cX7_refuses 0 = .ok (.aload_n 0, 1) := by decide +kernel
theorem dX7_refuses_1 : decode cX7_refuses 1 = .ok (.getfield 7, 3) := by decide +kernel
theorem dX7_refuses_4 : decode cX7_refuses 4 = .ok (.bipush 118, 2) := by decide +kernel
theorem dX7_refuses_6 : decode cX7_refuses 6 = .ok (.dup2, 1) := by decide +kernel
theorem dX7_refuses_7 : decode cX7_refuses 7 = .ok (.iaload, 1) := by decide +kernel
theorem dX7_refuses_8 : decode cX7_refuses 8 = .ok (.iconst 1, 1) := by decide +kernel
theorem dX7_refuses_9 : decode cX7_refuses 9 = .ok (.iadd, 1) := by decide +kernel
theorem dX7_refuses_10 : decode cX7_refuses 10 = .ok (.iastore, 1) := by decide +kernel
theorem dX7_refuses_11 : decode cX7_refuses 11 = .ok (.iconst (-1), 1) := by decide +kernel
theorem dX7_refuses_12 : decode cX7_refuses 12 = .ok (.ireturn, 1) := by decide +kernel
theorem dX7_giveBack_0 : decode cX7_giveBack 0 = .ok (.aload_n 0, 1) := by decide +kernel
theorem dX7_giveBack_1 : decode cX7_giveBack 1 = .ok (.iload_n 1, 1) := by decide +kernel
theorem dX7_giveBack_2 : decode cX7_giveBack 2 = .ok (.invokestatic 70, 3) := by decide +kernel
theorem dX7_giveBack_5 : decode cX7_giveBack 5 = .ok (.ifCond .ne 7, 3) := by decide +kernel
theorem dX7_giveBack_8 : decode cX7_giveBack 8 = .ok (.iconst 1, 1) := by decide +kernel
theorem dX7_giveBack_9 : decode cX7_giveBack 9 = .ok (.goto 18, 3) := by decide +kernel
theorem dX7_giveBack_12 : decode cX7_giveBack 12 = .ok (.iload_n 2, 1) := by decide +kernel
theorem dX7_giveBack_13 : decode cX7_giveBack 13 = .ok (.iconst 0, 1) := by decide +kernel
theorem dX7_giveBack_14 : decode cX7_giveBack 14 = .ok (.bipush 11, 2) := by decide +kernel
theorem dX7_giveBack_16 : decode cX7_giveBack 16 = .ok (.invokestatic 33, 3) := by decide +kernel
theorem dX7_giveBack_19 : decode cX7_giveBack 19 = .ok (.ifCond .eq 7, 3) := by decide +kernel
theorem dX7_giveBack_22 : decode cX7_giveBack 22 = .ok (.iconst 0, 1) := by decide +kernel
theorem dX7_giveBack_23 : decode cX7_giveBack 23 = .ok (.goto 4, 3) := by decide +kernel
theorem dX7_giveBack_26 : decode cX7_giveBack 26 = .ok (.iconst 2, 1) := by decide +kernel
theorem dX7_giveBack_27 : decode cX7_giveBack 27 = .ok (.invokevirtual 78, 3) := by decide +kernel
theorem dX7_giveBack_30 : decode cX7_giveBack 30 = .ok (.ifCond .ne 5, 3) := by decide +kernel
theorem dX7_giveBack_33 : decode cX7_giveBack 33 = .ok (.iconst 0, 1) := by decide +kernel
theorem dX7_giveBack_34 : decode cX7_giveBack 34 = .ok (.ireturn, 1) := by decide +kernel
theorem dX7_giveBack_35 : decode cX7_giveBack 35 = .ok (.aload_n 0, 1) := by decide +kernel
theorem dX7_giveBack_36 : decode cX7_giveBack 36 = .ok (.invokevirtual 81, 3) := by decide +kernel
theorem dX7_giveBack_39 : decode cX7_giveBack 39 = .ok (.iload_n 2, 1) := by decide +kernel
theorem dX7_giveBack_40 : decode cX7_giveBack 40 = .ok (.aload_n 0, 1) := by decide +kernel
theorem dX7_giveBack_41 : decode cX7_giveBack 41 = .ok (.getfield 7, 3) := by decide +kernel
theorem dX7_giveBack_44 : decode cX7_giveBack 44 = .ok (.bipush 108, 2) := by decide +kernel
theorem dX7_giveBack_46 : decode cX7_giveBack 46 = .ok (.iaload, 1) := by decide +kernel
theorem dX7_giveBack_47 : decode cX7_giveBack 47 = .ok (.if_icmp .ge 7, 3) := by decide +kernel
theorem dX7_giveBack_50 : decode cX7_giveBack 50 = .ok (.iconst (-1), 1) := by decide +kernel
theorem dX7_giveBack_51 : decode cX7_giveBack 51 = .ok (.goto 9, 3) := by decide +kernel
theorem dX7_giveBack_54 : decode cX7_giveBack 54 = .ok (.aload_n 0, 1) := by decide +kernel
theorem dX7_giveBack_55 : decode cX7_giveBack 55 = .ok (.iload_n 1, 1) := by decide +kernel
theorem dX7_giveBack_56 : decode cX7_giveBack 56 = .ok (.iload_n 2, 1) := by decide +kernel
theorem dX7_giveBack_57 : decode cX7_giveBack 57 = .ok (.invokevirtual 47, 3) := by decide +kernel
theorem dX7_giveBack_60 : decode cX7_giveBack 60 = .ok (.istore_n 3, 1) := by decide +kernel
theorem dX7_giveBack_61 : decode cX7_giveBack 61 = .ok (.iload_n 3, 1) := by decide +kernel
theorem dX7_giveBack_62 : decode cX7_giveBack 62 = .ok (.iconst (-1), 1) := by decide +kernel
theorem dX7_giveBack_63 : decode cX7_giveBack 63 = .ok (.if_icmp .ne 8, 3) := by decide +kernel
theorem dX7_giveBack_66 : decode cX7_giveBack 66 = .ok (.aload_n 0, 1) := by decide +kernel
theorem dX7_giveBack_67 : decode cX7_giveBack 67 = .ok (.invokevirtual 87, 3) := by decide +kernel
theorem dX7_giveBack_70 : decode cX7_giveBack 70 = .ok (.ireturn, 1) := by decide +kernel
theorem dX7_giveBack_71 : decode cX7_giveBack 71 = .ok (.iconst 0, 1) := by decide +kernel
theorem dX7_giveBack_72 : decode cX7_giveBack 72 = .ok (.istore 4, 2) := by decide +kernel
theorem dX7_giveBack_74 : decode cX7_giveBack 74 = .ok (.iload_n 2, 1) := by decide +kernel
theorem dX7_giveBack_75 : decode cX7_giveBack 75 = .ok (.iload 4, 2) := by decide +kernel
theorem dX7_giveBack_77 : decode cX7_giveBack 77 = .ok (.iadd, 1) := by decide +kernel
theorem dX7_giveBack_78 : decode cX7_giveBack 78 = .ok (.bipush 12, 2) := by decide +kernel
theorem dX7_giveBack_80 : decode cX7_giveBack 80 = .ok (.if_icmp .ge 40, 3) := by decide +kernel
theorem dX7_giveBack_83 : decode cX7_giveBack 83 = .ok (.aload_n 0, 1) := by decide +kernel
theorem dX7_giveBack_84 : decode cX7_giveBack 84 = .ok (.getfield 7, 3) := by decide +kernel
theorem dX7_giveBack_87 : decode cX7_giveBack 87 = .ok (.iload_n 3, 1) := by decide +kernel
theorem dX7_giveBack_88 : decode cX7_giveBack 88 = .ok (.iload_n 2, 1) := by decide +kernel
theorem dX7_giveBack_89 : decode cX7_giveBack 89 = .ok (.iload 4, 2) := by decide +kernel
theorem dX7_giveBack_91 : decode cX7_giveBack 91 = .ok (.iadd, 1) := by decide +kernel
theorem dX7_giveBack_92 : decode cX7_giveBack 92 = .ok (.invokestatic 40, 3) := by decide +kernel
theorem dX7_giveBack_95 : decode cX7_giveBack 95 = .ok (.iaload, 1) := by decide +kernel
theorem dX7_giveBack_96 : decode cX7_giveBack 96 = .ok (.iload_n 1, 1) := by decide +kernel
theorem dX7_giveBack_97 : decode cX7_giveBack 97 = .ok (.if_icmp .ne 23, 3) := by decide +kernel
theorem dX7_giveBack_100 : decode cX7_giveBack 100 = .ok (.aload_n 0, 1) := by decide +kernel
theorem dX7_giveBack_101 : decode cX7_giveBack 101 = .ok (.getfield 7, 3) := by decide +kernel
theorem dX7_giveBack_104 : decode cX7_giveBack 104 = .ok (.iload_n 3, 1) := by decide +kernel
theorem dX7_giveBack_105 : decode cX7_giveBack 105 = .ok (.iload_n 2, 1) := by decide +kernel
theorem dX7_giveBack_106 : decode cX7_giveBack 106 = .ok (.iload 4, 2) := by decide +kernel
theorem dX7_giveBack_108 : decode cX7_giveBack 108 = .ok (.iadd, 1) := by decide +kernel
theorem dX7_giveBack_109 : decode cX7_giveBack 109 = .ok (.invokestatic 40, 3) := by decide +kernel
theorem dX7_giveBack_112 : decode cX7_giveBack 112 = .ok (.iconst (-1), 1) := by decide +kernel
theorem dX7_giveBack_113 : decode cX7_giveBack 113 = .ok (.iastore, 1) := by decide +kernel
theorem dX7_giveBack_114 : decode cX7_giveBack 114 = .ok (.iinc 4 1, 3) := by decide +kernel
theorem dX7_giveBack_117 : decode cX7_giveBack 117 = .ok (.goto (-43), 3) := by decide +kernel
theorem dX7_giveBack_120 : decode cX7_giveBack 120 = .ok (.iload 4, 2) := by decide +kernel
theorem dX7_giveBack_122 : decode cX7_giveBack 122 = .ok (.ireturn, 1) := by decide +kernel
theorem dX7_favour_0 : decode cX7_favour 0 = .ok (.aload_n 0, 1) := by decide +kernel
theorem dX7_favour_1 : decode cX7_favour 1 = .ok (.iload_n 1, 1) := by decide +kernel
theorem dX7_favour_2 : decode cX7_favour 2 = .ok (.invokestatic 70, 3) := by decide +kernel
theorem dX7_favour_5 : decode cX7_favour 5 = .ok (.ifCond .eq 7, 3) := by decide +kernel
theorem dX7_favour_8 : decode cX7_favour 8 = .ok (.iconst 0, 1) := by decide +kernel
theorem dX7_favour_9 : decode cX7_favour 9 = .ok (.goto 4, 3) := by decide +kernel
theorem dX7_favour_12 : decode cX7_favour 12 = .ok (.iconst 1, 1) := by decide +kernel
theorem dX7_favour_13 : decode cX7_favour 13 = .ok (.invokevirtual 78, 3) := by decide +kernel
theorem dX7_favour_16 : decode cX7_favour 16 = .ok (.ifCond .ne 5, 3) := by decide +kernel
theorem dX7_favour_19 : decode cX7_favour 19 = .ok (.iconst 0, 1) := by decide +kernel
theorem dX7_favour_20 : decode cX7_favour 20 = .ok (.ireturn, 1) := by decide +kernel
theorem dX7_favour_21 : decode cX7_favour 21 = .ok (.aload_n 0, 1) := by decide +kernel
theorem dX7_favour_22 : decode cX7_favour 22 = .ok (.invokevirtual 81, 3) := by decide +kernel
theorem dX7_favour_25 : decode cX7_favour 25 = .ok (.aload_n 0, 1) := by decide +kernel
theorem dX7_favour_26 : decode cX7_favour 26 = .ok (.getfield 7, 3) := by decide +kernel
theorem dX7_favour_29 : decode cX7_favour 29 = .ok (.iload_n 1, 1) := by decide +kernel
theorem dX7_favour_30 : decode cX7_favour 30 = .ok (.iconst 2, 1) := by decide +kernel
theorem dX7_favour_31 : decode cX7_favour 31 = .ok (.invokestatic 25, 3) := by decide +kernel
theorem dX7_favour_34 : decode cX7_favour 34 = .ok (.iaload, 1) := by decide +kernel
theorem dX7_favour_35 : decode cX7_favour 35 = .ok (.iconst 3, 1) := by decide +kernel
theorem dX7_favour_36 : decode cX7_favour 36 = .ok (.if_icmp .ne 8, 3) := by decide +kernel
theorem dX7_favour_39 : decode cX7_favour 39 = .ok (.aload_n 0, 1) := by decide +kernel
theorem dX7_favour_40 : decode cX7_favour 40 = .ok (.invokevirtual 87, 3) := by decide +kernel
theorem dX7_favour_43 : decode cX7_favour 43 = .ok (.ireturn, 1) := by decide +kernel
theorem dX7_favour_44 : decode cX7_favour 44 = .ok (.aload_n 0, 1) := by decide +kernel
theorem dX7_favour_45 : decode cX7_favour 45 = .ok (.getfield 7, 3) := by decide +kernel
theorem dX7_favour_48 : decode cX7_favour 48 = .ok (.iload_n 1, 1) := by decide +kernel
theorem dX7_favour_49 : decode cX7_favour 49 = .ok (.iconst 2, 1) := by decide +kernel
theorem dX7_favour_50 : decode cX7_favour 50 = .ok (.invokestatic 25, 3) := by decide +kernel
theorem dX7_favour_53 : decode cX7_favour 53 = .ok (.dup2, 1) := by decide +kernel
theorem dX7_favour_54 : decode cX7_favour 54 = .ok (.iaload, 1) := by decide +kernel
theorem dX7_favour_55 : decode cX7_favour 55 = .ok (.iconst 1, 1) := by decide +kernel
theorem dX7_favour_56 : decode cX7_favour 56 = .ok (.iadd, 1) := by decide +kernel
theorem dX7_favour_57 : decode cX7_favour 57 = .ok (.iastore, 1) := by decide +kernel
theorem dX7_favour_58 : decode cX7_favour 58 = .ok (.aload_n 0, 1) := by decide +kernel
theorem dX7_favour_59 : decode cX7_favour 59 = .ok (.getfield 7, 3) := by decide +kernel
theorem dX7_favour_62 : decode cX7_favour 62 = .ok (.iload_n 1, 1) := by decide +kernel
theorem dX7_favour_63 : decode cX7_favour 63 = .ok (.iconst 2, 1) := by decide +kernel
theorem dX7_favour_64 : decode cX7_favour 64 = .ok (.invokestatic 25, 3) := by decide +kernel
theorem dX7_favour_67 : decode cX7_favour 67 = .ok (.iaload, 1) := by decide +kernel
theorem dX7_favour_68 : decode cX7_favour 68 = .ok (.ireturn, 1) := by decide +kernel
theorem dX7_becomes_0 : decode cX7_becomes 0 = .ok (.aload_n 0, 1) := by decide +kernel
theorem dX7_becomes_1 : decode cX7_becomes 1 = .ok (.invokevirtual 81, 3) := by decide +kernel
theorem dX7_becomes_4 : decode cX7_becomes 4 = .ok (.aload_n 0, 1) := by decide +kernel
theorem dX7_becomes_5 : decode cX7_becomes 5 = .ok (.getfield 7, 3) := by decide +kernel
theorem dX7_becomes_8 : decode cX7_becomes 8 = .ok (.iload_n 1, 1) := by decide +kernel
theorem dX7_becomes_9 : decode cX7_becomes 9 = .ok (.iaload, 1) := by decide +kernel
theorem dX7_becomes_10 : decode cX7_becomes 10 = .ok (.istore_n 3, 1) := by decide +kernel
theorem dX7_becomes_11 : decode cX7_becomes 11 = .ok (.aload_n 0, 1) := by decide +kernel
theorem dX7_becomes_12 : decode cX7_becomes 12 = .ok (.getfield 7, 3) := by decide +kernel
theorem dX7_becomes_15 : decode cX7_becomes 15 = .ok (.iload_n 1, 1) := by decide +kernel
theorem dX7_becomes_16 : decode cX7_becomes 16 = .ok (.iload_n 2, 1) := by decide +kernel
theorem dX7_becomes_17 : decode cX7_becomes 17 = .ok (.iastore, 1) := by decide +kernel
theorem dX7_becomes_18 : decode cX7_becomes 18 = .ok (.iload_n 3, 1) := by decide +kernel
theorem dX7_becomes_19 : decode cX7_becomes 19 = .ok (.ireturn, 1) := by decide +kernel
theorem dX7_need_0 : decode cX7_need 0 = .ok (.aload_n 0, 1) := by decide +kernel
theorem dX7_need_1 : decode cX7_need 1 = .ok (.iload_n 1, 1) := by decide +kernel
theorem dX7_need_2 : decode cX7_need 2 = .ok (.invokestatic 70, 3) := by decide +kernel
theorem dX7_need_5 : decode cX7_need 5 = .ok (.ifCond .ne 7, 3) := by decide +kernel
theorem dX7_need_8 : decode cX7_need 8 = .ok (.iconst 1, 1) := by decide +kernel
theorem dX7_need_9 : decode cX7_need 9 = .ok (.goto 18, 3) := by decide +kernel
theorem dX7_need_12 : decode cX7_need 12 = .ok (.iload_n 2, 1) := by decide +kernel
theorem dX7_need_13 : decode cX7_need 13 = .ok (.iconst 0, 1) := by decide +kernel
theorem dX7_need_14 : decode cX7_need 14 = .ok (.bipush 9, 2) := by decide +kernel
theorem dX7_need_16 : decode cX7_need 16 = .ok (.invokestatic 33, 3) := by decide +kernel
theorem dX7_need_19 : decode cX7_need 19 = .ok (.ifCond .eq 7, 3) := by decide +kernel
theorem dX7_need_22 : decode cX7_need 22 = .ok (.iconst 0, 1) := by decide +kernel
theorem dX7_need_23 : decode cX7_need 23 = .ok (.goto 4, 3) := by decide +kernel
theorem dX7_need_26 : decode cX7_need 26 = .ok (.iconst 2, 1) := by decide +kernel
theorem dX7_need_27 : decode cX7_need 27 = .ok (.invokevirtual 78, 3) := by decide +kernel
theorem dX7_need_30 : decode cX7_need 30 = .ok (.ifCond .eq 16, 3) := by decide +kernel
theorem dX7_need_33 : decode cX7_need 33 = .ok (.aload_n 0, 1) := by decide +kernel
theorem dX7_need_34 : decode cX7_need 34 = .ok (.iload_n 1, 1) := by decide +kernel
theorem dX7_need_35 : decode cX7_need 35 = .ok (.iconst 0, 1) := by decide +kernel
theorem dX7_need_36 : decode cX7_need 36 = .ok (.invokestatic 25, 3) := by decide +kernel
theorem dX7_need_39 : decode cX7_need 39 = .ok (.iload_n 2, 1) := by decide +kernel
theorem dX7_need_40 : decode cX7_need 40 = .ok (.invokevirtual 91, 3) := by decide +kernel
theorem dX7_need_43 : decode cX7_need 43 = .ok (.goto 4, 3) := by decide +kernel
theorem dX7_need_46 : decode cX7_need 46 = .ok (.iconst 0, 1) := by decide +kernel
theorem dX7_need_47 : decode cX7_need 47 = .ok (.ireturn, 1) := by decide +kernel
theorem dX7_passes_0 : decode cX7_passes 0 = .ok (.iconst 0, 1) := by decide +kernel
theorem dX7_passes_1 : decode cX7_passes 1 = .ok (.istore_n 1, 1) := by decide +kernel
theorem dX7_passes_2 : decode cX7_passes 2 = .ok (.iconst 0, 1) := by decide +kernel
theorem dX7_passes_3 : decode cX7_passes 3 = .ok (.istore_n 2, 1) := by decide +kernel
theorem dX7_passes_4 : decode cX7_passes 4 = .ok (.iload_n 2, 1) := by decide +kernel
theorem dX7_passes_5 : decode cX7_passes 5 = .ok (.iconst 4, 1) := by decide +kernel
theorem dX7_passes_6 : decode cX7_passes 6 = .ok (.if_icmp .ge 48, 3) := by decide +kernel
theorem dX7_passes_9 : decode cX7_passes 9 = .ok (.aload_n 0, 1) := by decide +kernel
theorem dX7_passes_10 : decode cX7_passes 10 = .ok (.getfield 7, 3) := by decide +kernel
theorem dX7_passes_13 : decode cX7_passes 13 = .ok (.iload_n 2, 1) := by decide +kernel
theorem dX7_passes_14 : decode cX7_passes 14 = .ok (.aload_n 0, 1) := by decide +kernel
theorem dX7_passes_15 : decode cX7_passes 15 = .ok (.getfield 7, 3) := by decide +kernel
theorem dX7_passes_18 : decode cX7_passes 18 = .ok (.bipush 108, 2) := by decide +kernel
theorem dX7_passes_20 : decode cX7_passes 20 = .ok (.iaload, 1) := by decide +kernel
theorem dX7_passes_21 : decode cX7_passes 21 = .ok (.invokestatic 40, 3) := by decide +kernel
theorem dX7_passes_24 : decode cX7_passes 24 = .ok (.iaload, 1) := by decide +kernel
theorem dX7_passes_25 : decode cX7_passes 25 = .ok (.istore_n 3, 1) := by decide +kernel
theorem dX7_passes_26 : decode cX7_passes 26 = .ok (.iload_n 3, 1) := by decide +kernel
theorem dX7_passes_27 : decode cX7_passes 27 = .ok (.iconst (-1), 1) := by decide +kernel
theorem dX7_passes_28 : decode cX7_passes 28 = .ok (.if_icmp .eq 20, 3) := by decide +kernel
theorem dX7_passes_31 : decode cX7_passes 31 = .ok (.aload_n 0, 1) := by decide +kernel
theorem dX7_passes_32 : decode cX7_passes 32 = .ok (.getfield 7, 3) := by decide +kernel
theorem dX7_passes_35 : decode cX7_passes 35 = .ok (.iload_n 3, 1) := by decide +kernel
theorem dX7_passes_36 : decode cX7_passes 36 = .ok (.iconst 3, 1) := by decide +kernel
theorem dX7_passes_37 : decode cX7_passes 37 = .ok (.invokestatic 25, 3) := by decide +kernel
theorem dX7_passes_40 : decode cX7_passes 40 = .ok (.dup2, 1) := by decide +kernel
theorem dX7_passes_41 : decode cX7_passes 41 = .ok (.iaload, 1) := by decide +kernel
theorem dX7_passes_42 : decode cX7_passes 42 = .ok (.iconst 1, 1) := by decide +kernel
theorem dX7_passes_43 : decode cX7_passes 43 = .ok (.iadd, 1) := by decide +kernel
theorem dX7_passes_44 : decode cX7_passes 44 = .ok (.iastore, 1) := by decide +kernel
theorem dX7_passes_45 : decode cX7_passes 45 = .ok (.iinc 1 1, 3) := by decide +kernel
theorem dX7_passes_48 : decode cX7_passes 48 = .ok (.iinc 2 1, 3) := by decide +kernel
theorem dX7_passes_51 : decode cX7_passes 51 = .ok (.goto (-47), 3) := by decide +kernel
theorem dX7_passes_54 : decode cX7_passes 54 = .ok (.aload_n 0, 1) := by decide +kernel
theorem dX7_passes_55 : decode cX7_passes 55 = .ok (.getfield 7, 3) := by decide +kernel
theorem dX7_passes_58 : decode cX7_passes 58 = .ok (.bipush 108, 2) := by decide +kernel
theorem dX7_passes_60 : decode cX7_passes 60 = .ok (.dup2, 1) := by decide +kernel
theorem dX7_passes_61 : decode cX7_passes 61 = .ok (.iaload, 1) := by decide +kernel
theorem dX7_passes_62 : decode cX7_passes 62 = .ok (.iconst 1, 1) := by decide +kernel
theorem dX7_passes_63 : decode cX7_passes 63 = .ok (.iadd, 1) := by decide +kernel
theorem dX7_passes_64 : decode cX7_passes 64 = .ok (.iastore, 1) := by decide +kernel
theorem dX7_passes_65 : decode cX7_passes 65 = .ok (.aload_n 0, 1) := by decide +kernel
theorem dX7_passes_66 : decode cX7_passes 66 = .ok (.getfield 7, 3) := by decide +kernel
theorem dX7_passes_69 : decode cX7_passes 69 = .ok (.bipush 108, 2) := by decide +kernel
theorem dX7_passes_71 : decode cX7_passes 71 = .ok (.iaload, 1) := by decide +kernel
theorem dX7_passes_72 : decode cX7_passes 72 = .ok (.bipush 12, 2) := by decide +kernel
theorem dX7_passes_74 : decode cX7_passes 74 = .ok (.if_icmp .ne 46, 3) := by decide +kernel
theorem dX7_passes_77 : decode cX7_passes 77 = .ok (.aload_n 0, 1) := by decide +kernel
theorem dX7_passes_78 : decode cX7_passes 78 = .ok (.getfield 7, 3) := by decide +kernel
theorem dX7_passes_81 : decode cX7_passes 81 = .ok (.bipush 108, 2) := by decide +kernel
theorem dX7_passes_83 : decode cX7_passes 83 = .ok (.iconst 0, 1) := by decide +kernel
theorem dX7_passes_84 : decode cX7_passes 84 = .ok (.iastore, 1) := by decide +kernel
theorem dX7_passes_85 : decode cX7_passes 85 = .ok (.aload_n 0, 1) := by decide +kernel
theorem dX7_passes_86 : decode cX7_passes 86 = .ok (.getfield 7, 3) := by decide +kernel
theorem dX7_passes_89 : decode cX7_passes 89 = .ok (.bipush 109, 2) := by decide +kernel
theorem dX7_passes_91 : decode cX7_passes 91 = .ok (.dup2, 1) := by decide +kernel
theorem dX7_passes_92 : decode cX7_passes 92 = .ok (.iaload, 1) := by decide +kernel
theorem dX7_passes_93 : decode cX7_passes 93 = .ok (.iconst 1, 1) := by decide +kernel
theorem dX7_passes_94 : decode cX7_passes 94 = .ok (.iadd, 1) := by decide +kernel
theorem dX7_passes_95 : decode cX7_passes 95 = .ok (.iastore, 1) := by decide +kernel
theorem dX7_passes_96 : decode cX7_passes 96 = .ok (.iconst 0, 1) := by decide +kernel
theorem dX7_passes_97 : decode cX7_passes 97 = .ok (.istore_n 2, 1) := by decide +kernel
theorem dX7_passes_98 : decode cX7_passes 98 = .ok (.iload_n 2, 1) := by decide +kernel
theorem dX7_passes_99 : decode cX7_passes 99 = .ok (.bipush 48, 2) := by decide +kernel
theorem dX7_passes_101 : decode cX7_passes 101 = .ok (.if_icmp .ge 19, 3) := by decide +kernel
theorem dX7_passes_104 : decode cX7_passes 104 = .ok (.aload_n 0, 1) := by decide +kernel
theorem dX7_passes_105 : decode cX7_passes 105 = .ok (.getfield 7, 3) := by decide +kernel
theorem dX7_passes_108 : decode cX7_passes 108 = .ok (.bipush 60, 2) := by decide +kernel
theorem dX7_passes_110 : decode cX7_passes 110 = .ok (.iload_n 2, 1) := by decide +kernel
theorem dX7_passes_111 : decode cX7_passes 111 = .ok (.iadd, 1) := by decide +kernel
theorem dX7_passes_112 : decode cX7_passes 112 = .ok (.iconst (-1), 1) := by decide +kernel
theorem dX7_passes_113 : decode cX7_passes 113 = .ok (.iastore, 1) := by decide +kernel
theorem dX7_passes_114 : decode cX7_passes 114 = .ok (.iinc 2 1, 3) := by decide +kernel
theorem dX7_passes_117 : decode cX7_passes 117 = .ok (.goto (-19), 3) := by decide +kernel
theorem dX7_passes_120 : decode cX7_passes 120 = .ok (.iload_n 1, 1) := by decide +kernel
theorem dX7_passes_121 : decode cX7_passes 121 = .ok (.ireturn, 1) := by decide +kernel
theorem dX7_pass_0 : decode cX7_pass 0 = .ok (.aload_n 0, 1) := by decide +kernel
theorem dX7_pass_1 : decode cX7_pass 1 = .ok (.aload_n 0, 1) := by decide +kernel
theorem dX7_pass_2 : decode cX7_pass 2 = .ok (.getfield 7, 3) := by decide +kernel
theorem dX7_pass_5 : decode cX7_pass 5 = .ok (.bipush 109, 2) := by decide +kernel
theorem dX7_pass_7 : decode cX7_pass 7 = .ok (.iaload, 1) := by decide +kernel
theorem dX7_pass_8 : decode cX7_pass 8 = .ok (.sipush 999, 3) := by decide +kernel
theorem dX7_pass_11 : decode cX7_pass 11 = .ok (.if_icmp .ne 7, 3) := by decide +kernel
theorem dX7_pass_14 : decode cX7_pass 14 = .ok (.iconst 1, 1) := by decide +kernel
theorem dX7_pass_15 : decode cX7_pass 15 = .ok (.goto 4, 3) := by decide +kernel
theorem dX7_pass_18 : decode cX7_pass 18 = .ok (.iconst 0, 1) := by decide +kernel
theorem dX7_pass_19 : decode cX7_pass 19 = .ok (.invokevirtual 78, 3) := by decide +kernel
theorem dX7_pass_22 : decode cX7_pass 22 = .ok (.ifCond .ne 5, 3) := by decide +kernel
theorem dX7_pass_25 : decode cX7_pass 25 = .ok (.iconst 0, 1) := by decide +kernel
theorem dX7_pass_26 : decode cX7_pass 26 = .ok (.ireturn, 1) := by decide +kernel
theorem dX7_pass_27 : decode cX7_pass 27 = .ok (.aload_n 0, 1) := by decide +kernel
theorem dX7_pass_28 : decode cX7_pass 28 = .ok (.invokevirtual 81, 3) := by decide +kernel
theorem dX7_pass_31 : decode cX7_pass 31 = .ok (.aload_n 0, 1) := by decide +kernel
theorem dX7_pass_32 : decode cX7_pass 32 = .ok (.invokevirtual 94, 3) := by decide +kernel
theorem dX7_pass_35 : decode cX7_pass 35 = .ok (.ireturn, 1) := by decide +kernel
theorem dX7_set_0 : decode cX7_set 0 = .ok (.aload_n 0, 1) := by decide +kernel
theorem dX7_set_1 : decode cX7_set 1 = .ok (.iload_n 1, 1) := by decide +kernel
theorem dX7_set_2 : decode cX7_set 2 = .ok (.iconst 0, 1) := by decide +kernel
theorem dX7_set_3 : decode cX7_set 3 = .ok (.bipush 9, 2) := by decide +kernel
theorem dX7_set_5 : decode cX7_set 5 = .ok (.invokestatic 33, 3) := by decide +kernel
theorem dX7_set_8 : decode cX7_set 8 = .ok (.ifCond .eq 7, 3) := by decide +kernel
theorem dX7_set_11 : decode cX7_set 11 = .ok (.iconst 0, 1) := by decide +kernel
theorem dX7_set_12 : decode cX7_set 12 = .ok (.goto 4, 3) := by decide +kernel
theorem dX7_set_15 : decode cX7_set 15 = .ok (.iconst 1, 1) := by decide +kernel
theorem dX7_set_16 : decode cX7_set 16 = .ok (.invokevirtual 78, 3) := by decide +kernel
theorem dX7_set_19 : decode cX7_set 19 = .ok (.ifCond .eq 13, 3) := by decide +kernel
theorem dX7_set_22 : decode cX7_set 22 = .ok (.aload_n 0, 1) := by decide +kernel
theorem dX7_set_23 : decode cX7_set 23 = .ok (.bipush 119, 2) := by decide +kernel
theorem dX7_set_25 : decode cX7_set 25 = .ok (.iload_n 1, 1) := by decide +kernel
theorem dX7_set_26 : decode cX7_set 26 = .ok (.invokevirtual 91, 3) := by decide +kernel
theorem dX7_set_29 : decode cX7_set 29 = .ok (.goto 4, 3) := by decide +kernel
theorem dX7_set_32 : decode cX7_set 32 = .ok (.iconst 0, 1) := by decide +kernel
theorem dX7_set_33 : decode cX7_set 33 = .ok (.ireturn, 1) := by decide +kernel
theorem dX7_append_0 : decode cX7_append 0 = .ok (.aload_n 0, 1) := by decide +kernel
theorem dX7_append_1 : decode cX7_append 1 = .ok (.iload_n 1, 1) := by decide +kernel
theorem dX7_append_2 : decode cX7_append 2 = .ok (.bipush 33, 2) := by decide +kernel
theorem dX7_append_4 : decode cX7_append 4 = .ok (.bipush 126, 2) := by decide +kernel
theorem dX7_append_6 : decode cX7_append 6 = .ok (.invokestatic 33, 3) := by decide +kernel
theorem dX7_append_9 : decode cX7_append 9 = .ok (.ifCond .ne 7, 3) := by decide +kernel
theorem dX7_append_12 : decode cX7_append 12 = .ok (.iconst 1, 1) := by decide +kernel
theorem dX7_append_13 : decode cX7_append 13 = .ok (.goto 17, 3) := by decide +kernel
theorem dX7_append_16 : decode cX7_append 16 = .ok (.aload_n 0, 1) := by decide +kernel
theorem dX7_append_17 : decode cX7_append 17 = .ok (.getfield 97, 3) := by decide +kernel
theorem dX7_append_20 : decode cX7_append 20 = .ok (.bipush 60, 2) := by decide +kernel
theorem dX7_append_22 : decode cX7_append 22 = .ok (.if_icmp .ne 7, 3) := by decide +kernel
theorem dX7_append_25 : decode cX7_append 25 = .ok (.iconst 2, 1) := by decide +kernel
theorem dX7_append_26 : decode cX7_append 26 = .ok (.goto 4, 3) := by decide +kernel
theorem dX7_append_29 : decode cX7_append 29 = .ok (.iconst 0, 1) := by decide +kernel
theorem dX7_append_30 : decode cX7_append 30 = .ok (.invokevirtual 78, 3) := by decide +kernel
theorem dX7_append_33 : decode cX7_append 33 = .ok (.ifCond .ne 5, 3) := by decide +kernel
theorem dX7_append_36 : decode cX7_append 36 = .ok (.iconst 0, 1) := by decide +kernel
theorem dX7_append_37 : decode cX7_append 37 = .ok (.ireturn, 1) := by decide +kernel
theorem dX7_append_38 : decode cX7_append 38 = .ok (.aload_n 0, 1) := by decide +kernel
theorem dX7_append_39 : decode cX7_append 39 = .ok (.getfield 22, 3) := by decide +kernel
theorem dX7_append_42 : decode cX7_append 42 = .ok (.aload_n 0, 1) := by decide +kernel
theorem dX7_append_43 : decode cX7_append 43 = .ok (.getfield 97, 3) := by decide +kernel
theorem dX7_append_46 : decode cX7_append 46 = .ok (.iload_n 1, 1) := by decide +kernel
theorem dX7_append_47 : decode cX7_append 47 = .ok (.iastore, 1) := by decide +kernel
theorem dX7_append_48 : decode cX7_append 48 = .ok (.aload_n 0, 1) := by decide +kernel
theorem dX7_append_49 : decode cX7_append 49 = .ok (.dup, 1) := by decide +kernel
theorem dX7_append_50 : decode cX7_append 50 = .ok (.getfield 97, 3) := by decide +kernel
theorem dX7_append_53 : decode cX7_append 53 = .ok (.iconst 1, 1) := by decide +kernel
theorem dX7_append_54 : decode cX7_append 54 = .ok (.iadd, 1) := by decide +kernel
theorem dX7_append_55 : decode cX7_append 55 = .ok (.putfield 97, 3) := by decide +kernel
theorem dX7_append_58 : decode cX7_append 58 = .ok (.aload_n 0, 1) := by decide +kernel
theorem dX7_append_59 : decode cX7_append 59 = .ok (.getfield 97, 3) := by decide +kernel
theorem dX7_append_62 : decode cX7_append 62 = .ok (.ireturn, 1) := by decide +kernel
theorem dX7_clearBuffer_0 : decode cX7_clearBuffer 0 = .ok (.aload_n 0, 1) := by decide +kernel
theorem dX7_clearBuffer_1 : decode cX7_clearBuffer 1 = .ok (.iconst 0, 1) := by decide +kernel
theorem dX7_clearBuffer_2 : decode cX7_clearBuffer 2 = .ok (.putfield 29, 3) := by decide +kernel
theorem dX7_clearBuffer_5 : decode cX7_clearBuffer 5 = .ok (.aload_n 0, 1) := by decide +kernel
theorem dX7_clearBuffer_6 : decode cX7_clearBuffer 6 = .ok (.getfield 97, 3) := by decide +kernel
theorem dX7_clearBuffer_9 : decode cX7_clearBuffer 9 = .ok (.istore_n 1, 1) := by decide +kernel
theorem dX7_clearBuffer_10 : decode cX7_clearBuffer 10 = .ok (.aload_n 0, 1) := by decide +kernel
theorem dX7_clearBuffer_11 : decode cX7_clearBuffer 11 = .ok (.iconst 0, 1) := by decide +kernel
theorem dX7_clearBuffer_12 : decode cX7_clearBuffer 12 = .ok (.putfield 97, 3) := by decide +kernel
theorem dX7_clearBuffer_15 : decode cX7_clearBuffer 15 = .ok (.iload_n 1, 1) := by decide +kernel
theorem dX7_clearBuffer_16 : decode cX7_clearBuffer 16 = .ok (.ireturn, 1) := by decide +kernel
theorem dX7_isNext_0 : decode cX7_isNext 0 = .ok (.aload_n 0, 1) := by decide +kernel
theorem dX7_isNext_1 : decode cX7_isNext 1 = .ok (.getfield 100, 3) := by decide +kernel
theorem dX7_isNext_4 : decode cX7_isNext 4 = .ok (.ifCond .ne 35, 3) := by decide +kernel
theorem dX7_isNext_7 : decode cX7_isNext 7 = .ok (.aload_n 0, 1) := by decide +kernel
theorem dX7_isNext_8 : decode cX7_isNext 8 = .ok (.getfield 104, 3) := by decide +kernel
theorem dX7_isNext_11 : decode cX7_isNext 11 = .ok (.aload_n 0, 1) := by decide +kernel
theorem dX7_isNext_12 : decode cX7_isNext 12 = .ok (.getfield 97, 3) := by decide +kernel
theorem dX7_isNext_15 : decode cX7_isNext 15 = .ok (.if_icmp .ge 24, 3) := by decide +kernel
theorem dX7_isNext_18 : decode cX7_isNext 18 = .ok (.aload_n 0, 1) := by decide +kernel
theorem dX7_isNext_19 : decode cX7_isNext 19 = .ok (.getfield 22, 3) := by decide +kernel
theorem dX7_isNext_22 : decode cX7_isNext 22 = .ok (.aload_n 0, 1) := by decide +kernel
theorem dX7_isNext_23 : decode cX7_isNext 23 = .ok (.getfield 104, 3) := by decide +kernel
theorem dX7_isNext_26 : decode cX7_isNext 26 = .ok (.iaload, 1) := by decide +kernel
theorem dX7_isNext_27 : decode cX7_isNext 27 = .ok (.iload_n 1, 1) := by decide +kernel
theorem dX7_isNext_28 : decode cX7_isNext 28 = .ok (.iload_n 2, 1) := by decide +kernel
theorem dX7_isNext_29 : decode cX7_isNext 29 = .ok (.invokestatic 33, 3) := by decide +kernel
theorem dX7_isNext_32 : decode cX7_isNext 32 = .ok (.ifCond .eq 7, 3) := by decide +kernel
theorem dX7_isNext_35 : decode cX7_isNext 35 = .ok (.iconst 1, 1) := by decide +kernel
theorem dX7_isNext_36 : decode cX7_isNext 36 = .ok (.goto 4, 3) := by decide +kernel
theorem dX7_isNext_39 : decode cX7_isNext 39 = .ok (.iconst 0, 1) := by decide +kernel
theorem dX7_isNext_40 : decode cX7_isNext 40 = .ok (.ireturn, 1) := by decide +kernel
theorem dX7_takes_0 : decode cX7_takes 0 = .ok (.aload_n 0, 1) := by decide +kernel
theorem dX7_takes_1 : decode cX7_takes 1 = .ok (.iload_n 1, 1) := by decide +kernel
theorem dX7_takes_2 : decode cX7_takes 2 = .ok (.iload_n 2, 1) := by decide +kernel
theorem dX7_takes_3 : decode cX7_takes 3 = .ok (.invokevirtual 107, 3) := by decide +kernel
theorem dX7_takes_6 : decode cX7_takes 6 = .ok (.istore_n 3, 1) := by decide +kernel
theorem dX7_takes_7 : decode cX7_takes 7 = .ok (.iload_n 3, 1) := by decide +kernel
theorem dX7_takes_8 : decode cX7_takes 8 = .ok (.ifCond .eq 17, 3) := by decide +kernel
theorem dX7_takes_11 : decode cX7_takes 11 = .ok (.aload_n 0, 1) := by decide +kernel
theorem dX7_takes_12 : decode cX7_takes 12 = .ok (.getfield 22, 3) := by decide +kernel
theorem dX7_takes_15 : decode cX7_takes 15 = .ok (.aload_n 0, 1) := by decide +kernel
theorem dX7_takes_16 : decode cX7_takes 16 = .ok (.getfield 104, 3) := by decide +kernel
theorem dX7_takes_19 : decode cX7_takes 19 = .ok (.iaload, 1) := by decide +kernel
theorem dX7_takes_20 : decode cX7_takes 20 = .ok (.iload_n 1, 1) := by decide +kernel
theorem dX7_takes_21 : decode cX7_takes 21 = .ok (.isub, 1) := by decide +kernel
theorem dX7_takes_22 : decode cX7_takes 22 = .ok (.goto 4, 3) := by decide +kernel
theorem dX7_takes_25 : decode cX7_takes 25 = .ok (.iconst 0, 1) := by decide +kernel
theorem dX7_takes_26 : decode cX7_takes 26 = .ok (.istore 4, 2) := by decide +kernel
theorem dX7_takes_28 : decode cX7_takes 28 = .ok (.aload_n 0, 1) := by decide +kernel
theorem dX7_takes_29 : decode cX7_takes 29 = .ok (.dup, 1) := by decide +kernel
theorem dX7_takes_30 : decode cX7_takes 30 = .ok (.getfield 104, 3) := by decide +kernel
theorem dX7_takes_33 : decode cX7_takes 33 = .ok (.iload_n 3, 1) := by decide +kernel
theorem dX7_takes_34 : decode cX7_takes 34 = .ok (.ifCond .eq 7, 3) := by decide +kernel
theorem dX7_takes_37 : decode cX7_takes 37 = .ok (.iconst 1, 1) := by decide +kernel
theorem dX7_takes_38 : decode cX7_takes 38 = .ok (.goto 4, 3) := by decide +kernel
theorem dX7_takes_41 : decode cX7_takes 41 = .ok (.iconst 0, 1) := by decide +kernel
theorem dX7_takes_42 : decode cX7_takes 42 = .ok (.iadd, 1) := by decide +kernel
theorem dX7_takes_43 : decode cX7_takes 43 = .ok (.putfield 104, 3) := by decide +kernel
theorem dX7_takes_46 : decode cX7_takes 46 = .ok (.aload_n 0, 1) := by decide +kernel
theorem dX7_takes_47 : decode cX7_takes 47 = .ok (.aload_n 0, 1) := by decide +kernel
theorem dX7_takes_48 : decode cX7_takes 48 = .ok (.getfield 100, 3) := by decide +kernel
theorem dX7_takes_51 : decode cX7_takes 51 = .ok (.ifCond .ne 7, 3) := by decide +kernel
theorem dX7_takes_54 : decode cX7_takes 54 = .ok (.iload_n 3, 1) := by decide +kernel
theorem dX7_takes_55 : decode cX7_takes 55 = .ok (.ifCond .ne 7, 3) := by decide +kernel
theorem dX7_takes_58 : decode cX7_takes 58 = .ok (.iconst 1, 1) := by decide +kernel
theorem dX7_takes_59 : decode cX7_takes 59 = .ok (.goto 4, 3) := by decide +kernel
theorem dX7_takes_62 : decode cX7_takes 62 = .ok (.iconst 0, 1) := by decide +kernel
theorem dX7_takes_63 : decode cX7_takes 63 = .ok (.putfield 100, 3) := by decide +kernel
theorem dX7_takes_66 : decode cX7_takes 66 = .ok (.iload 4, 2) := by decide +kernel
theorem dX7_takes_68 : decode cX7_takes 68 = .ok (.ireturn, 1) := by decide +kernel
theorem dX7_readOne_0 : decode cX7_readOne 0 = .ok (.aload_n 0, 1) := by decide +kernel
theorem dX7_readOne_1 : decode cX7_readOne 1 = .ok (.bipush 104, 2) := by decide +kernel
theorem dX7_readOne_3 : decode cX7_readOne 3 = .ok (.bipush 104, 2) := by decide +kernel
theorem dX7_readOne_5 : decode cX7_readOne 5 = .ok (.invokevirtual 107, 3) := by decide +kernel
theorem dX7_readOne_8 : decode cX7_readOne 8 = .ok (.ifCond .eq 19, 3) := by decide +kernel
theorem dX7_readOne_11 : decode cX7_readOne 11 = .ok (.aload_n 0, 1) := by decide +kernel
theorem dX7_readOne_12 : decode cX7_readOne 12 = .ok (.dup, 1) := by decide +kernel
theorem dX7_readOne_13 : decode cX7_readOne 13 = .ok (.getfield 104, 3) := by decide +kernel
theorem dX7_readOne_16 : decode cX7_readOne 16 = .ok (.iconst 1, 1) := by decide +kernel
theorem dX7_readOne_17 : decode cX7_readOne 17 = .ok (.iadd, 1) := by decide +kernel
theorem dX7_readOne_18 : decode cX7_readOne 18 = .ok (.putfield 104, 3) := by decide +kernel
theorem dX7_readOne_21 : decode cX7_readOne 21 = .ok (.aload_n 0, 1) := by decide +kernel
theorem dX7_readOne_22 : decode cX7_readOne 22 = .ok (.iconst (-1), 1) := by decide +kernel
theorem dX7_readOne_23 : decode cX7_readOne 23 = .ok (.putfield 110, 3) := by decide +kernel
theorem dX7_readOne_26 : decode cX7_readOne 26 = .ok (.return_, 1) := by decide +kernel
theorem dX7_readOne_27 : decode cX7_readOne 27 = .ok (.aload_n 0, 1) := by decide +kernel
theorem dX7_readOne_28 : decode cX7_readOne 28 = .ok (.aload_n 0, 1) := by decide +kernel
theorem dX7_readOne_29 : decode cX7_readOne 29 = .ok (.bipush 48, 2) := by decide +kernel
theorem dX7_readOne_31 : decode cX7_readOne 31 = .ok (.bipush 57, 2) := by decide +kernel
theorem dX7_readOne_33 : decode cX7_readOne 33 = .ok (.invokevirtual 113, 3) := by decide +kernel
theorem dX7_readOne_36 : decode cX7_readOne 36 = .ok (.putfield 110, 3) := by decide +kernel
theorem dX7_readOne_39 : decode cX7_readOne 39 = .ok (.aload_n 0, 1) := by decide +kernel
theorem dX7_readOne_40 : decode cX7_readOne 40 = .ok (.bipush 64, 2) := by decide +kernel
theorem dX7_readOne_42 : decode cX7_readOne 42 = .ok (.bipush 64, 2) := by decide +kernel
theorem dX7_readOne_44 : decode cX7_readOne 44 = .ok (.invokevirtual 113, 3) := by decide +kernel
theorem dX7_readOne_47 : decode cX7_readOne 47 = .ok (.istore_n 1, 1) := by decide +kernel
theorem dX7_readOne_48 : decode cX7_readOne 48 = .ok (.aload_n 0, 1) := by decide +kernel
theorem dX7_readOne_49 : decode cX7_readOne 49 = .ok (.aload_n 0, 1) := by decide +kernel
theorem dX7_readOne_50 : decode cX7_readOne 50 = .ok (.bipush 97, 2) := by decide +kernel
theorem dX7_readOne_52 : decode cX7_readOne 52 = .ok (.bipush 108, 2) := by decide +kernel
theorem dX7_readOne_54 : decode cX7_readOne 54 = .ok (.invokevirtual 113, 3) := by decide +kernel
theorem dX7_readOne_57 : decode cX7_readOne 57 = .ok (.putfield 116, 3) := by decide +kernel
theorem dX7_readOne_60 : decode cX7_readOne 60 = .ok (.aload_n 0, 1) := by decide +kernel
theorem dX7_readOne_61 : decode cX7_readOne 61 = .ok (.iconst 1, 1) := by decide +kernel
theorem dX7_readOne_62 : decode cX7_readOne 62 = .ok (.aload_n 0, 1) := by decide +kernel
theorem dX7_readOne_63 : decode cX7_readOne 63 = .ok (.bipush 49, 2) := by decide +kernel
theorem dX7_readOne_65 : decode cX7_readOne 65 = .ok (.bipush 57, 2) := by decide +kernel
theorem dX7_readOne_67 : decode cX7_readOne 67 = .ok (.invokevirtual 113, 3) := by decide +kernel
theorem dX7_readOne_70 : decode cX7_readOne 70 = .ok (.iadd, 1) := by decide +kernel
theorem dX7_readOne_71 : decode cX7_readOne 71 = .ok (.putfield 119, 3) := by decide +kernel
theorem dX7_readOne_74 : decode cX7_readOne 74 = .ok (.return_, 1) := by decide +kernel
theorem dX7_isPossible_0 : decode cX7_isPossible 0 = .ok (.aload_n 0, 1) := by decide +kernel
theorem dX7_isPossible_1 : decode cX7_isPossible 1 = .ok (.getfield 110, 3) := by decide +kernel
theorem dX7_isPossible_4 : decode cX7_isPossible 4 = .ok (.iconst (-1), 1) := by decide +kernel
theorem dX7_isPossible_5 : decode cX7_isPossible 5 = .ok (.if_icmp .ne 24, 3) := by decide +kernel
theorem dX7_isPossible_8 : decode cX7_isPossible 8 = .ok (.aload_n 0, 1) := by decide +kernel
theorem dX7_isPossible_9 : decode cX7_isPossible 9 = .ok (.getfield 7, 3) := by decide +kernel
theorem dX7_isPossible_12 : decode cX7_isPossible 12 = .ok (.bipush 109, 2) := by decide +kernel
theorem dX7_isPossible_14 : decode cX7_isPossible 14 = .ok (.iaload, 1) := by decide +kernel
theorem dX7_isPossible_15 : decode cX7_isPossible 15 = .ok (.sipush 999, 3) := by decide +kernel
theorem dX7_isPossible_18 : decode cX7_isPossible 18 = .ok (.if_icmp .ge 7, 3) := by decide +kernel
theorem dX7_isPossible_21 : decode cX7_isPossible 21 = .ok (.iconst 1, 1) := by decide +kernel
theorem dX7_isPossible_22 : decode cX7_isPossible 22 = .ok (.goto 18, 3) := by decide +kernel
theorem dX7_isPossible_25 : decode cX7_isPossible 25 = .ok (.iconst 0, 1) := by decide +kernel
theorem dX7_isPossible_26 : decode cX7_isPossible 26 = .ok (.goto 14, 3) := by decide +kernel
theorem dX7_isPossible_29 : decode cX7_isPossible 29 = .ok (.aload_n 0, 1) := by decide +kernel
theorem dX7_isPossible_30 : decode cX7_isPossible 30 = .ok (.getfield 116, 3) := by decide +kernel
theorem dX7_isPossible_33 : decode cX7_isPossible 33 = .ok (.aload_n 0, 1) := by decide +kernel
theorem dX7_isPossible_34 : decode cX7_isPossible 34 = .ok (.getfield 119, 3) := by decide +kernel
theorem dX7_isPossible_37 : decode cX7_isPossible 37 = .ok (.invokestatic 74, 3) := by decide +kernel
theorem dX7_isPossible_40 : decode cX7_isPossible 40 = .ok (.ireturn, 1) := by decide +kernel
theorem dX7_does_0 : decode cX7_does 0 = .ok (.aload_n 0, 1) := by decide +kernel
theorem dX7_does_1 : decode cX7_does 1 = .ok (.getfield 110, 3) := by decide +kernel
theorem dX7_does_4 : decode cX7_does 4 = .ok (.iconst (-1), 1) := by decide +kernel
theorem dX7_does_5 : decode cX7_does 5 = .ok (.if_icmp .ne 13, 3) := by decide +kernel
theorem dX7_does_8 : decode cX7_does 8 = .ok (.bipush 10, 2) := by decide +kernel
theorem dX7_does_10 : decode cX7_does 10 = .ok (.aload_n 0, 1) := by decide +kernel
theorem dX7_does_11 : decode cX7_does 11 = .ok (.invokevirtual 94, 3) := by decide +kernel
theorem dX7_does_14 : decode cX7_does 14 = .ok (.iadd, 1) := by decide +kernel
theorem dX7_does_15 : decode cX7_does 15 = .ok (.goto 19, 3) := by decide +kernel
theorem dX7_does_18 : decode cX7_does 18 = .ok (.aload_n 0, 1) := by decide +kernel
theorem dX7_does_19 : decode cX7_does 19 = .ok (.aload_n 0, 1) := by decide +kernel
theorem dX7_does_20 : decode cX7_does 20 = .ok (.getfield 110, 3) := by decide +kernel
theorem dX7_does_23 : decode cX7_does 23 = .ok (.aload_n 0, 1) := by decide +kernel
theorem dX7_does_24 : decode cX7_does 24 = .ok (.getfield 116, 3) := by decide +kernel
theorem dX7_does_27 : decode cX7_does 27 = .ok (.aload_n 0, 1) := by decide +kernel
theorem dX7_does_28 : decode cX7_does 28 = .ok (.getfield 119, 3) := by decide +kernel
theorem dX7_does_31 : decode cX7_does 31 = .ok (.invokevirtual 84, 3) := by decide +kernel
theorem dX7_does_34 : decode cX7_does 34 = .ok (.bipush 10, 2) := by decide +kernel
theorem dX7_does_36 : decode cX7_does 36 = .ok (.if_icmp .lt 7, 3) := by decide +kernel
theorem dX7_does_39 : decode cX7_does 39 = .ok (.iconst 1, 1) := by decide +kernel
theorem dX7_does_40 : decode cX7_does 40 = .ok (.goto 4, 3) := by decide +kernel
theorem dX7_does_43 : decode cX7_does 43 = .ok (.iconst 0, 1) := by decide +kernel
theorem dX7_does_44 : decode cX7_does 44 = .ok (.ireturn, 1) := by decide +kernel
theorem dX7_goesThrough_0 : decode cX7_goesThrough 0 = .ok (.aload_n 0, 1) := by decide +kernel
theorem dX7_goesThrough_1 : decode cX7_goesThrough 1 = .ok (.iconst 0, 1) := by decide +kernel
theorem dX7_goesThrough_2 : decode cX7_goesThrough 2 = .ok (.putfield 104, 3) := by decide +kernel
theorem dX7_goesThrough_5 : decode cX7_goesThrough 5 = .ok (.aload_n 0, 1) := by decide +kernel
theorem dX7_goesThrough_6 : decode cX7_goesThrough 6 = .ok (.iconst 0, 1) := by decide +kernel
theorem dX7_goesThrough_7 : decode cX7_goesThrough 7 = .ok (.putfield 100, 3) := by decide +kernel
theorem dX7_goesThrough_10 : decode cX7_goesThrough 10 = .ok (.iconst 0, 1) := by decide +kernel
theorem dX7_goesThrough_11 : decode cX7_goesThrough 11 = .ok (.istore_n 2, 1) := by decide +kernel
theorem dX7_goesThrough_12 : decode cX7_goesThrough 12 = .ok (.iconst 1, 1) := by decide +kernel
theorem dX7_goesThrough_13 : decode cX7_goesThrough 13 = .ok (.istore_n 3, 1) := by decide +kernel
theorem dX7_goesThrough_14 : decode cX7_goesThrough 14 = .ok (.iload_n 3, 1) := by decide +kernel
theorem dX7_goesThrough_15 : decode cX7_goesThrough 15 = .ok (.ifCond .eq 101, 3) := by decide +kernel
theorem dX7_goesThrough_18 : decode cX7_goesThrough 18 = .ok (.aload_n 0, 1) := by decide +kernel
theorem dX7_goesThrough_19 : decode cX7_goesThrough 19 = .ok (.invokevirtual 122, 3) := by decide +kernel
theorem dX7_goesThrough_22 : decode cX7_goesThrough 22 = .ok (.aload_n 0, 1) := by decide +kernel
theorem dX7_goesThrough_23 : decode cX7_goesThrough 23 = .ok (.getfield 100, 3) := by decide +kernel
theorem dX7_goesThrough_26 : decode cX7_goesThrough 26 = .ok (.ifCond .ne 18, 3) := by decide +kernel
theorem dX7_goesThrough_29 : decode cX7_goesThrough 29 = .ok (.iload_n 1, 1) := by decide +kernel
theorem dX7_goesThrough_30 : decode cX7_goesThrough 30 = .ok (.ifCond .eq 10, 3) := by decide +kernel
theorem dX7_goesThrough_33 : decode cX7_goesThrough 33 = .ok (.aload_n 0, 1) := by decide +kernel
theorem dX7_goesThrough_34 : decode cX7_goesThrough 34 = .ok (.invokevirtual 125, 3) := by decide +kernel
theorem dX7_goesThrough_37 : decode cX7_goesThrough 37 = .ok (.ifCond .eq 7, 3) := by decide +kernel
theorem dX7_goesThrough_40 : decode cX7_goesThrough 40 = .ok (.iconst 1, 1) := by decide +kernel
theorem dX7_goesThrough_41 : decode cX7_goesThrough 41 = .ok (.goto 4, 3) := by decide +kernel
theorem dX7_goesThrough_44 : decode cX7_goesThrough 44 = .ok (.iconst 0, 1) := by decide +kernel
theorem dX7_goesThrough_45 : decode cX7_goesThrough 45 = .ok (.istore_n 3, 1) := by decide +kernel
theorem dX7_goesThrough_46 : decode cX7_goesThrough 46 = .ok (.iload_n 2, 1) := by decide +kernel
theorem dX7_goesThrough_47 : decode cX7_goesThrough 47 = .ok (.iload_n 3, 1) := by decide +kernel
theorem dX7_goesThrough_48 : decode cX7_goesThrough 48 = .ok (.ifCond .eq 14, 3) := by decide +kernel
theorem dX7_goesThrough_51 : decode cX7_goesThrough 51 = .ok (.iload_n 1, 1) := by decide +kernel
theorem dX7_goesThrough_52 : decode cX7_goesThrough 52 = .ok (.ifCond .eq 10, 3) := by decide +kernel
theorem dX7_goesThrough_55 : decode cX7_goesThrough 55 = .ok (.aload_n 0, 1) := by decide +kernel
theorem dX7_goesThrough_56 : decode cX7_goesThrough 56 = .ok (.invokevirtual 129, 3) := by decide +kernel
theorem dX7_goesThrough_59 : decode cX7_goesThrough 59 = .ok (.goto 4, 3) := by decide +kernel
theorem dX7_goesThrough_62 : decode cX7_goesThrough 62 = .ok (.iconst 0, 1) := by decide +kernel
theorem dX7_goesThrough_63 : decode cX7_goesThrough 63 = .ok (.iadd, 1) := by decide +kernel
theorem dX7_goesThrough_64 : decode cX7_goesThrough 64 = .ok (.istore_n 2, 1) := by decide +kernel
theorem dX7_goesThrough_65 : decode cX7_goesThrough 65 = .ok (.iload_n 3, 1) := by decide +kernel
theorem dX7_goesThrough_66 : decode cX7_goesThrough 66 = .ok (.ifCond .eq 18, 3) := by decide +kernel
theorem dX7_goesThrough_69 : decode cX7_goesThrough 69 = .ok (.aload_n 0, 1) := by decide +kernel
theorem dX7_goesThrough_70 : decode cX7_goesThrough 70 = .ok (.getfield 104, 3) := by decide +kernel
theorem dX7_goesThrough_73 : decode cX7_goesThrough 73 = .ok (.aload_n 0, 1) := by decide +kernel
theorem dX7_goesThrough_74 : decode cX7_goesThrough 74 = .ok (.getfield 97, 3) := by decide +kernel
theorem dX7_goesThrough_77 : decode cX7_goesThrough 77 = .ok (.if_icmp .ge 7, 3) := by decide +kernel
theorem dX7_goesThrough_80 : decode cX7_goesThrough 80 = .ok (.iconst 1, 1) := by decide +kernel
theorem dX7_goesThrough_81 : decode cX7_goesThrough 81 = .ok (.goto 4, 3) := by decide +kernel
theorem dX7_goesThrough_84 : decode cX7_goesThrough 84 = .ok (.iconst 0, 1) := by decide +kernel
theorem dX7_goesThrough_85 : decode cX7_goesThrough 85 = .ok (.istore_n 3, 1) := by decide +kernel
theorem dX7_goesThrough_86 : decode cX7_goesThrough 86 = .ok (.iload_n 3, 1) := by decide +kernel
theorem dX7_goesThrough_87 : decode cX7_goesThrough 87 = .ok (.ifCond .eq (-73), 3) := by decide +kernel
theorem dX7_goesThrough_90 : decode cX7_goesThrough 90 = .ok (.aload_n 0, 1) := by decide +kernel
theorem dX7_goesThrough_91 : decode cX7_goesThrough 91 = .ok (.bipush 59, 2) := by decide +kernel
theorem dX7_goesThrough_93 : decode cX7_goesThrough 93 = .ok (.bipush 59, 2) := by decide +kernel
theorem dX7_goesThrough_95 : decode cX7_goesThrough 95 = .ok (.invokevirtual 113, 3) := by decide +kernel
theorem dX7_goesThrough_98 : decode cX7_goesThrough 98 = .ok (.istore 4, 2) := by decide +kernel
theorem dX7_goesThrough_100 : decode cX7_goesThrough 100 = .ok (.aload_n 0, 1) := by decide +kernel
theorem dX7_goesThrough_101 : decode cX7_goesThrough 101 = .ok (.getfield 100, 3) := by decide +kernel
theorem dX7_goesThrough_104 : decode cX7_goesThrough 104 = .ok (.ifCond .ne 7, 3) := by decide +kernel
theorem dX7_goesThrough_107 : decode cX7_goesThrough 107 = .ok (.iconst 1, 1) := by decide +kernel
theorem dX7_goesThrough_108 : decode cX7_goesThrough 108 = .ok (.goto 4, 3) := by decide +kernel
theorem dX7_goesThrough_111 : decode cX7_goesThrough 111 = .ok (.iconst 0, 1) := by decide +kernel
theorem dX7_goesThrough_112 : decode cX7_goesThrough 112 = .ok (.istore_n 3, 1) := by decide +kernel
theorem dX7_goesThrough_113 : decode cX7_goesThrough 113 = .ok (.goto (-99), 3) := by decide +kernel
theorem dX7_goesThrough_116 : decode cX7_goesThrough 116 = .ok (.iload_n 2, 1) := by decide +kernel
theorem dX7_goesThrough_117 : decode cX7_goesThrough 117 = .ok (.ireturn, 1) := by decide +kernel
theorem dX7_firstError_0 : decode cX7_firstError 0 = .ok (.aload_n 0, 1) := by decide +kernel
theorem dX7_firstError_1 : decode cX7_firstError 1 = .ok (.iconst 0, 1) := by decide +kernel
theorem dX7_firstError_2 : decode cX7_firstError 2 = .ok (.putfield 29, 3) := by decide +kernel
theorem dX7_firstError_5 : decode cX7_firstError 5 = .ok (.aload_n 0, 1) := by decide +kernel
theorem dX7_firstError_6 : decode cX7_firstError 6 = .ok (.iconst 0, 1) := by decide +kernel
theorem dX7_firstError_7 : decode cX7_firstError 7 = .ok (.invokevirtual 132, 3) := by decide +kernel
theorem dX7_firstError_10 : decode cX7_firstError 10 = .ok (.istore_n 1, 1) := by decide +kernel
theorem dX7_firstError_11 : decode cX7_firstError 11 = .ok (.aload_n 0, 1) := by decide +kernel
theorem dX7_firstError_12 : decode cX7_firstError 12 = .ok (.getfield 100, 3) := by decide +kernel
theorem dX7_firstError_15 : decode cX7_firstError 15 = .ok (.ifCond .eq 10, 3) := by decide +kernel
theorem dX7_firstError_18 : decode cX7_firstError 18 = .ok (.aload_n 0, 1) := by decide +kernel
theorem dX7_firstError_19 : decode cX7_firstError 19 = .ok (.getfield 104, 3) := by decide +kernel
theorem dX7_firstError_22 : decode cX7_firstError 22 = .ok (.goto 7, 3) := by decide +kernel
theorem dX7_firstError_25 : decode cX7_firstError 25 = .ok (.aload_n 0, 1) := by decide +kernel
theorem dX7_firstError_26 : decode cX7_firstError 26 = .ok (.getfield 97, 3) := by decide +kernel
theorem dX7_firstError_29 : decode cX7_firstError 29 = .ok (.ireturn, 1) := by decide +kernel
theorem dX7_run_0 : decode cX7_run 0 = .ok (.aload_n 0, 1) := by decide +kernel
theorem dX7_run_1 : decode cX7_run 1 = .ok (.iconst 0, 1) := by decide +kernel
theorem dX7_run_2 : decode cX7_run 2 = .ok (.invokevirtual 132, 3) := by decide +kernel
theorem dX7_run_5 : decode cX7_run 5 = .ok (.istore_n 1, 1) := by decide +kernel
theorem dX7_run_6 : decode cX7_run 6 = .ok (.aload_n 0, 1) := by decide +kernel
theorem dX7_run_7 : decode cX7_run 7 = .ok (.aload_n 0, 1) := by decide +kernel
theorem dX7_run_8 : decode cX7_run 8 = .ok (.getfield 100, 3) := by decide +kernel
theorem dX7_run_11 : decode cX7_run 11 = .ok (.ifCond .eq 7, 3) := by decide +kernel
theorem dX7_run_14 : decode cX7_run 14 = .ok (.iconst 1, 1) := by decide +kernel
theorem dX7_run_15 : decode cX7_run 15 = .ok (.goto 4, 3) := by decide +kernel
theorem dX7_run_18 : decode cX7_run 18 = .ok (.iconst 0, 1) := by decide +kernel
theorem dX7_run_19 : decode cX7_run 19 = .ok (.invokevirtual 78, 3) := by decide +kernel
theorem dX7_run_22 : decode cX7_run 22 = .ok (.ifCond .ne 5, 3) := by decide +kernel
theorem dX7_run_25 : decode cX7_run 25 = .ok (.iconst 0, 1) := by decide +kernel
theorem dX7_run_26 : decode cX7_run 26 = .ok (.ireturn, 1) := by decide +kernel
theorem dX7_run_27 : decode cX7_run 27 = .ok (.aload_n 0, 1) := by decide +kernel
theorem dX7_run_28 : decode cX7_run 28 = .ok (.invokevirtual 81, 3) := by decide +kernel
theorem dX7_run_31 : decode cX7_run 31 = .ok (.aload_n 0, 1) := by decide +kernel
theorem dX7_run_32 : decode cX7_run 32 = .ok (.iconst 1, 1) := by decide +kernel
theorem dX7_run_33 : decode cX7_run 33 = .ok (.invokevirtual 132, 3) := by decide +kernel
theorem dX7_run_36 : decode cX7_run 36 = .ok (.istore_n 1, 1) := by decide +kernel
theorem dX7_run_37 : decode cX7_run 37 = .ok (.aload_n 0, 1) := by decide +kernel
theorem dX7_run_38 : decode cX7_run 38 = .ok (.iconst 0, 1) := by decide +kernel
theorem dX7_run_39 : decode cX7_run 39 = .ok (.putfield 97, 3) := by decide +kernel
theorem dX7_run_42 : decode cX7_run 42 = .ok (.iload_n 1, 1) := by decide +kernel
theorem dX7_run_43 : decode cX7_run 43 = .ok (.ireturn, 1) := by decide +kernel
theorem dX7_lent_0 : decode cX7_lent 0 = .ok (.iconst 0, 1) := by decide +kernel
theorem dX7_lent_1 : decode cX7_lent 1 = .ok (.istore_n 1, 1) := by decide +kernel
theorem dX7_lent_2 : decode cX7_lent 2 = .ok (.iconst 0, 1) := by decide +kernel
theorem dX7_lent_3 : decode cX7_lent 3 = .ok (.istore_n 2, 1) := by decide +kernel
theorem dX7_lent_4 : decode cX7_lent 4 = .ok (.iload_n 2, 1) := by decide +kernel
theorem dX7_lent_5 : decode cX7_lent 5 = .ok (.bipush 48, 2) := by decide +kernel
theorem dX7_lent_7 : decode cX7_lent 7 = .ok (.if_icmp .ge 30, 3) := by decide +kernel
theorem dX7_lent_10 : decode cX7_lent 10 = .ok (.iload_n 1, 1) := by decide +kernel
theorem dX7_lent_11 : decode cX7_lent 11 = .ok (.aload_n 0, 1) := by decide +kernel
theorem dX7_lent_12 : decode cX7_lent 12 = .ok (.getfield 7, 3) := by decide +kernel
theorem dX7_lent_15 : decode cX7_lent 15 = .ok (.bipush 60, 2) := by decide +kernel
theorem dX7_lent_17 : decode cX7_lent 17 = .ok (.iload_n 2, 1) := by decide +kernel
theorem dX7_lent_18 : decode cX7_lent 18 = .ok (.iadd, 1) := by decide +kernel
theorem dX7_lent_19 : decode cX7_lent 19 = .ok (.iaload, 1) := by decide +kernel
theorem dX7_lent_20 : decode cX7_lent 20 = .ok (.iconst (-1), 1) := by decide +kernel
theorem dX7_lent_21 : decode cX7_lent 21 = .ok (.if_icmp .ne 7, 3) := by decide +kernel
theorem dX7_lent_24 : decode cX7_lent 24 = .ok (.iconst 0, 1) := by decide +kernel
theorem dX7_lent_25 : decode cX7_lent 25 = .ok (.goto 4, 3) := by decide +kernel
theorem dX7_lent_28 : decode cX7_lent 28 = .ok (.iconst 1, 1) := by decide +kernel
theorem dX7_lent_29 : decode cX7_lent 29 = .ok (.iadd, 1) := by decide +kernel
theorem dX7_lent_30 : decode cX7_lent 30 = .ok (.istore_n 1, 1) := by decide +kernel
theorem dX7_lent_31 : decode cX7_lent 31 = .ok (.iinc 2 1, 3) := by decide +kernel
theorem dX7_lent_34 : decode cX7_lent 34 = .ok (.goto (-30), 3) := by decide +kernel
theorem dX7_lent_37 : decode cX7_lent 37 = .ok (.iload_n 1, 1) := by decide +kernel
theorem dX7_lent_38 : decode cX7_lent 38 = .ok (.ireturn, 1) := by decide +kernel
theorem dX7_keep_0 : decode cX7_keep 0 = .ok (.aload_n 0, 1) := by decide +kernel
theorem dX7_keep_1 : decode cX7_keep 1 = .ok (.iload_n 1, 1) := by decide +kernel
theorem dX7_keep_2 : decode cX7_keep 2 = .ok (.iconst 0, 1) := by decide +kernel
theorem dX7_keep_3 : decode cX7_keep 3 = .ok (.iconst 1, 1) := by decide +kernel
theorem dX7_keep_4 : decode cX7_keep 4 = .ok (.invokestatic 33, 3) := by decide +kernel
theorem dX7_keep_7 : decode cX7_keep 7 = .ok (.ifCond .eq 7, 3) := by decide +kernel
theorem dX7_keep_10 : decode cX7_keep 10 = .ok (.iconst 0, 1) := by decide +kernel
theorem dX7_keep_11 : decode cX7_keep 11 = .ok (.goto 4, 3) := by decide +kernel
theorem dX7_keep_14 : decode cX7_keep 14 = .ok (.iconst 1, 1) := by decide +kernel
theorem dX7_keep_15 : decode cX7_keep 15 = .ok (.invokevirtual 78, 3) := by decide +kernel
theorem dX7_keep_18 : decode cX7_keep 18 = .ok (.ifCond .ne 5, 3) := by decide +kernel
theorem dX7_keep_21 : decode cX7_keep 21 = .ok (.iconst 0, 1) := by decide +kernel
theorem dX7_keep_22 : decode cX7_keep 22 = .ok (.ireturn, 1) := by decide +kernel
theorem dX7_keep_23 : decode cX7_keep 23 = .ok (.iconst 0, 1) := by decide +kernel
theorem dX7_keep_24 : decode cX7_keep 24 = .ok (.istore_n 2, 1) := by decide +kernel
theorem dX7_keep_25 : decode cX7_keep 25 = .ok (.iload_n 2, 1) := by decide +kernel
theorem dX7_keep_26 : decode cX7_keep 26 = .ok (.bipush 120, 2) := by decide +kernel
theorem dX7_keep_28 : decode cX7_keep 28 = .ok (.if_icmp .ge 26, 3) := by decide +kernel
theorem dX7_keep_31 : decode cX7_keep 31 = .ok (.aload_n 0, 1) := by decide +kernel
theorem dX7_keep_32 : decode cX7_keep 32 = .ok (.getfield 19, 3) := by decide +kernel
theorem dX7_keep_35 : decode cX7_keep 35 = .ok (.bipush 120, 2) := by decide +kernel
theorem dX7_keep_37 : decode cX7_keep 37 = .ok (.iload_n 1, 1) := by decide +kernel
theorem dX7_keep_38 : decode cX7_keep 38 = .ok (.imul, 1) := by decide +kernel
theorem dX7_keep_39 : decode cX7_keep 39 = .ok (.iload_n 2, 1) := by decide +kernel
theorem dX7_keep_40 : decode cX7_keep 40 = .ok (.iadd, 1) := by decide +kernel
theorem dX7_keep_41 : decode cX7_keep 41 = .ok (.aload_n 0, 1) := by decide +kernel
theorem dX7_keep_42 : decode cX7_keep 42 = .ok (.getfield 7, 3) := by decide +kernel
theorem dX7_keep_45 : decode cX7_keep 45 = .ok (.iload_n 2, 1) := by decide +kernel
theorem dX7_keep_46 : decode cX7_keep 46 = .ok (.iaload, 1) := by decide +kernel
theorem dX7_keep_47 : decode cX7_keep 47 = .ok (.iastore, 1) := by decide +kernel
theorem dX7_keep_48 : decode cX7_keep 48 = .ok (.iinc 2 1, 3) := by decide +kernel
theorem dX7_keep_51 : decode cX7_keep 51 = .ok (.goto (-26), 3) := by decide +kernel
theorem dX7_keep_54 : decode cX7_keep 54 = .ok (.aload_n 0, 1) := by decide +kernel
theorem dX7_keep_55 : decode cX7_keep 55 = .ok (.dup, 1) := by decide +kernel
theorem dX7_keep_56 : decode cX7_keep 56 = .ok (.getfield 136, 3) := by decide +kernel
theorem dX7_keep_59 : decode cX7_keep 59 = .ok (.iconst 1, 1) := by decide +kernel
theorem dX7_keep_60 : decode cX7_keep 60 = .ok (.iload_n 1, 1) := by decide +kernel
theorem dX7_keep_61 : decode cX7_keep 61 = .ok (.ishl, 1) := by decide +kernel
theorem dX7_keep_62 : decode cX7_keep 62 = .ok (.ior, 1) := by decide +kernel
theorem dX7_keep_63 : decode cX7_keep 63 = .ok (.putfield 136, 3) := by decide +kernel
theorem dX7_keep_66 : decode cX7_keep 66 = .ok (.aload_n 0, 1) := by decide +kernel
theorem dX7_keep_67 : decode cX7_keep 67 = .ok (.invokevirtual 139, 3) := by decide +kernel
theorem dX7_keep_70 : decode cX7_keep 70 = .ok (.ireturn, 1) := by decide +kernel
theorem dX7_goBack_0 : decode cX7_goBack 0 = .ok (.aload_n 0, 1) := by decide +kernel
theorem dX7_goBack_1 : decode cX7_goBack 1 = .ok (.iload_n 1, 1) := by decide +kernel
theorem dX7_goBack_2 : decode cX7_goBack 2 = .ok (.iconst 0, 1) := by decide +kernel
theorem dX7_goBack_3 : decode cX7_goBack 3 = .ok (.iconst 1, 1) := by decide +kernel
theorem dX7_goBack_4 : decode cX7_goBack 4 = .ok (.invokestatic 33, 3) := by decide +kernel
theorem dX7_goBack_7 : decode cX7_goBack 7 = .ok (.ifCond .ne 7, 3) := by decide +kernel
theorem dX7_goBack_10 : decode cX7_goBack 10 = .ok (.iconst 1, 1) := by decide +kernel
theorem dX7_goBack_11 : decode cX7_goBack 11 = .ok (.goto 19, 3) := by decide +kernel
theorem dX7_goBack_14 : decode cX7_goBack 14 = .ok (.aload_n 0, 1) := by decide +kernel
theorem dX7_goBack_15 : decode cX7_goBack 15 = .ok (.getfield 136, 3) := by decide +kernel
theorem dX7_goBack_18 : decode cX7_goBack 18 = .ok (.iload_n 1, 1) := by decide +kernel
theorem dX7_goBack_19 : decode cX7_goBack 19 = .ok (.ishr, 1) := by decide +kernel
theorem dX7_goBack_20 : decode cX7_goBack 20 = .ok (.iconst 1, 1) := by decide +kernel
theorem dX7_goBack_21 : decode cX7_goBack 21 = .ok (.iand, 1) := by decide +kernel
theorem dX7_goBack_22 : decode cX7_goBack 22 = .ok (.ifCond .ne 7, 3) := by decide +kernel
theorem dX7_goBack_25 : decode cX7_goBack 25 = .ok (.iconst 2, 1) := by decide +kernel
theorem dX7_goBack_26 : decode cX7_goBack 26 = .ok (.goto 4, 3) := by decide +kernel
theorem dX7_goBack_29 : decode cX7_goBack 29 = .ok (.iconst 0, 1) := by decide +kernel
theorem dX7_goBack_30 : decode cX7_goBack 30 = .ok (.invokevirtual 78, 3) := by decide +kernel
theorem dX7_goBack_33 : decode cX7_goBack 33 = .ok (.ifCond .ne 5, 3) := by decide +kernel
theorem dX7_goBack_36 : decode cX7_goBack 36 = .ok (.iconst 0, 1) := by decide +kernel
theorem dX7_goBack_37 : decode cX7_goBack 37 = .ok (.ireturn, 1) := by decide +kernel
theorem dX7_goBack_38 : decode cX7_goBack 38 = .ok (.aload_n 0, 1) := by decide +kernel
theorem dX7_goBack_39 : decode cX7_goBack 39 = .ok (.invokevirtual 81, 3) := by decide +kernel
theorem dX7_goBack_42 : decode cX7_goBack 42 = .ok (.iconst 0, 1) := by decide +kernel
theorem dX7_goBack_43 : decode cX7_goBack 43 = .ok (.istore_n 2, 1) := by decide +kernel
theorem dX7_goBack_44 : decode cX7_goBack 44 = .ok (.iload_n 2, 1) := by decide +kernel
theorem dX7_goBack_45 : decode cX7_goBack 45 = .ok (.bipush 120, 2) := by decide +kernel
theorem dX7_goBack_47 : decode cX7_goBack 47 = .ok (.if_icmp .ge 26, 3) := by decide +kernel
theorem dX7_goBack_50 : decode cX7_goBack 50 = .ok (.aload_n 0, 1) := by decide +kernel
theorem dX7_goBack_51 : decode cX7_goBack 51 = .ok (.getfield 7, 3) := by decide +kernel
theorem dX7_goBack_54 : decode cX7_goBack 54 = .ok (.iload_n 2, 1) := by decide +kernel
theorem dX7_goBack_55 : decode cX7_goBack 55 = .ok (.aload_n 0, 1) := by decide +kernel
theorem dX7_goBack_56 : decode cX7_goBack 56 = .ok (.getfield 19, 3) := by decide +kernel
theorem dX7_goBack_59 : decode cX7_goBack 59 = .ok (.bipush 120, 2) := by decide +kernel
theorem dX7_goBack_61 : decode cX7_goBack 61 = .ok (.iload_n 1, 1) := by decide +kernel
theorem dX7_goBack_62 : decode cX7_goBack 62 = .ok (.imul, 1) := by decide +kernel
theorem dX7_goBack_63 : decode cX7_goBack 63 = .ok (.iload_n 2, 1) := by decide +kernel
theorem dX7_goBack_64 : decode cX7_goBack 64 = .ok (.iadd, 1) := by decide +kernel
theorem dX7_goBack_65 : decode cX7_goBack 65 = .ok (.iaload, 1) := by decide +kernel
theorem dX7_goBack_66 : decode cX7_goBack 66 = .ok (.iastore, 1) := by decide +kernel
theorem dX7_goBack_67 : decode cX7_goBack 67 = .ok (.iinc 2 1, 3) := by decide +kernel
theorem dX7_goBack_70 : decode cX7_goBack 70 = .ok (.goto (-26), 3) := by decide +kernel
theorem dX7_goBack_73 : decode cX7_goBack 73 = .ok (.aload_n 0, 1) := by decide +kernel
theorem dX7_goBack_74 : decode cX7_goBack 74 = .ok (.invokevirtual 139, 3) := by decide +kernel
theorem dX7_goBack_77 : decode cX7_goBack 77 = .ok (.ireturn, 1) := by decide +kernel
theorem dX7_undo_0 : decode cX7_undo 0 = .ok (.aload_n 0, 1) := by decide +kernel
theorem dX7_undo_1 : decode cX7_undo 1 = .ok (.aload_n 0, 1) := by decide +kernel
theorem dX7_undo_2 : decode cX7_undo 2 = .ok (.getfield 37, 3) := by decide +kernel
theorem dX7_undo_5 : decode cX7_undo 5 = .ok (.ifCond .le 7, 3) := by decide +kernel
theorem dX7_undo_8 : decode cX7_undo 8 = .ok (.iconst 0, 1) := by decide +kernel
theorem dX7_undo_9 : decode cX7_undo 9 = .ok (.goto 4, 3) := by decide +kernel
theorem dX7_undo_12 : decode cX7_undo 12 = .ok (.iconst 1, 1) := by decide +kernel
theorem dX7_undo_13 : decode cX7_undo 13 = .ok (.invokevirtual 78, 3) := by decide +kernel
theorem dX7_undo_16 : decode cX7_undo 16 = .ok (.ifCond .ne 5, 3) := by decide +kernel
theorem dX7_undo_19 : decode cX7_undo 19 = .ok (.iconst 0, 1) := by decide +kernel
theorem dX7_undo_20 : decode cX7_undo 20 = .ok (.ireturn, 1) := by decide +kernel
theorem dX7_undo_21 : decode cX7_undo 21 = .ok (.aload_n 0, 1) := by decide +kernel
theorem dX7_undo_22 : decode cX7_undo 22 = .ok (.dup, 1) := by decide +kernel
theorem dX7_undo_23 : decode cX7_undo 23 = .ok (.getfield 37, 3) := by decide +kernel
theorem dX7_undo_26 : decode cX7_undo 26 = .ok (.iconst 1, 1) := by decide +kernel
theorem dX7_undo_27 : decode cX7_undo 27 = .ok (.isub, 1) := by decide +kernel
theorem dX7_undo_28 : decode cX7_undo 28 = .ok (.putfield 37, 3) := by decide +kernel
theorem dX7_undo_31 : decode cX7_undo 31 = .ok (.iconst 0, 1) := by decide +kernel
theorem dX7_undo_32 : decode cX7_undo 32 = .ok (.istore_n 1, 1) := by decide +kernel
theorem dX7_undo_33 : decode cX7_undo 33 = .ok (.iload_n 1, 1) := by decide +kernel
theorem dX7_undo_34 : decode cX7_undo 34 = .ok (.bipush 120, 2) := by decide +kernel
theorem dX7_undo_36 : decode cX7_undo 36 = .ok (.if_icmp .ge 29, 3) := by decide +kernel
theorem dX7_undo_39 : decode cX7_undo 39 = .ok (.aload_n 0, 1) := by decide +kernel
theorem dX7_undo_40 : decode cX7_undo 40 = .ok (.getfield 7, 3) := by decide +kernel
theorem dX7_undo_43 : decode cX7_undo 43 = .ok (.iload_n 1, 1) := by decide +kernel
theorem dX7_undo_44 : decode cX7_undo 44 = .ok (.aload_n 0, 1) := by decide +kernel
theorem dX7_undo_45 : decode cX7_undo 45 = .ok (.getfield 16, 3) := by decide +kernel
theorem dX7_undo_48 : decode cX7_undo 48 = .ok (.bipush 120, 2) := by decide +kernel
theorem dX7_undo_50 : decode cX7_undo 50 = .ok (.aload_n 0, 1) := by decide +kernel
theorem dX7_undo_51 : decode cX7_undo 51 = .ok (.getfield 37, 3) := by decide +kernel
theorem dX7_undo_54 : decode cX7_undo 54 = .ok (.imul, 1) := by decide +kernel
theorem dX7_undo_55 : decode cX7_undo 55 = .ok (.iload_n 1, 1) := by decide +kernel
theorem dX7_undo_56 : decode cX7_undo 56 = .ok (.iadd, 1) := by decide +kernel
theorem dX7_undo_57 : decode cX7_undo 57 = .ok (.iaload, 1) := by decide +kernel
theorem dX7_undo_58 : decode cX7_undo 58 = .ok (.iastore, 1) := by decide +kernel
theorem dX7_undo_59 : decode cX7_undo 59 = .ok (.iinc 1 1, 3) := by decide +kernel
theorem dX7_undo_62 : decode cX7_undo 62 = .ok (.goto (-29), 3) := by decide +kernel
theorem dX7_undo_65 : decode cX7_undo 65 = .ok (.aload_n 0, 1) := by decide +kernel
theorem dX7_undo_66 : decode cX7_undo 66 = .ok (.getfield 37, 3) := by decide +kernel
theorem dX7_undo_69 : decode cX7_undo 69 = .ok (.ireturn, 1) := by decide +kernel
theorem dX7_at_0 : decode cX7_at 0 = .ok (.aload_n 0, 1) := by decide +kernel
theorem dX7_at_1 : decode cX7_at 1 = .ok (.iload_n 1, 1) := by decide +kernel
theorem dX7_at_2 : decode cX7_at 2 = .ok (.iconst 0, 1) := by decide +kernel
theorem dX7_at_3 : decode cX7_at 3 = .ok (.iconst 3, 1) := by decide +kernel
theorem dX7_at_4 : decode cX7_at 4 = .ok (.invokestatic 33, 3) := by decide +kernel
theorem dX7_at_7 : decode cX7_at 7 = .ok (.ifCond .ne 7, 3) := by decide +kernel
theorem dX7_at_10 : decode cX7_at 10 = .ok (.iconst 1, 1) := by decide +kernel
theorem dX7_at_11 : decode cX7_at 11 = .ok (.goto 18, 3) := by decide +kernel
theorem dX7_at_14 : decode cX7_at 14 = .ok (.iload_n 2, 1) := by decide +kernel
theorem dX7_at_15 : decode cX7_at 15 = .ok (.iconst 0, 1) := by decide +kernel
theorem dX7_at_16 : decode cX7_at 16 = .ok (.bipush 11, 2) := by decide +kernel
theorem dX7_at_18 : decode cX7_at 18 = .ok (.invokestatic 33, 3) := by decide +kernel
theorem dX7_at_21 : decode cX7_at 21 = .ok (.ifCond .eq 7, 3) := by decide +kernel
theorem dX7_at_24 : decode cX7_at 24 = .ok (.iconst 0, 1) := by decide +kernel
theorem dX7_at_25 : decode cX7_at 25 = .ok (.goto 4, 3) := by decide +kernel
theorem dX7_at_28 : decode cX7_at 28 = .ok (.iconst 2, 1) := by decide +kernel
theorem dX7_at_29 : decode cX7_at 29 = .ok (.invokevirtual 78, 3) := by decide +kernel
theorem dX7_at_32 : decode cX7_at 32 = .ok (.ifCond .eq 16, 3) := by decide +kernel
theorem dX7_at_35 : decode cX7_at 35 = .ok (.aload_n 0, 1) := by decide +kernel
theorem dX7_at_36 : decode cX7_at 36 = .ok (.getfield 7, 3) := by decide +kernel
theorem dX7_at_39 : decode cX7_at 39 = .ok (.iload_n 1, 1) := by decide +kernel
theorem dX7_at_40 : decode cX7_at 40 = .ok (.iload_n 2, 1) := by decide +kernel
theorem dX7_at_41 : decode cX7_at 41 = .ok (.invokestatic 40, 3) := by decide +kernel
theorem dX7_at_44 : decode cX7_at 44 = .ok (.iaload, 1) := by decide +kernel
theorem dX7_at_45 : decode cX7_at 45 = .ok (.goto 4, 3) := by decide +kernel
theorem dX7_at_48 : decode cX7_at 48 = .ok (.iconst 0, 1) := by decide +kernel
theorem dX7_at_49 : decode cX7_at 49 = .ok (.ireturn, 1) := by decide +kernel
theorem dX7_lentTo_0 : decode cX7_lentTo 0 = .ok (.iconst 0, 1) := by decide +kernel
theorem dX7_lentTo_1 : decode cX7_lentTo 1 = .ok (.istore_n 2, 1) := by decide +kernel
theorem dX7_lentTo_2 : decode cX7_lentTo 2 = .ok (.iconst 0, 1) := by decide +kernel
theorem dX7_lentTo_3 : decode cX7_lentTo 3 = .ok (.istore_n 3, 1) := by decide +kernel
theorem dX7_lentTo_4 : decode cX7_lentTo 4 = .ok (.iload_n 3, 1) := by decide +kernel
theorem dX7_lentTo_5 : decode cX7_lentTo 5 = .ok (.bipush 48, 2) := by decide +kernel
theorem dX7_lentTo_7 : decode cX7_lentTo 7 = .ok (.if_icmp .ge 30, 3) := by decide +kernel
theorem dX7_lentTo_10 : decode cX7_lentTo 10 = .ok (.iload_n 2, 1) := by decide +kernel
theorem dX7_lentTo_11 : decode cX7_lentTo 11 = .ok (.aload_n 0, 1) := by decide +kernel
theorem dX7_lentTo_12 : decode cX7_lentTo 12 = .ok (.getfield 7, 3) := by decide +kernel
theorem dX7_lentTo_15 : decode cX7_lentTo 15 = .ok (.bipush 60, 2) := by decide +kernel
theorem dX7_lentTo_17 : decode cX7_lentTo 17 = .ok (.iload_n 3, 1) := by decide +kernel
theorem dX7_lentTo_18 : decode cX7_lentTo 18 = .ok (.iadd, 1) := by decide +kernel
theorem dX7_lentTo_19 : decode cX7_lentTo 19 = .ok (.iaload, 1) := by decide +kernel
theorem dX7_lentTo_20 : decode cX7_lentTo 20 = .ok (.iload_n 1, 1) := by decide +kernel
theorem dX7_lentTo_21 : decode cX7_lentTo 21 = .ok (.if_icmp .ne 7, 3) := by decide +kernel
theorem dX7_lentTo_24 : decode cX7_lentTo 24 = .ok (.iconst 1, 1) := by decide +kernel
theorem dX7_lentTo_25 : decode cX7_lentTo 25 = .ok (.goto 4, 3) := by decide +kernel
theorem dX7_lentTo_28 : decode cX7_lentTo 28 = .ok (.iconst 0, 1) := by decide +kernel
theorem dX7_lentTo_29 : decode cX7_lentTo 29 = .ok (.iadd, 1) := by decide +kernel
theorem dX7_lentTo_30 : decode cX7_lentTo 30 = .ok (.istore_n 2, 1) := by decide +kernel
theorem dX7_lentTo_31 : decode cX7_lentTo 31 = .ok (.iinc 3 1, 3) := by decide +kernel
theorem dX7_lentTo_34 : decode cX7_lentTo 34 = .ok (.goto (-30), 3) := by decide +kernel
end
section
theorem dX7_lentTo_37 : decode cX7_lentTo 37 = .ok (.iload_n 2, 1) := by decide +kernel
theorem dX7_lentTo_38 : decode cX7_lentTo 38 = .ok (.ireturn, 1) := by decide +kernel
theorem dX7_ofLodger_0 : decode cX7_ofLodger 0 = .ok (.iload_n 2, 1) := by decide +kernel
theorem dX7_ofLodger_1 : decode cX7_ofLodger 1 = .ok (.iconst 3, 1) := by decide +kernel
theorem dX7_ofLodger_2 : decode cX7_ofLodger 2 = .ok (.if_icmp .ge 16, 3) := by decide +kernel
theorem dX7_ofLodger_5 : decode cX7_ofLodger 5 = .ok (.aload_n 0, 1) := by decide +kernel
theorem dX7_ofLodger_6 : decode cX7_ofLodger 6 = .ok (.getfield 7, 3) := by decide +kernel
theorem dX7_ofLodger_9 : decode cX7_ofLodger 9 = .ok (.iload_n 1, 1) := by decide +kernel
theorem dX7_ofLodger_10 : decode cX7_ofLodger 10 = .ok (.iload_n 2, 1) := by decide +kernel
theorem dX7_ofLodger_11 : decode cX7_ofLodger 11 = .ok (.invokestatic 25, 3) := by decide +kernel
theorem dX7_ofLodger_14 : decode cX7_ofLodger 14 = .ok (.iaload, 1) := by decide +kernel
theorem dX7_ofLodger_15 : decode cX7_ofLodger 15 = .ok (.goto 28, 3) := by decide +kernel
theorem dX7_ofLodger_18 : decode cX7_ofLodger 18 = .ok (.iload_n 2, 1) := by decide +kernel
theorem dX7_ofLodger_19 : decode cX7_ofLodger 19 = .ok (.iconst 3, 1) := by decide +kernel
theorem dX7_ofLodger_20 : decode cX7_ofLodger 20 = .ok (.if_icmp .ne 11, 3) := by decide +kernel
theorem dX7_ofLodger_23 : decode cX7_ofLodger 23 = .ok (.aload_n 0, 1) := by decide +kernel
theorem dX7_ofLodger_24 : decode cX7_ofLodger 24 = .ok (.iload_n 1, 1) := by decide +kernel
theorem dX7_ofLodger_25 : decode cX7_ofLodger 25 = .ok (.invokevirtual 142, 3) := by decide +kernel
theorem dX7_ofLodger_28 : decode cX7_ofLodger 28 = .ok (.goto 15, 3) := by decide +kernel
theorem dX7_ofLodger_31 : decode cX7_ofLodger 31 = .ok (.aload_n 0, 1) := by decide +kernel
theorem dX7_ofLodger_32 : decode cX7_ofLodger 32 = .ok (.getfield 7, 3) := by decide +kernel
theorem dX7_ofLodger_35 : decode cX7_ofLodger 35 = .ok (.iload_n 1, 1) := by decide +kernel
theorem dX7_ofLodger_36 : decode cX7_ofLodger 36 = .ok (.iload_n 2, 1) := by decide +kernel
theorem dX7_ofLodger_37 : decode cX7_ofLodger 37 = .ok (.iconst 1, 1) := by decide +kernel
theorem dX7_ofLodger_38 : decode cX7_ofLodger 38 = .ok (.isub, 1) := by decide +kernel
theorem dX7_ofLodger_39 : decode cX7_ofLodger 39 = .ok (.invokestatic 25, 3) := by decide +kernel
theorem dX7_ofLodger_42 : decode cX7_ofLodger 42 = .ok (.iaload, 1) := by decide +kernel
theorem dX7_ofLodger_43 : decode cX7_ofLodger 43 = .ok (.ireturn, 1) := by decide +kernel
theorem dX7_lodgerOf_0 : decode cX7_lodgerOf 0 = .ok (.aload_n 0, 1) := by decide +kernel
theorem dX7_lodgerOf_1 : decode cX7_lodgerOf 1 = .ok (.iload_n 1, 1) := by decide +kernel
theorem dX7_lodgerOf_2 : decode cX7_lodgerOf 2 = .ok (.invokestatic 70, 3) := by decide +kernel
theorem dX7_lodgerOf_5 : decode cX7_lodgerOf 5 = .ok (.ifCond .ne 7, 3) := by decide +kernel
theorem dX7_lodgerOf_8 : decode cX7_lodgerOf 8 = .ok (.iconst 1, 1) := by decide +kernel
theorem dX7_lodgerOf_9 : decode cX7_lodgerOf 9 = .ok (.goto 18, 3) := by decide +kernel
theorem dX7_lodgerOf_12 : decode cX7_lodgerOf 12 = .ok (.iload_n 2, 1) := by decide +kernel
theorem dX7_lodgerOf_13 : decode cX7_lodgerOf 13 = .ok (.iconst 0, 1) := by decide +kernel
theorem dX7_lodgerOf_14 : decode cX7_lodgerOf 14 = .ok (.bipush 6, 2) := by decide +kernel
theorem dX7_lodgerOf_16 : decode cX7_lodgerOf 16 = .ok (.invokestatic 33, 3) := by decide +kernel
theorem dX7_lodgerOf_19 : decode cX7_lodgerOf 19 = .ok (.ifCond .eq 7, 3) := by decide +kernel
theorem dX7_lodgerOf_22 : decode cX7_lodgerOf 22 = .ok (.iconst 0, 1) := by decide +kernel
theorem dX7_lodgerOf_23 : decode cX7_lodgerOf 23 = .ok (.goto 4, 3) := by decide +kernel
theorem dX7_lodgerOf_26 : decode cX7_lodgerOf 26 = .ok (.iconst 2, 1) := by decide +kernel
theorem dX7_lodgerOf_27 : decode cX7_lodgerOf 27 = .ok (.invokevirtual 78, 3) := by decide +kernel
theorem dX7_lodgerOf_30 : decode cX7_lodgerOf 30 = .ok (.ifCond .eq 12, 3) := by decide +kernel
theorem dX7_lodgerOf_33 : decode cX7_lodgerOf 33 = .ok (.aload_n 0, 1) := by decide +kernel
theorem dX7_lodgerOf_34 : decode cX7_lodgerOf 34 = .ok (.iload_n 1, 1) := by decide +kernel
theorem dX7_lodgerOf_35 : decode cX7_lodgerOf 35 = .ok (.iload_n 2, 1) := by decide +kernel
theorem dX7_lodgerOf_36 : decode cX7_lodgerOf 36 = .ok (.invokevirtual 146, 3) := by decide +kernel
theorem dX7_lodgerOf_39 : decode cX7_lodgerOf 39 = .ok (.goto 4, 3) := by decide +kernel
theorem dX7_lodgerOf_42 : decode cX7_lodgerOf 42 = .ok (.iconst 0, 1) := by decide +kernel
theorem dX7_lodgerOf_43 : decode cX7_lodgerOf 43 = .ok (.ireturn, 1) := by decide +kernel
theorem dX7_slept_0 : decode cX7_slept 0 = .ok (.iconst 0, 1) := by decide +kernel
theorem dX7_slept_1 : decode cX7_slept 1 = .ok (.istore_n 1, 1) := by decide +kernel
theorem dX7_slept_2 : decode cX7_slept 2 = .ok (.iconst 0, 1) := by decide +kernel
theorem dX7_slept_3 : decode cX7_slept 3 = .ok (.istore_n 2, 1) := by decide +kernel
theorem dX7_slept_4 : decode cX7_slept 4 = .ok (.iload_n 2, 1) := by decide +kernel
theorem dX7_slept_5 : decode cX7_slept 5 = .ok (.bipush 10, 2) := by decide +kernel
theorem dX7_slept_7 : decode cX7_slept 7 = .ok (.if_icmp .ge 22, 3) := by decide +kernel
theorem dX7_slept_10 : decode cX7_slept 10 = .ok (.iload_n 1, 1) := by decide +kernel
theorem dX7_slept_11 : decode cX7_slept 11 = .ok (.aload_n 0, 1) := by decide +kernel
theorem dX7_slept_12 : decode cX7_slept 12 = .ok (.getfield 7, 3) := by decide +kernel
theorem dX7_slept_15 : decode cX7_slept 15 = .ok (.iload_n 2, 1) := by decide +kernel
theorem dX7_slept_16 : decode cX7_slept 16 = .ok (.iconst 3, 1) := by decide +kernel
theorem dX7_slept_17 : decode cX7_slept 17 = .ok (.invokestatic 25, 3) := by decide +kernel
theorem dX7_slept_20 : decode cX7_slept 20 = .ok (.iaload, 1) := by decide +kernel
theorem dX7_slept_21 : decode cX7_slept 21 = .ok (.iadd, 1) := by decide +kernel
theorem dX7_slept_22 : decode cX7_slept 22 = .ok (.istore_n 1, 1) := by decide +kernel
theorem dX7_slept_23 : decode cX7_slept 23 = .ok (.iinc 2 1, 3) := by decide +kernel
theorem dX7_slept_26 : decode cX7_slept 26 = .ok (.goto (-22), 3) := by decide +kernel
theorem dX7_slept_29 : decode cX7_slept 29 = .ok (.iload_n 1, 1) := by decide +kernel
theorem dX7_slept_30 : decode cX7_slept 30 = .ok (.ireturn, 1) := by decide +kernel
theorem dX7_counted_0 : decode cX7_counted 0 = .ok (.iload_n 1, 1) := by decide +kernel
theorem dX7_counted_1 : decode cX7_counted 1 = .ok (.tableswitch 165 0 10 #[59, 67, 75, 80, 85, 93, 125, 133, 141, 149, 157], 59) := by decide +kernel
theorem dX7_counted_60 : decode cX7_counted 60 = .ok (.aload_n 0, 1) := by decide +kernel
theorem dX7_counted_61 : decode cX7_counted 61 = .ok (.getfield 7, 3) := by decide +kernel
theorem dX7_counted_64 : decode cX7_counted 64 = .ok (.bipush 108, 2) := by decide +kernel
theorem dX7_counted_66 : decode cX7_counted 66 = .ok (.iaload, 1) := by decide +kernel
theorem dX7_counted_67 : decode cX7_counted 67 = .ok (.ireturn, 1) := by decide +kernel
theorem dX7_counted_68 : decode cX7_counted 68 = .ok (.aload_n 0, 1) := by decide +kernel
theorem dX7_counted_69 : decode cX7_counted 69 = .ok (.getfield 7, 3) := by decide +kernel
theorem dX7_counted_72 : decode cX7_counted 72 = .ok (.bipush 109, 2) := by decide +kernel
theorem dX7_counted_74 : decode cX7_counted 74 = .ok (.iaload, 1) := by decide +kernel
theorem dX7_counted_75 : decode cX7_counted 75 = .ok (.ireturn, 1) := by decide +kernel
theorem dX7_counted_76 : decode cX7_counted 76 = .ok (.aload_n 0, 1) := by decide +kernel
theorem dX7_counted_77 : decode cX7_counted 77 = .ok (.invokevirtual 139, 3) := by decide +kernel
theorem dX7_counted_80 : decode cX7_counted 80 = .ok (.ireturn, 1) := by decide +kernel
theorem dX7_counted_81 : decode cX7_counted 81 = .ok (.aload_n 0, 1) := by decide +kernel
theorem dX7_counted_82 : decode cX7_counted 82 = .ok (.invokevirtual 149, 3) := by decide +kernel
theorem dX7_counted_85 : decode cX7_counted 85 = .ok (.ireturn, 1) := by decide +kernel
theorem dX7_counted_86 : decode cX7_counted 86 = .ok (.aload_n 0, 1) := by decide +kernel
theorem dX7_counted_87 : decode cX7_counted 87 = .ok (.getfield 7, 3) := by decide +kernel
theorem dX7_counted_90 : decode cX7_counted 90 = .ok (.bipush 110, 2) := by decide +kernel
theorem dX7_counted_92 : decode cX7_counted 92 = .ok (.iaload, 1) := by decide +kernel
theorem dX7_counted_93 : decode cX7_counted 93 = .ok (.ireturn, 1) := by decide +kernel
theorem dX7_counted_94 : decode cX7_counted 94 = .ok (.aload_n 0, 1) := by decide +kernel
theorem dX7_counted_95 : decode cX7_counted 95 = .ok (.getfield 7, 3) := by decide +kernel
theorem dX7_counted_98 : decode cX7_counted 98 = .ok (.bipush 111, 2) := by decide +kernel
theorem dX7_counted_100 : decode cX7_counted 100 = .ok (.iaload, 1) := by decide +kernel
theorem dX7_counted_101 : decode cX7_counted 101 = .ok (.aload_n 0, 1) := by decide +kernel
theorem dX7_counted_102 : decode cX7_counted 102 = .ok (.getfield 7, 3) := by decide +kernel
theorem dX7_counted_105 : decode cX7_counted 105 = .ok (.bipush 112, 2) := by decide +kernel
theorem dX7_counted_107 : decode cX7_counted 107 = .ok (.iaload, 1) := by decide +kernel
theorem dX7_counted_108 : decode cX7_counted 108 = .ok (.iadd, 1) := by decide +kernel
theorem dX7_counted_109 : decode cX7_counted 109 = .ok (.aload_n 0, 1) := by decide +kernel
theorem dX7_counted_110 : decode cX7_counted 110 = .ok (.getfield 7, 3) := by decide +kernel
theorem dX7_counted_113 : decode cX7_counted 113 = .ok (.bipush 113, 2) := by decide +kernel
theorem dX7_counted_115 : decode cX7_counted 115 = .ok (.iaload, 1) := by decide +kernel
theorem dX7_counted_116 : decode cX7_counted 116 = .ok (.iadd, 1) := by decide +kernel
theorem dX7_counted_117 : decode cX7_counted 117 = .ok (.aload_n 0, 1) := by decide +kernel
theorem dX7_counted_118 : decode cX7_counted 118 = .ok (.getfield 7, 3) := by decide +kernel
theorem dX7_counted_121 : decode cX7_counted 121 = .ok (.bipush 114, 2) := by decide +kernel
theorem dX7_counted_123 : decode cX7_counted 123 = .ok (.iaload, 1) := by decide +kernel
theorem dX7_counted_124 : decode cX7_counted 124 = .ok (.iadd, 1) := by decide +kernel
theorem dX7_counted_125 : decode cX7_counted 125 = .ok (.ireturn, 1) := by decide +kernel
theorem dX7_counted_126 : decode cX7_counted 126 = .ok (.aload_n 0, 1) := by decide +kernel
theorem dX7_counted_127 : decode cX7_counted 127 = .ok (.getfield 7, 3) := by decide +kernel
theorem dX7_counted_130 : decode cX7_counted 130 = .ok (.bipush 115, 2) := by decide +kernel
theorem dX7_counted_132 : decode cX7_counted 132 = .ok (.iaload, 1) := by decide +kernel
theorem dX7_counted_133 : decode cX7_counted 133 = .ok (.ireturn, 1) := by decide +kernel
theorem dX7_counted_134 : decode cX7_counted 134 = .ok (.aload_n 0, 1) := by decide +kernel
theorem dX7_counted_135 : decode cX7_counted 135 = .ok (.getfield 7, 3) := by decide +kernel
theorem dX7_counted_138 : decode cX7_counted 138 = .ok (.bipush 116, 2) := by decide +kernel
theorem dX7_counted_140 : decode cX7_counted 140 = .ok (.iaload, 1) := by decide +kernel
theorem dX7_counted_141 : decode cX7_counted 141 = .ok (.ireturn, 1) := by decide +kernel
theorem dX7_counted_142 : decode cX7_counted 142 = .ok (.aload_n 0, 1) := by decide +kernel
theorem dX7_counted_143 : decode cX7_counted 143 = .ok (.getfield 7, 3) := by decide +kernel
theorem dX7_counted_146 : decode cX7_counted 146 = .ok (.bipush 117, 2) := by decide +kernel
theorem dX7_counted_148 : decode cX7_counted 148 = .ok (.iaload, 1) := by decide +kernel
theorem dX7_counted_149 : decode cX7_counted 149 = .ok (.ireturn, 1) := by decide +kernel
theorem dX7_counted_150 : decode cX7_counted 150 = .ok (.aload_n 0, 1) := by decide +kernel
theorem dX7_counted_151 : decode cX7_counted 151 = .ok (.getfield 7, 3) := by decide +kernel
theorem dX7_counted_154 : decode cX7_counted 154 = .ok (.bipush 119, 2) := by decide +kernel
theorem dX7_counted_156 : decode cX7_counted 156 = .ok (.iaload, 1) := by decide +kernel
theorem dX7_counted_157 : decode cX7_counted 157 = .ok (.ireturn, 1) := by decide +kernel
theorem dX7_counted_158 : decode cX7_counted 158 = .ok (.aload_n 0, 1) := by decide +kernel
theorem dX7_counted_159 : decode cX7_counted 159 = .ok (.getfield 7, 3) := by decide +kernel
theorem dX7_counted_162 : decode cX7_counted 162 = .ok (.bipush 118, 2) := by decide +kernel
theorem dX7_counted_164 : decode cX7_counted 164 = .ok (.iaload, 1) := by decide +kernel
theorem dX7_counted_165 : decode cX7_counted 165 = .ok (.ireturn, 1) := by decide +kernel
theorem dX7_counted_166 : decode cX7_counted 166 = .ok (.aload_n 0, 1) := by decide +kernel
theorem dX7_counted_167 : decode cX7_counted 167 = .ok (.getfield 37, 3) := by decide +kernel
theorem dX7_counted_170 : decode cX7_counted 170 = .ok (.ireturn, 1) := by decide +kernel
theorem dX7_count_0 : decode cX7_count 0 = .ok (.aload_n 0, 1) := by decide +kernel
theorem dX7_count_1 : decode cX7_count 1 = .ok (.iload_n 1, 1) := by decide +kernel
theorem dX7_count_2 : decode cX7_count 2 = .ok (.iconst 0, 1) := by decide +kernel
theorem dX7_count_3 : decode cX7_count 3 = .ok (.bipush 11, 2) := by decide +kernel
theorem dX7_count_5 : decode cX7_count 5 = .ok (.invokestatic 33, 3) := by decide +kernel
theorem dX7_count_8 : decode cX7_count 8 = .ok (.ifCond .eq 7, 3) := by decide +kernel
theorem dX7_count_11 : decode cX7_count 11 = .ok (.iconst 0, 1) := by decide +kernel
theorem dX7_count_12 : decode cX7_count 12 = .ok (.goto 4, 3) := by decide +kernel
theorem dX7_count_15 : decode cX7_count 15 = .ok (.iconst 1, 1) := by decide +kernel
theorem dX7_count_16 : decode cX7_count 16 = .ok (.invokevirtual 78, 3) := by decide +kernel
theorem dX7_count_19 : decode cX7_count 19 = .ok (.ifCond .eq 11, 3) := by decide +kernel
theorem dX7_count_22 : decode cX7_count 22 = .ok (.aload_n 0, 1) := by decide +kernel
theorem dX7_count_23 : decode cX7_count 23 = .ok (.iload_n 1, 1) := by decide +kernel
theorem dX7_count_24 : decode cX7_count 24 = .ok (.invokevirtual 152, 3) := by decide +kernel
theorem dX7_count_27 : decode cX7_count 27 = .ok (.goto 4, 3) := by decide +kernel
theorem dX7_count_30 : decode cX7_count 30 = .ok (.iconst 0, 1) := by decide +kernel
theorem dX7_count_31 : decode cX7_count 31 = .ok (.ireturn, 1) := by decide +kernel
theorem dX7_refused_0 : decode cX7_refused 0 = .ok (.aload_n 0, 1) := by decide +kernel
theorem dX7_refused_1 : decode cX7_refused 1 = .ok (.iload_n 1, 1) := by decide +kernel
theorem dX7_refused_2 : decode cX7_refused 2 = .ok (.iconst 1, 1) := by decide +kernel
theorem dX7_refused_3 : decode cX7_refused 3 = .ok (.iconst 4, 1) := by decide +kernel
theorem dX7_refused_4 : decode cX7_refused 4 = .ok (.invokestatic 33, 3) := by decide +kernel
theorem dX7_refused_7 : decode cX7_refused 7 = .ok (.ifCond .eq 7, 3) := by decide +kernel
theorem dX7_refused_10 : decode cX7_refused 10 = .ok (.iconst 0, 1) := by decide +kernel
theorem dX7_refused_11 : decode cX7_refused 11 = .ok (.goto 4, 3) := by decide +kernel
theorem dX7_refused_14 : decode cX7_refused 14 = .ok (.iconst 1, 1) := by decide +kernel
theorem dX7_refused_15 : decode cX7_refused 15 = .ok (.invokevirtual 78, 3) := by decide +kernel
theorem dX7_refused_18 : decode cX7_refused 18 = .ok (.ifCond .eq 17, 3) := by decide +kernel
theorem dX7_refused_21 : decode cX7_refused 21 = .ok (.aload_n 0, 1) := by decide +kernel
theorem dX7_refused_22 : decode cX7_refused 22 = .ok (.getfield 7, 3) := by decide +kernel
theorem dX7_refused_25 : decode cX7_refused 25 = .ok (.bipush 111, 2) := by decide +kernel
theorem dX7_refused_27 : decode cX7_refused 27 = .ok (.iload_n 1, 1) := by decide +kernel
theorem dX7_refused_28 : decode cX7_refused 28 = .ok (.iadd, 1) := by decide +kernel
theorem dX7_refused_29 : decode cX7_refused 29 = .ok (.iconst 1, 1) := by decide +kernel
theorem dX7_refused_30 : decode cX7_refused 30 = .ok (.isub, 1) := by decide +kernel
theorem dX7_refused_31 : decode cX7_refused 31 = .ok (.iaload, 1) := by decide +kernel
theorem dX7_refused_32 : decode cX7_refused 32 = .ok (.goto 4, 3) := by decide +kernel
theorem dX7_refused_35 : decode cX7_refused 35 = .ok (.iconst 0, 1) := by decide +kernel
theorem dX7_refused_36 : decode cX7_refused 36 = .ok (.ireturn, 1) := by decide +kernel
theorem dX7_would_0 : decode cX7_would 0 = .ok (.iconst 0, 1) := by decide +kernel
theorem dX7_would_1 : decode cX7_would 1 = .ok (.istore 4, 2) := by decide +kernel
theorem dX7_would_3 : decode cX7_would 3 = .ok (.iload 4, 2) := by decide +kernel
theorem dX7_would_5 : decode cX7_would 5 = .ok (.bipush 120, 2) := by decide +kernel
theorem dX7_would_7 : decode cX7_would 7 = .ok (.if_icmp .ge 23, 3) := by decide +kernel
theorem dX7_would_10 : decode cX7_would 10 = .ok (.aload_n 0, 1) := by decide +kernel
theorem dX7_would_11 : decode cX7_would 11 = .ok (.getfield 13, 3) := by decide +kernel
theorem dX7_would_14 : decode cX7_would 14 = .ok (.iload 4, 2) := by decide +kernel
theorem dX7_would_16 : decode cX7_would 16 = .ok (.aload_n 0, 1) := by decide +kernel
theorem dX7_would_17 : decode cX7_would 17 = .ok (.getfield 7, 3) := by decide +kernel
theorem dX7_would_20 : decode cX7_would 20 = .ok (.iload 4, 2) := by decide +kernel
theorem dX7_would_22 : decode cX7_would 22 = .ok (.iaload, 1) := by decide +kernel
theorem dX7_would_23 : decode cX7_would 23 = .ok (.iastore, 1) := by decide +kernel
theorem dX7_would_24 : decode cX7_would 24 = .ok (.iinc 4 1, 3) := by decide +kernel
theorem dX7_would_27 : decode cX7_would 27 = .ok (.goto (-24), 3) := by decide +kernel
theorem dX7_would_30 : decode cX7_would 30 = .ok (.aload_n 0, 1) := by decide +kernel
theorem dX7_would_31 : decode cX7_would 31 = .ok (.iload_n 1, 1) := by decide +kernel
theorem dX7_would_32 : decode cX7_would 32 = .ok (.iload_n 2, 1) := by decide +kernel
theorem dX7_would_33 : decode cX7_would 33 = .ok (.iload_n 3, 1) := by decide +kernel
theorem dX7_would_34 : decode cX7_would 34 = .ok (.invokevirtual 84, 3) := by decide +kernel
theorem dX7_would_37 : decode cX7_would 37 = .ok (.istore 4, 2) := by decide +kernel
theorem dX7_would_39 : decode cX7_would 39 = .ok (.iconst 0, 1) := by decide +kernel
theorem dX7_would_40 : decode cX7_would 40 = .ok (.istore 5, 2) := by decide +kernel
theorem dX7_would_42 : decode cX7_would 42 = .ok (.iload 5, 2) := by decide +kernel
theorem dX7_would_44 : decode cX7_would 44 = .ok (.bipush 120, 2) := by decide +kernel
theorem dX7_would_46 : decode cX7_would 46 = .ok (.if_icmp .ge 23, 3) := by decide +kernel
theorem dX7_would_49 : decode cX7_would 49 = .ok (.aload_n 0, 1) := by decide +kernel
theorem dX7_would_50 : decode cX7_would 50 = .ok (.getfield 7, 3) := by decide +kernel
theorem dX7_would_53 : decode cX7_would 53 = .ok (.iload 5, 2) := by decide +kernel
theorem dX7_would_55 : decode cX7_would 55 = .ok (.aload_n 0, 1) := by decide +kernel
theorem dX7_would_56 : decode cX7_would 56 = .ok (.getfield 13, 3) := by decide +kernel
theorem dX7_would_59 : decode cX7_would 59 = .ok (.iload 5, 2) := by decide +kernel
theorem dX7_would_61 : decode cX7_would 61 = .ok (.iaload, 1) := by decide +kernel
theorem dX7_would_62 : decode cX7_would 62 = .ok (.iastore, 1) := by decide +kernel
theorem dX7_would_63 : decode cX7_would 63 = .ok (.iinc 5 1, 3) := by decide +kernel
theorem dX7_would_66 : decode cX7_would 66 = .ok (.goto (-24), 3) := by decide +kernel
theorem dX7_would_69 : decode cX7_would 69 = .ok (.iload 4, 2) := by decide +kernel
theorem dX7_would_71 : decode cX7_would 71 = .ok (.ireturn, 1) := by decide +kernel
theorem dX7_ifAsked_0 : decode cX7_ifAsked 0 = .ok (.aload_n 0, 1) := by decide +kernel
theorem dX7_ifAsked_1 : decode cX7_ifAsked 1 = .ok (.iload_n 1, 1) := by decide +kernel
theorem dX7_ifAsked_2 : decode cX7_ifAsked 2 = .ok (.invokestatic 70, 3) := by decide +kernel
theorem dX7_ifAsked_5 : decode cX7_ifAsked 5 = .ok (.ifCond .ne 7, 3) := by decide +kernel
theorem dX7_ifAsked_8 : decode cX7_ifAsked 8 = .ok (.iconst 1, 1) := by decide +kernel
theorem dX7_ifAsked_9 : decode cX7_ifAsked 9 = .ok (.goto 16, 3) := by decide +kernel
theorem dX7_ifAsked_12 : decode cX7_ifAsked 12 = .ok (.iload_n 2, 1) := by decide +kernel
theorem dX7_ifAsked_13 : decode cX7_ifAsked 13 = .ok (.iload_n 3, 1) := by decide +kernel
theorem dX7_ifAsked_14 : decode cX7_ifAsked 14 = .ok (.invokestatic 74, 3) := by decide +kernel
theorem dX7_ifAsked_17 : decode cX7_ifAsked 17 = .ok (.ifCond .eq 7, 3) := by decide +kernel
theorem dX7_ifAsked_20 : decode cX7_ifAsked 20 = .ok (.iconst 0, 1) := by decide +kernel
theorem dX7_ifAsked_21 : decode cX7_ifAsked 21 = .ok (.goto 4, 3) := by decide +kernel
theorem dX7_ifAsked_24 : decode cX7_ifAsked 24 = .ok (.iconst 2, 1) := by decide +kernel
theorem dX7_ifAsked_25 : decode cX7_ifAsked 25 = .ok (.invokevirtual 78, 3) := by decide +kernel
theorem dX7_ifAsked_28 : decode cX7_ifAsked 28 = .ok (.ifCond .eq 13, 3) := by decide +kernel
theorem dX7_ifAsked_31 : decode cX7_ifAsked 31 = .ok (.aload_n 0, 1) := by decide +kernel
theorem dX7_ifAsked_32 : decode cX7_ifAsked 32 = .ok (.iload_n 1, 1) := by decide +kernel
theorem dX7_ifAsked_33 : decode cX7_ifAsked 33 = .ok (.iload_n 2, 1) := by decide +kernel
theorem dX7_ifAsked_34 : decode cX7_ifAsked 34 = .ok (.iload_n 3, 1) := by decide +kernel
theorem dX7_ifAsked_35 : decode cX7_ifAsked 35 = .ok (.invokevirtual 155, 3) := by decide +kernel
theorem dX7_ifAsked_38 : decode cX7_ifAsked 38 = .ok (.goto 4, 3) := by decide +kernel
theorem dX7_ifAsked_41 : decode cX7_ifAsked 41 = .ok (.iconst 0, 1) := by decide +kernel
theorem dX7_ifAsked_42 : decode cX7_ifAsked 42 = .ok (.ireturn, 1) := by decide +kernel
theorem dX7_ifPutOut_0 : decode cX7_ifPutOut 0 = .ok (.aload_n 0, 1) := by decide +kernel
theorem dX7_ifPutOut_1 : decode cX7_ifPutOut 1 = .ok (.iload_n 1, 1) := by decide +kernel
theorem dX7_ifPutOut_2 : decode cX7_ifPutOut 2 = .ok (.invokestatic 70, 3) := by decide +kernel
theorem dX7_ifPutOut_5 : decode cX7_ifPutOut 5 = .ok (.ifCond .ne 7, 3) := by decide +kernel
theorem dX7_ifPutOut_8 : decode cX7_ifPutOut 8 = .ok (.iconst 1, 1) := by decide +kernel
theorem dX7_ifPutOut_9 : decode cX7_ifPutOut 9 = .ok (.goto 16, 3) := by decide +kernel
theorem dX7_ifPutOut_12 : decode cX7_ifPutOut 12 = .ok (.iload_n 2, 1) := by decide +kernel
theorem dX7_ifPutOut_13 : decode cX7_ifPutOut 13 = .ok (.iload_n 3, 1) := by decide +kernel
theorem dX7_ifPutOut_14 : decode cX7_ifPutOut 14 = .ok (.invokestatic 74, 3) := by decide +kernel
theorem dX7_ifPutOut_17 : decode cX7_ifPutOut 17 = .ok (.ifCond .eq 7, 3) := by decide +kernel
theorem dX7_ifPutOut_20 : decode cX7_ifPutOut 20 = .ok (.iconst 0, 1) := by decide +kernel
theorem dX7_ifPutOut_21 : decode cX7_ifPutOut 21 = .ok (.goto 4, 3) := by decide +kernel
theorem dX7_ifPutOut_24 : decode cX7_ifPutOut 24 = .ok (.iconst 2, 1) := by decide +kernel
theorem dX7_ifPutOut_25 : decode cX7_ifPutOut 25 = .ok (.invokevirtual 78, 3) := by decide +kernel
theorem dX7_ifPutOut_28 : decode cX7_ifPutOut 28 = .ok (.ifCond .ne 5, 3) := by decide +kernel
theorem dX7_ifPutOut_31 : decode cX7_ifPutOut 31 = .ok (.iconst 0, 1) := by decide +kernel
theorem dX7_ifPutOut_32 : decode cX7_ifPutOut 32 = .ok (.ireturn, 1) := by decide +kernel
theorem dX7_ifPutOut_33 : decode cX7_ifPutOut 33 = .ok (.aload_n 0, 1) := by decide +kernel
theorem dX7_ifPutOut_34 : decode cX7_ifPutOut 34 = .ok (.iload_n 1, 1) := by decide +kernel
theorem dX7_ifPutOut_35 : decode cX7_ifPutOut 35 = .ok (.iload_n 2, 1) := by decide +kernel
theorem dX7_ifPutOut_36 : decode cX7_ifPutOut 36 = .ok (.iload_n 3, 1) := by decide +kernel
theorem dX7_ifPutOut_37 : decode cX7_ifPutOut 37 = .ok (.invokevirtual 155, 3) := by decide +kernel
theorem dX7_ifPutOut_40 : decode cX7_ifPutOut 40 = .ok (.istore 4, 2) := by decide +kernel
theorem dX7_ifPutOut_42 : decode cX7_ifPutOut 42 = .ok (.aload_n 0, 1) := by decide +kernel
theorem dX7_ifPutOut_43 : decode cX7_ifPutOut 43 = .ok (.getfield 60, 3) := by decide +kernel
theorem dX7_ifPutOut_46 : decode cX7_ifPutOut 46 = .ok (.ireturn, 1) := by decide +kernel
theorem dX7_mostAtOnce_0 : decode cX7_mostAtOnce 0 = .ok (.iconst 0, 1) := by decide +kernel
theorem dX7_mostAtOnce_1 : decode cX7_mostAtOnce 1 = .ok (.istore_n 1, 1) := by decide +kernel
theorem dX7_mostAtOnce_2 : decode cX7_mostAtOnce 2 = .ok (.iconst 0, 1) := by decide +kernel
theorem dX7_mostAtOnce_3 : decode cX7_mostAtOnce 3 = .ok (.istore_n 2, 1) := by decide +kernel
theorem dX7_mostAtOnce_4 : decode cX7_mostAtOnce 4 = .ok (.iload_n 2, 1) := by decide +kernel
theorem dX7_mostAtOnce_5 : decode cX7_mostAtOnce 5 = .ok (.bipush 12, 2) := by decide +kernel
theorem dX7_mostAtOnce_7 : decode cX7_mostAtOnce 7 = .ok (.if_icmp .ge 60, 3) := by decide +kernel
theorem dX7_mostAtOnce_10 : decode cX7_mostAtOnce 10 = .ok (.iconst 0, 1) := by decide +kernel
theorem dX7_mostAtOnce_11 : decode cX7_mostAtOnce 11 = .ok (.istore_n 3, 1) := by decide +kernel
theorem dX7_mostAtOnce_12 : decode cX7_mostAtOnce 12 = .ok (.iconst 0, 1) := by decide +kernel
theorem dX7_mostAtOnce_13 : decode cX7_mostAtOnce 13 = .ok (.istore 4, 2) := by decide +kernel
theorem dX7_mostAtOnce_15 : decode cX7_mostAtOnce 15 = .ok (.iload 4, 2) := by decide +kernel
theorem dX7_mostAtOnce_17 : decode cX7_mostAtOnce 17 = .ok (.iconst 4, 1) := by decide +kernel
theorem dX7_mostAtOnce_18 : decode cX7_mostAtOnce 18 = .ok (.if_icmp .ge 32, 3) := by decide +kernel
theorem dX7_mostAtOnce_21 : decode cX7_mostAtOnce 21 = .ok (.iload_n 3, 1) := by decide +kernel
theorem dX7_mostAtOnce_22 : decode cX7_mostAtOnce 22 = .ok (.aload_n 0, 1) := by decide +kernel
theorem dX7_mostAtOnce_23 : decode cX7_mostAtOnce 23 = .ok (.getfield 7, 3) := by decide +kernel
theorem dX7_mostAtOnce_26 : decode cX7_mostAtOnce 26 = .ok (.iload 4, 2) := by decide +kernel
theorem dX7_mostAtOnce_28 : decode cX7_mostAtOnce 28 = .ok (.iload_n 2, 1) := by decide +kernel
theorem dX7_mostAtOnce_29 : decode cX7_mostAtOnce 29 = .ok (.invokestatic 40, 3) := by decide +kernel
theorem dX7_mostAtOnce_32 : decode cX7_mostAtOnce 32 = .ok (.iaload, 1) := by decide +kernel
theorem dX7_mostAtOnce_33 : decode cX7_mostAtOnce 33 = .ok (.iconst (-1), 1) := by decide +kernel
theorem dX7_mostAtOnce_34 : decode cX7_mostAtOnce 34 = .ok (.if_icmp .ne 7, 3) := by decide +kernel
theorem dX7_mostAtOnce_37 : decode cX7_mostAtOnce 37 = .ok (.iconst 0, 1) := by decide +kernel
theorem dX7_mostAtOnce_38 : decode cX7_mostAtOnce 38 = .ok (.goto 4, 3) := by decide +kernel
theorem dX7_mostAtOnce_41 : decode cX7_mostAtOnce 41 = .ok (.iconst 1, 1) := by decide +kernel
theorem dX7_mostAtOnce_42 : decode cX7_mostAtOnce 42 = .ok (.iadd, 1) := by decide +kernel
theorem dX7_mostAtOnce_43 : decode cX7_mostAtOnce 43 = .ok (.istore_n 3, 1) := by decide +kernel
theorem dX7_mostAtOnce_44 : decode cX7_mostAtOnce 44 = .ok (.iinc 4 1, 3) := by decide +kernel
theorem dX7_mostAtOnce_47 : decode cX7_mostAtOnce 47 = .ok (.goto (-32), 3) := by decide +kernel
theorem dX7_mostAtOnce_50 : decode cX7_mostAtOnce 50 = .ok (.iload_n 3, 1) := by decide +kernel
theorem dX7_mostAtOnce_51 : decode cX7_mostAtOnce 51 = .ok (.iload_n 1, 1) := by decide +kernel
theorem dX7_mostAtOnce_52 : decode cX7_mostAtOnce 52 = .ok (.if_icmp .le 7, 3) := by decide +kernel
theorem dX7_mostAtOnce_55 : decode cX7_mostAtOnce 55 = .ok (.iload_n 3, 1) := by decide +kernel
theorem dX7_mostAtOnce_56 : decode cX7_mostAtOnce 56 = .ok (.goto 4, 3) := by decide +kernel
theorem dX7_mostAtOnce_59 : decode cX7_mostAtOnce 59 = .ok (.iload_n 1, 1) := by decide +kernel
theorem dX7_mostAtOnce_60 : decode cX7_mostAtOnce 60 = .ok (.istore_n 1, 1) := by decide +kernel
theorem dX7_mostAtOnce_61 : decode cX7_mostAtOnce 61 = .ok (.iinc 2 1, 3) := by decide +kernel
theorem dX7_mostAtOnce_64 : decode cX7_mostAtOnce 64 = .ok (.goto (-60), 3) := by decide +kernel
theorem dX7_mostAtOnce_67 : decode cX7_mostAtOnce 67 = .ok (.iload_n 1, 1) := by decide +kernel
theorem dX7_mostAtOnce_68 : decode cX7_mostAtOnce 68 = .ok (.ireturn, 1) := by decide +kernel
theorem dX7_fewestBeds_0 : decode cX7_fewestBeds 0 = .ok (.aload_n 0, 1) := by decide +kernel
theorem dX7_fewestBeds_1 : decode cX7_fewestBeds 1 = .ok (.iload_n 1, 1) := by decide +kernel
theorem dX7_fewestBeds_2 : decode cX7_fewestBeds 2 = .ok (.iconst 0, 1) := by decide +kernel
theorem dX7_fewestBeds_3 : decode cX7_fewestBeds 3 = .ok (.iconst 1, 1) := by decide +kernel
theorem dX7_fewestBeds_4 : decode cX7_fewestBeds 4 = .ok (.invokestatic 33, 3) := by decide +kernel
theorem dX7_fewestBeds_7 : decode cX7_fewestBeds 7 = .ok (.ifCond .eq 7, 3) := by decide +kernel
theorem dX7_fewestBeds_10 : decode cX7_fewestBeds 10 = .ok (.iconst 0, 1) := by decide +kernel
theorem dX7_fewestBeds_11 : decode cX7_fewestBeds 11 = .ok (.goto 4, 3) := by decide +kernel
theorem dX7_fewestBeds_14 : decode cX7_fewestBeds 14 = .ok (.iconst 1, 1) := by decide +kernel
theorem dX7_fewestBeds_15 : decode cX7_fewestBeds 15 = .ok (.invokevirtual 78, 3) := by decide +kernel
theorem dX7_fewestBeds_18 : decode cX7_fewestBeds 18 = .ok (.ifCond .eq 10, 3) := by decide +kernel
theorem dX7_fewestBeds_21 : decode cX7_fewestBeds 21 = .ok (.aload_n 0, 1) := by decide +kernel
theorem dX7_fewestBeds_22 : decode cX7_fewestBeds 22 = .ok (.invokevirtual 158, 3) := by decide +kernel
theorem dX7_fewestBeds_25 : decode cX7_fewestBeds 25 = .ok (.goto 4, 3) := by decide +kernel
theorem dX7_fewestBeds_28 : decode cX7_fewestBeds 28 = .ok (.iconst 0, 1) := by decide +kernel
theorem dX7_fewestBeds_29 : decode cX7_fewestBeds 29 = .ok (.ireturn, 1) := by decide +kernel
theorem dX7_longestFor_0 : decode cX7_longestFor 0 = .ok (.iconst 0, 1) := by decide +kernel
theorem dX7_longestFor_1 : decode cX7_longestFor 1 = .ok (.istore_n 3, 1) := by decide +kernel
theorem dX7_longestFor_2 : decode cX7_longestFor 2 = .ok (.iconst 1, 1) := by decide +kernel
theorem dX7_longestFor_3 : decode cX7_longestFor 3 = .ok (.istore 4, 2) := by decide +kernel
theorem dX7_longestFor_5 : decode cX7_longestFor 5 = .ok (.iload 4, 2) := by decide +kernel
theorem dX7_longestFor_7 : decode cX7_longestFor 7 = .ok (.bipush 9, 2) := by decide +kernel
theorem dX7_longestFor_9 : decode cX7_longestFor 9 = .ok (.if_icmp .gt 76, 3) := by decide +kernel
theorem dX7_longestFor_12 : decode cX7_longestFor 12 = .ok (.iload_n 2, 1) := by decide +kernel
theorem dX7_longestFor_13 : decode cX7_longestFor 13 = .ok (.iload 4, 2) := by decide +kernel
theorem dX7_longestFor_15 : decode cX7_longestFor 15 = .ok (.iadd, 1) := by decide +kernel
theorem dX7_longestFor_16 : decode cX7_longestFor 16 = .ok (.bipush 12, 2) := by decide +kernel
theorem dX7_longestFor_18 : decode cX7_longestFor 18 = .ok (.if_icmp .gt 67, 3) := by decide +kernel
theorem dX7_longestFor_21 : decode cX7_longestFor 21 = .ok (.iload_n 2, 1) := by decide +kernel
theorem dX7_longestFor_22 : decode cX7_longestFor 22 = .ok (.aload_n 0, 1) := by decide +kernel
theorem dX7_longestFor_23 : decode cX7_longestFor 23 = .ok (.getfield 7, 3) := by decide +kernel
theorem dX7_longestFor_26 : decode cX7_longestFor 26 = .ok (.bipush 108, 2) := by decide +kernel
theorem dX7_longestFor_28 : decode cX7_longestFor 28 = .ok (.iaload, 1) := by decide +kernel
theorem dX7_longestFor_29 : decode cX7_longestFor 29 = .ok (.if_icmp .lt 56, 3) := by decide +kernel
theorem dX7_longestFor_32 : decode cX7_longestFor 32 = .ok (.aload_n 0, 1) := by decide +kernel
theorem dX7_longestFor_33 : decode cX7_longestFor 33 = .ok (.iload_n 1, 1) := by decide +kernel
theorem dX7_longestFor_34 : decode cX7_longestFor 34 = .ok (.iload_n 2, 1) := by decide +kernel
theorem dX7_longestFor_35 : decode cX7_longestFor 35 = .ok (.iload 4, 2) := by decide +kernel
theorem dX7_longestFor_37 : decode cX7_longestFor 37 = .ok (.invokevirtual 50, 3) := by decide +kernel
theorem dX7_longestFor_40 : decode cX7_longestFor 40 = .ok (.ifCond .ne 24, 3) := by decide +kernel
theorem dX7_longestFor_43 : decode cX7_longestFor 43 = .ok (.aload_n 0, 1) := by decide +kernel
theorem dX7_longestFor_44 : decode cX7_longestFor 44 = .ok (.aload_n 0, 1) := by decide +kernel
theorem dX7_longestFor_45 : decode cX7_longestFor 45 = .ok (.iload_n 2, 1) := by decide +kernel
theorem dX7_longestFor_46 : decode cX7_longestFor 46 = .ok (.iload 4, 2) := by decide +kernel
theorem dX7_longestFor_48 : decode cX7_longestFor 48 = .ok (.invokevirtual 53, 3) := by decide +kernel
theorem dX7_longestFor_51 : decode cX7_longestFor 51 = .ok (.iload_n 2, 1) := by decide +kernel
theorem dX7_longestFor_52 : decode cX7_longestFor 52 = .ok (.iload 4, 2) := by decide +kernel
theorem dX7_longestFor_54 : decode cX7_longestFor 54 = .ok (.invokevirtual 43, 3) := by decide +kernel
theorem dX7_longestFor_57 : decode cX7_longestFor 57 = .ok (.ifCond .ne 7, 3) := by decide +kernel
theorem dX7_longestFor_60 : decode cX7_longestFor 60 = .ok (.iconst 1, 1) := by decide +kernel
theorem dX7_longestFor_61 : decode cX7_longestFor 61 = .ok (.goto 4, 3) := by decide +kernel
theorem dX7_longestFor_64 : decode cX7_longestFor 64 = .ok (.iconst 0, 1) := by decide +kernel
theorem dX7_longestFor_65 : decode cX7_longestFor 65 = .ok (.istore 5, 2) := by decide +kernel
theorem dX7_longestFor_67 : decode cX7_longestFor 67 = .ok (.iload 5, 2) := by decide +kernel
theorem dX7_longestFor_69 : decode cX7_longestFor 69 = .ok (.ifCond .eq 8, 3) := by decide +kernel
theorem dX7_longestFor_72 : decode cX7_longestFor 72 = .ok (.iload 4, 2) := by decide +kernel
theorem dX7_longestFor_74 : decode cX7_longestFor 74 = .ok (.goto 4, 3) := by decide +kernel
theorem dX7_longestFor_77 : decode cX7_longestFor 77 = .ok (.iload_n 3, 1) := by decide +kernel
theorem dX7_longestFor_78 : decode cX7_longestFor 78 = .ok (.istore_n 3, 1) := by decide +kernel
theorem dX7_longestFor_79 : decode cX7_longestFor 79 = .ok (.iinc 4 1, 3) := by decide +kernel
theorem dX7_longestFor_82 : decode cX7_longestFor 82 = .ok (.goto (-77), 3) := by decide +kernel
theorem dX7_longestFor_85 : decode cX7_longestFor 85 = .ok (.iload_n 3, 1) := by decide +kernel
theorem dX7_longestFor_86 : decode cX7_longestFor 86 = .ok (.ireturn, 1) := by decide +kernel
theorem dX7_longest_0 : decode cX7_longest 0 = .ok (.aload_n 0, 1) := by decide +kernel
theorem dX7_longest_1 : decode cX7_longest 1 = .ok (.iload_n 1, 1) := by decide +kernel
theorem dX7_longest_2 : decode cX7_longest 2 = .ok (.invokestatic 70, 3) := by decide +kernel
theorem dX7_longest_5 : decode cX7_longest 5 = .ok (.ifCond .ne 7, 3) := by decide +kernel
theorem dX7_longest_8 : decode cX7_longest 8 = .ok (.iconst 1, 1) := by decide +kernel
theorem dX7_longest_9 : decode cX7_longest 9 = .ok (.goto 18, 3) := by decide +kernel
theorem dX7_longest_12 : decode cX7_longest 12 = .ok (.iload_n 2, 1) := by decide +kernel
theorem dX7_longest_13 : decode cX7_longest 13 = .ok (.iconst 0, 1) := by decide +kernel
theorem dX7_longest_14 : decode cX7_longest 14 = .ok (.bipush 11, 2) := by decide +kernel
theorem dX7_longest_16 : decode cX7_longest 16 = .ok (.invokestatic 33, 3) := by decide +kernel
theorem dX7_longest_19 : decode cX7_longest 19 = .ok (.ifCond .eq 7, 3) := by decide +kernel
theorem dX7_longest_22 : decode cX7_longest 22 = .ok (.iconst 0, 1) := by decide +kernel
theorem dX7_longest_23 : decode cX7_longest 23 = .ok (.goto 4, 3) := by decide +kernel
theorem dX7_longest_26 : decode cX7_longest 26 = .ok (.iconst 2, 1) := by decide +kernel
theorem dX7_longest_27 : decode cX7_longest 27 = .ok (.invokevirtual 78, 3) := by decide +kernel
theorem dX7_longest_30 : decode cX7_longest 30 = .ok (.ifCond .eq 12, 3) := by decide +kernel
theorem dX7_longest_33 : decode cX7_longest 33 = .ok (.aload_n 0, 1) := by decide +kernel
theorem dX7_longest_34 : decode cX7_longest 34 = .ok (.iload_n 1, 1) := by decide +kernel
theorem dX7_longest_35 : decode cX7_longest 35 = .ok (.iload_n 2, 1) := by decide +kernel
theorem dX7_longest_36 : decode cX7_longest 36 = .ok (.invokevirtual 161, 3) := by decide +kernel
theorem dX7_longest_39 : decode cX7_longest 39 = .ok (.goto 4, 3) := by decide +kernel
theorem dX7_longest_42 : decode cX7_longest 42 = .ok (.iconst 0, 1) := by decide +kernel
theorem dX7_longest_43 : decode cX7_longest 43 = .ok (.ireturn, 1) := by decide +kernel
theorem dX7_refusedMost_0 : decode cX7_refusedMost 0 = .ok (.iconst 0, 1) := by decide +kernel
theorem dX7_refusedMost_1 : decode cX7_refusedMost 1 = .ok (.istore_n 1, 1) := by decide +kernel
theorem dX7_refusedMost_2 : decode cX7_refusedMost 2 = .ok (.iconst 1, 1) := by decide +kernel
theorem dX7_refusedMost_3 : decode cX7_refusedMost 3 = .ok (.istore_n 2, 1) := by decide +kernel
theorem dX7_refusedMost_4 : decode cX7_refusedMost 4 = .ok (.iload_n 2, 1) := by decide +kernel
theorem dX7_refusedMost_5 : decode cX7_refusedMost 5 = .ok (.bipush 10, 2) := by decide +kernel
theorem dX7_refusedMost_7 : decode cX7_refusedMost 7 = .ok (.if_icmp .ge 71, 3) := by decide +kernel
theorem dX7_refusedMost_10 : decode cX7_refusedMost 10 = .ok (.aload_n 0, 1) := by decide +kernel
theorem dX7_refusedMost_11 : decode cX7_refusedMost 11 = .ok (.getfield 7, 3) := by decide +kernel
theorem dX7_refusedMost_14 : decode cX7_refusedMost 14 = .ok (.iload_n 2, 1) := by decide +kernel
theorem dX7_refusedMost_15 : decode cX7_refusedMost 15 = .ok (.iconst 1, 1) := by decide +kernel
theorem dX7_refusedMost_16 : decode cX7_refusedMost 16 = .ok (.invokestatic 25, 3) := by decide +kernel
theorem dX7_refusedMost_19 : decode cX7_refusedMost 19 = .ok (.iaload, 1) := by decide +kernel
theorem dX7_refusedMost_20 : decode cX7_refusedMost 20 = .ok (.aload_n 0, 1) := by decide +kernel
theorem dX7_refusedMost_21 : decode cX7_refusedMost 21 = .ok (.getfield 7, 3) := by decide +kernel
theorem dX7_refusedMost_24 : decode cX7_refusedMost 24 = .ok (.iload_n 1, 1) := by decide +kernel
theorem dX7_refusedMost_25 : decode cX7_refusedMost 25 = .ok (.iconst 1, 1) := by decide +kernel
theorem dX7_refusedMost_26 : decode cX7_refusedMost 26 = .ok (.invokestatic 25, 3) := by decide +kernel
theorem dX7_refusedMost_29 : decode cX7_refusedMost 29 = .ok (.iaload, 1) := by decide +kernel
theorem dX7_refusedMost_30 : decode cX7_refusedMost 30 = .ok (.isub, 1) := by decide +kernel
theorem dX7_refusedMost_31 : decode cX7_refusedMost 31 = .ok (.istore_n 3, 1) := by decide +kernel
theorem dX7_refusedMost_32 : decode cX7_refusedMost 32 = .ok (.iload_n 3, 1) := by decide +kernel
theorem dX7_refusedMost_33 : decode cX7_refusedMost 33 = .ok (.ifCond .ne 27, 3) := by decide +kernel
theorem dX7_refusedMost_36 : decode cX7_refusedMost 36 = .ok (.aload_n 0, 1) := by decide +kernel
theorem dX7_refusedMost_37 : decode cX7_refusedMost 37 = .ok (.getfield 7, 3) := by decide +kernel
theorem dX7_refusedMost_40 : decode cX7_refusedMost 40 = .ok (.iload_n 2, 1) := by decide +kernel
theorem dX7_refusedMost_41 : decode cX7_refusedMost 41 = .ok (.iconst 0, 1) := by decide +kernel
theorem dX7_refusedMost_42 : decode cX7_refusedMost 42 = .ok (.invokestatic 25, 3) := by decide +kernel
theorem dX7_refusedMost_45 : decode cX7_refusedMost 45 = .ok (.iaload, 1) := by decide +kernel
theorem dX7_refusedMost_46 : decode cX7_refusedMost 46 = .ok (.aload_n 0, 1) := by decide +kernel
theorem dX7_refusedMost_47 : decode cX7_refusedMost 47 = .ok (.getfield 7, 3) := by decide +kernel
theorem dX7_refusedMost_50 : decode cX7_refusedMost 50 = .ok (.iload_n 1, 1) := by decide +kernel
theorem dX7_refusedMost_51 : decode cX7_refusedMost 51 = .ok (.iconst 0, 1) := by decide +kernel
theorem dX7_refusedMost_52 : decode cX7_refusedMost 52 = .ok (.invokestatic 25, 3) := by decide +kernel
theorem dX7_refusedMost_55 : decode cX7_refusedMost 55 = .ok (.iaload, 1) := by decide +kernel
theorem dX7_refusedMost_56 : decode cX7_refusedMost 56 = .ok (.isub, 1) := by decide +kernel
theorem dX7_refusedMost_57 : decode cX7_refusedMost 57 = .ok (.goto 4, 3) := by decide +kernel
theorem dX7_refusedMost_60 : decode cX7_refusedMost 60 = .ok (.iload_n 3, 1) := by decide +kernel
theorem dX7_refusedMost_61 : decode cX7_refusedMost 61 = .ok (.istore_n 3, 1) := by decide +kernel
theorem dX7_refusedMost_62 : decode cX7_refusedMost 62 = .ok (.iload_n 3, 1) := by decide +kernel
theorem dX7_refusedMost_63 : decode cX7_refusedMost 63 = .ok (.ifCond .le 7, 3) := by decide +kernel
theorem dX7_refusedMost_66 : decode cX7_refusedMost 66 = .ok (.iload_n 2, 1) := by decide +kernel
theorem dX7_refusedMost_67 : decode cX7_refusedMost 67 = .ok (.goto 4, 3) := by decide +kernel
theorem dX7_refusedMost_70 : decode cX7_refusedMost 70 = .ok (.iload_n 1, 1) := by decide +kernel
theorem dX7_refusedMost_71 : decode cX7_refusedMost 71 = .ok (.istore_n 1, 1) := by decide +kernel
theorem dX7_refusedMost_72 : decode cX7_refusedMost 72 = .ok (.iinc 2 1, 3) := by decide +kernel
theorem dX7_refusedMost_75 : decode cX7_refusedMost 75 = .ok (.goto (-71), 3) := by decide +kernel
theorem dX7_refusedMost_78 : decode cX7_refusedMost 78 = .ok (.iload_n 1, 1) := by decide +kernel
theorem dX7_refusedMost_79 : decode cX7_refusedMost 79 = .ok (.ireturn, 1) := by decide +kernel
theorem dX7_poorest_0 : decode cX7_poorest 0 = .ok (.aload_n 0, 1) := by decide +kernel
theorem dX7_poorest_1 : decode cX7_poorest 1 = .ok (.iconst 0, 1) := by decide +kernel
theorem dX7_poorest_2 : decode cX7_poorest 2 = .ok (.putfield 29, 3) := by decide +kernel
theorem dX7_poorest_5 : decode cX7_poorest 5 = .ok (.aload_n 0, 1) := by decide +kernel
theorem dX7_poorest_6 : decode cX7_poorest 6 = .ok (.invokevirtual 164, 3) := by decide +kernel
theorem dX7_poorest_9 : decode cX7_poorest 9 = .ok (.ireturn, 1) := by decide +kernel
theorem dX7_share_0 : decode cX7_share 0 = .ok (.aload_n 0, 1) := by decide +kernel
theorem dX7_share_1 : decode cX7_share 1 = .ok (.invokevirtual 139, 3) := by decide +kernel
theorem dX7_share_4 : decode cX7_share 4 = .ok (.i2d, 1) := by decide +kernel
theorem dX7_share_5 : decode cX7_share 5 = .ok (.ldc2_w 167, 3) := by decide +kernel
theorem dX7_share_8 : decode cX7_share 8 = .ok (.ddiv, 1) := by decide +kernel
theorem dX7_share_9 : decode cX7_share 9 = .ok (.dreturn, 1) := by decide +kernel
theorem dX7_fullness_0 : decode cX7_fullness 0 = .ok (.aload_n 0, 1) := by decide +kernel
theorem dX7_fullness_1 : decode cX7_fullness 1 = .ok (.iconst 0, 1) := by decide +kernel
theorem dX7_fullness_2 : decode cX7_fullness 2 = .ok (.putfield 29, 3) := by decide +kernel
theorem dX7_fullness_5 : decode cX7_fullness 5 = .ok (.aload_n 0, 1) := by decide +kernel
theorem dX7_fullness_6 : decode cX7_fullness 6 = .ok (.invokevirtual 169, 3) := by decide +kernel
theorem dX7_fullness_9 : decode cX7_fullness 9 = .ok (.dreturn, 1) := by decide +kernel
theorem dX7_bitsOf_0 : decode cX7_bitsOf 0 = .ok (.dload_n 0, 1) := by decide +kernel
theorem dX7_bitsOf_1 : decode cX7_bitsOf 1 = .ok (.dconst 0, 1) := by decide +kernel
theorem dX7_bitsOf_2 : decode cX7_bitsOf 2 = .ok (.dcmp .l, 1) := by decide +kernel
theorem dX7_bitsOf_3 : decode cX7_bitsOf 3 = .ok (.ifCond .ne 5, 3) := by decide +kernel
theorem dX7_bitsOf_6 : decode cX7_bitsOf 6 = .ok (.lconst 0, 1) := by decide +kernel
theorem dX7_bitsOf_7 : decode cX7_bitsOf 7 = .ok (.lreturn, 1) := by decide +kernel
theorem dX7_bitsOf_8 : decode cX7_bitsOf 8 = .ok (.ldc2_w 173, 3) := by decide +kernel
theorem dX7_bitsOf_11 : decode cX7_bitsOf 11 = .ok (.lstore_n 2, 1) := by decide +kernel
theorem dX7_bitsOf_12 : decode cX7_bitsOf 12 = .ok (.dload_n 0, 1) := by decide +kernel
theorem dX7_bitsOf_13 : decode cX7_bitsOf 13 = .ok (.dstore 4, 2) := by decide +kernel
theorem dX7_bitsOf_15 : decode cX7_bitsOf 15 = .ok (.dload 4, 2) := by decide +kernel
theorem dX7_bitsOf_17 : decode cX7_bitsOf 17 = .ok (.dconst 1, 1) := by decide +kernel
theorem dX7_bitsOf_18 : decode cX7_bitsOf 18 = .ok (.dcmp .g, 1) := by decide +kernel
theorem dX7_bitsOf_19 : decode cX7_bitsOf 19 = .ok (.ifCond .ge 18, 3) := by decide +kernel
theorem dX7_bitsOf_22 : decode cX7_bitsOf 22 = .ok (.dload 4, 2) := by decide +kernel
theorem dX7_bitsOf_24 : decode cX7_bitsOf 24 = .ok (.ldc2_w 175, 3) := by decide +kernel
theorem dX7_bitsOf_27 : decode cX7_bitsOf 27 = .ok (.dmul, 1) := by decide +kernel
theorem dX7_bitsOf_28 : decode cX7_bitsOf 28 = .ok (.dstore 4, 2) := by decide +kernel
theorem dX7_bitsOf_30 : decode cX7_bitsOf 30 = .ok (.lload_n 2, 1) := by decide +kernel
theorem dX7_bitsOf_31 : decode cX7_bitsOf 31 = .ok (.lconst 1, 1) := by decide +kernel
theorem dX7_bitsOf_32 : decode cX7_bitsOf 32 = .ok (.lsub, 1) := by decide +kernel
theorem dX7_bitsOf_33 : decode cX7_bitsOf 33 = .ok (.lstore_n 2, 1) := by decide +kernel
theorem dX7_bitsOf_34 : decode cX7_bitsOf 34 = .ok (.goto (-19), 3) := by decide +kernel
theorem dX7_bitsOf_37 : decode cX7_bitsOf 37 = .ok (.lload_n 2, 1) := by decide +kernel
theorem dX7_bitsOf_38 : decode cX7_bitsOf 38 = .ok (.ldc2_w 177, 3) := by decide +kernel
theorem dX7_bitsOf_41 : decode cX7_bitsOf 41 = .ok (.lmul, 1) := by decide +kernel
theorem dX7_bitsOf_42 : decode cX7_bitsOf 42 = .ok (.dload 4, 2) := by decide +kernel
theorem dX7_bitsOf_44 : decode cX7_bitsOf 44 = .ok (.dconst 1, 1) := by decide +kernel
theorem dX7_bitsOf_45 : decode cX7_bitsOf 45 = .ok (.dsub, 1) := by decide +kernel
theorem dX7_bitsOf_46 : decode cX7_bitsOf 46 = .ok (.ldc2_w 179, 3) := by decide +kernel
theorem dX7_bitsOf_49 : decode cX7_bitsOf 49 = .ok (.dmul, 1) := by decide +kernel
theorem dX7_bitsOf_50 : decode cX7_bitsOf 50 = .ok (.d2l, 1) := by decide +kernel
theorem dX7_bitsOf_51 : decode cX7_bitsOf 51 = .ok (.ladd, 1) := by decide +kernel
theorem dX7_bitsOf_52 : decode cX7_bitsOf 52 = .ok (.lreturn, 1) := by decide +kernel
theorem dX7_digestOne_0 : decode cX7_digestOne 0 = .ok (.aload_n 0, 1) := by decide +kernel
theorem dX7_digestOne_1 : decode cX7_digestOne 1 = .ok (.ldc2_w 181, 3) := by decide +kernel
theorem dX7_digestOne_4 : decode cX7_digestOne 4 = .ok (.aload_n 0, 1) := by decide +kernel
theorem dX7_digestOne_5 : decode cX7_digestOne 5 = .ok (.getfield 183, 3) := by decide +kernel
theorem dX7_digestOne_8 : decode cX7_digestOne 8 = .ok (.lmul, 1) := by decide +kernel
theorem dX7_digestOne_9 : decode cX7_digestOne 9 = .ok (.lload_n 1, 1) := by decide +kernel
theorem dX7_digestOne_10 : decode cX7_digestOne 10 = .ok (.ladd, 1) := by decide +kernel
theorem dX7_digestOne_11 : decode cX7_digestOne 11 = .ok (.putfield 183, 3) := by decide +kernel
theorem dX7_digestOne_14 : decode cX7_digestOne 14 = .ok (.return_, 1) := by decide +kernel
theorem dX7_digestLodger_0 : decode cX7_digestLodger 0 = .ok (.iconst 0, 1) := by decide +kernel
theorem dX7_digestLodger_1 : decode cX7_digestLodger 1 = .ok (.istore_n 2, 1) := by decide +kernel
theorem dX7_digestLodger_2 : decode cX7_digestLodger 2 = .ok (.iload_n 2, 1) := by decide +kernel
theorem dX7_digestLodger_3 : decode cX7_digestLodger 3 = .ok (.bipush 7, 2) := by decide +kernel
theorem dX7_digestLodger_5 : decode cX7_digestLodger 5 = .ok (.if_icmp .ge 20, 3) := by decide +kernel
theorem dX7_digestLodger_8 : decode cX7_digestLodger 8 = .ok (.aload_n 0, 1) := by decide +kernel
theorem dX7_digestLodger_9 : decode cX7_digestLodger 9 = .ok (.aload_n 0, 1) := by decide +kernel
theorem dX7_digestLodger_10 : decode cX7_digestLodger 10 = .ok (.iload_n 1, 1) := by decide +kernel
theorem dX7_digestLodger_11 : decode cX7_digestLodger 11 = .ok (.iload_n 2, 1) := by decide +kernel
theorem dX7_digestLodger_12 : decode cX7_digestLodger 12 = .ok (.invokevirtual 146, 3) := by decide +kernel
theorem dX7_digestLodger_15 : decode cX7_digestLodger 15 = .ok (.i2l, 1) := by decide +kernel
theorem dX7_digestLodger_16 : decode cX7_digestLodger 16 = .ok (.invokevirtual 187, 3) := by decide +kernel
theorem dX7_digestLodger_19 : decode cX7_digestLodger 19 = .ok (.iinc 2 1, 3) := by decide +kernel
theorem dX7_digestLodger_22 : decode cX7_digestLodger 22 = .ok (.goto (-20), 3) := by decide +kernel
theorem dX7_digestLodger_25 : decode cX7_digestLodger 25 = .ok (.aload_n 0, 1) := by decide +kernel
theorem dX7_digestLodger_26 : decode cX7_digestLodger 26 = .ok (.aload_n 0, 1) := by decide +kernel
theorem dX7_digestLodger_27 : decode cX7_digestLodger 27 = .ok (.iload_n 1, 1) := by decide +kernel
theorem dX7_digestLodger_28 : decode cX7_digestLodger 28 = .ok (.iconst 0, 1) := by decide +kernel
theorem dX7_digestLodger_29 : decode cX7_digestLodger 29 = .ok (.invokevirtual 161, 3) := by decide +kernel
theorem dX7_digestLodger_32 : decode cX7_digestLodger 32 = .ok (.i2l, 1) := by decide +kernel
theorem dX7_digestLodger_33 : decode cX7_digestLodger 33 = .ok (.invokevirtual 187, 3) := by decide +kernel
theorem dX7_digestLodger_36 : decode cX7_digestLodger 36 = .ok (.aload_n 0, 1) := by decide +kernel
theorem dX7_digestLodger_37 : decode cX7_digestLodger 37 = .ok (.aload_n 0, 1) := by decide +kernel
theorem dX7_digestLodger_38 : decode cX7_digestLodger 38 = .ok (.iload_n 1, 1) := by decide +kernel
theorem dX7_digestLodger_39 : decode cX7_digestLodger 39 = .ok (.bipush 6, 2) := by decide +kernel
theorem dX7_digestLodger_41 : decode cX7_digestLodger 41 = .ok (.invokevirtual 161, 3) := by decide +kernel
theorem dX7_digestLodger_44 : decode cX7_digestLodger 44 = .ok (.i2l, 1) := by decide +kernel
theorem dX7_digestLodger_45 : decode cX7_digestLodger 45 = .ok (.invokevirtual 187, 3) := by decide +kernel
theorem dX7_digestLodger_48 : decode cX7_digestLodger 48 = .ok (.aload_n 0, 1) := by decide +kernel
theorem dX7_digestLodger_49 : decode cX7_digestLodger 49 = .ok (.aload_n 0, 1) := by decide +kernel
theorem dX7_digestLodger_50 : decode cX7_digestLodger 50 = .ok (.iload_n 1, 1) := by decide +kernel
theorem dX7_digestLodger_51 : decode cX7_digestLodger 51 = .ok (.bipush 8, 2) := by decide +kernel
theorem dX7_digestLodger_53 : decode cX7_digestLodger 53 = .ok (.iconst 3, 1) := by decide +kernel
theorem dX7_digestLodger_54 : decode cX7_digestLodger 54 = .ok (.invokevirtual 155, 3) := by decide +kernel
theorem dX7_digestLodger_57 : decode cX7_digestLodger 57 = .ok (.i2l, 1) := by decide +kernel
theorem dX7_digestLodger_58 : decode cX7_digestLodger 58 = .ok (.invokevirtual 187, 3) := by decide +kernel
theorem dX7_digestLodger_61 : decode cX7_digestLodger 61 = .ok (.aload_n 0, 1) := by decide +kernel
theorem dX7_digestLodger_62 : decode cX7_digestLodger 62 = .ok (.aload_n 0, 1) := by decide +kernel
theorem dX7_digestLodger_63 : decode cX7_digestLodger 63 = .ok (.getfield 60, 3) := by decide +kernel
theorem dX7_digestLodger_66 : decode cX7_digestLodger 66 = .ok (.i2l, 1) := by decide +kernel
theorem dX7_digestLodger_67 : decode cX7_digestLodger 67 = .ok (.invokevirtual 187, 3) := by decide +kernel
theorem dX7_digestLodger_70 : decode cX7_digestLodger 70 = .ok (.return_, 1) := by decide +kernel
theorem dX7_digest_0 : decode cX7_digest 0 = .ok (.aload_n 0, 1) := by decide +kernel
theorem dX7_digest_1 : decode cX7_digest 1 = .ok (.iconst 0, 1) := by decide +kernel
theorem dX7_digest_2 : decode cX7_digest 2 = .ok (.putfield 29, 3) := by decide +kernel
theorem dX7_digest_5 : decode cX7_digest 5 = .ok (.aload_n 0, 1) := by decide +kernel
theorem dX7_digest_6 : decode cX7_digest 6 = .ok (.ldc2_w 191, 3) := by decide +kernel
theorem dX7_digest_9 : decode cX7_digest 9 = .ok (.putfield 183, 3) := by decide +kernel
theorem dX7_digest_12 : decode cX7_digest 12 = .ok (.iconst 0, 1) := by decide +kernel
theorem dX7_digest_13 : decode cX7_digest 13 = .ok (.istore_n 1, 1) := by decide +kernel
theorem dX7_digest_14 : decode cX7_digest 14 = .ok (.iload_n 1, 1) := by decide +kernel
theorem dX7_digest_15 : decode cX7_digest 15 = .ok (.bipush 12, 2) := by decide +kernel
theorem dX7_digest_17 : decode cX7_digest 17 = .ok (.if_icmp .ge 19, 3) := by decide +kernel
theorem dX7_digest_20 : decode cX7_digest 20 = .ok (.aload_n 0, 1) := by decide +kernel
theorem dX7_digest_21 : decode cX7_digest 21 = .ok (.aload_n 0, 1) := by decide +kernel
theorem dX7_digest_22 : decode cX7_digest 22 = .ok (.iload_n 1, 1) := by decide +kernel
theorem dX7_digest_23 : decode cX7_digest 23 = .ok (.invokevirtual 152, 3) := by decide +kernel
theorem dX7_digest_26 : decode cX7_digest 26 = .ok (.i2l, 1) := by decide +kernel
theorem dX7_digest_27 : decode cX7_digest 27 = .ok (.invokevirtual 187, 3) := by decide +kernel
theorem dX7_digest_30 : decode cX7_digest 30 = .ok (.iinc 1 1, 3) := by decide +kernel
theorem dX7_digest_33 : decode cX7_digest 33 = .ok (.goto (-19), 3) := by decide +kernel
theorem dX7_digest_36 : decode cX7_digest 36 = .ok (.iconst 0, 1) := by decide +kernel
theorem dX7_digest_37 : decode cX7_digest 37 = .ok (.istore_n 1, 1) := by decide +kernel
theorem dX7_digest_38 : decode cX7_digest 38 = .ok (.iload_n 1, 1) := by decide +kernel
theorem dX7_digest_39 : decode cX7_digest 39 = .ok (.iconst 4, 1) := by decide +kernel
theorem dX7_digest_40 : decode cX7_digest 40 = .ok (.if_icmp .ge 23, 3) := by decide +kernel
theorem dX7_digest_43 : decode cX7_digest 43 = .ok (.aload_n 0, 1) := by decide +kernel
theorem dX7_digest_44 : decode cX7_digest 44 = .ok (.aload_n 0, 1) := by decide +kernel
theorem dX7_digest_45 : decode cX7_digest 45 = .ok (.getfield 7, 3) := by decide +kernel
theorem dX7_digest_48 : decode cX7_digest 48 = .ok (.bipush 111, 2) := by decide +kernel
theorem dX7_digest_50 : decode cX7_digest 50 = .ok (.iload_n 1, 1) := by decide +kernel
theorem dX7_digest_51 : decode cX7_digest 51 = .ok (.iadd, 1) := by decide +kernel
theorem dX7_digest_52 : decode cX7_digest 52 = .ok (.iaload, 1) := by decide +kernel
theorem dX7_digest_53 : decode cX7_digest 53 = .ok (.i2l, 1) := by decide +kernel
theorem dX7_digest_54 : decode cX7_digest 54 = .ok (.invokevirtual 187, 3) := by decide +kernel
theorem dX7_digest_57 : decode cX7_digest 57 = .ok (.iinc 1 1, 3) := by decide +kernel
theorem dX7_digest_60 : decode cX7_digest 60 = .ok (.goto (-22), 3) := by decide +kernel
theorem dX7_digest_63 : decode cX7_digest 63 = .ok (.iconst 0, 1) := by decide +kernel
theorem dX7_digest_64 : decode cX7_digest 64 = .ok (.istore_n 1, 1) := by decide +kernel
theorem dX7_digest_65 : decode cX7_digest 65 = .ok (.iload_n 1, 1) := by decide +kernel
theorem dX7_digest_66 : decode cX7_digest 66 = .ok (.bipush 48, 2) := by decide +kernel
theorem dX7_digest_68 : decode cX7_digest 68 = .ok (.if_icmp .ge 23, 3) := by decide +kernel
theorem dX7_digest_71 : decode cX7_digest 71 = .ok (.aload_n 0, 1) := by decide +kernel
theorem dX7_digest_72 : decode cX7_digest 72 = .ok (.aload_n 0, 1) := by decide +kernel
theorem dX7_digest_73 : decode cX7_digest 73 = .ok (.getfield 7, 3) := by decide +kernel
theorem dX7_digest_76 : decode cX7_digest 76 = .ok (.bipush 60, 2) := by decide +kernel
theorem dX7_digest_78 : decode cX7_digest 78 = .ok (.iload_n 1, 1) := by decide +kernel
theorem dX7_digest_79 : decode cX7_digest 79 = .ok (.iadd, 1) := by decide +kernel
theorem dX7_digest_80 : decode cX7_digest 80 = .ok (.iaload, 1) := by decide +kernel
theorem dX7_digest_81 : decode cX7_digest 81 = .ok (.i2l, 1) := by decide +kernel
theorem dX7_digest_82 : decode cX7_digest 82 = .ok (.invokevirtual 187, 3) := by decide +kernel
theorem dX7_digest_85 : decode cX7_digest 85 = .ok (.iinc 1 1, 3) := by decide +kernel
theorem dX7_digest_88 : decode cX7_digest 88 = .ok (.goto (-23), 3) := by decide +kernel
theorem dX7_digest_91 : decode cX7_digest 91 = .ok (.iconst 0, 1) := by decide +kernel
theorem dX7_digest_92 : decode cX7_digest 92 = .ok (.istore_n 1, 1) := by decide +kernel
theorem dX7_digest_93 : decode cX7_digest 93 = .ok (.iload_n 1, 1) := by decide +kernel
theorem dX7_digest_94 : decode cX7_digest 94 = .ok (.bipush 10, 2) := by decide +kernel
theorem dX7_digest_96 : decode cX7_digest 96 = .ok (.if_icmp .ge 14, 3) := by decide +kernel
theorem dX7_digest_99 : decode cX7_digest 99 = .ok (.aload_n 0, 1) := by decide +kernel
theorem dX7_digest_100 : decode cX7_digest 100 = .ok (.iload_n 1, 1) := by decide +kernel
theorem dX7_digest_101 : decode cX7_digest 101 = .ok (.invokevirtual 193, 3) := by decide +kernel
theorem dX7_digest_104 : decode cX7_digest 104 = .ok (.iinc 1 1, 3) := by decide +kernel
theorem dX7_digest_107 : decode cX7_digest 107 = .ok (.goto (-14), 3) := by decide +kernel
theorem dX7_digest_110 : decode cX7_digest 110 = .ok (.aload_n 0, 1) := by decide +kernel
theorem dX7_digest_111 : decode cX7_digest 111 = .ok (.aload_n 0, 1) := by decide +kernel
theorem dX7_digest_112 : decode cX7_digest 112 = .ok (.invokevirtual 158, 3) := by decide +kernel
theorem dX7_digest_115 : decode cX7_digest 115 = .ok (.i2l, 1) := by decide +kernel
theorem dX7_digest_116 : decode cX7_digest 116 = .ok (.invokevirtual 187, 3) := by decide +kernel
theorem dX7_digest_119 : decode cX7_digest 119 = .ok (.aload_n 0, 1) := by decide +kernel
theorem dX7_digest_120 : decode cX7_digest 120 = .ok (.aload_n 0, 1) := by decide +kernel
theorem dX7_digest_121 : decode cX7_digest 121 = .ok (.invokevirtual 158, 3) := by decide +kernel
theorem dX7_digest_124 : decode cX7_digest 124 = .ok (.i2l, 1) := by decide +kernel
theorem dX7_digest_125 : decode cX7_digest 125 = .ok (.invokevirtual 187, 3) := by decide +kernel
theorem dX7_digest_128 : decode cX7_digest 128 = .ok (.aload_n 0, 1) := by decide +kernel
theorem dX7_digest_129 : decode cX7_digest 129 = .ok (.aload_n 0, 1) := by decide +kernel
theorem dX7_digest_130 : decode cX7_digest 130 = .ok (.invokevirtual 164, 3) := by decide +kernel
theorem dX7_digest_133 : decode cX7_digest 133 = .ok (.i2l, 1) := by decide +kernel
theorem dX7_digest_134 : decode cX7_digest 134 = .ok (.invokevirtual 187, 3) := by decide +kernel
theorem dX7_digest_137 : decode cX7_digest 137 = .ok (.aload_n 0, 1) := by decide +kernel
theorem dX7_digest_138 : decode cX7_digest 138 = .ok (.aload_n 0, 1) := by decide +kernel
theorem dX7_digest_139 : decode cX7_digest 139 = .ok (.invokevirtual 169, 3) := by decide +kernel
theorem dX7_digest_142 : decode cX7_digest 142 = .ok (.invokestatic 197, 3) := by decide +kernel
theorem dX7_digest_145 : decode cX7_digest 145 = .ok (.invokevirtual 187, 3) := by decide +kernel
theorem dX7_digest_148 : decode cX7_digest 148 = .ok (.aload_n 0, 1) := by decide +kernel
theorem dX7_digest_149 : decode cX7_digest 149 = .ok (.aload_n 0, 1) := by decide +kernel
theorem dX7_digest_150 : decode cX7_digest 150 = .ok (.getfield 136, 3) := by decide +kernel
theorem dX7_digest_153 : decode cX7_digest 153 = .ok (.iconst 1, 1) := by decide +kernel
theorem dX7_digest_154 : decode cX7_digest 154 = .ok (.iand, 1) := by decide +kernel
theorem dX7_digest_155 : decode cX7_digest 155 = .ok (.i2l, 1) := by decide +kernel
theorem dX7_digest_156 : decode cX7_digest 156 = .ok (.invokevirtual 187, 3) := by decide +kernel
theorem dX7_digest_159 : decode cX7_digest 159 = .ok (.aload_n 0, 1) := by decide +kernel
theorem dX7_digest_160 : decode cX7_digest 160 = .ok (.aload_n 0, 1) := by decide +kernel
theorem dX7_digest_161 : decode cX7_digest 161 = .ok (.getfield 136, 3) := by decide +kernel
theorem dX7_digest_164 : decode cX7_digest 164 = .ok (.iconst 1, 1) := by decide +kernel
theorem dX7_digest_165 : decode cX7_digest 165 = .ok (.ishr, 1) := by decide +kernel
theorem dX7_digest_166 : decode cX7_digest 166 = .ok (.iconst 1, 1) := by decide +kernel
theorem dX7_digest_167 : decode cX7_digest 167 = .ok (.iand, 1) := by decide +kernel
theorem dX7_digest_168 : decode cX7_digest 168 = .ok (.i2l, 1) := by decide +kernel
theorem dX7_digest_169 : decode cX7_digest 169 = .ok (.invokevirtual 187, 3) := by decide +kernel
theorem dX7_digest_172 : decode cX7_digest 172 = .ok (.aload_n 0, 1) := by decide +kernel
theorem dX7_digest_173 : decode cX7_digest 173 = .ok (.aload_n 0, 1) := by decide +kernel
theorem dX7_digest_174 : decode cX7_digest 174 = .ok (.getfield 97, 3) := by decide +kernel
theorem dX7_digest_177 : decode cX7_digest 177 = .ok (.i2l, 1) := by decide +kernel
theorem dX7_digest_178 : decode cX7_digest 178 = .ok (.invokevirtual 187, 3) := by decide +kernel
theorem dX7_digest_181 : decode cX7_digest 181 = .ok (.iconst 0, 1) := by decide +kernel
theorem dX7_digest_182 : decode cX7_digest 182 = .ok (.istore_n 1, 1) := by decide +kernel
theorem dX7_digest_183 : decode cX7_digest 183 = .ok (.iload_n 1, 1) := by decide +kernel
theorem dX7_digest_184 : decode cX7_digest 184 = .ok (.aload_n 0, 1) := by decide +kernel
theorem dX7_digest_185 : decode cX7_digest 185 = .ok (.getfield 97, 3) := by decide +kernel
theorem dX7_digest_188 : decode cX7_digest 188 = .ok (.if_icmp .ge 20, 3) := by decide +kernel
theorem dX7_digest_191 : decode cX7_digest 191 = .ok (.aload_n 0, 1) := by decide +kernel
theorem dX7_digest_192 : decode cX7_digest 192 = .ok (.aload_n 0, 1) := by decide +kernel
theorem dX7_digest_193 : decode cX7_digest 193 = .ok (.getfield 22, 3) := by decide +kernel
theorem dX7_digest_196 : decode cX7_digest 196 = .ok (.iload_n 1, 1) := by decide +kernel
theorem dX7_digest_197 : decode cX7_digest 197 = .ok (.iaload, 1) := by decide +kernel
theorem dX7_digest_198 : decode cX7_digest 198 = .ok (.i2l, 1) := by decide +kernel
theorem dX7_digest_199 : decode cX7_digest 199 = .ok (.invokevirtual 187, 3) := by decide +kernel
theorem dX7_digest_202 : decode cX7_digest 202 = .ok (.iinc 1 1, 3) := by decide +kernel
theorem dX7_digest_205 : decode cX7_digest 205 = .ok (.goto (-22), 3) := by decide +kernel
theorem dX7_digest_208 : decode cX7_digest 208 = .ok (.aload_n 0, 1) := by decide +kernel
theorem dX7_digest_209 : decode cX7_digest 209 = .ok (.getfield 183, 3) := by decide +kernel
theorem dX7_digest_212 : decode cX7_digest 212 = .ok (.lreturn, 1) := by decide +kernel
theorem dJ6_bitCount_0f7a4_0 : decode cJ6_bitCount_0f7a4 0 = .ok (.iload_n 0, 1) := by decide +kernel
theorem dJ6_bitCount_0f7a4_1 : decode cJ6_bitCount_0f7a4 1 = .ok (.iload_n 0, 1) := by decide +kernel
theorem dJ6_bitCount_0f7a4_2 : decode cJ6_bitCount_0f7a4 2 = .ok (.iconst 1, 1) := by decide +kernel
theorem dJ6_bitCount_0f7a4_3 : decode cJ6_bitCount_0f7a4 3 = .ok (.iushr, 1) := by decide +kernel
theorem dJ6_bitCount_0f7a4_4 : decode cJ6_bitCount_0f7a4 4 = .ok (.ldc_w 265, 3) := by decide +kernel
theorem dJ6_bitCount_0f7a4_7 : decode cJ6_bitCount_0f7a4 7 = .ok (.iand, 1) := by decide +kernel
theorem dJ6_bitCount_0f7a4_8 : decode cJ6_bitCount_0f7a4 8 = .ok (.isub, 1) := by decide +kernel
theorem dJ6_bitCount_0f7a4_9 : decode cJ6_bitCount_0f7a4 9 = .ok (.istore_n 0, 1) := by decide +kernel
theorem dJ6_bitCount_0f7a4_10 : decode cJ6_bitCount_0f7a4 10 = .ok (.iload_n 0, 1) := by decide +kernel
theorem dJ6_bitCount_0f7a4_11 : decode cJ6_bitCount_0f7a4 11 = .ok (.ldc_w 266, 3) := by decide +kernel
theorem dJ6_bitCount_0f7a4_14 : decode cJ6_bitCount_0f7a4 14 = .ok (.iand, 1) := by decide +kernel
theorem dJ6_bitCount_0f7a4_15 : decode cJ6_bitCount_0f7a4 15 = .ok (.iload_n 0, 1) := by decide +kernel
theorem dJ6_bitCount_0f7a4_16 : decode cJ6_bitCount_0f7a4 16 = .ok (.iconst 2, 1) := by decide +kernel
theorem dJ6_bitCount_0f7a4_17 : decode cJ6_bitCount_0f7a4 17 = .ok (.iushr, 1) := by decide +kernel
theorem dJ6_bitCount_0f7a4_18 : decode cJ6_bitCount_0f7a4 18 = .ok (.ldc_w 266, 3) := by decide +kernel
theorem dJ6_bitCount_0f7a4_21 : decode cJ6_bitCount_0f7a4 21 = .ok (.iand, 1) := by decide +kernel
theorem dJ6_bitCount_0f7a4_22 : decode cJ6_bitCount_0f7a4 22 = .ok (.iadd, 1) := by decide +kernel
theorem dJ6_bitCount_0f7a4_23 : decode cJ6_bitCount_0f7a4 23 = .ok (.istore_n 0, 1) := by decide +kernel
theorem dJ6_bitCount_0f7a4_24 : decode cJ6_bitCount_0f7a4 24 = .ok (.iload_n 0, 1) := by decide +kernel
theorem dJ6_bitCount_0f7a4_25 : decode cJ6_bitCount_0f7a4 25 = .ok (.iload_n 0, 1) := by decide +kernel
theorem dJ6_bitCount_0f7a4_26 : decode cJ6_bitCount_0f7a4 26 = .ok (.iconst 4, 1) := by decide +kernel
theorem dJ6_bitCount_0f7a4_27 : decode cJ6_bitCount_0f7a4 27 = .ok (.iushr, 1) := by decide +kernel
theorem dJ6_bitCount_0f7a4_28 : decode cJ6_bitCount_0f7a4 28 = .ok (.iadd, 1) := by decide +kernel
theorem dJ6_bitCount_0f7a4_29 : decode cJ6_bitCount_0f7a4 29 = .ok (.ldc_w 267, 3) := by decide +kernel
theorem dJ6_bitCount_0f7a4_32 : decode cJ6_bitCount_0f7a4 32 = .ok (.iand, 1) := by decide +kernel
theorem dJ6_bitCount_0f7a4_33 : decode cJ6_bitCount_0f7a4 33 = .ok (.istore_n 0, 1) := by decide +kernel
theorem dJ6_bitCount_0f7a4_34 : decode cJ6_bitCount_0f7a4 34 = .ok (.iload_n 0, 1) := by decide +kernel
theorem dJ6_bitCount_0f7a4_35 : decode cJ6_bitCount_0f7a4 35 = .ok (.iload_n 0, 1) := by decide +kernel
theorem dJ6_bitCount_0f7a4_36 : decode cJ6_bitCount_0f7a4 36 = .ok (.bipush 8, 2) := by decide +kernel
theorem dJ6_bitCount_0f7a4_38 : decode cJ6_bitCount_0f7a4 38 = .ok (.iushr, 1) := by decide +kernel
theorem dJ6_bitCount_0f7a4_39 : decode cJ6_bitCount_0f7a4 39 = .ok (.iadd, 1) := by decide +kernel
theorem dJ6_bitCount_0f7a4_40 : decode cJ6_bitCount_0f7a4 40 = .ok (.istore_n 0, 1) := by decide +kernel
theorem dJ6_bitCount_0f7a4_41 : decode cJ6_bitCount_0f7a4 41 = .ok (.iload_n 0, 1) := by decide +kernel
theorem dJ6_bitCount_0f7a4_42 : decode cJ6_bitCount_0f7a4 42 = .ok (.iload_n 0, 1) := by decide +kernel
theorem dJ6_bitCount_0f7a4_43 : decode cJ6_bitCount_0f7a4 43 = .ok (.bipush 16, 2) := by decide +kernel
theorem dJ6_bitCount_0f7a4_45 : decode cJ6_bitCount_0f7a4 45 = .ok (.iushr, 1) := by decide +kernel
theorem dJ6_bitCount_0f7a4_46 : decode cJ6_bitCount_0f7a4 46 = .ok (.iadd, 1) := by decide +kernel
theorem dJ6_bitCount_0f7a4_47 : decode cJ6_bitCount_0f7a4 47 = .ok (.istore_n 0, 1) := by decide +kernel
theorem dJ6_bitCount_0f7a4_48 : decode cJ6_bitCount_0f7a4 48 = .ok (.iload_n 0, 1) := by decide +kernel
theorem dJ6_bitCount_0f7a4_49 : decode cJ6_bitCount_0f7a4 49 = .ok (.bipush 63, 2) := by decide +kernel
theorem dJ6_bitCount_0f7a4_51 : decode cJ6_bitCount_0f7a4 51 = .ok (.iand, 1) := by decide +kernel
theorem dJ6_bitCount_0f7a4_52 : decode cJ6_bitCount_0f7a4 52 = .ok (.ireturn, 1) := by decide +kernel
theorem dJ9_max_7cf53_0 : decode cJ9_max_7cf53 0 = .ok (.iload_n 0, 1) := by decide +kernel
theorem dJ9_max_7cf53_1 : decode cJ9_max_7cf53 1 = .ok (.iload_n 1, 1) := by decide +kernel
theorem dJ9_max_7cf53_2 : decode cJ9_max_7cf53 2 = .ok (.if_icmp .lt 7, 3) := by decide +kernel
theorem dJ9_max_7cf53_5 : decode cJ9_max_7cf53 5 = .ok (.iload_n 0, 1) := by decide +kernel
theorem dJ9_max_7cf53_6 : decode cJ9_max_7cf53 6 = .ok (.goto 4, 3) := by decide +kernel
theorem dJ9_max_7cf53_9 : decode cJ9_max_7cf53 9 = .ok (.iload_n 1, 1) := by decide +kernel
theorem dJ9_max_7cf53_10 : decode cJ9_max_7cf53 10 = .ok (.ireturn, 1) := by decide +kernel
theorem dJ9_min_7cf53_0 : decode cJ9_min_7cf53 0 = .ok (.iload_n 0, 1) := by decide +kernel
theorem dJ9_min_7cf53_1 : decode cJ9_min_7cf53 1 = .ok (.iload_n 1, 1) := by decide +kernel
theorem dJ9_min_7cf53_2 : decode cJ9_min_7cf53 2 = .ok (.if_icmp .gt 7, 3) := by decide +kernel
theorem dJ9_min_7cf53_5 : decode cJ9_min_7cf53 5 = .ok (.iload_n 0, 1) := by decide +kernel
theorem dJ9_min_7cf53_6 : decode cJ9_min_7cf53 6 = .ok (.goto 4, 3) := by decide +kernel
theorem dJ9_min_7cf53_9 : decode cJ9_min_7cf53 9 = .ok (.iload_n 1, 1) := by decide +kernel
theorem dJ9_min_7cf53_10 : decode cJ9_min_7cf53 10 = .ok (.ireturn, 1) := by decide +kernel
theorem dJ7_fill_53178_0 : decode cJ7_fill_53178 0 = .ok (.iconst 0, 1) := by decide +kernel
theorem dJ7_fill_53178_1 : decode cJ7_fill_53178 1 = .ok (.istore_n 2, 1) := by decide +kernel
theorem dJ7_fill_53178_2 : decode cJ7_fill_53178 2 = .ok (.aload_n 0, 1) := by decide +kernel
theorem dJ7_fill_53178_3 : decode cJ7_fill_53178 3 = .ok (.arraylength, 1) := by decide +kernel
theorem dJ7_fill_53178_4 : decode cJ7_fill_53178 4 = .ok (.istore_n 3, 1) := by decide +kernel
theorem dJ7_fill_53178_5 : decode cJ7_fill_53178 5 = .ok (.iload_n 2, 1) := by decide +kernel
theorem dJ7_fill_53178_6 : decode cJ7_fill_53178 6 = .ok (.iload_n 3, 1) := by decide +kernel
theorem dJ7_fill_53178_7 : decode cJ7_fill_53178 7 = .ok (.if_icmp .ge 13, 3) := by decide +kernel
theorem dJ7_fill_53178_10 : decode cJ7_fill_53178 10 = .ok (.aload_n 0, 1) := by decide +kernel
theorem dJ7_fill_53178_11 : decode cJ7_fill_53178 11 = .ok (.iload_n 2, 1) := by decide +kernel
theorem dJ7_fill_53178_12 : decode cJ7_fill_53178 12 = .ok (.iload_n 1, 1) := by decide +kernel
theorem dJ7_fill_53178_13 : decode cJ7_fill_53178 13 = .ok (.iastore, 1) := by decide +kernel
theorem dJ7_fill_53178_14 : decode cJ7_fill_53178 14 = .ok (.iinc 2 1, 3) := by decide +kernel
theorem dJ7_fill_53178_17 : decode cJ7_fill_53178 17 = .ok (.goto (-12), 3) := by decide +kernel
theorem dJ7_fill_53178_20 : decode cJ7_fill_53178 20 = .ok (.return_, 1) := by decide +kernel
theorem dL_ask_0 : decode cL_ask 0 = .ok (.aload 4, 2) := by decide +kernel
theorem dL_ask_2 : decode cL_ask 2 = .ok (.iconst 0, 1) := by decide +kernel
theorem dL_ask_3 : decode cL_ask 3 = .ok (.aload_n 0, 1) := by decide +kernel
theorem dL_ask_4 : decode cL_ask 4 = .ok (.iload_n 1, 1) := by decide +kernel
theorem dL_ask_5 : decode cL_ask 5 = .ok (.iload_n 2, 1) := by decide +kernel
theorem dL_ask_6 : decode cL_ask 6 = .ok (.iload_n 3, 1) := by decide +kernel
theorem dL_ask_7 : decode cL_ask 7 = .ok (.invokevirtual 7, 3) := by decide +kernel
theorem dL_ask_10 : decode cL_ask 10 = .ok (.i2l, 1) := by decide +kernel
theorem dL_ask_11 : decode cL_ask 11 = .ok (.lastore, 1) := by decide +kernel
theorem dL_ask_12 : decode cL_ask 12 = .ok (.goto 11, 3) := by decide +kernel
theorem dL_ask_15 : decode cL_ask 15 = .ok (.astore 5, 2) := by decide +kernel
theorem dL_ask_17 : decode cL_ask 17 = .ok (.iconst 1, 1) := by decide +kernel
theorem dL_ask_18 : decode cL_ask 18 = .ok (.ireturn, 1) := by decide +kernel
theorem dL_ask_19 : decode cL_ask 19 = .ok (.astore 5, 2) := by decide +kernel
theorem dL_ask_21 : decode cL_ask 21 = .ok (.iconst 2, 1) := by decide +kernel
theorem dL_ask_22 : decode cL_ask 22 = .ok (.ireturn, 1) := by decide +kernel
theorem dL_ask_23 : decode cL_ask 23 = .ok (.iconst 0, 1) := by decide +kernel
theorem dL_ask_24 : decode cL_ask 24 = .ok (.ireturn, 1) := by decide +kernel
theorem dL_giveBack_0 : decode cL_giveBack 0 = .ok (.aload_n 3, 1) := by decide +kernel
theorem dL_giveBack_1 : decode cL_giveBack 1 = .ok (.iconst 0, 1) := by decide +kernel
theorem dL_giveBack_2 : decode cL_giveBack 2 = .ok (.aload_n 0, 1) := by decide +kernel
theorem dL_giveBack_3 : decode cL_giveBack 3 = .ok (.iload_n 1, 1) := by decide +kernel
theorem dL_giveBack_4 : decode cL_giveBack 4 = .ok (.iload_n 2, 1) := by decide +kernel
theorem dL_giveBack_5 : decode cL_giveBack 5 = .ok (.invokevirtual 17, 3) := by decide +kernel
theorem dL_giveBack_8 : decode cL_giveBack 8 = .ok (.i2l, 1) := by decide +kernel
theorem dL_giveBack_9 : decode cL_giveBack 9 = .ok (.lastore, 1) := by decide +kernel
theorem dL_giveBack_10 : decode cL_giveBack 10 = .ok (.goto 11, 3) := by decide +kernel
theorem dL_giveBack_13 : decode cL_giveBack 13 = .ok (.astore 4, 2) := by decide +kernel
theorem dL_giveBack_15 : decode cL_giveBack 15 = .ok (.iconst 1, 1) := by decide +kernel
theorem dL_giveBack_16 : decode cL_giveBack 16 = .ok (.ireturn, 1) := by decide +kernel
theorem dL_giveBack_17 : decode cL_giveBack 17 = .ok (.astore 4, 2) := by decide +kernel
theorem dL_giveBack_19 : decode cL_giveBack 19 = .ok (.iconst 2, 1) := by decide +kernel
theorem dL_giveBack_20 : decode cL_giveBack 20 = .ok (.ireturn, 1) := by decide +kernel
theorem dL_giveBack_21 : decode cL_giveBack 21 = .ok (.iconst 0, 1) := by decide +kernel
theorem dL_giveBack_22 : decode cL_giveBack 22 = .ok (.ireturn, 1) := by decide +kernel
theorem dL_favour_0 : decode cL_favour 0 = .ok (.aload_n 2, 1) := by decide +kernel
theorem dL_favour_1 : decode cL_favour 1 = .ok (.iconst 0, 1) := by decide +kernel
theorem dL_favour_2 : decode cL_favour 2 = .ok (.aload_n 0, 1) := by decide +kernel
theorem dL_favour_3 : decode cL_favour 3 = .ok (.iload_n 1, 1) := by decide +kernel
theorem dL_favour_4 : decode cL_favour 4 = .ok (.invokevirtual 21, 3) := by decide +kernel
theorem dL_favour_7 : decode cL_favour 7 = .ok (.i2l, 1) := by decide +kernel
theorem dL_favour_8 : decode cL_favour 8 = .ok (.lastore, 1) := by decide +kernel
theorem dL_favour_9 : decode cL_favour 9 = .ok (.goto 6, 3) := by decide +kernel
theorem dL_favour_12 : decode cL_favour 12 = .ok (.astore_n 3, 1) := by decide +kernel
theorem dL_favour_13 : decode cL_favour 13 = .ok (.iconst 1, 1) := by decide +kernel
theorem dL_favour_14 : decode cL_favour 14 = .ok (.ireturn, 1) := by decide +kernel
theorem dL_favour_15 : decode cL_favour 15 = .ok (.iconst 0, 1) := by decide +kernel
theorem dL_favour_16 : decode cL_favour 16 = .ok (.ireturn, 1) := by decide +kernel
theorem dL_need_0 : decode cL_need 0 = .ok (.aload_n 3, 1) := by decide +kernel
theorem dL_need_1 : decode cL_need 1 = .ok (.iconst 0, 1) := by decide +kernel
theorem dL_need_2 : decode cL_need 2 = .ok (.aload_n 0, 1) := by decide +kernel
theorem dL_need_3 : decode cL_need 3 = .ok (.iload_n 1, 1) := by decide +kernel
theorem dL_need_4 : decode cL_need 4 = .ok (.iload_n 2, 1) := by decide +kernel
theorem dL_need_5 : decode cL_need 5 = .ok (.invokevirtual 25, 3) := by decide +kernel
theorem dL_need_8 : decode cL_need 8 = .ok (.i2l, 1) := by decide +kernel
theorem dL_need_9 : decode cL_need 9 = .ok (.lastore, 1) := by decide +kernel
theorem dL_need_10 : decode cL_need 10 = .ok (.goto 11, 3) := by decide +kernel
theorem dL_need_13 : decode cL_need 13 = .ok (.astore 4, 2) := by decide +kernel
theorem dL_need_15 : decode cL_need 15 = .ok (.iconst 1, 1) := by decide +kernel
theorem dL_need_16 : decode cL_need 16 = .ok (.ireturn, 1) := by decide +kernel
theorem dL_need_17 : decode cL_need 17 = .ok (.astore 4, 2) := by decide +kernel
theorem dL_need_19 : decode cL_need 19 = .ok (.iconst 2, 1) := by decide +kernel
theorem dL_need_20 : decode cL_need 20 = .ok (.ireturn, 1) := by decide +kernel
theorem dL_need_21 : decode cL_need 21 = .ok (.iconst 0, 1) := by decide +kernel
theorem dL_need_22 : decode cL_need 22 = .ok (.ireturn, 1) := by decide +kernel
theorem dL_pass_0 : decode cL_pass 0 = .ok (.aload_n 1, 1) := by decide +kernel
theorem dL_pass_1 : decode cL_pass 1 = .ok (.iconst 0, 1) := by decide +kernel
theorem dL_pass_2 : decode cL_pass 2 = .ok (.aload_n 0, 1) := by decide +kernel
theorem dL_pass_3 : decode cL_pass 3 = .ok (.invokevirtual 28, 3) := by decide +kernel
theorem dL_pass_6 : decode cL_pass 6 = .ok (.i2l, 1) := by decide +kernel
theorem dL_pass_7 : decode cL_pass 7 = .ok (.lastore, 1) := by decide +kernel
theorem dL_pass_8 : decode cL_pass 8 = .ok (.goto 6, 3) := by decide +kernel
theorem dL_pass_11 : decode cL_pass 11 = .ok (.astore_n 2, 1) := by decide +kernel
theorem dL_pass_12 : decode cL_pass 12 = .ok (.iconst 1, 1) := by decide +kernel
theorem dL_pass_13 : decode cL_pass 13 = .ok (.ireturn, 1) := by decide +kernel
theorem dL_pass_14 : decode cL_pass 14 = .ok (.iconst 0, 1) := by decide +kernel
theorem dL_pass_15 : decode cL_pass 15 = .ok (.ireturn, 1) := by decide +kernel
theorem dL_set_0 : decode cL_set 0 = .ok (.aload_n 2, 1) := by decide +kernel
theorem dL_set_1 : decode cL_set 1 = .ok (.iconst 0, 1) := by decide +kernel
theorem dL_set_2 : decode cL_set 2 = .ok (.aload_n 0, 1) := by decide +kernel
theorem dL_set_3 : decode cL_set 3 = .ok (.iload_n 1, 1) := by decide +kernel
theorem dL_set_4 : decode cL_set 4 = .ok (.invokevirtual 34, 3) := by decide +kernel
theorem dL_set_7 : decode cL_set 7 = .ok (.i2l, 1) := by decide +kernel
theorem dL_set_8 : decode cL_set 8 = .ok (.lastore, 1) := by decide +kernel
theorem dL_set_9 : decode cL_set 9 = .ok (.goto 6, 3) := by decide +kernel
theorem dL_set_12 : decode cL_set 12 = .ok (.astore_n 3, 1) := by decide +kernel
theorem dL_set_13 : decode cL_set 13 = .ok (.iconst 1, 1) := by decide +kernel
theorem dL_set_14 : decode cL_set 14 = .ok (.ireturn, 1) := by decide +kernel
theorem dL_set_15 : decode cL_set 15 = .ok (.iconst 0, 1) := by decide +kernel
theorem dL_set_16 : decode cL_set 16 = .ok (.ireturn, 1) := by decide +kernel
theorem dL_append_0 : decode cL_append 0 = .ok (.aload_n 2, 1) := by decide +kernel
theorem dL_append_1 : decode cL_append 1 = .ok (.iconst 0, 1) := by decide +kernel
theorem dL_append_2 : decode cL_append 2 = .ok (.aload_n 0, 1) := by decide +kernel
theorem dL_append_3 : decode cL_append 3 = .ok (.iload_n 1, 1) := by decide +kernel
theorem dL_append_4 : decode cL_append 4 = .ok (.invokevirtual 37, 3) := by decide +kernel
theorem dL_append_7 : decode cL_append 7 = .ok (.i2l, 1) := by decide +kernel
theorem dL_append_8 : decode cL_append 8 = .ok (.lastore, 1) := by decide +kernel
theorem dL_append_9 : decode cL_append 9 = .ok (.goto 9, 3) := by decide +kernel
theorem dL_append_12 : decode cL_append 12 = .ok (.astore_n 3, 1) := by decide +kernel
theorem dL_append_13 : decode cL_append 13 = .ok (.iconst 1, 1) := by decide +kernel
theorem dL_append_14 : decode cL_append 14 = .ok (.ireturn, 1) := by decide +kernel
theorem dL_append_15 : decode cL_append 15 = .ok (.astore_n 3, 1) := by decide +kernel
theorem dL_append_16 : decode cL_append 16 = .ok (.iconst 2, 1) := by decide +kernel
theorem dL_append_17 : decode cL_append 17 = .ok (.ireturn, 1) := by decide +kernel
theorem dL_append_18 : decode cL_append 18 = .ok (.iconst 0, 1) := by decide +kernel
theorem dL_append_19 : decode cL_append 19 = .ok (.ireturn, 1) := by decide +kernel
theorem dL_run_0 : decode cL_run 0 = .ok (.aload_n 1, 1) := by decide +kernel
theorem dL_run_1 : decode cL_run 1 = .ok (.iconst 0, 1) := by decide +kernel
theorem dL_run_2 : decode cL_run 2 = .ok (.aload_n 0, 1) := by decide +kernel
theorem dL_run_3 : decode cL_run 3 = .ok (.invokevirtual 40, 3) := by decide +kernel
theorem dL_run_6 : decode cL_run 6 = .ok (.i2l, 1) := by decide +kernel
theorem dL_run_7 : decode cL_run 7 = .ok (.lastore, 1) := by decide +kernel
theorem dL_run_8 : decode cL_run 8 = .ok (.goto 6, 3) := by decide +kernel
theorem dL_run_11 : decode cL_run 11 = .ok (.astore_n 2, 1) := by decide +kernel
theorem dL_run_12 : decode cL_run 12 = .ok (.iconst 1, 1) := by decide +kernel
theorem dL_run_13 : decode cL_run 13 = .ok (.ireturn, 1) := by decide +kernel
theorem dL_run_14 : decode cL_run 14 = .ok (.iconst 0, 1) := by decide +kernel
theorem dL_run_15 : decode cL_run 15 = .ok (.ireturn, 1) := by decide +kernel
theorem dL_keep_0 : decode cL_keep 0 = .ok (.aload_n 2, 1) := by decide +kernel
theorem dL_keep_1 : decode cL_keep 1 = .ok (.iconst 0, 1) := by decide +kernel
theorem dL_keep_2 : decode cL_keep 2 = .ok (.aload_n 0, 1) := by decide +kernel
theorem dL_keep_3 : decode cL_keep 3 = .ok (.iload_n 1, 1) := by decide +kernel
theorem dL_keep_4 : decode cL_keep 4 = .ok (.invokevirtual 43, 3) := by decide +kernel
theorem dL_keep_7 : decode cL_keep 7 = .ok (.i2l, 1) := by decide +kernel
theorem dL_keep_8 : decode cL_keep 8 = .ok (.lastore, 1) := by decide +kernel
theorem dL_keep_9 : decode cL_keep 9 = .ok (.goto 6, 3) := by decide +kernel
theorem dL_keep_12 : decode cL_keep 12 = .ok (.astore_n 3, 1) := by decide +kernel
theorem dL_keep_13 : decode cL_keep 13 = .ok (.iconst 1, 1) := by decide +kernel
theorem dL_keep_14 : decode cL_keep 14 = .ok (.ireturn, 1) := by decide +kernel
theorem dL_keep_15 : decode cL_keep 15 = .ok (.iconst 0, 1) := by decide +kernel
theorem dL_keep_16 : decode cL_keep 16 = .ok (.ireturn, 1) := by decide +kernel
theorem dL_goBack_0 : decode cL_goBack 0 = .ok (.aload_n 2, 1) := by decide +kernel
theorem dL_goBack_1 : decode cL_goBack 1 = .ok (.iconst 0, 1) := by decide +kernel
theorem dL_goBack_2 : decode cL_goBack 2 = .ok (.aload_n 0, 1) := by decide +kernel
theorem dL_goBack_3 : decode cL_goBack 3 = .ok (.iload_n 1, 1) := by decide +kernel
theorem dL_goBack_4 : decode cL_goBack 4 = .ok (.invokevirtual 46, 3) := by decide +kernel
theorem dL_goBack_7 : decode cL_goBack 7 = .ok (.i2l, 1) := by decide +kernel
theorem dL_goBack_8 : decode cL_goBack 8 = .ok (.lastore, 1) := by decide +kernel
theorem dL_goBack_9 : decode cL_goBack 9 = .ok (.goto 9, 3) := by decide +kernel
theorem dL_goBack_12 : decode cL_goBack 12 = .ok (.astore_n 3, 1) := by decide +kernel
theorem dL_goBack_13 : decode cL_goBack 13 = .ok (.iconst 1, 1) := by decide +kernel
theorem dL_goBack_14 : decode cL_goBack 14 = .ok (.ireturn, 1) := by decide +kernel
theorem dL_goBack_15 : decode cL_goBack 15 = .ok (.astore_n 3, 1) := by decide +kernel
theorem dL_goBack_16 : decode cL_goBack 16 = .ok (.iconst 2, 1) := by decide +kernel
theorem dL_goBack_17 : decode cL_goBack 17 = .ok (.ireturn, 1) := by decide +kernel
theorem dL_goBack_18 : decode cL_goBack 18 = .ok (.iconst 0, 1) := by decide +kernel
theorem dL_goBack_19 : decode cL_goBack 19 = .ok (.ireturn, 1) := by decide +kernel
theorem dL_undo_0 : decode cL_undo 0 = .ok (.aload_n 1, 1) := by decide +kernel
theorem dL_undo_1 : decode cL_undo 1 = .ok (.iconst 0, 1) := by decide +kernel
theorem dL_undo_2 : decode cL_undo 2 = .ok (.aload_n 0, 1) := by decide +kernel
theorem dL_undo_3 : decode cL_undo 3 = .ok (.invokevirtual 49, 3) := by decide +kernel
theorem dL_undo_6 : decode cL_undo 6 = .ok (.i2l, 1) := by decide +kernel
theorem dL_undo_7 : decode cL_undo 7 = .ok (.lastore, 1) := by decide +kernel
theorem dL_undo_8 : decode cL_undo 8 = .ok (.goto 6, 3) := by decide +kernel
theorem dL_undo_11 : decode cL_undo 11 = .ok (.astore_n 2, 1) := by decide +kernel
theorem dL_undo_12 : decode cL_undo 12 = .ok (.iconst 1, 1) := by decide +kernel
theorem dL_undo_13 : decode cL_undo 13 = .ok (.ireturn, 1) := by decide +kernel
theorem dL_undo_14 : decode cL_undo 14 = .ok (.iconst 0, 1) := by decide +kernel
theorem dL_undo_15 : decode cL_undo 15 = .ok (.ireturn, 1) := by decide +kernel
theorem dL_at_0 : decode cL_at 0 = .ok (.aload_n 3, 1) := by decide +kernel
theorem dL_at_1 : decode cL_at 1 = .ok (.iconst 0, 1) := by decide +kernel
theorem dL_at_2 : decode cL_at 2 = .ok (.aload_n 0, 1) := by decide +kernel
theorem dL_at_3 : decode cL_at 3 = .ok (.iload_n 1, 1) := by decide +kernel
theorem dL_at_4 : decode cL_at 4 = .ok (.iload_n 2, 1) := by decide +kernel
theorem dL_at_5 : decode cL_at 5 = .ok (.invokevirtual 52, 3) := by decide +kernel
theorem dL_at_8 : decode cL_at 8 = .ok (.i2l, 1) := by decide +kernel
theorem dL_at_9 : decode cL_at 9 = .ok (.lastore, 1) := by decide +kernel
theorem dL_at_10 : decode cL_at 10 = .ok (.goto 11, 3) := by decide +kernel
theorem dL_at_13 : decode cL_at 13 = .ok (.astore 4, 2) := by decide +kernel
theorem dL_at_15 : decode cL_at 15 = .ok (.iconst 1, 1) := by decide +kernel
theorem dL_at_16 : decode cL_at 16 = .ok (.ireturn, 1) := by decide +kernel
theorem dL_at_17 : decode cL_at 17 = .ok (.astore 4, 2) := by decide +kernel
theorem dL_at_19 : decode cL_at 19 = .ok (.iconst 2, 1) := by decide +kernel
theorem dL_at_20 : decode cL_at 20 = .ok (.ireturn, 1) := by decide +kernel
theorem dL_at_21 : decode cL_at 21 = .ok (.iconst 0, 1) := by decide +kernel
theorem dL_at_22 : decode cL_at 22 = .ok (.ireturn, 1) := by decide +kernel
theorem dL_lodgerOf_0 : decode cL_lodgerOf 0 = .ok (.aload_n 3, 1) := by decide +kernel
theorem dL_lodgerOf_1 : decode cL_lodgerOf 1 = .ok (.iconst 0, 1) := by decide +kernel
theorem dL_lodgerOf_2 : decode cL_lodgerOf 2 = .ok (.aload_n 0, 1) := by decide +kernel
theorem dL_lodgerOf_3 : decode cL_lodgerOf 3 = .ok (.iload_n 1, 1) := by decide +kernel
theorem dL_lodgerOf_4 : decode cL_lodgerOf 4 = .ok (.iload_n 2, 1) := by decide +kernel
theorem dL_lodgerOf_5 : decode cL_lodgerOf 5 = .ok (.invokevirtual 55, 3) := by decide +kernel
theorem dL_lodgerOf_8 : decode cL_lodgerOf 8 = .ok (.i2l, 1) := by decide +kernel
theorem dL_lodgerOf_9 : decode cL_lodgerOf 9 = .ok (.lastore, 1) := by decide +kernel
theorem dL_lodgerOf_10 : decode cL_lodgerOf 10 = .ok (.goto 11, 3) := by decide +kernel
theorem dL_lodgerOf_13 : decode cL_lodgerOf 13 = .ok (.astore 4, 2) := by decide +kernel
theorem dL_lodgerOf_15 : decode cL_lodgerOf 15 = .ok (.iconst 1, 1) := by decide +kernel
theorem dL_lodgerOf_16 : decode cL_lodgerOf 16 = .ok (.ireturn, 1) := by decide +kernel
theorem dL_lodgerOf_17 : decode cL_lodgerOf 17 = .ok (.astore 4, 2) := by decide +kernel
theorem dL_lodgerOf_19 : decode cL_lodgerOf 19 = .ok (.iconst 2, 1) := by decide +kernel
theorem dL_lodgerOf_20 : decode cL_lodgerOf 20 = .ok (.ireturn, 1) := by decide +kernel
theorem dL_lodgerOf_21 : decode cL_lodgerOf 21 = .ok (.iconst 0, 1) := by decide +kernel
theorem dL_lodgerOf_22 : decode cL_lodgerOf 22 = .ok (.ireturn, 1) := by decide +kernel
theorem dL_count_0 : decode cL_count 0 = .ok (.aload_n 2, 1) := by decide +kernel
theorem dL_count_1 : decode cL_count 1 = .ok (.iconst 0, 1) := by decide +kernel
theorem dL_count_2 : decode cL_count 2 = .ok (.aload_n 0, 1) := by decide +kernel
theorem dL_count_3 : decode cL_count 3 = .ok (.iload_n 1, 1) := by decide +kernel
theorem dL_count_4 : decode cL_count 4 = .ok (.invokevirtual 58, 3) := by decide +kernel
theorem dL_count_7 : decode cL_count 7 = .ok (.i2l, 1) := by decide +kernel
theorem dL_count_8 : decode cL_count 8 = .ok (.lastore, 1) := by decide +kernel
theorem dL_count_9 : decode cL_count 9 = .ok (.goto 6, 3) := by decide +kernel
theorem dL_count_12 : decode cL_count 12 = .ok (.astore_n 3, 1) := by decide +kernel
theorem dL_count_13 : decode cL_count 13 = .ok (.iconst 1, 1) := by decide +kernel
theorem dL_count_14 : decode cL_count 14 = .ok (.ireturn, 1) := by decide +kernel
theorem dL_count_15 : decode cL_count 15 = .ok (.iconst 0, 1) := by decide +kernel
theorem dL_count_16 : decode cL_count 16 = .ok (.ireturn, 1) := by decide +kernel
theorem dL_refused_0 : decode cL_refused 0 = .ok (.aload_n 2, 1) := by decide +kernel
theorem dL_refused_1 : decode cL_refused 1 = .ok (.iconst 0, 1) := by decide +kernel
theorem dL_refused_2 : decode cL_refused 2 = .ok (.aload_n 0, 1) := by decide +kernel
theorem dL_refused_3 : decode cL_refused 3 = .ok (.iload_n 1, 1) := by decide +kernel
theorem dL_refused_4 : decode cL_refused 4 = .ok (.invokevirtual 61, 3) := by decide +kernel
theorem dL_refused_7 : decode cL_refused 7 = .ok (.i2l, 1) := by decide +kernel
theorem dL_refused_8 : decode cL_refused 8 = .ok (.lastore, 1) := by decide +kernel
theorem dL_refused_9 : decode cL_refused 9 = .ok (.goto 6, 3) := by decide +kernel
theorem dL_refused_12 : decode cL_refused 12 = .ok (.astore_n 3, 1) := by decide +kernel
theorem dL_refused_13 : decode cL_refused 13 = .ok (.iconst 1, 1) := by decide +kernel
theorem dL_refused_14 : decode cL_refused 14 = .ok (.ireturn, 1) := by decide +kernel
theorem dL_refused_15 : decode cL_refused 15 = .ok (.iconst 0, 1) := by decide +kernel
theorem dL_refused_16 : decode cL_refused 16 = .ok (.ireturn, 1) := by decide +kernel
theorem dL_ifAsked_0 : decode cL_ifAsked 0 = .ok (.aload 4, 2) := by decide +kernel
theorem dL_ifAsked_2 : decode cL_ifAsked 2 = .ok (.iconst 0, 1) := by decide +kernel
theorem dL_ifAsked_3 : decode cL_ifAsked 3 = .ok (.aload_n 0, 1) := by decide +kernel
theorem dL_ifAsked_4 : decode cL_ifAsked 4 = .ok (.iload_n 1, 1) := by decide +kernel
theorem dL_ifAsked_5 : decode cL_ifAsked 5 = .ok (.iload_n 2, 1) := by decide +kernel
theorem dL_ifAsked_6 : decode cL_ifAsked 6 = .ok (.iload_n 3, 1) := by decide +kernel
theorem dL_ifAsked_7 : decode cL_ifAsked 7 = .ok (.invokevirtual 64, 3) := by decide +kernel
theorem dL_ifAsked_10 : decode cL_ifAsked 10 = .ok (.i2l, 1) := by decide +kernel
theorem dL_ifAsked_11 : decode cL_ifAsked 11 = .ok (.lastore, 1) := by decide +kernel
theorem dL_ifAsked_12 : decode cL_ifAsked 12 = .ok (.goto 11, 3) := by decide +kernel
theorem dL_ifAsked_15 : decode cL_ifAsked 15 = .ok (.astore 5, 2) := by decide +kernel
theorem dL_ifAsked_17 : decode cL_ifAsked 17 = .ok (.iconst 1, 1) := by decide +kernel
theorem dL_ifAsked_18 : decode cL_ifAsked 18 = .ok (.ireturn, 1) := by decide +kernel
theorem dL_ifAsked_19 : decode cL_ifAsked 19 = .ok (.astore 5, 2) := by decide +kernel
theorem dL_ifAsked_21 : decode cL_ifAsked 21 = .ok (.iconst 2, 1) := by decide +kernel
theorem dL_ifAsked_22 : decode cL_ifAsked 22 = .ok (.ireturn, 1) := by decide +kernel
theorem dL_ifAsked_23 : decode cL_ifAsked 23 = .ok (.iconst 0, 1) := by decide +kernel
theorem dL_ifAsked_24 : decode cL_ifAsked 24 = .ok (.ireturn, 1) := by decide +kernel
theorem dL_ifPutOut_0 : decode cL_ifPutOut 0 = .ok (.aload 4, 2) := by decide +kernel
theorem dL_ifPutOut_2 : decode cL_ifPutOut 2 = .ok (.iconst 0, 1) := by decide +kernel
theorem dL_ifPutOut_3 : decode cL_ifPutOut 3 = .ok (.aload_n 0, 1) := by decide +kernel
theorem dL_ifPutOut_4 : decode cL_ifPutOut 4 = .ok (.iload_n 1, 1) := by decide +kernel
theorem dL_ifPutOut_5 : decode cL_ifPutOut 5 = .ok (.iload_n 2, 1) := by decide +kernel
theorem dL_ifPutOut_6 : decode cL_ifPutOut 6 = .ok (.iload_n 3, 1) := by decide +kernel
theorem dL_ifPutOut_7 : decode cL_ifPutOut 7 = .ok (.invokevirtual 67, 3) := by decide +kernel
theorem dL_ifPutOut_10 : decode cL_ifPutOut 10 = .ok (.i2l, 1) := by decide +kernel
theorem dL_ifPutOut_11 : decode cL_ifPutOut 11 = .ok (.lastore, 1) := by decide +kernel
theorem dL_ifPutOut_12 : decode cL_ifPutOut 12 = .ok (.goto 11, 3) := by decide +kernel
theorem dL_ifPutOut_15 : decode cL_ifPutOut 15 = .ok (.astore 5, 2) := by decide +kernel
theorem dL_ifPutOut_17 : decode cL_ifPutOut 17 = .ok (.iconst 1, 1) := by decide +kernel
theorem dL_ifPutOut_18 : decode cL_ifPutOut 18 = .ok (.ireturn, 1) := by decide +kernel
theorem dL_ifPutOut_19 : decode cL_ifPutOut 19 = .ok (.astore 5, 2) := by decide +kernel
theorem dL_ifPutOut_21 : decode cL_ifPutOut 21 = .ok (.iconst 2, 1) := by decide +kernel
theorem dL_ifPutOut_22 : decode cL_ifPutOut 22 = .ok (.ireturn, 1) := by decide +kernel
theorem dL_ifPutOut_23 : decode cL_ifPutOut 23 = .ok (.iconst 0, 1) := by decide +kernel
theorem dL_ifPutOut_24 : decode cL_ifPutOut 24 = .ok (.ireturn, 1) := by decide +kernel
theorem dL_fewestBeds_0 : decode cL_fewestBeds 0 = .ok (.aload_n 2, 1) := by decide +kernel
theorem dL_fewestBeds_1 : decode cL_fewestBeds 1 = .ok (.iconst 0, 1) := by decide +kernel
theorem dL_fewestBeds_2 : decode cL_fewestBeds 2 = .ok (.aload_n 0, 1) := by decide +kernel
theorem dL_fewestBeds_3 : decode cL_fewestBeds 3 = .ok (.iload_n 1, 1) := by decide +kernel
theorem dL_fewestBeds_4 : decode cL_fewestBeds 4 = .ok (.invokevirtual 70, 3) := by decide +kernel
theorem dL_fewestBeds_7 : decode cL_fewestBeds 7 = .ok (.i2l, 1) := by decide +kernel
theorem dL_fewestBeds_8 : decode cL_fewestBeds 8 = .ok (.lastore, 1) := by decide +kernel
theorem dL_fewestBeds_9 : decode cL_fewestBeds 9 = .ok (.goto 6, 3) := by decide +kernel
theorem dL_fewestBeds_12 : decode cL_fewestBeds 12 = .ok (.astore_n 3, 1) := by decide +kernel
theorem dL_fewestBeds_13 : decode cL_fewestBeds 13 = .ok (.iconst 1, 1) := by decide +kernel
theorem dL_fewestBeds_14 : decode cL_fewestBeds 14 = .ok (.ireturn, 1) := by decide +kernel
theorem dL_fewestBeds_15 : decode cL_fewestBeds 15 = .ok (.iconst 0, 1) := by decide +kernel
theorem dL_fewestBeds_16 : decode cL_fewestBeds 16 = .ok (.ireturn, 1) := by decide +kernel
theorem dL_longest_0 : decode cL_longest 0 = .ok (.aload_n 3, 1) := by decide +kernel
theorem dL_longest_1 : decode cL_longest 1 = .ok (.iconst 0, 1) := by decide +kernel
theorem dL_longest_2 : decode cL_longest 2 = .ok (.aload_n 0, 1) := by decide +kernel
theorem dL_longest_3 : decode cL_longest 3 = .ok (.iload_n 1, 1) := by decide +kernel
theorem dL_longest_4 : decode cL_longest 4 = .ok (.iload_n 2, 1) := by decide +kernel
theorem dL_longest_5 : decode cL_longest 5 = .ok (.invokevirtual 73, 3) := by decide +kernel
theorem dL_longest_8 : decode cL_longest 8 = .ok (.i2l, 1) := by decide +kernel
theorem dL_longest_9 : decode cL_longest 9 = .ok (.lastore, 1) := by decide +kernel
theorem dL_longest_10 : decode cL_longest 10 = .ok (.goto 11, 3) := by decide +kernel
theorem dL_longest_13 : decode cL_longest 13 = .ok (.astore 4, 2) := by decide +kernel
theorem dL_longest_15 : decode cL_longest 15 = .ok (.iconst 1, 1) := by decide +kernel
theorem dL_longest_16 : decode cL_longest 16 = .ok (.ireturn, 1) := by decide +kernel
theorem dL_longest_17 : decode cL_longest 17 = .ok (.astore 4, 2) := by decide +kernel
theorem dL_longest_19 : decode cL_longest 19 = .ok (.iconst 2, 1) := by decide +kernel
theorem dL_longest_20 : decode cL_longest 20 = .ok (.ireturn, 1) := by decide +kernel
theorem dL_longest_21 : decode cL_longest 21 = .ok (.iconst 0, 1) := by decide +kernel
theorem dL_longest_22 : decode cL_longest 22 = .ok (.ireturn, 1) := by decide +kernel
theorem dL_law_0 : decode cL_law 0 = .ok (.new 8, 3) := by decide +kernel
theorem dL_law_3 : decode cL_law 3 = .ok (.dup, 1) := by decide +kernel
theorem dL_law_4 : decode cL_law 4 = .ok (.invokespecial 76, 3) := by decide +kernel
theorem dL_law_7 : decode cL_law 7 = .ok (.astore_n 1, 1) := by decide +kernel
theorem dL_law_8 : decode cL_law 8 = .ok (.new 77, 3) := by decide +kernel
theorem dL_law_11 : decode cL_law 11 = .ok (.dup, 1) := by decide +kernel
theorem dL_law_12 : decode cL_law 12 = .ok (.invokespecial 79, 3) := by decide +kernel
theorem dL_law_15 : decode cL_law 15 = .ok (.astore_n 2, 1) := by decide +kernel
theorem dL_law_16 : decode cL_law 16 = .ok (.iconst 1, 1) := by decide +kernel
theorem dL_law_17 : decode cL_law 17 = .ok (.newarray .long, 2) := by decide +kernel
theorem dL_law_19 : decode cL_law 19 = .ok (.astore_n 3, 1) := by decide +kernel
theorem dL_law_20 : decode cL_law 20 = .ok (.iconst 0, 1) := by decide +kernel
theorem dL_law_21 : decode cL_law 21 = .ok (.istore 4, 2) := by decide +kernel
theorem dL_law_23 : decode cL_law 23 = .ok (.iload 4, 2) := by decide +kernel
theorem dL_law_25 : decode cL_law 25 = .ok (.aload_n 0, 1) := by decide +kernel
theorem dL_law_26 : decode cL_law 26 = .ok (.arraylength, 1) := by decide +kernel
theorem dL_law_27 : decode cL_law 27 = .ok (.iconst 4, 1) := by decide +kernel
theorem dL_law_28 : decode cL_law 28 = .ok (.isub, 1) := by decide +kernel
theorem dL_law_29 : decode cL_law 29 = .ok (.if_icmp .gt 1379, 3) := by decide +kernel
theorem dL_law_32 : decode cL_law 32 = .ok (.aload_n 0, 1) := by decide +kernel
theorem dL_law_33 : decode cL_law 33 = .ok (.iload 4, 2) := by decide +kernel
theorem dL_law_35 : decode cL_law 35 = .ok (.iaload, 1) := by decide +kernel
theorem dL_law_36 : decode cL_law 36 = .ok (.bipush 31, 2) := by decide +kernel
theorem dL_law_38 : decode cL_law 38 = .ok (.iand, 1) := by decide +kernel
theorem dL_law_39 : decode cL_law 39 = .ok (.tableswitch 1363 0 23 #[109, 189, 257, 313, 381, 425, 481, 537, 550, 563, 607, 663, 719, 763, 831, 899, 955, 1011, 1091, 1171, 1227, 1295, 1308, 1349], 109) := by decide +kernel
theorem dL_law_148 : decode cL_law 148 = .ok (.aload_n 1, 1) := by decide +kernel
theorem dL_law_149 : decode cL_law 149 = .ok (.aload_n 0, 1) := by decide +kernel
theorem dL_law_150 : decode cL_law 150 = .ok (.iload 4, 2) := by decide +kernel
theorem dL_law_152 : decode cL_law 152 = .ok (.iconst 1, 1) := by decide +kernel
theorem dL_law_153 : decode cL_law 153 = .ok (.iadd, 1) := by decide +kernel
theorem dL_law_154 : decode cL_law 154 = .ok (.iaload, 1) := by decide +kernel
theorem dL_law_155 : decode cL_law 155 = .ok (.aload_n 0, 1) := by decide +kernel
theorem dL_law_156 : decode cL_law 156 = .ok (.iload 4, 2) := by decide +kernel
theorem dL_law_158 : decode cL_law 158 = .ok (.iconst 2, 1) := by decide +kernel
theorem dL_law_159 : decode cL_law 159 = .ok (.iadd, 1) := by decide +kernel
theorem dL_law_160 : decode cL_law 160 = .ok (.iaload, 1) := by decide +kernel
theorem dL_law_161 : decode cL_law 161 = .ok (.aload_n 0, 1) := by decide +kernel
theorem dL_law_162 : decode cL_law 162 = .ok (.iload 4, 2) := by decide +kernel
theorem dL_law_164 : decode cL_law 164 = .ok (.iconst 3, 1) := by decide +kernel
theorem dL_law_165 : decode cL_law 165 = .ok (.iadd, 1) := by decide +kernel
theorem dL_law_166 : decode cL_law 166 = .ok (.iaload, 1) := by decide +kernel
theorem dL_law_167 : decode cL_law 167 = .ok (.aload_n 3, 1) := by decide +kernel
theorem dL_law_168 : decode cL_law 168 = .ok (.invokestatic 80, 3) := by decide +kernel
theorem dL_law_171 : decode cL_law 171 = .ok (.istore 5, 2) := by decide +kernel
theorem dL_law_173 : decode cL_law 173 = .ok (.aload_n 2, 1) := by decide +kernel
theorem dL_law_174 : decode cL_law 174 = .ok (.aload_n 0, 1) := by decide +kernel
theorem dL_law_175 : decode cL_law 175 = .ok (.iload 4, 2) := by decide +kernel
theorem dL_law_177 : decode cL_law 177 = .ok (.iconst 1, 1) := by decide +kernel
theorem dL_law_178 : decode cL_law 178 = .ok (.iadd, 1) := by decide +kernel
theorem dL_law_179 : decode cL_law 179 = .ok (.iaload, 1) := by decide +kernel
theorem dL_law_180 : decode cL_law 180 = .ok (.aload_n 0, 1) := by decide +kernel
theorem dL_law_181 : decode cL_law 181 = .ok (.iload 4, 2) := by decide +kernel
theorem dL_law_183 : decode cL_law 183 = .ok (.iconst 2, 1) := by decide +kernel
theorem dL_law_184 : decode cL_law 184 = .ok (.iadd, 1) := by decide +kernel
theorem dL_law_185 : decode cL_law 185 = .ok (.iaload, 1) := by decide +kernel
theorem dL_law_186 : decode cL_law 186 = .ok (.aload_n 0, 1) := by decide +kernel
theorem dL_law_187 : decode cL_law 187 = .ok (.iload 4, 2) := by decide +kernel
theorem dL_law_189 : decode cL_law 189 = .ok (.iconst 3, 1) := by decide +kernel
theorem dL_law_190 : decode cL_law 190 = .ok (.iadd, 1) := by decide +kernel
theorem dL_law_191 : decode cL_law 191 = .ok (.iaload, 1) := by decide +kernel
theorem dL_law_192 : decode cL_law 192 = .ok (.invokevirtual 85, 3) := by decide +kernel
theorem dL_law_195 : decode cL_law 195 = .ok (.istore 6, 2) := by decide +kernel
theorem dL_law_197 : decode cL_law 197 = .ok (.aload_n 2, 1) := by decide +kernel
theorem dL_law_198 : decode cL_law 198 = .ok (.invokevirtual 86, 3) := by decide +kernel
theorem dL_law_201 : decode cL_law 201 = .ok (.iload 5, 2) := by decide +kernel
theorem dL_law_203 : decode cL_law 203 = .ok (.if_icmp .eq 5, 3) := by decide +kernel
theorem dL_law_206 : decode cL_law 206 = .ok (.iconst 0, 1) := by decide +kernel
theorem dL_law_207 : decode cL_law 207 = .ok (.ireturn, 1) := by decide +kernel
theorem dL_law_208 : decode cL_law 208 = .ok (.iload 5, 2) := by decide +kernel
theorem dL_law_210 : decode cL_law 210 = .ok (.ifCond .ne 15, 3) := by decide +kernel
theorem dL_law_213 : decode cL_law 213 = .ok (.aload_n 3, 1) := by decide +kernel
theorem dL_law_214 : decode cL_law 214 = .ok (.iconst 0, 1) := by decide +kernel
theorem dL_law_215 : decode cL_law 215 = .ok (.laload, 1) := by decide +kernel
theorem dL_law_216 : decode cL_law 216 = .ok (.iload 6, 2) := by decide +kernel
theorem dL_law_218 : decode cL_law 218 = .ok (.i2l, 1) := by decide +kernel
theorem dL_law_219 : decode cL_law 219 = .ok (.lcmp, 1) := by decide +kernel
theorem dL_law_220 : decode cL_law 220 = .ok (.ifCond .eq 5, 3) := by decide +kernel
theorem dL_law_223 : decode cL_law 223 = .ok (.iconst 0, 1) := by decide +kernel
theorem dL_law_224 : decode cL_law 224 = .ok (.ireturn, 1) := by decide +kernel
theorem dL_law_225 : decode cL_law 225 = .ok (.goto 1177, 3) := by decide +kernel
theorem dL_law_228 : decode cL_law 228 = .ok (.aload_n 1, 1) := by decide +kernel
theorem dL_law_229 : decode cL_law 229 = .ok (.aload_n 0, 1) := by decide +kernel
theorem dL_law_230 : decode cL_law 230 = .ok (.iload 4, 2) := by decide +kernel
theorem dL_law_232 : decode cL_law 232 = .ok (.iconst 1, 1) := by decide +kernel
theorem dL_law_233 : decode cL_law 233 = .ok (.iadd, 1) := by decide +kernel
theorem dL_law_234 : decode cL_law 234 = .ok (.iaload, 1) := by decide +kernel
theorem dL_law_235 : decode cL_law 235 = .ok (.aload_n 0, 1) := by decide +kernel
theorem dL_law_236 : decode cL_law 236 = .ok (.iload 4, 2) := by decide +kernel
theorem dL_law_238 : decode cL_law 238 = .ok (.iconst 2, 1) := by decide +kernel
theorem dL_law_239 : decode cL_law 239 = .ok (.iadd, 1) := by decide +kernel
theorem dL_law_240 : decode cL_law 240 = .ok (.iaload, 1) := by decide +kernel
theorem dL_law_241 : decode cL_law 241 = .ok (.aload_n 3, 1) := by decide +kernel
theorem dL_law_242 : decode cL_law 242 = .ok (.invokestatic 89, 3) := by decide +kernel
theorem dL_law_245 : decode cL_law 245 = .ok (.istore 5, 2) := by decide +kernel
theorem dL_law_247 : decode cL_law 247 = .ok (.aload_n 2, 1) := by decide +kernel
theorem dL_law_248 : decode cL_law 248 = .ok (.aload_n 0, 1) := by decide +kernel
theorem dL_law_249 : decode cL_law 249 = .ok (.iload 4, 2) := by decide +kernel
theorem dL_law_251 : decode cL_law 251 = .ok (.iconst 1, 1) := by decide +kernel
theorem dL_law_252 : decode cL_law 252 = .ok (.iadd, 1) := by decide +kernel
theorem dL_law_253 : decode cL_law 253 = .ok (.iaload, 1) := by decide +kernel
theorem dL_law_254 : decode cL_law 254 = .ok (.aload_n 0, 1) := by decide +kernel
theorem dL_law_255 : decode cL_law 255 = .ok (.iload 4, 2) := by decide +kernel
theorem dL_law_257 : decode cL_law 257 = .ok (.iconst 2, 1) := by decide +kernel
theorem dL_law_258 : decode cL_law 258 = .ok (.iadd, 1) := by decide +kernel
theorem dL_law_259 : decode cL_law 259 = .ok (.iaload, 1) := by decide +kernel
theorem dL_law_260 : decode cL_law 260 = .ok (.invokevirtual 92, 3) := by decide +kernel
theorem dL_law_263 : decode cL_law 263 = .ok (.istore 6, 2) := by decide +kernel
theorem dL_law_265 : decode cL_law 265 = .ok (.aload_n 2, 1) := by decide +kernel
theorem dL_law_266 : decode cL_law 266 = .ok (.invokevirtual 86, 3) := by decide +kernel
theorem dL_law_269 : decode cL_law 269 = .ok (.iload 5, 2) := by decide +kernel
theorem dL_law_271 : decode cL_law 271 = .ok (.if_icmp .eq 5, 3) := by decide +kernel
theorem dL_law_274 : decode cL_law 274 = .ok (.iconst 0, 1) := by decide +kernel
theorem dL_law_275 : decode cL_law 275 = .ok (.ireturn, 1) := by decide +kernel
theorem dL_law_276 : decode cL_law 276 = .ok (.iload 5, 2) := by decide +kernel
theorem dL_law_278 : decode cL_law 278 = .ok (.ifCond .ne 15, 3) := by decide +kernel
theorem dL_law_281 : decode cL_law 281 = .ok (.aload_n 3, 1) := by decide +kernel
theorem dL_law_282 : decode cL_law 282 = .ok (.iconst 0, 1) := by decide +kernel
theorem dL_law_283 : decode cL_law 283 = .ok (.laload, 1) := by decide +kernel
theorem dL_law_284 : decode cL_law 284 = .ok (.iload 6, 2) := by decide +kernel
theorem dL_law_286 : decode cL_law 286 = .ok (.i2l, 1) := by decide +kernel
theorem dL_law_287 : decode cL_law 287 = .ok (.lcmp, 1) := by decide +kernel
theorem dL_law_288 : decode cL_law 288 = .ok (.ifCond .eq 5, 3) := by decide +kernel
theorem dL_law_291 : decode cL_law 291 = .ok (.iconst 0, 1) := by decide +kernel
theorem dL_law_292 : decode cL_law 292 = .ok (.ireturn, 1) := by decide +kernel
theorem dL_law_293 : decode cL_law 293 = .ok (.goto 1109, 3) := by decide +kernel
theorem dL_law_296 : decode cL_law 296 = .ok (.aload_n 1, 1) := by decide +kernel
theorem dL_law_297 : decode cL_law 297 = .ok (.aload_n 0, 1) := by decide +kernel
theorem dL_law_298 : decode cL_law 298 = .ok (.iload 4, 2) := by decide +kernel
theorem dL_law_300 : decode cL_law 300 = .ok (.iconst 1, 1) := by decide +kernel
theorem dL_law_301 : decode cL_law 301 = .ok (.iadd, 1) := by decide +kernel
theorem dL_law_302 : decode cL_law 302 = .ok (.iaload, 1) := by decide +kernel
theorem dL_law_303 : decode cL_law 303 = .ok (.aload_n 3, 1) := by decide +kernel
theorem dL_law_304 : decode cL_law 304 = .ok (.invokestatic 93, 3) := by decide +kernel
theorem dL_law_307 : decode cL_law 307 = .ok (.istore 5, 2) := by decide +kernel
theorem dL_law_309 : decode cL_law 309 = .ok (.aload_n 2, 1) := by decide +kernel
theorem dL_law_310 : decode cL_law 310 = .ok (.aload_n 0, 1) := by decide +kernel
theorem dL_law_311 : decode cL_law 311 = .ok (.iload 4, 2) := by decide +kernel
theorem dL_law_313 : decode cL_law 313 = .ok (.iconst 1, 1) := by decide +kernel
theorem dL_law_314 : decode cL_law 314 = .ok (.iadd, 1) := by decide +kernel
theorem dL_law_315 : decode cL_law 315 = .ok (.iaload, 1) := by decide +kernel
theorem dL_law_316 : decode cL_law 316 = .ok (.invokevirtual 96, 3) := by decide +kernel
theorem dL_law_319 : decode cL_law 319 = .ok (.istore 6, 2) := by decide +kernel
theorem dL_law_321 : decode cL_law 321 = .ok (.aload_n 2, 1) := by decide +kernel
theorem dL_law_322 : decode cL_law 322 = .ok (.invokevirtual 86, 3) := by decide +kernel
theorem dL_law_325 : decode cL_law 325 = .ok (.iload 5, 2) := by decide +kernel
theorem dL_law_327 : decode cL_law 327 = .ok (.if_icmp .eq 5, 3) := by decide +kernel
theorem dL_law_330 : decode cL_law 330 = .ok (.iconst 0, 1) := by decide +kernel
theorem dL_law_331 : decode cL_law 331 = .ok (.ireturn, 1) := by decide +kernel
theorem dL_law_332 : decode cL_law 332 = .ok (.iload 5, 2) := by decide +kernel
theorem dL_law_334 : decode cL_law 334 = .ok (.ifCond .ne 15, 3) := by decide +kernel
theorem dL_law_337 : decode cL_law 337 = .ok (.aload_n 3, 1) := by decide +kernel
theorem dL_law_338 : decode cL_law 338 = .ok (.iconst 0, 1) := by decide +kernel
theorem dL_law_339 : decode cL_law 339 = .ok (.laload, 1) := by decide +kernel
theorem dL_law_340 : decode cL_law 340 = .ok (.iload 6, 2) := by decide +kernel
theorem dL_law_342 : decode cL_law 342 = .ok (.i2l, 1) := by decide +kernel
theorem dL_law_343 : decode cL_law 343 = .ok (.lcmp, 1) := by decide +kernel
theorem dL_law_344 : decode cL_law 344 = .ok (.ifCond .eq 5, 3) := by decide +kernel
theorem dL_law_347 : decode cL_law 347 = .ok (.iconst 0, 1) := by decide +kernel
theorem dL_law_348 : decode cL_law 348 = .ok (.ireturn, 1) := by decide +kernel
theorem dL_law_349 : decode cL_law 349 = .ok (.goto 1053, 3) := by decide +kernel
theorem dL_law_352 : decode cL_law 352 = .ok (.aload_n 1, 1) := by decide +kernel
theorem dL_law_353 : decode cL_law 353 = .ok (.aload_n 0, 1) := by decide +kernel
theorem dL_law_354 : decode cL_law 354 = .ok (.iload 4, 2) := by decide +kernel
theorem dL_law_356 : decode cL_law 356 = .ok (.iconst 1, 1) := by decide +kernel
theorem dL_law_357 : decode cL_law 357 = .ok (.iadd, 1) := by decide +kernel
theorem dL_law_358 : decode cL_law 358 = .ok (.iaload, 1) := by decide +kernel
theorem dL_law_359 : decode cL_law 359 = .ok (.aload_n 0, 1) := by decide +kernel
theorem dL_law_360 : decode cL_law 360 = .ok (.iload 4, 2) := by decide +kernel
theorem dL_law_362 : decode cL_law 362 = .ok (.iconst 2, 1) := by decide +kernel
theorem dL_law_363 : decode cL_law 363 = .ok (.iadd, 1) := by decide +kernel
theorem dL_law_364 : decode cL_law 364 = .ok (.iaload, 1) := by decide +kernel
theorem dL_law_365 : decode cL_law 365 = .ok (.aload_n 3, 1) := by decide +kernel
theorem dL_law_366 : decode cL_law 366 = .ok (.invokestatic 97, 3) := by decide +kernel
theorem dL_law_369 : decode cL_law 369 = .ok (.istore 5, 2) := by decide +kernel
theorem dL_law_371 : decode cL_law 371 = .ok (.aload_n 2, 1) := by decide +kernel
theorem dL_law_372 : decode cL_law 372 = .ok (.aload_n 0, 1) := by decide +kernel
theorem dL_law_373 : decode cL_law 373 = .ok (.iload 4, 2) := by decide +kernel
theorem dL_law_375 : decode cL_law 375 = .ok (.iconst 1, 1) := by decide +kernel
theorem dL_law_376 : decode cL_law 376 = .ok (.iadd, 1) := by decide +kernel
theorem dL_law_377 : decode cL_law 377 = .ok (.iaload, 1) := by decide +kernel
theorem dL_law_378 : decode cL_law 378 = .ok (.aload_n 0, 1) := by decide +kernel
theorem dL_law_379 : decode cL_law 379 = .ok (.iload 4, 2) := by decide +kernel
theorem dL_law_381 : decode cL_law 381 = .ok (.iconst 2, 1) := by decide +kernel
theorem dL_law_382 : decode cL_law 382 = .ok (.iadd, 1) := by decide +kernel
theorem dL_law_383 : decode cL_law 383 = .ok (.iaload, 1) := by decide +kernel
theorem dL_law_384 : decode cL_law 384 = .ok (.invokevirtual 99, 3) := by decide +kernel
theorem dL_law_387 : decode cL_law 387 = .ok (.istore 6, 2) := by decide +kernel
theorem dL_law_389 : decode cL_law 389 = .ok (.aload_n 2, 1) := by decide +kernel
theorem dL_law_390 : decode cL_law 390 = .ok (.invokevirtual 86, 3) := by decide +kernel
theorem dL_law_393 : decode cL_law 393 = .ok (.iload 5, 2) := by decide +kernel
theorem dL_law_395 : decode cL_law 395 = .ok (.if_icmp .eq 5, 3) := by decide +kernel
theorem dL_law_398 : decode cL_law 398 = .ok (.iconst 0, 1) := by decide +kernel
theorem dL_law_399 : decode cL_law 399 = .ok (.ireturn, 1) := by decide +kernel
theorem dL_law_400 : decode cL_law 400 = .ok (.iload 5, 2) := by decide +kernel
theorem dL_law_402 : decode cL_law 402 = .ok (.ifCond .ne 15, 3) := by decide +kernel
theorem dL_law_405 : decode cL_law 405 = .ok (.aload_n 3, 1) := by decide +kernel
theorem dL_law_406 : decode cL_law 406 = .ok (.iconst 0, 1) := by decide +kernel
theorem dL_law_407 : decode cL_law 407 = .ok (.laload, 1) := by decide +kernel
theorem dL_law_408 : decode cL_law 408 = .ok (.iload 6, 2) := by decide +kernel
theorem dL_law_410 : decode cL_law 410 = .ok (.i2l, 1) := by decide +kernel
theorem dL_law_411 : decode cL_law 411 = .ok (.lcmp, 1) := by decide +kernel
theorem dL_law_412 : decode cL_law 412 = .ok (.ifCond .eq 5, 3) := by decide +kernel
theorem dL_law_415 : decode cL_law 415 = .ok (.iconst 0, 1) := by decide +kernel
theorem dL_law_416 : decode cL_law 416 = .ok (.ireturn, 1) := by decide +kernel
theorem dL_law_417 : decode cL_law 417 = .ok (.goto 985, 3) := by decide +kernel
theorem dL_law_420 : decode cL_law 420 = .ok (.aload_n 1, 1) := by decide +kernel
theorem dL_law_421 : decode cL_law 421 = .ok (.aload_n 3, 1) := by decide +kernel
theorem dL_law_422 : decode cL_law 422 = .ok (.invokestatic 100, 3) := by decide +kernel
theorem dL_law_425 : decode cL_law 425 = .ok (.istore 5, 2) := by decide +kernel
theorem dL_law_427 : decode cL_law 427 = .ok (.aload_n 2, 1) := by decide +kernel
theorem dL_law_428 : decode cL_law 428 = .ok (.invokevirtual 103, 3) := by decide +kernel
theorem dL_law_431 : decode cL_law 431 = .ok (.istore 6, 2) := by decide +kernel
theorem dL_law_433 : decode cL_law 433 = .ok (.aload_n 2, 1) := by decide +kernel
theorem dL_law_434 : decode cL_law 434 = .ok (.invokevirtual 86, 3) := by decide +kernel
theorem dL_law_437 : decode cL_law 437 = .ok (.iload 5, 2) := by decide +kernel
theorem dL_law_439 : decode cL_law 439 = .ok (.if_icmp .eq 5, 3) := by decide +kernel
theorem dL_law_442 : decode cL_law 442 = .ok (.iconst 0, 1) := by decide +kernel
theorem dL_law_443 : decode cL_law 443 = .ok (.ireturn, 1) := by decide +kernel
theorem dL_law_444 : decode cL_law 444 = .ok (.iload 5, 2) := by decide +kernel
theorem dL_law_446 : decode cL_law 446 = .ok (.ifCond .ne 15, 3) := by decide +kernel
theorem dL_law_449 : decode cL_law 449 = .ok (.aload_n 3, 1) := by decide +kernel
theorem dL_law_450 : decode cL_law 450 = .ok (.iconst 0, 1) := by decide +kernel
theorem dL_law_451 : decode cL_law 451 = .ok (.laload, 1) := by decide +kernel
theorem dL_law_452 : decode cL_law 452 = .ok (.iload 6, 2) := by decide +kernel
theorem dL_law_454 : decode cL_law 454 = .ok (.i2l, 1) := by decide +kernel
theorem dL_law_455 : decode cL_law 455 = .ok (.lcmp, 1) := by decide +kernel
theorem dL_law_456 : decode cL_law 456 = .ok (.ifCond .eq 5, 3) := by decide +kernel
theorem dL_law_459 : decode cL_law 459 = .ok (.iconst 0, 1) := by decide +kernel
theorem dL_law_460 : decode cL_law 460 = .ok (.ireturn, 1) := by decide +kernel
theorem dL_law_461 : decode cL_law 461 = .ok (.goto 941, 3) := by decide +kernel
theorem dL_law_464 : decode cL_law 464 = .ok (.aload_n 1, 1) := by decide +kernel
theorem dL_law_465 : decode cL_law 465 = .ok (.aload_n 0, 1) := by decide +kernel
theorem dL_law_466 : decode cL_law 466 = .ok (.iload 4, 2) := by decide +kernel
theorem dL_law_468 : decode cL_law 468 = .ok (.iconst 1, 1) := by decide +kernel
theorem dL_law_469 : decode cL_law 469 = .ok (.iadd, 1) := by decide +kernel
theorem dL_law_470 : decode cL_law 470 = .ok (.iaload, 1) := by decide +kernel
theorem dL_law_471 : decode cL_law 471 = .ok (.aload_n 3, 1) := by decide +kernel
theorem dL_law_472 : decode cL_law 472 = .ok (.invokestatic 104, 3) := by decide +kernel
theorem dL_law_475 : decode cL_law 475 = .ok (.istore 5, 2) := by decide +kernel
theorem dL_law_477 : decode cL_law 477 = .ok (.aload_n 2, 1) := by decide +kernel
theorem dL_law_478 : decode cL_law 478 = .ok (.aload_n 0, 1) := by decide +kernel
theorem dL_law_479 : decode cL_law 479 = .ok (.iload 4, 2) := by decide +kernel
theorem dL_law_481 : decode cL_law 481 = .ok (.iconst 1, 1) := by decide +kernel
theorem dL_law_482 : decode cL_law 482 = .ok (.iadd, 1) := by decide +kernel
theorem dL_law_483 : decode cL_law 483 = .ok (.iaload, 1) := by decide +kernel
theorem dL_law_484 : decode cL_law 484 = .ok (.invokevirtual 106, 3) := by decide +kernel
theorem dL_law_487 : decode cL_law 487 = .ok (.istore 6, 2) := by decide +kernel
theorem dL_law_489 : decode cL_law 489 = .ok (.aload_n 2, 1) := by decide +kernel
theorem dL_law_490 : decode cL_law 490 = .ok (.invokevirtual 86, 3) := by decide +kernel
theorem dL_law_493 : decode cL_law 493 = .ok (.iload 5, 2) := by decide +kernel
theorem dL_law_495 : decode cL_law 495 = .ok (.if_icmp .eq 5, 3) := by decide +kernel
theorem dL_law_498 : decode cL_law 498 = .ok (.iconst 0, 1) := by decide +kernel
theorem dL_law_499 : decode cL_law 499 = .ok (.ireturn, 1) := by decide +kernel
theorem dL_law_500 : decode cL_law 500 = .ok (.iload 5, 2) := by decide +kernel
theorem dL_law_502 : decode cL_law 502 = .ok (.ifCond .ne 15, 3) := by decide +kernel
theorem dL_law_505 : decode cL_law 505 = .ok (.aload_n 3, 1) := by decide +kernel
theorem dL_law_506 : decode cL_law 506 = .ok (.iconst 0, 1) := by decide +kernel
theorem dL_law_507 : decode cL_law 507 = .ok (.laload, 1) := by decide +kernel
theorem dL_law_508 : decode cL_law 508 = .ok (.iload 6, 2) := by decide +kernel
theorem dL_law_510 : decode cL_law 510 = .ok (.i2l, 1) := by decide +kernel
theorem dL_law_511 : decode cL_law 511 = .ok (.lcmp, 1) := by decide +kernel
theorem dL_law_512 : decode cL_law 512 = .ok (.ifCond .eq 5, 3) := by decide +kernel
theorem dL_law_515 : decode cL_law 515 = .ok (.iconst 0, 1) := by decide +kernel
theorem dL_law_516 : decode cL_law 516 = .ok (.ireturn, 1) := by decide +kernel
theorem dL_law_517 : decode cL_law 517 = .ok (.goto 885, 3) := by decide +kernel
theorem dL_law_520 : decode cL_law 520 = .ok (.aload_n 1, 1) := by decide +kernel
theorem dL_law_521 : decode cL_law 521 = .ok (.aload_n 0, 1) := by decide +kernel
theorem dL_law_522 : decode cL_law 522 = .ok (.iload 4, 2) := by decide +kernel
theorem dL_law_524 : decode cL_law 524 = .ok (.iconst 1, 1) := by decide +kernel
theorem dL_law_525 : decode cL_law 525 = .ok (.iadd, 1) := by decide +kernel
theorem dL_law_526 : decode cL_law 526 = .ok (.iaload, 1) := by decide +kernel
theorem dL_law_527 : decode cL_law 527 = .ok (.aload_n 3, 1) := by decide +kernel
theorem dL_law_528 : decode cL_law 528 = .ok (.invokestatic 107, 3) := by decide +kernel
theorem dL_law_531 : decode cL_law 531 = .ok (.istore 5, 2) := by decide +kernel
theorem dL_law_533 : decode cL_law 533 = .ok (.aload_n 2, 1) := by decide +kernel
theorem dL_law_534 : decode cL_law 534 = .ok (.aload_n 0, 1) := by decide +kernel
theorem dL_law_535 : decode cL_law 535 = .ok (.iload 4, 2) := by decide +kernel
theorem dL_law_537 : decode cL_law 537 = .ok (.iconst 1, 1) := by decide +kernel
theorem dL_law_538 : decode cL_law 538 = .ok (.iadd, 1) := by decide +kernel
theorem dL_law_539 : decode cL_law 539 = .ok (.iaload, 1) := by decide +kernel
theorem dL_law_540 : decode cL_law 540 = .ok (.invokevirtual 109, 3) := by decide +kernel
theorem dL_law_543 : decode cL_law 543 = .ok (.istore 6, 2) := by decide +kernel
theorem dL_law_545 : decode cL_law 545 = .ok (.aload_n 2, 1) := by decide +kernel
theorem dL_law_546 : decode cL_law 546 = .ok (.invokevirtual 86, 3) := by decide +kernel
theorem dL_law_549 : decode cL_law 549 = .ok (.iload 5, 2) := by decide +kernel
theorem dL_law_551 : decode cL_law 551 = .ok (.if_icmp .eq 5, 3) := by decide +kernel
theorem dL_law_554 : decode cL_law 554 = .ok (.iconst 0, 1) := by decide +kernel
theorem dL_law_555 : decode cL_law 555 = .ok (.ireturn, 1) := by decide +kernel
theorem dL_law_556 : decode cL_law 556 = .ok (.iload 5, 2) := by decide +kernel
theorem dL_law_558 : decode cL_law 558 = .ok (.ifCond .ne 15, 3) := by decide +kernel
theorem dL_law_561 : decode cL_law 561 = .ok (.aload_n 3, 1) := by decide +kernel
theorem dL_law_562 : decode cL_law 562 = .ok (.iconst 0, 1) := by decide +kernel
theorem dL_law_563 : decode cL_law 563 = .ok (.laload, 1) := by decide +kernel
theorem dL_law_564 : decode cL_law 564 = .ok (.iload 6, 2) := by decide +kernel
theorem dL_law_566 : decode cL_law 566 = .ok (.i2l, 1) := by decide +kernel
theorem dL_law_567 : decode cL_law 567 = .ok (.lcmp, 1) := by decide +kernel
theorem dL_law_568 : decode cL_law 568 = .ok (.ifCond .eq 5, 3) := by decide +kernel
theorem dL_law_571 : decode cL_law 571 = .ok (.iconst 0, 1) := by decide +kernel
theorem dL_law_572 : decode cL_law 572 = .ok (.ireturn, 1) := by decide +kernel
theorem dL_law_573 : decode cL_law 573 = .ok (.goto 829, 3) := by decide +kernel
theorem dL_law_576 : decode cL_law 576 = .ok (.aload_n 1, 1) := by decide +kernel
theorem dL_law_577 : decode cL_law 577 = .ok (.invokevirtual 110, 3) := by decide +kernel
theorem dL_law_580 : decode cL_law 580 = .ok (.aload_n 2, 1) := by decide +kernel
theorem dL_law_581 : decode cL_law 581 = .ok (.invokevirtual 113, 3) := by decide +kernel
theorem dL_law_584 : decode cL_law 584 = .ok (.if_icmp .eq 818, 3) := by decide +kernel
theorem dL_law_587 : decode cL_law 587 = .ok (.iconst 0, 1) := by decide +kernel
theorem dL_law_588 : decode cL_law 588 = .ok (.ireturn, 1) := by decide +kernel
theorem dL_law_589 : decode cL_law 589 = .ok (.aload_n 1, 1) := by decide +kernel
theorem dL_law_590 : decode cL_law 590 = .ok (.invokevirtual 114, 3) := by decide +kernel
theorem dL_law_593 : decode cL_law 593 = .ok (.aload_n 2, 1) := by decide +kernel
theorem dL_law_594 : decode cL_law 594 = .ok (.invokevirtual 117, 3) := by decide +kernel
theorem dL_law_597 : decode cL_law 597 = .ok (.if_icmp .eq 805, 3) := by decide +kernel
theorem dL_law_600 : decode cL_law 600 = .ok (.iconst 0, 1) := by decide +kernel
theorem dL_law_601 : decode cL_law 601 = .ok (.ireturn, 1) := by decide +kernel
theorem dL_law_602 : decode cL_law 602 = .ok (.aload_n 1, 1) := by decide +kernel
theorem dL_law_603 : decode cL_law 603 = .ok (.aload_n 3, 1) := by decide +kernel
theorem dL_law_604 : decode cL_law 604 = .ok (.invokestatic 118, 3) := by decide +kernel
theorem dL_law_607 : decode cL_law 607 = .ok (.istore 5, 2) := by decide +kernel
theorem dL_law_609 : decode cL_law 609 = .ok (.aload_n 2, 1) := by decide +kernel
theorem dL_law_610 : decode cL_law 610 = .ok (.invokevirtual 120, 3) := by decide +kernel
theorem dL_law_613 : decode cL_law 613 = .ok (.istore 6, 2) := by decide +kernel
theorem dL_law_615 : decode cL_law 615 = .ok (.aload_n 2, 1) := by decide +kernel
theorem dL_law_616 : decode cL_law 616 = .ok (.invokevirtual 86, 3) := by decide +kernel
theorem dL_law_619 : decode cL_law 619 = .ok (.iload 5, 2) := by decide +kernel
theorem dL_law_621 : decode cL_law 621 = .ok (.if_icmp .eq 5, 3) := by decide +kernel
theorem dL_law_624 : decode cL_law 624 = .ok (.iconst 0, 1) := by decide +kernel
theorem dL_law_625 : decode cL_law 625 = .ok (.ireturn, 1) := by decide +kernel
theorem dL_law_626 : decode cL_law 626 = .ok (.iload 5, 2) := by decide +kernel
theorem dL_law_628 : decode cL_law 628 = .ok (.ifCond .ne 15, 3) := by decide +kernel
theorem dL_law_631 : decode cL_law 631 = .ok (.aload_n 3, 1) := by decide +kernel
theorem dL_law_632 : decode cL_law 632 = .ok (.iconst 0, 1) := by decide +kernel
theorem dL_law_633 : decode cL_law 633 = .ok (.laload, 1) := by decide +kernel
theorem dL_law_634 : decode cL_law 634 = .ok (.iload 6, 2) := by decide +kernel
theorem dL_law_636 : decode cL_law 636 = .ok (.i2l, 1) := by decide +kernel
theorem dL_law_637 : decode cL_law 637 = .ok (.lcmp, 1) := by decide +kernel
theorem dL_law_638 : decode cL_law 638 = .ok (.ifCond .eq 5, 3) := by decide +kernel
theorem dL_law_641 : decode cL_law 641 = .ok (.iconst 0, 1) := by decide +kernel
theorem dL_law_642 : decode cL_law 642 = .ok (.ireturn, 1) := by decide +kernel
theorem dL_law_643 : decode cL_law 643 = .ok (.goto 759, 3) := by decide +kernel
theorem dL_law_646 : decode cL_law 646 = .ok (.aload_n 1, 1) := by decide +kernel
theorem dL_law_647 : decode cL_law 647 = .ok (.aload_n 0, 1) := by decide +kernel
theorem dL_law_648 : decode cL_law 648 = .ok (.iload 4, 2) := by decide +kernel
theorem dL_law_650 : decode cL_law 650 = .ok (.iconst 1, 1) := by decide +kernel
theorem dL_law_651 : decode cL_law 651 = .ok (.iadd, 1) := by decide +kernel
theorem dL_law_652 : decode cL_law 652 = .ok (.iaload, 1) := by decide +kernel
theorem dL_law_653 : decode cL_law 653 = .ok (.aload_n 3, 1) := by decide +kernel
theorem dL_law_654 : decode cL_law 654 = .ok (.invokestatic 121, 3) := by decide +kernel
theorem dL_law_657 : decode cL_law 657 = .ok (.istore 5, 2) := by decide +kernel
theorem dL_law_659 : decode cL_law 659 = .ok (.aload_n 2, 1) := by decide +kernel
theorem dL_law_660 : decode cL_law 660 = .ok (.aload_n 0, 1) := by decide +kernel
theorem dL_law_661 : decode cL_law 661 = .ok (.iload 4, 2) := by decide +kernel
theorem dL_law_663 : decode cL_law 663 = .ok (.iconst 1, 1) := by decide +kernel
theorem dL_law_664 : decode cL_law 664 = .ok (.iadd, 1) := by decide +kernel
theorem dL_law_665 : decode cL_law 665 = .ok (.iaload, 1) := by decide +kernel
theorem dL_law_666 : decode cL_law 666 = .ok (.invokevirtual 123, 3) := by decide +kernel
theorem dL_law_669 : decode cL_law 669 = .ok (.istore 6, 2) := by decide +kernel
theorem dL_law_671 : decode cL_law 671 = .ok (.aload_n 2, 1) := by decide +kernel
theorem dL_law_672 : decode cL_law 672 = .ok (.invokevirtual 86, 3) := by decide +kernel
theorem dL_law_675 : decode cL_law 675 = .ok (.iload 5, 2) := by decide +kernel
theorem dL_law_677 : decode cL_law 677 = .ok (.if_icmp .eq 5, 3) := by decide +kernel
theorem dL_law_680 : decode cL_law 680 = .ok (.iconst 0, 1) := by decide +kernel
theorem dL_law_681 : decode cL_law 681 = .ok (.ireturn, 1) := by decide +kernel
theorem dL_law_682 : decode cL_law 682 = .ok (.iload 5, 2) := by decide +kernel
theorem dL_law_684 : decode cL_law 684 = .ok (.ifCond .ne 15, 3) := by decide +kernel
theorem dL_law_687 : decode cL_law 687 = .ok (.aload_n 3, 1) := by decide +kernel
theorem dL_law_688 : decode cL_law 688 = .ok (.iconst 0, 1) := by decide +kernel
theorem dL_law_689 : decode cL_law 689 = .ok (.laload, 1) := by decide +kernel
theorem dL_law_690 : decode cL_law 690 = .ok (.iload 6, 2) := by decide +kernel
theorem dL_law_692 : decode cL_law 692 = .ok (.i2l, 1) := by decide +kernel
theorem dL_law_693 : decode cL_law 693 = .ok (.lcmp, 1) := by decide +kernel
theorem dL_law_694 : decode cL_law 694 = .ok (.ifCond .eq 5, 3) := by decide +kernel
theorem dL_law_697 : decode cL_law 697 = .ok (.iconst 0, 1) := by decide +kernel
theorem dL_law_698 : decode cL_law 698 = .ok (.ireturn, 1) := by decide +kernel
theorem dL_law_699 : decode cL_law 699 = .ok (.goto 703, 3) := by decide +kernel
theorem dL_law_702 : decode cL_law 702 = .ok (.aload_n 1, 1) := by decide +kernel
theorem dL_law_703 : decode cL_law 703 = .ok (.aload_n 0, 1) := by decide +kernel
theorem dL_law_704 : decode cL_law 704 = .ok (.iload 4, 2) := by decide +kernel
theorem dL_law_706 : decode cL_law 706 = .ok (.iconst 1, 1) := by decide +kernel
theorem dL_law_707 : decode cL_law 707 = .ok (.iadd, 1) := by decide +kernel
theorem dL_law_708 : decode cL_law 708 = .ok (.iaload, 1) := by decide +kernel
theorem dL_law_709 : decode cL_law 709 = .ok (.aload_n 3, 1) := by decide +kernel
theorem dL_law_710 : decode cL_law 710 = .ok (.invokestatic 124, 3) := by decide +kernel
theorem dL_law_713 : decode cL_law 713 = .ok (.istore 5, 2) := by decide +kernel
theorem dL_law_715 : decode cL_law 715 = .ok (.aload_n 2, 1) := by decide +kernel
theorem dL_law_716 : decode cL_law 716 = .ok (.aload_n 0, 1) := by decide +kernel
theorem dL_law_717 : decode cL_law 717 = .ok (.iload 4, 2) := by decide +kernel
theorem dL_law_719 : decode cL_law 719 = .ok (.iconst 1, 1) := by decide +kernel
theorem dL_law_720 : decode cL_law 720 = .ok (.iadd, 1) := by decide +kernel
theorem dL_law_721 : decode cL_law 721 = .ok (.iaload, 1) := by decide +kernel
theorem dL_law_722 : decode cL_law 722 = .ok (.invokevirtual 126, 3) := by decide +kernel
theorem dL_law_725 : decode cL_law 725 = .ok (.istore 6, 2) := by decide +kernel
theorem dL_law_727 : decode cL_law 727 = .ok (.aload_n 2, 1) := by decide +kernel
theorem dL_law_728 : decode cL_law 728 = .ok (.invokevirtual 86, 3) := by decide +kernel
theorem dL_law_731 : decode cL_law 731 = .ok (.iload 5, 2) := by decide +kernel
theorem dL_law_733 : decode cL_law 733 = .ok (.if_icmp .eq 5, 3) := by decide +kernel
theorem dL_law_736 : decode cL_law 736 = .ok (.iconst 0, 1) := by decide +kernel
theorem dL_law_737 : decode cL_law 737 = .ok (.ireturn, 1) := by decide +kernel
theorem dL_law_738 : decode cL_law 738 = .ok (.iload 5, 2) := by decide +kernel
theorem dL_law_740 : decode cL_law 740 = .ok (.ifCond .ne 15, 3) := by decide +kernel
theorem dL_law_743 : decode cL_law 743 = .ok (.aload_n 3, 1) := by decide +kernel
theorem dL_law_744 : decode cL_law 744 = .ok (.iconst 0, 1) := by decide +kernel
theorem dL_law_745 : decode cL_law 745 = .ok (.laload, 1) := by decide +kernel
theorem dL_law_746 : decode cL_law 746 = .ok (.iload 6, 2) := by decide +kernel
theorem dL_law_748 : decode cL_law 748 = .ok (.i2l, 1) := by decide +kernel
theorem dL_law_749 : decode cL_law 749 = .ok (.lcmp, 1) := by decide +kernel
theorem dL_law_750 : decode cL_law 750 = .ok (.ifCond .eq 5, 3) := by decide +kernel
theorem dL_law_753 : decode cL_law 753 = .ok (.iconst 0, 1) := by decide +kernel
theorem dL_law_754 : decode cL_law 754 = .ok (.ireturn, 1) := by decide +kernel
theorem dL_law_755 : decode cL_law 755 = .ok (.goto 647, 3) := by decide +kernel
theorem dL_law_758 : decode cL_law 758 = .ok (.aload_n 1, 1) := by decide +kernel
theorem dL_law_759 : decode cL_law 759 = .ok (.aload_n 3, 1) := by decide +kernel
theorem dL_law_760 : decode cL_law 760 = .ok (.invokestatic 127, 3) := by decide +kernel
theorem dL_law_763 : decode cL_law 763 = .ok (.istore 5, 2) := by decide +kernel
theorem dL_law_765 : decode cL_law 765 = .ok (.aload_n 2, 1) := by decide +kernel
theorem dL_law_766 : decode cL_law 766 = .ok (.invokevirtual 129, 3) := by decide +kernel
theorem dL_law_769 : decode cL_law 769 = .ok (.istore 6, 2) := by decide +kernel
theorem dL_law_771 : decode cL_law 771 = .ok (.aload_n 2, 1) := by decide +kernel
theorem dL_law_772 : decode cL_law 772 = .ok (.invokevirtual 86, 3) := by decide +kernel
theorem dL_law_775 : decode cL_law 775 = .ok (.iload 5, 2) := by decide +kernel
theorem dL_law_777 : decode cL_law 777 = .ok (.if_icmp .eq 5, 3) := by decide +kernel
theorem dL_law_780 : decode cL_law 780 = .ok (.iconst 0, 1) := by decide +kernel
theorem dL_law_781 : decode cL_law 781 = .ok (.ireturn, 1) := by decide +kernel
theorem dL_law_782 : decode cL_law 782 = .ok (.iload 5, 2) := by decide +kernel
theorem dL_law_784 : decode cL_law 784 = .ok (.ifCond .ne 15, 3) := by decide +kernel
theorem dL_law_787 : decode cL_law 787 = .ok (.aload_n 3, 1) := by decide +kernel
theorem dL_law_788 : decode cL_law 788 = .ok (.iconst 0, 1) := by decide +kernel
theorem dL_law_789 : decode cL_law 789 = .ok (.laload, 1) := by decide +kernel
theorem dL_law_790 : decode cL_law 790 = .ok (.iload 6, 2) := by decide +kernel
theorem dL_law_792 : decode cL_law 792 = .ok (.i2l, 1) := by decide +kernel
theorem dL_law_793 : decode cL_law 793 = .ok (.lcmp, 1) := by decide +kernel
theorem dL_law_794 : decode cL_law 794 = .ok (.ifCond .eq 5, 3) := by decide +kernel
theorem dL_law_797 : decode cL_law 797 = .ok (.iconst 0, 1) := by decide +kernel
theorem dL_law_798 : decode cL_law 798 = .ok (.ireturn, 1) := by decide +kernel
theorem dL_law_799 : decode cL_law 799 = .ok (.goto 603, 3) := by decide +kernel
theorem dL_law_802 : decode cL_law 802 = .ok (.aload_n 1, 1) := by decide +kernel
theorem dL_law_803 : decode cL_law 803 = .ok (.aload_n 0, 1) := by decide +kernel
theorem dL_law_804 : decode cL_law 804 = .ok (.iload 4, 2) := by decide +kernel
theorem dL_law_806 : decode cL_law 806 = .ok (.iconst 1, 1) := by decide +kernel
theorem dL_law_807 : decode cL_law 807 = .ok (.iadd, 1) := by decide +kernel
theorem dL_law_808 : decode cL_law 808 = .ok (.iaload, 1) := by decide +kernel
theorem dL_law_809 : decode cL_law 809 = .ok (.aload_n 0, 1) := by decide +kernel
theorem dL_law_810 : decode cL_law 810 = .ok (.iload 4, 2) := by decide +kernel
theorem dL_law_812 : decode cL_law 812 = .ok (.iconst 2, 1) := by decide +kernel
theorem dL_law_813 : decode cL_law 813 = .ok (.iadd, 1) := by decide +kernel
theorem dL_law_814 : decode cL_law 814 = .ok (.iaload, 1) := by decide +kernel
theorem dL_law_815 : decode cL_law 815 = .ok (.aload_n 3, 1) := by decide +kernel
theorem dL_law_816 : decode cL_law 816 = .ok (.invokestatic 130, 3) := by decide +kernel
theorem dL_law_819 : decode cL_law 819 = .ok (.istore 5, 2) := by decide +kernel
theorem dL_law_821 : decode cL_law 821 = .ok (.aload_n 2, 1) := by decide +kernel
theorem dL_law_822 : decode cL_law 822 = .ok (.aload_n 0, 1) := by decide +kernel
theorem dL_law_823 : decode cL_law 823 = .ok (.iload 4, 2) := by decide +kernel
theorem dL_law_825 : decode cL_law 825 = .ok (.iconst 1, 1) := by decide +kernel
theorem dL_law_826 : decode cL_law 826 = .ok (.iadd, 1) := by decide +kernel
theorem dL_law_827 : decode cL_law 827 = .ok (.iaload, 1) := by decide +kernel
theorem dL_law_828 : decode cL_law 828 = .ok (.aload_n 0, 1) := by decide +kernel
theorem dL_law_829 : decode cL_law 829 = .ok (.iload 4, 2) := by decide +kernel
theorem dL_law_831 : decode cL_law 831 = .ok (.iconst 2, 1) := by decide +kernel
theorem dL_law_832 : decode cL_law 832 = .ok (.iadd, 1) := by decide +kernel
theorem dL_law_833 : decode cL_law 833 = .ok (.iaload, 1) := by decide +kernel
theorem dL_law_834 : decode cL_law 834 = .ok (.invokevirtual 132, 3) := by decide +kernel
theorem dL_law_837 : decode cL_law 837 = .ok (.istore 6, 2) := by decide +kernel
theorem dL_law_839 : decode cL_law 839 = .ok (.aload_n 2, 1) := by decide +kernel
theorem dL_law_840 : decode cL_law 840 = .ok (.invokevirtual 86, 3) := by decide +kernel
theorem dL_law_843 : decode cL_law 843 = .ok (.iload 5, 2) := by decide +kernel
theorem dL_law_845 : decode cL_law 845 = .ok (.if_icmp .eq 5, 3) := by decide +kernel
theorem dL_law_848 : decode cL_law 848 = .ok (.iconst 0, 1) := by decide +kernel
theorem dL_law_849 : decode cL_law 849 = .ok (.ireturn, 1) := by decide +kernel
theorem dL_law_850 : decode cL_law 850 = .ok (.iload 5, 2) := by decide +kernel
theorem dL_law_852 : decode cL_law 852 = .ok (.ifCond .ne 15, 3) := by decide +kernel
theorem dL_law_855 : decode cL_law 855 = .ok (.aload_n 3, 1) := by decide +kernel
theorem dL_law_856 : decode cL_law 856 = .ok (.iconst 0, 1) := by decide +kernel
theorem dL_law_857 : decode cL_law 857 = .ok (.laload, 1) := by decide +kernel
theorem dL_law_858 : decode cL_law 858 = .ok (.iload 6, 2) := by decide +kernel
theorem dL_law_860 : decode cL_law 860 = .ok (.i2l, 1) := by decide +kernel
theorem dL_law_861 : decode cL_law 861 = .ok (.lcmp, 1) := by decide +kernel
theorem dL_law_862 : decode cL_law 862 = .ok (.ifCond .eq 5, 3) := by decide +kernel
theorem dL_law_865 : decode cL_law 865 = .ok (.iconst 0, 1) := by decide +kernel
theorem dL_law_866 : decode cL_law 866 = .ok (.ireturn, 1) := by decide +kernel
theorem dL_law_867 : decode cL_law 867 = .ok (.goto 535, 3) := by decide +kernel
theorem dL_law_870 : decode cL_law 870 = .ok (.aload_n 1, 1) := by decide +kernel
theorem dL_law_871 : decode cL_law 871 = .ok (.aload_n 0, 1) := by decide +kernel
theorem dL_law_872 : decode cL_law 872 = .ok (.iload 4, 2) := by decide +kernel
theorem dL_law_874 : decode cL_law 874 = .ok (.iconst 1, 1) := by decide +kernel
theorem dL_law_875 : decode cL_law 875 = .ok (.iadd, 1) := by decide +kernel
theorem dL_law_876 : decode cL_law 876 = .ok (.iaload, 1) := by decide +kernel
theorem dL_law_877 : decode cL_law 877 = .ok (.aload_n 0, 1) := by decide +kernel
theorem dL_law_878 : decode cL_law 878 = .ok (.iload 4, 2) := by decide +kernel
theorem dL_law_880 : decode cL_law 880 = .ok (.iconst 2, 1) := by decide +kernel
theorem dL_law_881 : decode cL_law 881 = .ok (.iadd, 1) := by decide +kernel
theorem dL_law_882 : decode cL_law 882 = .ok (.iaload, 1) := by decide +kernel
theorem dL_law_883 : decode cL_law 883 = .ok (.aload_n 3, 1) := by decide +kernel
theorem dL_law_884 : decode cL_law 884 = .ok (.invokestatic 133, 3) := by decide +kernel
theorem dL_law_887 : decode cL_law 887 = .ok (.istore 5, 2) := by decide +kernel
theorem dL_law_889 : decode cL_law 889 = .ok (.aload_n 2, 1) := by decide +kernel
theorem dL_law_890 : decode cL_law 890 = .ok (.aload_n 0, 1) := by decide +kernel
theorem dL_law_891 : decode cL_law 891 = .ok (.iload 4, 2) := by decide +kernel
theorem dL_law_893 : decode cL_law 893 = .ok (.iconst 1, 1) := by decide +kernel
theorem dL_law_894 : decode cL_law 894 = .ok (.iadd, 1) := by decide +kernel
theorem dL_law_895 : decode cL_law 895 = .ok (.iaload, 1) := by decide +kernel
theorem dL_law_896 : decode cL_law 896 = .ok (.aload_n 0, 1) := by decide +kernel
theorem dL_law_897 : decode cL_law 897 = .ok (.iload 4, 2) := by decide +kernel
theorem dL_law_899 : decode cL_law 899 = .ok (.iconst 2, 1) := by decide +kernel
theorem dL_law_900 : decode cL_law 900 = .ok (.iadd, 1) := by decide +kernel
theorem dL_law_901 : decode cL_law 901 = .ok (.iaload, 1) := by decide +kernel
theorem dL_law_902 : decode cL_law 902 = .ok (.invokevirtual 135, 3) := by decide +kernel
theorem dL_law_905 : decode cL_law 905 = .ok (.istore 6, 2) := by decide +kernel
theorem dL_law_907 : decode cL_law 907 = .ok (.aload_n 2, 1) := by decide +kernel
theorem dL_law_908 : decode cL_law 908 = .ok (.invokevirtual 86, 3) := by decide +kernel
theorem dL_law_911 : decode cL_law 911 = .ok (.iload 5, 2) := by decide +kernel
theorem dL_law_913 : decode cL_law 913 = .ok (.if_icmp .eq 5, 3) := by decide +kernel
theorem dL_law_916 : decode cL_law 916 = .ok (.iconst 0, 1) := by decide +kernel
theorem dL_law_917 : decode cL_law 917 = .ok (.ireturn, 1) := by decide +kernel
theorem dL_law_918 : decode cL_law 918 = .ok (.iload 5, 2) := by decide +kernel
theorem dL_law_920 : decode cL_law 920 = .ok (.ifCond .ne 15, 3) := by decide +kernel
theorem dL_law_923 : decode cL_law 923 = .ok (.aload_n 3, 1) := by decide +kernel
theorem dL_law_924 : decode cL_law 924 = .ok (.iconst 0, 1) := by decide +kernel
theorem dL_law_925 : decode cL_law 925 = .ok (.laload, 1) := by decide +kernel
theorem dL_law_926 : decode cL_law 926 = .ok (.iload 6, 2) := by decide +kernel
theorem dL_law_928 : decode cL_law 928 = .ok (.i2l, 1) := by decide +kernel
theorem dL_law_929 : decode cL_law 929 = .ok (.lcmp, 1) := by decide +kernel
theorem dL_law_930 : decode cL_law 930 = .ok (.ifCond .eq 5, 3) := by decide +kernel
theorem dL_law_933 : decode cL_law 933 = .ok (.iconst 0, 1) := by decide +kernel
theorem dL_law_934 : decode cL_law 934 = .ok (.ireturn, 1) := by decide +kernel
theorem dL_law_935 : decode cL_law 935 = .ok (.goto 467, 3) := by decide +kernel
theorem dL_law_938 : decode cL_law 938 = .ok (.aload_n 1, 1) := by decide +kernel
theorem dL_law_939 : decode cL_law 939 = .ok (.aload_n 0, 1) := by decide +kernel
theorem dL_law_940 : decode cL_law 940 = .ok (.iload 4, 2) := by decide +kernel
theorem dL_law_942 : decode cL_law 942 = .ok (.iconst 1, 1) := by decide +kernel
theorem dL_law_943 : decode cL_law 943 = .ok (.iadd, 1) := by decide +kernel
theorem dL_law_944 : decode cL_law 944 = .ok (.iaload, 1) := by decide +kernel
theorem dL_law_945 : decode cL_law 945 = .ok (.aload_n 3, 1) := by decide +kernel
theorem dL_law_946 : decode cL_law 946 = .ok (.invokestatic 136, 3) := by decide +kernel
theorem dL_law_949 : decode cL_law 949 = .ok (.istore 5, 2) := by decide +kernel
theorem dL_law_951 : decode cL_law 951 = .ok (.aload_n 2, 1) := by decide +kernel
theorem dL_law_952 : decode cL_law 952 = .ok (.aload_n 0, 1) := by decide +kernel
theorem dL_law_953 : decode cL_law 953 = .ok (.iload 4, 2) := by decide +kernel
theorem dL_law_955 : decode cL_law 955 = .ok (.iconst 1, 1) := by decide +kernel
theorem dL_law_956 : decode cL_law 956 = .ok (.iadd, 1) := by decide +kernel
theorem dL_law_957 : decode cL_law 957 = .ok (.iaload, 1) := by decide +kernel
theorem dL_law_958 : decode cL_law 958 = .ok (.invokevirtual 138, 3) := by decide +kernel
theorem dL_law_961 : decode cL_law 961 = .ok (.istore 6, 2) := by decide +kernel
theorem dL_law_963 : decode cL_law 963 = .ok (.aload_n 2, 1) := by decide +kernel
theorem dL_law_964 : decode cL_law 964 = .ok (.invokevirtual 86, 3) := by decide +kernel
theorem dL_law_967 : decode cL_law 967 = .ok (.iload 5, 2) := by decide +kernel
theorem dL_law_969 : decode cL_law 969 = .ok (.if_icmp .eq 5, 3) := by decide +kernel
theorem dL_law_972 : decode cL_law 972 = .ok (.iconst 0, 1) := by decide +kernel
theorem dL_law_973 : decode cL_law 973 = .ok (.ireturn, 1) := by decide +kernel
theorem dL_law_974 : decode cL_law 974 = .ok (.iload 5, 2) := by decide +kernel
theorem dL_law_976 : decode cL_law 976 = .ok (.ifCond .ne 15, 3) := by decide +kernel
theorem dL_law_979 : decode cL_law 979 = .ok (.aload_n 3, 1) := by decide +kernel
theorem dL_law_980 : decode cL_law 980 = .ok (.iconst 0, 1) := by decide +kernel
theorem dL_law_981 : decode cL_law 981 = .ok (.laload, 1) := by decide +kernel
theorem dL_law_982 : decode cL_law 982 = .ok (.iload 6, 2) := by decide +kernel
theorem dL_law_984 : decode cL_law 984 = .ok (.i2l, 1) := by decide +kernel
theorem dL_law_985 : decode cL_law 985 = .ok (.lcmp, 1) := by decide +kernel
theorem dL_law_986 : decode cL_law 986 = .ok (.ifCond .eq 5, 3) := by decide +kernel
theorem dL_law_989 : decode cL_law 989 = .ok (.iconst 0, 1) := by decide +kernel
theorem dL_law_990 : decode cL_law 990 = .ok (.ireturn, 1) := by decide +kernel
theorem dL_law_991 : decode cL_law 991 = .ok (.goto 411, 3) := by decide +kernel
theorem dL_law_994 : decode cL_law 994 = .ok (.aload_n 1, 1) := by decide +kernel
theorem dL_law_995 : decode cL_law 995 = .ok (.aload_n 0, 1) := by decide +kernel
theorem dL_law_996 : decode cL_law 996 = .ok (.iload 4, 2) := by decide +kernel
theorem dL_law_998 : decode cL_law 998 = .ok (.iconst 1, 1) := by decide +kernel
theorem dL_law_999 : decode cL_law 999 = .ok (.iadd, 1) := by decide +kernel
theorem dL_law_1000 : decode cL_law 1000 = .ok (.iaload, 1) := by decide +kernel
theorem dL_law_1001 : decode cL_law 1001 = .ok (.aload_n 3, 1) := by decide +kernel
theorem dL_law_1002 : decode cL_law 1002 = .ok (.invokestatic 139, 3) := by decide +kernel
theorem dL_law_1005 : decode cL_law 1005 = .ok (.istore 5, 2) := by decide +kernel
theorem dL_law_1007 : decode cL_law 1007 = .ok (.aload_n 2, 1) := by decide +kernel
theorem dL_law_1008 : decode cL_law 1008 = .ok (.aload_n 0, 1) := by decide +kernel
theorem dL_law_1009 : decode cL_law 1009 = .ok (.iload 4, 2) := by decide +kernel
theorem dL_law_1011 : decode cL_law 1011 = .ok (.iconst 1, 1) := by decide +kernel
theorem dL_law_1012 : decode cL_law 1012 = .ok (.iadd, 1) := by decide +kernel
theorem dL_law_1013 : decode cL_law 1013 = .ok (.iaload, 1) := by decide +kernel
theorem dL_law_1014 : decode cL_law 1014 = .ok (.invokevirtual 141, 3) := by decide +kernel
theorem dL_law_1017 : decode cL_law 1017 = .ok (.istore 6, 2) := by decide +kernel
theorem dL_law_1019 : decode cL_law 1019 = .ok (.aload_n 2, 1) := by decide +kernel
theorem dL_law_1020 : decode cL_law 1020 = .ok (.invokevirtual 86, 3) := by decide +kernel
theorem dL_law_1023 : decode cL_law 1023 = .ok (.iload 5, 2) := by decide +kernel
theorem dL_law_1025 : decode cL_law 1025 = .ok (.if_icmp .eq 5, 3) := by decide +kernel
theorem dL_law_1028 : decode cL_law 1028 = .ok (.iconst 0, 1) := by decide +kernel
theorem dL_law_1029 : decode cL_law 1029 = .ok (.ireturn, 1) := by decide +kernel
theorem dL_law_1030 : decode cL_law 1030 = .ok (.iload 5, 2) := by decide +kernel
theorem dL_law_1032 : decode cL_law 1032 = .ok (.ifCond .ne 15, 3) := by decide +kernel
theorem dL_law_1035 : decode cL_law 1035 = .ok (.aload_n 3, 1) := by decide +kernel
theorem dL_law_1036 : decode cL_law 1036 = .ok (.iconst 0, 1) := by decide +kernel
theorem dL_law_1037 : decode cL_law 1037 = .ok (.laload, 1) := by decide +kernel
theorem dL_law_1038 : decode cL_law 1038 = .ok (.iload 6, 2) := by decide +kernel
theorem dL_law_1040 : decode cL_law 1040 = .ok (.i2l, 1) := by decide +kernel
theorem dL_law_1041 : decode cL_law 1041 = .ok (.lcmp, 1) := by decide +kernel
theorem dL_law_1042 : decode cL_law 1042 = .ok (.ifCond .eq 5, 3) := by decide +kernel
theorem dL_law_1045 : decode cL_law 1045 = .ok (.iconst 0, 1) := by decide +kernel
theorem dL_law_1046 : decode cL_law 1046 = .ok (.ireturn, 1) := by decide +kernel
theorem dL_law_1047 : decode cL_law 1047 = .ok (.goto 355, 3) := by decide +kernel
theorem dL_law_1050 : decode cL_law 1050 = .ok (.aload_n 1, 1) := by decide +kernel
theorem dL_law_1051 : decode cL_law 1051 = .ok (.aload_n 0, 1) := by decide +kernel
theorem dL_law_1052 : decode cL_law 1052 = .ok (.iload 4, 2) := by decide +kernel
theorem dL_law_1054 : decode cL_law 1054 = .ok (.iconst 1, 1) := by decide +kernel
theorem dL_law_1055 : decode cL_law 1055 = .ok (.iadd, 1) := by decide +kernel
theorem dL_law_1056 : decode cL_law 1056 = .ok (.iaload, 1) := by decide +kernel
theorem dL_law_1057 : decode cL_law 1057 = .ok (.aload_n 0, 1) := by decide +kernel
theorem dL_law_1058 : decode cL_law 1058 = .ok (.iload 4, 2) := by decide +kernel
theorem dL_law_1060 : decode cL_law 1060 = .ok (.iconst 2, 1) := by decide +kernel
theorem dL_law_1061 : decode cL_law 1061 = .ok (.iadd, 1) := by decide +kernel
theorem dL_law_1062 : decode cL_law 1062 = .ok (.iaload, 1) := by decide +kernel
theorem dL_law_1063 : decode cL_law 1063 = .ok (.aload_n 0, 1) := by decide +kernel
theorem dL_law_1064 : decode cL_law 1064 = .ok (.iload 4, 2) := by decide +kernel
theorem dL_law_1066 : decode cL_law 1066 = .ok (.iconst 3, 1) := by decide +kernel
theorem dL_law_1067 : decode cL_law 1067 = .ok (.iadd, 1) := by decide +kernel
theorem dL_law_1068 : decode cL_law 1068 = .ok (.iaload, 1) := by decide +kernel
theorem dL_law_1069 : decode cL_law 1069 = .ok (.aload_n 3, 1) := by decide +kernel
theorem dL_law_1070 : decode cL_law 1070 = .ok (.invokestatic 142, 3) := by decide +kernel
theorem dL_law_1073 : decode cL_law 1073 = .ok (.istore 5, 2) := by decide +kernel
theorem dL_law_1075 : decode cL_law 1075 = .ok (.aload_n 2, 1) := by decide +kernel
theorem dL_law_1076 : decode cL_law 1076 = .ok (.aload_n 0, 1) := by decide +kernel
theorem dL_law_1077 : decode cL_law 1077 = .ok (.iload 4, 2) := by decide +kernel
theorem dL_law_1079 : decode cL_law 1079 = .ok (.iconst 1, 1) := by decide +kernel
theorem dL_law_1080 : decode cL_law 1080 = .ok (.iadd, 1) := by decide +kernel
theorem dL_law_1081 : decode cL_law 1081 = .ok (.iaload, 1) := by decide +kernel
theorem dL_law_1082 : decode cL_law 1082 = .ok (.aload_n 0, 1) := by decide +kernel
theorem dL_law_1083 : decode cL_law 1083 = .ok (.iload 4, 2) := by decide +kernel
theorem dL_law_1085 : decode cL_law 1085 = .ok (.iconst 2, 1) := by decide +kernel
theorem dL_law_1086 : decode cL_law 1086 = .ok (.iadd, 1) := by decide +kernel
theorem dL_law_1087 : decode cL_law 1087 = .ok (.iaload, 1) := by decide +kernel
theorem dL_law_1088 : decode cL_law 1088 = .ok (.aload_n 0, 1) := by decide +kernel
theorem dL_law_1089 : decode cL_law 1089 = .ok (.iload 4, 2) := by decide +kernel
theorem dL_law_1091 : decode cL_law 1091 = .ok (.iconst 3, 1) := by decide +kernel
theorem dL_law_1092 : decode cL_law 1092 = .ok (.iadd, 1) := by decide +kernel
theorem dL_law_1093 : decode cL_law 1093 = .ok (.iaload, 1) := by decide +kernel
theorem dL_law_1094 : decode cL_law 1094 = .ok (.invokevirtual 144, 3) := by decide +kernel
theorem dL_law_1097 : decode cL_law 1097 = .ok (.istore 6, 2) := by decide +kernel
theorem dL_law_1099 : decode cL_law 1099 = .ok (.aload_n 2, 1) := by decide +kernel
theorem dL_law_1100 : decode cL_law 1100 = .ok (.invokevirtual 86, 3) := by decide +kernel
theorem dL_law_1103 : decode cL_law 1103 = .ok (.iload 5, 2) := by decide +kernel
theorem dL_law_1105 : decode cL_law 1105 = .ok (.if_icmp .eq 5, 3) := by decide +kernel
theorem dL_law_1108 : decode cL_law 1108 = .ok (.iconst 0, 1) := by decide +kernel
theorem dL_law_1109 : decode cL_law 1109 = .ok (.ireturn, 1) := by decide +kernel
theorem dL_law_1110 : decode cL_law 1110 = .ok (.iload 5, 2) := by decide +kernel
theorem dL_law_1112 : decode cL_law 1112 = .ok (.ifCond .ne 15, 3) := by decide +kernel
theorem dL_law_1115 : decode cL_law 1115 = .ok (.aload_n 3, 1) := by decide +kernel
theorem dL_law_1116 : decode cL_law 1116 = .ok (.iconst 0, 1) := by decide +kernel
theorem dL_law_1117 : decode cL_law 1117 = .ok (.laload, 1) := by decide +kernel
theorem dL_law_1118 : decode cL_law 1118 = .ok (.iload 6, 2) := by decide +kernel
theorem dL_law_1120 : decode cL_law 1120 = .ok (.i2l, 1) := by decide +kernel
theorem dL_law_1121 : decode cL_law 1121 = .ok (.lcmp, 1) := by decide +kernel
theorem dL_law_1122 : decode cL_law 1122 = .ok (.ifCond .eq 5, 3) := by decide +kernel
theorem dL_law_1125 : decode cL_law 1125 = .ok (.iconst 0, 1) := by decide +kernel
theorem dL_law_1126 : decode cL_law 1126 = .ok (.ireturn, 1) := by decide +kernel
theorem dL_law_1127 : decode cL_law 1127 = .ok (.goto 275, 3) := by decide +kernel
theorem dL_law_1130 : decode cL_law 1130 = .ok (.aload_n 1, 1) := by decide +kernel
theorem dL_law_1131 : decode cL_law 1131 = .ok (.aload_n 0, 1) := by decide +kernel
theorem dL_law_1132 : decode cL_law 1132 = .ok (.iload 4, 2) := by decide +kernel
theorem dL_law_1134 : decode cL_law 1134 = .ok (.iconst 1, 1) := by decide +kernel
theorem dL_law_1135 : decode cL_law 1135 = .ok (.iadd, 1) := by decide +kernel
theorem dL_law_1136 : decode cL_law 1136 = .ok (.iaload, 1) := by decide +kernel
theorem dL_law_1137 : decode cL_law 1137 = .ok (.aload_n 0, 1) := by decide +kernel
theorem dL_law_1138 : decode cL_law 1138 = .ok (.iload 4, 2) := by decide +kernel
theorem dL_law_1140 : decode cL_law 1140 = .ok (.iconst 2, 1) := by decide +kernel
theorem dL_law_1141 : decode cL_law 1141 = .ok (.iadd, 1) := by decide +kernel
theorem dL_law_1142 : decode cL_law 1142 = .ok (.iaload, 1) := by decide +kernel
theorem dL_law_1143 : decode cL_law 1143 = .ok (.aload_n 0, 1) := by decide +kernel
theorem dL_law_1144 : decode cL_law 1144 = .ok (.iload 4, 2) := by decide +kernel
theorem dL_law_1146 : decode cL_law 1146 = .ok (.iconst 3, 1) := by decide +kernel
theorem dL_law_1147 : decode cL_law 1147 = .ok (.iadd, 1) := by decide +kernel
theorem dL_law_1148 : decode cL_law 1148 = .ok (.iaload, 1) := by decide +kernel
theorem dL_law_1149 : decode cL_law 1149 = .ok (.aload_n 3, 1) := by decide +kernel
theorem dL_law_1150 : decode cL_law 1150 = .ok (.invokestatic 145, 3) := by decide +kernel
theorem dL_law_1153 : decode cL_law 1153 = .ok (.istore 5, 2) := by decide +kernel
theorem dL_law_1155 : decode cL_law 1155 = .ok (.aload_n 2, 1) := by decide +kernel
theorem dL_law_1156 : decode cL_law 1156 = .ok (.aload_n 0, 1) := by decide +kernel
theorem dL_law_1157 : decode cL_law 1157 = .ok (.iload 4, 2) := by decide +kernel
theorem dL_law_1159 : decode cL_law 1159 = .ok (.iconst 1, 1) := by decide +kernel
theorem dL_law_1160 : decode cL_law 1160 = .ok (.iadd, 1) := by decide +kernel
theorem dL_law_1161 : decode cL_law 1161 = .ok (.iaload, 1) := by decide +kernel
theorem dL_law_1162 : decode cL_law 1162 = .ok (.aload_n 0, 1) := by decide +kernel
theorem dL_law_1163 : decode cL_law 1163 = .ok (.iload 4, 2) := by decide +kernel
theorem dL_law_1165 : decode cL_law 1165 = .ok (.iconst 2, 1) := by decide +kernel
theorem dL_law_1166 : decode cL_law 1166 = .ok (.iadd, 1) := by decide +kernel
theorem dL_law_1167 : decode cL_law 1167 = .ok (.iaload, 1) := by decide +kernel
theorem dL_law_1168 : decode cL_law 1168 = .ok (.aload_n 0, 1) := by decide +kernel
theorem dL_law_1169 : decode cL_law 1169 = .ok (.iload 4, 2) := by decide +kernel
theorem dL_law_1171 : decode cL_law 1171 = .ok (.iconst 3, 1) := by decide +kernel
theorem dL_law_1172 : decode cL_law 1172 = .ok (.iadd, 1) := by decide +kernel
theorem dL_law_1173 : decode cL_law 1173 = .ok (.iaload, 1) := by decide +kernel
theorem dL_law_1174 : decode cL_law 1174 = .ok (.invokevirtual 147, 3) := by decide +kernel
theorem dL_law_1177 : decode cL_law 1177 = .ok (.istore 6, 2) := by decide +kernel
theorem dL_law_1179 : decode cL_law 1179 = .ok (.aload_n 2, 1) := by decide +kernel
theorem dL_law_1180 : decode cL_law 1180 = .ok (.invokevirtual 86, 3) := by decide +kernel
theorem dL_law_1183 : decode cL_law 1183 = .ok (.iload 5, 2) := by decide +kernel
theorem dL_law_1185 : decode cL_law 1185 = .ok (.if_icmp .eq 5, 3) := by decide +kernel
theorem dL_law_1188 : decode cL_law 1188 = .ok (.iconst 0, 1) := by decide +kernel
theorem dL_law_1189 : decode cL_law 1189 = .ok (.ireturn, 1) := by decide +kernel
theorem dL_law_1190 : decode cL_law 1190 = .ok (.iload 5, 2) := by decide +kernel
theorem dL_law_1192 : decode cL_law 1192 = .ok (.ifCond .ne 15, 3) := by decide +kernel
theorem dL_law_1195 : decode cL_law 1195 = .ok (.aload_n 3, 1) := by decide +kernel
theorem dL_law_1196 : decode cL_law 1196 = .ok (.iconst 0, 1) := by decide +kernel
theorem dL_law_1197 : decode cL_law 1197 = .ok (.laload, 1) := by decide +kernel
theorem dL_law_1198 : decode cL_law 1198 = .ok (.iload 6, 2) := by decide +kernel
theorem dL_law_1200 : decode cL_law 1200 = .ok (.i2l, 1) := by decide +kernel
theorem dL_law_1201 : decode cL_law 1201 = .ok (.lcmp, 1) := by decide +kernel
theorem dL_law_1202 : decode cL_law 1202 = .ok (.ifCond .eq 5, 3) := by decide +kernel
theorem dL_law_1205 : decode cL_law 1205 = .ok (.iconst 0, 1) := by decide +kernel
theorem dL_law_1206 : decode cL_law 1206 = .ok (.ireturn, 1) := by decide +kernel
theorem dL_law_1207 : decode cL_law 1207 = .ok (.goto 195, 3) := by decide +kernel
theorem dL_law_1210 : decode cL_law 1210 = .ok (.aload_n 1, 1) := by decide +kernel
theorem dL_law_1211 : decode cL_law 1211 = .ok (.aload_n 0, 1) := by decide +kernel
theorem dL_law_1212 : decode cL_law 1212 = .ok (.iload 4, 2) := by decide +kernel
theorem dL_law_1214 : decode cL_law 1214 = .ok (.iconst 1, 1) := by decide +kernel
theorem dL_law_1215 : decode cL_law 1215 = .ok (.iadd, 1) := by decide +kernel
theorem dL_law_1216 : decode cL_law 1216 = .ok (.iaload, 1) := by decide +kernel
theorem dL_law_1217 : decode cL_law 1217 = .ok (.aload_n 3, 1) := by decide +kernel
theorem dL_law_1218 : decode cL_law 1218 = .ok (.invokestatic 148, 3) := by decide +kernel
theorem dL_law_1221 : decode cL_law 1221 = .ok (.istore 5, 2) := by decide +kernel
theorem dL_law_1223 : decode cL_law 1223 = .ok (.aload_n 2, 1) := by decide +kernel
theorem dL_law_1224 : decode cL_law 1224 = .ok (.aload_n 0, 1) := by decide +kernel
theorem dL_law_1225 : decode cL_law 1225 = .ok (.iload 4, 2) := by decide +kernel
theorem dL_law_1227 : decode cL_law 1227 = .ok (.iconst 1, 1) := by decide +kernel
theorem dL_law_1228 : decode cL_law 1228 = .ok (.iadd, 1) := by decide +kernel
theorem dL_law_1229 : decode cL_law 1229 = .ok (.iaload, 1) := by decide +kernel
theorem dL_law_1230 : decode cL_law 1230 = .ok (.invokevirtual 150, 3) := by decide +kernel
theorem dL_law_1233 : decode cL_law 1233 = .ok (.istore 6, 2) := by decide +kernel
theorem dL_law_1235 : decode cL_law 1235 = .ok (.aload_n 2, 1) := by decide +kernel
theorem dL_law_1236 : decode cL_law 1236 = .ok (.invokevirtual 86, 3) := by decide +kernel
theorem dL_law_1239 : decode cL_law 1239 = .ok (.iload 5, 2) := by decide +kernel
theorem dL_law_1241 : decode cL_law 1241 = .ok (.if_icmp .eq 5, 3) := by decide +kernel
theorem dL_law_1244 : decode cL_law 1244 = .ok (.iconst 0, 1) := by decide +kernel
theorem dL_law_1245 : decode cL_law 1245 = .ok (.ireturn, 1) := by decide +kernel
theorem dL_law_1246 : decode cL_law 1246 = .ok (.iload 5, 2) := by decide +kernel
theorem dL_law_1248 : decode cL_law 1248 = .ok (.ifCond .ne 15, 3) := by decide +kernel
theorem dL_law_1251 : decode cL_law 1251 = .ok (.aload_n 3, 1) := by decide +kernel
theorem dL_law_1252 : decode cL_law 1252 = .ok (.iconst 0, 1) := by decide +kernel
theorem dL_law_1253 : decode cL_law 1253 = .ok (.laload, 1) := by decide +kernel
theorem dL_law_1254 : decode cL_law 1254 = .ok (.iload 6, 2) := by decide +kernel
theorem dL_law_1256 : decode cL_law 1256 = .ok (.i2l, 1) := by decide +kernel
theorem dL_law_1257 : decode cL_law 1257 = .ok (.lcmp, 1) := by decide +kernel
theorem dL_law_1258 : decode cL_law 1258 = .ok (.ifCond .eq 5, 3) := by decide +kernel
theorem dL_law_1261 : decode cL_law 1261 = .ok (.iconst 0, 1) := by decide +kernel
theorem dL_law_1262 : decode cL_law 1262 = .ok (.ireturn, 1) := by decide +kernel
theorem dL_law_1263 : decode cL_law 1263 = .ok (.goto 139, 3) := by decide +kernel
theorem dL_law_1266 : decode cL_law 1266 = .ok (.aload_n 1, 1) := by decide +kernel
theorem dL_law_1267 : decode cL_law 1267 = .ok (.aload_n 0, 1) := by decide +kernel
theorem dL_law_1268 : decode cL_law 1268 = .ok (.iload 4, 2) := by decide +kernel
theorem dL_law_1270 : decode cL_law 1270 = .ok (.iconst 1, 1) := by decide +kernel
theorem dL_law_1271 : decode cL_law 1271 = .ok (.iadd, 1) := by decide +kernel
theorem dL_law_1272 : decode cL_law 1272 = .ok (.iaload, 1) := by decide +kernel
theorem dL_law_1273 : decode cL_law 1273 = .ok (.aload_n 0, 1) := by decide +kernel
theorem dL_law_1274 : decode cL_law 1274 = .ok (.iload 4, 2) := by decide +kernel
theorem dL_law_1276 : decode cL_law 1276 = .ok (.iconst 2, 1) := by decide +kernel
theorem dL_law_1277 : decode cL_law 1277 = .ok (.iadd, 1) := by decide +kernel
theorem dL_law_1278 : decode cL_law 1278 = .ok (.iaload, 1) := by decide +kernel
theorem dL_law_1279 : decode cL_law 1279 = .ok (.aload_n 3, 1) := by decide +kernel
theorem dL_law_1280 : decode cL_law 1280 = .ok (.invokestatic 151, 3) := by decide +kernel
theorem dL_law_1283 : decode cL_law 1283 = .ok (.istore 5, 2) := by decide +kernel
theorem dL_law_1285 : decode cL_law 1285 = .ok (.aload_n 2, 1) := by decide +kernel
theorem dL_law_1286 : decode cL_law 1286 = .ok (.aload_n 0, 1) := by decide +kernel
theorem dL_law_1287 : decode cL_law 1287 = .ok (.iload 4, 2) := by decide +kernel
theorem dL_law_1289 : decode cL_law 1289 = .ok (.iconst 1, 1) := by decide +kernel
theorem dL_law_1290 : decode cL_law 1290 = .ok (.iadd, 1) := by decide +kernel
theorem dL_law_1291 : decode cL_law 1291 = .ok (.iaload, 1) := by decide +kernel
theorem dL_law_1292 : decode cL_law 1292 = .ok (.aload_n 0, 1) := by decide +kernel
theorem dL_law_1293 : decode cL_law 1293 = .ok (.iload 4, 2) := by decide +kernel
theorem dL_law_1295 : decode cL_law 1295 = .ok (.iconst 2, 1) := by decide +kernel
theorem dL_law_1296 : decode cL_law 1296 = .ok (.iadd, 1) := by decide +kernel
theorem dL_law_1297 : decode cL_law 1297 = .ok (.iaload, 1) := by decide +kernel
theorem dL_law_1298 : decode cL_law 1298 = .ok (.invokevirtual 153, 3) := by decide +kernel
theorem dL_law_1301 : decode cL_law 1301 = .ok (.istore 6, 2) := by decide +kernel
theorem dL_law_1303 : decode cL_law 1303 = .ok (.aload_n 2, 1) := by decide +kernel
theorem dL_law_1304 : decode cL_law 1304 = .ok (.invokevirtual 86, 3) := by decide +kernel
theorem dL_law_1307 : decode cL_law 1307 = .ok (.iload 5, 2) := by decide +kernel
theorem dL_law_1309 : decode cL_law 1309 = .ok (.if_icmp .eq 5, 3) := by decide +kernel
theorem dL_law_1312 : decode cL_law 1312 = .ok (.iconst 0, 1) := by decide +kernel
theorem dL_law_1313 : decode cL_law 1313 = .ok (.ireturn, 1) := by decide +kernel
theorem dL_law_1314 : decode cL_law 1314 = .ok (.iload 5, 2) := by decide +kernel
theorem dL_law_1316 : decode cL_law 1316 = .ok (.ifCond .ne 15, 3) := by decide +kernel
theorem dL_law_1319 : decode cL_law 1319 = .ok (.aload_n 3, 1) := by decide +kernel
theorem dL_law_1320 : decode cL_law 1320 = .ok (.iconst 0, 1) := by decide +kernel
theorem dL_law_1321 : decode cL_law 1321 = .ok (.laload, 1) := by decide +kernel
theorem dL_law_1322 : decode cL_law 1322 = .ok (.iload 6, 2) := by decide +kernel
theorem dL_law_1324 : decode cL_law 1324 = .ok (.i2l, 1) := by decide +kernel
theorem dL_law_1325 : decode cL_law 1325 = .ok (.lcmp, 1) := by decide +kernel
theorem dL_law_1326 : decode cL_law 1326 = .ok (.ifCond .eq 5, 3) := by decide +kernel
theorem dL_law_1329 : decode cL_law 1329 = .ok (.iconst 0, 1) := by decide +kernel
theorem dL_law_1330 : decode cL_law 1330 = .ok (.ireturn, 1) := by decide +kernel
theorem dL_law_1331 : decode cL_law 1331 = .ok (.goto 71, 3) := by decide +kernel
theorem dL_law_1334 : decode cL_law 1334 = .ok (.aload_n 1, 1) := by decide +kernel
theorem dL_law_1335 : decode cL_law 1335 = .ok (.invokevirtual 154, 3) := by decide +kernel
theorem dL_law_1338 : decode cL_law 1338 = .ok (.aload_n 2, 1) := by decide +kernel
theorem dL_law_1339 : decode cL_law 1339 = .ok (.invokevirtual 157, 3) := by decide +kernel
theorem dL_law_1342 : decode cL_law 1342 = .ok (.if_icmp .eq 60, 3) := by decide +kernel
theorem dL_law_1345 : decode cL_law 1345 = .ok (.iconst 0, 1) := by decide +kernel
theorem dL_law_1346 : decode cL_law 1346 = .ok (.ireturn, 1) := by decide +kernel
theorem dL_law_1347 : decode cL_law 1347 = .ok (.aload_n 1, 1) := by decide +kernel
theorem dL_law_1348 : decode cL_law 1348 = .ok (.invokevirtual 158, 3) := by decide +kernel
theorem dL_law_1351 : decode cL_law 1351 = .ok (.dstore 5, 2) := by decide +kernel
theorem dL_law_1353 : decode cL_law 1353 = .ok (.aload_n 2, 1) := by decide +kernel
theorem dL_law_1354 : decode cL_law 1354 = .ok (.invokevirtual 162, 3) := by decide +kernel
theorem dL_law_1357 : decode cL_law 1357 = .ok (.dstore 7, 2) := by decide +kernel
theorem dL_law_1359 : decode cL_law 1359 = .ok (.dload 5, 2) := by decide +kernel
theorem dL_law_1361 : decode cL_law 1361 = .ok (.dload 7, 2) := by decide +kernel
theorem dL_law_1363 : decode cL_law 1363 = .ok (.dcmp .l, 1) := by decide +kernel
theorem dL_law_1364 : decode cL_law 1364 = .ok (.ifCond .eq 21, 3) := by decide +kernel
theorem dL_law_1367 : decode cL_law 1367 = .ok (.dload 5, 2) := by decide +kernel
theorem dL_law_1369 : decode cL_law 1369 = .ok (.dload 5, 2) := by decide +kernel
theorem dL_law_1371 : decode cL_law 1371 = .ok (.dcmp .l, 1) := by decide +kernel
theorem dL_law_1372 : decode cL_law 1372 = .ok (.ifCond .eq 11, 3) := by decide +kernel
theorem dL_law_1375 : decode cL_law 1375 = .ok (.dload 7, 2) := by decide +kernel
theorem dL_law_1377 : decode cL_law 1377 = .ok (.dload 7, 2) := by decide +kernel
theorem dL_law_1379 : decode cL_law 1379 = .ok (.dcmp .l, 1) := by decide +kernel
theorem dL_law_1380 : decode cL_law 1380 = .ok (.ifCond .ne 5, 3) := by decide +kernel
theorem dL_law_1383 : decode cL_law 1383 = .ok (.iconst 0, 1) := by decide +kernel
theorem dL_law_1384 : decode cL_law 1384 = .ok (.ireturn, 1) := by decide +kernel
theorem dL_law_1385 : decode cL_law 1385 = .ok (.goto 17, 3) := by decide +kernel
theorem dL_law_1388 : decode cL_law 1388 = .ok (.aload_n 1, 1) := by decide +kernel
theorem dL_law_1389 : decode cL_law 1389 = .ok (.invokevirtual 163, 3) := by decide +kernel
theorem dL_law_1392 : decode cL_law 1392 = .ok (.aload_n 2, 1) := by decide +kernel
theorem dL_law_1393 : decode cL_law 1393 = .ok (.invokevirtual 167, 3) := by decide +kernel
theorem dL_law_1396 : decode cL_law 1396 = .ok (.lcmp, 1) := by decide +kernel
theorem dL_law_1397 : decode cL_law 1397 = .ok (.ifCond .eq 5, 3) := by decide +kernel
theorem dL_law_1400 : decode cL_law 1400 = .ok (.iconst 0, 1) := by decide +kernel
theorem dL_law_1401 : decode cL_law 1401 = .ok (.ireturn, 1) := by decide +kernel
theorem dL_law_1402 : decode cL_law 1402 = .ok (.iinc 4 4, 3) := by decide +kernel
theorem dL_law_1405 : decode cL_law 1405 = .ok (.goto (-1382), 3) := by decide +kernel
theorem dL_law_1408 : decode cL_law 1408 = .ok (.iconst 1, 1) := by decide +kernel
theorem dL_law_1409 : decode cL_law 1409 = .ok (.ireturn, 1) := by decide +kernel
end
section
/-! the words that every method of the walk may use: those of the tables that a callee may take over -/
def AW : List Cond := lw_tbl.filter goodWord
theorem AW_good : GoodIn AW AW := fun _ h => ⟨h, good_of_word (List.mem_filter.mp h).2⟩
theorem AW_of {w : Cond} (h : w ∈ lw_tbl) (g : goodWord w = true) : w ∈ AW := List.mem_filter.mpr ⟨h, g⟩
theorem AW_tbl {w : Cond} (h : w ∈ AW) : w ∈ lw_tbl := (List.mem_filter.mp h).1
abbrev ws_ (y : MethodName) (b : ByteArray) (n : Nat) (r : Option FieldType) : List Cond := Cond.code y b n r :: AW
theorem gw_ws {y : MethodName} {b : ByteArray} {n : Nat} {r : Option FieldType} (h4 : Cond.code y b n r ∈ AW) : GoodIn AW (ws_ y b n r) := by
  intro w hw
  rcases List.mem_cons.mp hw with rfl | hw
  · exact AW_good _ h4
  · exact AW_good _ hw
theorem gw_S {own : String} {idx : Nat} {y : MethodName} {b : ByteArray} {n : Nat} {r : Option FieldType} (h1 : Cond.methodLink own idx y ∈ AW) (h2 : Cond.static y ∈ AW) (h3 : Cond.initialized y.cls ∈ AW) (h4 : Cond.code y b n r ∈ AW) : GoodIn AW (va_wsS own idx y (ws_ y b n r)) := by
  intro w hw
  rcases List.mem_append.mp hw with hw | hw
  · simp only [List.mem_cons, List.not_mem_nil, or_false] at hw
    rcases hw with rfl | rfl | rfl
    · exact AW_good _ h1
    · exact AW_good _ h2
    · exact AW_good _ h3
  · exact gw_ws h4 _ hw
theorem gw_V {own C : String} {idx : Nat} {y : MethodName} {b : ByteArray} {n : Nat} {r : Option FieldType} (h1 : Cond.methodLink own idx y ∈ AW) (h2 : Cond.instanceMethod y ∈ AW) (h0 : Cond.selects C y y ∈ AW) (h3 : Cond.initialized C ∈ AW) (h4 : Cond.code y b n r ∈ AW) : GoodIn AW (wsV own idx C y (ws_ y b n r)) := by
  intro w hw
  rcases List.mem_append.mp hw with hw | hw
  · simp only [List.mem_cons, List.not_mem_nil, or_false] at hw
    rcases hw with rfl | rfl | rfl | rfl
    · exact AW_good _ h1
    · exact AW_good _ h2
    · exact AW_good _ h0
    · exact AW_good _ h3
  · exact gw_ws h4 _ hw
/-! the pool: 108 things, by number; what changes is a number in x.1 (ints, by thing and place) or x.2 (longs) -/
abbrev xS : Type := (Nat → Nat → Int32) × (Nat → Nat → Int64)
abbrev gT : Type := va_G × (Nat → ClassId) × (Nat → Nat)
def kdT : List Nat := [6, 3, 4, 2, 8, 2, 8, 2, 8, 2, 8, 5, 10, 9, 3, 4, 2, 8, 2, 8, 2, 8, 2, 8, 3, 4, 2, 8, 2, 8, 2, 8, 2, 8, 5, 10, 9, 3, 4, 2, 8, 2, 8, 2, 8, 2, 8, 3, 4, 2, 8, 2, 8, 2, 8, 2, 8, 3, 4, 2, 8, 2, 8, 2, 8, 2, 8, 3, 4, 2, 8, 2, 8, 2, 8, 2, 8, 3, 4, 2, 8, 2, 8, 2, 8, 2, 8, 3, 4, 2, 8, 2, 8, 2, 8, 2, 8, 1, 8, 0, 8, 7, 8, 8, 8, 8, 8, 11]
def lnT : List Nat := [0, 0, 0, 0, 48, 0, 70, 0, 12, 0, 5, 0, 2, 2, 0, 0, 0, 48, 0, 70, 0, 12, 0, 5, 0, 0, 0, 48, 0, 70, 0, 12, 0, 5, 0, 6, 6, 0, 0, 0, 48, 0, 70, 0, 12, 0, 5, 0, 0, 0, 48, 0, 70, 0, 12, 0, 5, 0, 0, 0, 48, 0, 70, 0, 12, 0, 5, 0, 0, 0, 48, 0, 70, 0, 12, 0, 5, 0, 0, 0, 48, 0, 70, 0, 12, 0, 5, 0, 0, 0, 48, 0, 70, 0, 12, 0, 5, 0, 4, 0, 60, 0, 120, 120, 720, 240, 60, 1]
def rrT : List Int32 := [0, 0, 0, 4, 0, 10, 0, 1, 0, 1, 0, 0, 0, 0, 0, 0, 4, 0, 10, 0, 1, 0, 1, 0, 0, 0, 4, 0, 10, 0, 1, 0, 1, 0, 0, 0, 0, 0, 0, 4, 0, 10, 0, 1, 0, 1, 0, 0, 0, 4, 0, 10, 0, 1, 0, 1, 0, 0, 0, 4, 0, 10, 0, 1, 0, 1, 0, 0, 0, 4, 0, 10, 0, 1, 0, 1, 0, 0, 0, 4, 0, 10, 0, 1, 0, 1, 0, 0, 0, 4, 0, 10, 0, 1, 0, 1, 0, 0, 0, 0, 0, 0, 0, 0, 0, 0, 0, 0]
def ccT : List Int32 := [0, 0, 0, 12, 0, 7, 0, 12, 0, 5, 0, 0, 0, 0, 0, 0, 12, 0, 7, 0, 12, 0, 5, 0, 0, 0, 12, 0, 7, 0, 12, 0, 5, 0, 0, 0, 0, 0, 0, 12, 0, 7, 0, 12, 0, 5, 0, 0, 0, 12, 0, 7, 0, 12, 0, 5, 0, 0, 0, 12, 0, 7, 0, 12, 0, 5, 0, 0, 0, 12, 0, 7, 0, 12, 0, 5, 0, 0, 0, 12, 0, 7, 0, 12, 0, 5, 0, 0, 0, 12, 0, 7, 0, 12, 0, 5, 0, 0, 0, 0, 0, 0, 0, 0, 0, 0, 0, 0]
def kd (i : Nat) : Nat := kdT.getD i 99
def ln (i : Nat) : Nat := lnT.getD i 0
def gR (i : Nat) : Int32 := rrT.getD i 0
def gC (i : Nat) : Int32 := ccT.getD i 0
theorem kd_lt {i K : Nat} (h : kd i = K) (hK : K < 99) : i < 108 := by
  rcases Nat.lt_or_ge i 108 with q | q
  · exact q
  · have h2 : kd i = 99 := by simp [kd, List.getD, List.getElem?_eq_none (show kdT.length ≤ i from q)]
    omega
/-- the fields of an object -/
def gF (G : gT) (x : xS) (i K : Nat) : List Value := match K with
  | 0 => [.ref (G.2.2 (i + 1)), .int (x.1 i 1)]
  | 1 => [.ref (G.2.2 (i + 1))]
  | 2 => [.int (gR i), .int (gC i), .ref (G.2.2 (i + 1))]
  | 3 => [.ref (G.2.2 (i + 1)), .ref (G.2.2 (i + 4)), .ref (G.2.2 (i + 6)), .ref (G.2.2 (i + 8))]
  | 4 => [.ref (G.2.2 (i + 1)), .int (x.1 i 1)]
  | 5 => [.ref (G.2.2 (i + 1)), .ref (G.2.2 (i + 2))]
  | 6 => [.ref (G.2.2 (i + 1)), .ref (G.2.2 (i + 11)), .ref (G.2.2 (i + 34)), .ref (G.2.2 (i + 97)), .ref (G.2.2 (i + 99)), .int (x.1 i 5), .int (x.1 i 6)]
  | 7 => [.int (x.1 i 0), .ref (G.2.2 (i + 1)), .ref (G.2.2 (i + 2)), .ref (G.2.2 (i + 3)), .int (x.1 i 4), .ref (G.2.2 (i + 4)), .int (x.1 i 6), .ref (G.2.2 (i + 5)), .int (x.1 i 8), .int (x.1 i 9), .int (x.1 i 10), .int (x.1 i 11), .int (x.1 i 12), .int (x.1 i 13), .int (x.1 i 14), .long (x.2 i 15)]
  | _ => []
def gE (G : gT) (x : xS) (i : Nat) : va_E := match kd i with
  | 8 => .inl (G.2.1 0, ln i, .inl (x.1 i))
  | 9 => .inl (G.2.1 1, ln i, .inl (x.1 i))
  | 10 => .inl (G.2.1 2, ln i, .inr (.inr (.inr (.inr (fun k => some (G.2.2 (i + 2 + 10 * k)))))))
  | 11 => .inl (G.2.1 3, ln i, .inr (.inl (x.2 i)))
  | K => .inr (K, gF G x i K)
theorem gE_obj {G : gT} {x : xS} {i K : Nat} (h : kd i = K) (hK : K < 8) : gE G x i = .inr (K, gF G x i K) := by
  unfold gE
  rw [h]
  match K, hK with
  | 0, _ => rfl
  | 1, _ => rfl
  | 2, _ => rfl
  | 3, _ => rfl
  | 4, _ => rfl
  | 5, _ => rfl
  | 6, _ => rfl
  | 7, _ => rfl
theorem gE_8 {G : gT} {x : xS} {i : Nat} (h : kd i = 8) : gE G x i = .inl (G.2.1 0, ln i, .inl (x.1 i)) := by
  unfold gE
  rw [h]
  rfl
theorem gE_9 {G : gT} {x : xS} {i : Nat} (h : kd i = 9) : gE G x i = .inl (G.2.1 1, ln i, .inl (x.1 i)) := by
  unfold gE
  rw [h]
  rfl
theorem gE_10 {G : gT} {x : xS} {i : Nat} (h : kd i = 10) : gE G x i = .inl (G.2.1 2, ln i, .inr (.inr (.inr (.inr (fun k => some (G.2.2 (i + 2 + 10 * k))))))) := by
  unfold gE
  rw [h]
  rfl
theorem gE_11 {G : gT} {x : xS} {i : Nat} (h : kd i = 11) : gE G x i = .inl (G.2.1 3, ln i, .inr (.inl (x.2 i))) := by
  unfold gE
  rw [h]
  rfl
theorem gF_congr {G : gT} {x y : xS} {i K : Nat} (h1 : x.1 i = y.1 i) (h2 : x.2 i = y.2 i) : gF G x i K = gF G y i K := by
  unfold gF
  rw [h1, h2]
theorem gE_congr {G : gT} {x y : xS} {i : Nat} (h1 : x.1 i = y.1 i) (h2 : x.2 i = y.2 i) : gE G x i = gE G y i := by
  have hF : ∀ K, gF G x i K = gF G y i K := fun K => gF_congr h1 h2
  unfold gE
  rw [h1, h2]
  simp only [hF]
def wl (G : gT) (x : xS) : va_W := (List.range 108).map (fun i => (G.2.2 i, gE G x i))
theorem wl_get (G : gT) (x : xS) {i : Nat} (h : i < 108) : (wl G x)[i]? = some (G.2.2 i, gE G x i) := by
  simp [wl, h]
theorem wl_inv {G : gT} {x : xS} {i : Nat} {q : Nat × va_E} (h : (wl G x)[i]? = some q) : i < 108 ∧ q = (G.2.2 i, gE G x i) := by
  rcases Nat.lt_or_ge i 108 with h1 | h1
  · rw [wl_get G x h1] at h
    exact ⟨h1, (Option.some.inj h).symm⟩
  · rw [List.getElem?_eq_none (by simp [wl]; exact h1)] at h
    cases h
theorem wl_set {G : gT} {x y : xS} {i : Nat} {e : va_E} (hi : i < 108) (he : gE G y i = e) (h1 : ∀ j, j ≠ i → x.1 j = y.1 j) (h2 : ∀ j, j ≠ i → x.2 j = y.2 j) : (wl G x).set i (G.2.2 i, e) = wl G y := by
  apply List.ext_getElem?
  intro j
  rw [List.getElem?_set]
  by_cases hj : i = j
  · subst hj
    rw [if_pos rfl, if_pos (by simp [wl]; exact hi), wl_get G y hi, he]
  · rw [if_neg hj]
    rcases Nat.lt_or_ge j 108 with q | q
    · rw [wl_get G x q, wl_get G y q, gE_congr (h1 j (fun z => hj z.symm)) (h2 j (fun z => hj z.symm))]
    · rw [List.getElem?_eq_none (by simp [wl]; exact q), List.getElem?_eq_none (by simp [wl]; exact q)]
/-- a row of ints is changed whole; at one place; a long at one place -/
def upR (x : xS) (i : Nat) (f : Nat → Int32) : xS := (fun j => if j = i then f else x.1 j, x.2)
def up1 (x : xS) (i k : Nat) (v : Int32) : xS := upR x i (upd (x.1 i) k v)
def up2 (x : xS) (i k : Nat) (v : Int64) : xS := (x.1, fun j => if j = i then vp_updL (x.2 i) k v else x.2 j)
theorem upR_same (x : xS) (i : Nat) (f : Nat → Int32) : (upR x i f).1 i = f := if_pos rfl
theorem upR_other (x : xS) {i j : Nat} (f : Nat → Int32) (h : j ≠ i) : (upR x i f).1 j = x.1 j := if_neg h
theorem upR_2 (x : xS) (i : Nat) (f : Nat → Int32) : (upR x i f).2 = x.2 := rfl
theorem up2_same (x : xS) (i k : Nat) (v : Int64) : (up2 x i k v).2 i = vp_updL (x.2 i) k v := if_pos rfl
theorem up2_other (x : xS) {i j : Nat} (k : Nat) (v : Int64) (h : j ≠ i) : (up2 x i k v).2 j = x.2 j := if_neg h
theorem up2_1 (x : xS) (i k : Nat) (v : Int64) : (up2 x i k v).1 = x.1 := rfl
theorem wl_upR {G : gT} {x : xS} {i : Nat} {e : va_E} {f : Nat → Int32} (hi : i < 108) (he : gE G (upR x i f) i = e) : (wl G x).set i (G.2.2 i, e) = wl G (upR x i f) :=
  wl_set hi he (fun _ hj => (upR_other x f hj).symm) (fun _ _ => rfl)
theorem wl_up2 {G : gT} {x : xS} {i k : Nat} {e : va_E} {v : Int64} (hi : i < 108) (he : gE G (up2 x i k v) i = e) : (wl G x).set i (G.2.2 i, e) = wl G (up2 x i k v) :=
  wl_set hi he (fun _ _ => rfl) (fun _ hj => (up2_other x k v hj).symm)
def DD (G : gT) (A : Nat → Prop) : Prop := (∀ i j : Nat, i < 108 → j < 108 → G.2.2 i = G.2.2 j → i = j) ∧ ∀ i : Nat, i < 108 → A (G.2.2 i)
theorem wl_D {G : gT} {A : Nat → Prop} (h : DD G A) (x : xS) : va_D A (wl G x) := by
  refine ⟨fun i j p q hp hq hpq => ?_, fun k q hk => ?_⟩
  · obtain ⟨h1, rfl⟩ := wl_inv hp
    obtain ⟨h2, rfl⟩ := wl_inv hq
    exact h.1 i j h1 h2 hpq
  · obtain ⟨h1, rfl⟩ := wl_inv hk
    exact h.2 k h1
abbrev tyG (G : gT) : List (ClassId × FieldType) := [(G.2.1 0, .int), (G.2.1 1, .boolean), (G.2.1 2, .object "SevenAsks$House"), (G.2.1 3, .long)]
def inj (G : gT) : Prop := ∀ i j : Nat, i < 108 → j < 108 → G.2.2 i = G.2.2 j → i = j
/-- the two private members of a nest mate that a method uses -/
def NW (U : State) : Prop := va_Nw (.fieldLinkNest RX6 151 "SevenAsks$House" "night" "LSevenAsks$Night;" "SevenAsks") U ∧ va_Nw (.methodLinkNest RX4 67 yX6_isWithinNight "SevenAsks") U
theorem NW.warm {s U : State} (hW : s.WarmedH U.vm) (h : NW s) : NW U := ⟨va_Nw.warmF hW h.1, va_Nw.warmM hW h.2⟩
theorem NW.same {u U : State} (h : u.vm = U.vm) (hZ : NW u) : NW U := ⟨va_Nw.same rfl h hZ.1, va_Nw.same rfl h hZ.2⟩
/-- what a method finds and leaves: the pool with the numbers x -/
def PW (G : gT) (x : xS) (U : State) : Prop := va_P G.1 vwCl (wl G x) U.heap ∧ va_K G.1 vwCl (tyG G) U ∧ inj G ∧ NW U
def pA (G : gT) (sz : Nat) : Nat → Prop := fun q => (∃ i, i < 108 ∧ q = G.2.2 i) ∨ sz ≤ q
theorem PW.blind {G : gT} {x : xS} {U : State} (g : JFrame) (mk : MethodId) (a : Array Value) (h : PW G x U) : PW G x (U.calling g mk a) := ⟨h.1, va_K.moved (u := U) (U := U.calling g mk a) (Vm.Alike.refl U.vm) h.2.1, h.2.2.1, NW.same rfl h.2.2.2⟩
theorem oB {α β : Type} {a : Option α} {f : α → Option β} {y : β} (h : Option.bind a f = some y) : ∃ z, a = some z ∧ f z = some y := by
  cases a with
  | none => cases h
  | some z => exact ⟨z, rfl, h⟩
theorem iT {c : Prop} {d : Decidable c} {α : Type} {a b r : α} (h : c) (hf : (@ite α c d a b) = r) : a = r := by rw [if_pos h] at hf; exact hf
theorem iF {c : Prop} {d : Decidable c} {α : Type} {a b r : α} (h : ¬ c) (hf : (@ite α c d a b) = r) : b = r := by rw [if_neg h] at hf; exact hf
/-- a guard: 'if c then none else b' is some r -/
theorem iN {c : Prop} {d : Decidable c} {α : Type} {b : Option α} {r : α} (hf : (@ite (Option α) c d none b) = some r) : ¬ c ∧ b = some r := by
  by_cases h : c
  · rw [if_pos h] at hf; cases hf
  · rw [if_neg h] at hf; exact ⟨h, hf⟩
section WW
variable {p : Program} {l : Launch} {e : Env} {R : Room} {s : State} {m : MethodId} {args : Array Value} {below : List Frame} {meth : Method} {c : Code} {nL : Nat} {G : gT} {A : Nat → Prop} {Q : State → Prop} {k n pc : Nat} {lv : List (Nat × Value)} {st : List Value} {x : xS} {cc : ByteArray} {own : String} {ret : Option FieldType}
/-- from pc on, with these locals, this stack and these numbers in the pool, the machine comes to Q -/
def WB (p : Program) (l : Launch) (e : Env) (R : Room) (s : State) (m : MethodId) (args : Array Value) (below : List Frame) (meth : Method) (c : Code) (nL : Nat) (G : gT) (A : Nat → Prop) (Q : State → Prop) (k n pc : Nat) (lv : List (Nat × Value)) (st : List Value) (x : xS) : Prop :=
  ∀ (H : Heap) (locs : List Loc) (ls : Array Slot), lv_has ls nL lv → va_P G.1 vwCl (wl G x) H → va_S A s.heap H locs → W p l e R s m args below meth c H locs k n Q (F0 m pc ls st)
/-- what stays through a method's body -/
def CT (p : Program) (s : State) (m : MethodId) (args : Array Value) (meth : Method) (c : Code) (cc : ByteArray) (nL : Nat) (own : String) (ret : Option FieldType) (G : gT) (A : Nat → Prop) : Prop :=
  p.tables.exec = Jvm.exec ∧ c.code = cc ∧ c.maxLocals = nL ∧ s.vm.findClass own = some m.cls ∧ (∀ w ∈ AW, w.before args s = true) ∧ va_K G.1 vwCl (tyG G) s ∧ DD G A ∧ (∀ q, s.heap.size ≤ q → A q) ∧ meth.sig.returnType = ret ∧ meth.locks = false ∧ NW s
theorem CT.hx (C : CT p s m args meth c cc nL own ret G A) : p.tables.exec = Jvm.exec := by obtain ⟨h, -⟩ := C; exact h
theorem CT.b (C : CT p s m args meth c cc nL own ret G A) : c.code = cc := by obtain ⟨-, h, -⟩ := C; exact h
theorem CT.ml (C : CT p s m args meth c cc nL own ret G A) : c.maxLocals = nL := by obtain ⟨-, -, h, -⟩ := C; exact h
theorem CT.ow (C : CT p s m args meth c cc nL own ret G A) : s.vm.findClass own = some m.cls := by obtain ⟨-, -, -, h, -⟩ := C; exact h
theorem CT.ts (C : CT p s m args meth c cc nL own ret G A) : ∀ w ∈ AW, w.before args s = true := by obtain ⟨-, -, -, -, h, -⟩ := C; exact h
theorem CT.K (C : CT p s m args meth c cc nL own ret G A) : va_K G.1 vwCl (tyG G) s := by obtain ⟨-, -, -, -, -, h, -⟩ := C; exact h
theorem CT.D (C : CT p s m args meth c cc nL own ret G A) : DD G A := by obtain ⟨-, -, -, -, -, -, h, -⟩ := C; exact h
theorem CT.hA (C : CT p s m args meth c cc nL own ret G A) : ∀ q, s.heap.size ≤ q → A q := by obtain ⟨-, -, -, -, -, -, -, h, -⟩ := C; exact h
theorem CT.r (C : CT p s m args meth c cc nL own ret G A) : meth.sig.returnType = ret := by obtain ⟨-, -, -, -, -, -, -, -, h, -⟩ := C; exact h
theorem CT.lk (C : CT p s m args meth c cc nL own ret G A) : meth.locks = false := by obtain ⟨-, -, -, -, -, -, -, -, -, h, -⟩ := C; exact h
theorem CT.nw (C : CT p s m args meth c cc nL own ret G A) : NW s := by obtain ⟨-, -, -, -, -, -, -, -, -, -, h⟩ := C; exact h
theorem CT.pA (C : CT p s m args meth c cc nL own ret G A) : ∀ {sz : Nat}, s.heap.size ≤ sz → ∀ q, pA G sz q → A q := by
  intro sz hz q hq
  rcases hq with ⟨i, h1, rfl⟩ | h
  · exact C.D.2 i h1
  · exact C.hA q (Nat.le_trans hz h)
/-- other locals, by their places -/
theorem b_pm (ks : List Nat) {lv' : List (Nat × Value)} (h : lv_pick lv ks = lv') (kk : WB p l e R s m args below meth c nL G A Q k n pc lv' st x) : WB p l e R s m args below meth c nL G A Q k n pc lv st x := fun H locs ls h1 h2 h3 => kk H locs ls (lv_sub h1 ks h) h2 h3

theorem b_iconst (C : CT p s m args meth c cc nL own ret G A) {i : Int} {v : Int32} (hd : decode cc pc = .ok (.iconst i, 1)) (hv : Int32.ofInt i = v) (kk : WB p l e R s m args below meth c nL G A Q k n (pc + 1) lv (.int v :: st) x) : WB p l e R s m args below meth c nL G A Q k n pc lv (st) x := fun H locs ls h1 h2 h3 => lv_iconst C.hx C.b hd hv (kk H locs ls h1 h2 h3)
theorem b_bipush (C : CT p s m args meth c cc nL own ret G A) {i : Int} {v : Int32} (hd : decode cc pc = .ok (.bipush i, 2)) (hv : (Int8.ofInt i).toInt32 = v) (kk : WB p l e R s m args below meth c nL G A Q k n (pc + 2) lv (.int v :: st) x) : WB p l e R s m args below meth c nL G A Q k n pc lv (st) x := fun H locs ls h1 h2 h3 => lv_bipush C.hx C.b hd hv (kk H locs ls h1 h2 h3)
theorem b_sipush (C : CT p s m args meth c cc nL own ret G A) {i : Int} {v : Int32} (hd : decode cc pc = .ok (.sipush i, 3)) (hv : (Int16.ofInt i).toInt32 = v) (kk : WB p l e R s m args below meth c nL G A Q k n (pc + 3) lv (.int v :: st) x) : WB p l e R s m args below meth c nL G A Q k n pc lv (st) x := fun H locs ls h1 h2 h3 => lv_sipush C.hx C.b hd hv (kk H locs ls h1 h2 h3)
theorem b_lconst (C : CT p s m args meth c cc nL own ret G A) {i : Fin 2} {v : Int64} (hd : decode cc pc = .ok (.lconst i, 1)) (hv : Int64.ofNat (i : Nat) = v) (kk : WB p l e R s m args below meth c nL G A Q k n (pc + 1) lv (.long v :: st) x) : WB p l e R s m args below meth c nL G A Q k n pc lv (st) x := fun H locs ls h1 h2 h3 => lv_lconst C.hx C.b hd hv (kk H locs ls h1 h2 h3)
theorem b_dconst0 (C : CT p s m args meth c cc nL own ret G A) (hd : decode cc pc = .ok (.dconst 0, 1)) (kk : WB p l e R s m args below meth c nL G A Q k n (pc + 1) lv (.double FP.dconst0 :: st) x) : WB p l e R s m args below meth c nL G A Q k n pc lv (st) x := fun H locs ls h1 h2 h3 => lv_dconst0 C.hx C.b hd (kk H locs ls h1 h2 h3)
theorem b_dconst1 (C : CT p s m args meth c cc nL own ret G A) (hd : decode cc pc = .ok (.dconst 1, 1)) (kk : WB p l e R s m args below meth c nL G A Q k n (pc + 1) lv (.double FP.dconst1 :: st) x) : WB p l e R s m args below meth c nL G A Q k n pc lv (st) x := fun H locs ls h1 h2 h3 => lv_dconst1 C.hx C.b hd (kk H locs ls h1 h2 h3)
theorem b_iload_n (C : CT p s m args meth c cc nL own ret G A) {j : Fin 4} {i : Nat} {v : Int32} (hd : decode cc pc = .ok (.iload_n j, 1)) (hj : (j : Nat) = i) (q : Nat) (hl : lv[q]? = some (i, .int v)) (kk : WB p l e R s m args below meth c nL G A Q k n (pc + 1) lv (.int v :: st) x) : WB p l e R s m args below meth c nL G A Q k n pc lv (st) x := fun H locs ls h1 h2 h3 => lv_iload_n C.hx C.b hd hj (lv_at h1 q hl) (kk H locs ls h1 h2 h3)
theorem b_iload (C : CT p s m args meth c cc nL own ret G A) {i : Nat} {v : Int32} (hd : decode cc pc = .ok (.iload i, 2)) (q : Nat) (hl : lv[q]? = some (i, .int v)) (kk : WB p l e R s m args below meth c nL G A Q k n (pc + 2) lv (.int v :: st) x) : WB p l e R s m args below meth c nL G A Q k n pc lv (st) x := fun H locs ls h1 h2 h3 => lv_iload C.hx C.b hd (lv_at h1 q hl) (kk H locs ls h1 h2 h3)
theorem b_istore_n (C : CT p s m args meth c cc nL own ret G A) {j : Fin 4} {i : Nat} {v : Int32} {lv' : List (Nat × Value)} (hd : decode cc pc = .ok (.istore_n j, 1)) (hj : (j : Nat) = i) (hn : i < nL) (hl : (i, Value.int v) :: lv.filter (fun q => !(q.1 == i) && !(q.1 + 1 == i && q.2.category == 2)) = lv') (kk : WB p l e R s m args below meth c nL G A Q k n (pc + 1) lv' (st) x) : WB p l e R s m args below meth c nL G A Q k n pc lv (.int v :: st) x := fun H locs ls h1 h2 h3 => lv_istore_n C.hx C.b hd hj h1 hn hl (fun ls' h1' => kk H locs ls' h1' h2 h3)
theorem b_istore (C : CT p s m args meth c cc nL own ret G A) {i : Nat} {v : Int32} {lv' : List (Nat × Value)} (hd : decode cc pc = .ok (.istore i, 2)) (hn : i < nL) (hl : (i, Value.int v) :: lv.filter (fun q => !(q.1 == i) && !(q.1 + 1 == i && q.2.category == 2)) = lv') (kk : WB p l e R s m args below meth c nL G A Q k n (pc + 2) lv' (st) x) : WB p l e R s m args below meth c nL G A Q k n pc lv (.int v :: st) x := fun H locs ls h1 h2 h3 => lv_istore C.hx C.b hd h1 hn hl (fun ls' h1' => kk H locs ls' h1' h2 h3)
theorem b_lload_n (C : CT p s m args meth c cc nL own ret G A) {j : Fin 4} {i : Nat} {v : Int64} (hd : decode cc pc = .ok (.lload_n j, 1)) (hj : (j : Nat) = i) (q : Nat) (hl : lv[q]? = some (i, .long v)) (kk : WB p l e R s m args below meth c nL G A Q k n (pc + 1) lv (.long v :: st) x) : WB p l e R s m args below meth c nL G A Q k n pc lv (st) x := fun H locs ls h1 h2 h3 => lv_lload_n C.hx C.b hd hj (lv_at h1 q hl) (kk H locs ls h1 h2 h3)
theorem b_lload (C : CT p s m args meth c cc nL own ret G A) {i : Nat} {v : Int64} (hd : decode cc pc = .ok (.lload i, 2)) (q : Nat) (hl : lv[q]? = some (i, .long v)) (kk : WB p l e R s m args below meth c nL G A Q k n (pc + 2) lv (.long v :: st) x) : WB p l e R s m args below meth c nL G A Q k n pc lv (st) x := fun H locs ls h1 h2 h3 => lv_lload C.hx C.b hd (lv_at h1 q hl) (kk H locs ls h1 h2 h3)
theorem b_lstore_n (C : CT p s m args meth c cc nL own ret G A) {j : Fin 4} {i : Nat} {v : Int64} {lv' : List (Nat × Value)} (hd : decode cc pc = .ok (.lstore_n j, 1)) (hj : (j : Nat) = i) (hn : i + 1 < nL) (hl : (i, Value.long v) :: lv.filter (fun q => !(q.1 == i) && (!(q.1 == i + 1) && !(q.1 + 1 == i && q.2.category == 2))) = lv') (kk : WB p l e R s m args below meth c nL G A Q k n (pc + 1) lv' (st) x) : WB p l e R s m args below meth c nL G A Q k n pc lv (.long v :: st) x := fun H locs ls h1 h2 h3 => lv_lstore_n C.hx C.b hd hj h1 hn hl (fun ls' h1' => kk H locs ls' h1' h2 h3)
theorem b_lstore (C : CT p s m args meth c cc nL own ret G A) {i : Nat} {v : Int64} {lv' : List (Nat × Value)} (hd : decode cc pc = .ok (.lstore i, 2)) (hn : i + 1 < nL) (hl : (i, Value.long v) :: lv.filter (fun q => !(q.1 == i) && (!(q.1 == i + 1) && !(q.1 + 1 == i && q.2.category == 2))) = lv') (kk : WB p l e R s m args below meth c nL G A Q k n (pc + 2) lv' (st) x) : WB p l e R s m args below meth c nL G A Q k n pc lv (.long v :: st) x := fun H locs ls h1 h2 h3 => lv_lstore C.hx C.b hd h1 hn hl (fun ls' h1' => kk H locs ls' h1' h2 h3)
theorem b_dload_n (C : CT p s m args meth c cc nL own ret G A) {j : Fin 4} {i : Nat} {v : UInt64} (hd : decode cc pc = .ok (.dload_n j, 1)) (hj : (j : Nat) = i) (q : Nat) (hl : lv[q]? = some (i, .double v)) (kk : WB p l e R s m args below meth c nL G A Q k n (pc + 1) lv (.double v :: st) x) : WB p l e R s m args below meth c nL G A Q k n pc lv (st) x := fun H locs ls h1 h2 h3 => lv_dload_n C.hx C.b hd hj (lv_at h1 q hl) (kk H locs ls h1 h2 h3)
theorem b_dload (C : CT p s m args meth c cc nL own ret G A) {i : Nat} {v : UInt64} (hd : decode cc pc = .ok (.dload i, 2)) (q : Nat) (hl : lv[q]? = some (i, .double v)) (kk : WB p l e R s m args below meth c nL G A Q k n (pc + 2) lv (.double v :: st) x) : WB p l e R s m args below meth c nL G A Q k n pc lv (st) x := fun H locs ls h1 h2 h3 => lv_dload C.hx C.b hd (lv_at h1 q hl) (kk H locs ls h1 h2 h3)
theorem b_dstore_n (C : CT p s m args meth c cc nL own ret G A) {j : Fin 4} {i : Nat} {v : UInt64} {lv' : List (Nat × Value)} (hd : decode cc pc = .ok (.dstore_n j, 1)) (hj : (j : Nat) = i) (hn : i + 1 < nL) (hl : (i, Value.double v) :: lv.filter (fun q => !(q.1 == i) && (!(q.1 == i + 1) && !(q.1 + 1 == i && q.2.category == 2))) = lv') (kk : WB p l e R s m args below meth c nL G A Q k n (pc + 1) lv' (st) x) : WB p l e R s m args below meth c nL G A Q k n pc lv (.double v :: st) x := fun H locs ls h1 h2 h3 => lv_dstore_n C.hx C.b hd hj h1 hn hl (fun ls' h1' => kk H locs ls' h1' h2 h3)
theorem b_dstore (C : CT p s m args meth c cc nL own ret G A) {i : Nat} {v : UInt64} {lv' : List (Nat × Value)} (hd : decode cc pc = .ok (.dstore i, 2)) (hn : i + 1 < nL) (hl : (i, Value.double v) :: lv.filter (fun q => !(q.1 == i) && (!(q.1 == i + 1) && !(q.1 + 1 == i && q.2.category == 2))) = lv') (kk : WB p l e R s m args below meth c nL G A Q k n (pc + 2) lv' (st) x) : WB p l e R s m args below meth c nL G A Q k n pc lv (.double v :: st) x := fun H locs ls h1 h2 h3 => lv_dstore C.hx C.b hd h1 hn hl (fun ls' h1' => kk H locs ls' h1' h2 h3)
theorem b_aload_n (C : CT p s m args meth c cc nL own ret G A) {j : Fin 4} {i : Nat} {v : Nat} (hd : decode cc pc = .ok (.aload_n j, 1)) (hj : (j : Nat) = i) (q : Nat) (hl : lv[q]? = some (i, .ref v)) (kk : WB p l e R s m args below meth c nL G A Q k n (pc + 1) lv (.ref v :: st) x) : WB p l e R s m args below meth c nL G A Q k n pc lv (st) x := fun H locs ls h1 h2 h3 => lv_aload_n C.hx C.b hd hj (lv_at h1 q hl) (kk H locs ls h1 h2 h3)
theorem b_aload (C : CT p s m args meth c cc nL own ret G A) {i : Nat} {v : Nat} (hd : decode cc pc = .ok (.aload i, 2)) (q : Nat) (hl : lv[q]? = some (i, .ref v)) (kk : WB p l e R s m args below meth c nL G A Q k n (pc + 2) lv (.ref v :: st) x) : WB p l e R s m args below meth c nL G A Q k n pc lv (st) x := fun H locs ls h1 h2 h3 => lv_aload C.hx C.b hd (lv_at h1 q hl) (kk H locs ls h1 h2 h3)
theorem b_astore_n (C : CT p s m args meth c cc nL own ret G A) {j : Fin 4} {i : Nat} {v : Nat} {lv' : List (Nat × Value)} (hd : decode cc pc = .ok (.astore_n j, 1)) (hj : (j : Nat) = i) (hn : i < nL) (hl : (i, Value.ref v) :: lv.filter (fun q => !(q.1 == i) && !(q.1 + 1 == i && q.2.category == 2)) = lv') (kk : WB p l e R s m args below meth c nL G A Q k n (pc + 1) lv' (st) x) : WB p l e R s m args below meth c nL G A Q k n pc lv (.ref v :: st) x := fun H locs ls h1 h2 h3 => lv_astore_n C.hx C.b hd hj h1 hn hl (fun ls' h1' => kk H locs ls' h1' h2 h3)
theorem b_astore (C : CT p s m args meth c cc nL own ret G A) {i : Nat} {v : Nat} {lv' : List (Nat × Value)} (hd : decode cc pc = .ok (.astore i, 2)) (hn : i < nL) (hl : (i, Value.ref v) :: lv.filter (fun q => !(q.1 == i) && !(q.1 + 1 == i && q.2.category == 2)) = lv') (kk : WB p l e R s m args below meth c nL G A Q k n (pc + 2) lv' (st) x) : WB p l e R s m args below meth c nL G A Q k n pc lv (.ref v :: st) x := fun H locs ls h1 h2 h3 => lv_astore C.hx C.b hd h1 hn hl (fun ls' h1' => kk H locs ls' h1' h2 h3)
theorem b_iinc (C : CT p s m args meth c cc nL own ret G A) {i q : Nat} {j : Int} {v v' : Int32} {lv' : List (Nat × Value)} (hd : decode cc pc = .ok (.iinc i j, 3)) (hk : lv[q]? = some (i, .int v)) (hv : v + Int32.ofInt j = v') (hn : i < nL) (hl : (i, Value.int v') :: lv.filter (fun q => !(q.1 == i) && !(q.1 + 1 == i && q.2.category == 2)) = lv') (kk : WB p l e R s m args below meth c nL G A Q k n (pc + 3) lv' (st) x) : WB p l e R s m args below meth c nL G A Q k n pc lv (st) x := fun H locs ls h1 h2 h3 => lv_iinc C.hx C.b hd h1 hk hv hn hl (fun ls' h1' => kk H locs ls' h1' h2 h3)
theorem b_iadd (C : CT p s m args meth c cc nL own ret G A) {x1 y1 : Int32} (hd : decode cc pc = .ok (.iadd, 1)) (kk : WB p l e R s m args below meth c nL G A Q k n (pc + 1) lv (.int (x1 + y1) :: st) x) : WB p l e R s m args below meth c nL G A Q k n pc lv (.int y1 :: .int x1 :: st) x := fun H locs ls h1 h2 h3 => lv_iadd C.hx C.b hd (kk H locs ls h1 h2 h3)
theorem b_isub (C : CT p s m args meth c cc nL own ret G A) {x1 y1 : Int32} (hd : decode cc pc = .ok (.isub, 1)) (kk : WB p l e R s m args below meth c nL G A Q k n (pc + 1) lv (.int (x1 - y1) :: st) x) : WB p l e R s m args below meth c nL G A Q k n pc lv (.int y1 :: .int x1 :: st) x := fun H locs ls h1 h2 h3 => lv_isub C.hx C.b hd (kk H locs ls h1 h2 h3)
theorem b_imul (C : CT p s m args meth c cc nL own ret G A) {x1 y1 : Int32} (hd : decode cc pc = .ok (.imul, 1)) (kk : WB p l e R s m args below meth c nL G A Q k n (pc + 1) lv (.int (x1 * y1) :: st) x) : WB p l e R s m args below meth c nL G A Q k n pc lv (.int y1 :: .int x1 :: st) x := fun H locs ls h1 h2 h3 => lv_imul C.hx C.b hd (kk H locs ls h1 h2 h3)
theorem b_iand (C : CT p s m args meth c cc nL own ret G A) {x1 y1 : Int32} (hd : decode cc pc = .ok (.iand, 1)) (kk : WB p l e R s m args below meth c nL G A Q k n (pc + 1) lv (.int (x1 &&& y1) :: st) x) : WB p l e R s m args below meth c nL G A Q k n pc lv (.int y1 :: .int x1 :: st) x := fun H locs ls h1 h2 h3 => lv_iand C.hx C.b hd (kk H locs ls h1 h2 h3)
theorem b_ior (C : CT p s m args meth c cc nL own ret G A) {x1 y1 : Int32} (hd : decode cc pc = .ok (.ior, 1)) (kk : WB p l e R s m args below meth c nL G A Q k n (pc + 1) lv (.int (x1 ||| y1) :: st) x) : WB p l e R s m args below meth c nL G A Q k n pc lv (.int y1 :: .int x1 :: st) x := fun H locs ls h1 h2 h3 => lv_ior C.hx C.b hd (kk H locs ls h1 h2 h3)
theorem b_ishl (C : CT p s m args meth c cc nL own ret G A) {x1 y1 : Int32} (hd : decode cc pc = .ok (.ishl, 1)) (kk : WB p l e R s m args below meth c nL G A Q k n (pc + 1) lv (.int (x1 <<< (y1 &&& 31)) :: st) x) : WB p l e R s m args below meth c nL G A Q k n pc lv (.int y1 :: .int x1 :: st) x := fun H locs ls h1 h2 h3 => lv_ishl C.hx C.b hd (kk H locs ls h1 h2 h3)
theorem b_ishr (C : CT p s m args meth c cc nL own ret G A) {x1 y1 : Int32} (hd : decode cc pc = .ok (.ishr, 1)) (kk : WB p l e R s m args below meth c nL G A Q k n (pc + 1) lv (.int (x1 >>> (y1 &&& 31)) :: st) x) : WB p l e R s m args below meth c nL G A Q k n pc lv (.int y1 :: .int x1 :: st) x := fun H locs ls h1 h2 h3 => lv_ishr C.hx C.b hd (kk H locs ls h1 h2 h3)
theorem b_ladd (C : CT p s m args meth c cc nL own ret G A) {x1 y1 : Int64} (hd : decode cc pc = .ok (.ladd, 1)) (kk : WB p l e R s m args below meth c nL G A Q k n (pc + 1) lv (.long (x1 + y1) :: st) x) : WB p l e R s m args below meth c nL G A Q k n pc lv (.long y1 :: .long x1 :: st) x := fun H locs ls h1 h2 h3 => lv_ladd C.hx C.b hd (kk H locs ls h1 h2 h3)
theorem b_lsub (C : CT p s m args meth c cc nL own ret G A) {x1 y1 : Int64} (hd : decode cc pc = .ok (.lsub, 1)) (kk : WB p l e R s m args below meth c nL G A Q k n (pc + 1) lv (.long (x1 - y1) :: st) x) : WB p l e R s m args below meth c nL G A Q k n pc lv (.long y1 :: .long x1 :: st) x := fun H locs ls h1 h2 h3 => lv_lsub C.hx C.b hd (kk H locs ls h1 h2 h3)
theorem b_lmul (C : CT p s m args meth c cc nL own ret G A) {x1 y1 : Int64} (hd : decode cc pc = .ok (.lmul, 1)) (kk : WB p l e R s m args below meth c nL G A Q k n (pc + 1) lv (.long (x1 * y1) :: st) x) : WB p l e R s m args below meth c nL G A Q k n pc lv (.long y1 :: .long x1 :: st) x := fun H locs ls h1 h2 h3 => lv_lmul C.hx C.b hd (kk H locs ls h1 h2 h3)
theorem b_iushr (C : CT p s m args meth c cc nL own ret G A) {x1 y1 : Int32} (hd : decode cc pc = .ok (.iushr, 1)) (kk : WB p l e R s m args below meth c nL G A Q k n (pc + 1) lv (.int ((x1.toUInt32 >>> (y1.toUInt32 &&& Int32.toUInt32 31)).toInt32) :: st) x) : WB p l e R s m args below meth c nL G A Q k n pc lv (.int y1 :: .int x1 :: st) x := fun H locs ls h1 h2 h3 => lv_iushr C.hx C.b hd rfl (kk H locs ls h1 h2 h3)
theorem b_lshl (C : CT p s m args meth c cc nL own ret G A) {x1 : Int64} {y1 : Int32} (hd : decode cc pc = .ok (.lshl, 1)) (kk : WB p l e R s m args below meth c nL G A Q k n (pc + 1) lv (.long (x1 <<< (y1.toInt64 &&& 63)) :: st) x) : WB p l e R s m args below meth c nL G A Q k n pc lv (.int y1 :: .long x1 :: st) x := fun H locs ls h1 h2 h3 => lv_lshl C.hx C.b hd rfl (kk H locs ls h1 h2 h3)
theorem b_i2l (C : CT p s m args meth c cc nL own ret G A) {x1 : Int32} (hd : decode cc pc = .ok (.i2l, 1)) (kk : WB p l e R s m args below meth c nL G A Q k n (pc + 1) lv (.long x1.toInt64 :: st) x) : WB p l e R s m args below meth c nL G A Q k n pc lv (.int x1 :: st) x := fun H locs ls h1 h2 h3 => lv_i2l C.hx C.b hd rfl (kk H locs ls h1 h2 h3)
theorem b_i2d (C : CT p s m args meth c cc nL own ret G A) {x1 : Int32} (hd : decode cc pc = .ok (.i2d, 1)) (kk : WB p l e R s m args below meth c nL G A Q k n (pc + 1) lv (.double (FP.i2d x1) :: st) x) : WB p l e R s m args below meth c nL G A Q k n pc lv (.int x1 :: st) x := fun H locs ls h1 h2 h3 => lv_i2d C.hx C.b hd (kk H locs ls h1 h2 h3)
theorem b_l2d (C : CT p s m args meth c cc nL own ret G A) {x1 : Int64} (hd : decode cc pc = .ok (.l2d, 1)) (kk : WB p l e R s m args below meth c nL G A Q k n (pc + 1) lv (.double (FP.l2d x1) :: st) x) : WB p l e R s m args below meth c nL G A Q k n pc lv (.long x1 :: st) x := fun H locs ls h1 h2 h3 => lv_l2d C.hx C.b hd (kk H locs ls h1 h2 h3)
theorem b_d2l (C : CT p s m args meth c cc nL own ret G A) {x1 : UInt64} (hd : decode cc pc = .ok (.d2l, 1)) (kk : WB p l e R s m args below meth c nL G A Q k n (pc + 1) lv (.long (FP.d2l x1) :: st) x) : WB p l e R s m args below meth c nL G A Q k n pc lv (.double x1 :: st) x := fun H locs ls h1 h2 h3 => lv_d2l C.hx C.b hd (kk H locs ls h1 h2 h3)
theorem b_dcmp (C : CT p s m args meth c cc nL own ret G A) {x1 y1 : UInt64} {op : CmpOp} (hd : decode cc pc = .ok (.dcmp op, 1)) (kk : WB p l e R s m args below meth c nL G A Q k n (pc + 1) lv (.int (Op.cmpValue (FP.dcmp x1 y1) op) :: st) x) : WB p l e R s m args below meth c nL G A Q k n pc lv (.double y1 :: .double x1 :: st) x := fun H locs ls h1 h2 h3 => lv_dcmp C.hx C.b hd (kk H locs ls h1 h2 h3)
theorem b_ddiv (C : CT p s m args meth c cc nL own ret G A) {x1 y1 : UInt64} (hd : decode cc pc = .ok (.ddiv, 1)) (hne : vf_n64 (FP.ddiv x1 y1)) (kk : WB p l e R s m args below meth c nL G A Q k n (pc + 1) lv (.double (FP.ddiv x1 y1) :: st) x) : WB p l e R s m args below meth c nL G A Q k n pc lv (.double y1 :: .double x1 :: st) x := fun H locs ls h1 h2 h3 => lv_ddiv C.hx C.b hd hne (kk H locs ls h1 h2 h3)
theorem b_dmul (C : CT p s m args meth c cc nL own ret G A) {x1 y1 : UInt64} (hd : decode cc pc = .ok (.dmul, 1)) (hne : vf_n64 (FP.dmul x1 y1)) (kk : WB p l e R s m args below meth c nL G A Q k n (pc + 1) lv (.double (FP.dmul x1 y1) :: st) x) : WB p l e R s m args below meth c nL G A Q k n pc lv (.double y1 :: .double x1 :: st) x := fun H locs ls h1 h2 h3 => lv_dmul C.hx C.b hd hne (kk H locs ls h1 h2 h3)
theorem b_dsub (C : CT p s m args meth c cc nL own ret G A) {x1 y1 : UInt64} (hd : decode cc pc = .ok (.dsub, 1)) (hne : vf_n64 (FP.dsub x1 y1)) (kk : WB p l e R s m args below meth c nL G A Q k n (pc + 1) lv (.double (FP.dsub x1 y1) :: st) x) : WB p l e R s m args below meth c nL G A Q k n pc lv (.double y1 :: .double x1 :: st) x := fun H locs ls h1 h2 h3 => lv_dsub C.hx C.b hd hne (kk H locs ls h1 h2 h3)
theorem b_dup (C : CT p s m args meth c cc nL own ret G A) {v : Value} (hd : decode cc pc = .ok (.dup, 1)) (hv : v.category = 1) (kk : WB p l e R s m args below meth c nL G A Q k n (pc + 1) lv (v :: v :: st) x) : WB p l e R s m args below meth c nL G A Q k n pc lv (v :: st) x := fun H locs ls h1 h2 h3 => lv_dup C.hx C.b hd hv (kk H locs ls h1 h2 h3)
theorem b_pop (C : CT p s m args meth c cc nL own ret G A) {v : Value} (hd : decode cc pc = .ok (.pop, 1)) (hv : v.category = 1) (kk : WB p l e R s m args below meth c nL G A Q k n (pc + 1) lv (st) x) : WB p l e R s m args below meth c nL G A Q k n pc lv (v :: st) x := fun H locs ls h1 h2 h3 => lv_pop C.hx C.b hd hv (kk H locs ls h1 h2 h3)
theorem b_dup2 (C : CT p s m args meth c cc nL own ret G A) {v v2 : Value} (hd : decode cc pc = .ok (.dup2, 1)) (hv : v.category = 1) (hv2 : v2.category = 1) (kk : WB p l e R s m args below meth c nL G A Q k n (pc + 1) lv (v :: v2 :: v :: v2 :: st) x) : WB p l e R s m args below meth c nL G A Q k n pc lv (v :: v2 :: st) x := fun H locs ls h1 h2 h3 => lv_dup2_11 C.hx C.b hd hv hv2 (kk H locs ls h1 h2 h3)
theorem b_goto (C : CT p s m args meth c cc nL own ret G A) {off : Int} {tgt : Nat} (hd : decode cc pc = .ok (.goto off, 3)) (ht : (pc : Int) + off = (tgt : Int)) (kk : WB p l e R s m args below meth c nL G A Q k n tgt lv (st) x) : WB p l e R s m args below meth c nL G A Q k n pc lv (st) x := fun H locs ls h1 h2 h3 => lv_goto C.hx C.b hd ht (kk H locs ls h1 h2 h3)
theorem b_if_eq (C : CT p s m args meth c cc nL own ret G A) {a : Int32} {off : Int} {tgt : Nat} (hd : decode cc pc = .ok (.ifCond .eq off, 3)) (ht : (pc : Int) + off = (tgt : Int)) (kt : a = 0 → WB p l e R s m args below meth c nL G A Q k n tgt lv (st) x) (kf : ¬ a = 0 → WB p l e R s m args below meth c nL G A Q k n (pc + 3) lv (st) x) : WB p l e R s m args below meth c nL G A Q k n pc lv (.int a :: st) x := fun H locs ls h1 h2 h3 => lv_if_eq C.hx C.b hd ht (fun q => kt q H locs ls h1 h2 h3) (fun q => kf q H locs ls h1 h2 h3)
theorem b_icmp_eq (C : CT p s m args meth c cc nL own ret G A) {a b : Int32} {off : Int} {tgt : Nat} (hd : decode cc pc = .ok (.if_icmp .eq off, 3)) (ht : (pc : Int) + off = (tgt : Int)) (kt : a = b → WB p l e R s m args below meth c nL G A Q k n tgt lv (st) x) (kf : ¬ a = b → WB p l e R s m args below meth c nL G A Q k n (pc + 3) lv (st) x) : WB p l e R s m args below meth c nL G A Q k n pc lv (.int b :: .int a :: st) x := fun H locs ls h1 h2 h3 => lv_icmp_eq C.hx C.b hd ht (fun q => kt q H locs ls h1 h2 h3) (fun q => kf q H locs ls h1 h2 h3)
theorem b_if_ne (C : CT p s m args meth c cc nL own ret G A) {a : Int32} {off : Int} {tgt : Nat} (hd : decode cc pc = .ok (.ifCond .ne off, 3)) (ht : (pc : Int) + off = (tgt : Int)) (kt : ¬ a = 0 → WB p l e R s m args below meth c nL G A Q k n tgt lv (st) x) (kf : a = 0 → WB p l e R s m args below meth c nL G A Q k n (pc + 3) lv (st) x) : WB p l e R s m args below meth c nL G A Q k n pc lv (.int a :: st) x := fun H locs ls h1 h2 h3 => lv_if_ne C.hx C.b hd ht (fun q => kt q H locs ls h1 h2 h3) (fun q => kf q H locs ls h1 h2 h3)
theorem b_icmp_ne (C : CT p s m args meth c cc nL own ret G A) {a b : Int32} {off : Int} {tgt : Nat} (hd : decode cc pc = .ok (.if_icmp .ne off, 3)) (ht : (pc : Int) + off = (tgt : Int)) (kt : ¬ a = b → WB p l e R s m args below meth c nL G A Q k n tgt lv (st) x) (kf : a = b → WB p l e R s m args below meth c nL G A Q k n (pc + 3) lv (st) x) : WB p l e R s m args below meth c nL G A Q k n pc lv (.int b :: .int a :: st) x := fun H locs ls h1 h2 h3 => lv_icmp_ne C.hx C.b hd ht (fun q => kt q H locs ls h1 h2 h3) (fun q => kf q H locs ls h1 h2 h3)
theorem b_if_lt (C : CT p s m args meth c cc nL own ret G A) {a : Int32} {off : Int} {tgt : Nat} (hd : decode cc pc = .ok (.ifCond .lt off, 3)) (ht : (pc : Int) + off = (tgt : Int)) (kt : a < 0 → WB p l e R s m args below meth c nL G A Q k n tgt lv (st) x) (kf : ¬ a < 0 → WB p l e R s m args below meth c nL G A Q k n (pc + 3) lv (st) x) : WB p l e R s m args below meth c nL G A Q k n pc lv (.int a :: st) x := fun H locs ls h1 h2 h3 => lv_if_lt C.hx C.b hd ht (fun q => kt q H locs ls h1 h2 h3) (fun q => kf q H locs ls h1 h2 h3)
theorem b_icmp_lt (C : CT p s m args meth c cc nL own ret G A) {a b : Int32} {off : Int} {tgt : Nat} (hd : decode cc pc = .ok (.if_icmp .lt off, 3)) (ht : (pc : Int) + off = (tgt : Int)) (kt : a < b → WB p l e R s m args below meth c nL G A Q k n tgt lv (st) x) (kf : ¬ a < b → WB p l e R s m args below meth c nL G A Q k n (pc + 3) lv (st) x) : WB p l e R s m args below meth c nL G A Q k n pc lv (.int b :: .int a :: st) x := fun H locs ls h1 h2 h3 => lv_icmp_lt C.hx C.b hd ht (fun q => kt q H locs ls h1 h2 h3) (fun q => kf q H locs ls h1 h2 h3)
theorem b_if_ge (C : CT p s m args meth c cc nL own ret G A) {a : Int32} {off : Int} {tgt : Nat} (hd : decode cc pc = .ok (.ifCond .ge off, 3)) (ht : (pc : Int) + off = (tgt : Int)) (kt : 0 ≤ a → WB p l e R s m args below meth c nL G A Q k n tgt lv (st) x) (kf : ¬ 0 ≤ a → WB p l e R s m args below meth c nL G A Q k n (pc + 3) lv (st) x) : WB p l e R s m args below meth c nL G A Q k n pc lv (.int a :: st) x := fun H locs ls h1 h2 h3 => lv_if_ge C.hx C.b hd ht (fun q => kt q H locs ls h1 h2 h3) (fun q => kf q H locs ls h1 h2 h3)
theorem b_icmp_ge (C : CT p s m args meth c cc nL own ret G A) {a b : Int32} {off : Int} {tgt : Nat} (hd : decode cc pc = .ok (.if_icmp .ge off, 3)) (ht : (pc : Int) + off = (tgt : Int)) (kt : b ≤ a → WB p l e R s m args below meth c nL G A Q k n tgt lv (st) x) (kf : ¬ b ≤ a → WB p l e R s m args below meth c nL G A Q k n (pc + 3) lv (st) x) : WB p l e R s m args below meth c nL G A Q k n pc lv (.int b :: .int a :: st) x := fun H locs ls h1 h2 h3 => lv_icmp_ge C.hx C.b hd ht (fun q => kt q H locs ls h1 h2 h3) (fun q => kf q H locs ls h1 h2 h3)
theorem b_if_gt (C : CT p s m args meth c cc nL own ret G A) {a : Int32} {off : Int} {tgt : Nat} (hd : decode cc pc = .ok (.ifCond .gt off, 3)) (ht : (pc : Int) + off = (tgt : Int)) (kt : 0 < a → WB p l e R s m args below meth c nL G A Q k n tgt lv (st) x) (kf : ¬ 0 < a → WB p l e R s m args below meth c nL G A Q k n (pc + 3) lv (st) x) : WB p l e R s m args below meth c nL G A Q k n pc lv (.int a :: st) x := fun H locs ls h1 h2 h3 => lv_if_gt C.hx C.b hd ht (fun q => kt q H locs ls h1 h2 h3) (fun q => kf q H locs ls h1 h2 h3)
theorem b_icmp_gt (C : CT p s m args meth c cc nL own ret G A) {a b : Int32} {off : Int} {tgt : Nat} (hd : decode cc pc = .ok (.if_icmp .gt off, 3)) (ht : (pc : Int) + off = (tgt : Int)) (kt : b < a → WB p l e R s m args below meth c nL G A Q k n tgt lv (st) x) (kf : ¬ b < a → WB p l e R s m args below meth c nL G A Q k n (pc + 3) lv (st) x) : WB p l e R s m args below meth c nL G A Q k n pc lv (.int b :: .int a :: st) x := fun H locs ls h1 h2 h3 => lv_icmp_gt C.hx C.b hd ht (fun q => kt q H locs ls h1 h2 h3) (fun q => kf q H locs ls h1 h2 h3)
theorem b_if_le (C : CT p s m args meth c cc nL own ret G A) {a : Int32} {off : Int} {tgt : Nat} (hd : decode cc pc = .ok (.ifCond .le off, 3)) (ht : (pc : Int) + off = (tgt : Int)) (kt : a ≤ 0 → WB p l e R s m args below meth c nL G A Q k n tgt lv (st) x) (kf : ¬ a ≤ 0 → WB p l e R s m args below meth c nL G A Q k n (pc + 3) lv (st) x) : WB p l e R s m args below meth c nL G A Q k n pc lv (.int a :: st) x := fun H locs ls h1 h2 h3 => lv_if_le C.hx C.b hd ht (fun q => kt q H locs ls h1 h2 h3) (fun q => kf q H locs ls h1 h2 h3)
theorem b_icmp_le (C : CT p s m args meth c cc nL own ret G A) {a b : Int32} {off : Int} {tgt : Nat} (hd : decode cc pc = .ok (.if_icmp .le off, 3)) (ht : (pc : Int) + off = (tgt : Int)) (kt : a ≤ b → WB p l e R s m args below meth c nL G A Q k n tgt lv (st) x) (kf : ¬ a ≤ b → WB p l e R s m args below meth c nL G A Q k n (pc + 3) lv (st) x) : WB p l e R s m args below meth c nL G A Q k n pc lv (.int b :: .int a :: st) x := fun H locs ls h1 h2 h3 => lv_icmp_le C.hx C.b hd ht (fun q => kt q H locs ls h1 h2 h3) (fun q => kf q H locs ls h1 h2 h3)
/-! fields and arrays of the pool -/
theorem b_getf (C : CT p s m args meth c cc nL own ret G A) {i K q idx N : Nat} {Cn ref : String} {T : u_T} {v : Value} (hk : kd i = K) (hK : K < 8) (hc : vwCl[K]? = some (Cn, T, N)) (hin : ∀ w ∈ u_ws Cn T N, w ∈ AW) (hq : q < N) (hlink : Cond.fieldLink own idx ref (T q).2.1 (T q).2.2.1 ∈ AW) (href : ref = (T q).1) (hv : (gF G x i K)[q]? = some v) (hd : decode cc pc = .ok (.getfield idx, 3)) (kk : WB p l e R s m args below meth c nL G A Q k n (pc + 3) lv (v :: st) x) : WB p l e R s m args below meth c nL G A Q k n pc lv (.ref (G.2.2 i) :: st) x := by
  intro H locs ls h1 h2 h3
  have hi : i < 108 := kd_lt hk (by omega)
  subst href
  exact va_get C.hx C.b C.ts hin C.ow C.K h2 i (fs := gF G x i K) (by rw [wl_get G x hi, gE_obj hk hK]) hc q hq (C.ts _ hlink) (fun _ h => h) hv hd (kk H locs ls h1 h2 h3)

theorem b_put (C : CT p s m args meth c cc nL own ret G A) {i K q idx N : Nat} {Cn ref : String} {T : u_T} {ty : FieldType} {v : Value} {ty0 : Nat → FieldType} {y : xS} (hk : kd i = K) (hK : K < 8) (hc : vwCl[K]? = some (Cn, T, N)) (hin : ∀ w ∈ u_ws Cn T N, w ∈ AW) (hty : ∀ k, k < N → parseFieldDescriptor (T k).2.2.1 = some (ty0 k)) (hnm : ∀ a, a < N → ∀ b, b < N → a ≠ b → (T a).2.1 ≠ (T b).2.1) (hq : q < N) (hlink : Cond.fieldLink own idx ref (T q).2.1 (T q).2.2.1 ∈ AW) (href : ref = (T q).1) (hfin : (T q).2.2.2 = false) (hdf : parseFieldDescriptor (T q).2.2.1 = some ty) (hn : narrow ty v = v) (hfit : fits ty v = true) (hl : q < (gF G x i K).length) (hd : decode cc pc = .ok (.putfield idx, 3)) (hy : gF G y i K = (gF G x i K).set q v) (hy1 : ∀ j, j ≠ i → x.1 j = y.1 j) (hy2 : ∀ j, j ≠ i → x.2 j = y.2 j) (kk : WB p l e R s m args below meth c nL G A Q k n (pc + 3) lv (st) y) : WB p l e R s m args below meth c nL G A Q k n pc lv (v :: .ref (G.2.2 i) :: st) x := by
  intro H locs ls h1 h2 h3
  have hi : i < 108 := kd_lt hk (by omega)
  subst href
  refine va_put C.hx C.b C.ts hin ty0 hty hnm C.ow C.K h2 (wl_D C.D x) h3 i (fs := gF G x i K) (by rw [wl_get G x hi, gE_obj hk hK]) hc q hq (C.ts _ hlink) (fun _ h => h) hfin hdf hn hfit hl hd (fun H1 locs1 g1 _ g3 => ?_)
  rw [wl_set (y := y) hi (by rw [gE_obj hk hK, hy]) hy1 hy2] at g1
  exact kk H1 locs1 ls h1 g1 g3

theorem b_iald (C : CT p s m args meth c cc nL own ret G A) {i : Nat} {j : Int32} (hk : kd i = 8) (hin : ¬ (j < 0 ∨ ln i ≤ j.toNatClampNeg)) (hd : decode cc pc = .ok (.iaload, 1)) (kk : WB p l e R s m args below meth c nL G A Q k n (pc + 1) lv (.int (x.1 i j.toNatClampNeg) :: st) x) : WB p l e R s m args below meth c nL G A Q k n pc lv (.int j :: .ref (G.2.2 i) :: st) x := by
  intro H locs ls h1 h2 h3
  have hi : i < 108 := kd_lt hk (by omega)
  exact va_iald C.hx C.b C.K h2 i 0 (by rw [wl_get G x hi, gE_8 hk]) rfl hin hd (kk H locs ls h1 h2 h3)

theorem b_zald (C : CT p s m args meth c cc nL own ret G A) {i : Nat} {j : Int32} (hk : kd i = 9) (hin : ¬ (j < 0 ∨ ln i ≤ j.toNatClampNeg)) (hd : decode cc pc = .ok (.baload, 1)) (kk : WB p l e R s m args below meth c nL G A Q k n (pc + 1) lv (.int (x.1 i j.toNatClampNeg) :: st) x) : WB p l e R s m args below meth c nL G A Q k n pc lv (.int j :: .ref (G.2.2 i) :: st) x := by
  intro H locs ls h1 h2 h3
  have hi : i < 108 := kd_lt hk (by omega)
  exact va_zald C.hx C.b C.K h2 i 1 (by rw [wl_get G x hi, gE_9 hk]) rfl hin hd (kk H locs ls h1 h2 h3)

theorem b_aald (C : CT p s m args meth c cc nL own ret G A) {i : Nat} {j : Int32} (hk : kd i = 10) (hin : ¬ (j < 0 ∨ ln i ≤ j.toNatClampNeg)) (hd : decode cc pc = .ok (.aaload, 1)) (kk : WB p l e R s m args below meth c nL G A Q k n (pc + 1) lv (.ref (G.2.2 (i + 2 + 10 * j.toNatClampNeg)) :: st) x) : WB p l e R s m args below meth c nL G A Q k n pc lv (.int j :: .ref (G.2.2 i) :: st) x := by
  intro H locs ls h1 h2 h3
  have hi : i < 108 := kd_lt hk (by omega)
  exact va_aldq (f := fun k => some (G.2.2 (i + 2 + 10 * k))) C.hx C.b C.K h2 i 2 (by rw [wl_get G x hi, gE_10 hk]) rfl hin hd (kk H locs ls h1 h2 h3)

theorem b_lald (C : CT p s m args meth c cc nL own ret G A) {i : Nat} {j : Int32} (hk : kd i = 11) (hin : ¬ (j < 0 ∨ ln i ≤ j.toNatClampNeg)) (hd : decode cc pc = .ok (.laload, 1)) (kk : WB p l e R s m args below meth c nL G A Q k n (pc + 1) lv (.long (x.2 i j.toNatClampNeg) :: st) x) : WB p l e R s m args below meth c nL G A Q k n pc lv (.int j :: .ref (G.2.2 i) :: st) x := by
  intro H locs ls h1 h2 h3
  have hi : i < 108 := kd_lt hk (by omega)
  exact va_lald C.hx C.b C.K h2 i 3 (by rw [wl_get G x hi, gE_11 hk]) rfl hin hd (kk H locs ls h1 h2 h3)

theorem b_iast (C : CT p s m args meth c cc nL own ret G A) {i : Nat} {j v : Int32} (hk : kd i = 8) (hin : ¬ (j < 0 ∨ ln i ≤ j.toNatClampNeg)) (hd : decode cc pc = .ok (.iastore, 1)) (kk : WB p l e R s m args below meth c nL G A Q k n (pc + 1) lv (st) (up1 x i j.toNatClampNeg v)) : WB p l e R s m args below meth c nL G A Q k n pc lv (.int v :: .int j :: .ref (G.2.2 i) :: st) x := by
  intro H locs ls h1 h2 h3
  have hi : i < 108 := kd_lt hk (by omega)
  refine va_iast C.hx C.b C.K h2 (wl_D C.D x) h3 i 0 (by rw [wl_get G x hi, gE_8 hk]) rfl hin hd (fun H1 locs1 g1 _ g3 => ?_)
  rw [wl_upR (f := upd (x.1 i) j.toNatClampNeg v) hi (by rw [gE_8 hk, upR_same])] at g1
  exact kk H1 locs1 ls h1 g1 g3

theorem b_zast (C : CT p s m args meth c cc nL own ret G A) {i : Nat} {j v : Int32} (hk : kd i = 9) (hin : ¬ (j < 0 ∨ ln i ≤ j.toNatClampNeg)) (hd : decode cc pc = .ok (.bastore, 1)) (kk : WB p l e R s m args below meth c nL G A Q k n (pc + 1) lv (st) (up1 x i j.toNatClampNeg (vp_nar .boolean v))) : WB p l e R s m args below meth c nL G A Q k n pc lv (.int v :: .int j :: .ref (G.2.2 i) :: st) x := by
  intro H locs ls h1 h2 h3
  have hi : i < 108 := kd_lt hk (by omega)
  refine va_zast C.hx C.b C.K h2 (wl_D C.D x) h3 i 1 (by rw [wl_get G x hi, gE_9 hk]) rfl hin hd (fun H1 locs1 g1 _ g3 => ?_)
  rw [wl_upR (f := upd (x.1 i) j.toNatClampNeg (vp_nar .boolean v)) hi (by rw [gE_9 hk, upR_same])] at g1
  exact kk H1 locs1 ls h1 g1 g3

theorem b_last (C : CT p s m args meth c cc nL own ret G A) {i : Nat} {j : Int32} {v : Int64} (hk : kd i = 11) (hin : ¬ (j < 0 ∨ ln i ≤ j.toNatClampNeg)) (hd : decode cc pc = .ok (.lastore, 1)) (kk : WB p l e R s m args below meth c nL G A Q k n (pc + 1) lv (st) (up2 x i j.toNatClampNeg v)) : WB p l e R s m args below meth c nL G A Q k n pc lv (.long v :: .int j :: .ref (G.2.2 i) :: st) x := by
  intro H locs ls h1 h2 h3
  have hi : i < 108 := kd_lt hk (by omega)
  refine va_last C.hx C.b C.K h2 (wl_D C.D x) h3 i 3 (by rw [wl_get G x hi, gE_11 hk]) rfl hin hd (fun H1 locs1 g1 _ g3 => ?_)
  rw [wl_up2 (k := j.toNatClampNeg) (v := v) hi (by rw [gE_11 hk, up2_same])] at g1
  exact kk H1 locs1 ls h1 g1 g3

theorem b_alen8 (C : CT p s m args meth c cc nL own ret G A) {i : Nat} (hk : kd i = 8) (hd : decode cc pc = .ok (.arraylength, 1)) (kk : WB p l e R s m args below meth c nL G A Q k n (pc + 1) lv (.int (Int32.ofNat (ln i)) :: st) x) : WB p l e R s m args below meth c nL G A Q k n pc lv (.ref (G.2.2 i) :: st) x := by
  intro H locs ls h1 h2 h3
  have hi : i < 108 := kd_lt hk (by omega)
  exact va_alen C.hx C.b C.K h2 i 0 (by rw [wl_get G x hi, gE_8 hk]) rfl rfl hd (kk H locs ls h1 h2 h3)

theorem b_alen9 (C : CT p s m args meth c cc nL own ret G A) {i : Nat} (hk : kd i = 9) (hd : decode cc pc = .ok (.arraylength, 1)) (kk : WB p l e R s m args below meth c nL G A Q k n (pc + 1) lv (.int (Int32.ofNat (ln i)) :: st) x) : WB p l e R s m args below meth c nL G A Q k n pc lv (.ref (G.2.2 i) :: st) x := by
  intro H locs ls h1 h2 h3
  have hi : i < 108 := kd_lt hk (by omega)
  exact va_alen C.hx C.b C.K h2 i 1 (by rw [wl_get G x hi, gE_9 hk]) rfl rfl hd (kk H locs ls h1 h2 h3)

theorem b_alen10 (C : CT p s m args meth c cc nL own ret G A) {i : Nat} (hk : kd i = 10) (hd : decode cc pc = .ok (.arraylength, 1)) (kk : WB p l e R s m args below meth c nL G A Q k n (pc + 1) lv (.int (Int32.ofNat (ln i)) :: st) x) : WB p l e R s m args below meth c nL G A Q k n pc lv (.ref (G.2.2 i) :: st) x := by
  intro H locs ls h1 h2 h3
  have hi : i < 108 := kd_lt hk (by omega)
  exact va_alen C.hx C.b C.K h2 i 2 (by rw [wl_get G x hi, gE_10 hk]) rfl rfl hd (kk H locs ls h1 h2 h3)

theorem b_lcmp (C : CT p s m args meth c cc nL own ret G A) {x1 y1 : Int64} (hd : decode cc pc = .ok (.lcmp, 1)) (kk : WB p l e R s m args below meth c nL G A Q k n (pc + 1) lv (.int (lg_cmp x1 y1) :: st) x) : WB p l e R s m args below meth c nL G A Q k n pc lv (.long y1 :: .long x1 :: st) x := fun H locs ls h1 h2 h3 => W.lcmp C.hx C.b hd (kk H locs ls h1 h2 h3)
theorem b_aconst (C : CT p s m args meth c cc nL own ret G A) (hd : decode cc pc = .ok (.aconst_null, 1)) (kk : WB p l e R s m args below meth c nL G A Q k n (pc + 1) lv (.null :: st) x) : WB p l e R s m args below meth c nL G A Q k n pc lv (st) x := fun H locs ls h1 h2 h3 => lv_null C.hx C.b hd (kk H locs ls h1 h2 h3)
theorem b_ifnullR (C : CT p s m args meth c cc nL own ret G A) {i : Nat} {off : Int} (hd : decode cc pc = .ok (.ifnull off, 3)) (kk : WB p l e R s m args below meth c nL G A Q k n (pc + 3) lv (st) x) : WB p l e R s m args below meth c nL G A Q k n pc lv (.ref i :: st) x := fun H locs ls h1 h2 h3 => lv_ifnull C.hx C.b hd (kk H locs ls h1 h2 h3)
theorem b_ifnullN (C : CT p s m args meth c cc nL own ret G A) {off : Int} {tgt : Nat} (hd : decode cc pc = .ok (.ifnull off, 3)) (ht : (pc : Int) + off = (tgt : Int)) (kk : WB p l e R s m args below meth c nL G A Q k n tgt lv (st) x) : WB p l e R s m args below meth c nL G A Q k n pc lv (.null :: st) x := fun H locs ls h1 h2 h3 => lv_ifnullN C.hx C.b hd ht (kk H locs ls h1 h2 h3)
theorem b_astore_nN (C : CT p s m args meth c cc nL own ret G A) {j : Fin 4} {i : Nat} {lv' : List (Nat × Value)} (hd : decode cc pc = .ok (.astore_n j, 1)) (hj : (j : Nat) = i) (hn : i < nL) (hl : (i, Value.null) :: lv.filter (fun q => !(q.1 == i) && !(q.1 + 1 == i && q.2.category == 2)) = lv') (kk : WB p l e R s m args below meth c nL G A Q k n (pc + 1) lv' (st) x) : WB p l e R s m args below meth c nL G A Q k n pc lv (.null :: st) x := fun H locs ls h1 h2 h3 => lv_astore_nN C.hx C.b hd hj h1 hn hl (fun ls' h1' => kk H locs ls' h1' h2 h3)
theorem b_aload_nN (C : CT p s m args meth c cc nL own ret G A) {j : Fin 4} {i : Nat} (hd : decode cc pc = .ok (.aload_n j, 1)) (hj : (j : Nat) = i) (q : Nat) (hl : lv[q]? = some (i, .null)) (kk : WB p l e R s m args below meth c nL G A Q k n (pc + 1) lv (.null :: st) x) : WB p l e R s m args below meth c nL G A Q k n pc lv (st) x := fun H locs ls h1 h2 h3 => lv_aload_nN C.hx C.b hd hj (lv_at h1 q hl) (kk H locs ls h1 h2 h3)
theorem b_ldcw (C : CT p s m args meth c cc nL own ret G A) {idx : Nat} {v : Int32} (hq : Cond.constant own idx v ∈ AW) (hd : decode cc pc = .ok (.ldc_w idx, 3)) (kk : WB p l e R s m args below meth c nL G A Q k n (pc + 3) lv (.int v :: st) x) : WB p l e R s m args below meth c nL G A Q k n pc lv (st) x := fun H locs ls h1 h2 h3 => lv_ldcw C.hx C.b C.ow (C.ts _ hq) hd (kk H locs ls h1 h2 h3)
theorem b_ldc2 (C : CT p s m args meth c cc nL own ret G A) {idx : Nat} {v : Int64} (hq : Cond.constantLong own idx v ∈ AW) (hd : decode cc pc = .ok (.ldc2_w idx, 3)) (kk : WB p l e R s m args below meth c nL G A Q k n (pc + 3) lv (.long v :: st) x) : WB p l e R s m args below meth c nL G A Q k n pc lv (st) x := fun H locs ls h1 h2 h3 => lv_ldc2 C.hx C.b C.ow (C.ts _ hq) hd (kk H locs ls h1 h2 h3)
theorem b_ldc2d (C : CT p s m args meth c cc nL own ret G A) {idx : Nat} {v : UInt64} (hq : Cond.constantDouble own idx v ∈ AW) (hd : decode cc pc = .ok (.ldc2_w idx, 3)) (kk : WB p l e R s m args below meth c nL G A Q k n (pc + 3) lv (.double v :: st) x) : WB p l e R s m args below meth c nL G A Q k n pc lv (st) x := fun H locs ls h1 h2 h3 => lv_ldc2d C.hx C.b C.ow (C.ts _ hq) hd (kk H locs ls h1 h2 h3)
theorem b_getfN (C : CT p s m args meth c cc nL RX6 ret G A) {i : Nat} (hk : kd i = 3) (hin : ∀ w ∈ u_ws RX3 TX3 4, w ∈ AW) (hd : decode cc pc = .ok (.getfield 151, 3)) (kk : WB p l e R s m args below meth c nL G A Q k n (pc + 3) lv (.ref (G.2.2 (i + 1)) :: st) x) : WB p l e R s m args below meth c nL G A Q k n pc lv (.ref (G.2.2 i) :: st) x := by
  intro H locs ls h1 h2 h3
  have hi : i < 108 := kd_lt hk (by omega)
  exact va_getN (host := "SevenAsks") C.hx C.b C.ts hin C.ow C.K h2 i (fs := gF G x i 3) (by rw [wl_get G x hi, gE_obj hk (by omega)]) rfl 0 (by omega) (va_Nw.use rfl C.nw.1) (fun _ h => h) rfl hd (kk H locs ls h1 h2 h3)

theorem b_tabIn (C : CT p s m args meth c cc nL own ret G A) {dflt lo hi : Int} {offs : Array Int} {len : Nat} {v : Int32} {off kc : Int} {tgt : Nat} (hv : v.toInt = kc) (hd : decode cc pc = .ok (.tableswitch dflt lo hi offs, len)) (h1 : ¬ kc < lo) (h2 : ¬ hi < kc) (ho : offs[(kc - lo).toNat]? = some off) (ht : (pc : Int) + off = (tgt : Int)) (kk : WB p l e R s m args below meth c nL G A Q k n tgt lv (st) x) : WB p l e R s m args below meth c nL G A Q k n pc lv (.int v :: st) x := by
  intro H locs ls g1 g2 g3
  subst hv
  exact lv_tableIn C.hx C.b hd h1 h2 ho ht (kk H locs ls g1 g2 g3)
theorem b_tabOut (C : CT p s m args meth c cc nL own ret G A) {dflt lo hi : Int} {offs : Array Int} {len : Nat} {v : Int32} {tgt : Nat} (hv : v.toInt < lo ∨ hi < v.toInt) (hd : decode cc pc = .ok (.tableswitch dflt lo hi offs, len)) (ht : (pc : Int) + dflt = (tgt : Int)) (kk : WB p l e R s m args below meth c nL G A Q k n tgt lv (st) x) : WB p l e R s m args below meth c nL G A Q k n pc lv (.int v :: st) x := fun H locs ls g1 g2 g3 => lv_tableOut C.hx C.b hd hv ht (kk H locs ls g1 g2 g3)

theorem b_mmin (C : CT p s m args meth c cc nL own ret G A) {idx : Nat} {x1 y1 : Int32} (hq1 : Cond.methodLink own idx Lib.Math.min.name ∈ AW) (hq2 : Cond.static Lib.Math.min.name ∈ AW) (hq3 : Cond.initialized "java/lang/Math" ∈ AW) (hq4 : Cond.code Lib.Math.min.name Lib.Math.min.code 2 (some .int) ∈ AW) (hR : 1 ≤ R.frames ∧ 21 ≤ R.locals) (hst : (st.map fun v => v.category).sum ≤ 8) (hkn : k ≤ R.cells ∧ n ≤ R.slots) (hd : decode cc pc = .ok (.invokestatic idx, 3)) (kk : WB p l e R s m args below meth c nL G A Q k n (pc + 3) lv (.int (if y1 < x1 then y1 else x1) :: st) x) : WB p l e R s m args below meth c nL G A Q k n pc lv (.int y1 :: .int x1 :: st) x := by
  intro H locs ls h1 h2 h3
  exact va_mmin C.hx C.b (C.ml.trans h1.1.symm) C.ow (C.ts _ hq1) (C.ts _ hq2) (C.ts _ hq3) (C.ts _ hq4) hR.1 (by have := hR.2; omega) hkn.1 hkn.2 hd (kk H locs ls h1 h2 h3)

theorem b_mmax (C : CT p s m args meth c cc nL own ret G A) {idx : Nat} {x1 y1 : Int32} (hq1 : Cond.methodLink own idx Lib.Math.max.name ∈ AW) (hq2 : Cond.static Lib.Math.max.name ∈ AW) (hq3 : Cond.initialized "java/lang/Math" ∈ AW) (hq4 : Cond.code Lib.Math.max.name Lib.Math.max.code 2 (some .int) ∈ AW) (hR : 1 ≤ R.frames ∧ 21 ≤ R.locals) (hst : (st.map fun v => v.category).sum ≤ 8) (hkn : k ≤ R.cells ∧ n ≤ R.slots) (hd : decode cc pc = .ok (.invokestatic idx, 3)) (kk : WB p l e R s m args below meth c nL G A Q k n (pc + 3) lv (.int (if x1 < y1 then y1 else x1) :: st) x) : WB p l e R s m args below meth c nL G A Q k n pc lv (.int y1 :: .int x1 :: st) x := by
  intro H locs ls h1 h2 h3
  exact va_mmax C.hx C.b (C.ml.trans h1.1.symm) C.ow (C.ts _ hq1) (C.ts _ hq2) (C.ts _ hq3) (C.ts _ hq4) hR.1 (by have := hR.2; omega) hkn.1 hkn.2 hd (kk H locs ls h1 h2 h3)

theorem b_copy (C : CT p s m args meth c cc nL own ret G A) {idx i j : Nat} {sp dp z : Int32} (hq1 : Cond.methodLink own idx arraycopyName ∈ AW) (hq2 : Cond.native arraycopyName ∈ AW) (hq3 : Cond.static arraycopyName ∈ AW) (hq4 : Cond.initialized "java/lang/System" ∈ AW) (hi : kd i = 8) (hj : kd j = 8) (hg : ¬ (sp < 0 ∨ dp < 0 ∨ z < 0 ∨ ln i < sp.toNatClampNeg + z.toNatClampNeg ∨ ln j < dp.toNatClampNeg + z.toNatClampNeg)) (hR : 1 ≤ R.frames ∧ 40 ≤ R.locals) (hst : (st.map fun v => v.category).sum ≤ 8) (hd : decode cc pc = .ok (.invokestatic idx, 3)) (kk : WB p l e R s m args below meth c nL G A Q k n (pc + 3) lv (st) (upR x j (va_cpy (x.1 i) (x.1 j) sp.toNatClampNeg dp.toNatClampNeg z.toNatClampNeg))) : WB p l e R s m args below meth c nL G A Q k n pc lv (.int z :: .int dp :: .ref (G.2.2 j) :: .int sp :: .ref (G.2.2 i) :: st) x := by
  intro H locs ls h1 h2 h3
  simp only [not_or, Nat.not_lt] at hg
  obtain ⟨g1, g2, g3, g4, g5⟩ := hg
  have hi8 : i < 108 := kd_lt hi (by omega)
  have hj8 : j < 108 := kd_lt hj (by omega)
  have h9 : (st.map fun v => v.category).sum + (nativeFrameWords "java/lang/System" "arraycopy" 5 + 11) ≤ R.locals := by
    have h8 : nativeFrameWords "java/lang/System" "arraycopy" 5 + 11 ≤ 32 := by decide
    have h7 := hR.2
    omega
  refine va_copyi C.hx C.b (C.ml.trans h1.1.symm) C.ow (C.ts _ hq1) (C.ts _ hq2) (C.ts _ hq3) (C.ts _ hq4) C.K h2 (wl_D C.D x) h3 i j 0 0 (by rw [wl_get G x hi8, gE_8 hi]) (by rw [wl_get G x hj8, gE_8 hj]) rfl rfl rfl g1 g2 g3 g4 g5 (fun _ _ => rfl) hR.1 h9 hd (fun H1 locs1 q1 _ q3 => ?_)
  rw [wl_upR (f := va_cpy (x.1 i) (x.1 j) sp.toNatClampNeg dp.toNatClampNeg z.toNatClampNeg) hj8 (by rw [gE_8 hj, upR_same])] at q1
  exact kk H1 locs1 ls h1 q1 q3

/-! contracts: by the kind of the answer; res is the answer and the numbers behind -/
def cI (l : Launch) (y : MethodName) (b : ByteArray) (nl : Nat) (r : FieldType) (rm : Room) (as : List Value) (G : gT) (x : xS) (res : Int32 × xS) : Prop := ∀ sz, Met l y (ws_ y b nl (some r)) rm (va_Pc as (fun U => U.heap.size = sz ∧ PW G x U)) (va_Qi (fun v u => res = (v, u)) (fun u t => PW G u t) (pA G sz)) 0 0 (pA G sz)
def cV (l : Launch) (y : MethodName) (b : ByteArray) (nl : Nat) (rm : Room) (as : List Value) (G : gT) (x : xS) (res : xS) : Prop := ∀ sz, Met l y (ws_ y b nl none) rm (va_Pc as (fun U => U.heap.size = sz ∧ PW G x U)) (va_Qv (fun u => res = u) (fun u t => PW G u t) (pA G sz)) 0 0 (pA G sz)
def cJ (l : Launch) (y : MethodName) (b : ByteArray) (nl : Nat) (rm : Room) (as : List Value) (G : gT) (x : xS) (res : Int64 × xS) : Prop := ∀ sz, Met l y (ws_ y b nl (some .long)) rm (va_Pc as (fun U => U.heap.size = sz ∧ PW G x U)) (va_Ql (fun v u => res = (v, u)) (fun u t => PW G u t) (pA G sz)) 0 0 (pA G sz)
def cD (l : Launch) (y : MethodName) (b : ByteArray) (nl : Nat) (rm : Room) (as : List Value) (G : gT) (x : xS) (res : UInt64 × xS) : Prop := ∀ sz, Met l y (ws_ y b nl (some .double)) rm (va_Pc as (fun U => U.heap.size = sz ∧ PW G x U)) (va_Qd (fun v u => res = (v, u)) (fun u t => PW G u t) (pA G sz)) 0 0 (pA G sz)
def cQ (l : Launch) (y : MethodName) (b : ByteArray) (nl : Nat) (r : FieldType) (rm : Room) (as : List Value) (G : gT) (x : xS) (res : Option Nat × xS) : Prop := ∀ sz, Met l y (ws_ y b nl (some r)) rm (va_Pc as (fun U => U.heap.size = sz ∧ PW G x U)) (va_Qq (fun v u => (res.1.map G.2.2, res.2) = (v, u)) (fun u t => PW G u t) (pA G sz)) 0 0 (pA G sz)
/-- the end that a body owes -/
def qI (below : List Frame) (G : gT) (res : Int32 × xS) (args : Array Value) (s : State) (k n : Nat) : State → Prop := MQ below (va_Qi (fun v u => res = (v, u)) (fun u t => PW G u t) (pA G s.heap.size)) args s k n (pA G s.heap.size)
def qV (below : List Frame) (G : gT) (res : xS) (args : Array Value) (s : State) (k n : Nat) : State → Prop := MQ below (va_Qv (fun u => res = u) (fun u t => PW G u t) (pA G s.heap.size)) args s k n (pA G s.heap.size)
def qJ (below : List Frame) (G : gT) (res : Int64 × xS) (args : Array Value) (s : State) (k n : Nat) : State → Prop := MQ below (va_Ql (fun v u => res = (v, u)) (fun u t => PW G u t) (pA G s.heap.size)) args s k n (pA G s.heap.size)
def qD (below : List Frame) (G : gT) (res : UInt64 × xS) (args : Array Value) (s : State) (k n : Nat) : State → Prop := MQ below (va_Qd (fun v u => res = (v, u)) (fun u t => PW G u t) (pA G s.heap.size)) args s k n (pA G s.heap.size)
def qQ (below : List Frame) (G : gT) (res : Option Nat × xS) (args : Array Value) (s : State) (k n : Nat) : State → Prop := MQ below (va_Qq (fun v u => (res.1.map G.2.2, res.2) = (v, u)) (fun u t => PW G u t) (pA G s.heap.size)) args s k n (pA G s.heap.size)
theorem PW_end {H : Heap} {t : State} (C : CT p s m args meth c cc nL own ret G (pA G s.heap.size)) (h2 : va_P G.1 vwCl (wl G x) H) (ht : t.heap = H) (hW : s.WarmedH t.vm) : PW G x t := ⟨by rw [ht]; exact h2, va_K.moved hW.alike C.K, C.D.1, C.nw.warm hW⟩

theorem b_ireti (C : CT p s m args meth c cc nL own (some .int) G (pA G s.heap.size)) {v : Int32} {res : Int32 × xS} (hd : decode cc pc = .ok (.ireturn, 1)) (hf : some (v, x) = some res) : WB p l e R s m args below meth c nL G (pA G s.heap.size) (qI below G res args s k n) k n pc lv [.int v] x := fun H locs ls h1 h2 h3 =>
  W.iret C.hx C.b C.r (fun t ht hW => ⟨⟨v, x, rfl, (Option.some.inj hf).symm, PW_end C h2 ht hW⟩, h3.F ht⟩) h3.2.2 hd C.lk
theorem b_iretz (C : CT p s m args meth c cc nL own (some .boolean) G (pA G s.heap.size)) {v : Int32} {res : Int32 × xS} (hv : v &&& 1 = v) (hd : decode cc pc = .ok (.ireturn, 1)) (hf : some (v, x) = some res) : WB p l e R s m args below meth c nL G (pA G s.heap.size) (qI below G res args s k n) k n pc lv [.int v] x := fun H locs ls h1 h2 h3 =>
  W.zret C.hx C.b C.r (by show Value.int (v &&& 1) = .int v; rw [hv]) (fun t ht hW => ⟨⟨v, x, rfl, (Option.some.inj hf).symm, PW_end C h2 ht hW⟩, h3.F ht⟩) h3.2.2 hd C.lk
theorem b_vret (C : CT p s m args meth c cc nL own none G (pA G s.heap.size)) {res : xS} (hd : decode cc pc = .ok (.return_, 1)) (hf : some x = some res) : WB p l e R s m args below meth c nL G (pA G s.heap.size) (qV below G res args s k n) k n pc lv [] x := fun H locs ls h1 h2 h3 =>
  W.vret C.hx C.b C.r (fun t ht hW => ⟨⟨x, rfl, (Option.some.inj hf).symm, PW_end C h2 ht hW⟩, h3.F ht⟩) h3.2.2 hd C.lk
theorem b_lret (C : CT p s m args meth c cc nL own (some .long) G (pA G s.heap.size)) {v : Int64} {res : Int64 × xS} (hd : decode cc pc = .ok (.lreturn, 1)) (hf : some (v, x) = some res) : WB p l e R s m args below meth c nL G (pA G s.heap.size) (qJ below G res args s k n) k n pc lv [.long v] x := fun H locs ls h1 h2 h3 =>
  W.lret C.hx C.b C.r (fun t ht hW => ⟨⟨v, x, rfl, (Option.some.inj hf).symm, PW_end C h2 ht hW⟩, h3.F ht⟩) h3.2.2 hd C.lk
theorem b_dret (C : CT p s m args meth c cc nL own (some .double) G (pA G s.heap.size)) {v : UInt64} {res : UInt64 × xS} (hd : decode cc pc = .ok (.dreturn, 1)) (hf : some (v, x) = some res) : WB p l e R s m args below meth c nL G (pA G s.heap.size) (qD below G res args s k n) k n pc lv [.double v] x := fun H locs ls h1 h2 h3 =>
  W.dret C.hx C.b C.r (fun t ht hW => ⟨⟨v, x, rfl, (Option.some.inj hf).symm, PW_end C h2 ht hW⟩, h3.F ht⟩) h3.2.2 hd C.lk
/-- a method's contract out of its body -/
theorem b_body {y : MethodName} {b : ByteArray} {nl : Nat} {r : Option FieldType} {rm : Room} {as : List Value} {lv0 : List (Nat × Value)} {Qc : Nat → Array Value → State → Outcome → State → Prop} (hy : plainName y.cls = true) (hsl : (lg_sl as).length ≤ nl) (hlv : lv_args 0 as = lv0)
    (body : ∀ (p : Program) (e : Env) (s : State) (m : MethodId) (args : Array Value) (below : List Frame) (meth : Method) (c : Code), CT p s m args meth c b nl y.cls r G (pA G s.heap.size) → WB p l e rm s m args below meth c nl G (pA G s.heap.size) (MQ below (Qc s.heap.size) args s 0 0 (pA G s.heap.size)) 0 0 0 lv0 [] x) :
    ∀ sz, Met l y (ws_ y b nl r) rm (va_Pc as (fun U => U.heap.size = sz ∧ PW G x U)) (Qc sz) 0 0 (pA G sz) := by
  intro sz
  refine Met.ofW (cc := b) (maxL := nl) (ret := r) hy rfl ?_
  intro p e s m args below meth c s₁ B hml hv
  obtain ⟨rfl, hsz, hP, hK, hJ, hN⟩ := hv
  subst hsz
  have hts := atoms_spec (ws := ws_ y b nl r) B.pre
  have C : CT p s m as.toArray meth c b nl y.cls r G (pA G s.heap.size) := ⟨B.exec, B.bytes, hml, findClass_of_methodNamed B.named, fun w hw => hts w (List.mem_cons_of_mem _ hw), hK, ⟨hJ, fun i hi => Or.inl ⟨i, hi, rfl⟩⟩, fun q hq => Or.inr hq, B.returns, B.notSynchronized, hN⟩
  have hl := lv_entry as (n := nl) hsl
  rw [lg_entry_eq]
  rw [hlv] at hl
  exact body p e s m as.toArray below meth c C s.heap [] _ hl hP va_S.rf
/-! calls of methods of the pool -/
theorem fb_pc {as : List Value} {sz : Nat} : FrameBlind (va_Pc as (fun U => U.heap.size = sz ∧ PW G x U)) := fun a U g mk q => ⟨q.1, q.2.1, q.2.2.blind g mk a⟩
theorem b_preS {H : Heap} (C : CT p s m args meth c cc nL own ret G A) (h2 : va_P G.1 vwCl (wl G x) H) (as : List Value) : PreS s H (va_Pc as (fun U => U.heap.size = H.size ∧ PW G x U)) as := ⟨fb_pc, fun U hU hW => ⟨rfl, by rw [hU], ⟨by rw [hU]; exact h2, va_K.moved hW.alike C.K, C.D.1, C.nw.warm hW⟩⟩⟩
theorem b_preV {H : Heap} (C : CT p s m args meth c cc nL own ret G A) (h2 : va_P G.1 vwCl (wl G x) H) {i K N : Nat} {Cn : String} {T : u_T} (hk : kd i = K) (hK : K < 8) (hc : vwCl[K]? = some (Cn, T, N)) (as : List Value) : PreV s H Cn (G.2.2 i) (va_Pc (.ref (G.2.2 i) :: as) (fun U => U.heap.size = H.size ∧ PW G x U)) as :=
  ⟨fb_pc, va_recv C.K h2 hc (by rw [wl_get G x (kd_lt hk (by omega)), gE_obj hk hK]), fun U hU hW => ⟨rfl, by rw [hU], ⟨by rw [hU]; exact h2, va_K.moved hW.alike C.K, C.D.1, C.nw.warm hW⟩⟩⟩
theorem CT.fix (C : CT p s m args meth c cc nL own ret G A) : CallFix p m c cc nL s args AW own := ⟨C.hx, C.b, C.ml, C.ow, C.ts⟩

theorem b_callVi (C : CT p s m args meth c cc nL own ret G A) {i K N idx nl na : Nat} {Cn : String} {T : u_T} {y : MethodName} {b : ByteArray} {r : FieldType} {rm : Room} {As stk : List Value} {res : Int32 × xS} (h : cI l y b nl r rm (.ref (G.2.2 i) :: As) G x res) (hk : kd i = K) (hK : K < 8) (hc : vwCl[K]? = some (Cn, T, N)) (hg : GoodIn AW (wsV own idx Cn y (ws_ y b nl (some r)))) (hd1 : y.cls = Cn ∧ y.cls ≠ "java/lang/invoke/MethodHandle" ∧ y.cls ≠ "java/lang/invoke/VarHandle" ∧ (parseMethodDescriptor y.desc).map (fun d => d.parameters.length) = some na) (hna : As.length = na) (hrm : rm.cells = 0 ∧ rm.slots = 0) (hR : rm.frames + 1 ≤ R.frames ∧ 8 + (nl + 11) + rm.locals ≤ R.locals) (hst : (st.map fun v => v.category).sum ≤ 8) (hkn : k ≤ R.cells ∧ n ≤ R.slots) (hstk : stk = As.reverse ++ .ref (G.2.2 i) :: st) (hd : decode cc pc = .ok (.invokevirtual idx, 3)) (kk : WB p l e R s m args below meth c nL G A Q k n (pc + 3) lv (.int res.1 :: st) res.2) : WB p l e R s m args below meth c nL G A Q k n pc lv stk x := by
  intro H locs ls h1 h2 h3
  subst hstk
  refine va_calli (va_runV (As := As) (rest := st) C.fix (h H.size) (cwV na C.ts hg rfl hrm.1 hrm.2 hd1 hR) (b_preV C h2 hk hK hc As) rfl hna h1.1 rfl (by simpa using hst) hd hkn) h3 (fun q _ hq => C.pA h3.1 q hq) (fun q hq => C.pA h3.1 q hq) ?_
  intro v u t H1 locs1 ht hvm hp hB hz hk1 hS
  subst hp
  exact kk H1 locs1 ls h1 (by rw [← ht]; exact hB.1) hS

theorem b_callSi (C : CT p s m args meth c cc nL own ret G A) {idx nl na : Nat} {y : MethodName} {b : ByteArray} {r : FieldType} {rm : Room} {As stk : List Value} {res : Int32 × xS} (h : cI l y b nl r rm As G x res) (hg : GoodIn AW (va_wsS own idx y (ws_ y b nl (some r)))) (hd1 : y.cls ≠ "java/lang/invoke/MethodHandle" ∧ y.cls ≠ "java/lang/invoke/VarHandle" ∧ (parseMethodDescriptor y.desc).map (fun d => d.parameters.length) = some na) (hna : As.length = na) (hrm : rm.cells = 0 ∧ rm.slots = 0) (hR : rm.frames + 1 ≤ R.frames ∧ 8 + (nl + 11) + rm.locals ≤ R.locals) (hst : (st.map fun v => v.category).sum ≤ 8) (hkn : k ≤ R.cells ∧ n ≤ R.slots) (hstk : stk = As.reverse ++ st) (hd : decode cc pc = .ok (.invokestatic idx, 3)) (kk : WB p l e R s m args below meth c nL G A Q k n (pc + 3) lv (.int res.1 :: st) res.2) : WB p l e R s m args below meth c nL G A Q k n pc lv stk x := by
  intro H locs ls h1 h2 h3
  subst hstk
  refine va_calli (va_runS (As := As) (rest := st) C.fix (h H.size) (va_cwS na C.ts hg rfl hrm.1 hrm.2 hd1 hR) (b_preS C h2 As) rfl hna h1.1 rfl (by simpa using hst) hd hkn) h3 (fun q _ hq => C.pA h3.1 q hq) (fun q hq => C.pA h3.1 q hq) ?_
  intro v u t H1 locs1 ht hvm hp hB hz hk1 hS
  subst hp
  exact kk H1 locs1 ls h1 (by rw [← ht]; exact hB.1) hS

theorem b_callVv (C : CT p s m args meth c cc nL own ret G A) {i K N idx nl na : Nat} {Cn : String} {T : u_T} {y : MethodName} {b : ByteArray} {rm : Room} {As stk : List Value} {res : xS} (h : cV l y b nl rm (.ref (G.2.2 i) :: As) G x res) (hk : kd i = K) (hK : K < 8) (hc : vwCl[K]? = some (Cn, T, N)) (hg : GoodIn AW (wsV own idx Cn y (ws_ y b nl none))) (hd1 : y.cls = Cn ∧ y.cls ≠ "java/lang/invoke/MethodHandle" ∧ y.cls ≠ "java/lang/invoke/VarHandle" ∧ (parseMethodDescriptor y.desc).map (fun d => d.parameters.length) = some na) (hna : As.length = na) (hrm : rm.cells = 0 ∧ rm.slots = 0) (hR : rm.frames + 1 ≤ R.frames ∧ 8 + (nl + 11) + rm.locals ≤ R.locals) (hst : (st.map fun v => v.category).sum ≤ 8) (hkn : k ≤ R.cells ∧ n ≤ R.slots) (hstk : stk = As.reverse ++ .ref (G.2.2 i) :: st) (hd : decode cc pc = .ok (.invokevirtual idx, 3)) (kk : WB p l e R s m args below meth c nL G A Q k n (pc + 3) lv (st) res) : WB p l e R s m args below meth c nL G A Q k n pc lv stk x := by
  intro H locs ls h1 h2 h3
  subst hstk
  refine va_callv (va_runV (As := As) (rest := st) C.fix (h H.size) (cwV na C.ts hg rfl hrm.1 hrm.2 hd1 hR) (b_preV C h2 hk hK hc As) rfl hna h1.1 rfl (by simpa using hst) hd hkn) h3 (fun q _ hq => C.pA h3.1 q hq) (fun q hq => C.pA h3.1 q hq) ?_
  intro u t H1 locs1 ht hvm hp hB hz hk1 hS
  subst hp
  exact kk H1 locs1 ls h1 (by rw [← ht]; exact hB.1) hS

theorem b_callSv (C : CT p s m args meth c cc nL own ret G A) {idx nl na : Nat} {y : MethodName} {b : ByteArray} {rm : Room} {As stk : List Value} {res : xS} (h : cV l y b nl rm As G x res) (hg : GoodIn AW (va_wsS own idx y (ws_ y b nl none))) (hd1 : y.cls ≠ "java/lang/invoke/MethodHandle" ∧ y.cls ≠ "java/lang/invoke/VarHandle" ∧ (parseMethodDescriptor y.desc).map (fun d => d.parameters.length) = some na) (hna : As.length = na) (hrm : rm.cells = 0 ∧ rm.slots = 0) (hR : rm.frames + 1 ≤ R.frames ∧ 8 + (nl + 11) + rm.locals ≤ R.locals) (hst : (st.map fun v => v.category).sum ≤ 8) (hkn : k ≤ R.cells ∧ n ≤ R.slots) (hstk : stk = As.reverse ++ st) (hd : decode cc pc = .ok (.invokestatic idx, 3)) (kk : WB p l e R s m args below meth c nL G A Q k n (pc + 3) lv (st) res) : WB p l e R s m args below meth c nL G A Q k n pc lv stk x := by
  intro H locs ls h1 h2 h3
  subst hstk
  refine va_callv (va_runS (As := As) (rest := st) C.fix (h H.size) (va_cwS na C.ts hg rfl hrm.1 hrm.2 hd1 hR) (b_preS C h2 As) rfl hna h1.1 rfl (by simpa using hst) hd hkn) h3 (fun q _ hq => C.pA h3.1 q hq) (fun q hq => C.pA h3.1 q hq) ?_
  intro u t H1 locs1 ht hvm hp hB hz hk1 hS
  subst hp
  exact kk H1 locs1 ls h1 (by rw [← ht]; exact hB.1) hS

theorem b_callVl (C : CT p s m args meth c cc nL own ret G A) {i K N idx nl na : Nat} {Cn : String} {T : u_T} {y : MethodName} {b : ByteArray} {rm : Room} {As stk : List Value} {res : Int64 × xS} (h : cJ l y b nl rm (.ref (G.2.2 i) :: As) G x res) (hk : kd i = K) (hK : K < 8) (hc : vwCl[K]? = some (Cn, T, N)) (hg : GoodIn AW (wsV own idx Cn y (ws_ y b nl (some .long)))) (hd1 : y.cls = Cn ∧ y.cls ≠ "java/lang/invoke/MethodHandle" ∧ y.cls ≠ "java/lang/invoke/VarHandle" ∧ (parseMethodDescriptor y.desc).map (fun d => d.parameters.length) = some na) (hna : As.length = na) (hrm : rm.cells = 0 ∧ rm.slots = 0) (hR : rm.frames + 1 ≤ R.frames ∧ 8 + (nl + 11) + rm.locals ≤ R.locals) (hst : (st.map fun v => v.category).sum ≤ 8) (hkn : k ≤ R.cells ∧ n ≤ R.slots) (hstk : stk = As.reverse ++ .ref (G.2.2 i) :: st) (hd : decode cc pc = .ok (.invokevirtual idx, 3)) (kk : WB p l e R s m args below meth c nL G A Q k n (pc + 3) lv (.long res.1 :: st) res.2) : WB p l e R s m args below meth c nL G A Q k n pc lv stk x := by
  intro H locs ls h1 h2 h3
  subst hstk
  refine va_calll (va_runV (As := As) (rest := st) C.fix (h H.size) (cwV na C.ts hg rfl hrm.1 hrm.2 hd1 hR) (b_preV C h2 hk hK hc As) rfl hna h1.1 rfl (by simpa using hst) hd hkn) h3 (fun q _ hq => C.pA h3.1 q hq) (fun q hq => C.pA h3.1 q hq) ?_
  intro v u t H1 locs1 ht hvm hp hB hz hk1 hS
  subst hp
  exact kk H1 locs1 ls h1 (by rw [← ht]; exact hB.1) hS

theorem b_callSl (C : CT p s m args meth c cc nL own ret G A) {idx nl na : Nat} {y : MethodName} {b : ByteArray} {rm : Room} {As stk : List Value} {res : Int64 × xS} (h : cJ l y b nl rm As G x res) (hg : GoodIn AW (va_wsS own idx y (ws_ y b nl (some .long)))) (hd1 : y.cls ≠ "java/lang/invoke/MethodHandle" ∧ y.cls ≠ "java/lang/invoke/VarHandle" ∧ (parseMethodDescriptor y.desc).map (fun d => d.parameters.length) = some na) (hna : As.length = na) (hrm : rm.cells = 0 ∧ rm.slots = 0) (hR : rm.frames + 1 ≤ R.frames ∧ 8 + (nl + 11) + rm.locals ≤ R.locals) (hst : (st.map fun v => v.category).sum ≤ 8) (hkn : k ≤ R.cells ∧ n ≤ R.slots) (hstk : stk = As.reverse ++ st) (hd : decode cc pc = .ok (.invokestatic idx, 3)) (kk : WB p l e R s m args below meth c nL G A Q k n (pc + 3) lv (.long res.1 :: st) res.2) : WB p l e R s m args below meth c nL G A Q k n pc lv stk x := by
  intro H locs ls h1 h2 h3
  subst hstk
  refine va_calll (va_runS (As := As) (rest := st) C.fix (h H.size) (va_cwS na C.ts hg rfl hrm.1 hrm.2 hd1 hR) (b_preS C h2 As) rfl hna h1.1 rfl (by simpa using hst) hd hkn) h3 (fun q _ hq => C.pA h3.1 q hq) (fun q hq => C.pA h3.1 q hq) ?_
  intro v u t H1 locs1 ht hvm hp hB hz hk1 hS
  subst hp
  exact kk H1 locs1 ls h1 (by rw [← ht]; exact hB.1) hS

theorem b_callVd (C : CT p s m args meth c cc nL own ret G A) {i K N idx nl na : Nat} {Cn : String} {T : u_T} {y : MethodName} {b : ByteArray} {rm : Room} {As stk : List Value} {res : UInt64 × xS} (h : cD l y b nl rm (.ref (G.2.2 i) :: As) G x res) (hk : kd i = K) (hK : K < 8) (hc : vwCl[K]? = some (Cn, T, N)) (hg : GoodIn AW (wsV own idx Cn y (ws_ y b nl (some .double)))) (hd1 : y.cls = Cn ∧ y.cls ≠ "java/lang/invoke/MethodHandle" ∧ y.cls ≠ "java/lang/invoke/VarHandle" ∧ (parseMethodDescriptor y.desc).map (fun d => d.parameters.length) = some na) (hna : As.length = na) (hrm : rm.cells = 0 ∧ rm.slots = 0) (hR : rm.frames + 1 ≤ R.frames ∧ 8 + (nl + 11) + rm.locals ≤ R.locals) (hst : (st.map fun v => v.category).sum ≤ 8) (hkn : k ≤ R.cells ∧ n ≤ R.slots) (hstk : stk = As.reverse ++ .ref (G.2.2 i) :: st) (hd : decode cc pc = .ok (.invokevirtual idx, 3)) (kk : WB p l e R s m args below meth c nL G A Q k n (pc + 3) lv (.double res.1 :: st) res.2) : WB p l e R s m args below meth c nL G A Q k n pc lv stk x := by
  intro H locs ls h1 h2 h3
  subst hstk
  refine va_calld (va_runV (As := As) (rest := st) C.fix (h H.size) (cwV na C.ts hg rfl hrm.1 hrm.2 hd1 hR) (b_preV C h2 hk hK hc As) rfl hna h1.1 rfl (by simpa using hst) hd hkn) h3 (fun q _ hq => C.pA h3.1 q hq) (fun q hq => C.pA h3.1 q hq) ?_
  intro v u t H1 locs1 ht hvm hp hB hz hk1 hS
  subst hp
  exact kk H1 locs1 ls h1 (by rw [← ht]; exact hB.1) hS

theorem b_callSd (C : CT p s m args meth c cc nL own ret G A) {idx nl na : Nat} {y : MethodName} {b : ByteArray} {rm : Room} {As stk : List Value} {res : UInt64 × xS} (h : cD l y b nl rm As G x res) (hg : GoodIn AW (va_wsS own idx y (ws_ y b nl (some .double)))) (hd1 : y.cls ≠ "java/lang/invoke/MethodHandle" ∧ y.cls ≠ "java/lang/invoke/VarHandle" ∧ (parseMethodDescriptor y.desc).map (fun d => d.parameters.length) = some na) (hna : As.length = na) (hrm : rm.cells = 0 ∧ rm.slots = 0) (hR : rm.frames + 1 ≤ R.frames ∧ 8 + (nl + 11) + rm.locals ≤ R.locals) (hst : (st.map fun v => v.category).sum ≤ 8) (hkn : k ≤ R.cells ∧ n ≤ R.slots) (hstk : stk = As.reverse ++ st) (hd : decode cc pc = .ok (.invokestatic idx, 3)) (kk : WB p l e R s m args below meth c nL G A Q k n (pc + 3) lv (.double res.1 :: st) res.2) : WB p l e R s m args below meth c nL G A Q k n pc lv stk x := by
  intro H locs ls h1 h2 h3
  subst hstk
  refine va_calld (va_runS (As := As) (rest := st) C.fix (h H.size) (va_cwS na C.ts hg rfl hrm.1 hrm.2 hd1 hR) (b_preS C h2 As) rfl hna h1.1 rfl (by simpa using hst) hd hkn) h3 (fun q _ hq => C.pA h3.1 q hq) (fun q hq => C.pA h3.1 q hq) ?_
  intro v u t H1 locs1 ht hvm hp hB hz hk1 hS
  subst hp
  exact kk H1 locs1 ls h1 (by rw [← ht]; exact hB.1) hS

theorem b_callVq (C : CT p s m args meth c cc nL own ret G A) {i K N idx nl na : Nat} {Cn : String} {T : u_T} {y : MethodName} {b : ByteArray} {r : FieldType} {rm : Room} {As stk : List Value} {res : Option Nat × xS} (h : cQ l y b nl r rm (.ref (G.2.2 i) :: As) G x res) (hk : kd i = K) (hK : K < 8) (hc : vwCl[K]? = some (Cn, T, N)) (hg : GoodIn AW (wsV own idx Cn y (ws_ y b nl (some r)))) (hd1 : y.cls = Cn ∧ y.cls ≠ "java/lang/invoke/MethodHandle" ∧ y.cls ≠ "java/lang/invoke/VarHandle" ∧ (parseMethodDescriptor y.desc).map (fun d => d.parameters.length) = some na) (hna : As.length = na) (hrm : rm.cells = 0 ∧ rm.slots = 0) (hR : rm.frames + 1 ≤ R.frames ∧ 8 + (nl + 11) + rm.locals ≤ R.locals) (hst : (st.map fun v => v.category).sum ≤ 8) (hkn : k ≤ R.cells ∧ n ≤ R.slots) (hstk : stk = As.reverse ++ .ref (G.2.2 i) :: st) (hd : decode cc pc = .ok (.invokevirtual idx, 3)) (kk : WB p l e R s m args below meth c nL G A Q k n (pc + 3) lv (va_rf (res.1.map G.2.2) :: st) res.2) : WB p l e R s m args below meth c nL G A Q k n pc lv stk x := by
  intro H locs ls h1 h2 h3
  subst hstk
  refine va_callq (va_runV (As := As) (rest := st) C.fix (h H.size) (cwV na C.ts hg rfl hrm.1 hrm.2 hd1 hR) (b_preV C h2 hk hK hc As) rfl hna h1.1 rfl (by simpa using hst) hd hkn) h3 (fun q _ hq => C.pA h3.1 q hq) (fun q hq => C.pA h3.1 q hq) ?_
  intro v u t H1 locs1 ht hvm hp hB hz hk1 hS
  cases hp
  exact kk H1 locs1 ls h1 (by rw [← ht]; exact hB.1) hS

theorem b_callSiN (C : CT p s m args meth c cc nL RX4 ret G A) {nl na : Nat} {b : ByteArray} {r : FieldType} {rm : Room} {As stk : List Value} {res : Int32 × xS} (h : cI l yX6_isWithinNight b nl r rm As G x res) (hg : GoodIn AW (ws_ yX6_isWithinNight b nl (some r))) (hq1 : Cond.static yX6_isWithinNight ∈ AW) (hq2 : Cond.initialized yX6_isWithinNight.cls ∈ AW) (hd1 : (parseMethodDescriptor yX6_isWithinNight.desc).map (fun d => d.parameters.length) = some na) (hna : As.length = na) (hrm : rm.cells = 0 ∧ rm.slots = 0) (hR : rm.frames + 1 ≤ R.frames ∧ 8 + (nl + 11) + rm.locals ≤ R.locals) (hst : (st.map fun v => v.category).sum ≤ 8) (hkn : k ≤ R.cells ∧ n ≤ R.slots) (hstk : stk = As.reverse ++ st) (hd : decode cc pc = .ok (.invokestatic 67, 3)) (kk : WB p l e R s m args below meth c nL G A Q k n (pc + 3) lv (.int res.1 :: st) res.2) : WB p l e R s m args below meth c nL G A Q k n pc lv stk x := by
  intro H locs ls h1 h2 h3
  subst hstk
  refine va_calli (va_runSN (host := "SevenAsks") (As := As) (rest := st) C.fix (h H.size) ⟨va_cnB na C.ts hg rfl hrm.1 hrm.2 C.nw.2 (C.ts _ hq2) ⟨by decide, by decide, hd1⟩ hR, C.ts _ hq1, trivial⟩ (b_preS C h2 As) rfl hna h1.1 rfl (by simpa using hst) hd hkn) h3 (fun q _ hq => C.pA h3.1 q hq) (fun q hq => C.pA h3.1 q hq) ?_
  intro v u t H1 locs1 ht hvm hp hB hz hk1 hS
  subst hp
  exact kk H1 locs1 ls h1 (by rw [← ht]; exact hB.1) hS

theorem b_qret {on : String} (C : CT p s m args meth c cc nL own (some (.object on)) G (pA G s.heap.size)) {v : Value} {w : Option Nat} {res : Option Nat × xS} (hw : v = va_rf (w.map G.2.2)) (hd : decode cc pc = .ok (.areturn, 1)) (hf : some (w, x) = some res) : WB p l e R s m args below meth c nL G (pA G s.heap.size) (qQ below G res args s k n) k n pc lv [v] x := fun H locs ls h1 h2 h3 => by
  cases Option.some.inj hf
  exact W.aret C.hx C.b C.r (Or.inl ⟨_, rfl⟩) (by rw [hw]; cases w <;> simp [va_rf]) (fun t ht hW => ⟨⟨w.map G.2.2, x, by rw [hw], rfl, PW_end C h2 ht hW⟩, h3.F ht⟩) h3.2.2 hd C.lk

end WW
/-- a number that is its own lowest bit -/
theorem z01 {v : Int32} (h : v &&& 1 = v) : v = 0 ∨ v = 1 := by
  have h1 : v &&& 1 = nI (v.toBitVec.toNat % 2 ^ 1) := pk_and v 1 (by decide)
  rw [h1] at h
  have h2 : v.toBitVec.toNat % 2 ^ 1 = 0 ∨ v.toBitVec.toNat % 2 ^ 1 = 1 := by omega
  rcases h2 with h2 | h2
  · left; rw [← h, h2]; rfl
  · right; rw [← h, h2]; rfl
theorem fitz {v : Int32} (h : v &&& 1 = v) : fits .boolean (.int v) = true := by
  rcases z01 h with rfl | rfl <;> decide
theorem iP {c : Prop} {d : Decidable c} {α : Type} {b : Option α} {r : α} (hf : (@ite (Option α) c d b none) = some r) : c ∧ b = some r := by
  by_cases h : c
  · rw [if_pos h] at hf; exact ⟨h, hf⟩
  · rw [if_neg h] at hf; cases hf
/-- a name for a value -/
def lt1 {α β : Type} (a : α) (f : α → Option β) : Option β := f a
theorem lN1 {α β : Type} {a : α} {f : α → Option β} {y : β} (h : lt1 a f = some y) : ∃ z, a = z ∧ f z = some y := ⟨a, rfl, h⟩
def FU : Nat := 2000
end
