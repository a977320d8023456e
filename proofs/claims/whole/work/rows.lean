section
-- ===== PART A: goes FIRST, ahead of the names: the tables' words, and 'selects' of the private methods out of them =====
/-- a private method of a class that the tables say can be made, by its rows of tables_1 -/
def lw_okq (q : MethodName × Nat) : Prop := (q.1.cls ≠ "java/lang/invoke/MethodHandle" ∧ q.1.cls ≠ "java/lang/invoke/VarHandle") ∧ Cond.instantiable q.1.cls q.2 ∈ tables_1 ∧ Cond.privateMethod q.1 ∈ tables_1 ∧ Cond.instanceMethod q.1 ∈ tables_1
theorem lw_p0 : lw_okq (⟨"PipelinedCore", "expect", "(III)V"⟩, 17) := ⟨⟨by decide +kernel, by decide +kernel⟩, List.mem_of_getElem? (i := 15) (by decide +kernel), List.mem_of_getElem? (i := 346) (by decide +kernel), List.mem_of_getElem? (i := 347) (by decide +kernel)⟩
theorem lw_p1 : lw_okq (⟨"PipelinedCore$Instruction", "usesA", "()Z"⟩, 12) := ⟨⟨by decide +kernel, by decide +kernel⟩, List.mem_of_getElem? (i := 104) (by decide +kernel), List.mem_of_getElem? (i := 366) (by decide +kernel), List.mem_of_getElem? (i := 367) (by decide +kernel)⟩
theorem lw_p2 : lw_okq (⟨"PipelinedCore$Instruction", "usesB", "()Z"⟩, 12) := ⟨⟨by decide +kernel, by decide +kernel⟩, List.mem_of_getElem? (i := 104) (by decide +kernel), List.mem_of_getElem? (i := 370) (by decide +kernel), List.mem_of_getElem? (i := 371) (by decide +kernel)⟩
theorem lw_p3 : lw_okq (⟨"PipelinedCore", "makeCycle", "()V"⟩, 17) := ⟨⟨by decide +kernel, by decide +kernel⟩, List.mem_of_getElem? (i := 15) (by decide +kernel), List.mem_of_getElem? (i := 374) (by decide +kernel), List.mem_of_getElem? (i := 375) (by decide +kernel)⟩
theorem lw_p4 : lw_okq (⟨"PipelinedCore", "end", "(LPipelinedCore$Effect;)V"⟩, 17) := ⟨⟨by decide +kernel, by decide +kernel⟩, List.mem_of_getElem? (i := 15) (by decide +kernel), List.mem_of_getElem? (i := 378) (by decide +kernel), List.mem_of_getElem? (i := 379) (by decide +kernel)⟩
theorem lw_p5 : lw_okq (⟨"PipelinedCore", "moveToMemory", "()V"⟩, 17) := ⟨⟨by decide +kernel, by decide +kernel⟩, List.mem_of_getElem? (i := 15) (by decide +kernel), List.mem_of_getElem? (i := 403) (by decide +kernel), List.mem_of_getElem? (i := 404) (by decide +kernel)⟩
theorem lw_p6 : lw_okq (⟨"PipelinedCore", "begin", "(LPipelinedCore$Effect;)V"⟩, 17) := ⟨⟨by decide +kernel, by decide +kernel⟩, List.mem_of_getElem? (i := 15) (by decide +kernel), List.mem_of_getElem? (i := 407) (by decide +kernel), List.mem_of_getElem? (i := 408) (by decide +kernel)⟩
theorem lw_p7 : lw_okq (⟨"PipelinedCore", "operand", "(I)I"⟩, 17) := ⟨⟨by decide +kernel, by decide +kernel⟩, List.mem_of_getElem? (i := 15) (by decide +kernel), List.mem_of_getElem? (i := 428) (by decide +kernel), List.mem_of_getElem? (i := 429) (by decide +kernel)⟩
theorem lw_p8 : lw_okq (⟨"PipelinedCore", "setTimes", "(LPipelinedCore$Effect;)V"⟩, 17) := ⟨⟨by decide +kernel, by decide +kernel⟩, List.mem_of_getElem? (i := 15) (by decide +kernel), List.mem_of_getElem? (i := 534) (by decide +kernel), List.mem_of_getElem? (i := 535) (by decide +kernel)⟩
theorem lw_p9 : lw_okq (⟨"PipelinedCore", "goOn", "(LPipelinedCore$Effect;)V"⟩, 17) := ⟨⟨by decide +kernel, by decide +kernel⟩, List.mem_of_getElem? (i := 15) (by decide +kernel), List.mem_of_getElem? (i := 542) (by decide +kernel), List.mem_of_getElem? (i := 543) (by decide +kernel)⟩
theorem lw_p10 : lw_okq (⟨"PipelinedCore$Foreteller", "keepEarlier", "(I)V"⟩, 4) := ⟨⟨by decide +kernel, by decide +kernel⟩, List.mem_of_getElem? (i := 65) (by decide +kernel), List.mem_of_getElem? (i := 554) (by decide +kernel), List.mem_of_getElem? (i := 555) (by decide +kernel)⟩
theorem lw_p11 : lw_okq (⟨"PipelinedCore$History", "placeOf", "(I)I"⟩, 3) := ⟨⟨by decide +kernel, by decide +kernel⟩, List.mem_of_getElem? (i := 87) (by decide +kernel), List.mem_of_getElem? (i := 586) (by decide +kernel), List.mem_of_getElem? (i := 587) (by decide +kernel)⟩
theorem lw_p12 : lw_okq (⟨"PipelinedCoreModel", "beginning", "()I"⟩, 56) := ⟨⟨by decide +kernel, by decide +kernel⟩, List.mem_of_getElem? (i := 609) (by decide +kernel), List.mem_of_getElem? (i := 803) (by decide +kernel), List.mem_of_getElem? (i := 804) (by decide +kernel)⟩
theorem lw_p13 : lw_okq (⟨"PipelinedCoreModel", "inCode", "()Z"⟩, 56) := ⟨⟨by decide +kernel, by decide +kernel⟩, List.mem_of_getElem? (i := 609) (by decide +kernel), List.mem_of_getElem? (i := 807) (by decide +kernel), List.mem_of_getElem? (i := 808) (by decide +kernel)⟩
theorem lw_p14 : lw_okq (⟨"PipelinedCoreModel", "decoding", "()I"⟩, 56) := ⟨⟨by decide +kernel, by decide +kernel⟩, List.mem_of_getElem? (i := 609) (by decide +kernel), List.mem_of_getElem? (i := 811) (by decide +kernel), List.mem_of_getElem? (i := 812) (by decide +kernel)⟩
theorem lw_p15 : lw_okq (⟨"PipelinedCoreModel", "usesA", "()Z"⟩, 56) := ⟨⟨by decide +kernel, by decide +kernel⟩, List.mem_of_getElem? (i := 609) (by decide +kernel), List.mem_of_getElem? (i := 815) (by decide +kernel), List.mem_of_getElem? (i := 816) (by decide +kernel)⟩
def lw_privs_1 : List (MethodName × Nat) := [(⟨"PipelinedCore", "expect", "(III)V"⟩, 17), (⟨"PipelinedCore$Instruction", "usesA", "()Z"⟩, 12), (⟨"PipelinedCore$Instruction", "usesB", "()Z"⟩, 12), (⟨"PipelinedCore", "makeCycle", "()V"⟩, 17), (⟨"PipelinedCore", "end", "(LPipelinedCore$Effect;)V"⟩, 17), (⟨"PipelinedCore", "moveToMemory", "()V"⟩, 17), (⟨"PipelinedCore", "begin", "(LPipelinedCore$Effect;)V"⟩, 17), (⟨"PipelinedCore", "operand", "(I)I"⟩, 17), (⟨"PipelinedCore", "setTimes", "(LPipelinedCore$Effect;)V"⟩, 17), (⟨"PipelinedCore", "goOn", "(LPipelinedCore$Effect;)V"⟩, 17), (⟨"PipelinedCore$Foreteller", "keepEarlier", "(I)V"⟩, 4), (⟨"PipelinedCore$History", "placeOf", "(I)I"⟩, 3), (⟨"PipelinedCoreModel", "beginning", "()I"⟩, 56), (⟨"PipelinedCoreModel", "inCode", "()Z"⟩, 56), (⟨"PipelinedCoreModel", "decoding", "()I"⟩, 56), (⟨"PipelinedCoreModel", "usesA", "()Z"⟩, 56)]
theorem lw_r1 : ∀ q ∈ lw_privs_1, lw_okq q := List.forall_mem_cons.mpr ⟨lw_p0, List.forall_mem_cons.mpr ⟨lw_p1, List.forall_mem_cons.mpr ⟨lw_p2, List.forall_mem_cons.mpr ⟨lw_p3, List.forall_mem_cons.mpr ⟨lw_p4, List.forall_mem_cons.mpr ⟨lw_p5, List.forall_mem_cons.mpr ⟨lw_p6, List.forall_mem_cons.mpr ⟨lw_p7, List.forall_mem_cons.mpr ⟨lw_p8, List.forall_mem_cons.mpr ⟨lw_p9, List.forall_mem_cons.mpr ⟨lw_p10, List.forall_mem_cons.mpr ⟨lw_p11, List.forall_mem_cons.mpr ⟨lw_p12, List.forall_mem_cons.mpr ⟨lw_p13, List.forall_mem_cons.mpr ⟨lw_p14, List.forall_mem_cons.mpr ⟨lw_p15, fun _ h => absurd h List.not_mem_nil⟩⟩⟩⟩⟩⟩⟩⟩⟩⟩⟩⟩⟩⟩⟩⟩
theorem lw_p16 : lw_okq (⟨"PipelinedCoreModel", "op", "()I"⟩, 56) := ⟨⟨by decide +kernel, by decide +kernel⟩, List.mem_of_getElem? (i := 609) (by decide +kernel), List.mem_of_getElem? (i := 819) (by decide +kernel), List.mem_of_getElem? (i := 820) (by decide +kernel)⟩
theorem lw_p17 : lw_okq (⟨"PipelinedCoreModel", "bits", "(II)I"⟩, 56) := ⟨⟨by decide +kernel, by decide +kernel⟩, List.mem_of_getElem? (i := 609) (by decide +kernel), List.mem_of_getElem? (i := 823) (by decide +kernel), List.mem_of_getElem? (i := 824) (by decide +kernel)⟩
theorem lw_p18 : lw_okq (⟨"PipelinedCoreModel", "usesB", "()Z"⟩, 56) := ⟨⟨by decide +kernel, by decide +kernel⟩, List.mem_of_getElem? (i := 609) (by decide +kernel), List.mem_of_getElem? (i := 827) (by decide +kernel), List.mem_of_getElem? (i := 828) (by decide +kernel)⟩
theorem lw_p19 : lw_okq (⟨"PipelinedCoreModel", "perform", "(I)V"⟩, 56) := ⟨⟨by decide +kernel, by decide +kernel⟩, List.mem_of_getElem? (i := 609) (by decide +kernel), List.mem_of_getElem? (i := 831) (by decide +kernel), List.mem_of_getElem? (i := 832) (by decide +kernel)⟩
theorem lw_p20 : lw_okq (⟨"PipelinedCoreModel", "fetched", "()I"⟩, 56) := ⟨⟨by decide +kernel, by decide +kernel⟩, List.mem_of_getElem? (i := 609) (by decide +kernel), List.mem_of_getElem? (i := 835) (by decide +kernel), List.mem_of_getElem? (i := 836) (by decide +kernel)⟩
theorem lw_p21 : lw_okq (⟨"PipelinedCoreModel", "learn", "(IIIZ)V"⟩, 56) := ⟨⟨by decide +kernel, by decide +kernel⟩, List.mem_of_getElem? (i := 609) (by decide +kernel), List.mem_of_getElem? (i := 839) (by decide +kernel), List.mem_of_getElem? (i := 840) (by decide +kernel)⟩
theorem lw_p22 : lw_okq (⟨"PipelinedCoreModel", "guess", "(II)I"⟩, 56) := ⟨⟨by decide +kernel, by decide +kernel⟩, List.mem_of_getElem? (i := 609) (by decide +kernel), List.mem_of_getElem? (i := 843) (by decide +kernel), List.mem_of_getElem? (i := 844) (by decide +kernel)⟩
theorem lw_p23 : lw_okq (⟨"PipelinedCoreModel", "enter", "(III)V"⟩, 56) := ⟨⟨by decide +kernel, by decide +kernel⟩, List.mem_of_getElem? (i := 609) (by decide +kernel), List.mem_of_getElem? (i := 848) (by decide +kernel), List.mem_of_getElem? (i := 849) (by decide +kernel)⟩
theorem lw_p24 : lw_okq (⟨"PipelinedCoreModel", "fulfil", "()V"⟩, 56) := ⟨⟨by decide +kernel, by decide +kernel⟩, List.mem_of_getElem? (i := 609) (by decide +kernel), List.mem_of_getElem? (i := 852) (by decide +kernel), List.mem_of_getElem? (i := 853) (by decide +kernel)⟩
theorem lw_p25 : lw_okq (⟨"PipelinedCoreModel", "decide", "()V"⟩, 56) := ⟨⟨by decide +kernel, by decide +kernel⟩, List.mem_of_getElem? (i := 609) (by decide +kernel), List.mem_of_getElem? (i := 856) (by decide +kernel), List.mem_of_getElem? (i := 857) (by decide +kernel)⟩
theorem lw_p26 : lw_okq (⟨"PipelinedCoreModel", "numberJ", "()I"⟩, 56) := ⟨⟨by decide +kernel, by decide +kernel⟩, List.mem_of_getElem? (i := 609) (by decide +kernel), List.mem_of_getElem? (i := 860) (by decide +kernel), List.mem_of_getElem? (i := 861) (by decide +kernel)⟩
theorem lw_p27 : lw_okq (⟨"PipelinedCoreModel", "go", "(I)V"⟩, 56) := ⟨⟨by decide +kernel, by decide +kernel⟩, List.mem_of_getElem? (i := 609) (by decide +kernel), List.mem_of_getElem? (i := 864) (by decide +kernel), List.mem_of_getElem? (i := 865) (by decide +kernel)⟩
theorem lw_p28 : lw_okq (⟨"PipelinedCoreModel", "regA", "()I"⟩, 56) := ⟨⟨by decide +kernel, by decide +kernel⟩, List.mem_of_getElem? (i := 609) (by decide +kernel), List.mem_of_getElem? (i := 868) (by decide +kernel), List.mem_of_getElem? (i := 869) (by decide +kernel)⟩
theorem lw_p29 : lw_okq (⟨"PipelinedCoreModel", "numberI", "()I"⟩, 56) := ⟨⟨by decide +kernel, by decide +kernel⟩, List.mem_of_getElem? (i := 609) (by decide +kernel), List.mem_of_getElem? (i := 872) (by decide +kernel), List.mem_of_getElem? (i := 873) (by decide +kernel)⟩
theorem lw_p30 : lw_okq (⟨"PipelinedCoreModel", "branch", "()V"⟩, 56) := ⟨⟨by decide +kernel, by decide +kernel⟩, List.mem_of_getElem? (i := 609) (by decide +kernel), List.mem_of_getElem? (i := 876) (by decide +kernel), List.mem_of_getElem? (i := 877) (by decide +kernel)⟩
theorem lw_p31 : lw_okq (⟨"PipelinedCoreModel", "regB", "()I"⟩, 56) := ⟨⟨by decide +kernel, by decide +kernel⟩, List.mem_of_getElem? (i := 609) (by decide +kernel), List.mem_of_getElem? (i := 880) (by decide +kernel), List.mem_of_getElem? (i := 881) (by decide +kernel)⟩
def lw_privs_2 : List (MethodName × Nat) := [(⟨"PipelinedCoreModel", "op", "()I"⟩, 56), (⟨"PipelinedCoreModel", "bits", "(II)I"⟩, 56), (⟨"PipelinedCoreModel", "usesB", "()Z"⟩, 56), (⟨"PipelinedCoreModel", "perform", "(I)V"⟩, 56), (⟨"PipelinedCoreModel", "fetched", "()I"⟩, 56), (⟨"PipelinedCoreModel", "learn", "(IIIZ)V"⟩, 56), (⟨"PipelinedCoreModel", "guess", "(II)I"⟩, 56), (⟨"PipelinedCoreModel", "enter", "(III)V"⟩, 56), (⟨"PipelinedCoreModel", "fulfil", "()V"⟩, 56), (⟨"PipelinedCoreModel", "decide", "()V"⟩, 56), (⟨"PipelinedCoreModel", "numberJ", "()I"⟩, 56), (⟨"PipelinedCoreModel", "go", "(I)V"⟩, 56), (⟨"PipelinedCoreModel", "regA", "()I"⟩, 56), (⟨"PipelinedCoreModel", "numberI", "()I"⟩, 56), (⟨"PipelinedCoreModel", "branch", "()V"⟩, 56), (⟨"PipelinedCoreModel", "regB", "()I"⟩, 56)]
theorem lw_r2 : ∀ q ∈ lw_privs_2, lw_okq q := List.forall_mem_cons.mpr ⟨lw_p16, List.forall_mem_cons.mpr ⟨lw_p17, List.forall_mem_cons.mpr ⟨lw_p18, List.forall_mem_cons.mpr ⟨lw_p19, List.forall_mem_cons.mpr ⟨lw_p20, List.forall_mem_cons.mpr ⟨lw_p21, List.forall_mem_cons.mpr ⟨lw_p22, List.forall_mem_cons.mpr ⟨lw_p23, List.forall_mem_cons.mpr ⟨lw_p24, List.forall_mem_cons.mpr ⟨lw_p25, List.forall_mem_cons.mpr ⟨lw_p26, List.forall_mem_cons.mpr ⟨lw_p27, List.forall_mem_cons.mpr ⟨lw_p28, List.forall_mem_cons.mpr ⟨lw_p29, List.forall_mem_cons.mpr ⟨lw_p30, List.forall_mem_cons.mpr ⟨lw_p31, fun _ h => absurd h List.not_mem_nil⟩⟩⟩⟩⟩⟩⟩⟩⟩⟩⟩⟩⟩⟩⟩⟩
theorem lw_p32 : lw_okq (⟨"PipelinedCoreModel", "illegal", "()V"⟩, 56) := ⟨⟨by decide +kernel, by decide +kernel⟩, List.mem_of_getElem? (i := 609) (by decide +kernel), List.mem_of_getElem? (i := 888) (by decide +kernel), List.mem_of_getElem? (i := 889) (by decide +kernel)⟩
theorem lw_p33 : lw_okq (⟨"PipelinedCoreModel", "numberB", "()I"⟩, 56) := ⟨⟨by decide +kernel, by decide +kernel⟩, List.mem_of_getElem? (i := 609) (by decide +kernel), List.mem_of_getElem? (i := 892) (by decide +kernel), List.mem_of_getElem? (i := 893) (by decide +kernel)⟩
theorem lw_p34 : lw_okq (⟨"PipelinedCoreModel", "load", "()V"⟩, 56) := ⟨⟨by decide +kernel, by decide +kernel⟩, List.mem_of_getElem? (i := 609) (by decide +kernel), List.mem_of_getElem? (i := 896) (by decide +kernel), List.mem_of_getElem? (i := 897) (by decide +kernel)⟩
theorem lw_p35 : lw_okq (⟨"PipelinedCoreModel", "reach", "(III)V"⟩, 56) := ⟨⟨by decide +kernel, by decide +kernel⟩, List.mem_of_getElem? (i := 609) (by decide +kernel), List.mem_of_getElem? (i := 900) (by decide +kernel), List.mem_of_getElem? (i := 901) (by decide +kernel)⟩
theorem lw_p36 : lw_okq (⟨"PipelinedCoreModel", "store", "()V"⟩, 56) := ⟨⟨by decide +kernel, by decide +kernel⟩, List.mem_of_getElem? (i := 609) (by decide +kernel), List.mem_of_getElem? (i := 905) (by decide +kernel), List.mem_of_getElem? (i := 906) (by decide +kernel)⟩
theorem lw_p37 : lw_okq (⟨"PipelinedCoreModel", "numberS", "()I"⟩, 56) := ⟨⟨by decide +kernel, by decide +kernel⟩, List.mem_of_getElem? (i := 609) (by decide +kernel), List.mem_of_getElem? (i := 909) (by decide +kernel), List.mem_of_getElem? (i := 910) (by decide +kernel)⟩
theorem lw_p38 : lw_okq (⟨"PipelinedCoreModel", "immediate", "()V"⟩, 56) := ⟨⟨by decide +kernel, by decide +kernel⟩, List.mem_of_getElem? (i := 609) (by decide +kernel), List.mem_of_getElem? (i := 913) (by decide +kernel), List.mem_of_getElem? (i := 914) (by decide +kernel)⟩
theorem lw_p39 : lw_okq (⟨"PipelinedCoreModel", "operation", "()V"⟩, 56) := ⟨⟨by decide +kernel, by decide +kernel⟩, List.mem_of_getElem? (i := 609) (by decide +kernel), List.mem_of_getElem? (i := 920) (by decide +kernel), List.mem_of_getElem? (i := 921) (by decide +kernel)⟩
theorem lw_p40 : lw_okq (⟨"PipelinedCoreModel", "system", "()V"⟩, 56) := ⟨⟨by decide +kernel, by decide +kernel⟩, List.mem_of_getElem? (i := 609) (by decide +kernel), List.mem_of_getElem? (i := 930) (by decide +kernel), List.mem_of_getElem? (i := 931) (by decide +kernel)⟩
theorem lw_p41 : lw_okq (⟨"PipelinedCoreModel", "change", "(II)V"⟩, 56) := ⟨⟨by decide +kernel, by decide +kernel⟩, List.mem_of_getElem? (i := 609) (by decide +kernel), List.mem_of_getElem? (i := 940) (by decide +kernel), List.mem_of_getElem? (i := 941) (by decide +kernel)⟩
theorem lw_p42 : lw_okq (⟨"PipelinedCoreModel", "finish", "(I)V"⟩, 56) := ⟨⟨by decide +kernel, by decide +kernel⟩, List.mem_of_getElem? (i := 609) (by decide +kernel), List.mem_of_getElem? (i := 944) (by decide +kernel), List.mem_of_getElem? (i := 945) (by decide +kernel)⟩
theorem lw_p43 : lw_okq (⟨"PipelinedCoreModel", "cached", "()I"⟩, 56) := ⟨⟨by decide +kernel, by decide +kernel⟩, List.mem_of_getElem? (i := 609) (by decide +kernel), List.mem_of_getElem? (i := 948) (by decide +kernel), List.mem_of_getElem? (i := 949) (by decide +kernel)⟩
theorem lw_p44 : lw_okq (⟨"PipelinedCoreModel", "end", "(I)V"⟩, 56) := ⟨⟨by decide +kernel, by decide +kernel⟩, List.mem_of_getElem? (i := 609) (by decide +kernel), List.mem_of_getElem? (i := 952) (by decide +kernel), List.mem_of_getElem? (i := 953) (by decide +kernel)⟩
theorem lw_p45 : lw_okq (⟨"PipelinedCoreModel", "shift", "(I)V"⟩, 56) := ⟨⟨by decide +kernel, by decide +kernel⟩, List.mem_of_getElem? (i := 609) (by decide +kernel), List.mem_of_getElem? (i := 956) (by decide +kernel), List.mem_of_getElem? (i := 957) (by decide +kernel)⟩
def lw_privs_3 : List (MethodName × Nat) := [(⟨"PipelinedCoreModel", "illegal", "()V"⟩, 56), (⟨"PipelinedCoreModel", "numberB", "()I"⟩, 56), (⟨"PipelinedCoreModel", "load", "()V"⟩, 56), (⟨"PipelinedCoreModel", "reach", "(III)V"⟩, 56), (⟨"PipelinedCoreModel", "store", "()V"⟩, 56), (⟨"PipelinedCoreModel", "numberS", "()I"⟩, 56), (⟨"PipelinedCoreModel", "immediate", "()V"⟩, 56), (⟨"PipelinedCoreModel", "operation", "()V"⟩, 56), (⟨"PipelinedCoreModel", "system", "()V"⟩, 56), (⟨"PipelinedCoreModel", "change", "(II)V"⟩, 56), (⟨"PipelinedCoreModel", "finish", "(I)V"⟩, 56), (⟨"PipelinedCoreModel", "cached", "()I"⟩, 56), (⟨"PipelinedCoreModel", "end", "(I)V"⟩, 56), (⟨"PipelinedCoreModel", "shift", "(I)V"⟩, 56)]
theorem lw_r3 : ∀ q ∈ lw_privs_3, lw_okq q := List.forall_mem_cons.mpr ⟨lw_p32, List.forall_mem_cons.mpr ⟨lw_p33, List.forall_mem_cons.mpr ⟨lw_p34, List.forall_mem_cons.mpr ⟨lw_p35, List.forall_mem_cons.mpr ⟨lw_p36, List.forall_mem_cons.mpr ⟨lw_p37, List.forall_mem_cons.mpr ⟨lw_p38, List.forall_mem_cons.mpr ⟨lw_p39, List.forall_mem_cons.mpr ⟨lw_p40, List.forall_mem_cons.mpr ⟨lw_p41, List.forall_mem_cons.mpr ⟨lw_p42, List.forall_mem_cons.mpr ⟨lw_p43, List.forall_mem_cons.mpr ⟨lw_p44, List.forall_mem_cons.mpr ⟨lw_p45, fun _ h => absurd h List.not_mem_nil⟩⟩⟩⟩⟩⟩⟩⟩⟩⟩⟩⟩⟩⟩
def lw_privs : List (MethodName × Nat) := lw_privs_1 ++ (lw_privs_2 ++ (lw_privs_3))
def lw_tbl : List Cond := k2_sels lw_privs ++ tables_1
theorem lw_privs_ok : ∀ q ∈ lw_privs, lw_okq q := by
  show ∀ q ∈ lw_privs_1 ++ (lw_privs_2 ++ (lw_privs_3)), lw_okq q
  exact List.forall_mem_append.mpr ⟨lw_r1, List.forall_mem_append.mpr ⟨lw_r2, lw_r3⟩⟩

def gw : List Cond := lw_tbl.filter goodWord
theorem gw_of {w : Cond} (h : w ∈ tables_1) (hg : goodWord w = true) : w ∈ gw := List.mem_filter.mpr ⟨List.mem_append_right _ h, hg⟩
theorem gw_1 (i : Nat) {w : Cond} (h : tables_1_1[i]? = some w) (hg : goodWord w = true) : w ∈ gw := gw_of (List.mem_append_left _ (List.mem_of_getElem? h)) hg
theorem gw_2 (i : Nat) {w : Cond} (h : tables_1_2[i]? = some w) (hg : goodWord w = true) : w ∈ gw := gw_of (List.mem_append_right _ (List.mem_append_left _ (List.mem_of_getElem? h))) hg
theorem gw_3 (i : Nat) {w : Cond} (h : tables_1_3[i]? = some w) (hg : goodWord w = true) : w ∈ gw := gw_of (List.mem_append_right _ (List.mem_append_right _ (List.mem_append_left _ (List.mem_of_getElem? h)))) hg
theorem gw_4 (i : Nat) {w : Cond} (h : tables_1_4[i]? = some w) (hg : goodWord w = true) : w ∈ gw := gw_of (List.mem_append_right _ (List.mem_append_right _ (List.mem_append_right _ (List.mem_append_left _ (List.mem_of_getElem? h))))) hg
theorem gw_5 (i : Nat) {w : Cond} (h : tables_1_5[i]? = some w) (hg : goodWord w = true) : w ∈ gw := gw_of (List.mem_append_right _ (List.mem_append_right _ (List.mem_append_right _ (List.mem_append_right _ (List.mem_of_getElem? h))))) hg
theorem gw_sel {q : MethodName × Nat} (h : q ∈ lw_privs) : Cond.selects q.1.cls q.1 q.1 ∈ gw := List.mem_filter.mpr ⟨List.mem_append_left _ (List.mem_map.mpr ⟨q, h, rfl⟩), rfl⟩
def F_K : u_T := fun k => match k with
  | 0 => ("PipelinedCore", "codeWords", "[I", true)
  | 1 => ("PipelinedCore", "registers", "[I", true)
  | 2 => ("PipelinedCore", "controls", "LPipelinedCore$Controls;", true)
  | 3 => ("PipelinedCore", "store", "LPipelinedCore$Store;", true)
  | 4 => ("PipelinedCore", "cache", "LPipelinedCore$Cache;", true)
  | 5 => ("PipelinedCore", "foreteller", "LPipelinedCore$Foreteller;", true)
  | 6 => ("PipelinedCore", "history", "LPipelinedCore$History;", true)
  | 7 => ("PipelinedCore", "coming", "LPipelinedCore$Instruction;", true)
  | 8 => ("PipelinedCore", "executing", "LPipelinedCore$Effect;", false)
  | 9 => ("PipelinedCore", "atMemory", "LPipelinedCore$Effect;", false)
  | 10 => ("PipelinedCore", "cycle", "I", false)
  | 11 => ("PipelinedCore", "latestEnd", "I", false)
  | 12 => ("PipelinedCore", "latestRead", "I", false)
  | 13 => ("PipelinedCore", "missed", "I", false)
  | 14 => ("PipelinedCore", "trapped", "I", false)
  | 15 => ("PipelinedCore", "notBegun", "I", false)
  | _ => ("PipelinedCore", "foretoldWrongly", "I", false)
def t_K : Nat → FieldType := fun k => match k with
  | 0 => .array .int
  | 1 => .array .int
  | 2 => .object "PipelinedCore$Controls"
  | 3 => .object "PipelinedCore$Store"
  | 4 => .object "PipelinedCore$Cache"
  | 5 => .object "PipelinedCore$Foreteller"
  | 6 => .object "PipelinedCore$History"
  | 7 => .object "PipelinedCore$Instruction"
  | 8 => .object "PipelinedCore$Effect"
  | 9 => .object "PipelinedCore$Effect"
  | 10 => .int
  | 11 => .int
  | 12 => .int
  | 13 => .int
  | 14 => .int
  | 15 => .int
  | _ => .int
theorem n_K : ∀ a, a < 17 → ∀ b, b < 17 → a ≠ b → (F_K a).2.1 ≠ (F_K b).2.1 := by decide +kernel
theorem t_K_ok : ∀ k, k < 17 → parseFieldDescriptor (F_K k).2.2.1 = some (t_K k) := by decide +kernel
def F_Cac : u_T := fun k => match k with
  | 0 => ("PipelinedCore$Cache", "wait", "I", true)
  | 1 => ("PipelinedCore$Cache", "lineIn", "[I", true)
  | _ => ("PipelinedCore$Cache", "wasWritten", "[Z", true)
def t_Cac : Nat → FieldType := fun k => match k with
  | 0 => .int
  | 1 => .array .int
  | _ => .array .boolean
theorem n_Cac : ∀ a, a < 3 → ∀ b, b < 3 → a ≠ b → (F_Cac a).2.1 ≠ (F_Cac b).2.1 := by decide +kernel
theorem t_Cac_ok : ∀ k, k < 3 → parseFieldDescriptor (F_Cac k).2.2.1 = some (t_Cac k) := by decide +kernel
def F_Con : u_T := fun k => match k with
  | 0 => ("PipelinedCore$Controls", "status", "I", false)
  | 1 => ("PipelinedCore$Controls", "enabled", "I", false)
  | 2 => ("PipelinedCore$Controls", "vector", "I", false)
  | 3 => ("PipelinedCore$Controls", "scratch", "I", false)
  | 4 => ("PipelinedCore$Controls", "returnAddress", "I", false)
  | 5 => ("PipelinedCore$Controls", "cause", "I", false)
  | 6 => ("PipelinedCore$Controls", "value", "I", false)
  | _ => ("PipelinedCore$Controls", "lineBits", "I", false)
def t_Con : Nat → FieldType := fun k => match k with
  | 0 => .int
  | 1 => .int
  | 2 => .int
  | 3 => .int
  | 4 => .int
  | 5 => .int
  | 6 => .int
  | _ => .int
theorem n_Con : ∀ a, a < 8 → ∀ b, b < 8 → a ≠ b → (F_Con a).2.1 ≠ (F_Con b).2.1 := by decide +kernel
theorem t_Con_ok : ∀ k, k < 8 → parseFieldDescriptor (F_Con k).2.2.1 = some (t_Con k) := by decide +kernel
def F_Eff : u_T := fun k => match k with
  | 0 => ("PipelinedCore$Effect", "alive", "Z", false)
  | 1 => ("PipelinedCore$Effect", "address", "I", false)
  | 2 => ("PipelinedCore$Effect", "effort", "I", false)
  | 3 => ("PipelinedCore$Effect", "memoryFrom", "I", false)
  | 4 => ("PipelinedCore$Effect", "ends", "I", false)
  | 5 => ("PipelinedCore$Effect", "missed", "Z", false)
  | 6 => ("PipelinedCore$Effect", "rd", "I", false)
  | 7 => ("PipelinedCore$Effect", "result", "I", false)
  | 8 => ("PipelinedCore$Effect", "access", "I", false)
  | 9 => ("PipelinedCore$Effect", "where", "I", false)
  | 10 => ("PipelinedCore$Effect", "width", "I", false)
  | 11 => ("PipelinedCore$Effect", "written", "I", false)
  | 12 => ("PipelinedCore$Effect", "next", "I", false)
  | 13 => ("PipelinedCore$Effect", "jumps", "Z", false)
  | 14 => ("PipelinedCore$Effect", "returns", "Z", false)
  | 15 => ("PipelinedCore$Effect", "traps", "Z", false)
  | 16 => ("PipelinedCore$Effect", "cause", "I", false)
  | _ => ("PipelinedCore$Effect", "value", "I", false)
def t_Eff : Nat → FieldType := fun k => match k with
  | 0 => .boolean
  | 1 => .int
  | 2 => .int
  | 3 => .int
  | 4 => .int
  | 5 => .boolean
  | 6 => .int
  | 7 => .int
  | 8 => .int
  | 9 => .int
  | 10 => .int
  | 11 => .int
  | 12 => .int
  | 13 => .boolean
  | 14 => .boolean
  | 15 => .boolean
  | 16 => .int
  | _ => .int
theorem n_Eff : ∀ a, a < 18 → ∀ b, b < 18 → a ≠ b → (F_Eff a).2.1 ≠ (F_Eff b).2.1 := by decide +kernel
theorem t_Eff_ok : ∀ k, k < 18 → parseFieldDescriptor (F_Eff k).2.2.1 = some (t_Eff k) := by decide +kernel
def F_For : u_T := fun k => match k with
  | 0 => ("PipelinedCore$Foreteller", "addresses", "[I", true)
  | 1 => ("PipelinedCore$Foreteller", "targets", "[I", true)
  | 2 => ("PipelinedCore$Foreteller", "counts", "[I", true)
  | _ => ("PipelinedCore$Foreteller", "changedIn", "[I", true)
def t_For : Nat → FieldType := fun k => match k with
  | 0 => .array .int
  | 1 => .array .int
  | 2 => .array .int
  | _ => .array .int
theorem n_For : ∀ a, a < 4 → ∀ b, b < 4 → a ≠ b → (F_For a).2.1 ≠ (F_For b).2.1 := by decide +kernel
theorem t_For_ok : ∀ k, k < 4 → parseFieldDescriptor (F_For k).2.2.1 = some (t_For k) := by decide +kernel
def F_His : u_T := fun k => match k with
  | 0 => ("PipelinedCore$History", "addresses", "[I", true)
  | 1 => ("PipelinedCore$History", "times", "[I", true)
  | _ => ("PipelinedCore$History", "total", "I", false)
def t_His : Nat → FieldType := fun k => match k with
  | 0 => .array .int
  | 1 => .array .int
  | _ => .int
theorem n_His : ∀ a, a < 3 → ∀ b, b < 3 → a ≠ b → (F_His a).2.1 ≠ (F_His b).2.1 := by decide +kernel
theorem t_His_ok : ∀ k, k < 3 → parseFieldDescriptor (F_His k).2.2.1 = some (t_His k) := by decide +kernel
def F_Ins : u_T := fun k => match k with
  | 0 => ("PipelinedCore$Instruction", "address", "I", false)
  | 1 => ("PipelinedCore$Instruction", "isCode", "Z", false)
  | 2 => ("PipelinedCore$Instruction", "word", "I", false)
  | 3 => ("PipelinedCore$Instruction", "op", "I", false)
  | 4 => ("PipelinedCore$Instruction", "rd", "I", false)
  | 5 => ("PipelinedCore$Instruction", "f", "I", false)
  | 6 => ("PipelinedCore$Instruction", "a", "I", false)
  | 7 => ("PipelinedCore$Instruction", "b", "I", false)
  | 8 => ("PipelinedCore$Instruction", "g", "I", false)
  | 9 => ("PipelinedCore$Instruction", "foretold", "I", false)
  | 10 => ("PipelinedCore$Instruction", "decoded", "I", false)
  | _ => ("PipelinedCore$Instruction", "begins", "I", false)
def t_Ins : Nat → FieldType := fun k => match k with
  | 0 => .int
  | 1 => .boolean
  | 2 => .int
  | 3 => .int
  | 4 => .int
  | 5 => .int
  | 6 => .int
  | 7 => .int
  | 8 => .int
  | 9 => .int
  | 10 => .int
  | _ => .int
theorem n_Ins : ∀ a, a < 12 → ∀ b, b < 12 → a ≠ b → (F_Ins a).2.1 ≠ (F_Ins b).2.1 := by decide +kernel
theorem t_Ins_ok : ∀ k, k < 12 → parseFieldDescriptor (F_Ins k).2.2.1 = some (t_Ins k) := by decide +kernel
def F_Sto : u_T := fun k => match k with
  | _ => ("PipelinedCore$Store", "words", "[I", true)
def t_Sto : Nat → FieldType := fun k => match k with
  | _ => .array .int
theorem n_Sto : ∀ a, a < 1 → ∀ b, b < 1 → a ≠ b → (F_Sto a).2.1 ≠ (F_Sto b).2.1 := by decide +kernel
theorem t_Sto_ok : ∀ k, k < 1 → parseFieldDescriptor (F_Sto k).2.2.1 = some (t_Sto k) := by decide +kernel
def F_M : u_T := fun k => match k with
  | 0 => ("PipelinedCoreModel", "latency", "I", false)
  | 1 => ("PipelinedCoreModel", "now", "I", false)
  | 2 => ("PipelinedCoreModel", "codes", "[I", true)
  | 3 => ("PipelinedCoreModel", "regs", "[I", true)
  | 4 => ("PipelinedCoreModel", "words", "[I", true)
  | 5 => ("PipelinedCoreModel", "controls", "[I", true)
  | 6 => ("PipelinedCoreModel", "pc", "I", false)
  | 7 => ("PipelinedCoreModel", "seenRegs", "[I", true)
  | 8 => ("PipelinedCoreModel", "seenWords", "[I", true)
  | 9 => ("PipelinedCoreModel", "some", "Z", false)
  | 10 => ("PipelinedCoreModel", "whole", "Z", false)
  | 11 => ("PipelinedCoreModel", "lastE", "I", false)
  | 12 => ("PipelinedCoreModel", "lastM", "I", false)
  | 13 => ("PipelinedCoreModel", "any", "Z", false)
  | 14 => ("PipelinedCoreModel", "wholeW", "I", false)
  | 15 => ("PipelinedCoreModel", "loaded", "I", false)
  | 16 => ("PipelinedCoreModel", "fetch", "I", false)
  | 17 => ("PipelinedCoreModel", "count", "I", false)
  | 18 => ("PipelinedCoreModel", "place", "[I", true)
  | 19 => ("PipelinedCoreModel", "timeE", "[I", true)
  | 20 => ("PipelinedCoreModel", "timeM", "[I", true)
  | 21 => ("PipelinedCoreModel", "timeW", "[I", true)
  | 22 => ("PipelinedCoreModel", "register", "[I", true)
  | 23 => ("PipelinedCoreModel", "result", "[I", true)
  | 24 => ("PipelinedCoreModel", "cell", "[I", true)
  | 25 => ("PipelinedCoreModel", "content", "[I", true)
  | 26 => ("PipelinedCoreModel", "far", "[Z", true)
  | 27 => ("PipelinedCoreModel", "line", "[I", true)
  | 28 => ("PipelinedCoreModel", "touched", "[Z", true)
  | 29 => ("PipelinedCoreModel", "entry", "[I", true)
  | 30 => ("PipelinedCoreModel", "target", "[I", true)
  | 31 => ("PipelinedCoreModel", "trust", "[I", true)
  | 32 => ("PipelinedCoreModel", "later", "I", false)
  | 33 => ("PipelinedCoreModel", "laterPc", "[I", true)
  | 34 => ("PipelinedCoreModel", "laterTo", "[I", true)
  | 35 => ("PipelinedCoreModel", "laterJump", "[Z", true)
  | 36 => ("PipelinedCoreModel", "laterE", "[I", true)
  | 37 => ("PipelinedCoreModel", "ends", "I", false)
  | 38 => ("PipelinedCoreModel", "endPlace", "[I", true)
  | 39 => ("PipelinedCoreModel", "endTime", "[I", true)
  | 40 => ("PipelinedCoreModel", "misses", "I", false)
  | 41 => ("PipelinedCoreModel", "traps", "I", false)
  | 42 => ("PipelinedCoreModel", "unbegun", "I", false)
  | 43 => ("PipelinedCoreModel", "wrong", "I", false)
  | 44 => ("PipelinedCoreModel", "word", "I", false)
  | 45 => ("PipelinedCoreModel", "cause", "I", false)
  | 46 => ("PipelinedCoreModel", "value", "I", false)
  | 47 => ("PipelinedCoreModel", "to", "I", false)
  | 48 => ("PipelinedCoreModel", "rd", "I", false)
  | 49 => ("PipelinedCoreModel", "made", "I", false)
  | 50 => ("PipelinedCoreModel", "address", "I", false)
  | 51 => ("PipelinedCoreModel", "writes", "Z", false)
  | 52 => ("PipelinedCoreModel", "stored", "I", false)
  | 53 => ("PipelinedCoreModel", "jumper", "Z", false)
  | 54 => ("PipelinedCoreModel", "jumps", "Z", false)
  | _ => ("PipelinedCoreModel", "back", "Z", false)
def t_M : Nat → FieldType := fun k => match k with
  | 0 => .int
  | 1 => .int
  | 2 => .array .int
  | 3 => .array .int
  | 4 => .array .int
  | 5 => .array .int
  | 6 => .int
  | 7 => .array .int
  | 8 => .array .int
  | 9 => .boolean
  | 10 => .boolean
  | 11 => .int
  | 12 => .int
  | 13 => .boolean
  | 14 => .int
  | 15 => .int
  | 16 => .int
  | 17 => .int
  | 18 => .array .int
  | 19 => .array .int
  | 20 => .array .int
  | 21 => .array .int
  | 22 => .array .int
  | 23 => .array .int
  | 24 => .array .int
  | 25 => .array .int
  | 26 => .array .boolean
  | 27 => .array .int
  | 28 => .array .boolean
  | 29 => .array .int
  | 30 => .array .int
  | 31 => .array .int
  | 32 => .int
  | 33 => .array .int
  | 34 => .array .int
  | 35 => .array .boolean
  | 36 => .array .int
  | 37 => .int
  | 38 => .array .int
  | 39 => .array .int
  | 40 => .int
  | 41 => .int
  | 42 => .int
  | 43 => .int
  | 44 => .int
  | 45 => .int
  | 46 => .int
  | 47 => .int
  | 48 => .int
  | 49 => .int
  | 50 => .int
  | 51 => .boolean
  | 52 => .int
  | 53 => .boolean
  | 54 => .boolean
  | _ => .boolean
theorem n_M : ∀ a, a < 56 → ∀ b, b < 56 → a ≠ b → (F_M a).2.1 ≠ (F_M b).2.1 := by decide +kernel
theorem t_M_ok : ∀ k, k < 56 → parseFieldDescriptor (F_M k).2.2.1 = some (t_M k) := by decide +kernel
abbrev clK : List vw_C := [("PipelinedCore", F_K, 17), ("PipelinedCore$Cache", F_Cac, 3), ("PipelinedCore$Controls", F_Con, 8), ("PipelinedCore$Effect", F_Eff, 18), ("PipelinedCore$Foreteller", F_For, 4), ("PipelinedCore$History", F_His, 3), ("PipelinedCore$Instruction", F_Ins, 12), ("PipelinedCore$Store", F_Sto, 1), ("PipelinedCoreModel", F_M, 56)]
theorem w0 : (Cond.initialized "PipelinedCoreLaw") ∈ gw := gw_1 0 rfl rfl
theorem w1 : (Cond.initialized "PipelinedCore") ∈ gw := gw_1 1 rfl rfl
theorem w2 : (Cond.initialized "PipelinedCore$Controls") ∈ gw := gw_1 2 rfl rfl
theorem w3 : (Cond.initialized "PipelinedCore$Store") ∈ gw := gw_1 3 rfl rfl
theorem w4 : (Cond.initialized "PipelinedCore$Foreteller") ∈ gw := gw_1 4 rfl rfl
theorem w5 : (Cond.initialized "java/util/Arrays") ∈ gw := gw_1 5 rfl rfl
theorem w6 : (Cond.initialized "PipelinedCore$History") ∈ gw := gw_1 6 rfl rfl
theorem w7 : (Cond.initialized "PipelinedCore$Instruction") ∈ gw := gw_1 7 rfl rfl
theorem w8 : (Cond.initialized "PipelinedCore$Effect") ∈ gw := gw_1 8 rfl rfl
theorem w9 : (Cond.initialized "PipelinedCore$Cache") ∈ gw := gw_1 9 rfl rfl
theorem w10 : (Cond.initialized "java/lang/Math") ∈ gw := gw_1 10 rfl rfl
theorem w11 : (Cond.initialized "PipelinedCoreModel") ∈ gw := gw_1 11 rfl rfl
theorem w12 : (Cond.initialized "PipelinedCore$Execution") ∈ gw := gw_1 12 rfl rfl
theorem w13 : (Cond.initialized "PipelinedCore$Arithmetic") ∈ gw := gw_1 13 rfl rfl
theorem w14 : (Cond.classLink "PipelinedCoreLaw" 7 "PipelinedCore") ∈ gw := gw_1 14 rfl rfl
theorem w15 : (Cond.instantiable "PipelinedCore" 17) ∈ gw := gw_1 15 rfl rfl
theorem w16 : (Cond.methodLink "PipelinedCoreLaw" 15 ⟨"PipelinedCore", "<init>", "(I)V"⟩) ∈ gw := gw_1 16 rfl rfl
theorem w17 : (Cond.instanceMethod ⟨"PipelinedCore", "<init>", "(I)V"⟩) ∈ gw := gw_1 17 rfl rfl
theorem w18 : (Cond.code ⟨"PipelinedCore", "<init>", "(I)V"⟩ prog_1_method_1_code 2 none) ∈ gw := gw_1 18 rfl rfl
theorem w19 : (Cond.methodLink "PipelinedCore" 1 ⟨"java/lang/Object", "<init>", "()V"⟩) ∈ gw := gw_1 19 rfl rfl
theorem w20 : (Cond.instanceMethod ⟨"java/lang/Object", "<init>", "()V"⟩) ∈ gw := gw_1 20 rfl rfl
theorem w21 : (Cond.code ⟨"java/lang/Object", "<init>", "()V"⟩ object_method_1_code 1 none) ∈ gw := gw_1 21 rfl rfl
theorem w22 : (Cond.classLink "PipelinedCore" 16 "PipelinedCore$Controls") ∈ gw := gw_1 22 rfl rfl
theorem w23 : (Cond.instantiable "PipelinedCore$Controls" 8) ∈ gw := gw_1 23 rfl rfl
theorem w25 : (Cond.instanceMethod ⟨"PipelinedCore$Controls", "<init>", "()V"⟩) ∈ gw := gw_1 25 rfl rfl
theorem w26 : (Cond.code ⟨"PipelinedCore$Controls", "<init>", "()V"⟩ prog_4_method_1_code 1 none) ∈ gw := gw_1 26 rfl rfl
theorem w27 : (Cond.methodLink "PipelinedCore$Controls" 1 ⟨"java/lang/Object", "<init>", "()V"⟩) ∈ gw := gw_1 27 rfl rfl
theorem w28 : (Cond.fieldLink "PipelinedCore$Controls" 7 "PipelinedCore$Controls" "status" "I") ∈ gw := gw_1 28 rfl rfl
theorem w29 : (Cond.fieldLink "PipelinedCore$Controls" 13 "PipelinedCore$Controls" "enabled" "I") ∈ gw := gw_1 29 rfl rfl
theorem w30 : (Cond.fieldLink "PipelinedCore$Controls" 16 "PipelinedCore$Controls" "vector" "I") ∈ gw := gw_1 30 rfl rfl
theorem w31 : (Cond.fieldLink "PipelinedCore$Controls" 19 "PipelinedCore$Controls" "scratch" "I") ∈ gw := gw_1 31 rfl rfl
theorem w32 : (Cond.fieldLink "PipelinedCore$Controls" 22 "PipelinedCore$Controls" "returnAddress" "I") ∈ gw := gw_1 32 rfl rfl
theorem w33 : (Cond.fieldLink "PipelinedCore$Controls" 25 "PipelinedCore$Controls" "cause" "I") ∈ gw := gw_1 33 rfl rfl
theorem w34 : (Cond.fieldLink "PipelinedCore$Controls" 28 "PipelinedCore$Controls" "value" "I") ∈ gw := gw_1 34 rfl rfl
theorem w35 : (Cond.fieldLink "PipelinedCore$Controls" 31 "PipelinedCore$Controls" "lineBits" "I") ∈ gw := gw_1 35 rfl rfl
theorem w36 : (Cond.lays "PipelinedCore$Controls" "PipelinedCore$Controls" "status" "I") ∈ gw := gw_1 36 rfl rfl
theorem w38 : (Cond.lays "PipelinedCore$Controls" "PipelinedCore$Controls" "enabled" "I") ∈ gw := gw_1 38 rfl rfl
theorem w40 : (Cond.lays "PipelinedCore$Controls" "PipelinedCore$Controls" "vector" "I") ∈ gw := gw_1 40 rfl rfl
theorem w42 : (Cond.lays "PipelinedCore$Controls" "PipelinedCore$Controls" "scratch" "I") ∈ gw := gw_1 42 rfl rfl
theorem w44 : (Cond.lays "PipelinedCore$Controls" "PipelinedCore$Controls" "returnAddress" "I") ∈ gw := gw_1 44 rfl rfl
theorem w46 : (Cond.lays "PipelinedCore$Controls" "PipelinedCore$Controls" "cause" "I") ∈ gw := gw_1 46 rfl rfl
theorem w48 : (Cond.lays "PipelinedCore$Controls" "PipelinedCore$Controls" "value" "I") ∈ gw := gw_1 48 rfl rfl
theorem w50 : (Cond.lays "PipelinedCore$Controls" "PipelinedCore$Controls" "lineBits" "I") ∈ gw := gw_1 50 rfl rfl
theorem w53 : (Cond.arrayClass FieldType.int) ∈ gw := gw_1 53 rfl rfl
theorem w54 : (Cond.classLink "PipelinedCore" 23 "PipelinedCore$Store") ∈ gw := gw_1 54 rfl rfl
theorem w55 : (Cond.instantiable "PipelinedCore$Store" 1) ∈ gw := gw_1 55 rfl rfl
theorem w57 : (Cond.instanceMethod ⟨"PipelinedCore$Store", "<init>", "()V"⟩) ∈ gw := gw_1 57 rfl rfl
theorem w58 : (Cond.code ⟨"PipelinedCore$Store", "<init>", "()V"⟩ prog_10_method_1_code 1 none) ∈ gw := gw_1 58 rfl rfl
theorem w59 : (Cond.methodLink "PipelinedCore$Store" 1 ⟨"java/lang/Object", "<init>", "()V"⟩) ∈ gw := gw_1 59 rfl rfl
theorem w60 : (Cond.fieldLink "PipelinedCore$Store" 9 "PipelinedCore$Store" "words" "[I") ∈ gw := gw_1 60 rfl rfl
theorem w61 : (Cond.laysFinal "PipelinedCore$Store" "PipelinedCore$Store" "words" "[I") ∈ gw := gw_1 61 rfl rfl
theorem w64 : (Cond.classLink "PipelinedCore" 30 "PipelinedCore$Foreteller") ∈ gw := gw_1 64 rfl rfl
theorem w65 : (Cond.instantiable "PipelinedCore$Foreteller" 4) ∈ gw := gw_1 65 rfl rfl
theorem w66 : (Cond.methodLink "PipelinedCore" 32 ⟨"PipelinedCore$Foreteller", "<init>", "()V"⟩) ∈ gw := gw_1 66 rfl rfl
theorem w67 : (Cond.instanceMethod ⟨"PipelinedCore$Foreteller", "<init>", "()V"⟩) ∈ gw := gw_1 67 rfl rfl
theorem w68 : (Cond.code ⟨"PipelinedCore$Foreteller", "<init>", "()V"⟩ prog_7_method_1_code 1 none) ∈ gw := gw_1 68 rfl rfl
theorem w69 : (Cond.methodLink "PipelinedCore$Foreteller" 1 ⟨"java/lang/Object", "<init>", "()V"⟩) ∈ gw := gw_1 69 rfl rfl
theorem w70 : (Cond.methodLink "PipelinedCore$Foreteller" 22 ⟨"java/util/Arrays", "fill", "([II)V"⟩) ∈ gw := gw_1 70 rfl rfl
theorem w71 : (Cond.static ⟨"java/util/Arrays", "fill", "([II)V"⟩) ∈ gw := gw_1 71 rfl rfl
theorem w72 : (Cond.code ⟨"java/util/Arrays", "fill", "([II)V"⟩ prog_14_method_103_code 4 none) ∈ gw := gw_1 72 rfl rfl
theorem w73 : (Cond.fieldLink "PipelinedCore$Foreteller" 9 "PipelinedCore$Foreteller" "addresses" "[I") ∈ gw := gw_1 73 rfl rfl
theorem w74 : (Cond.fieldLink "PipelinedCore$Foreteller" 13 "PipelinedCore$Foreteller" "targets" "[I") ∈ gw := gw_1 74 rfl rfl
theorem w75 : (Cond.fieldLink "PipelinedCore$Foreteller" 16 "PipelinedCore$Foreteller" "counts" "[I") ∈ gw := gw_1 75 rfl rfl
theorem w76 : (Cond.fieldLink "PipelinedCore$Foreteller" 19 "PipelinedCore$Foreteller" "changedIn" "[I") ∈ gw := gw_1 76 rfl rfl
theorem w77 : (Cond.laysFinal "PipelinedCore$Foreteller" "PipelinedCore$Foreteller" "addresses" "[I") ∈ gw := gw_1 77 rfl rfl
theorem w79 : (Cond.laysFinal "PipelinedCore$Foreteller" "PipelinedCore$Foreteller" "targets" "[I") ∈ gw := gw_1 79 rfl rfl
theorem w81 : (Cond.laysFinal "PipelinedCore$Foreteller" "PipelinedCore$Foreteller" "counts" "[I") ∈ gw := gw_1 81 rfl rfl
theorem w83 : (Cond.laysFinal "PipelinedCore$Foreteller" "PipelinedCore$Foreteller" "changedIn" "[I") ∈ gw := gw_1 83 rfl rfl
theorem w86 : (Cond.classLink "PipelinedCore" 37 "PipelinedCore$History") ∈ gw := gw_1 86 rfl rfl
theorem w87 : (Cond.instantiable "PipelinedCore$History" 3) ∈ gw := gw_1 87 rfl rfl
theorem w89 : (Cond.instanceMethod ⟨"PipelinedCore$History", "<init>", "()V"⟩) ∈ gw := gw_1 89 rfl rfl
theorem w90 : (Cond.code ⟨"PipelinedCore$History", "<init>", "()V"⟩ prog_8_method_1_code 1 none) ∈ gw := gw_1 90 rfl rfl
theorem w91 : (Cond.methodLink "PipelinedCore$History" 1 ⟨"java/lang/Object", "<init>", "()V"⟩) ∈ gw := gw_1 91 rfl rfl
theorem w92 : (Cond.fieldLink "PipelinedCore$History" 9 "PipelinedCore$History" "addresses" "[I") ∈ gw := gw_1 92 rfl rfl
theorem w93 : (Cond.fieldLink "PipelinedCore$History" 13 "PipelinedCore$History" "times" "[I") ∈ gw := gw_1 93 rfl rfl
theorem w94 : (Cond.fieldLink "PipelinedCore$History" 16 "PipelinedCore$History" "total" "I") ∈ gw := gw_1 94 rfl rfl
theorem w95 : (Cond.fieldLink "PipelinedCore" 89 "PipelinedCore$History" "total" "I") ∈ gw := gw_1 95 rfl rfl
theorem w96 : (Cond.laysFinal "PipelinedCore$History" "PipelinedCore$History" "addresses" "[I") ∈ gw := gw_1 96 rfl rfl
theorem w98 : (Cond.laysFinal "PipelinedCore$History" "PipelinedCore$History" "times" "[I") ∈ gw := gw_1 98 rfl rfl
theorem w100 : (Cond.lays "PipelinedCore$History" "PipelinedCore$History" "total" "I") ∈ gw := gw_1 100 rfl rfl
theorem w103 : (Cond.classLink "PipelinedCore" 44 "PipelinedCore$Instruction") ∈ gw := gw_1 103 rfl rfl
theorem w104 : (Cond.instantiable "PipelinedCore$Instruction" 12) ∈ gw := gw_1 104 rfl rfl
theorem w106 : (Cond.instanceMethod ⟨"PipelinedCore$Instruction", "<init>", "()V"⟩) ∈ gw := gw_1 106 rfl rfl
theorem w107 : (Cond.code ⟨"PipelinedCore$Instruction", "<init>", "()V"⟩ prog_9_method_1_code 1 none) ∈ gw := gw_1 107 rfl rfl
theorem w108 : (Cond.methodLink "PipelinedCore$Instruction" 1 ⟨"java/lang/Object", "<init>", "()V"⟩) ∈ gw := gw_1 108 rfl rfl
theorem w109 : (Cond.fieldLink "PipelinedCore$Instruction" 7 "PipelinedCore$Instruction" "address" "I") ∈ gw := gw_1 109 rfl rfl
theorem w110 : (Cond.fieldLink "PipelinedCore$Execution" 26 "PipelinedCore$Instruction" "address" "I") ∈ gw := gw_1 110 rfl rfl
theorem w111 : (Cond.fieldLink "PipelinedCore" 180 "PipelinedCore$Instruction" "address" "I") ∈ gw := gw_1 111 rfl rfl
theorem w112 : (Cond.fieldLink "PipelinedCore$Instruction" 13 "PipelinedCore$Instruction" "isCode" "Z") ∈ gw := gw_1 112 rfl rfl
theorem w113 : (Cond.fieldLink "PipelinedCore" 191 "PipelinedCore$Instruction" "isCode" "Z") ∈ gw := gw_1 113 rfl rfl
theorem w114 : (Cond.fieldLink "PipelinedCore$Instruction" 17 "PipelinedCore$Instruction" "word" "I") ∈ gw := gw_1 114 rfl rfl
theorem w115 : (Cond.fieldLink "PipelinedCore$Execution" 75 "PipelinedCore$Instruction" "word" "I") ∈ gw := gw_1 115 rfl rfl
theorem w116 : (Cond.fieldLink "PipelinedCore$Execution" 7 "PipelinedCore$Instruction" "op" "I") ∈ gw := gw_1 116 rfl rfl
theorem w117 : (Cond.fieldLink "PipelinedCore$Instruction" 20 "PipelinedCore$Instruction" "op" "I") ∈ gw := gw_1 117 rfl rfl
theorem w118 : (Cond.fieldLink "PipelinedCore$Instruction" 23 "PipelinedCore$Instruction" "rd" "I") ∈ gw := gw_1 118 rfl rfl
theorem w119 : (Cond.fieldLink "PipelinedCore$Execution" 13 "PipelinedCore$Instruction" "rd" "I") ∈ gw := gw_1 119 rfl rfl
theorem w120 : (Cond.fieldLink "PipelinedCore$Instruction" 26 "PipelinedCore$Instruction" "f" "I") ∈ gw := gw_1 120 rfl rfl
theorem w121 : (Cond.fieldLink "PipelinedCore$Execution" 38 "PipelinedCore$Instruction" "f" "I") ∈ gw := gw_1 121 rfl rfl
theorem w122 : (Cond.fieldLink "PipelinedCore$Instruction" 29 "PipelinedCore$Instruction" "a" "I") ∈ gw := gw_1 122 rfl rfl
theorem w123 : (Cond.fieldLink "PipelinedCore$Execution" 154 "PipelinedCore$Instruction" "a" "I") ∈ gw := gw_1 123 rfl rfl
theorem w124 : (Cond.fieldLink "PipelinedCore" 194 "PipelinedCore$Instruction" "a" "I") ∈ gw := gw_1 124 rfl rfl
theorem w125 : (Cond.fieldLink "PipelinedCore$Instruction" 32 "PipelinedCore$Instruction" "b" "I") ∈ gw := gw_1 125 rfl rfl
theorem w126 : (Cond.fieldLink "PipelinedCore$Execution" 126 "PipelinedCore$Instruction" "b" "I") ∈ gw := gw_1 126 rfl rfl
theorem w127 : (Cond.fieldLink "PipelinedCore" 200 "PipelinedCore$Instruction" "b" "I") ∈ gw := gw_1 127 rfl rfl
theorem w128 : (Cond.fieldLink "PipelinedCore$Instruction" 35 "PipelinedCore$Instruction" "g" "I") ∈ gw := gw_1 128 rfl rfl
theorem w129 : (Cond.fieldLink "PipelinedCore$Execution" 119 "PipelinedCore$Instruction" "g" "I") ∈ gw := gw_1 129 rfl rfl
theorem w130 : (Cond.fieldLink "PipelinedCore" 252 "PipelinedCore$Instruction" "foretold" "I") ∈ gw := gw_1 130 rfl rfl
theorem w131 : (Cond.fieldLink "PipelinedCore" 269 "PipelinedCore$Instruction" "decoded" "I") ∈ gw := gw_1 131 rfl rfl
theorem w132 : (Cond.fieldLink "PipelinedCore" 146 "PipelinedCore$Instruction" "begins" "I") ∈ gw := gw_1 132 rfl rfl
theorem w133 : (Cond.lays "PipelinedCore$Instruction" "PipelinedCore$Instruction" "address" "I") ∈ gw := gw_1 133 rfl rfl
theorem w135 : (Cond.lays "PipelinedCore$Instruction" "PipelinedCore$Instruction" "isCode" "Z") ∈ gw := gw_1 135 rfl rfl
theorem w137 : (Cond.lays "PipelinedCore$Instruction" "PipelinedCore$Instruction" "word" "I") ∈ gw := gw_1 137 rfl rfl
theorem w139 : (Cond.lays "PipelinedCore$Instruction" "PipelinedCore$Instruction" "op" "I") ∈ gw := gw_1 139 rfl rfl
theorem w141 : (Cond.lays "PipelinedCore$Instruction" "PipelinedCore$Instruction" "rd" "I") ∈ gw := gw_1 141 rfl rfl
theorem w143 : (Cond.lays "PipelinedCore$Instruction" "PipelinedCore$Instruction" "f" "I") ∈ gw := gw_1 143 rfl rfl
theorem w145 : (Cond.lays "PipelinedCore$Instruction" "PipelinedCore$Instruction" "a" "I") ∈ gw := gw_1 145 rfl rfl
theorem w147 : (Cond.lays "PipelinedCore$Instruction" "PipelinedCore$Instruction" "b" "I") ∈ gw := gw_1 147 rfl rfl
theorem w149 : (Cond.lays "PipelinedCore$Instruction" "PipelinedCore$Instruction" "g" "I") ∈ gw := gw_1 149 rfl rfl
theorem w151 : (Cond.lays "PipelinedCore$Instruction" "PipelinedCore$Instruction" "foretold" "I") ∈ gw := gw_1 151 rfl rfl
theorem w153 : (Cond.lays "PipelinedCore$Instruction" "PipelinedCore$Instruction" "decoded" "I") ∈ gw := gw_1 153 rfl rfl
theorem w155 : (Cond.lays "PipelinedCore$Instruction" "PipelinedCore$Instruction" "begins" "I") ∈ gw := gw_1 155 rfl rfl
theorem w158 : (Cond.classLink "PipelinedCore" 51 "PipelinedCore$Effect") ∈ gw := gw_1 158 rfl rfl
theorem w159 : (Cond.instantiable "PipelinedCore$Effect" 18) ∈ gw := gw_1 159 rfl rfl
theorem w161 : (Cond.instanceMethod ⟨"PipelinedCore$Effect", "<init>", "()V"⟩) ∈ gw := gw_1 161 rfl rfl
theorem w162 : (Cond.code ⟨"PipelinedCore$Effect", "<init>", "()V"⟩ prog_5_method_1_code 1 none) ∈ gw := gw_1 162 rfl rfl
theorem w163 : (Cond.methodLink "PipelinedCore$Effect" 1 ⟨"java/lang/Object", "<init>", "()V"⟩) ∈ gw := gw_1 163 rfl rfl
theorem w164 : (Cond.fieldLink "PipelinedCore$Effect" 7 "PipelinedCore$Effect" "alive" "Z") ∈ gw := gw_1 164 rfl rfl
theorem w165 : (Cond.fieldLink "PipelinedCore" 111 "PipelinedCore$Effect" "alive" "Z") ∈ gw := gw_1 165 rfl rfl
theorem w166 : (Cond.fieldLink "PipelinedCore$Effect" 13 "PipelinedCore$Effect" "address" "I") ∈ gw := gw_1 166 rfl rfl
theorem w167 : (Cond.fieldLink "PipelinedCore" 115 "PipelinedCore$Effect" "address" "I") ∈ gw := gw_1 167 rfl rfl
theorem w168 : (Cond.fieldLink "PipelinedCore$Effect" 17 "PipelinedCore$Effect" "effort" "I") ∈ gw := gw_1 168 rfl rfl
theorem w169 : (Cond.fieldLink "PipelinedCore$Execution" 129 "PipelinedCore$Effect" "effort" "I") ∈ gw := gw_1 169 rfl rfl
theorem w170 : (Cond.fieldLink "PipelinedCore" 235 "PipelinedCore$Effect" "effort" "I") ∈ gw := gw_1 170 rfl rfl
theorem w171 : (Cond.fieldLink "PipelinedCore" 140 "PipelinedCore$Effect" "memoryFrom" "I") ∈ gw := gw_1 171 rfl rfl
theorem w172 : (Cond.fieldLink "PipelinedCore" 133 "PipelinedCore$Effect" "ends" "I") ∈ gw := gw_1 172 rfl rfl
theorem w173 : (Cond.fieldLink "PipelinedCore" 175 "PipelinedCore$Effect" "missed" "Z") ∈ gw := gw_1 173 rfl rfl
theorem w174 : (Cond.fieldLink "PipelinedCore$Effect" 20 "PipelinedCore$Effect" "rd" "I") ∈ gw := gw_1 174 rfl rfl
theorem w175 : (Cond.fieldLink "PipelinedCore$Execution" 109 "PipelinedCore$Effect" "rd" "I") ∈ gw := gw_1 175 rfl rfl
theorem w176 : (Cond.fieldLink "PipelinedCore" 172 "PipelinedCore$Effect" "rd" "I") ∈ gw := gw_1 176 rfl rfl
theorem w177 : (Cond.fieldLink "PipelinedCore$Effect" 38 "PipelinedCore$Effect" "result" "I") ∈ gw := gw_1 177 rfl rfl
theorem w178 : (Cond.fieldLink "PipelinedCore" 163 "PipelinedCore$Effect" "result" "I") ∈ gw := gw_1 178 rfl rfl
theorem w179 : (Cond.fieldLink "PipelinedCore$Effect" 23 "PipelinedCore$Effect" "access" "I") ∈ gw := gw_1 179 rfl rfl
theorem w180 : (Cond.fieldLink "PipelinedCore$Execution" 106 "PipelinedCore$Effect" "access" "I") ∈ gw := gw_1 180 rfl rfl
theorem w181 : (Cond.fieldLink "PipelinedCore" 152 "PipelinedCore$Effect" "access" "I") ∈ gw := gw_1 181 rfl rfl
theorem w182 : (Cond.fieldLink "PipelinedCore$Execution" 110 "PipelinedCore$Effect" "where" "I") ∈ gw := gw_1 182 rfl rfl
theorem w183 : (Cond.fieldLink "PipelinedCore" 155 "PipelinedCore$Effect" "where" "I") ∈ gw := gw_1 183 rfl rfl
theorem w184 : (Cond.fieldLink "PipelinedCore$Execution" 113 "PipelinedCore$Effect" "width" "I") ∈ gw := gw_1 184 rfl rfl
theorem w185 : (Cond.fieldLink "PipelinedCore" 158 "PipelinedCore$Effect" "width" "I") ∈ gw := gw_1 185 rfl rfl
theorem w186 : (Cond.fieldLink "PipelinedCore$Execution" 116 "PipelinedCore$Effect" "written" "I") ∈ gw := gw_1 186 rfl rfl
theorem w187 : (Cond.fieldLink "PipelinedCore" 166 "PipelinedCore$Effect" "written" "I") ∈ gw := gw_1 187 rfl rfl
theorem w188 : (Cond.fieldLink "PipelinedCore$Effect" 26 "PipelinedCore$Effect" "next" "I") ∈ gw := gw_1 188 rfl rfl
theorem w189 : (Cond.fieldLink "PipelinedCore$Execution" 147 "PipelinedCore$Effect" "next" "I") ∈ gw := gw_1 189 rfl rfl
theorem w190 : (Cond.fieldLink "PipelinedCore" 249 "PipelinedCore$Effect" "next" "I") ∈ gw := gw_1 190 rfl rfl
theorem w191 : (Cond.fieldLink "PipelinedCore$Effect" 29 "PipelinedCore$Effect" "jumps" "Z") ∈ gw := gw_1 191 rfl rfl
theorem w192 : (Cond.fieldLink "PipelinedCore" 259 "PipelinedCore$Effect" "jumps" "Z") ∈ gw := gw_1 192 rfl rfl
theorem w193 : (Cond.fieldLink "PipelinedCore$Effect" 32 "PipelinedCore$Effect" "returns" "Z") ∈ gw := gw_1 193 rfl rfl
theorem w194 : (Cond.fieldLink "PipelinedCore$Execution" 138 "PipelinedCore$Effect" "returns" "Z") ∈ gw := gw_1 194 rfl rfl
theorem w195 : (Cond.fieldLink "PipelinedCore" 266 "PipelinedCore$Effect" "returns" "Z") ∈ gw := gw_1 195 rfl rfl
theorem w196 : (Cond.fieldLink "PipelinedCore$Effect" 35 "PipelinedCore$Effect" "traps" "Z") ∈ gw := gw_1 196 rfl rfl
theorem w197 : (Cond.fieldLink "PipelinedCore" 212 "PipelinedCore$Effect" "traps" "Z") ∈ gw := gw_1 197 rfl rfl
theorem w198 : (Cond.fieldLink "PipelinedCore$Effect" 41 "PipelinedCore$Effect" "cause" "I") ∈ gw := gw_1 198 rfl rfl
theorem w199 : (Cond.fieldLink "PipelinedCore" 215 "PipelinedCore$Effect" "cause" "I") ∈ gw := gw_1 199 rfl rfl
theorem w200 : (Cond.fieldLink "PipelinedCore$Effect" 44 "PipelinedCore$Effect" "value" "I") ∈ gw := gw_1 200 rfl rfl
theorem w201 : (Cond.fieldLink "PipelinedCore" 218 "PipelinedCore$Effect" "value" "I") ∈ gw := gw_1 201 rfl rfl
theorem w202 : (Cond.lays "PipelinedCore$Effect" "PipelinedCore$Effect" "alive" "Z") ∈ gw := gw_1 202 rfl rfl
theorem w204 : (Cond.lays "PipelinedCore$Effect" "PipelinedCore$Effect" "address" "I") ∈ gw := gw_1 204 rfl rfl
theorem w206 : (Cond.lays "PipelinedCore$Effect" "PipelinedCore$Effect" "effort" "I") ∈ gw := gw_1 206 rfl rfl
theorem w208 : (Cond.lays "PipelinedCore$Effect" "PipelinedCore$Effect" "memoryFrom" "I") ∈ gw := gw_1 208 rfl rfl
theorem w210 : (Cond.lays "PipelinedCore$Effect" "PipelinedCore$Effect" "ends" "I") ∈ gw := gw_1 210 rfl rfl
theorem w212 : (Cond.lays "PipelinedCore$Effect" "PipelinedCore$Effect" "missed" "Z") ∈ gw := gw_1 212 rfl rfl
theorem w214 : (Cond.lays "PipelinedCore$Effect" "PipelinedCore$Effect" "rd" "I") ∈ gw := gw_1 214 rfl rfl
theorem w216 : (Cond.lays "PipelinedCore$Effect" "PipelinedCore$Effect" "result" "I") ∈ gw := gw_1 216 rfl rfl
theorem w218 : (Cond.lays "PipelinedCore$Effect" "PipelinedCore$Effect" "access" "I") ∈ gw := gw_1 218 rfl rfl
theorem w220 : (Cond.lays "PipelinedCore$Effect" "PipelinedCore$Effect" "where" "I") ∈ gw := gw_1 220 rfl rfl
theorem w222 : (Cond.lays "PipelinedCore$Effect" "PipelinedCore$Effect" "width" "I") ∈ gw := gw_1 222 rfl rfl
theorem w224 : (Cond.lays "PipelinedCore$Effect" "PipelinedCore$Effect" "written" "I") ∈ gw := gw_1 224 rfl rfl
theorem w226 : (Cond.lays "PipelinedCore$Effect" "PipelinedCore$Effect" "next" "I") ∈ gw := gw_1 226 rfl rfl
theorem w228 : (Cond.lays "PipelinedCore$Effect" "PipelinedCore$Effect" "jumps" "Z") ∈ gw := gw_1 228 rfl rfl
theorem w230 : (Cond.lays "PipelinedCore$Effect" "PipelinedCore$Effect" "returns" "Z") ∈ gw := gw_1 230 rfl rfl
theorem w232 : (Cond.lays "PipelinedCore$Effect" "PipelinedCore$Effect" "traps" "Z") ∈ gw := gw_1 232 rfl rfl
theorem w234 : (Cond.lays "PipelinedCore$Effect" "PipelinedCore$Effect" "cause" "I") ∈ gw := gw_1 234 rfl rfl
theorem w236 : (Cond.lays "PipelinedCore$Effect" "PipelinedCore$Effect" "value" "I") ∈ gw := gw_1 236 rfl rfl
theorem w239 : (Cond.classLink "PipelinedCore" 61 "PipelinedCore$Cache") ∈ gw := gw_1 239 rfl rfl
theorem w240 : (Cond.instantiable "PipelinedCore$Cache" 3) ∈ gw := gw_2 0 rfl rfl
theorem w241 : (Cond.methodLink "PipelinedCore" 63 ⟨"PipelinedCore$Cache", "<init>", "(I)V"⟩) ∈ gw := gw_2 1 rfl rfl
theorem w242 : (Cond.instanceMethod ⟨"PipelinedCore$Cache", "<init>", "(I)V"⟩) ∈ gw := gw_2 2 rfl rfl
theorem w243 : (Cond.code ⟨"PipelinedCore$Cache", "<init>", "(I)V"⟩ prog_3_method_1_code 2 none) ∈ gw := gw_2 3 rfl rfl
theorem w244 : (Cond.methodLink "PipelinedCore$Cache" 1 ⟨"java/lang/Object", "<init>", "()V"⟩) ∈ gw := gw_2 4 rfl rfl
theorem w245 : (Cond.methodLink "PipelinedCore$Cache" 17 ⟨"java/lang/Math", "min", "(II)I"⟩) ∈ gw := gw_2 5 rfl rfl
theorem w246 : (Cond.static ⟨"java/lang/Math", "min", "(II)I"⟩) ∈ gw := gw_2 6 rfl rfl
theorem w247 : (Cond.code ⟨"java/lang/Math", "min", "(II)I"⟩ prog_13_method_69_code 2 (some FieldType.int)) ∈ gw := gw_2 7 rfl rfl
theorem w248 : (Cond.methodLink "PipelinedCore$Cache" 23 ⟨"java/lang/Math", "max", "(II)I"⟩) ∈ gw := gw_2 8 rfl rfl
theorem w249 : (Cond.static ⟨"java/lang/Math", "max", "(II)I"⟩) ∈ gw := gw_2 9 rfl rfl
theorem w250 : (Cond.code ⟨"java/lang/Math", "max", "(II)I"⟩ prog_13_method_65_code 2 (some FieldType.int)) ∈ gw := gw_2 10 rfl rfl
theorem w251 : (Cond.methodLink "PipelinedCore$Cache" 30 ⟨"java/util/Arrays", "fill", "([II)V"⟩) ∈ gw := gw_2 11 rfl rfl
theorem w252 : (Cond.fieldLink "PipelinedCore$Cache" 26 "PipelinedCore$Cache" "wait" "I") ∈ gw := gw_2 12 rfl rfl
theorem w253 : (Cond.fieldLink "PipelinedCore$Cache" 9 "PipelinedCore$Cache" "lineIn" "[I") ∈ gw := gw_2 13 rfl rfl
theorem w254 : (Cond.fieldLink "PipelinedCore$Cache" 13 "PipelinedCore$Cache" "wasWritten" "[Z") ∈ gw := gw_2 14 rfl rfl
theorem w255 : (Cond.laysFinal "PipelinedCore$Cache" "PipelinedCore$Cache" "wait" "I") ∈ gw := gw_2 15 rfl rfl
theorem w257 : (Cond.laysFinal "PipelinedCore$Cache" "PipelinedCore$Cache" "lineIn" "[I") ∈ gw := gw_2 17 rfl rfl
theorem w259 : (Cond.laysFinal "PipelinedCore$Cache" "PipelinedCore$Cache" "wasWritten" "[Z") ∈ gw := gw_2 19 rfl rfl
theorem w262 : (Cond.arrayClass FieldType.boolean) ∈ gw := gw_2 22 rfl rfl
theorem w263 : (Cond.fieldLink "PipelinedCore" 9 "PipelinedCore" "codeWords" "[I") ∈ gw := gw_2 23 rfl rfl
theorem w264 : (Cond.fieldLink "PipelinedCore" 13 "PipelinedCore" "registers" "[I") ∈ gw := gw_2 24 rfl rfl
theorem w265 : (Cond.fieldLink "PipelinedCore" 19 "PipelinedCore" "controls" "LPipelinedCore$Controls;") ∈ gw := gw_2 25 rfl rfl
theorem w266 : (Cond.fieldLink "PipelinedCore" 26 "PipelinedCore" "store" "LPipelinedCore$Store;") ∈ gw := gw_2 26 rfl rfl
theorem w267 : (Cond.fieldLink "PipelinedCore" 66 "PipelinedCore" "cache" "LPipelinedCore$Cache;") ∈ gw := gw_2 27 rfl rfl
theorem w268 : (Cond.fieldLink "PipelinedCore" 33 "PipelinedCore" "foreteller" "LPipelinedCore$Foreteller;") ∈ gw := gw_2 28 rfl rfl
theorem w269 : (Cond.fieldLink "PipelinedCore" 40 "PipelinedCore" "history" "LPipelinedCore$History;") ∈ gw := gw_2 29 rfl rfl
theorem w270 : (Cond.fieldLink "PipelinedCore" 47 "PipelinedCore" "coming" "LPipelinedCore$Instruction;") ∈ gw := gw_2 30 rfl rfl
theorem w271 : (Cond.fieldLink "PipelinedCore" 54 "PipelinedCore" "executing" "LPipelinedCore$Effect;") ∈ gw := gw_2 31 rfl rfl
theorem w272 : (Cond.fieldLink "PipelinedCore" 58 "PipelinedCore" "atMemory" "LPipelinedCore$Effect;") ∈ gw := gw_2 32 rfl rfl
theorem w273 : (Cond.fieldLink "PipelinedCore" 70 "PipelinedCore" "cycle" "I") ∈ gw := gw_2 33 rfl rfl
theorem w274 : (Cond.fieldLink "PipelinedCore" 238 "PipelinedCore" "latestEnd" "I") ∈ gw := gw_2 34 rfl rfl
theorem w275 : (Cond.fieldLink "PipelinedCore" 246 "PipelinedCore" "latestRead" "I") ∈ gw := gw_2 35 rfl rfl
theorem w276 : (Cond.fieldLink "PipelinedCore" 121 "PipelinedCore" "missed" "I") ∈ gw := gw_2 36 rfl rfl
theorem w277 : (Cond.fieldLink "PipelinedCore" 124 "PipelinedCore" "trapped" "I") ∈ gw := gw_2 37 rfl rfl
theorem w278 : (Cond.fieldLink "PipelinedCore" 127 "PipelinedCore" "notBegun" "I") ∈ gw := gw_2 38 rfl rfl
theorem w279 : (Cond.fieldLink "PipelinedCore" 130 "PipelinedCore" "foretoldWrongly" "I") ∈ gw := gw_2 39 rfl rfl
theorem w280 : (Cond.laysFinal "PipelinedCore" "PipelinedCore" "codeWords" "[I") ∈ gw := gw_2 40 rfl rfl
theorem w282 : (Cond.laysFinal "PipelinedCore" "PipelinedCore" "registers" "[I") ∈ gw := gw_2 42 rfl rfl
theorem w284 : (Cond.laysFinal "PipelinedCore" "PipelinedCore" "controls" "LPipelinedCore$Controls;") ∈ gw := gw_2 44 rfl rfl
theorem w286 : (Cond.laysFinal "PipelinedCore" "PipelinedCore" "store" "LPipelinedCore$Store;") ∈ gw := gw_2 46 rfl rfl
theorem w288 : (Cond.laysFinal "PipelinedCore" "PipelinedCore" "cache" "LPipelinedCore$Cache;") ∈ gw := gw_2 48 rfl rfl
theorem w290 : (Cond.laysFinal "PipelinedCore" "PipelinedCore" "foreteller" "LPipelinedCore$Foreteller;") ∈ gw := gw_2 50 rfl rfl
theorem w292 : (Cond.laysFinal "PipelinedCore" "PipelinedCore" "history" "LPipelinedCore$History;") ∈ gw := gw_2 52 rfl rfl
theorem w294 : (Cond.laysFinal "PipelinedCore" "PipelinedCore" "coming" "LPipelinedCore$Instruction;") ∈ gw := gw_2 54 rfl rfl
theorem w296 : (Cond.lays "PipelinedCore" "PipelinedCore" "executing" "LPipelinedCore$Effect;") ∈ gw := gw_2 56 rfl rfl
theorem w298 : (Cond.lays "PipelinedCore" "PipelinedCore" "atMemory" "LPipelinedCore$Effect;") ∈ gw := gw_2 58 rfl rfl
theorem w300 : (Cond.lays "PipelinedCore" "PipelinedCore" "cycle" "I") ∈ gw := gw_2 60 rfl rfl
theorem w302 : (Cond.lays "PipelinedCore" "PipelinedCore" "latestEnd" "I") ∈ gw := gw_2 62 rfl rfl
theorem w304 : (Cond.lays "PipelinedCore" "PipelinedCore" "latestRead" "I") ∈ gw := gw_2 64 rfl rfl
theorem w306 : (Cond.lays "PipelinedCore" "PipelinedCore" "missed" "I") ∈ gw := gw_2 66 rfl rfl
theorem w308 : (Cond.lays "PipelinedCore" "PipelinedCore" "trapped" "I") ∈ gw := gw_2 68 rfl rfl
theorem w310 : (Cond.lays "PipelinedCore" "PipelinedCore" "notBegun" "I") ∈ gw := gw_2 70 rfl rfl
theorem w312 : (Cond.lays "PipelinedCore" "PipelinedCore" "foretoldWrongly" "I") ∈ gw := gw_2 72 rfl rfl
theorem w315 : (Cond.methodLink "PipelinedCoreLaw" 21 ⟨"PipelinedCore", "code", "(II)Z"⟩) ∈ gw := gw_2 75 rfl rfl
theorem w316 : (Cond.instanceMethod ⟨"PipelinedCore", "code", "(II)Z"⟩) ∈ gw := gw_2 76 rfl rfl
theorem w317 : (Cond.selects "PipelinedCore" ⟨"PipelinedCore", "code", "(II)Z"⟩ ⟨"PipelinedCore", "code", "(II)Z"⟩) ∈ gw := gw_2 77 rfl rfl
theorem w318 : (Cond.code ⟨"PipelinedCore", "code", "(II)Z"⟩ prog_1_method_2_code 3 (some FieldType.boolean)) ∈ gw := gw_2 78 rfl rfl
theorem w319 : (Cond.methodLink "PipelinedCoreLaw" 26 ⟨"PipelinedCore", "data", "(II)Z"⟩) ∈ gw := gw_2 79 rfl rfl
theorem w320 : (Cond.instanceMethod ⟨"PipelinedCore", "data", "(II)Z"⟩) ∈ gw := gw_2 80 rfl rfl
theorem w321 : (Cond.selects "PipelinedCore" ⟨"PipelinedCore", "data", "(II)Z"⟩ ⟨"PipelinedCore", "data", "(II)Z"⟩) ∈ gw := gw_2 81 rfl rfl
theorem w322 : (Cond.code ⟨"PipelinedCore", "data", "(II)Z"⟩ prog_1_method_3_code 3 (some FieldType.boolean)) ∈ gw := gw_2 82 rfl rfl
theorem w323 : (Cond.methodLink "PipelinedCore" 74 ⟨"PipelinedCore$Store", "hasWord", "(I)Z"⟩) ∈ gw := gw_2 83 rfl rfl
theorem w324 : (Cond.static ⟨"PipelinedCore$Store", "hasWord", "(I)Z"⟩) ∈ gw := gw_2 84 rfl rfl
theorem w325 : (Cond.code ⟨"PipelinedCore$Store", "hasWord", "(I)Z"⟩ prog_10_method_3_code 1 (some FieldType.boolean)) ∈ gw := gw_2 85 rfl rfl
theorem w326 : (Cond.methodLink "PipelinedCore$Store" 13 ⟨"PipelinedCore$Store", "has", "(I)Z"⟩) ∈ gw := gw_2 86 rfl rfl
theorem w327 : (Cond.static ⟨"PipelinedCore$Store", "has", "(I)Z"⟩) ∈ gw := gw_2 87 rfl rfl
theorem w328 : (Cond.code ⟨"PipelinedCore$Store", "has", "(I)Z"⟩ prog_10_method_2_code 1 (some FieldType.boolean)) ∈ gw := gw_2 88 rfl rfl
theorem w329 : (Cond.methodLink "PipelinedCore" 78 ⟨"PipelinedCore$Store", "setWord", "(II)V"⟩) ∈ gw := gw_2 89 rfl rfl
theorem w330 : (Cond.instanceMethod ⟨"PipelinedCore$Store", "setWord", "(II)V"⟩) ∈ gw := gw_2 90 rfl rfl
theorem w331 : (Cond.selects "PipelinedCore$Store" ⟨"PipelinedCore$Store", "setWord", "(II)V"⟩ ⟨"PipelinedCore$Store", "setWord", "(II)V"⟩) ∈ gw := gw_2 91 rfl rfl
theorem w332 : (Cond.code ⟨"PipelinedCore$Store", "setWord", "(II)V"⟩ prog_10_method_6_code 3 none) ∈ gw := gw_2 92 rfl rfl
theorem w333 : (Cond.methodLink "PipelinedCoreLaw" 30 ⟨"PipelinedCore", "lines", "(I)Z"⟩) ∈ gw := gw_2 93 rfl rfl
theorem w334 : (Cond.instanceMethod ⟨"PipelinedCore", "lines", "(I)Z"⟩) ∈ gw := gw_2 94 rfl rfl
theorem w335 : (Cond.selects "PipelinedCore" ⟨"PipelinedCore", "lines", "(I)Z"⟩ ⟨"PipelinedCore", "lines", "(I)Z"⟩) ∈ gw := gw_2 95 rfl rfl
theorem w336 : (Cond.code ⟨"PipelinedCore", "lines", "(I)Z"⟩ prog_1_method_4_code 2 (some FieldType.boolean)) ∈ gw := gw_2 96 rfl rfl
theorem w337 : (Cond.methodLink "PipelinedCore" 82 ⟨"PipelinedCore$Controls", "setLines", "(I)Z"⟩) ∈ gw := gw_2 97 rfl rfl
theorem w338 : (Cond.instanceMethod ⟨"PipelinedCore$Controls", "setLines", "(I)Z"⟩) ∈ gw := gw_2 98 rfl rfl
theorem w339 : (Cond.selects "PipelinedCore$Controls" ⟨"PipelinedCore$Controls", "setLines", "(I)Z"⟩ ⟨"PipelinedCore$Controls", "setLines", "(I)Z"⟩) ∈ gw := gw_2 99 rfl rfl
theorem w340 : (Cond.code ⟨"PipelinedCore$Controls", "setLines", "(I)Z"⟩ prog_4_method_5_code 2 (some FieldType.boolean)) ∈ gw := gw_2 100 rfl rfl
theorem w341 : (Cond.methodLink "PipelinedCoreLaw" 35 ⟨"PipelinedCore", "run", "(I)I"⟩) ∈ gw := gw_2 101 rfl rfl
theorem w342 : (Cond.instanceMethod ⟨"PipelinedCore", "run", "(I)I"⟩) ∈ gw := gw_2 102 rfl rfl
theorem w343 : (Cond.selects "PipelinedCore" ⟨"PipelinedCore", "run", "(I)I"⟩ ⟨"PipelinedCore", "run", "(I)I"⟩) ∈ gw := gw_2 103 rfl rfl
theorem w344 : (Cond.code ⟨"PipelinedCore", "run", "(I)I"⟩ prog_1_method_5_code 4 (some FieldType.int)) ∈ gw := gw_2 104 rfl rfl
theorem w345 : (Cond.methodLink "PipelinedCore" 85 ⟨"PipelinedCore", "expect", "(III)V"⟩) ∈ gw := gw_2 105 rfl rfl
theorem w347 : (Cond.instanceMethod ⟨"PipelinedCore", "expect", "(III)V"⟩) ∈ gw := gw_2 107 rfl rfl
theorem w348 : (Cond.code ⟨"PipelinedCore", "expect", "(III)V"⟩ prog_1_method_20_code 5 none) ∈ gw := gw_2 108 rfl rfl
theorem w349 : (Cond.methodLink "PipelinedCore" 272 ⟨"PipelinedCore$Instruction", "decode", "(IZI)V"⟩) ∈ gw := gw_2 109 rfl rfl
theorem w350 : (Cond.instanceMethod ⟨"PipelinedCore$Instruction", "decode", "(IZI)V"⟩) ∈ gw := gw_2 110 rfl rfl
theorem w351 : (Cond.selects "PipelinedCore$Instruction" ⟨"PipelinedCore$Instruction", "decode", "(IZI)V"⟩ ⟨"PipelinedCore$Instruction", "decode", "(IZI)V"⟩) ∈ gw := gw_2 111 rfl rfl
theorem w352 : (Cond.code ⟨"PipelinedCore$Instruction", "decode", "(IZI)V"⟩ prog_9_method_2_code 4 none) ∈ gw := gw_2 112 rfl rfl
theorem w353 : (Cond.methodLink "PipelinedCore" 117 ⟨"PipelinedCore$Foreteller", "foretell", "(II)I"⟩) ∈ gw := gw_2 113 rfl rfl
theorem w354 : (Cond.instanceMethod ⟨"PipelinedCore$Foreteller", "foretell", "(II)I"⟩) ∈ gw := gw_2 114 rfl rfl
theorem w355 : (Cond.selects "PipelinedCore$Foreteller" ⟨"PipelinedCore$Foreteller", "foretell", "(II)I"⟩ ⟨"PipelinedCore$Foreteller", "foretell", "(II)I"⟩) ∈ gw := gw_2 115 rfl rfl
theorem w356 : (Cond.code ⟨"PipelinedCore$Foreteller", "foretell", "(II)I"⟩ prog_7_method_2_code 6 (some FieldType.int)) ∈ gw := gw_2 116 rfl rfl
theorem w357 : (Cond.methodLink "PipelinedCore$Foreteller" 28 ⟨"PipelinedCore$Foreteller", "entryFor", "(I)I"⟩) ∈ gw := gw_2 117 rfl rfl
theorem w358 : (Cond.static ⟨"PipelinedCore$Foreteller", "entryFor", "(I)I"⟩) ∈ gw := gw_2 118 rfl rfl
theorem w359 : (Cond.code ⟨"PipelinedCore$Foreteller", "entryFor", "(I)I"⟩ prog_7_method_4_code 1 (some FieldType.int)) ∈ gw := gw_2 119 rfl rfl
theorem w360 : (Cond.methodLink "PipelinedCore" 241 ⟨"java/lang/Math", "max", "(II)I"⟩) ∈ gw := gw_2 120 rfl rfl
theorem w361 : (Cond.methodLink "PipelinedCore" 276 ⟨"PipelinedCore$Instruction", "uses", "(I)Z"⟩) ∈ gw := gw_2 121 rfl rfl
theorem w362 : (Cond.instanceMethod ⟨"PipelinedCore$Instruction", "uses", "(I)Z"⟩) ∈ gw := gw_2 122 rfl rfl
theorem w363 : (Cond.selects "PipelinedCore$Instruction" ⟨"PipelinedCore$Instruction", "uses", "(I)Z"⟩ ⟨"PipelinedCore$Instruction", "uses", "(I)Z"⟩) ∈ gw := gw_2 123 rfl rfl
theorem w364 : (Cond.code ⟨"PipelinedCore$Instruction", "uses", "(I)Z"⟩ prog_9_method_9_code 2 (some FieldType.boolean)) ∈ gw := gw_2 124 rfl rfl
theorem w365 : (Cond.methodLink "PipelinedCore$Instruction" 39 ⟨"PipelinedCore$Instruction", "usesA", "()Z"⟩) ∈ gw := gw_2 125 rfl rfl
theorem w367 : (Cond.instanceMethod ⟨"PipelinedCore$Instruction", "usesA", "()Z"⟩) ∈ gw := gw_2 127 rfl rfl
theorem w368 : (Cond.code ⟨"PipelinedCore$Instruction", "usesA", "()Z"⟩ prog_9_method_10_code 1 (some FieldType.boolean)) ∈ gw := gw_2 128 rfl rfl
theorem w369 : (Cond.methodLink "PipelinedCore$Instruction" 43 ⟨"PipelinedCore$Instruction", "usesB", "()Z"⟩) ∈ gw := gw_2 129 rfl rfl
theorem w371 : (Cond.instanceMethod ⟨"PipelinedCore$Instruction", "usesB", "()Z"⟩) ∈ gw := gw_2 131 rfl rfl
theorem w372 : (Cond.code ⟨"PipelinedCore$Instruction", "usesB", "()Z"⟩ prog_9_method_11_code 1 (some FieldType.boolean)) ∈ gw := gw_2 132 rfl rfl
theorem w373 : (Cond.methodLink "PipelinedCore" 92 ⟨"PipelinedCore", "makeCycle", "()V"⟩) ∈ gw := gw_2 133 rfl rfl
theorem w375 : (Cond.instanceMethod ⟨"PipelinedCore", "makeCycle", "()V"⟩) ∈ gw := gw_2 135 rfl rfl
theorem w376 : (Cond.code ⟨"PipelinedCore", "makeCycle", "()V"⟩ prog_1_method_13_code 1 none) ∈ gw := gw_2 136 rfl rfl
theorem w377 : (Cond.methodLink "PipelinedCore" 136 ⟨"PipelinedCore", "end", "(LPipelinedCore$Effect;)V"⟩) ∈ gw := gw_2 137 rfl rfl
theorem w379 : (Cond.instanceMethod ⟨"PipelinedCore", "end", "(LPipelinedCore$Effect;)V"⟩) ∈ gw := gw_2 139 rfl rfl
theorem w380 : (Cond.code ⟨"PipelinedCore", "end", "(LPipelinedCore$Effect;)V"⟩ prog_1_method_14_code 2 none) ∈ gw := gw_2 140 rfl rfl
theorem w381 : (Cond.methodLink "PipelinedCore" 161 ⟨"PipelinedCore$Store", "read", "(II)I"⟩) ∈ gw := gw_2 141 rfl rfl
theorem w382 : (Cond.instanceMethod ⟨"PipelinedCore$Store", "read", "(II)I"⟩) ∈ gw := gw_2 142 rfl rfl
theorem w383 : (Cond.selects "PipelinedCore$Store" ⟨"PipelinedCore$Store", "read", "(II)I"⟩ ⟨"PipelinedCore$Store", "read", "(II)I"⟩) ∈ gw := gw_2 143 rfl rfl
theorem w384 : (Cond.code ⟨"PipelinedCore$Store", "read", "(II)I"⟩ prog_10_method_7_code 4 (some FieldType.int)) ∈ gw := gw_2 144 rfl rfl
theorem w385 : (Cond.methodLink "PipelinedCore$Store" 17 ⟨"PipelinedCore$Store", "wordAround", "(I)I"⟩) ∈ gw := gw_2 145 rfl rfl
theorem w386 : (Cond.instanceMethod ⟨"PipelinedCore$Store", "wordAround", "(I)I"⟩) ∈ gw := gw_2 146 rfl rfl
theorem w387 : (Cond.selects "PipelinedCore$Store" ⟨"PipelinedCore$Store", "wordAround", "(I)I"⟩ ⟨"PipelinedCore$Store", "wordAround", "(I)I"⟩) ∈ gw := gw_2 147 rfl rfl
theorem w388 : (Cond.code ⟨"PipelinedCore$Store", "wordAround", "(I)I"⟩ prog_10_method_5_code 2 (some FieldType.int)) ∈ gw := gw_2 148 rfl rfl
theorem w389 : (Cond.methodLink "PipelinedCore$Store" 21 ⟨"PipelinedCore$Store", "bitsBelow", "(I)I"⟩) ∈ gw := gw_2 149 rfl rfl
theorem w390 : (Cond.static ⟨"PipelinedCore$Store", "bitsBelow", "(I)I"⟩) ∈ gw := gw_2 150 rfl rfl
theorem w391 : (Cond.code ⟨"PipelinedCore$Store", "bitsBelow", "(I)I"⟩ prog_10_method_9_code 1 (some FieldType.int)) ∈ gw := gw_2 151 rfl rfl
theorem w392 : (Cond.constant "PipelinedCore$Store" 24 (65535 : Int32)) ∈ gw := gw_2 152 rfl rfl
theorem w393 : (Cond.methodLink "PipelinedCore" 169 ⟨"PipelinedCore$Store", "write", "(III)V"⟩) ∈ gw := gw_2 153 rfl rfl
theorem w394 : (Cond.instanceMethod ⟨"PipelinedCore$Store", "write", "(III)V"⟩) ∈ gw := gw_2 154 rfl rfl
theorem w395 : (Cond.selects "PipelinedCore$Store" ⟨"PipelinedCore$Store", "write", "(III)V"⟩ ⟨"PipelinedCore$Store", "write", "(III)V"⟩) ∈ gw := gw_2 155 rfl rfl
theorem w396 : (Cond.code ⟨"PipelinedCore$Store", "write", "(III)V"⟩ prog_10_method_8_code 7 none) ∈ gw := gw_2 156 rfl rfl
theorem w397 : (Cond.methodLink "PipelinedCore$Store" 25 ⟨"PipelinedCore$Store", "setWord", "(II)V"⟩) ∈ gw := gw_2 157 rfl rfl
theorem w398 : (Cond.methodLink "PipelinedCore" 177 ⟨"PipelinedCore$History", "add", "(II)V"⟩) ∈ gw := gw_2 158 rfl rfl
theorem w399 : (Cond.instanceMethod ⟨"PipelinedCore$History", "add", "(II)V"⟩) ∈ gw := gw_2 159 rfl rfl
theorem w400 : (Cond.selects "PipelinedCore$History" ⟨"PipelinedCore$History", "add", "(II)V"⟩ ⟨"PipelinedCore$History", "add", "(II)V"⟩) ∈ gw := gw_2 160 rfl rfl
theorem w401 : (Cond.code ⟨"PipelinedCore$History", "add", "(II)V"⟩ prog_8_method_2_code 4 none) ∈ gw := gw_2 161 rfl rfl
theorem w402 : (Cond.methodLink "PipelinedCore" 143 ⟨"PipelinedCore", "moveToMemory", "()V"⟩) ∈ gw := gw_2 162 rfl rfl
theorem w404 : (Cond.instanceMethod ⟨"PipelinedCore", "moveToMemory", "()V"⟩) ∈ gw := gw_2 164 rfl rfl
theorem w405 : (Cond.code ⟨"PipelinedCore", "moveToMemory", "()V"⟩ prog_1_method_15_code 2 none) ∈ gw := gw_2 165 rfl rfl
theorem w406 : (Cond.methodLink "PipelinedCore" 149 ⟨"PipelinedCore", "begin", "(LPipelinedCore$Effect;)V"⟩) ∈ gw := gw_2 166 rfl rfl
theorem w408 : (Cond.instanceMethod ⟨"PipelinedCore", "begin", "(LPipelinedCore$Effect;)V"⟩) ∈ gw := gw_2 168 rfl rfl
theorem w409 : (Cond.code ⟨"PipelinedCore", "begin", "(LPipelinedCore$Effect;)V"⟩ prog_1_method_16_code 4 none) ∈ gw := gw_2 169 rfl rfl
theorem w410 : (Cond.methodLink "PipelinedCore" 181 ⟨"PipelinedCore$Effect", "reset", "(I)V"⟩) ∈ gw := gw_2 170 rfl rfl
theorem w411 : (Cond.instanceMethod ⟨"PipelinedCore$Effect", "reset", "(I)V"⟩) ∈ gw := gw_2 171 rfl rfl
theorem w412 : (Cond.selects "PipelinedCore$Effect" ⟨"PipelinedCore$Effect", "reset", "(I)V"⟩ ⟨"PipelinedCore$Effect", "reset", "(I)V"⟩) ∈ gw := gw_2 172 rfl rfl
theorem w413 : (Cond.code ⟨"PipelinedCore$Effect", "reset", "(I)V"⟩ prog_5_method_2_code 2 none) ∈ gw := gw_2 173 rfl rfl
theorem w414 : (Cond.methodLink "PipelinedCore" 184 ⟨"PipelinedCore$Controls", "dueLine", "()I"⟩) ∈ gw := gw_2 174 rfl rfl
theorem w415 : (Cond.instanceMethod ⟨"PipelinedCore$Controls", "dueLine", "()I"⟩) ∈ gw := gw_2 175 rfl rfl
theorem w416 : (Cond.selects "PipelinedCore$Controls" ⟨"PipelinedCore$Controls", "dueLine", "()I"⟩ ⟨"PipelinedCore$Controls", "dueLine", "()I"⟩) ∈ gw := gw_2 176 rfl rfl
theorem w417 : (Cond.code ⟨"PipelinedCore$Controls", "dueLine", "()I"⟩ prog_4_method_6_code 2 (some FieldType.int)) ∈ gw := gw_2 177 rfl rfl
theorem w418 : (Cond.methodLink "PipelinedCore" 188 ⟨"PipelinedCore$Controls", "enterInterrupt", "(II)I"⟩) ∈ gw := gw_2 178 rfl rfl
theorem w419 : (Cond.instanceMethod ⟨"PipelinedCore$Controls", "enterInterrupt", "(II)I"⟩) ∈ gw := gw_2 179 rfl rfl
theorem w420 : (Cond.selects "PipelinedCore$Controls" ⟨"PipelinedCore$Controls", "enterInterrupt", "(II)I"⟩ ⟨"PipelinedCore$Controls", "enterInterrupt", "(II)I"⟩) ∈ gw := gw_2 180 rfl rfl
theorem w421 : (Cond.code ⟨"PipelinedCore$Controls", "enterInterrupt", "(II)I"⟩ prog_4_method_7_code 4 (some FieldType.int)) ∈ gw := gw_2 181 rfl rfl
theorem w422 : (Cond.constant "PipelinedCore$Controls" 34 (-2147483648 : Int32)) ∈ gw := gw_2 182 rfl rfl
theorem w423 : (Cond.methodLink "PipelinedCore$Controls" 35 ⟨"PipelinedCore$Controls", "enterTrap", "(III)I"⟩) ∈ gw := gw_2 183 rfl rfl
theorem w424 : (Cond.instanceMethod ⟨"PipelinedCore$Controls", "enterTrap", "(III)I"⟩) ∈ gw := gw_2 184 rfl rfl
theorem w425 : (Cond.selects "PipelinedCore$Controls" ⟨"PipelinedCore$Controls", "enterTrap", "(III)I"⟩ ⟨"PipelinedCore$Controls", "enterTrap", "(III)I"⟩) ∈ gw := gw_2 185 rfl rfl
theorem w426 : (Cond.code ⟨"PipelinedCore$Controls", "enterTrap", "(III)I"⟩ prog_4_method_8_code 4 (some FieldType.int)) ∈ gw := gw_2 186 rfl rfl
theorem w427 : (Cond.methodLink "PipelinedCore" 197 ⟨"PipelinedCore", "operand", "(I)I"⟩) ∈ gw := gw_2 187 rfl rfl
theorem w429 : (Cond.instanceMethod ⟨"PipelinedCore", "operand", "(I)I"⟩) ∈ gw := gw_2 189 rfl rfl
theorem w430 : (Cond.code ⟨"PipelinedCore", "operand", "(I)I"⟩ prog_1_method_17_code 3 (some FieldType.int)) ∈ gw := gw_2 190 rfl rfl
theorem w431 : (Cond.methodLink "PipelinedCore" 203 ⟨"PipelinedCore$Execution", "perform", "(LPipelinedCore$Instruction;IILPipelinedCore$Controls;LPipelinedCore$Effect;)V"⟩) ∈ gw := gw_2 191 rfl rfl
theorem w432 : (Cond.static ⟨"PipelinedCore$Execution", "perform", "(LPipelinedCore$Instruction;IILPipelinedCore$Controls;LPipelinedCore$Effect;)V"⟩) ∈ gw := gw_2 192 rfl rfl
theorem w433 : (Cond.code ⟨"PipelinedCore$Execution", "perform", "(LPipelinedCore$Instruction;IILPipelinedCore$Controls;LPipelinedCore$Effect;)V"⟩ prog_6_method_2_code 5 none) ∈ gw := gw_2 193 rfl rfl
theorem w434 : (Cond.methodLink "PipelinedCore$Execution" 16 ⟨"PipelinedCore$Instruction", "numberU", "()I"⟩) ∈ gw := gw_2 194 rfl rfl
theorem w435 : (Cond.instanceMethod ⟨"PipelinedCore$Instruction", "numberU", "()I"⟩) ∈ gw := gw_2 195 rfl rfl
theorem w436 : (Cond.selects "PipelinedCore$Instruction" ⟨"PipelinedCore$Instruction", "numberU", "()I"⟩ ⟨"PipelinedCore$Instruction", "numberU", "()I"⟩) ∈ gw := gw_2 196 rfl rfl
theorem w437 : (Cond.code ⟨"PipelinedCore$Instruction", "numberU", "()I"⟩ prog_9_method_6_code 1 (some FieldType.int)) ∈ gw := gw_2 197 rfl rfl
theorem w438 : (Cond.methodLink "PipelinedCore$Execution" 20 ⟨"PipelinedCore$Effect", "setRegister", "(II)V"⟩) ∈ gw := gw_2 198 rfl rfl
theorem w439 : (Cond.instanceMethod ⟨"PipelinedCore$Effect", "setRegister", "(II)V"⟩) ∈ gw := gw_2 199 rfl rfl
theorem w440 : (Cond.selects "PipelinedCore$Effect" ⟨"PipelinedCore$Effect", "setRegister", "(II)V"⟩ ⟨"PipelinedCore$Effect", "setRegister", "(II)V"⟩) ∈ gw := gw_2 200 rfl rfl
theorem w441 : (Cond.code ⟨"PipelinedCore$Effect", "setRegister", "(II)V"⟩ prog_5_method_3_code 3 none) ∈ gw := gw_2 201 rfl rfl
theorem w442 : (Cond.methodLink "PipelinedCore$Execution" 29 ⟨"PipelinedCore$Instruction", "numberJ", "()I"⟩) ∈ gw := gw_2 202 rfl rfl
theorem w443 : (Cond.instanceMethod ⟨"PipelinedCore$Instruction", "numberJ", "()I"⟩) ∈ gw := gw_2 203 rfl rfl
theorem w444 : (Cond.selects "PipelinedCore$Instruction" ⟨"PipelinedCore$Instruction", "numberJ", "()I"⟩ ⟨"PipelinedCore$Instruction", "numberJ", "()I"⟩) ∈ gw := gw_2 204 rfl rfl
theorem w445 : (Cond.code ⟨"PipelinedCore$Instruction", "numberJ", "()I"⟩ prog_9_method_7_code 1 (some FieldType.int)) ∈ gw := gw_2 205 rfl rfl
theorem w446 : (Cond.constant "PipelinedCore$Instruction" 38 (1044480 : Int32)) ∈ gw := gw_2 206 rfl rfl
theorem w447 : (Cond.methodLink "PipelinedCore$Execution" 32 ⟨"PipelinedCore$Execution", "jump", "(LPipelinedCore$Instruction;ILPipelinedCore$Effect;)V"⟩) ∈ gw := gw_2 207 rfl rfl
theorem w448 : (Cond.static ⟨"PipelinedCore$Execution", "jump", "(LPipelinedCore$Instruction;ILPipelinedCore$Effect;)V"⟩) ∈ gw := gw_2 208 rfl rfl
theorem w449 : (Cond.code ⟨"PipelinedCore$Execution", "jump", "(LPipelinedCore$Instruction;ILPipelinedCore$Effect;)V"⟩ prog_6_method_4_code 3 none) ∈ gw := gw_2 209 rfl rfl
theorem w450 : (Cond.methodLink "PipelinedCore$Execution" 81 ⟨"PipelinedCore$Effect", "jump", "(I)V"⟩) ∈ gw := gw_2 210 rfl rfl
theorem w451 : (Cond.instanceMethod ⟨"PipelinedCore$Effect", "jump", "(I)V"⟩) ∈ gw := gw_2 211 rfl rfl
theorem w452 : (Cond.selects "PipelinedCore$Effect" ⟨"PipelinedCore$Effect", "jump", "(I)V"⟩ ⟨"PipelinedCore$Effect", "jump", "(I)V"⟩) ∈ gw := gw_2 212 rfl rfl
theorem w453 : (Cond.code ⟨"PipelinedCore$Effect", "jump", "(I)V"⟩ prog_5_method_5_code 2 none) ∈ gw := gw_2 213 rfl rfl
theorem w454 : (Cond.methodLink "PipelinedCore$Effect" 47 ⟨"PipelinedCore$Effect", "trap", "(II)V"⟩) ∈ gw := gw_2 214 rfl rfl
theorem w455 : (Cond.instanceMethod ⟨"PipelinedCore$Effect", "trap", "(II)V"⟩) ∈ gw := gw_2 215 rfl rfl
theorem w456 : (Cond.selects "PipelinedCore$Effect" ⟨"PipelinedCore$Effect", "trap", "(II)V"⟩ ⟨"PipelinedCore$Effect", "trap", "(II)V"⟩) ∈ gw := gw_2 216 rfl rfl
theorem w457 : (Cond.code ⟨"PipelinedCore$Effect", "trap", "(II)V"⟩ prog_5_method_4_code 3 none) ∈ gw := gw_2 217 rfl rfl
theorem w458 : (Cond.methodLink "PipelinedCore$Execution" 41 ⟨"PipelinedCore$Instruction", "numberI", "()I"⟩) ∈ gw := gw_2 218 rfl rfl
theorem w459 : (Cond.instanceMethod ⟨"PipelinedCore$Instruction", "numberI", "()I"⟩) ∈ gw := gw_2 219 rfl rfl
theorem w460 : (Cond.selects "PipelinedCore$Instruction" ⟨"PipelinedCore$Instruction", "numberI", "()I"⟩ ⟨"PipelinedCore$Instruction", "numberI", "()I"⟩) ∈ gw := gw_2 220 rfl rfl
theorem w461 : (Cond.code ⟨"PipelinedCore$Instruction", "numberI", "()I"⟩ prog_9_method_3_code 1 (some FieldType.int)) ∈ gw := gw_2 221 rfl rfl
theorem w462 : (Cond.methodLink "PipelinedCore$Execution" 44 ⟨"PipelinedCore$Execution", "refuse", "(LPipelinedCore$Instruction;LPipelinedCore$Effect;)V"⟩) ∈ gw := gw_2 222 rfl rfl
theorem w463 : (Cond.static ⟨"PipelinedCore$Execution", "refuse", "(LPipelinedCore$Instruction;LPipelinedCore$Effect;)V"⟩) ∈ gw := gw_2 223 rfl rfl
theorem w464 : (Cond.code ⟨"PipelinedCore$Execution", "refuse", "(LPipelinedCore$Instruction;LPipelinedCore$Effect;)V"⟩ prog_6_method_3_code 2 none) ∈ gw := gw_2 224 rfl rfl
theorem w465 : (Cond.methodLink "PipelinedCore$Execution" 78 ⟨"PipelinedCore$Effect", "trap", "(II)V"⟩) ∈ gw := gw_2 225 rfl rfl
theorem w466 : (Cond.methodLink "PipelinedCore$Execution" 48 ⟨"PipelinedCore$Execution", "branch", "(LPipelinedCore$Instruction;IILPipelinedCore$Effect;)V"⟩) ∈ gw := gw_2 226 rfl rfl
theorem w467 : (Cond.static ⟨"PipelinedCore$Execution", "branch", "(LPipelinedCore$Instruction;IILPipelinedCore$Effect;)V"⟩) ∈ gw := gw_2 227 rfl rfl
theorem w468 : (Cond.code ⟨"PipelinedCore$Execution", "branch", "(LPipelinedCore$Instruction;IILPipelinedCore$Effect;)V"⟩ prog_6_method_5_code 4 none) ∈ gw := gw_2 228 rfl rfl
theorem w469 : (Cond.methodLink "PipelinedCore$Execution" 84 ⟨"PipelinedCore$Execution", "conditionHolds", "(III)Z"⟩) ∈ gw := gw_2 229 rfl rfl
theorem w470 : (Cond.static ⟨"PipelinedCore$Execution", "conditionHolds", "(III)Z"⟩) ∈ gw := gw_2 230 rfl rfl
theorem w471 : (Cond.code ⟨"PipelinedCore$Execution", "conditionHolds", "(III)Z"⟩ prog_6_method_6_code 3 (some FieldType.boolean)) ∈ gw := gw_2 231 rfl rfl
theorem w472 : (Cond.methodLink "PipelinedCore$Execution" 91 ⟨"PipelinedCore$Arithmetic", "lessWithoutSigns", "(II)Z"⟩) ∈ gw := gw_2 232 rfl rfl
theorem w473 : (Cond.static ⟨"PipelinedCore$Arithmetic", "lessWithoutSigns", "(II)Z"⟩) ∈ gw := gw_2 233 rfl rfl
theorem w474 : (Cond.code ⟨"PipelinedCore$Arithmetic", "lessWithoutSigns", "(II)Z"⟩ prog_2_method_2_code 2 (some FieldType.boolean)) ∈ gw := gw_2 234 rfl rfl
theorem w475 : (Cond.constantLong "PipelinedCore$Arithmetic" 9 (4294967295 : Int64)) ∈ gw := gw_2 235 rfl rfl
theorem w476 : (Cond.methodLink "PipelinedCore$Execution" 88 ⟨"PipelinedCore$Instruction", "numberB", "()I"⟩) ∈ gw := gw_2 236 rfl rfl
theorem w477 : (Cond.instanceMethod ⟨"PipelinedCore$Instruction", "numberB", "()I"⟩) ∈ gw := gw_2 237 rfl rfl
theorem w478 : (Cond.selects "PipelinedCore$Instruction" ⟨"PipelinedCore$Instruction", "numberB", "()I"⟩ ⟨"PipelinedCore$Instruction", "numberB", "()I"⟩) ∈ gw := gw_2 238 rfl rfl
theorem w479 : (Cond.code ⟨"PipelinedCore$Instruction", "numberB", "()I"⟩ prog_9_method_5_code 1 (some FieldType.int)) ∈ gw := gw_2 239 rfl rfl
theorem w480 : (Cond.methodLink "PipelinedCore$Execution" 52 ⟨"PipelinedCore$Execution", "read", "(LPipelinedCore$Instruction;ILPipelinedCore$Effect;)V"⟩) ∈ gw := gw_3 0 rfl rfl
theorem w481 : (Cond.static ⟨"PipelinedCore$Execution", "read", "(LPipelinedCore$Instruction;ILPipelinedCore$Effect;)V"⟩) ∈ gw := gw_3 1 rfl rfl
theorem w482 : (Cond.code ⟨"PipelinedCore$Execution", "read", "(LPipelinedCore$Instruction;ILPipelinedCore$Effect;)V"⟩ prog_6_method_7_code 3 none) ∈ gw := gw_3 2 rfl rfl
theorem w483 : (Cond.methodLink "PipelinedCore$Execution" 97 ⟨"PipelinedCore$Store", "isStraight", "(II)Z"⟩) ∈ gw := gw_3 3 rfl rfl
theorem w484 : (Cond.static ⟨"PipelinedCore$Store", "isStraight", "(II)Z"⟩) ∈ gw := gw_3 4 rfl rfl
theorem w485 : (Cond.code ⟨"PipelinedCore$Store", "isStraight", "(II)Z"⟩ prog_10_method_4_code 2 (some FieldType.boolean)) ∈ gw := gw_3 5 rfl rfl
theorem w486 : (Cond.methodLink "PipelinedCore$Execution" 102 ⟨"PipelinedCore$Store", "has", "(I)Z"⟩) ∈ gw := gw_3 6 rfl rfl
theorem w487 : (Cond.methodLink "PipelinedCore$Execution" 55 ⟨"PipelinedCore$Instruction", "numberS", "()I"⟩) ∈ gw := gw_3 7 rfl rfl
theorem w488 : (Cond.instanceMethod ⟨"PipelinedCore$Instruction", "numberS", "()I"⟩) ∈ gw := gw_3 8 rfl rfl
theorem w489 : (Cond.selects "PipelinedCore$Instruction" ⟨"PipelinedCore$Instruction", "numberS", "()I"⟩ ⟨"PipelinedCore$Instruction", "numberS", "()I"⟩) ∈ gw := gw_3 9 rfl rfl
theorem w490 : (Cond.code ⟨"PipelinedCore$Instruction", "numberS", "()I"⟩ prog_9_method_4_code 1 (some FieldType.int)) ∈ gw := gw_3 10 rfl rfl
theorem w491 : (Cond.methodLink "PipelinedCore$Execution" 58 ⟨"PipelinedCore$Execution", "write", "(LPipelinedCore$Instruction;IILPipelinedCore$Effect;)V"⟩) ∈ gw := gw_3 11 rfl rfl
theorem w492 : (Cond.static ⟨"PipelinedCore$Execution", "write", "(LPipelinedCore$Instruction;IILPipelinedCore$Effect;)V"⟩) ∈ gw := gw_3 12 rfl rfl
theorem w493 : (Cond.code ⟨"PipelinedCore$Execution", "write", "(LPipelinedCore$Instruction;IILPipelinedCore$Effect;)V"⟩ prog_6_method_8_code 4 none) ∈ gw := gw_3 13 rfl rfl
theorem w494 : (Cond.methodLink "PipelinedCore$Execution" 61 ⟨"PipelinedCore$Execution", "computeWithNumber", "(LPipelinedCore$Instruction;ILPipelinedCore$Effect;)V"⟩) ∈ gw := gw_3 14 rfl rfl
theorem w495 : (Cond.static ⟨"PipelinedCore$Execution", "computeWithNumber", "(LPipelinedCore$Instruction;ILPipelinedCore$Effect;)V"⟩) ∈ gw := gw_3 15 rfl rfl
theorem w496 : (Cond.code ⟨"PipelinedCore$Execution", "computeWithNumber", "(LPipelinedCore$Instruction;ILPipelinedCore$Effect;)V"⟩ prog_6_method_9_code 4 none) ∈ gw := gw_3 16 rfl rfl
theorem w497 : (Cond.methodLink "PipelinedCore$Execution" 122 ⟨"PipelinedCore$Arithmetic", "plain", "(III)I"⟩) ∈ gw := gw_3 17 rfl rfl
theorem w498 : (Cond.static ⟨"PipelinedCore$Arithmetic", "plain", "(III)I"⟩) ∈ gw := gw_3 18 rfl rfl
theorem w499 : (Cond.code ⟨"PipelinedCore$Arithmetic", "plain", "(III)I"⟩ prog_2_method_3_code 3 (some FieldType.int)) ∈ gw := gw_3 19 rfl rfl
theorem w500 : (Cond.methodLink "PipelinedCore$Arithmetic" 11 ⟨"PipelinedCore$Arithmetic", "lessWithoutSigns", "(II)Z"⟩) ∈ gw := gw_3 20 rfl rfl
theorem w501 : (Cond.methodLink "PipelinedCore$Execution" 64 ⟨"PipelinedCore$Execution", "computeWithRegister", "(LPipelinedCore$Instruction;IILPipelinedCore$Effect;)V"⟩) ∈ gw := gw_3 21 rfl rfl
theorem w502 : (Cond.static ⟨"PipelinedCore$Execution", "computeWithRegister", "(LPipelinedCore$Instruction;IILPipelinedCore$Effect;)V"⟩) ∈ gw := gw_3 22 rfl rfl
theorem w503 : (Cond.code ⟨"PipelinedCore$Execution", "computeWithRegister", "(LPipelinedCore$Instruction;IILPipelinedCore$Effect;)V"⟩ prog_6_method_10_code 4 none) ∈ gw := gw_3 23 rfl rfl
theorem w504 : (Cond.methodLink "PipelinedCore$Execution" 132 ⟨"PipelinedCore$Arithmetic", "product", "(III)I"⟩) ∈ gw := gw_3 24 rfl rfl
theorem w505 : (Cond.static ⟨"PipelinedCore$Arithmetic", "product", "(III)I"⟩) ∈ gw := gw_3 25 rfl rfl
theorem w506 : (Cond.code ⟨"PipelinedCore$Arithmetic", "product", "(III)I"⟩ prog_2_method_4_code 3 (some FieldType.int)) ∈ gw := gw_3 26 rfl rfl
theorem w507 : (Cond.methodLink "PipelinedCore$Execution" 135 ⟨"PipelinedCore$Arithmetic", "quotient", "(III)I"⟩) ∈ gw := gw_3 27 rfl rfl
theorem w508 : (Cond.static ⟨"PipelinedCore$Arithmetic", "quotient", "(III)I"⟩) ∈ gw := gw_3 28 rfl rfl
theorem w509 : (Cond.code ⟨"PipelinedCore$Arithmetic", "quotient", "(III)I"⟩ prog_2_method_5_code 3 (some FieldType.int)) ∈ gw := gw_3 29 rfl rfl
theorem w510 : (Cond.methodLink "PipelinedCore$Execution" 67 ⟨"PipelinedCore$Execution", "doWholeWord", "(LPipelinedCore$Instruction;LPipelinedCore$Controls;LPipelinedCore$Effect;)V"⟩) ∈ gw := gw_3 30 rfl rfl
theorem w511 : (Cond.static ⟨"PipelinedCore$Execution", "doWholeWord", "(LPipelinedCore$Instruction;LPipelinedCore$Controls;LPipelinedCore$Effect;)V"⟩) ∈ gw := gw_3 31 rfl rfl
theorem w512 : (Cond.code ⟨"PipelinedCore$Execution", "doWholeWord", "(LPipelinedCore$Instruction;LPipelinedCore$Controls;LPipelinedCore$Effect;)V"⟩ prog_6_method_11_code 3 none) ∈ gw := gw_3 32 rfl rfl
theorem w513 : (Cond.methodLink "PipelinedCore$Execution" 142 ⟨"PipelinedCore$Controls", "leaveTrap", "()I"⟩) ∈ gw := gw_3 33 rfl rfl
theorem w514 : (Cond.instanceMethod ⟨"PipelinedCore$Controls", "leaveTrap", "()I"⟩) ∈ gw := gw_3 34 rfl rfl
theorem w515 : (Cond.selects "PipelinedCore$Controls" ⟨"PipelinedCore$Controls", "leaveTrap", "()I"⟩ ⟨"PipelinedCore$Controls", "leaveTrap", "()I"⟩) ∈ gw := gw_3 35 rfl rfl
theorem w516 : (Cond.code ⟨"PipelinedCore$Controls", "leaveTrap", "()I"⟩ prog_4_method_9_code 1 (some FieldType.int)) ∈ gw := gw_3 36 rfl rfl
theorem w517 : (Cond.methodLink "PipelinedCore$Execution" 71 ⟨"PipelinedCore$Execution", "useControl", "(LPipelinedCore$Instruction;ILPipelinedCore$Controls;LPipelinedCore$Effect;)V"⟩) ∈ gw := gw_3 37 rfl rfl
theorem w518 : (Cond.static ⟨"PipelinedCore$Execution", "useControl", "(LPipelinedCore$Instruction;ILPipelinedCore$Controls;LPipelinedCore$Effect;)V"⟩) ∈ gw := gw_3 38 rfl rfl
theorem w519 : (Cond.code ⟨"PipelinedCore$Execution", "useControl", "(LPipelinedCore$Instruction;ILPipelinedCore$Controls;LPipelinedCore$Effect;)V"⟩ prog_6_method_12_code 7 none) ∈ gw := gw_3 39 rfl rfl
theorem w520 : (Cond.methodLink "PipelinedCore$Execution" 150 ⟨"PipelinedCore$Controls", "has", "(I)Z"⟩) ∈ gw := gw_3 40 rfl rfl
theorem w521 : (Cond.static ⟨"PipelinedCore$Controls", "has", "(I)Z"⟩) ∈ gw := gw_3 41 rfl rfl
theorem w522 : (Cond.code ⟨"PipelinedCore$Controls", "has", "(I)Z"⟩ prog_4_method_2_code 1 (some FieldType.boolean)) ∈ gw := gw_3 42 rfl rfl
theorem w523 : (Cond.methodLink "PipelinedCore$Execution" 151 ⟨"PipelinedCore$Controls", "read", "(I)I"⟩) ∈ gw := gw_3 43 rfl rfl
theorem w524 : (Cond.instanceMethod ⟨"PipelinedCore$Controls", "read", "(I)I"⟩) ∈ gw := gw_3 44 rfl rfl
theorem w525 : (Cond.selects "PipelinedCore$Controls" ⟨"PipelinedCore$Controls", "read", "(I)I"⟩ ⟨"PipelinedCore$Controls", "read", "(I)I"⟩) ∈ gw := gw_3 45 rfl rfl
theorem w526 : (Cond.code ⟨"PipelinedCore$Controls", "read", "(I)I"⟩ prog_4_method_3_code 2 (some FieldType.int)) ∈ gw := gw_3 46 rfl rfl
theorem w527 : (Cond.methodLink "PipelinedCore$Execution" 157 ⟨"PipelinedCore$Controls", "write", "(II)V"⟩) ∈ gw := gw_3 47 rfl rfl
theorem w528 : (Cond.instanceMethod ⟨"PipelinedCore$Controls", "write", "(II)V"⟩) ∈ gw := gw_3 48 rfl rfl
theorem w529 : (Cond.selects "PipelinedCore$Controls" ⟨"PipelinedCore$Controls", "write", "(II)V"⟩ ⟨"PipelinedCore$Controls", "write", "(II)V"⟩) ∈ gw := gw_3 49 rfl rfl
theorem w530 : (Cond.code ⟨"PipelinedCore$Controls", "write", "(II)V"⟩ prog_4_method_4_code 3 none) ∈ gw := gw_3 50 rfl rfl
theorem w531 : (Cond.methodLink "PipelinedCore" 209 ⟨"PipelinedCore$Effect", "trap", "(II)V"⟩) ∈ gw := gw_3 51 rfl rfl
theorem w532 : (Cond.methodLink "PipelinedCore" 221 ⟨"PipelinedCore$Controls", "enterTrap", "(III)I"⟩) ∈ gw := gw_3 52 rfl rfl
theorem w533 : (Cond.methodLink "PipelinedCore" 225 ⟨"PipelinedCore", "setTimes", "(LPipelinedCore$Effect;)V"⟩) ∈ gw := gw_3 53 rfl rfl
theorem w535 : (Cond.instanceMethod ⟨"PipelinedCore", "setTimes", "(LPipelinedCore$Effect;)V"⟩) ∈ gw := gw_3 55 rfl rfl
theorem w536 : (Cond.code ⟨"PipelinedCore", "setTimes", "(LPipelinedCore$Effect;)V"⟩ prog_1_method_18_code 3 none) ∈ gw := gw_3 56 rfl rfl
theorem w537 : (Cond.methodLink "PipelinedCore" 231 ⟨"PipelinedCore$Cache", "visit", "(IZ)I"⟩) ∈ gw := gw_3 57 rfl rfl
theorem w538 : (Cond.instanceMethod ⟨"PipelinedCore$Cache", "visit", "(IZ)I"⟩) ∈ gw := gw_3 58 rfl rfl
theorem w539 : (Cond.selects "PipelinedCore$Cache" ⟨"PipelinedCore$Cache", "visit", "(IZ)I"⟩ ⟨"PipelinedCore$Cache", "visit", "(IZ)I"⟩) ∈ gw := gw_3 59 rfl rfl
theorem w540 : (Cond.code ⟨"PipelinedCore$Cache", "visit", "(IZ)I"⟩ prog_3_method_2_code 6 (some FieldType.int)) ∈ gw := gw_3 60 rfl rfl
theorem w541 : (Cond.methodLink "PipelinedCore" 228 ⟨"PipelinedCore", "goOn", "(LPipelinedCore$Effect;)V"⟩) ∈ gw := gw_3 61 rfl rfl
theorem w543 : (Cond.instanceMethod ⟨"PipelinedCore", "goOn", "(LPipelinedCore$Effect;)V"⟩) ∈ gw := gw_3 63 rfl rfl
theorem w544 : (Cond.code ⟨"PipelinedCore", "goOn", "(LPipelinedCore$Effect;)V"⟩ prog_1_method_19_code 4 none) ∈ gw := gw_3 64 rfl rfl
theorem w545 : (Cond.methodLink "PipelinedCore" 255 ⟨"PipelinedCore$Instruction", "mayJump", "()Z"⟩) ∈ gw := gw_3 65 rfl rfl
theorem w546 : (Cond.instanceMethod ⟨"PipelinedCore$Instruction", "mayJump", "()Z"⟩) ∈ gw := gw_3 66 rfl rfl
theorem w547 : (Cond.selects "PipelinedCore$Instruction" ⟨"PipelinedCore$Instruction", "mayJump", "()Z"⟩ ⟨"PipelinedCore$Instruction", "mayJump", "()Z"⟩) ∈ gw := gw_3 67 rfl rfl
theorem w548 : (Cond.code ⟨"PipelinedCore$Instruction", "mayJump", "()Z"⟩ prog_9_method_8_code 1 (some FieldType.boolean)) ∈ gw := gw_3 68 rfl rfl
theorem w549 : (Cond.methodLink "PipelinedCore" 262 ⟨"PipelinedCore$Foreteller", "learn", "(IZII)V"⟩) ∈ gw := gw_3 69 rfl rfl
theorem w550 : (Cond.instanceMethod ⟨"PipelinedCore$Foreteller", "learn", "(IZII)V"⟩) ∈ gw := gw_3 70 rfl rfl
theorem w551 : (Cond.selects "PipelinedCore$Foreteller" ⟨"PipelinedCore$Foreteller", "learn", "(IZII)V"⟩ ⟨"PipelinedCore$Foreteller", "learn", "(IZII)V"⟩) ∈ gw := gw_3 71 rfl rfl
theorem w552 : (Cond.code ⟨"PipelinedCore$Foreteller", "learn", "(IZII)V"⟩ prog_7_method_3_code 7 none) ∈ gw := gw_3 72 rfl rfl
theorem w553 : (Cond.methodLink "PipelinedCore$Foreteller" 32 ⟨"PipelinedCore$Foreteller", "keepEarlier", "(I)V"⟩) ∈ gw := gw_3 73 rfl rfl
theorem w555 : (Cond.instanceMethod ⟨"PipelinedCore$Foreteller", "keepEarlier", "(I)V"⟩) ∈ gw := gw_3 75 rfl rfl
theorem w556 : (Cond.code ⟨"PipelinedCore$Foreteller", "keepEarlier", "(I)V"⟩ prog_7_method_5_code 3 none) ∈ gw := gw_3 76 rfl rfl
theorem w557 : (Cond.methodLink "PipelinedCore$Foreteller" 36 ⟨"java/lang/Math", "max", "(II)I"⟩) ∈ gw := gw_3 77 rfl rfl
theorem w558 : (Cond.methodLink "PipelinedCore$Foreteller" 42 ⟨"java/lang/Math", "min", "(II)I"⟩) ∈ gw := gw_3 78 rfl rfl
theorem w559 : (Cond.methodLink "PipelinedCoreLaw" 40 ⟨"PipelinedCore", "reg", "(I)I"⟩) ∈ gw := gw_3 79 rfl rfl
theorem w560 : (Cond.instanceMethod ⟨"PipelinedCore", "reg", "(I)I"⟩) ∈ gw := gw_3 80 rfl rfl
theorem w561 : (Cond.selects "PipelinedCore" ⟨"PipelinedCore", "reg", "(I)I"⟩ ⟨"PipelinedCore", "reg", "(I)I"⟩) ∈ gw := gw_3 81 rfl rfl
theorem w562 : (Cond.code ⟨"PipelinedCore", "reg", "(I)I"⟩ prog_1_method_6_code 2 (some FieldType.int)) ∈ gw := gw_3 82 rfl rfl
theorem w563 : (Cond.methodLink "PipelinedCoreLaw" 44 ⟨"PipelinedCore", "control", "(I)I"⟩) ∈ gw := gw_3 83 rfl rfl
theorem w564 : (Cond.instanceMethod ⟨"PipelinedCore", "control", "(I)I"⟩) ∈ gw := gw_3 84 rfl rfl
theorem w565 : (Cond.selects "PipelinedCore" ⟨"PipelinedCore", "control", "(I)I"⟩ ⟨"PipelinedCore", "control", "(I)I"⟩) ∈ gw := gw_3 85 rfl rfl
theorem w566 : (Cond.code ⟨"PipelinedCore", "control", "(I)I"⟩ prog_1_method_7_code 2 (some FieldType.int)) ∈ gw := gw_3 86 rfl rfl
theorem w567 : (Cond.methodLink "PipelinedCore" 95 ⟨"PipelinedCore$Controls", "read", "(I)I"⟩) ∈ gw := gw_3 87 rfl rfl
theorem w568 : (Cond.methodLink "PipelinedCoreLaw" 48 ⟨"PipelinedCore", "word", "(I)I"⟩) ∈ gw := gw_3 88 rfl rfl
theorem w569 : (Cond.instanceMethod ⟨"PipelinedCore", "word", "(I)I"⟩) ∈ gw := gw_3 89 rfl rfl
theorem w570 : (Cond.selects "PipelinedCore" ⟨"PipelinedCore", "word", "(I)I"⟩ ⟨"PipelinedCore", "word", "(I)I"⟩) ∈ gw := gw_3 90 rfl rfl
theorem w571 : (Cond.code ⟨"PipelinedCore", "word", "(I)I"⟩ prog_1_method_8_code 2 (some FieldType.int)) ∈ gw := gw_3 91 rfl rfl
theorem w572 : (Cond.methodLink "PipelinedCore" 99 ⟨"PipelinedCore$Store", "wordAround", "(I)I"⟩) ∈ gw := gw_3 92 rfl rfl
theorem w573 : (Cond.methodLink "PipelinedCoreLaw" 52 ⟨"PipelinedCore", "ended", "(II)I"⟩) ∈ gw := gw_3 93 rfl rfl
theorem w574 : (Cond.instanceMethod ⟨"PipelinedCore", "ended", "(II)I"⟩) ∈ gw := gw_3 94 rfl rfl
theorem w575 : (Cond.selects "PipelinedCore" ⟨"PipelinedCore", "ended", "(II)I"⟩ ⟨"PipelinedCore", "ended", "(II)I"⟩) ∈ gw := gw_3 95 rfl rfl
theorem w576 : (Cond.code ⟨"PipelinedCore", "ended", "(II)I"⟩ prog_1_method_9_code 3 (some FieldType.int)) ∈ gw := gw_3 96 rfl rfl
theorem w577 : (Cond.methodLink "PipelinedCore" 102 ⟨"PipelinedCore$History", "has", "(I)Z"⟩) ∈ gw := gw_3 97 rfl rfl
theorem w578 : (Cond.instanceMethod ⟨"PipelinedCore$History", "has", "(I)Z"⟩) ∈ gw := gw_3 98 rfl rfl
theorem w579 : (Cond.selects "PipelinedCore$History" ⟨"PipelinedCore$History", "has", "(I)Z"⟩ ⟨"PipelinedCore$History", "has", "(I)Z"⟩) ∈ gw := gw_3 99 rfl rfl
theorem w580 : (Cond.code ⟨"PipelinedCore$History", "has", "(I)Z"⟩ prog_8_method_3_code 2 (some FieldType.boolean)) ∈ gw := gw_3 100 rfl rfl
theorem w581 : (Cond.methodLink "PipelinedCore" 105 ⟨"PipelinedCore$History", "address", "(I)I"⟩) ∈ gw := gw_3 101 rfl rfl
theorem w582 : (Cond.instanceMethod ⟨"PipelinedCore$History", "address", "(I)I"⟩) ∈ gw := gw_3 102 rfl rfl
theorem w583 : (Cond.selects "PipelinedCore$History" ⟨"PipelinedCore$History", "address", "(I)I"⟩ ⟨"PipelinedCore$History", "address", "(I)I"⟩) ∈ gw := gw_3 103 rfl rfl
theorem w584 : (Cond.code ⟨"PipelinedCore$History", "address", "(I)I"⟩ prog_8_method_4_code 2 (some FieldType.int)) ∈ gw := gw_3 104 rfl rfl
theorem w585 : (Cond.methodLink "PipelinedCore$History" 20 ⟨"PipelinedCore$History", "placeOf", "(I)I"⟩) ∈ gw := gw_3 105 rfl rfl
theorem w587 : (Cond.instanceMethod ⟨"PipelinedCore$History", "placeOf", "(I)I"⟩) ∈ gw := gw_3 107 rfl rfl
theorem w588 : (Cond.code ⟨"PipelinedCore$History", "placeOf", "(I)I"⟩ prog_8_method_6_code 2 (some FieldType.int)) ∈ gw := gw_3 108 rfl rfl
theorem w589 : (Cond.methodLink "PipelinedCore" 108 ⟨"PipelinedCore$History", "time", "(I)I"⟩) ∈ gw := gw_3 109 rfl rfl
theorem w590 : (Cond.instanceMethod ⟨"PipelinedCore$History", "time", "(I)I"⟩) ∈ gw := gw_3 110 rfl rfl
theorem w591 : (Cond.selects "PipelinedCore$History" ⟨"PipelinedCore$History", "time", "(I)I"⟩ ⟨"PipelinedCore$History", "time", "(I)I"⟩) ∈ gw := gw_3 111 rfl rfl
theorem w592 : (Cond.code ⟨"PipelinedCore$History", "time", "(I)I"⟩ prog_8_method_5_code 2 (some FieldType.int)) ∈ gw := gw_3 112 rfl rfl
theorem w593 : (Cond.methodLink "PipelinedCoreLaw" 57 ⟨"PipelinedCore", "stage", "(I)I"⟩) ∈ gw := gw_3 113 rfl rfl
theorem w594 : (Cond.instanceMethod ⟨"PipelinedCore", "stage", "(I)I"⟩) ∈ gw := gw_3 114 rfl rfl
theorem w595 : (Cond.selects "PipelinedCore" ⟨"PipelinedCore", "stage", "(I)I"⟩ ⟨"PipelinedCore", "stage", "(I)I"⟩) ∈ gw := gw_3 115 rfl rfl
theorem w596 : (Cond.code ⟨"PipelinedCore", "stage", "(I)I"⟩ prog_1_method_10_code 2 (some FieldType.int)) ∈ gw := gw_3 116 rfl rfl
theorem w597 : (Cond.methodLink "PipelinedCoreLaw" 61 ⟨"PipelinedCore", "foretold", "(I)I"⟩) ∈ gw := gw_3 117 rfl rfl
theorem w598 : (Cond.instanceMethod ⟨"PipelinedCore", "foretold", "(I)I"⟩) ∈ gw := gw_3 118 rfl rfl
theorem w599 : (Cond.selects "PipelinedCore" ⟨"PipelinedCore", "foretold", "(I)I"⟩ ⟨"PipelinedCore", "foretold", "(I)I"⟩) ∈ gw := gw_3 119 rfl rfl
theorem w600 : (Cond.code ⟨"PipelinedCore", "foretold", "(I)I"⟩ prog_1_method_11_code 2 (some FieldType.int)) ∈ gw := gw_3 120 rfl rfl
theorem w601 : (Cond.methodLink "PipelinedCoreLaw" 65 ⟨"PipelinedCore", "figure", "(I)I"⟩) ∈ gw := gw_3 121 rfl rfl
theorem w602 : (Cond.instanceMethod ⟨"PipelinedCore", "figure", "(I)I"⟩) ∈ gw := gw_3 122 rfl rfl
theorem w603 : (Cond.selects "PipelinedCore" ⟨"PipelinedCore", "figure", "(I)I"⟩ ⟨"PipelinedCore", "figure", "(I)I"⟩) ∈ gw := gw_3 123 rfl rfl
theorem w604 : (Cond.code ⟨"PipelinedCore", "figure", "(I)I"⟩ prog_1_method_12_code 2 (some FieldType.int)) ∈ gw := gw_3 124 rfl rfl
theorem w605 : (Cond.methodLink "PipelinedCoreLaw" 9 ⟨"PipelinedCoreLaw", "cell", "([II)I"⟩) ∈ gw := gw_3 125 rfl rfl
theorem w606 : (Cond.static ⟨"PipelinedCoreLaw", "cell", "([II)I"⟩) ∈ gw := gw_3 126 rfl rfl
theorem w607 : (Cond.code ⟨"PipelinedCoreLaw", "cell", "([II)I"⟩ method_2_code 2 (some FieldType.int)) ∈ gw := gw_3 127 rfl rfl
theorem w608 : (Cond.classLink "PipelinedCoreLaw" 18 "PipelinedCoreModel") ∈ gw := gw_3 128 rfl rfl
theorem w609 : (Cond.instantiable "PipelinedCoreModel" 56) ∈ gw := gw_3 129 rfl rfl
theorem w610 : (Cond.methodLink "PipelinedCoreLaw" 20 ⟨"PipelinedCoreModel", "<init>", "(I)V"⟩) ∈ gw := gw_3 130 rfl rfl
theorem w611 : (Cond.instanceMethod ⟨"PipelinedCoreModel", "<init>", "(I)V"⟩) ∈ gw := gw_3 131 rfl rfl
theorem w612 : (Cond.code ⟨"PipelinedCoreModel", "<init>", "(I)V"⟩ prog_12_method_1_code 3 none) ∈ gw := gw_3 132 rfl rfl
theorem w613 : (Cond.methodLink "PipelinedCoreModel" 1 ⟨"java/lang/Object", "<init>", "()V"⟩) ∈ gw := gw_3 133 rfl rfl
theorem w614 : (Cond.fieldLink "PipelinedCoreModel" 93 "PipelinedCoreModel" "latency" "I") ∈ gw := gw_3 134 rfl rfl
theorem w615 : (Cond.fieldLink "PipelinedCoreModel" 96 "PipelinedCoreModel" "now" "I") ∈ gw := gw_3 135 rfl rfl
theorem w616 : (Cond.fieldLink "PipelinedCoreModel" 7 "PipelinedCoreModel" "codes" "[I") ∈ gw := gw_3 136 rfl rfl
theorem w617 : (Cond.fieldLink "PipelinedCoreModel" 13 "PipelinedCoreModel" "regs" "[I") ∈ gw := gw_3 137 rfl rfl
theorem w618 : (Cond.fieldLink "PipelinedCoreModel" 16 "PipelinedCoreModel" "words" "[I") ∈ gw := gw_3 138 rfl rfl
theorem w619 : (Cond.fieldLink "PipelinedCoreModel" 19 "PipelinedCoreModel" "controls" "[I") ∈ gw := gw_3 139 rfl rfl
theorem w620 : (Cond.fieldLink "PipelinedCoreModel" 162 "PipelinedCoreModel" "pc" "I") ∈ gw := gw_3 140 rfl rfl
theorem w621 : (Cond.fieldLink "PipelinedCoreModel" 22 "PipelinedCoreModel" "seenRegs" "[I") ∈ gw := gw_3 141 rfl rfl
theorem w622 : (Cond.fieldLink "PipelinedCoreModel" 25 "PipelinedCoreModel" "seenWords" "[I") ∈ gw := gw_3 142 rfl rfl
theorem w623 : (Cond.fieldLink "PipelinedCoreModel" 234 "PipelinedCoreModel" "some" "Z") ∈ gw := gw_3 143 rfl rfl
theorem w624 : (Cond.fieldLink "PipelinedCoreModel" 237 "PipelinedCoreModel" "whole" "Z") ∈ gw := gw_3 144 rfl rfl
theorem w625 : (Cond.fieldLink "PipelinedCoreModel" 243 "PipelinedCoreModel" "lastE" "I") ∈ gw := gw_3 145 rfl rfl
theorem w626 : (Cond.fieldLink "PipelinedCoreModel" 240 "PipelinedCoreModel" "lastM" "I") ∈ gw := gw_3 146 rfl rfl
theorem w627 : (Cond.fieldLink "PipelinedCoreModel" 246 "PipelinedCoreModel" "any" "Z") ∈ gw := gw_3 147 rfl rfl
theorem w628 : (Cond.fieldLink "PipelinedCoreModel" 258 "PipelinedCoreModel" "wholeW" "I") ∈ gw := gw_3 148 rfl rfl
theorem w629 : (Cond.fieldLink "PipelinedCoreModel" 249 "PipelinedCoreModel" "loaded" "I") ∈ gw := gw_3 149 rfl rfl
theorem w630 : (Cond.fieldLink "PipelinedCoreModel" 28 "PipelinedCoreModel" "fetch" "I") ∈ gw := gw_3 150 rfl rfl
theorem w631 : (Cond.fieldLink "PipelinedCoreModel" 296 "PipelinedCoreModel" "count" "I") ∈ gw := gw_3 151 rfl rfl
theorem w632 : (Cond.fieldLink "PipelinedCoreModel" 32 "PipelinedCoreModel" "place" "[I") ∈ gw := gw_3 152 rfl rfl
theorem w633 : (Cond.fieldLink "PipelinedCoreModel" 35 "PipelinedCoreModel" "timeE" "[I") ∈ gw := gw_3 153 rfl rfl
theorem w634 : (Cond.fieldLink "PipelinedCoreModel" 38 "PipelinedCoreModel" "timeM" "[I") ∈ gw := gw_3 154 rfl rfl
theorem w635 : (Cond.fieldLink "PipelinedCoreModel" 41 "PipelinedCoreModel" "timeW" "[I") ∈ gw := gw_3 155 rfl rfl
theorem w636 : (Cond.fieldLink "PipelinedCoreModel" 44 "PipelinedCoreModel" "register" "[I") ∈ gw := gw_3 156 rfl rfl
theorem w637 : (Cond.fieldLink "PipelinedCoreModel" 47 "PipelinedCoreModel" "result" "[I") ∈ gw := gw_3 157 rfl rfl
theorem w638 : (Cond.fieldLink "PipelinedCoreModel" 50 "PipelinedCoreModel" "cell" "[I") ∈ gw := gw_3 158 rfl rfl
theorem w639 : (Cond.fieldLink "PipelinedCoreModel" 53 "PipelinedCoreModel" "content" "[I") ∈ gw := gw_3 159 rfl rfl
theorem w640 : (Cond.fieldLink "PipelinedCoreModel" 56 "PipelinedCoreModel" "far" "[Z") ∈ gw := gw_3 160 rfl rfl
theorem w641 : (Cond.fieldLink "PipelinedCoreModel" 60 "PipelinedCoreModel" "line" "[I") ∈ gw := gw_3 161 rfl rfl
theorem w642 : (Cond.fieldLink "PipelinedCoreModel" 63 "PipelinedCoreModel" "touched" "[Z") ∈ gw := gw_3 162 rfl rfl
theorem w643 : (Cond.fieldLink "PipelinedCoreModel" 66 "PipelinedCoreModel" "entry" "[I") ∈ gw := gw_3 163 rfl rfl
theorem w644 : (Cond.fieldLink "PipelinedCoreModel" 69 "PipelinedCoreModel" "target" "[I") ∈ gw := gw_3 164 rfl rfl
theorem w645 : (Cond.fieldLink "PipelinedCoreModel" 72 "PipelinedCoreModel" "trust" "[I") ∈ gw := gw_3 165 rfl rfl
theorem w646 : (Cond.fieldLink "PipelinedCoreModel" 284 "PipelinedCoreModel" "later" "I") ∈ gw := gw_3 166 rfl rfl
theorem w647 : (Cond.fieldLink "PipelinedCoreModel" 75 "PipelinedCoreModel" "laterPc" "[I") ∈ gw := gw_3 167 rfl rfl
theorem w648 : (Cond.fieldLink "PipelinedCoreModel" 78 "PipelinedCoreModel" "laterTo" "[I") ∈ gw := gw_3 168 rfl rfl
theorem w649 : (Cond.fieldLink "PipelinedCoreModel" 81 "PipelinedCoreModel" "laterJump" "[Z") ∈ gw := gw_3 169 rfl rfl
theorem w650 : (Cond.fieldLink "PipelinedCoreModel" 84 "PipelinedCoreModel" "laterE" "[I") ∈ gw := gw_3 170 rfl rfl
theorem w651 : (Cond.fieldLink "PipelinedCoreModel" 305 "PipelinedCoreModel" "ends" "I") ∈ gw := gw_3 171 rfl rfl
theorem w652 : (Cond.fieldLink "PipelinedCoreModel" 87 "PipelinedCoreModel" "endPlace" "[I") ∈ gw := gw_3 172 rfl rfl
theorem w653 : (Cond.fieldLink "PipelinedCoreModel" 90 "PipelinedCoreModel" "endTime" "[I") ∈ gw := gw_3 173 rfl rfl
theorem w654 : (Cond.fieldLink "PipelinedCoreModel" 302 "PipelinedCoreModel" "misses" "I") ∈ gw := gw_3 174 rfl rfl
theorem w655 : (Cond.fieldLink "PipelinedCoreModel" 274 "PipelinedCoreModel" "traps" "I") ∈ gw := gw_3 175 rfl rfl
theorem w656 : (Cond.fieldLink "PipelinedCoreModel" 268 "PipelinedCoreModel" "unbegun" "I") ∈ gw := gw_3 176 rfl rfl
theorem w657 : (Cond.fieldLink "PipelinedCoreModel" 277 "PipelinedCoreModel" "wrong" "I") ∈ gw := gw_3 177 rfl rfl
theorem w658 : (Cond.fieldLink "PipelinedCoreModel" 103 "PipelinedCoreModel" "word" "I") ∈ gw := gw_3 178 rfl rfl
theorem w659 : (Cond.fieldLink "PipelinedCoreModel" 120 "PipelinedCoreModel" "cause" "I") ∈ gw := gw_3 179 rfl rfl
theorem w660 : (Cond.fieldLink "PipelinedCoreModel" 123 "PipelinedCoreModel" "value" "I") ∈ gw := gw_3 180 rfl rfl
theorem w661 : (Cond.fieldLink "PipelinedCoreModel" 152 "PipelinedCoreModel" "to" "I") ∈ gw := gw_3 181 rfl rfl
theorem w662 : (Cond.fieldLink "PipelinedCoreModel" 199 "PipelinedCoreModel" "rd" "I") ∈ gw := gw_3 182 rfl rfl
theorem w663 : (Cond.fieldLink "PipelinedCoreModel" 139 "PipelinedCoreModel" "made" "I") ∈ gw := gw_3 183 rfl rfl
theorem w664 : (Cond.fieldLink "PipelinedCoreModel" 172 "PipelinedCoreModel" "address" "I") ∈ gw := gw_3 184 rfl rfl
theorem w665 : (Cond.fieldLink "PipelinedCoreModel" 183 "PipelinedCoreModel" "writes" "Z") ∈ gw := gw_3 185 rfl rfl
theorem w666 : (Cond.fieldLink "PipelinedCoreModel" 186 "PipelinedCoreModel" "stored" "I") ∈ gw := gw_3 186 rfl rfl
theorem w667 : (Cond.fieldLink "PipelinedCoreModel" 159 "PipelinedCoreModel" "jumper" "Z") ∈ gw := gw_3 187 rfl rfl
theorem w668 : (Cond.fieldLink "PipelinedCoreModel" 155 "PipelinedCoreModel" "jumps" "Z") ∈ gw := gw_3 188 rfl rfl
theorem w669 : (Cond.fieldLink "PipelinedCoreModel" 195 "PipelinedCoreModel" "back" "Z") ∈ gw := gw_3 189 rfl rfl
theorem w670 : (Cond.lays "PipelinedCoreModel" "PipelinedCoreModel" "latency" "I") ∈ gw := gw_3 190 rfl rfl
theorem w672 : (Cond.lays "PipelinedCoreModel" "PipelinedCoreModel" "now" "I") ∈ gw := gw_3 192 rfl rfl
theorem w674 : (Cond.laysFinal "PipelinedCoreModel" "PipelinedCoreModel" "codes" "[I") ∈ gw := gw_3 194 rfl rfl
theorem w676 : (Cond.laysFinal "PipelinedCoreModel" "PipelinedCoreModel" "regs" "[I") ∈ gw := gw_3 196 rfl rfl
theorem w678 : (Cond.laysFinal "PipelinedCoreModel" "PipelinedCoreModel" "words" "[I") ∈ gw := gw_3 198 rfl rfl
theorem w680 : (Cond.laysFinal "PipelinedCoreModel" "PipelinedCoreModel" "controls" "[I") ∈ gw := gw_3 200 rfl rfl
theorem w682 : (Cond.lays "PipelinedCoreModel" "PipelinedCoreModel" "pc" "I") ∈ gw := gw_3 202 rfl rfl
theorem w684 : (Cond.laysFinal "PipelinedCoreModel" "PipelinedCoreModel" "seenRegs" "[I") ∈ gw := gw_3 204 rfl rfl
theorem w686 : (Cond.laysFinal "PipelinedCoreModel" "PipelinedCoreModel" "seenWords" "[I") ∈ gw := gw_3 206 rfl rfl
theorem w688 : (Cond.lays "PipelinedCoreModel" "PipelinedCoreModel" "some" "Z") ∈ gw := gw_3 208 rfl rfl
theorem w690 : (Cond.lays "PipelinedCoreModel" "PipelinedCoreModel" "whole" "Z") ∈ gw := gw_3 210 rfl rfl
theorem w692 : (Cond.lays "PipelinedCoreModel" "PipelinedCoreModel" "lastE" "I") ∈ gw := gw_3 212 rfl rfl
theorem w694 : (Cond.lays "PipelinedCoreModel" "PipelinedCoreModel" "lastM" "I") ∈ gw := gw_3 214 rfl rfl
theorem w696 : (Cond.lays "PipelinedCoreModel" "PipelinedCoreModel" "any" "Z") ∈ gw := gw_3 216 rfl rfl
theorem w698 : (Cond.lays "PipelinedCoreModel" "PipelinedCoreModel" "wholeW" "I") ∈ gw := gw_3 218 rfl rfl
theorem w700 : (Cond.lays "PipelinedCoreModel" "PipelinedCoreModel" "loaded" "I") ∈ gw := gw_3 220 rfl rfl
theorem w702 : (Cond.lays "PipelinedCoreModel" "PipelinedCoreModel" "fetch" "I") ∈ gw := gw_3 222 rfl rfl
theorem w704 : (Cond.lays "PipelinedCoreModel" "PipelinedCoreModel" "count" "I") ∈ gw := gw_3 224 rfl rfl
theorem w706 : (Cond.laysFinal "PipelinedCoreModel" "PipelinedCoreModel" "place" "[I") ∈ gw := gw_3 226 rfl rfl
theorem w708 : (Cond.laysFinal "PipelinedCoreModel" "PipelinedCoreModel" "timeE" "[I") ∈ gw := gw_3 228 rfl rfl
theorem w710 : (Cond.laysFinal "PipelinedCoreModel" "PipelinedCoreModel" "timeM" "[I") ∈ gw := gw_3 230 rfl rfl
theorem w712 : (Cond.laysFinal "PipelinedCoreModel" "PipelinedCoreModel" "timeW" "[I") ∈ gw := gw_3 232 rfl rfl
theorem w714 : (Cond.laysFinal "PipelinedCoreModel" "PipelinedCoreModel" "register" "[I") ∈ gw := gw_3 234 rfl rfl
theorem w716 : (Cond.laysFinal "PipelinedCoreModel" "PipelinedCoreModel" "result" "[I") ∈ gw := gw_3 236 rfl rfl
theorem w718 : (Cond.laysFinal "PipelinedCoreModel" "PipelinedCoreModel" "cell" "[I") ∈ gw := gw_3 238 rfl rfl
theorem w720 : (Cond.laysFinal "PipelinedCoreModel" "PipelinedCoreModel" "content" "[I") ∈ gw := gw_4 0 rfl rfl
theorem w722 : (Cond.laysFinal "PipelinedCoreModel" "PipelinedCoreModel" "far" "[Z") ∈ gw := gw_4 2 rfl rfl
theorem w724 : (Cond.laysFinal "PipelinedCoreModel" "PipelinedCoreModel" "line" "[I") ∈ gw := gw_4 4 rfl rfl
theorem w726 : (Cond.laysFinal "PipelinedCoreModel" "PipelinedCoreModel" "touched" "[Z") ∈ gw := gw_4 6 rfl rfl
theorem w728 : (Cond.laysFinal "PipelinedCoreModel" "PipelinedCoreModel" "entry" "[I") ∈ gw := gw_4 8 rfl rfl
theorem w730 : (Cond.laysFinal "PipelinedCoreModel" "PipelinedCoreModel" "target" "[I") ∈ gw := gw_4 10 rfl rfl
theorem w732 : (Cond.laysFinal "PipelinedCoreModel" "PipelinedCoreModel" "trust" "[I") ∈ gw := gw_4 12 rfl rfl
theorem w734 : (Cond.lays "PipelinedCoreModel" "PipelinedCoreModel" "later" "I") ∈ gw := gw_4 14 rfl rfl
theorem w736 : (Cond.laysFinal "PipelinedCoreModel" "PipelinedCoreModel" "laterPc" "[I") ∈ gw := gw_4 16 rfl rfl
theorem w738 : (Cond.laysFinal "PipelinedCoreModel" "PipelinedCoreModel" "laterTo" "[I") ∈ gw := gw_4 18 rfl rfl
theorem w740 : (Cond.laysFinal "PipelinedCoreModel" "PipelinedCoreModel" "laterJump" "[Z") ∈ gw := gw_4 20 rfl rfl
theorem w742 : (Cond.laysFinal "PipelinedCoreModel" "PipelinedCoreModel" "laterE" "[I") ∈ gw := gw_4 22 rfl rfl
theorem w744 : (Cond.lays "PipelinedCoreModel" "PipelinedCoreModel" "ends" "I") ∈ gw := gw_4 24 rfl rfl
theorem w746 : (Cond.laysFinal "PipelinedCoreModel" "PipelinedCoreModel" "endPlace" "[I") ∈ gw := gw_4 26 rfl rfl
theorem w748 : (Cond.laysFinal "PipelinedCoreModel" "PipelinedCoreModel" "endTime" "[I") ∈ gw := gw_4 28 rfl rfl
theorem w750 : (Cond.lays "PipelinedCoreModel" "PipelinedCoreModel" "misses" "I") ∈ gw := gw_4 30 rfl rfl
theorem w752 : (Cond.lays "PipelinedCoreModel" "PipelinedCoreModel" "traps" "I") ∈ gw := gw_4 32 rfl rfl
theorem w754 : (Cond.lays "PipelinedCoreModel" "PipelinedCoreModel" "unbegun" "I") ∈ gw := gw_4 34 rfl rfl
theorem w756 : (Cond.lays "PipelinedCoreModel" "PipelinedCoreModel" "wrong" "I") ∈ gw := gw_4 36 rfl rfl
theorem w758 : (Cond.lays "PipelinedCoreModel" "PipelinedCoreModel" "word" "I") ∈ gw := gw_4 38 rfl rfl
theorem w760 : (Cond.lays "PipelinedCoreModel" "PipelinedCoreModel" "cause" "I") ∈ gw := gw_4 40 rfl rfl
theorem w762 : (Cond.lays "PipelinedCoreModel" "PipelinedCoreModel" "value" "I") ∈ gw := gw_4 42 rfl rfl
theorem w764 : (Cond.lays "PipelinedCoreModel" "PipelinedCoreModel" "to" "I") ∈ gw := gw_4 44 rfl rfl
theorem w766 : (Cond.lays "PipelinedCoreModel" "PipelinedCoreModel" "rd" "I") ∈ gw := gw_4 46 rfl rfl
theorem w768 : (Cond.lays "PipelinedCoreModel" "PipelinedCoreModel" "made" "I") ∈ gw := gw_4 48 rfl rfl
theorem w770 : (Cond.lays "PipelinedCoreModel" "PipelinedCoreModel" "address" "I") ∈ gw := gw_4 50 rfl rfl
theorem w772 : (Cond.lays "PipelinedCoreModel" "PipelinedCoreModel" "writes" "Z") ∈ gw := gw_4 52 rfl rfl
theorem w774 : (Cond.lays "PipelinedCoreModel" "PipelinedCoreModel" "stored" "I") ∈ gw := gw_4 54 rfl rfl
theorem w776 : (Cond.lays "PipelinedCoreModel" "PipelinedCoreModel" "jumper" "Z") ∈ gw := gw_4 56 rfl rfl
theorem w778 : (Cond.lays "PipelinedCoreModel" "PipelinedCoreModel" "jumps" "Z") ∈ gw := gw_4 58 rfl rfl
theorem w780 : (Cond.lays "PipelinedCoreModel" "PipelinedCoreModel" "back" "Z") ∈ gw := gw_4 60 rfl rfl
theorem w783 : (Cond.methodLink "PipelinedCoreLaw" 25 ⟨"PipelinedCoreModel", "code", "(II)Z"⟩) ∈ gw := gw_4 63 rfl rfl
theorem w784 : (Cond.instanceMethod ⟨"PipelinedCoreModel", "code", "(II)Z"⟩) ∈ gw := gw_4 64 rfl rfl
theorem w785 : (Cond.selects "PipelinedCoreModel" ⟨"PipelinedCoreModel", "code", "(II)Z"⟩ ⟨"PipelinedCoreModel", "code", "(II)Z"⟩) ∈ gw := gw_4 65 rfl rfl
theorem w786 : (Cond.code ⟨"PipelinedCoreModel", "code", "(II)Z"⟩ prog_12_method_2_code 3 (some FieldType.boolean)) ∈ gw := gw_4 66 rfl rfl
theorem w787 : (Cond.methodLink "PipelinedCoreLaw" 29 ⟨"PipelinedCoreModel", "data", "(II)Z"⟩) ∈ gw := gw_4 67 rfl rfl
theorem w788 : (Cond.instanceMethod ⟨"PipelinedCoreModel", "data", "(II)Z"⟩) ∈ gw := gw_4 68 rfl rfl
theorem w789 : (Cond.selects "PipelinedCoreModel" ⟨"PipelinedCoreModel", "data", "(II)Z"⟩ ⟨"PipelinedCoreModel", "data", "(II)Z"⟩) ∈ gw := gw_4 69 rfl rfl
theorem w790 : (Cond.code ⟨"PipelinedCoreModel", "data", "(II)Z"⟩ prog_12_method_4_code 3 (some FieldType.boolean)) ∈ gw := gw_4 70 rfl rfl
theorem w791 : (Cond.methodLink "PipelinedCoreModel" 99 ⟨"PipelinedCoreModel", "isData", "(I)Z"⟩) ∈ gw := gw_4 71 rfl rfl
theorem w792 : (Cond.static ⟨"PipelinedCoreModel", "isData", "(I)Z"⟩) ∈ gw := gw_4 72 rfl rfl
theorem w793 : (Cond.code ⟨"PipelinedCoreModel", "isData", "(I)Z"⟩ prog_12_method_3_code 1 (some FieldType.boolean)) ∈ gw := gw_4 73 rfl rfl
theorem w794 : (Cond.methodLink "PipelinedCoreLaw" 34 ⟨"PipelinedCoreModel", "lines", "(I)Z"⟩) ∈ gw := gw_4 74 rfl rfl
theorem w795 : (Cond.instanceMethod ⟨"PipelinedCoreModel", "lines", "(I)Z"⟩) ∈ gw := gw_4 75 rfl rfl
theorem w796 : (Cond.selects "PipelinedCoreModel" ⟨"PipelinedCoreModel", "lines", "(I)Z"⟩ ⟨"PipelinedCoreModel", "lines", "(I)Z"⟩) ∈ gw := gw_4 76 rfl rfl
theorem w797 : (Cond.code ⟨"PipelinedCoreModel", "lines", "(I)Z"⟩ prog_12_method_5_code 2 (some FieldType.boolean)) ∈ gw := gw_4 77 rfl rfl
theorem w798 : (Cond.methodLink "PipelinedCoreLaw" 39 ⟨"PipelinedCoreModel", "run", "(I)I"⟩) ∈ gw := gw_4 78 rfl rfl
theorem w799 : (Cond.instanceMethod ⟨"PipelinedCoreModel", "run", "(I)I"⟩) ∈ gw := gw_4 79 rfl rfl
theorem w800 : (Cond.selects "PipelinedCoreModel" ⟨"PipelinedCoreModel", "run", "(I)I"⟩ ⟨"PipelinedCoreModel", "run", "(I)I"⟩) ∈ gw := gw_4 80 rfl rfl
theorem w801 : (Cond.code ⟨"PipelinedCoreModel", "run", "(I)I"⟩ prog_12_method_45_code 4 (some FieldType.int)) ∈ gw := gw_4 81 rfl rfl
theorem w802 : (Cond.methodLink "PipelinedCoreModel" 308 ⟨"PipelinedCoreModel", "beginning", "()I"⟩) ∈ gw := gw_4 82 rfl rfl
theorem w804 : (Cond.instanceMethod ⟨"PipelinedCoreModel", "beginning", "()I"⟩) ∈ gw := gw_4 84 rfl rfl
theorem w805 : (Cond.code ⟨"PipelinedCoreModel", "beginning", "()I"⟩ prog_12_method_34_code 5 (some FieldType.int)) ∈ gw := gw_4 85 rfl rfl
theorem w806 : (Cond.methodLink "PipelinedCoreModel" 227 ⟨"PipelinedCoreModel", "inCode", "()Z"⟩) ∈ gw := gw_4 86 rfl rfl
theorem w808 : (Cond.instanceMethod ⟨"PipelinedCoreModel", "inCode", "()Z"⟩) ∈ gw := gw_4 88 rfl rfl
theorem w809 : (Cond.code ⟨"PipelinedCoreModel", "inCode", "()Z"⟩ prog_12_method_31_code 1 (some FieldType.boolean)) ∈ gw := gw_4 89 rfl rfl
theorem w810 : (Cond.methodLink "PipelinedCoreModel" 231 ⟨"PipelinedCoreModel", "decoding", "()I"⟩) ∈ gw := gw_4 90 rfl rfl
theorem w812 : (Cond.instanceMethod ⟨"PipelinedCoreModel", "decoding", "()I"⟩) ∈ gw := gw_4 92 rfl rfl
theorem w813 : (Cond.code ⟨"PipelinedCoreModel", "decoding", "()I"⟩ prog_12_method_35_code 2 (some FieldType.int)) ∈ gw := gw_4 93 rfl rfl
theorem w814 : (Cond.methodLink "PipelinedCoreModel" 252 ⟨"PipelinedCoreModel", "usesA", "()Z"⟩) ∈ gw := gw_4 94 rfl rfl
theorem w816 : (Cond.instanceMethod ⟨"PipelinedCoreModel", "usesA", "()Z"⟩) ∈ gw := gw_4 96 rfl rfl
theorem w817 : (Cond.code ⟨"PipelinedCoreModel", "usesA", "()Z"⟩ prog_12_method_14_code 4 (some FieldType.boolean)) ∈ gw := gw_4 97 rfl rfl
theorem w818 : (Cond.methodLink "PipelinedCoreModel" 110 ⟨"PipelinedCoreModel", "op", "()I"⟩) ∈ gw := gw_4 98 rfl rfl
theorem w820 : (Cond.instanceMethod ⟨"PipelinedCoreModel", "op", "()I"⟩) ∈ gw := gw_4 100 rfl rfl
theorem w821 : (Cond.code ⟨"PipelinedCoreModel", "op", "()I"⟩ prog_12_method_7_code 1 (some FieldType.int)) ∈ gw := gw_4 101 rfl rfl
theorem w822 : (Cond.methodLink "PipelinedCoreModel" 106 ⟨"PipelinedCoreModel", "bits", "(II)I"⟩) ∈ gw := gw_4 102 rfl rfl
theorem w824 : (Cond.instanceMethod ⟨"PipelinedCoreModel", "bits", "(II)I"⟩) ∈ gw := gw_4 104 rfl rfl
theorem w825 : (Cond.code ⟨"PipelinedCoreModel", "bits", "(II)I"⟩ prog_12_method_6_code 3 (some FieldType.int)) ∈ gw := gw_4 105 rfl rfl
theorem w826 : (Cond.methodLink "PipelinedCoreModel" 255 ⟨"PipelinedCoreModel", "usesB", "()Z"⟩) ∈ gw := gw_4 106 rfl rfl
theorem w828 : (Cond.instanceMethod ⟨"PipelinedCoreModel", "usesB", "()Z"⟩) ∈ gw := gw_4 108 rfl rfl
theorem w829 : (Cond.code ⟨"PipelinedCoreModel", "usesB", "()Z"⟩ prog_12_method_15_code 2 (some FieldType.boolean)) ∈ gw := gw_4 109 rfl rfl
theorem w830 : (Cond.methodLink "PipelinedCoreModel" 311 ⟨"PipelinedCoreModel", "perform", "(I)V"⟩) ∈ gw := gw_4 110 rfl rfl
theorem w832 : (Cond.instanceMethod ⟨"PipelinedCoreModel", "perform", "(I)V"⟩) ∈ gw := gw_4 112 rfl rfl
theorem w833 : (Cond.code ⟨"PipelinedCoreModel", "perform", "(I)V"⟩ prog_12_method_36_code 8 none) ∈ gw := gw_4 113 rfl rfl
theorem w834 : (Cond.methodLink "PipelinedCoreModel" 261 ⟨"PipelinedCoreModel", "fetched", "()I"⟩) ∈ gw := gw_4 114 rfl rfl
theorem w836 : (Cond.instanceMethod ⟨"PipelinedCoreModel", "fetched", "()I"⟩) ∈ gw := gw_4 116 rfl rfl
theorem w837 : (Cond.code ⟨"PipelinedCoreModel", "fetched", "()I"⟩ prog_12_method_42_code 3 (some FieldType.int)) ∈ gw := gw_4 117 rfl rfl
theorem w838 : (Cond.methodLink "PipelinedCoreModel" 280 ⟨"PipelinedCoreModel", "learn", "(IIIZ)V"⟩) ∈ gw := gw_4 118 rfl rfl
theorem w840 : (Cond.instanceMethod ⟨"PipelinedCoreModel", "learn", "(IIIZ)V"⟩) ∈ gw := gw_4 120 rfl rfl
theorem w841 : (Cond.code ⟨"PipelinedCoreModel", "learn", "(IIIZ)V"⟩ prog_12_method_41_code 6 none) ∈ gw := gw_4 121 rfl rfl
theorem w842 : (Cond.methodLink "PipelinedCoreModel" 299 ⟨"PipelinedCoreModel", "guess", "(II)I"⟩) ∈ gw := gw_4 122 rfl rfl
theorem w844 : (Cond.instanceMethod ⟨"PipelinedCoreModel", "guess", "(II)I"⟩) ∈ gw := gw_4 124 rfl rfl
theorem w845 : (Cond.code ⟨"PipelinedCoreModel", "guess", "(II)I"⟩ prog_12_method_40_code 4 (some FieldType.int)) ∈ gw := gw_4 125 rfl rfl
theorem w846 : (Cond.constant "PipelinedCoreModel" 264 (-2147483648 : Int32)) ∈ gw := gw_4 126 rfl rfl
theorem w847 : (Cond.methodLink "PipelinedCoreModel" 265 ⟨"PipelinedCoreModel", "enter", "(III)V"⟩) ∈ gw := gw_4 127 rfl rfl
theorem w849 : (Cond.instanceMethod ⟨"PipelinedCoreModel", "enter", "(III)V"⟩) ∈ gw := gw_4 129 rfl rfl
theorem w850 : (Cond.code ⟨"PipelinedCoreModel", "enter", "(III)V"⟩ prog_12_method_33_code 4 none) ∈ gw := gw_4 130 rfl rfl
theorem w851 : (Cond.methodLink "PipelinedCoreModel" 271 ⟨"PipelinedCoreModel", "fulfil", "()V"⟩) ∈ gw := gw_4 131 rfl rfl
theorem w853 : (Cond.instanceMethod ⟨"PipelinedCoreModel", "fulfil", "()V"⟩) ∈ gw := gw_4 133 rfl rfl
theorem w854 : (Cond.code ⟨"PipelinedCoreModel", "fulfil", "()V"⟩ prog_12_method_37_code 1 none) ∈ gw := gw_4 134 rfl rfl
theorem w855 : (Cond.methodLink "PipelinedCoreModel" 290 ⟨"PipelinedCoreModel", "decide", "()V"⟩) ∈ gw := gw_4 135 rfl rfl
theorem w857 : (Cond.instanceMethod ⟨"PipelinedCoreModel", "decide", "()V"⟩) ∈ gw := gw_4 137 rfl rfl
theorem w858 : (Cond.code ⟨"PipelinedCoreModel", "decide", "()V"⟩ prog_12_method_32_code 3 none) ∈ gw := gw_4 138 rfl rfl
theorem w859 : (Cond.methodLink "PipelinedCoreModel" 206 ⟨"PipelinedCoreModel", "numberJ", "()I"⟩) ∈ gw := gw_4 139 rfl rfl
theorem w861 : (Cond.instanceMethod ⟨"PipelinedCoreModel", "numberJ", "()I"⟩) ∈ gw := gw_4 141 rfl rfl
theorem w862 : (Cond.code ⟨"PipelinedCoreModel", "numberJ", "()I"⟩ prog_12_method_11_code 1 (some FieldType.int)) ∈ gw := gw_4 142 rfl rfl
theorem w863 : (Cond.methodLink "PipelinedCoreModel" 168 ⟨"PipelinedCoreModel", "go", "(I)V"⟩) ∈ gw := gw_4 143 rfl rfl
theorem w865 : (Cond.instanceMethod ⟨"PipelinedCoreModel", "go", "(I)V"⟩) ∈ gw := gw_4 145 rfl rfl
theorem w866 : (Cond.code ⟨"PipelinedCoreModel", "go", "(I)V"⟩ prog_12_method_23_code 2 none) ∈ gw := gw_4 146 rfl rfl
theorem w867 : (Cond.methodLink "PipelinedCoreModel" 129 ⟨"PipelinedCoreModel", "regA", "()I"⟩) ∈ gw := gw_4 147 rfl rfl
theorem w869 : (Cond.instanceMethod ⟨"PipelinedCoreModel", "regA", "()I"⟩) ∈ gw := gw_4 149 rfl rfl
theorem w870 : (Cond.code ⟨"PipelinedCoreModel", "regA", "()I"⟩ prog_12_method_12_code 1 (some FieldType.int)) ∈ gw := gw_4 150 rfl rfl
theorem w871 : (Cond.methodLink "PipelinedCoreModel" 132 ⟨"PipelinedCoreModel", "numberI", "()I"⟩) ∈ gw := gw_4 151 rfl rfl
theorem w873 : (Cond.instanceMethod ⟨"PipelinedCoreModel", "numberI", "()I"⟩) ∈ gw := gw_4 153 rfl rfl
theorem w874 : (Cond.code ⟨"PipelinedCoreModel", "numberI", "()I"⟩ prog_12_method_8_code 1 (some FieldType.int)) ∈ gw := gw_4 154 rfl rfl
theorem w875 : (Cond.methodLink "PipelinedCoreModel" 209 ⟨"PipelinedCoreModel", "branch", "()V"⟩) ∈ gw := gw_4 155 rfl rfl
theorem w877 : (Cond.instanceMethod ⟨"PipelinedCoreModel", "branch", "()V"⟩) ∈ gw := gw_4 157 rfl rfl
theorem w878 : (Cond.code ⟨"PipelinedCoreModel", "branch", "()V"⟩ prog_12_method_24_code 5 none) ∈ gw := gw_4 158 rfl rfl
theorem w879 : (Cond.methodLink "PipelinedCoreModel" 142 ⟨"PipelinedCoreModel", "regB", "()I"⟩) ∈ gw := gw_4 159 rfl rfl
theorem w881 : (Cond.instanceMethod ⟨"PipelinedCoreModel", "regB", "()I"⟩) ∈ gw := gw_4 161 rfl rfl
theorem w882 : (Cond.code ⟨"PipelinedCoreModel", "regB", "()I"⟩ prog_12_method_13_code 1 (some FieldType.int)) ∈ gw := gw_4 162 rfl rfl
theorem w883 : (Cond.methodLink "PipelinedCoreModel" 116 ⟨"PipelinedCoreModel", "below", "(II)Z"⟩) ∈ gw := gw_4 163 rfl rfl
theorem w884 : (Cond.static ⟨"PipelinedCoreModel", "below", "(II)Z"⟩) ∈ gw := gw_4 164 rfl rfl
theorem w885 : (Cond.code ⟨"PipelinedCoreModel", "below", "(II)Z"⟩ prog_12_method_16_code 2 (some FieldType.boolean)) ∈ gw := gw_4 165 rfl rfl
theorem w886 : (Cond.constantLong "PipelinedCoreModel" 114 (4294967295 : Int64)) ∈ gw := gw_4 166 rfl rfl
theorem w887 : (Cond.methodLink "PipelinedCoreModel" 126 ⟨"PipelinedCoreModel", "illegal", "()V"⟩) ∈ gw := gw_4 167 rfl rfl
theorem w889 : (Cond.instanceMethod ⟨"PipelinedCoreModel", "illegal", "()V"⟩) ∈ gw := gw_4 169 rfl rfl
theorem w890 : (Cond.code ⟨"PipelinedCoreModel", "illegal", "()V"⟩ prog_12_method_20_code 1 none) ∈ gw := gw_4 170 rfl rfl
theorem w891 : (Cond.methodLink "PipelinedCoreModel" 165 ⟨"PipelinedCoreModel", "numberB", "()I"⟩) ∈ gw := gw_4 171 rfl rfl
theorem w893 : (Cond.instanceMethod ⟨"PipelinedCoreModel", "numberB", "()I"⟩) ∈ gw := gw_4 173 rfl rfl
theorem w894 : (Cond.code ⟨"PipelinedCoreModel", "numberB", "()I"⟩ prog_12_method_10_code 1 (some FieldType.int)) ∈ gw := gw_4 174 rfl rfl
theorem w895 : (Cond.methodLink "PipelinedCoreModel" 212 ⟨"PipelinedCoreModel", "load", "()V"⟩) ∈ gw := gw_4 175 rfl rfl
theorem w897 : (Cond.instanceMethod ⟨"PipelinedCoreModel", "load", "()V"⟩) ∈ gw := gw_4 177 rfl rfl
theorem w898 : (Cond.code ⟨"PipelinedCoreModel", "load", "()V"⟩ prog_12_method_26_code 4 none) ∈ gw := gw_4 178 rfl rfl
theorem w899 : (Cond.methodLink "PipelinedCoreModel" 175 ⟨"PipelinedCoreModel", "reach", "(III)V"⟩) ∈ gw := gw_4 179 rfl rfl
theorem w901 : (Cond.instanceMethod ⟨"PipelinedCoreModel", "reach", "(III)V"⟩) ∈ gw := gw_4 181 rfl rfl
theorem w902 : (Cond.code ⟨"PipelinedCoreModel", "reach", "(III)V"⟩ prog_12_method_25_code 4 none) ∈ gw := gw_4 182 rfl rfl
theorem w903 : (Cond.constant "PipelinedCoreModel" 179 (65535 : Int32)) ∈ gw := gw_4 183 rfl rfl
theorem w904 : (Cond.methodLink "PipelinedCoreModel" 215 ⟨"PipelinedCoreModel", "store", "()V"⟩) ∈ gw := gw_4 184 rfl rfl
theorem w906 : (Cond.instanceMethod ⟨"PipelinedCoreModel", "store", "()V"⟩) ∈ gw := gw_4 186 rfl rfl
theorem w907 : (Cond.code ⟨"PipelinedCoreModel", "store", "()V"⟩ prog_12_method_27_code 4 none) ∈ gw := gw_4 187 rfl rfl
theorem w908 : (Cond.methodLink "PipelinedCoreModel" 180 ⟨"PipelinedCoreModel", "numberS", "()I"⟩) ∈ gw := gw_4 188 rfl rfl
theorem w910 : (Cond.instanceMethod ⟨"PipelinedCoreModel", "numberS", "()I"⟩) ∈ gw := gw_4 190 rfl rfl
theorem w911 : (Cond.code ⟨"PipelinedCoreModel", "numberS", "()I"⟩ prog_12_method_9_code 1 (some FieldType.int)) ∈ gw := gw_4 191 rfl rfl
theorem w912 : (Cond.methodLink "PipelinedCoreModel" 218 ⟨"PipelinedCoreModel", "immediate", "()V"⟩) ∈ gw := gw_4 192 rfl rfl
theorem w914 : (Cond.instanceMethod ⟨"PipelinedCoreModel", "immediate", "()V"⟩) ∈ gw := gw_4 194 rfl rfl
theorem w915 : (Cond.code ⟨"PipelinedCoreModel", "immediate", "()V"⟩ prog_12_method_21_code 4 none) ∈ gw := gw_4 195 rfl rfl
theorem w916 : (Cond.methodLink "PipelinedCoreModel" 135 ⟨"PipelinedCoreModel", "plain", "(IIIZ)I"⟩) ∈ gw := gw_4 196 rfl rfl
theorem w917 : (Cond.static ⟨"PipelinedCoreModel", "plain", "(IIIZ)I"⟩) ∈ gw := gw_4 197 rfl rfl
theorem w918 : (Cond.code ⟨"PipelinedCoreModel", "plain", "(IIIZ)I"⟩ prog_12_method_17_code 5 (some FieldType.int)) ∈ gw := gw_4 198 rfl rfl
theorem w919 : (Cond.methodLink "PipelinedCoreModel" 221 ⟨"PipelinedCoreModel", "operation", "()V"⟩) ∈ gw := gw_4 199 rfl rfl
theorem w921 : (Cond.instanceMethod ⟨"PipelinedCoreModel", "operation", "()V"⟩) ∈ gw := gw_4 201 rfl rfl
theorem w922 : (Cond.code ⟨"PipelinedCoreModel", "operation", "()V"⟩ prog_12_method_22_code 4 none) ∈ gw := gw_4 202 rfl rfl
theorem w923 : (Cond.methodLink "PipelinedCoreModel" 145 ⟨"PipelinedCoreModel", "product", "(III)I"⟩) ∈ gw := gw_4 203 rfl rfl
theorem w924 : (Cond.static ⟨"PipelinedCoreModel", "product", "(III)I"⟩) ∈ gw := gw_4 204 rfl rfl
theorem w925 : (Cond.code ⟨"PipelinedCoreModel", "product", "(III)I"⟩ prog_12_method_18_code 7 (some FieldType.int)) ∈ gw := gw_4 205 rfl rfl
theorem w926 : (Cond.methodLink "PipelinedCoreModel" 149 ⟨"PipelinedCoreModel", "quotient", "(III)I"⟩) ∈ gw := gw_4 206 rfl rfl
theorem w927 : (Cond.static ⟨"PipelinedCoreModel", "quotient", "(III)I"⟩) ∈ gw := gw_4 207 rfl rfl
theorem w928 : (Cond.code ⟨"PipelinedCoreModel", "quotient", "(III)I"⟩ prog_12_method_19_code 8 (some FieldType.int)) ∈ gw := gw_4 208 rfl rfl
theorem w929 : (Cond.methodLink "PipelinedCoreModel" 224 ⟨"PipelinedCoreModel", "system", "()V"⟩) ∈ gw := gw_4 209 rfl rfl
theorem w931 : (Cond.instanceMethod ⟨"PipelinedCoreModel", "system", "()V"⟩) ∈ gw := gw_4 211 rfl rfl
theorem w932 : (Cond.code ⟨"PipelinedCoreModel", "system", "()V"⟩ prog_12_method_30_code 5 none) ∈ gw := gw_4 212 rfl rfl
theorem w933 : (Cond.methodLink "PipelinedCoreModel" 189 ⟨"PipelinedCoreModel", "placeOf", "(I)I"⟩) ∈ gw := gw_4 213 rfl rfl
theorem w934 : (Cond.static ⟨"PipelinedCoreModel", "placeOf", "(I)I"⟩) ∈ gw := gw_4 214 rfl rfl
theorem w935 : (Cond.code ⟨"PipelinedCoreModel", "placeOf", "(I)I"⟩ prog_12_method_28_code 1 (some FieldType.int)) ∈ gw := gw_4 215 rfl rfl
theorem w936 : (Cond.constant "PipelinedCoreModel" 193 (1048691 : Int32)) ∈ gw := gw_4 216 rfl rfl
theorem w937 : (Cond.constant "PipelinedCoreModel" 194 (807403635 : Int32)) ∈ gw := gw_4 217 rfl rfl
theorem w938 : (Cond.constant "PipelinedCoreModel" 198 (273678451 : Int32)) ∈ gw := gw_4 218 rfl rfl
theorem w939 : (Cond.methodLink "PipelinedCoreModel" 202 ⟨"PipelinedCoreModel", "change", "(II)V"⟩) ∈ gw := gw_4 219 rfl rfl
theorem w941 : (Cond.instanceMethod ⟨"PipelinedCoreModel", "change", "(II)V"⟩) ∈ gw := gw_4 221 rfl rfl
theorem w942 : (Cond.code ⟨"PipelinedCoreModel", "change", "(II)V"⟩ prog_12_method_29_code 4 none) ∈ gw := gw_4 222 rfl rfl
theorem w943 : (Cond.methodLink "PipelinedCoreModel" 287 ⟨"PipelinedCoreModel", "finish", "(I)V"⟩) ∈ gw := gw_4 223 rfl rfl
theorem w945 : (Cond.instanceMethod ⟨"PipelinedCoreModel", "finish", "(I)V"⟩) ∈ gw := gw_4 225 rfl rfl
theorem w946 : (Cond.code ⟨"PipelinedCoreModel", "finish", "(I)V"⟩ prog_12_method_38_code 7 none) ∈ gw := gw_4 226 rfl rfl
theorem w947 : (Cond.methodLink "PipelinedCoreModel" 293 ⟨"PipelinedCoreModel", "cached", "()I"⟩) ∈ gw := gw_4 227 rfl rfl
theorem w949 : (Cond.instanceMethod ⟨"PipelinedCoreModel", "cached", "()I"⟩) ∈ gw := gw_4 229 rfl rfl
theorem w950 : (Cond.code ⟨"PipelinedCoreModel", "cached", "()I"⟩ prog_12_method_39_code 4 (some FieldType.int)) ∈ gw := gw_4 230 rfl rfl
theorem w951 : (Cond.methodLink "PipelinedCoreModel" 314 ⟨"PipelinedCoreModel", "end", "(I)V"⟩) ∈ gw := gw_4 231 rfl rfl
theorem w953 : (Cond.instanceMethod ⟨"PipelinedCoreModel", "end", "(I)V"⟩) ∈ gw := gw_4 233 rfl rfl
theorem w954 : (Cond.code ⟨"PipelinedCoreModel", "end", "(I)V"⟩ prog_12_method_43_code 2 none) ∈ gw := gw_4 234 rfl rfl
theorem w955 : (Cond.methodLink "PipelinedCoreModel" 317 ⟨"PipelinedCoreModel", "shift", "(I)V"⟩) ∈ gw := gw_4 235 rfl rfl
theorem w957 : (Cond.instanceMethod ⟨"PipelinedCoreModel", "shift", "(I)V"⟩) ∈ gw := gw_4 237 rfl rfl
theorem w958 : (Cond.code ⟨"PipelinedCoreModel", "shift", "(I)V"⟩ prog_12_method_44_code 3 none) ∈ gw := gw_4 238 rfl rfl
theorem w959 : (Cond.methodLink "PipelinedCoreLaw" 43 ⟨"PipelinedCoreModel", "reg", "(I)I"⟩) ∈ gw := gw_4 239 rfl rfl
theorem w960 : (Cond.instanceMethod ⟨"PipelinedCoreModel", "reg", "(I)I"⟩) ∈ gw := gw_5 0 rfl rfl
theorem w961 : (Cond.selects "PipelinedCoreModel" ⟨"PipelinedCoreModel", "reg", "(I)I"⟩ ⟨"PipelinedCoreModel", "reg", "(I)I"⟩) ∈ gw := gw_5 1 rfl rfl
theorem w962 : (Cond.code ⟨"PipelinedCoreModel", "reg", "(I)I"⟩ prog_12_method_46_code 2 (some FieldType.int)) ∈ gw := gw_5 2 rfl rfl
theorem w963 : (Cond.methodLink "PipelinedCoreLaw" 47 ⟨"PipelinedCoreModel", "control", "(I)I"⟩) ∈ gw := gw_5 3 rfl rfl
theorem w964 : (Cond.instanceMethod ⟨"PipelinedCoreModel", "control", "(I)I"⟩) ∈ gw := gw_5 4 rfl rfl
theorem w965 : (Cond.selects "PipelinedCoreModel" ⟨"PipelinedCoreModel", "control", "(I)I"⟩ ⟨"PipelinedCoreModel", "control", "(I)I"⟩) ∈ gw := gw_5 5 rfl rfl
theorem w966 : (Cond.code ⟨"PipelinedCoreModel", "control", "(I)I"⟩ prog_12_method_47_code 3 (some FieldType.int)) ∈ gw := gw_5 6 rfl rfl
theorem w967 : (Cond.methodLink "PipelinedCoreLaw" 51 ⟨"PipelinedCoreModel", "word", "(I)I"⟩) ∈ gw := gw_5 7 rfl rfl
theorem w968 : (Cond.instanceMethod ⟨"PipelinedCoreModel", "word", "(I)I"⟩) ∈ gw := gw_5 8 rfl rfl
theorem w969 : (Cond.selects "PipelinedCoreModel" ⟨"PipelinedCoreModel", "word", "(I)I"⟩ ⟨"PipelinedCoreModel", "word", "(I)I"⟩) ∈ gw := gw_5 9 rfl rfl
theorem w970 : (Cond.code ⟨"PipelinedCoreModel", "word", "(I)I"⟩ prog_12_method_48_code 2 (some FieldType.int)) ∈ gw := gw_5 10 rfl rfl
theorem w971 : (Cond.methodLink "PipelinedCoreLaw" 56 ⟨"PipelinedCoreModel", "ended", "(II)I"⟩) ∈ gw := gw_5 11 rfl rfl
theorem w972 : (Cond.instanceMethod ⟨"PipelinedCoreModel", "ended", "(II)I"⟩) ∈ gw := gw_5 12 rfl rfl
theorem w973 : (Cond.selects "PipelinedCoreModel" ⟨"PipelinedCoreModel", "ended", "(II)I"⟩ ⟨"PipelinedCoreModel", "ended", "(II)I"⟩) ∈ gw := gw_5 13 rfl rfl
theorem w974 : (Cond.code ⟨"PipelinedCoreModel", "ended", "(II)I"⟩ prog_12_method_49_code 4 (some FieldType.int)) ∈ gw := gw_5 14 rfl rfl
theorem w975 : (Cond.methodLink "PipelinedCoreLaw" 60 ⟨"PipelinedCoreModel", "stage", "(I)I"⟩) ∈ gw := gw_5 15 rfl rfl
theorem w976 : (Cond.instanceMethod ⟨"PipelinedCoreModel", "stage", "(I)I"⟩) ∈ gw := gw_5 16 rfl rfl
theorem w977 : (Cond.selects "PipelinedCoreModel" ⟨"PipelinedCoreModel", "stage", "(I)I"⟩ ⟨"PipelinedCoreModel", "stage", "(I)I"⟩) ∈ gw := gw_5 17 rfl rfl
theorem w978 : (Cond.code ⟨"PipelinedCoreModel", "stage", "(I)I"⟩ prog_12_method_50_code 5 (some FieldType.int)) ∈ gw := gw_5 18 rfl rfl
theorem w979 : (Cond.methodLink "PipelinedCoreModel" 320 ⟨"PipelinedCoreModel", "ended", "(II)I"⟩) ∈ gw := gw_5 19 rfl rfl
theorem w980 : (Cond.methodLink "PipelinedCoreLaw" 64 ⟨"PipelinedCoreModel", "foretold", "(I)I"⟩) ∈ gw := gw_5 20 rfl rfl
theorem w981 : (Cond.instanceMethod ⟨"PipelinedCoreModel", "foretold", "(I)I"⟩) ∈ gw := gw_5 21 rfl rfl
theorem w982 : (Cond.selects "PipelinedCoreModel" ⟨"PipelinedCoreModel", "foretold", "(I)I"⟩ ⟨"PipelinedCoreModel", "foretold", "(I)I"⟩) ∈ gw := gw_5 22 rfl rfl
theorem w983 : (Cond.code ⟨"PipelinedCoreModel", "foretold", "(I)I"⟩ prog_12_method_51_code 2 (some FieldType.int)) ∈ gw := gw_5 23 rfl rfl
theorem w984 : (Cond.methodLink "PipelinedCoreLaw" 68 ⟨"PipelinedCoreModel", "figure", "(I)I"⟩) ∈ gw := gw_5 24 rfl rfl
theorem w985 : (Cond.instanceMethod ⟨"PipelinedCoreModel", "figure", "(I)I"⟩) ∈ gw := gw_5 25 rfl rfl
theorem w986 : (Cond.selects "PipelinedCoreModel" ⟨"PipelinedCoreModel", "figure", "(I)I"⟩ ⟨"PipelinedCoreModel", "figure", "(I)I"⟩) ∈ gw := gw_5 26 rfl rfl
theorem w987 : (Cond.code ⟨"PipelinedCoreModel", "figure", "(I)I"⟩ prog_12_method_52_code 2 (some FieldType.int)) ∈ gw := gw_5 27 rfl rfl
theorem in_K : ∀ w ∈ u_ws "PipelinedCore" F_K 17, w ∈ gw := by
  intro w hw
  obtain ⟨k, hk, rfl⟩ := List.mem_map.mp hw
  have hk := List.mem_range.mp hk
  match k, hk with
  | 0, _ => exact w280
  | 1, _ => exact w282
  | 2, _ => exact w284
  | 3, _ => exact w286
  | 4, _ => exact w288
  | 5, _ => exact w290
  | 6, _ => exact w292
  | 7, _ => exact w294
  | 8, _ => exact w296
  | 9, _ => exact w298
  | 10, _ => exact w300
  | 11, _ => exact w302
  | 12, _ => exact w304
  | 13, _ => exact w306
  | 14, _ => exact w308
  | 15, _ => exact w310
  | 16, _ => exact w312
  | k + 17, hk => exact absurd hk (by omega)
theorem in_Cac : ∀ w ∈ u_ws "PipelinedCore$Cache" F_Cac 3, w ∈ gw := by
  intro w hw
  obtain ⟨k, hk, rfl⟩ := List.mem_map.mp hw
  have hk := List.mem_range.mp hk
  match k, hk with
  | 0, _ => exact w255
  | 1, _ => exact w257
  | 2, _ => exact w259
  | k + 3, hk => exact absurd hk (by omega)
theorem in_Con : ∀ w ∈ u_ws "PipelinedCore$Controls" F_Con 8, w ∈ gw := by
  intro w hw
  obtain ⟨k, hk, rfl⟩ := List.mem_map.mp hw
  have hk := List.mem_range.mp hk
  match k, hk with
  | 0, _ => exact w36
  | 1, _ => exact w38
  | 2, _ => exact w40
  | 3, _ => exact w42
  | 4, _ => exact w44
  | 5, _ => exact w46
  | 6, _ => exact w48
  | 7, _ => exact w50
  | k + 8, hk => exact absurd hk (by omega)
theorem in_Eff : ∀ w ∈ u_ws "PipelinedCore$Effect" F_Eff 18, w ∈ gw := by
  intro w hw
  obtain ⟨k, hk, rfl⟩ := List.mem_map.mp hw
  have hk := List.mem_range.mp hk
  match k, hk with
  | 0, _ => exact w202
  | 1, _ => exact w204
  | 2, _ => exact w206
  | 3, _ => exact w208
  | 4, _ => exact w210
  | 5, _ => exact w212
  | 6, _ => exact w214
  | 7, _ => exact w216
  | 8, _ => exact w218
  | 9, _ => exact w220
  | 10, _ => exact w222
  | 11, _ => exact w224
  | 12, _ => exact w226
  | 13, _ => exact w228
  | 14, _ => exact w230
  | 15, _ => exact w232
  | 16, _ => exact w234
  | 17, _ => exact w236
  | k + 18, hk => exact absurd hk (by omega)
theorem in_For : ∀ w ∈ u_ws "PipelinedCore$Foreteller" F_For 4, w ∈ gw := by
  intro w hw
  obtain ⟨k, hk, rfl⟩ := List.mem_map.mp hw
  have hk := List.mem_range.mp hk
  match k, hk with
  | 0, _ => exact w77
  | 1, _ => exact w79
  | 2, _ => exact w81
  | 3, _ => exact w83
  | k + 4, hk => exact absurd hk (by omega)
theorem in_His : ∀ w ∈ u_ws "PipelinedCore$History" F_His 3, w ∈ gw := by
  intro w hw
  obtain ⟨k, hk, rfl⟩ := List.mem_map.mp hw
  have hk := List.mem_range.mp hk
  match k, hk with
  | 0, _ => exact w96
  | 1, _ => exact w98
  | 2, _ => exact w100
  | k + 3, hk => exact absurd hk (by omega)
theorem in_Ins : ∀ w ∈ u_ws "PipelinedCore$Instruction" F_Ins 12, w ∈ gw := by
  intro w hw
  obtain ⟨k, hk, rfl⟩ := List.mem_map.mp hw
  have hk := List.mem_range.mp hk
  match k, hk with
  | 0, _ => exact w133
  | 1, _ => exact w135
  | 2, _ => exact w137
  | 3, _ => exact w139
  | 4, _ => exact w141
  | 5, _ => exact w143
  | 6, _ => exact w145
  | 7, _ => exact w147
  | 8, _ => exact w149
  | 9, _ => exact w151
  | 10, _ => exact w153
  | 11, _ => exact w155
  | k + 12, hk => exact absurd hk (by omega)
theorem in_Sto : ∀ w ∈ u_ws "PipelinedCore$Store" F_Sto 1, w ∈ gw := by
  intro w hw
  obtain ⟨k, hk, rfl⟩ := List.mem_map.mp hw
  have hk := List.mem_range.mp hk
  match k, hk with
  | 0, _ => exact w61
  | k + 1, hk => exact absurd hk (by omega)
theorem in_M : ∀ w ∈ u_ws "PipelinedCoreModel" F_M 56, w ∈ gw := by
  intro w hw
  obtain ⟨k, hk, rfl⟩ := List.mem_map.mp hw
  have hk := List.mem_range.mp hk
  match k, hk with
  | 0, _ => exact w670
  | 1, _ => exact w672
  | 2, _ => exact w674
  | 3, _ => exact w676
  | 4, _ => exact w678
  | 5, _ => exact w680
  | 6, _ => exact w682
  | 7, _ => exact w684
  | 8, _ => exact w686
  | 9, _ => exact w688
  | 10, _ => exact w690
  | 11, _ => exact w692
  | 12, _ => exact w694
  | 13, _ => exact w696
  | 14, _ => exact w698
  | 15, _ => exact w700
  | 16, _ => exact w702
  | 17, _ => exact w704
  | 18, _ => exact w706
  | 19, _ => exact w708
  | 20, _ => exact w710
  | 21, _ => exact w712
  | 22, _ => exact w714
  | 23, _ => exact w716
  | 24, _ => exact w718
  | 25, _ => exact w720
  | 26, _ => exact w722
  | 27, _ => exact w724
  | 28, _ => exact w726
  | 29, _ => exact w728
  | 30, _ => exact w730
  | 31, _ => exact w732
  | 32, _ => exact w734
  | 33, _ => exact w736
  | 34, _ => exact w738
  | 35, _ => exact w740
  | 36, _ => exact w742
  | 37, _ => exact w744
  | 38, _ => exact w746
  | 39, _ => exact w748
  | 40, _ => exact w750
  | 41, _ => exact w752
  | 42, _ => exact w754
  | 43, _ => exact w756
  | 44, _ => exact w758
  | 45, _ => exact w760
  | 46, _ => exact w762
  | 47, _ => exact w764
  | 48, _ => exact w766
  | 49, _ => exact w768
  | 50, _ => exact w770
  | 51, _ => exact w772
  | 52, _ => exact w774
  | 53, _ => exact w776
  | 54, _ => exact w778
  | 55, _ => exact w780
  | k + 56, hk => exact absurd hk (by omega)
end
section
/-! the state of a module: rows of ints -/
abbrev St : Type := Nat → Nat → Int32
def st (S : St) (i k : Nat) (v : Int32) : St := fun i' => if i' = i then upd (S i) k v else S i'
/-- a code's instructions, by their places -/
abbrev okAt (cc : ByteArray) (pr : List (Nat × Instr × Nat)) : Prop := ∀ q ∈ pr, decode cc q.1 = .ok (q.2.1, q.2.2)
theorem okAt_at {cc : ByteArray} {pr : List (Nat × Instr × Nat)} {i pc n : Nat} {g : Instr} (h : okAt cc pr) (hi : pr[i]? = some (pc, g, n)) : decode cc pc = .ok (g, n) := h (pc, g, n) (List.mem_of_getElem? hi)
def jushr (x y : Int32) : Int32 := (x.toUInt32 >>> (y.toUInt32 &&& Int32.toUInt32 31)).toInt32
def jrem (x y : Int32) : Int32 := x - x / y * y
def jlrem (x y : Int64) : Int64 := x - x / y * y
def jlshr (x : Int64) (y : Int32) : Int64 := x >>> (y.toInt64 &&& 63)
def jlushr (x : Int64) (y : Int32) : Int64 := (x.toUInt64 >>> (y.toInt64.toUInt64 &&& Int64.toUInt64 63)).toInt64
def jmax (x y : Int32) : Int32 := if x < y then y else x
def jmin (x y : Int32) : Int32 := if y < x then y else x
def isB (x : Int32) : Prop := x = 0 ∨ x = 1
theorem isB_nar {x : Int32} (h : isB x) : narrow .boolean (.int x) = .int x := by
  rcases h with rfl | rfl <;> decide +kernel
theorem isB_fit {x : Int32} (h : isB x) : fits .boolean (.int x) = true := by
  rcases h with rfl | rfl <;> decide +kernel
theorem isB_0 : isB 0 := Or.inl rfl
theorem isB_1 : isB 1 := Or.inr rfl
/-- a field's link, for reading -/
def fg (cl : List vw_C) (own : String) (index ci k : Nat) : Prop := ∃ (Cn : String) (T : u_T) (N : Nat), cl[ci]? = some (Cn, T, N) ∧ (∀ w ∈ u_ws Cn T N, w ∈ gw) ∧ k < N ∧ Cond.fieldLink own index (T k).1 (T k).2.1 (T k).2.2.1 ∈ gw
/-- a field's link, for writing -/
def fp (cl : List vw_C) (own : String) (index ci k : Nat) (ty : FieldType) : Prop := ∃ (Cn : String) (T : u_T) (N : Nat) (ty0 : Nat → FieldType), cl[ci]? = some (Cn, T, N) ∧ (∀ w ∈ u_ws Cn T N, w ∈ gw) ∧ k < N ∧ Cond.fieldLink own index (T k).1 (T k).2.1 (T k).2.2.1 ∈ gw ∧ (∀ k, k < N → parseFieldDescriptor (T k).2.2.1 = some (ty0 k)) ∧ (∀ a, a < N → ∀ b, b < N → a ≠ b → (T a).2.1 ≠ (T b).2.1) ∧ (T k).2.2.2 = false ∧ parseFieldDescriptor (T k).2.2.1 = some ty
/-- what a call needs of a method with a receiver, of one without -/
def mI (y : MethodName) (bytes : ByteArray) (maxL : Nat) (ret : Option FieldType) (n : Nat) : Prop := Cond.instanceMethod y ∈ gw ∧ Cond.selects y.cls y y ∈ gw ∧ Cond.initialized y.cls ∈ gw ∧ Cond.code y bytes maxL ret ∈ gw ∧ y.cls ≠ "java/lang/invoke/MethodHandle" ∧ y.cls ≠ "java/lang/invoke/VarHandle" ∧ (parseMethodDescriptor y.desc).map (fun d => d.parameters.length) = some n
def mS (y : MethodName) (bytes : ByteArray) (maxL : Nat) (ret : Option FieldType) (n : Nat) : Prop := Cond.static y ∈ gw ∧ Cond.initialized y.cls ∈ gw ∧ Cond.code y bytes maxL ret ∈ gw ∧ y.cls ≠ "java/lang/invoke/MethodHandle" ∧ y.cls ≠ "java/lang/invoke/VarHandle" ∧ (parseMethodDescriptor y.desc).map (fun d => d.parameters.length) = some n
theorem gw_code {y : MethodName} {bytes : ByteArray} {maxL : Nat} {ret : Option FieldType} (h : Cond.code y bytes maxL ret ∈ gw) : GoodIn gw (Cond.code y bytes maxL ret :: gw) := fun w hw => by
  have hw' : w ∈ gw := by
    rcases List.mem_cons.mp hw with e | e
    · rw [e]; exact h
    · exact e
  exact ⟨hw', good_of_word (List.mem_filter.mp hw').2⟩
/-- a contract's start and end over a world -/
def PK (D : va_G) (cl : List vw_C) (tys : List (ClassId × FieldType)) (ws : va_W) (sz : Nat) (U : State) : Prop := U.heap.size = sz ∧ va_P D cl ws U.heap ∧ va_K D cl tys U ∧ va_D (fun _ => True) ws
def QK (D : va_G) (cl : List vw_C) (tys : List (ClassId × FieldType)) (A : Nat → Prop) (ws : va_W) (t : State) : Prop := va_P D cl ws t.heap ∧ va_K D cl tys t ∧ va_D A ws
/-- a switch by keys -/
def swP (x : Int32) (P : Nat → Prop) (d : Nat) : List (Int32 × Nat) → Prop
  | [] => P d
  | q :: r => (x = q.1 → P q.2) ∧ (¬ x = q.1 → swP x P d r)
theorem swP_off {x : Int32} {P : Nat → Prop} {d pc : Nat} {dflt : Int} (hd : (pc : Int) + dflt = (d : Int)) : ∀ (ks : List (Int32 × Nat)), swP x P d ks → ∃ t : Nat, P t ∧ (pc : Int) + Op.lookupswitch.offset (ks.map fun q => (q.1.toInt, (q.2 : Int) - (pc : Int))) dflt x.toInt = (t : Int)
  | [], h => ⟨d, h, hd⟩
  | q :: r, h => by
    by_cases c : x = q.1
    · refine ⟨q.2, h.1 c, ?_⟩
      rw [List.map_cons, Op.lookupswitch.offset_cons, if_pos (by rw [c])]
      omega
    · obtain ⟨t, h1, h2⟩ := swP_off hd r (h.2 c)
      refine ⟨t, h1, ?_⟩
      rw [List.map_cons, lv_osw c rfl]
      exact h2
theorem swP_case {x : Int32} {P : Nat → Prop} {d : Nat} : ∀ (ks : List (Int32 × Nat)), swP x P d ks → (∃ q ∈ ks, x = q.1 ∧ P q.2) ∨ ((∀ q ∈ ks, ¬ x = q.1) ∧ P d)
  | [], h => Or.inr ⟨fun _ h => absurd h List.not_mem_nil, h⟩
  | q :: r, h => by
    by_cases c : x = q.1
    · exact Or.inl ⟨q, List.mem_cons_self, c, h.1 c⟩
    · rcases swP_case r (h.2 c) with ⟨q', h1, h2⟩ | ⟨h1, h2⟩
      · exact Or.inl ⟨q', List.mem_cons_of_mem _ h1, h2⟩
      · refine Or.inr ⟨fun q' hq => ?_, h2⟩
        rcases List.mem_cons.mp hq with rfl | hq
        · exact c
        · exact h1 q' hq
section JR
variable {p : Program} {l : Launch} {e : Env} {R : Room} {s : State} {m : MethodId} {args : Array Value} {below : List Frame} {meth : Method} {c : Code} {Q : State → Prop} {cc : ByteArray} {nL : Nat} {own : String} {ret : Option FieldType} {pr : List (Nat × Instr × Nat)} {D : va_G} {cl : List vw_C} {tys : List (ClassId × FieldType)} {A : Nat → Prop} {kc ks : Nat} {ws : va_W} {lv : List (Nat × Value)} {pc : Nat} {rs : List Value}
/-- the fixed things of a walk -/
def CX (p : Program) (R : Room) (s : State) (m : MethodId) (args : Array Value) (meth : Method) (c : Code) (cc : ByteArray) (nL : Nat) (own : String) (ret : Option FieldType) (pr : List (Nat × Instr × Nat)) (D : va_G) (cl : List vw_C) (tys : List (ClassId × FieldType)) (A : Nat → Prop) : Prop :=
  CallFix p m c cc nL s args gw own ∧ va_K D cl tys s ∧ (∀ q, s.heap.size ≤ q → A q) ∧ okAt cc pr ∧ meth.sig.returnType = ret ∧ meth.locks = false
/-- the machine comes from here to Q, whatever heap holds the world, whatever frame holds the numbers -/
def J (p : Program) (l : Launch) (e : Env) (R : Room) (s : State) (m : MethodId) (args : Array Value) (below : List Frame) (meth : Method) (c : Code) (nL : Nat) (D : va_G) (cl : List vw_C) (A : Nat → Prop) (kc ks : Nat) (Q : State → Prop) (ws : va_W) (lv : List (Nat × Value)) (pc : Nat) (rs : List Value) : Prop :=
  ∀ (H : Heap) (locs : List Loc) (ls : Array Slot), va_P D cl ws H → va_D A ws → va_S A s.heap H locs → lv_has ls nL lv → W p l e R s m args below meth c H locs kc ks Q (F0 m pc ls rs)
theorem j_iadd (C : CX p R s m args meth c cc nL own ret pr D cl tys A) (i n : Nat) {x y : Int32} (hi : pr[i]? = some (pc, .iadd, 1)) (hn : pc + 1 = n)  (k : J p l e R s m args below meth c nL D cl A kc ks Q ws lv n (.int (x + y) :: rs)) : J p l e R s m args below meth c nL D cl A kc ks Q ws lv pc (.int y :: .int x :: rs) := by
  subst hn
  intro H locs ls hP hD hS hl
  exact lv_iadd C.1.1 C.1.2.1 (okAt_at C.2.2.2.1 hi) (k H locs ls hP hD hS hl)
theorem j_isub (C : CX p R s m args meth c cc nL own ret pr D cl tys A) (i n : Nat) {x y : Int32} (hi : pr[i]? = some (pc, .isub, 1)) (hn : pc + 1 = n)  (k : J p l e R s m args below meth c nL D cl A kc ks Q ws lv n (.int (x - y) :: rs)) : J p l e R s m args below meth c nL D cl A kc ks Q ws lv pc (.int y :: .int x :: rs) := by
  subst hn
  intro H locs ls hP hD hS hl
  exact lv_isub C.1.1 C.1.2.1 (okAt_at C.2.2.2.1 hi) (k H locs ls hP hD hS hl)
theorem j_imul (C : CX p R s m args meth c cc nL own ret pr D cl tys A) (i n : Nat) {x y : Int32} (hi : pr[i]? = some (pc, .imul, 1)) (hn : pc + 1 = n)  (k : J p l e R s m args below meth c nL D cl A kc ks Q ws lv n (.int (x * y) :: rs)) : J p l e R s m args below meth c nL D cl A kc ks Q ws lv pc (.int y :: .int x :: rs) := by
  subst hn
  intro H locs ls hP hD hS hl
  exact lv_imul C.1.1 C.1.2.1 (okAt_at C.2.2.2.1 hi) (k H locs ls hP hD hS hl)
theorem j_iand (C : CX p R s m args meth c cc nL own ret pr D cl tys A) (i n : Nat) {x y : Int32} (hi : pr[i]? = some (pc, .iand, 1)) (hn : pc + 1 = n)  (k : J p l e R s m args below meth c nL D cl A kc ks Q ws lv n (.int (x &&& y) :: rs)) : J p l e R s m args below meth c nL D cl A kc ks Q ws lv pc (.int y :: .int x :: rs) := by
  subst hn
  intro H locs ls hP hD hS hl
  exact lv_iand C.1.1 C.1.2.1 (okAt_at C.2.2.2.1 hi) (k H locs ls hP hD hS hl)
theorem j_ior (C : CX p R s m args meth c cc nL own ret pr D cl tys A) (i n : Nat) {x y : Int32} (hi : pr[i]? = some (pc, .ior, 1)) (hn : pc + 1 = n)  (k : J p l e R s m args below meth c nL D cl A kc ks Q ws lv n (.int (x ||| y) :: rs)) : J p l e R s m args below meth c nL D cl A kc ks Q ws lv pc (.int y :: .int x :: rs) := by
  subst hn
  intro H locs ls hP hD hS hl
  exact lv_ior C.1.1 C.1.2.1 (okAt_at C.2.2.2.1 hi) (k H locs ls hP hD hS hl)
theorem j_ixor (C : CX p R s m args meth c cc nL own ret pr D cl tys A) (i n : Nat) {x y : Int32} (hi : pr[i]? = some (pc, .ixor, 1)) (hn : pc + 1 = n)  (k : J p l e R s m args below meth c nL D cl A kc ks Q ws lv n (.int (x ^^^ y) :: rs)) : J p l e R s m args below meth c nL D cl A kc ks Q ws lv pc (.int y :: .int x :: rs) := by
  subst hn
  intro H locs ls hP hD hS hl
  exact lv_ixor C.1.1 C.1.2.1 (okAt_at C.2.2.2.1 hi) (k H locs ls hP hD hS hl)
theorem j_ishl (C : CX p R s m args meth c cc nL own ret pr D cl tys A) (i n : Nat) {x y : Int32} (hi : pr[i]? = some (pc, .ishl, 1)) (hn : pc + 1 = n)  (k : J p l e R s m args below meth c nL D cl A kc ks Q ws lv n (.int (x <<< (y &&& 31)) :: rs)) : J p l e R s m args below meth c nL D cl A kc ks Q ws lv pc (.int y :: .int x :: rs) := by
  subst hn
  intro H locs ls hP hD hS hl
  exact lv_ishl C.1.1 C.1.2.1 (okAt_at C.2.2.2.1 hi) (k H locs ls hP hD hS hl)
theorem j_ishr (C : CX p R s m args meth c cc nL own ret pr D cl tys A) (i n : Nat) {x y : Int32} (hi : pr[i]? = some (pc, .ishr, 1)) (hn : pc + 1 = n)  (k : J p l e R s m args below meth c nL D cl A kc ks Q ws lv n (.int (x >>> (y &&& 31)) :: rs)) : J p l e R s m args below meth c nL D cl A kc ks Q ws lv pc (.int y :: .int x :: rs) := by
  subst hn
  intro H locs ls hP hD hS hl
  exact lv_ishr C.1.1 C.1.2.1 (okAt_at C.2.2.2.1 hi) (k H locs ls hP hD hS hl)
theorem j_iushr (C : CX p R s m args meth c cc nL own ret pr D cl tys A) (i n : Nat) {x y : Int32} (hi : pr[i]? = some (pc, .iushr, 1)) (hn : pc + 1 = n)  (k : J p l e R s m args below meth c nL D cl A kc ks Q ws lv n (.int (jushr x y) :: rs)) : J p l e R s m args below meth c nL D cl A kc ks Q ws lv pc (.int y :: .int x :: rs) := by
  subst hn
  intro H locs ls hP hD hS hl
  exact lv_iushr C.1.1 C.1.2.1 (okAt_at C.2.2.2.1 hi) rfl (k H locs ls hP hD hS hl)
theorem j_idiv (C : CX p R s m args meth c cc nL own ret pr D cl tys A) (i n : Nat) {x y : Int32} (hi : pr[i]? = some (pc, .idiv, 1)) (hn : pc + 1 = n) (h : ¬ y = 0) (k : J p l e R s m args below meth c nL D cl A kc ks Q ws lv n (.int (x / y) :: rs)) : J p l e R s m args below meth c nL D cl A kc ks Q ws lv pc (.int y :: .int x :: rs) := by
  subst hn
  intro H locs ls hP hD hS hl
  exact lv_idiv C.1.1 C.1.2.1 (okAt_at C.2.2.2.1 hi) h (k H locs ls hP hD hS hl)
theorem j_irem (C : CX p R s m args meth c cc nL own ret pr D cl tys A) (i n : Nat) {x y : Int32} (hi : pr[i]? = some (pc, .irem, 1)) (hn : pc + 1 = n) (h : ¬ y = 0) (k : J p l e R s m args below meth c nL D cl A kc ks Q ws lv n (.int (jrem x y) :: rs)) : J p l e R s m args below meth c nL D cl A kc ks Q ws lv pc (.int y :: .int x :: rs) := by
  subst hn
  intro H locs ls hP hD hS hl
  exact lv_irem C.1.1 C.1.2.1 (okAt_at C.2.2.2.1 hi) h (k H locs ls hP hD hS hl)
theorem j_ladd (C : CX p R s m args meth c cc nL own ret pr D cl tys A) (i n : Nat) {x y : Int64} (hi : pr[i]? = some (pc, .ladd, 1)) (hn : pc + 1 = n)  (k : J p l e R s m args below meth c nL D cl A kc ks Q ws lv n (.long (x + y) :: rs)) : J p l e R s m args below meth c nL D cl A kc ks Q ws lv pc (.long y :: .long x :: rs) := by
  subst hn
  intro H locs ls hP hD hS hl
  exact lv_ladd C.1.1 C.1.2.1 (okAt_at C.2.2.2.1 hi) (k H locs ls hP hD hS hl)
theorem j_lsub (C : CX p R s m args meth c cc nL own ret pr D cl tys A) (i n : Nat) {x y : Int64} (hi : pr[i]? = some (pc, .lsub, 1)) (hn : pc + 1 = n)  (k : J p l e R s m args below meth c nL D cl A kc ks Q ws lv n (.long (x - y) :: rs)) : J p l e R s m args below meth c nL D cl A kc ks Q ws lv pc (.long y :: .long x :: rs) := by
  subst hn
  intro H locs ls hP hD hS hl
  exact lv_lsub C.1.1 C.1.2.1 (okAt_at C.2.2.2.1 hi) (k H locs ls hP hD hS hl)
theorem j_lmul (C : CX p R s m args meth c cc nL own ret pr D cl tys A) (i n : Nat) {x y : Int64} (hi : pr[i]? = some (pc, .lmul, 1)) (hn : pc + 1 = n)  (k : J p l e R s m args below meth c nL D cl A kc ks Q ws lv n (.long (x * y) :: rs)) : J p l e R s m args below meth c nL D cl A kc ks Q ws lv pc (.long y :: .long x :: rs) := by
  subst hn
  intro H locs ls hP hD hS hl
  exact lv_lmul C.1.1 C.1.2.1 (okAt_at C.2.2.2.1 hi) (k H locs ls hP hD hS hl)
theorem j_land (C : CX p R s m args meth c cc nL own ret pr D cl tys A) (i n : Nat) {x y : Int64} (hi : pr[i]? = some (pc, .land, 1)) (hn : pc + 1 = n)  (k : J p l e R s m args below meth c nL D cl A kc ks Q ws lv n (.long (x &&& y) :: rs)) : J p l e R s m args below meth c nL D cl A kc ks Q ws lv pc (.long y :: .long x :: rs) := by
  subst hn
  intro H locs ls hP hD hS hl
  exact lv_land C.1.1 C.1.2.1 (okAt_at C.2.2.2.1 hi) (k H locs ls hP hD hS hl)
theorem j_lor (C : CX p R s m args meth c cc nL own ret pr D cl tys A) (i n : Nat) {x y : Int64} (hi : pr[i]? = some (pc, .lor, 1)) (hn : pc + 1 = n)  (k : J p l e R s m args below meth c nL D cl A kc ks Q ws lv n (.long (x ||| y) :: rs)) : J p l e R s m args below meth c nL D cl A kc ks Q ws lv pc (.long y :: .long x :: rs) := by
  subst hn
  intro H locs ls hP hD hS hl
  exact lv_lor C.1.1 C.1.2.1 (okAt_at C.2.2.2.1 hi) (k H locs ls hP hD hS hl)
theorem j_lxor (C : CX p R s m args meth c cc nL own ret pr D cl tys A) (i n : Nat) {x y : Int64} (hi : pr[i]? = some (pc, .lxor, 1)) (hn : pc + 1 = n)  (k : J p l e R s m args below meth c nL D cl A kc ks Q ws lv n (.long (x ^^^ y) :: rs)) : J p l e R s m args below meth c nL D cl A kc ks Q ws lv pc (.long y :: .long x :: rs) := by
  subst hn
  intro H locs ls hP hD hS hl
  exact lv_lxor C.1.1 C.1.2.1 (okAt_at C.2.2.2.1 hi) (k H locs ls hP hD hS hl)
theorem j_ldiv (C : CX p R s m args meth c cc nL own ret pr D cl tys A) (i n : Nat) {x y : Int64} (hi : pr[i]? = some (pc, .ldiv, 1)) (hn : pc + 1 = n) (h : ¬ y = 0) (k : J p l e R s m args below meth c nL D cl A kc ks Q ws lv n (.long (x / y) :: rs)) : J p l e R s m args below meth c nL D cl A kc ks Q ws lv pc (.long y :: .long x :: rs) := by
  subst hn
  intro H locs ls hP hD hS hl
  exact lv_ldiv C.1.1 C.1.2.1 (okAt_at C.2.2.2.1 hi) h (k H locs ls hP hD hS hl)
theorem j_lrem (C : CX p R s m args meth c cc nL own ret pr D cl tys A) (i n : Nat) {x y : Int64} (hi : pr[i]? = some (pc, .lrem, 1)) (hn : pc + 1 = n) (h : ¬ y = 0) (k : J p l e R s m args below meth c nL D cl A kc ks Q ws lv n (.long (jlrem x y) :: rs)) : J p l e R s m args below meth c nL D cl A kc ks Q ws lv pc (.long y :: .long x :: rs) := by
  subst hn
  intro H locs ls hP hD hS hl
  exact lv_lrem C.1.1 C.1.2.1 (okAt_at C.2.2.2.1 hi) h (k H locs ls hP hD hS hl)
theorem j_lshr (C : CX p R s m args meth c cc nL own ret pr D cl tys A) (i n : Nat) {x : Int64} {y : Int32} (hi : pr[i]? = some (pc, .lshr, 1)) (hn : pc + 1 = n)  (k : J p l e R s m args below meth c nL D cl A kc ks Q ws lv n (.long (jlshr x y) :: rs)) : J p l e R s m args below meth c nL D cl A kc ks Q ws lv pc (.int y :: .long x :: rs) := by
  subst hn
  intro H locs ls hP hD hS hl
  exact lv_lshr C.1.1 C.1.2.1 (okAt_at C.2.2.2.1 hi) rfl (k H locs ls hP hD hS hl)
theorem j_lushr (C : CX p R s m args meth c cc nL own ret pr D cl tys A) (i n : Nat) {x : Int64} {y : Int32} (hi : pr[i]? = some (pc, .lushr, 1)) (hn : pc + 1 = n)  (k : J p l e R s m args below meth c nL D cl A kc ks Q ws lv n (.long (jlushr x y) :: rs)) : J p l e R s m args below meth c nL D cl A kc ks Q ws lv pc (.int y :: .long x :: rs) := by
  subst hn
  intro H locs ls hP hD hS hl
  exact lv_lushr C.1.1 C.1.2.1 (okAt_at C.2.2.2.1 hi) rfl (k H locs ls hP hD hS hl)
theorem j_lcmp (C : CX p R s m args meth c cc nL own ret pr D cl tys A) (i n : Nat) {x y : Int64} (hi : pr[i]? = some (pc, .lcmp, 1)) (hn : pc + 1 = n)  (k : J p l e R s m args below meth c nL D cl A kc ks Q ws lv n (.int (lg_cmp x y) :: rs)) : J p l e R s m args below meth c nL D cl A kc ks Q ws lv pc (.long y :: .long x :: rs) := by
  subst hn
  intro H locs ls hP hD hS hl
  exact W.lcmp C.1.1 C.1.2.1 (okAt_at C.2.2.2.1 hi) (k H locs ls hP hD hS hl)
theorem j_i2l (C : CX p R s m args meth c cc nL own ret pr D cl tys A) (i n : Nat) {x : Int32} (hi : pr[i]? = some (pc, .i2l, 1)) (hn : pc + 1 = n)  (k : J p l e R s m args below meth c nL D cl A kc ks Q ws lv n (.long x.toInt64 :: rs)) : J p l e R s m args below meth c nL D cl A kc ks Q ws lv pc (.int x :: rs) := by
  subst hn
  intro H locs ls hP hD hS hl
  exact lv_i2l C.1.1 C.1.2.1 (okAt_at C.2.2.2.1 hi) rfl (k H locs ls hP hD hS hl)
theorem j_l2i (C : CX p R s m args meth c cc nL own ret pr D cl tys A) (i n : Nat) {x : Int64} (hi : pr[i]? = some (pc, .l2i, 1)) (hn : pc + 1 = n)  (k : J p l e R s m args below meth c nL D cl A kc ks Q ws lv n (.int x.toInt32 :: rs)) : J p l e R s m args below meth c nL D cl A kc ks Q ws lv pc (.long x :: rs) := by
  subst hn
  intro H locs ls hP hD hS hl
  exact lv_l2i C.1.1 C.1.2.1 (okAt_at C.2.2.2.1 hi) rfl (k H locs ls hP hD hS hl)
theorem j_i2b (C : CX p R s m args meth c cc nL own ret pr D cl tys A) (i n : Nat) {x : Int32} (hi : pr[i]? = some (pc, .i2b, 1)) (hn : pc + 1 = n)  (k : J p l e R s m args below meth c nL D cl A kc ks Q ws lv n (.int x.toInt8.toInt32 :: rs)) : J p l e R s m args below meth c nL D cl A kc ks Q ws lv pc (.int x :: rs) := by
  subst hn
  intro H locs ls hP hD hS hl
  exact lv_i2b C.1.1 C.1.2.1 (okAt_at C.2.2.2.1 hi) rfl (k H locs ls hP hD hS hl)
theorem j_i2s (C : CX p R s m args meth c cc nL own ret pr D cl tys A) (i n : Nat) {x : Int32} (hi : pr[i]? = some (pc, .i2s, 1)) (hn : pc + 1 = n)  (k : J p l e R s m args below meth c nL D cl A kc ks Q ws lv n (.int x.toInt16.toInt32 :: rs)) : J p l e R s m args below meth c nL D cl A kc ks Q ws lv pc (.int x :: rs) := by
  subst hn
  intro H locs ls hP hD hS hl
  exact lv_i2s C.1.1 C.1.2.1 (okAt_at C.2.2.2.1 hi) rfl (k H locs ls hP hD hS hl)
theorem j_iconst (C : CX p R s m args meth c cc nL own ret pr D cl tys A) (i n : Nat) {z : Int} {v : Int32} (hi : pr[i]? = some (pc, .iconst z, 1)) (hn : pc + 1 = n) (hv : Int32.ofInt z = v) (k : J p l e R s m args below meth c nL D cl A kc ks Q ws lv n (.int v :: rs)) : J p l e R s m args below meth c nL D cl A kc ks Q ws lv pc rs := by
  subst hn
  intro H locs ls hP hD hS hl
  exact lv_iconst C.1.1 C.1.2.1 (okAt_at C.2.2.2.1 hi) hv (k H locs ls hP hD hS hl)
theorem j_bipush (C : CX p R s m args meth c cc nL own ret pr D cl tys A) (i n : Nat) {z : Int} {v : Int32} (hi : pr[i]? = some (pc, .bipush z, 2)) (hn : pc + 2 = n) (hv : (Int8.ofInt z).toInt32 = v) (k : J p l e R s m args below meth c nL D cl A kc ks Q ws lv n (.int v :: rs)) : J p l e R s m args below meth c nL D cl A kc ks Q ws lv pc rs := by
  subst hn
  intro H locs ls hP hD hS hl
  exact lv_bipush C.1.1 C.1.2.1 (okAt_at C.2.2.2.1 hi) hv (k H locs ls hP hD hS hl)
theorem j_sipush (C : CX p R s m args meth c cc nL own ret pr D cl tys A) (i n : Nat) {z : Int} {v : Int32} (hi : pr[i]? = some (pc, .sipush z, 3)) (hn : pc + 3 = n) (hv : (Int16.ofInt z).toInt32 = v) (k : J p l e R s m args below meth c nL D cl A kc ks Q ws lv n (.int v :: rs)) : J p l e R s m args below meth c nL D cl A kc ks Q ws lv pc rs := by
  subst hn
  intro H locs ls hP hD hS hl
  exact lv_sipush C.1.1 C.1.2.1 (okAt_at C.2.2.2.1 hi) hv (k H locs ls hP hD hS hl)
theorem j_ldc (C : CX p R s m args meth c cc nL own ret pr D cl tys A) (i n : Nat) {x : Nat} {v : Int32} (hi : pr[i]? = some (pc, .ldc x, 2)) (hn : pc + 2 = n) (hv : Cond.constant own x v ∈ gw) (k : J p l e R s m args below meth c nL D cl A kc ks Q ws lv n (.int v :: rs)) : J p l e R s m args below meth c nL D cl A kc ks Q ws lv pc rs := by
  subst hn
  intro H locs ls hP hD hS hl
  exact lv_ldc C.1.1 C.1.2.1 C.1.2.2.2.1 (C.1.2.2.2.2 _ hv) (okAt_at C.2.2.2.1 hi) (k H locs ls hP hD hS hl)
theorem j_ldc_w (C : CX p R s m args meth c cc nL own ret pr D cl tys A) (i n : Nat) {x : Nat} {v : Int32} (hi : pr[i]? = some (pc, .ldc_w x, 3)) (hn : pc + 3 = n) (hv : Cond.constant own x v ∈ gw) (k : J p l e R s m args below meth c nL D cl A kc ks Q ws lv n (.int v :: rs)) : J p l e R s m args below meth c nL D cl A kc ks Q ws lv pc rs := by
  subst hn
  intro H locs ls hP hD hS hl
  exact lv_ldcw C.1.1 C.1.2.1 C.1.2.2.2.1 (C.1.2.2.2.2 _ hv) (okAt_at C.2.2.2.1 hi) (k H locs ls hP hD hS hl)
theorem j_ldc2_w (C : CX p R s m args meth c cc nL own ret pr D cl tys A) (i n : Nat) {x : Nat} {v : Int64} (hi : pr[i]? = some (pc, .ldc2_w x, 3)) (hn : pc + 3 = n) (hv : Cond.constantLong own x v ∈ gw) (k : J p l e R s m args below meth c nL D cl A kc ks Q ws lv n (.long v :: rs)) : J p l e R s m args below meth c nL D cl A kc ks Q ws lv pc rs := by
  subst hn
  intro H locs ls hP hD hS hl
  exact lv_ldc2 C.1.1 C.1.2.1 C.1.2.2.2.1 (C.1.2.2.2.2 _ hv) (okAt_at C.2.2.2.1 hi) (k H locs ls hP hD hS hl)
theorem j_iload_n (C : CX p R s m args meth c cc nL own ret pr D cl tys A) (i n : Nat) {t : Fin 4} {j : Nat} {x : Int32} (hi : pr[i]? = some (pc, .iload_n t, 1)) (hn : pc + 1 = n) (hj : (t : Nat) = j) (q : Nat) (hq : lv[q]? = some (j, .int x)) (k : J p l e R s m args below meth c nL D cl A kc ks Q ws lv n (.int x :: rs)) : J p l e R s m args below meth c nL D cl A kc ks Q ws lv pc rs := by
  subst hn
  intro H locs ls hP hD hS hl
  exact lv_iload_n C.1.1 C.1.2.1 (okAt_at C.2.2.2.1 hi) hj (lv_at hl q hq) (k H locs ls hP hD hS hl)
theorem j_iload (C : CX p R s m args meth c cc nL own ret pr D cl tys A) (i n : Nat) {j : Nat} {x : Int32} (hi : pr[i]? = some (pc, .iload j, 2)) (hn : pc + 2 = n) (q : Nat) (hq : lv[q]? = some (j, .int x)) (k : J p l e R s m args below meth c nL D cl A kc ks Q ws lv n (.int x :: rs)) : J p l e R s m args below meth c nL D cl A kc ks Q ws lv pc rs := by
  subst hn
  intro H locs ls hP hD hS hl
  exact lv_iload C.1.1 C.1.2.1 (okAt_at C.2.2.2.1 hi) (lv_at hl q hq) (k H locs ls hP hD hS hl)
theorem j_lload_n (C : CX p R s m args meth c cc nL own ret pr D cl tys A) (i n : Nat) {t : Fin 4} {j : Nat} {x : Int64} (hi : pr[i]? = some (pc, .lload_n t, 1)) (hn : pc + 1 = n) (hj : (t : Nat) = j) (q : Nat) (hq : lv[q]? = some (j, .long x)) (k : J p l e R s m args below meth c nL D cl A kc ks Q ws lv n (.long x :: rs)) : J p l e R s m args below meth c nL D cl A kc ks Q ws lv pc rs := by
  subst hn
  intro H locs ls hP hD hS hl
  exact lv_lload_n C.1.1 C.1.2.1 (okAt_at C.2.2.2.1 hi) hj (lv_at hl q hq) (k H locs ls hP hD hS hl)
theorem j_lload (C : CX p R s m args meth c cc nL own ret pr D cl tys A) (i n : Nat) {j : Nat} {x : Int64} (hi : pr[i]? = some (pc, .lload j, 2)) (hn : pc + 2 = n) (q : Nat) (hq : lv[q]? = some (j, .long x)) (k : J p l e R s m args below meth c nL D cl A kc ks Q ws lv n (.long x :: rs)) : J p l e R s m args below meth c nL D cl A kc ks Q ws lv pc rs := by
  subst hn
  intro H locs ls hP hD hS hl
  exact lv_lload C.1.1 C.1.2.1 (okAt_at C.2.2.2.1 hi) (lv_at hl q hq) (k H locs ls hP hD hS hl)
theorem j_aload_n (C : CX p R s m args meth c cc nL own ret pr D cl tys A) (i n : Nat) {t : Fin 4} {j : Nat} {x : Nat} (hi : pr[i]? = some (pc, .aload_n t, 1)) (hn : pc + 1 = n) (hj : (t : Nat) = j) (q : Nat) (hq : lv[q]? = some (j, .ref x)) (k : J p l e R s m args below meth c nL D cl A kc ks Q ws lv n (.ref x :: rs)) : J p l e R s m args below meth c nL D cl A kc ks Q ws lv pc rs := by
  subst hn
  intro H locs ls hP hD hS hl
  exact lv_aload_n C.1.1 C.1.2.1 (okAt_at C.2.2.2.1 hi) hj (lv_at hl q hq) (k H locs ls hP hD hS hl)
theorem j_aload (C : CX p R s m args meth c cc nL own ret pr D cl tys A) (i n : Nat) {j : Nat} {x : Nat} (hi : pr[i]? = some (pc, .aload j, 2)) (hn : pc + 2 = n) (q : Nat) (hq : lv[q]? = some (j, .ref x)) (k : J p l e R s m args below meth c nL D cl A kc ks Q ws lv n (.ref x :: rs)) : J p l e R s m args below meth c nL D cl A kc ks Q ws lv pc rs := by
  subst hn
  intro H locs ls hP hD hS hl
  exact lv_aload C.1.1 C.1.2.1 (okAt_at C.2.2.2.1 hi) (lv_at hl q hq) (k H locs ls hP hD hS hl)
theorem j_istore_n (C : CX p R s m args meth c cc nL own ret pr D cl tys A) (i n : Nat) {t : Fin 4} {j : Nat} {x : Int32} (lv' : List (Nat × Value)) (hi : pr[i]? = some (pc, .istore_n t, 1)) (hn : pc + 1 = n) (hj : (t : Nat) = j) (hlim : j < nL) (hf : (j, Value.int x) :: lv.filter (fun q => !(q.1 == j) && !(q.1 + 1 == j && q.2.category == 2)) = lv') (k : J p l e R s m args below meth c nL D cl A kc ks Q ws lv' n rs) : J p l e R s m args below meth c nL D cl A kc ks Q ws lv pc (.int x :: rs) := by
  subst hn
  intro H locs ls hP hD hS hl
  exact lv_istore_n C.1.1 C.1.2.1 (okAt_at C.2.2.2.1 hi) hj hl hlim hf (fun ls hl => k H locs ls hP hD hS hl)
theorem j_istore (C : CX p R s m args meth c cc nL own ret pr D cl tys A) (i n : Nat) {j : Nat} {x : Int32} (lv' : List (Nat × Value)) (hi : pr[i]? = some (pc, .istore j, 2)) (hn : pc + 2 = n) (hlim : j < nL) (hf : (j, Value.int x) :: lv.filter (fun q => !(q.1 == j) && !(q.1 + 1 == j && q.2.category == 2)) = lv') (k : J p l e R s m args below meth c nL D cl A kc ks Q ws lv' n rs) : J p l e R s m args below meth c nL D cl A kc ks Q ws lv pc (.int x :: rs) := by
  subst hn
  intro H locs ls hP hD hS hl
  exact lv_istore C.1.1 C.1.2.1 (okAt_at C.2.2.2.1 hi) hl hlim hf (fun ls hl => k H locs ls hP hD hS hl)
theorem j_lstore_n (C : CX p R s m args meth c cc nL own ret pr D cl tys A) (i n : Nat) {t : Fin 4} {j : Nat} {x : Int64} (lv' : List (Nat × Value)) (hi : pr[i]? = some (pc, .lstore_n t, 1)) (hn : pc + 1 = n) (hj : (t : Nat) = j) (hlim : j + 1 < nL) (hf : (j, Value.long x) :: lv.filter (fun q => !(q.1 == j) && (!(q.1 == j + 1) && !(q.1 + 1 == j && q.2.category == 2))) = lv') (k : J p l e R s m args below meth c nL D cl A kc ks Q ws lv' n rs) : J p l e R s m args below meth c nL D cl A kc ks Q ws lv pc (.long x :: rs) := by
  subst hn
  intro H locs ls hP hD hS hl
  exact lv_lstore_n C.1.1 C.1.2.1 (okAt_at C.2.2.2.1 hi) hj hl hlim hf (fun ls hl => k H locs ls hP hD hS hl)
theorem j_lstore (C : CX p R s m args meth c cc nL own ret pr D cl tys A) (i n : Nat) {j : Nat} {x : Int64} (lv' : List (Nat × Value)) (hi : pr[i]? = some (pc, .lstore j, 2)) (hn : pc + 2 = n) (hlim : j + 1 < nL) (hf : (j, Value.long x) :: lv.filter (fun q => !(q.1 == j) && (!(q.1 == j + 1) && !(q.1 + 1 == j && q.2.category == 2))) = lv') (k : J p l e R s m args below meth c nL D cl A kc ks Q ws lv' n rs) : J p l e R s m args below meth c nL D cl A kc ks Q ws lv pc (.long x :: rs) := by
  subst hn
  intro H locs ls hP hD hS hl
  exact lv_lstore C.1.1 C.1.2.1 (okAt_at C.2.2.2.1 hi) hl hlim hf (fun ls hl => k H locs ls hP hD hS hl)
theorem j_astore_n (C : CX p R s m args meth c cc nL own ret pr D cl tys A) (i n : Nat) {t : Fin 4} {j : Nat} {x : Nat} (lv' : List (Nat × Value)) (hi : pr[i]? = some (pc, .astore_n t, 1)) (hn : pc + 1 = n) (hj : (t : Nat) = j) (hlim : j < nL) (hf : (j, Value.ref x) :: lv.filter (fun q => !(q.1 == j) && !(q.1 + 1 == j && q.2.category == 2)) = lv') (k : J p l e R s m args below meth c nL D cl A kc ks Q ws lv' n rs) : J p l e R s m args below meth c nL D cl A kc ks Q ws lv pc (.ref x :: rs) := by
  subst hn
  intro H locs ls hP hD hS hl
  exact lv_astore_n C.1.1 C.1.2.1 (okAt_at C.2.2.2.1 hi) hj hl hlim hf (fun ls hl => k H locs ls hP hD hS hl)
theorem j_astore (C : CX p R s m args meth c cc nL own ret pr D cl tys A) (i n : Nat) {j : Nat} {x : Nat} (lv' : List (Nat × Value)) (hi : pr[i]? = some (pc, .astore j, 2)) (hn : pc + 2 = n) (hlim : j < nL) (hf : (j, Value.ref x) :: lv.filter (fun q => !(q.1 == j) && !(q.1 + 1 == j && q.2.category == 2)) = lv') (k : J p l e R s m args below meth c nL D cl A kc ks Q ws lv' n rs) : J p l e R s m args below meth c nL D cl A kc ks Q ws lv pc (.ref x :: rs) := by
  subst hn
  intro H locs ls hP hD hS hl
  exact lv_astore C.1.1 C.1.2.1 (okAt_at C.2.2.2.1 hi) hl hlim hf (fun ls hl => k H locs ls hP hD hS hl)
theorem j_iinc (C : CX p R s m args meth c cc nL own ret pr D cl tys A) (i n : Nat) {j : Nat} {z : Int} {x v : Int32} (lv' : List (Nat × Value)) (hi : pr[i]? = some (pc, .iinc j z, 3)) (hn : pc + 3 = n) (q : Nat) (hq : lv[q]? = some (j, .int x)) (hv : Int32.ofInt z = v) (hlim : j < nL) (hf : (j, Value.int (x + v)) :: lv.filter (fun q => !(q.1 == j) && !(q.1 + 1 == j && q.2.category == 2)) = lv') (k : J p l e R s m args below meth c nL D cl A kc ks Q ws lv' n rs) : J p l e R s m args below meth c nL D cl A kc ks Q ws lv pc rs := by
  subst hn
  intro H locs ls hP hD hS hl
  exact lv_iinc (v := x + v) C.1.1 C.1.2.1 (okAt_at C.2.2.2.1 hi) hl hq (by rw [hv]) hlim hf (fun ls hl => k H locs ls hP hD hS hl)
theorem j_dup (C : CX p R s m args meth c cc nL own ret pr D cl tys A) (i n : Nat) {v : Value} (hi : pr[i]? = some (pc, .dup, 1)) (hn : pc + 1 = n) (hv : v.category = 1) (k : J p l e R s m args below meth c nL D cl A kc ks Q ws lv n (v :: v :: rs)) : J p l e R s m args below meth c nL D cl A kc ks Q ws lv pc (v :: rs) := by
  subst hn
  intro H locs ls hP hD hS hl
  exact lv_dup C.1.1 C.1.2.1 (okAt_at C.2.2.2.1 hi) hv (k H locs ls hP hD hS hl)
theorem j_topi {x : Int32} (k : ∀ y : Int32, y = x → J p l e R s m args below meth c nL D cl A kc ks Q ws lv pc (.int y :: rs)) : J p l e R s m args below meth c nL D cl A kc ks Q ws lv pc (.int x :: rs) := k x rfl
theorem j_topl {x : Int64} (k : ∀ y : Int64, y = x → J p l e R s m args below meth c nL D cl A kc ks Q ws lv pc (.long y :: rs)) : J p l e R s m args below meth c nL D cl A kc ks Q ws lv pc (.long x :: rs) := k x rfl
theorem j_sub {lv' : List (Nat × Value)} (is : List Nat) (h : lv_pick lv is = lv') (k : J p l e R s m args below meth c nL D cl A kc ks Q ws lv' pc rs) : J p l e R s m args below meth c nL D cl A kc ks Q ws lv pc rs := fun H locs ls hP hD hS hl => k H locs ls hP hD hS (lv_sub hl is h)
theorem j_goto (C : CX p R s m args meth c cc nL own ret pr D cl tys A) (i n : Nat) {off : Int} (hi : pr[i]? = some (pc, .goto off, 3)) (hn : (pc : Int) + off = (n : Int)) (k : J p l e R s m args below meth c nL D cl A kc ks Q ws lv n rs) : J p l e R s m args below meth c nL D cl A kc ks Q ws lv pc rs := fun H locs ls hP hD hS hl => lv_goto C.1.1 C.1.2.1 (okAt_at C.2.2.2.1 hi) hn (k H locs ls hP hD hS hl)
theorem j_if_eq (C : CX p R s m args meth c cc nL own ret pr D cl tys A) (i t n : Nat) {off : Int} {x : Int32} (hi : pr[i]? = some (pc, .ifCond .eq off, 3)) (ht : (pc : Int) + off = (t : Int)) (hn : pc + 3 = n) (kt : (x = 0) → J p l e R s m args below meth c nL D cl A kc ks Q ws lv t rs) (kf : ¬ (x = 0) → J p l e R s m args below meth c nL D cl A kc ks Q ws lv n rs) : J p l e R s m args below meth c nL D cl A kc ks Q ws lv pc (.int x :: rs) := by
  subst hn
  intro H locs ls hP hD hS hl
  exact lv_if_eq C.1.1 C.1.2.1 (okAt_at C.2.2.2.1 hi) ht (fun q => kt q H locs ls hP hD hS hl) (fun q => kf q H locs ls hP hD hS hl)
theorem j_icmp_eq (C : CX p R s m args meth c cc nL own ret pr D cl tys A) (i t n : Nat) {off : Int} {x y : Int32} (hi : pr[i]? = some (pc, .if_icmp .eq off, 3)) (ht : (pc : Int) + off = (t : Int)) (hn : pc + 3 = n) (kt : (x = y) → J p l e R s m args below meth c nL D cl A kc ks Q ws lv t rs) (kf : ¬ (x = y) → J p l e R s m args below meth c nL D cl A kc ks Q ws lv n rs) : J p l e R s m args below meth c nL D cl A kc ks Q ws lv pc (.int y :: .int x :: rs) := by
  subst hn
  intro H locs ls hP hD hS hl
  exact lv_icmp_eq C.1.1 C.1.2.1 (okAt_at C.2.2.2.1 hi) ht (fun q => kt q H locs ls hP hD hS hl) (fun q => kf q H locs ls hP hD hS hl)
theorem j_if_ne (C : CX p R s m args meth c cc nL own ret pr D cl tys A) (i t n : Nat) {off : Int} {x : Int32} (hi : pr[i]? = some (pc, .ifCond .ne off, 3)) (ht : (pc : Int) + off = (t : Int)) (hn : pc + 3 = n) (kt : (¬ x = 0) → J p l e R s m args below meth c nL D cl A kc ks Q ws lv t rs) (kf : x = 0 → J p l e R s m args below meth c nL D cl A kc ks Q ws lv n rs) : J p l e R s m args below meth c nL D cl A kc ks Q ws lv pc (.int x :: rs) := by
  subst hn
  intro H locs ls hP hD hS hl
  exact lv_if_ne C.1.1 C.1.2.1 (okAt_at C.2.2.2.1 hi) ht (fun q => kt q H locs ls hP hD hS hl) (fun q => kf q H locs ls hP hD hS hl)
theorem j_icmp_ne (C : CX p R s m args meth c cc nL own ret pr D cl tys A) (i t n : Nat) {off : Int} {x y : Int32} (hi : pr[i]? = some (pc, .if_icmp .ne off, 3)) (ht : (pc : Int) + off = (t : Int)) (hn : pc + 3 = n) (kt : (¬ x = y) → J p l e R s m args below meth c nL D cl A kc ks Q ws lv t rs) (kf : x = y → J p l e R s m args below meth c nL D cl A kc ks Q ws lv n rs) : J p l e R s m args below meth c nL D cl A kc ks Q ws lv pc (.int y :: .int x :: rs) := by
  subst hn
  intro H locs ls hP hD hS hl
  exact lv_icmp_ne C.1.1 C.1.2.1 (okAt_at C.2.2.2.1 hi) ht (fun q => kt q H locs ls hP hD hS hl) (fun q => kf q H locs ls hP hD hS hl)
theorem j_if_lt (C : CX p R s m args meth c cc nL own ret pr D cl tys A) (i t n : Nat) {off : Int} {x : Int32} (hi : pr[i]? = some (pc, .ifCond .lt off, 3)) (ht : (pc : Int) + off = (t : Int)) (hn : pc + 3 = n) (kt : (x < 0) → J p l e R s m args below meth c nL D cl A kc ks Q ws lv t rs) (kf : ¬ (x < 0) → J p l e R s m args below meth c nL D cl A kc ks Q ws lv n rs) : J p l e R s m args below meth c nL D cl A kc ks Q ws lv pc (.int x :: rs) := by
  subst hn
  intro H locs ls hP hD hS hl
  exact lv_if_lt C.1.1 C.1.2.1 (okAt_at C.2.2.2.1 hi) ht (fun q => kt q H locs ls hP hD hS hl) (fun q => kf q H locs ls hP hD hS hl)
theorem j_icmp_lt (C : CX p R s m args meth c cc nL own ret pr D cl tys A) (i t n : Nat) {off : Int} {x y : Int32} (hi : pr[i]? = some (pc, .if_icmp .lt off, 3)) (ht : (pc : Int) + off = (t : Int)) (hn : pc + 3 = n) (kt : (x < y) → J p l e R s m args below meth c nL D cl A kc ks Q ws lv t rs) (kf : ¬ (x < y) → J p l e R s m args below meth c nL D cl A kc ks Q ws lv n rs) : J p l e R s m args below meth c nL D cl A kc ks Q ws lv pc (.int y :: .int x :: rs) := by
  subst hn
  intro H locs ls hP hD hS hl
  exact lv_icmp_lt C.1.1 C.1.2.1 (okAt_at C.2.2.2.1 hi) ht (fun q => kt q H locs ls hP hD hS hl) (fun q => kf q H locs ls hP hD hS hl)
theorem j_if_ge (C : CX p R s m args meth c cc nL own ret pr D cl tys A) (i t n : Nat) {off : Int} {x : Int32} (hi : pr[i]? = some (pc, .ifCond .ge off, 3)) (ht : (pc : Int) + off = (t : Int)) (hn : pc + 3 = n) (kt : (0 ≤ x) → J p l e R s m args below meth c nL D cl A kc ks Q ws lv t rs) (kf : ¬ (0 ≤ x) → J p l e R s m args below meth c nL D cl A kc ks Q ws lv n rs) : J p l e R s m args below meth c nL D cl A kc ks Q ws lv pc (.int x :: rs) := by
  subst hn
  intro H locs ls hP hD hS hl
  exact lv_if_ge C.1.1 C.1.2.1 (okAt_at C.2.2.2.1 hi) ht (fun q => kt q H locs ls hP hD hS hl) (fun q => kf q H locs ls hP hD hS hl)
theorem j_icmp_ge (C : CX p R s m args meth c cc nL own ret pr D cl tys A) (i t n : Nat) {off : Int} {x y : Int32} (hi : pr[i]? = some (pc, .if_icmp .ge off, 3)) (ht : (pc : Int) + off = (t : Int)) (hn : pc + 3 = n) (kt : (y ≤ x) → J p l e R s m args below meth c nL D cl A kc ks Q ws lv t rs) (kf : ¬ (y ≤ x) → J p l e R s m args below meth c nL D cl A kc ks Q ws lv n rs) : J p l e R s m args below meth c nL D cl A kc ks Q ws lv pc (.int y :: .int x :: rs) := by
  subst hn
  intro H locs ls hP hD hS hl
  exact lv_icmp_ge C.1.1 C.1.2.1 (okAt_at C.2.2.2.1 hi) ht (fun q => kt q H locs ls hP hD hS hl) (fun q => kf q H locs ls hP hD hS hl)
theorem j_if_gt (C : CX p R s m args meth c cc nL own ret pr D cl tys A) (i t n : Nat) {off : Int} {x : Int32} (hi : pr[i]? = some (pc, .ifCond .gt off, 3)) (ht : (pc : Int) + off = (t : Int)) (hn : pc + 3 = n) (kt : (0 < x) → J p l e R s m args below meth c nL D cl A kc ks Q ws lv t rs) (kf : ¬ (0 < x) → J p l e R s m args below meth c nL D cl A kc ks Q ws lv n rs) : J p l e R s m args below meth c nL D cl A kc ks Q ws lv pc (.int x :: rs) := by
  subst hn
  intro H locs ls hP hD hS hl
  exact lv_if_gt C.1.1 C.1.2.1 (okAt_at C.2.2.2.1 hi) ht (fun q => kt q H locs ls hP hD hS hl) (fun q => kf q H locs ls hP hD hS hl)
theorem j_icmp_gt (C : CX p R s m args meth c cc nL own ret pr D cl tys A) (i t n : Nat) {off : Int} {x y : Int32} (hi : pr[i]? = some (pc, .if_icmp .gt off, 3)) (ht : (pc : Int) + off = (t : Int)) (hn : pc + 3 = n) (kt : (y < x) → J p l e R s m args below meth c nL D cl A kc ks Q ws lv t rs) (kf : ¬ (y < x) → J p l e R s m args below meth c nL D cl A kc ks Q ws lv n rs) : J p l e R s m args below meth c nL D cl A kc ks Q ws lv pc (.int y :: .int x :: rs) := by
  subst hn
  intro H locs ls hP hD hS hl
  exact lv_icmp_gt C.1.1 C.1.2.1 (okAt_at C.2.2.2.1 hi) ht (fun q => kt q H locs ls hP hD hS hl) (fun q => kf q H locs ls hP hD hS hl)
theorem j_if_le (C : CX p R s m args meth c cc nL own ret pr D cl tys A) (i t n : Nat) {off : Int} {x : Int32} (hi : pr[i]? = some (pc, .ifCond .le off, 3)) (ht : (pc : Int) + off = (t : Int)) (hn : pc + 3 = n) (kt : (x ≤ 0) → J p l e R s m args below meth c nL D cl A kc ks Q ws lv t rs) (kf : ¬ (x ≤ 0) → J p l e R s m args below meth c nL D cl A kc ks Q ws lv n rs) : J p l e R s m args below meth c nL D cl A kc ks Q ws lv pc (.int x :: rs) := by
  subst hn
  intro H locs ls hP hD hS hl
  exact lv_if_le C.1.1 C.1.2.1 (okAt_at C.2.2.2.1 hi) ht (fun q => kt q H locs ls hP hD hS hl) (fun q => kf q H locs ls hP hD hS hl)
theorem j_icmp_le (C : CX p R s m args meth c cc nL own ret pr D cl tys A) (i t n : Nat) {off : Int} {x y : Int32} (hi : pr[i]? = some (pc, .if_icmp .le off, 3)) (ht : (pc : Int) + off = (t : Int)) (hn : pc + 3 = n) (kt : (x ≤ y) → J p l e R s m args below meth c nL D cl A kc ks Q ws lv t rs) (kf : ¬ (x ≤ y) → J p l e R s m args below meth c nL D cl A kc ks Q ws lv n rs) : J p l e R s m args below meth c nL D cl A kc ks Q ws lv pc (.int y :: .int x :: rs) := by
  subst hn
  intro H locs ls hP hD hS hl
  exact lv_icmp_le C.1.1 C.1.2.1 (okAt_at C.2.2.2.1 hi) ht (fun q => kt q H locs ls hP hD hS hl) (fun q => kf q H locs ls hP hD hS hl)
theorem j_lookup (C : CX p R s m args meth c cc nL own ret pr D cl tys A) (i : Nat) {dflt : Int} {ps : Array (Int × Int)} {len : Nat} {x : Int32} (hi : pr[i]? = some (pc, .lookupswitch dflt ps, len)) (hp : (ps.toList.zip (ps.toList.drop 1)).all (fun (a, next) => a.1 < next.1) = true) (kk : List (Int32 × Nat)) (d : Nat) (hk : ps.toList = kk.map fun q => (q.1.toInt, (q.2 : Int) - (pc : Int))) (hd : (pc : Int) + dflt = (d : Int)) (h : swP x (fun t => J p l e R s m args below meth c nL D cl A kc ks Q ws lv t rs) d kk) : J p l e R s m args below meth c nL D cl A kc ks Q ws lv pc (.int x :: rs) := by
  intro H locs ls hP hD hS hl
  obtain ⟨t, h1, h2⟩ := swP_off hd kk h
  exact lv_lookup C.1.1 C.1.2.1 (okAt_at C.2.2.2.1 hi) hp rfl (by rw [hk]; exact h2) (h1 H locs ls hP hD hS hl)
theorem j_table (C : CX p R s m args meth c cc nL own ret pr D cl tys A) (i : Nat) {dflt lo hi' : Int} {offs : Array Int} {len : Nat} {x : Int32} (hi : pr[i]? = some (pc, .tableswitch dflt lo hi' offs, len)) (kk : List (Int32 × Nat)) (d : Nat) (hk : (List.range offs.size).map (fun (j : Nat) => (lo + (j : Int), offs.getD j 0)) = kk.map fun q => (q.1.toInt, (q.2 : Int) - (pc : Int))) (hs : lo + (offs.size : Int) = hi' + 1) (hd : (pc : Int) + dflt = (d : Int)) (h : swP x (fun t => J p l e R s m args below meth c nL D cl A kc ks Q ws lv t rs) d kk) : J p l e R s m args below meth c nL D cl A kc ks Q ws lv pc (.int x :: rs) := by
  intro H locs ls hP hD hS hl
  rcases swP_case kk h with ⟨q, hq, rfl, h1⟩ | ⟨h0, h1⟩
  · have hm : (q.1.toInt, (q.2 : Int) - (pc : Int)) ∈ (List.range offs.size).map (fun (j : Nat) => (lo + (j : Int), offs.getD j 0)) := by
      rw [hk]; exact List.mem_map.mpr ⟨q, hq, rfl⟩
    obtain ⟨j, hj, he⟩ := List.mem_map.mp hm
    have hj := List.mem_range.mp hj
    have e1 : lo + (j : Int) = q.1.toInt := congrArg Prod.fst he
    have e2 : offs.getD j 0 = (q.2 : Int) - (pc : Int) := congrArg Prod.snd he
    refine lv_tableIn (off := (q.2 : Int) - (pc : Int)) (tgt := q.2) C.1.1 C.1.2.1 (okAt_at C.2.2.2.1 hi) (by omega) (by omega) ?_ (by omega) (h1 H locs ls hP hD hS hl)
    rw [show (q.1.toInt - lo).toNat = j by omega, ← e2]
    simp [Array.getD, hj]
  · by_cases hr : x.toInt < lo ∨ hi' < x.toInt
    · exact lv_tableOut C.1.1 C.1.2.1 (okAt_at C.2.2.2.1 hi) hr hd (h1 H locs ls hP hD hS hl)
    · exfalso
      have hj : (x.toInt - lo).toNat < offs.size := by omega
      have hm : (lo + (((x.toInt - lo).toNat : Nat) : Int), offs.getD (x.toInt - lo).toNat 0) ∈ kk.map (fun q => (q.1.toInt, (q.2 : Int) - (pc : Int))) := by
        rw [← hk]; exact List.mem_map.mpr ⟨_, List.mem_range.mpr hj, rfl⟩
      obtain ⟨q, hq, he⟩ := List.mem_map.mp hm
      have e1 : q.1.toInt = lo + (((x.toInt - lo).toNat : Nat) : Int) := congrArg Prod.fst he
      exact h0 q hq (Int32.toInt_inj.mp (by rw [e1]; omega))
theorem j_get (C : CX p R s m args meth c cc nL own ret pr D cl tys A) (i n : Nat) {index : Nat} (hi : pr[i]? = some (pc, .getfield index, 3)) (hn : pc + 3 = n) {ci f : Nat} (hf : fg cl own index ci f) (q : Nat) {a : Nat} {fs : List Value} {v : Value} (he : ws[q]? = some (a, .inr (ci, fs))) (hv : fs[f]? = some v) (k : J p l e R s m args below meth c nL D cl A kc ks Q ws lv n (v :: rs)) : J p l e R s m args below meth c nL D cl A kc ks Q ws lv pc (.ref a :: rs) := by
  subst hn
  intro H locs ls hP hD hS hl
  obtain ⟨Cn, T, N, h1, h2, h3, h4⟩ := hf
  exact va_get C.1.1 C.1.2.1 C.1.2.2.2.2 h2 C.1.2.2.2.1 C.2.1 hP q he h1 f h3 (C.1.2.2.2.2 _ h4) (fun _ h => h) hv (okAt_at C.2.2.2.1 hi) (k H locs ls hP hD hS hl)
theorem j_put (C : CX p R s m args meth c cc nL own ret pr D cl tys A) (i n : Nat) {index : Nat} (hi : pr[i]? = some (pc, .putfield index, 3)) (hn : pc + 3 = n) {ci f : Nat} {ty : FieldType} (hf : fp cl own index ci f ty) (q : Nat) {a : Nat} {fs : List Value} {v : Value} {F : St → va_W} {S : St} (he : (F S)[q]? = some (a, .inr (ci, fs))) (hfl : f < fs.length) (hna : narrow ty v = v) (hfi : fits ty v = true) (S' : St) (hw : (F S).set q (a, .inr (ci, fs.set f v)) = F S') (k : ∀ S1, S1 = S' → J p l e R s m args below meth c nL D cl A kc ks Q (F S1) lv n rs) : J p l e R s m args below meth c nL D cl A kc ks Q (F S) lv pc (v :: .ref a :: rs) := by
  subst hn
  intro H locs ls hP hD hS hl
  obtain ⟨Cn, T, N, ty0, h1, h2, h3, h4, h5, h6, h7, h8⟩ := hf
  exact va_put C.1.1 C.1.2.1 C.1.2.2.2.2 h2 ty0 h5 h6 C.1.2.2.2.1 C.2.1 hP hD hS q he h1 f h3 (C.1.2.2.2.2 _ h4) (fun _ h => h) h7 h8 hna hfi hfl (okAt_at C.2.2.2.1 hi) (fun H locs hP hD hS => k S' rfl H locs ls (hw ▸ hP) (hw ▸ hD) hS hl)
theorem j_putw (C : CX p R s m args meth c cc nL own ret pr D cl tys A) (i n : Nat) {index : Nat} (hi : pr[i]? = some (pc, .putfield index, 3)) (hn : pc + 3 = n) {ci f : Nat} {ty : FieldType} (hf : fp cl own index ci f ty) (q : Nat) {a : Nat} {fs : List Value} {v : Value} (he : ws[q]? = some (a, .inr (ci, fs))) (hfl : f < fs.length) (hna : narrow ty v = v) (hfi : fits ty v = true) (ws' : va_W) (hw : ws.set q (a, .inr (ci, fs.set f v)) = ws') (k : J p l e R s m args below meth c nL D cl A kc ks Q ws' lv n rs) : J p l e R s m args below meth c nL D cl A kc ks Q ws lv pc (v :: .ref a :: rs) := by
  subst hn
  intro H locs ls hP hD hS hl
  obtain ⟨Cn, T, N, ty0, h1, h2, h3, h4, h5, h6, h7, h8⟩ := hf
  exact va_put C.1.1 C.1.2.1 C.1.2.2.2.2 h2 ty0 h5 h6 C.1.2.2.2.1 C.2.1 hP hD hS q he h1 f h3 (C.1.2.2.2.2 _ h4) (fun _ h => h) h7 h8 hna hfi hfl (okAt_at C.2.2.2.1 hi) (fun H locs hP hD hS => k H locs ls (hw ▸ hP) (hw ▸ hD) hS hl)
theorem j_iald (C : CX p R s m args meth c cc nL own ret pr D cl tys A) (i n : Nat) (hi : pr[i]? = some (pc, .iaload, 1)) (hn : pc + 1 = n) (q t : Nat) {a nn : Nat} {cA : ClassId} {f : Nat → Int32} {x : Int32} (ha : ws[q]? = some (a, .inl (cA, nn, .inl f))) (ht : tys[t]? = some (cA, .int)) (hin : vp_in x nn) (k : J p l e R s m args below meth c nL D cl A kc ks Q ws lv n (.int (f x.toNatClampNeg) :: rs)) : J p l e R s m args below meth c nL D cl A kc ks Q ws lv pc (.int x :: .ref a :: rs) := by
  subst hn
  intro H locs ls hP hD hS hl
  exact va_iald C.1.1 C.1.2.1 C.2.1 hP q t ha ht hin (okAt_at C.2.2.2.1 hi) (k H locs ls hP hD hS hl)
theorem j_zald (C : CX p R s m args meth c cc nL own ret pr D cl tys A) (i n : Nat) (hi : pr[i]? = some (pc, .baload, 1)) (hn : pc + 1 = n) (q t : Nat) {a nn : Nat} {cA : ClassId} {f : Nat → Int32} {x : Int32} (ha : ws[q]? = some (a, .inl (cA, nn, .inl f))) (ht : tys[t]? = some (cA, .boolean)) (hin : vp_in x nn) (k : J p l e R s m args below meth c nL D cl A kc ks Q ws lv n (.int (f x.toNatClampNeg) :: rs)) : J p l e R s m args below meth c nL D cl A kc ks Q ws lv pc (.int x :: .ref a :: rs) := by
  subst hn
  intro H locs ls hP hD hS hl
  exact va_zald C.1.1 C.1.2.1 C.2.1 hP q t ha ht hin (okAt_at C.2.2.2.1 hi) (k H locs ls hP hD hS hl)
theorem j_iast (C : CX p R s m args meth c cc nL own ret pr D cl tys A) (i n : Nat) (hi : pr[i]? = some (pc, .iastore, 1)) (hn : pc + 1 = n) (q t : Nat) {a nn : Nat} {cA : ClassId} {f : Nat → Int32} {x y : Int32} {F : St → va_W} {S : St} (ha : (F S)[q]? = some (a, .inl (cA, nn, .inl f))) (ht : tys[t]? = some (cA, .int)) (hin : vp_in x nn) (S' : St) (hw : (F S).set q (a, .inl (cA, nn, .inl (upd f x.toNatClampNeg y))) = F S') (k : ∀ S1, S1 = S' → J p l e R s m args below meth c nL D cl A kc ks Q (F S1) lv n rs) : J p l e R s m args below meth c nL D cl A kc ks Q (F S) lv pc (.int y :: .int x :: .ref a :: rs) := by
  subst hn
  intro H locs ls hP hD hS hl
  exact va_iast C.1.1 C.1.2.1 C.2.1 hP hD hS q t ha ht hin (okAt_at C.2.2.2.1 hi) (fun H locs hP hD hS => k S' rfl H locs ls (hw ▸ hP) (hw ▸ hD) hS hl)
theorem j_zast (C : CX p R s m args meth c cc nL own ret pr D cl tys A) (i n : Nat) (hi : pr[i]? = some (pc, .bastore, 1)) (hn : pc + 1 = n) (q t : Nat) {a nn : Nat} {cA : ClassId} {f : Nat → Int32} {x y : Int32} {F : St → va_W} {S : St} (ha : (F S)[q]? = some (a, .inl (cA, nn, .inl f))) (ht : tys[t]? = some (cA, .boolean)) (hin : vp_in x nn) (S' : St) (hw : (F S).set q (a, .inl (cA, nn, .inl (upd f x.toNatClampNeg (vp_nar .boolean y)))) = F S') (k : ∀ S1, S1 = S' → J p l e R s m args below meth c nL D cl A kc ks Q (F S1) lv n rs) : J p l e R s m args below meth c nL D cl A kc ks Q (F S) lv pc (.int y :: .int x :: .ref a :: rs) := by
  subst hn
  intro H locs ls hP hD hS hl
  exact va_zast C.1.1 C.1.2.1 C.2.1 hP hD hS q t ha ht hin (okAt_at C.2.2.2.1 hi) (fun H locs hP hD hS => k S' rfl H locs ls (hw ▸ hP) (hw ▸ hD) hS hl)
theorem j_callVi (C : CX p R s m args meth c cc nL own ret pr D cl tys A) (i n : Nat) {index : Nat} {y : MethodName} {bytes : ByteArray} {maxL na : Nat} {rt : Option FieldType} {rm : Room} {b : Nat} {As stk : List Value} (hi : pr[i]? = some (pc, .invokevirtual index, 3)) (hn : pc + 3 = n) (hlink : Cond.methodLink own index y ∈ gw) (hm : mI y bytes maxL rt na) {σ : Type} {F : σ → va_W} {S : σ} {K : Int32 → σ → Prop} (hM : ∀ sz : Nat, Met l y (Cond.code y bytes maxL rt :: gw) rm (va_Pc (.ref b :: As) (PK D cl tys (F S) sz)) (va_Qi K (fun u t => QK D cl tys (va_A (F S) sz) (F u) t) (va_A (F S) sz)) 0 0 (va_A (F S) sz)) (hrm : rm.cells = 0 ∧ rm.slots = 0) (hR : rm.frames + 1 ≤ R.frames ∧ 8 + (maxL + 11) + rm.locals ≤ R.locals) (q : Nat) {ci : Nat} {fs : List Value} {Tn : u_T} {Nn : Nat} (he : (F S)[q]? = some (b, .inr (ci, fs))) (hc : cl[ci]? = some (y.cls, Tn, Nn)) (hlen : As.length = na) (hcs : kc ≤ R.cells ∧ ks ≤ R.slots) (hsum : (rs.map fun v => v.category).sum ≤ 8) (hstk : stk = As.reverse ++ .ref b :: rs) (k : ∀ r u, K r u → J p l e R s m args below meth c nL D cl A kc ks Q (F u) lv n (.int r :: rs)) : J p l e R s m args below meth c nL D cl A kc ks Q (F S) lv pc stk := by
  subst hn hstk
  intro H locs ls hP hD hS hl
  have hFc : ∀ q, va_A (F S) H.size q → A q := by
    intro q h
    rcases h with ⟨j, e1, h⟩ | h
    · exact hD.2 j (q, e1) h
    · exact C.2.2.1 q (Nat.le_trans hS.1 h)
  obtain ⟨w1, w2, w3, w4, d1, d2, d3⟩ := hm
  have cw : CallW R s args own y.cls index y bytes maxL rt (Cond.code y bytes maxL rt :: gw) rm 0 0 na := ⟨callB_of na C.1.2.2.2.2 (gw_code w4) rfl hrm.1 hrm.2 (C.1.2.2.2.2 _ w3) (C.1.2.2.2.2 _ hlink) ⟨d1, d2, d3⟩ hR, C.1.2.2.2.2 _ w1, C.1.2.2.2.2 _ w2⟩
  refine va_calli (va_runV (As := As) (rest := rs) C.1 (hM H.size) cw ⟨fun a U g mk z => by obtain ⟨z0, z1, zP, zK, zD⟩ := z; exact ⟨z0, z1, zP, va_K.moved (u := U) (U := U.calling g mk a) (Vm.Alike.refl U.vm) zK, zD⟩, va_recv C.2.1 hP hc he, fun U hU hW => ⟨rfl, by rw [hU], by rw [hU]; exact hP, va_K.moved hW.alike C.2.1, hD.weaken (fun _ _ _ _ => trivial)⟩⟩ rfl hlen hl.1 rfl (lv_room hsum) (okAt_at C.2.2.2.1 hi) hcs) hS (fun q _ h => hFc q h) hFc (fun r u t H1 locs1 ht hvm hw hB hz hk hS1 => ?_)
  obtain ⟨hP1, hK1, hD1⟩ := hB
  rw [ht] at hP1
  exact k r u hw H1 locs1 ls hP1 (hD1.weaken (fun _ q _ h => hFc q.1 h)) hS1 hl
theorem j_callVv (C : CX p R s m args meth c cc nL own ret pr D cl tys A) (i n : Nat) {index : Nat} {y : MethodName} {bytes : ByteArray} {maxL na : Nat} {rt : Option FieldType} {rm : Room} {b : Nat} {As stk : List Value} (hi : pr[i]? = some (pc, .invokevirtual index, 3)) (hn : pc + 3 = n) (hlink : Cond.methodLink own index y ∈ gw) (hm : mI y bytes maxL rt na) {σ : Type} {F : σ → va_W} {S : σ} {K : σ → Prop} (hM : ∀ sz : Nat, Met l y (Cond.code y bytes maxL rt :: gw) rm (va_Pc (.ref b :: As) (PK D cl tys (F S) sz)) (va_Qv K (fun u t => QK D cl tys (va_A (F S) sz) (F u) t) (va_A (F S) sz)) 0 0 (va_A (F S) sz)) (hrm : rm.cells = 0 ∧ rm.slots = 0) (hR : rm.frames + 1 ≤ R.frames ∧ 8 + (maxL + 11) + rm.locals ≤ R.locals) (q : Nat) {ci : Nat} {fs : List Value} {Tn : u_T} {Nn : Nat} (he : (F S)[q]? = some (b, .inr (ci, fs))) (hc : cl[ci]? = some (y.cls, Tn, Nn)) (hlen : As.length = na) (hcs : kc ≤ R.cells ∧ ks ≤ R.slots) (hsum : (rs.map fun v => v.category).sum ≤ 8) (hstk : stk = As.reverse ++ .ref b :: rs) (k : ∀ u, K u → J p l e R s m args below meth c nL D cl A kc ks Q (F u) lv n rs) : J p l e R s m args below meth c nL D cl A kc ks Q (F S) lv pc stk := by
  subst hn hstk
  intro H locs ls hP hD hS hl
  have hFc : ∀ q, va_A (F S) H.size q → A q := by
    intro q h
    rcases h with ⟨j, e1, h⟩ | h
    · exact hD.2 j (q, e1) h
    · exact C.2.2.1 q (Nat.le_trans hS.1 h)
  obtain ⟨w1, w2, w3, w4, d1, d2, d3⟩ := hm
  have cw : CallW R s args own y.cls index y bytes maxL rt (Cond.code y bytes maxL rt :: gw) rm 0 0 na := ⟨callB_of na C.1.2.2.2.2 (gw_code w4) rfl hrm.1 hrm.2 (C.1.2.2.2.2 _ w3) (C.1.2.2.2.2 _ hlink) ⟨d1, d2, d3⟩ hR, C.1.2.2.2.2 _ w1, C.1.2.2.2.2 _ w2⟩
  refine va_callv (va_runV (As := As) (rest := rs) C.1 (hM H.size) cw ⟨fun a U g mk z => by obtain ⟨z0, z1, zP, zK, zD⟩ := z; exact ⟨z0, z1, zP, va_K.moved (u := U) (U := U.calling g mk a) (Vm.Alike.refl U.vm) zK, zD⟩, va_recv C.2.1 hP hc he, fun U hU hW => ⟨rfl, by rw [hU], by rw [hU]; exact hP, va_K.moved hW.alike C.2.1, hD.weaken (fun _ _ _ _ => trivial)⟩⟩ rfl hlen hl.1 rfl (lv_room hsum) (okAt_at C.2.2.2.1 hi) hcs) hS (fun q _ h => hFc q h) hFc (fun u t H1 locs1 ht hvm hw hB hz hk hS1 => ?_)
  obtain ⟨hP1, hK1, hD1⟩ := hB
  rw [ht] at hP1
  exact k u hw H1 locs1 ls hP1 (hD1.weaken (fun _ q _ h => hFc q.1 h)) hS1 hl
theorem j_callSi (C : CX p R s m args meth c cc nL own ret pr D cl tys A) (i n : Nat) {index : Nat} {y : MethodName} {bytes : ByteArray} {maxL na : Nat} {rt : Option FieldType} {rm : Room} {As stk : List Value} (hi : pr[i]? = some (pc, .invokestatic index, 3)) (hn : pc + 3 = n) (hlink : Cond.methodLink own index y ∈ gw) (hm : mS y bytes maxL rt na) {σ : Type} {F : σ → va_W} {S : σ} {K : Int32 → σ → Prop} (hM : ∀ sz : Nat, Met l y (Cond.code y bytes maxL rt :: gw) rm (va_Pc As (PK D cl tys (F S) sz)) (va_Qi K (fun u t => QK D cl tys (va_A (F S) sz) (F u) t) (va_A (F S) sz)) 0 0 (va_A (F S) sz)) (hrm : rm.cells = 0 ∧ rm.slots = 0) (hR : rm.frames + 1 ≤ R.frames ∧ 8 + (maxL + 11) + rm.locals ≤ R.locals) (hlen : As.length = na) (hcs : kc ≤ R.cells ∧ ks ≤ R.slots) (hsum : (rs.map fun v => v.category).sum ≤ 8) (hstk : stk = As.reverse ++ rs) (k : ∀ r u, K r u → J p l e R s m args below meth c nL D cl A kc ks Q (F u) lv n (.int r :: rs)) : J p l e R s m args below meth c nL D cl A kc ks Q (F S) lv pc stk := by
  subst hn hstk
  intro H locs ls hP hD hS hl
  have hFc : ∀ q, va_A (F S) H.size q → A q := by
    intro q h
    rcases h with ⟨j, e1, h⟩ | h
    · exact hD.2 j (q, e1) h
    · exact C.2.2.1 q (Nat.le_trans hS.1 h)
  obtain ⟨w1, w3, w4, d1, d2, d3⟩ := hm
  have cw : CallB R s args own index y bytes maxL rt (Cond.code y bytes maxL rt :: gw) rm 0 0 na ∧ (Cond.static y).before args s = true := ⟨callB_of na C.1.2.2.2.2 (gw_code w4) rfl hrm.1 hrm.2 (C.1.2.2.2.2 _ w3) (C.1.2.2.2.2 _ hlink) ⟨d1, d2, d3⟩ hR, C.1.2.2.2.2 _ w1⟩
  refine va_calli (va_runS (As := As) (rest := rs) C.1 (hM H.size) cw ⟨fun a U g mk z => by obtain ⟨z0, z1, zP, zK, zD⟩ := z; exact ⟨z0, z1, zP, va_K.moved (u := U) (U := U.calling g mk a) (Vm.Alike.refl U.vm) zK, zD⟩, fun U hU hW => ⟨rfl, by rw [hU], by rw [hU]; exact hP, va_K.moved hW.alike C.2.1, hD.weaken (fun _ _ _ _ => trivial)⟩⟩ rfl hlen hl.1 rfl (lv_room hsum) (okAt_at C.2.2.2.1 hi) hcs) hS (fun q _ h => hFc q h) hFc (fun r u t H1 locs1 ht hvm hw hB hz hk hS1 => ?_)
  obtain ⟨hP1, hK1, hD1⟩ := hB
  rw [ht] at hP1
  exact k r u hw H1 locs1 ls hP1 (hD1.weaken (fun _ q _ h => hFc q.1 h)) hS1 hl
theorem j_callSv (C : CX p R s m args meth c cc nL own ret pr D cl tys A) (i n : Nat) {index : Nat} {y : MethodName} {bytes : ByteArray} {maxL na : Nat} {rt : Option FieldType} {rm : Room} {As stk : List Value} (hi : pr[i]? = some (pc, .invokestatic index, 3)) (hn : pc + 3 = n) (hlink : Cond.methodLink own index y ∈ gw) (hm : mS y bytes maxL rt na) {σ : Type} {F : σ → va_W} {S : σ} {K : σ → Prop} (hM : ∀ sz : Nat, Met l y (Cond.code y bytes maxL rt :: gw) rm (va_Pc As (PK D cl tys (F S) sz)) (va_Qv K (fun u t => QK D cl tys (va_A (F S) sz) (F u) t) (va_A (F S) sz)) 0 0 (va_A (F S) sz)) (hrm : rm.cells = 0 ∧ rm.slots = 0) (hR : rm.frames + 1 ≤ R.frames ∧ 8 + (maxL + 11) + rm.locals ≤ R.locals) (hlen : As.length = na) (hcs : kc ≤ R.cells ∧ ks ≤ R.slots) (hsum : (rs.map fun v => v.category).sum ≤ 8) (hstk : stk = As.reverse ++ rs) (k : ∀ u, K u → J p l e R s m args below meth c nL D cl A kc ks Q (F u) lv n rs) : J p l e R s m args below meth c nL D cl A kc ks Q (F S) lv pc stk := by
  subst hn hstk
  intro H locs ls hP hD hS hl
  have hFc : ∀ q, va_A (F S) H.size q → A q := by
    intro q h
    rcases h with ⟨j, e1, h⟩ | h
    · exact hD.2 j (q, e1) h
    · exact C.2.2.1 q (Nat.le_trans hS.1 h)
  obtain ⟨w1, w3, w4, d1, d2, d3⟩ := hm
  have cw : CallB R s args own index y bytes maxL rt (Cond.code y bytes maxL rt :: gw) rm 0 0 na ∧ (Cond.static y).before args s = true := ⟨callB_of na C.1.2.2.2.2 (gw_code w4) rfl hrm.1 hrm.2 (C.1.2.2.2.2 _ w3) (C.1.2.2.2.2 _ hlink) ⟨d1, d2, d3⟩ hR, C.1.2.2.2.2 _ w1⟩
  refine va_callv (va_runS (As := As) (rest := rs) C.1 (hM H.size) cw ⟨fun a U g mk z => by obtain ⟨z0, z1, zP, zK, zD⟩ := z; exact ⟨z0, z1, zP, va_K.moved (u := U) (U := U.calling g mk a) (Vm.Alike.refl U.vm) zK, zD⟩, fun U hU hW => ⟨rfl, by rw [hU], by rw [hU]; exact hP, va_K.moved hW.alike C.2.1, hD.weaken (fun _ _ _ _ => trivial)⟩⟩ rfl hlen hl.1 rfl (lv_room hsum) (okAt_at C.2.2.2.1 hi) hcs) hS (fun q _ h => hFc q h) hFc (fun u t H1 locs1 ht hvm hw hB hz hk hS1 => ?_)
  obtain ⟨hP1, hK1, hD1⟩ := hB
  rw [ht] at hP1
  exact k u hw H1 locs1 ls hP1 (hD1.weaken (fun _ q _ h => hFc q.1 h)) hS1 hl
theorem j_mmax (C : CX p R s m args meth c cc nL own ret pr D cl tys A) (i n : Nat) {index : Nat} (hi : pr[i]? = some (pc, .invokestatic index, 3)) (hn : pc + 3 = n) (hlink : Cond.methodLink own index Lib.Math.max.name ∈ gw) (hst : Cond.static Lib.Math.max.name ∈ gw) (hin : Cond.initialized "java/lang/Math" ∈ gw) (hco : Cond.code Lib.Math.max.name Lib.Math.max.code 2 (some .int) ∈ gw) (hfr : 1 ≤ R.frames) (hlo : (rs.map fun v => v.category).sum + 13 ≤ R.locals) (hcs : kc ≤ R.cells ∧ ks ≤ R.slots) {x y : Int32} (k : J p l e R s m args below meth c nL D cl A kc ks Q ws lv n (.int (jmax x y) :: rs)) : J p l e R s m args below meth c nL D cl A kc ks Q ws lv pc (.int y :: .int x :: rs) := by
  subst hn
  intro H locs ls hP hD hS hl
  exact va_mmax C.1.1 C.1.2.1 (by rw [C.1.2.2.1]; exact hl.1.symm) C.1.2.2.2.1 (C.1.2.2.2.2 _ hlink) (C.1.2.2.2.2 _ hst) (C.1.2.2.2.2 _ hin) (C.1.2.2.2.2 _ hco) hfr hlo hcs.1 hcs.2 (okAt_at C.2.2.2.1 hi) (k H locs ls hP hD hS hl)
theorem j_mmin (C : CX p R s m args meth c cc nL own ret pr D cl tys A) (i n : Nat) {index : Nat} (hi : pr[i]? = some (pc, .invokestatic index, 3)) (hn : pc + 3 = n) (hlink : Cond.methodLink own index Lib.Math.min.name ∈ gw) (hst : Cond.static Lib.Math.min.name ∈ gw) (hin : Cond.initialized "java/lang/Math" ∈ gw) (hco : Cond.code Lib.Math.min.name Lib.Math.min.code 2 (some .int) ∈ gw) (hfr : 1 ≤ R.frames) (hlo : (rs.map fun v => v.category).sum + 13 ≤ R.locals) (hcs : kc ≤ R.cells ∧ ks ≤ R.slots) {x y : Int32} (k : J p l e R s m args below meth c nL D cl A kc ks Q ws lv n (.int (jmin x y) :: rs)) : J p l e R s m args below meth c nL D cl A kc ks Q ws lv pc (.int y :: .int x :: rs) := by
  subst hn
  intro H locs ls hP hD hS hl
  exact va_mmin C.1.1 C.1.2.1 (by rw [C.1.2.2.1]; exact hl.1.symm) C.1.2.2.2.1 (C.1.2.2.2.2 _ hlink) (C.1.2.2.2.2 _ hst) (C.1.2.2.2.2 _ hin) (C.1.2.2.2.2 _ hco) hfr hlo hcs.1 hcs.2 (okAt_at C.2.2.2.1 hi) (k H locs ls hP hD hS hl)
theorem j_iret (C : CX p R s m args meth c cc nL own (some .int) pr D cl tys A) (i : Nat) (hi : pr[i]? = some (pc, .ireturn, 1)) {σ : Type} {F : σ → va_W} {S : σ} {K : Int32 → σ → Prop} {v : Int32} (h : K v S) : J p l e R s m args below meth c nL D cl A kc ks (MQ below (va_Qi K (fun u t => QK D cl tys A (F u) t) A) args s kc ks A) (F S) lv pc [.int v] := by
  intro H locs ls hP hD hS hl
  exact W.iret C.1.1 C.1.2.1 C.2.2.2.2.1 (fun t ht hW => ⟨⟨v, S, rfl, h, by rw [ht]; exact hP, va_K.moved hW.alike C.2.1, hD⟩, hS.F ht⟩) hS.2.2 (okAt_at C.2.2.2.1 hi) C.2.2.2.2.2
theorem j_zret (C : CX p R s m args meth c cc nL own (some .boolean) pr D cl tys A) (i : Nat) (hi : pr[i]? = some (pc, .ireturn, 1)) {σ : Type} {F : σ → va_W} {S : σ} {K : Int32 → σ → Prop} {v : Int32} (hv : isB v) (h : K v S) : J p l e R s m args below meth c nL D cl A kc ks (MQ below (va_Qi K (fun u t => QK D cl tys A (F u) t) A) args s kc ks A) (F S) lv pc [.int v] := by
  intro H locs ls hP hD hS hl
  exact W.zret C.1.1 C.1.2.1 C.2.2.2.2.1 (isB_nar hv) (fun t ht hW => ⟨⟨v, S, rfl, h, by rw [ht]; exact hP, va_K.moved hW.alike C.2.1, hD⟩, hS.F ht⟩) hS.2.2 (okAt_at C.2.2.2.1 hi) C.2.2.2.2.2
theorem j_vret (C : CX p R s m args meth c cc nL own none pr D cl tys A) (i : Nat) (hi : pr[i]? = some (pc, .return_, 1)) {σ : Type} {F : σ → va_W} {S : σ} {K : σ → Prop} (h : K S) : J p l e R s m args below meth c nL D cl A kc ks (MQ below (va_Qv K (fun u t => QK D cl tys A (F u) t) A) args s kc ks A) (F S) lv pc [] := by
  intro H locs ls hP hD hS hl
  exact W.vret C.1.1 C.1.2.1 C.2.2.2.2.1 (fun t ht hW => ⟨⟨S, rfl, h, by rw [ht]; exact hP, va_K.moved hW.alike C.2.1, hD⟩, hS.F ht⟩) hS.2.2 (okAt_at C.2.2.2.1 hi) C.2.2.2.2.2
theorem swP_c {x k : Int32} {P : Nat → Prop} {d t : Nat} {r : List (Int32 × Nat)} (a : x = k → P t) (b : ¬ x = k → swP x P d r) : swP x P d ((k, t) :: r) := ⟨a, b⟩
theorem swP_n {x : Int32} {P : Nat → Prop} {d : Nat} (a : P d) : swP x P d [] := a
theorem j_perm {ws' : va_W} (is : List Nat) (hn : va_nd is = true) (hs : is.map (fun i => ws[i]?) = ws'.map some) (hs' : is.filterMap (fun i => ws[i]?) = ws') (k : J p l e R s m args below meth c nL D cl A kc ks Q ws' lv pc rs) : J p l e R s m args below meth c nL D cl A kc ks Q ws lv pc rs := fun H locs ls hP hD hS hl => k H locs ls (hP.sub is hs') (hD.sub is hn hs) hS hl
end JR
/-- a method's contract out of its walk -/
theorem met_of {l : Launch} {y : MethodName} {bytes : ByteArray} {maxL : Nat} {rt : Option FieldType} {rm : Room} {D : va_G} {cl : List vw_C} {tys : List (ClassId × FieldType)} {ws : va_W} {av : List Value} {pr : List (Nat × Instr × Nat)} {Qc : (Nat → Prop) → Array Value → State → Outcome → State → Prop} (hy : plainName y.cls = true) (hpr : okAt bytes pr) (hav : (lg_sl av).length ≤ maxL) (body : ∀ (p : Program) (e : Env) (s : State) (m : MethodId) (args : Array Value) (below : List Frame) (meth : Method) (c : Code) (A : Nat → Prop), CX p rm s m args meth c bytes maxL y.cls rt pr D cl tys A → J p l e rm s m args below meth c maxL D cl A 0 0 (MQ below (Qc A) args s 0 0 A) ws (lv_args 0 av) 0 []) (sz : Nat) : Met l y (Cond.code y bytes maxL rt :: gw) rm (va_Pc av (PK D cl tys ws sz)) (Qc (va_A ws sz)) 0 0 (va_A ws sz) := by
  refine Met.ofW (cc := bytes) (maxL := maxL) (ret := rt) hy rfl ?_
  intro p e s m args below meth c s₁ B hml hv
  obtain ⟨rfl, hsz, hP, hK, hD0⟩ := hv
  subst hsz
  have hts := atoms_spec (ws := Cond.code y bytes maxL rt :: gw) B.pre
  have hown : s.vm.findClass y.cls = some m.cls := findClass_of_methodNamed B.named
  have hD := hD0.self (sz := s.heap.size)
  have hl := lv_entry av (n := maxL) hav
  rw [lg_entry_eq]
  exact body p e s m av.toArray below meth c (va_A ws s.heap.size) ⟨⟨B.exec, B.bytes, hml, hown, fun w h => hts w (List.mem_cons_of_mem _ h)⟩, hK, fun q h => Or.inr h, hpr, B.returns, B.notSynchronized⟩ s.heap [] _ hP hD va_S.rf hl
end
section
abbrev y_K_init : MethodName := ⟨"PipelinedCore", "<init>", "(I)V"⟩
abbrev b_K_init : ByteArray := prog_1_method_1_code
abbrev y_Obj_init : MethodName := ⟨"java/lang/Object", "<init>", "()V"⟩
abbrev b_Obj_init : ByteArray := object_method_1_code
abbrev y_Con_init : MethodName := ⟨"PipelinedCore$Controls", "<init>", "()V"⟩
abbrev b_Con_init : ByteArray := prog_4_method_1_code
abbrev y_Sto_init : MethodName := ⟨"PipelinedCore$Store", "<init>", "()V"⟩
abbrev b_Sto_init : ByteArray := prog_10_method_1_code
abbrev y_For_init : MethodName := ⟨"PipelinedCore$Foreteller", "<init>", "()V"⟩
abbrev b_For_init : ByteArray := prog_7_method_1_code
abbrev y_Arr_fill : MethodName := ⟨"java/util/Arrays", "fill", "([II)V"⟩
abbrev b_Arr_fill : ByteArray := prog_14_method_103_code
abbrev y_His_init : MethodName := ⟨"PipelinedCore$History", "<init>", "()V"⟩
abbrev b_His_init : ByteArray := prog_8_method_1_code
abbrev y_Ins_init : MethodName := ⟨"PipelinedCore$Instruction", "<init>", "()V"⟩
abbrev b_Ins_init : ByteArray := prog_9_method_1_code
abbrev y_Eff_init : MethodName := ⟨"PipelinedCore$Effect", "<init>", "()V"⟩
abbrev b_Eff_init : ByteArray := prog_5_method_1_code
abbrev y_Cac_init : MethodName := ⟨"PipelinedCore$Cache", "<init>", "(I)V"⟩
abbrev b_Cac_init : ByteArray := prog_3_method_1_code
abbrev y_Mat_min : MethodName := ⟨"java/lang/Math", "min", "(II)I"⟩
abbrev b_Mat_min : ByteArray := prog_13_method_69_code
abbrev y_Mat_max : MethodName := ⟨"java/lang/Math", "max", "(II)I"⟩
abbrev b_Mat_max : ByteArray := prog_13_method_65_code
abbrev y_K_code : MethodName := ⟨"PipelinedCore", "code", "(II)Z"⟩
abbrev b_K_code : ByteArray := prog_1_method_2_code
abbrev y_K_data : MethodName := ⟨"PipelinedCore", "data", "(II)Z"⟩
abbrev b_K_data : ByteArray := prog_1_method_3_code
abbrev y_Sto_hasWord : MethodName := ⟨"PipelinedCore$Store", "hasWord", "(I)Z"⟩
abbrev b_Sto_hasWord : ByteArray := prog_10_method_3_code
abbrev y_Sto_has : MethodName := ⟨"PipelinedCore$Store", "has", "(I)Z"⟩
abbrev b_Sto_has : ByteArray := prog_10_method_2_code
abbrev y_Sto_setWord : MethodName := ⟨"PipelinedCore$Store", "setWord", "(II)V"⟩
abbrev b_Sto_setWord : ByteArray := prog_10_method_6_code
abbrev y_K_lines : MethodName := ⟨"PipelinedCore", "lines", "(I)Z"⟩
abbrev b_K_lines : ByteArray := prog_1_method_4_code
abbrev y_Con_setLines : MethodName := ⟨"PipelinedCore$Controls", "setLines", "(I)Z"⟩
abbrev b_Con_setLines : ByteArray := prog_4_method_5_code
abbrev y_K_run : MethodName := ⟨"PipelinedCore", "run", "(I)I"⟩
abbrev b_K_run : ByteArray := prog_1_method_5_code
abbrev y_K_expect : MethodName := ⟨"PipelinedCore", "expect", "(III)V"⟩
abbrev b_K_expect : ByteArray := prog_1_method_20_code
abbrev y_Ins_decode : MethodName := ⟨"PipelinedCore$Instruction", "decode", "(IZI)V"⟩
abbrev b_Ins_decode : ByteArray := prog_9_method_2_code
abbrev y_For_foretell : MethodName := ⟨"PipelinedCore$Foreteller", "foretell", "(II)I"⟩
abbrev b_For_foretell : ByteArray := prog_7_method_2_code
abbrev y_For_entryFor : MethodName := ⟨"PipelinedCore$Foreteller", "entryFor", "(I)I"⟩
abbrev b_For_entryFor : ByteArray := prog_7_method_4_code
abbrev y_Ins_uses : MethodName := ⟨"PipelinedCore$Instruction", "uses", "(I)Z"⟩
abbrev b_Ins_uses : ByteArray := prog_9_method_9_code
abbrev y_Ins_usesA : MethodName := ⟨"PipelinedCore$Instruction", "usesA", "()Z"⟩
abbrev b_Ins_usesA : ByteArray := prog_9_method_10_code
abbrev y_Ins_usesB : MethodName := ⟨"PipelinedCore$Instruction", "usesB", "()Z"⟩
abbrev b_Ins_usesB : ByteArray := prog_9_method_11_code
abbrev y_K_makeCycle : MethodName := ⟨"PipelinedCore", "makeCycle", "()V"⟩
abbrev b_K_makeCycle : ByteArray := prog_1_method_13_code
abbrev y_K_end : MethodName := ⟨"PipelinedCore", "end", "(LPipelinedCore$Effect;)V"⟩
abbrev b_K_end : ByteArray := prog_1_method_14_code
abbrev y_Sto_read : MethodName := ⟨"PipelinedCore$Store", "read", "(II)I"⟩
abbrev b_Sto_read : ByteArray := prog_10_method_7_code
abbrev y_Sto_wordAround : MethodName := ⟨"PipelinedCore$Store", "wordAround", "(I)I"⟩
abbrev b_Sto_wordAround : ByteArray := prog_10_method_5_code
abbrev y_Sto_bitsBelow : MethodName := ⟨"PipelinedCore$Store", "bitsBelow", "(I)I"⟩
abbrev b_Sto_bitsBelow : ByteArray := prog_10_method_9_code
abbrev y_Sto_write : MethodName := ⟨"PipelinedCore$Store", "write", "(III)V"⟩
abbrev b_Sto_write : ByteArray := prog_10_method_8_code
abbrev y_His_add : MethodName := ⟨"PipelinedCore$History", "add", "(II)V"⟩
abbrev b_His_add : ByteArray := prog_8_method_2_code
abbrev y_K_moveToMemory : MethodName := ⟨"PipelinedCore", "moveToMemory", "()V"⟩
abbrev b_K_moveToMemory : ByteArray := prog_1_method_15_code
abbrev y_K_begin : MethodName := ⟨"PipelinedCore", "begin", "(LPipelinedCore$Effect;)V"⟩
abbrev b_K_begin : ByteArray := prog_1_method_16_code
abbrev y_Eff_reset : MethodName := ⟨"PipelinedCore$Effect", "reset", "(I)V"⟩
abbrev b_Eff_reset : ByteArray := prog_5_method_2_code
abbrev y_Con_dueLine : MethodName := ⟨"PipelinedCore$Controls", "dueLine", "()I"⟩
abbrev b_Con_dueLine : ByteArray := prog_4_method_6_code
abbrev y_Con_enterInterrupt : MethodName := ⟨"PipelinedCore$Controls", "enterInterrupt", "(II)I"⟩
abbrev b_Con_enterInterrupt : ByteArray := prog_4_method_7_code
abbrev y_Con_enterTrap : MethodName := ⟨"PipelinedCore$Controls", "enterTrap", "(III)I"⟩
abbrev b_Con_enterTrap : ByteArray := prog_4_method_8_code
abbrev y_K_operand : MethodName := ⟨"PipelinedCore", "operand", "(I)I"⟩
abbrev b_K_operand : ByteArray := prog_1_method_17_code
abbrev y_Exe_perform : MethodName := ⟨"PipelinedCore$Execution", "perform", "(LPipelinedCore$Instruction;IILPipelinedCore$Controls;LPipelinedCore$Effect;)V"⟩
abbrev b_Exe_perform : ByteArray := prog_6_method_2_code
abbrev y_Ins_numberU : MethodName := ⟨"PipelinedCore$Instruction", "numberU", "()I"⟩
abbrev b_Ins_numberU : ByteArray := prog_9_method_6_code
abbrev y_Eff_setRegister : MethodName := ⟨"PipelinedCore$Effect", "setRegister", "(II)V"⟩
abbrev b_Eff_setRegister : ByteArray := prog_5_method_3_code
abbrev y_Ins_numberJ : MethodName := ⟨"PipelinedCore$Instruction", "numberJ", "()I"⟩
abbrev b_Ins_numberJ : ByteArray := prog_9_method_7_code
abbrev y_Exe_jump : MethodName := ⟨"PipelinedCore$Execution", "jump", "(LPipelinedCore$Instruction;ILPipelinedCore$Effect;)V"⟩
abbrev b_Exe_jump : ByteArray := prog_6_method_4_code
abbrev y_Eff_jump : MethodName := ⟨"PipelinedCore$Effect", "jump", "(I)V"⟩
abbrev b_Eff_jump : ByteArray := prog_5_method_5_code
abbrev y_Eff_trap : MethodName := ⟨"PipelinedCore$Effect", "trap", "(II)V"⟩
abbrev b_Eff_trap : ByteArray := prog_5_method_4_code
abbrev y_Ins_numberI : MethodName := ⟨"PipelinedCore$Instruction", "numberI", "()I"⟩
abbrev b_Ins_numberI : ByteArray := prog_9_method_3_code
abbrev y_Exe_refuse : MethodName := ⟨"PipelinedCore$Execution", "refuse", "(LPipelinedCore$Instruction;LPipelinedCore$Effect;)V"⟩
abbrev b_Exe_refuse : ByteArray := prog_6_method_3_code
abbrev y_Exe_branch : MethodName := ⟨"PipelinedCore$Execution", "branch", "(LPipelinedCore$Instruction;IILPipelinedCore$Effect;)V"⟩
abbrev b_Exe_branch : ByteArray := prog_6_method_5_code
abbrev y_Exe_conditionHolds : MethodName := ⟨"PipelinedCore$Execution", "conditionHolds", "(III)Z"⟩
abbrev b_Exe_conditionHolds : ByteArray := prog_6_method_6_code
abbrev y_Ari_lessWithoutSigns : MethodName := ⟨"PipelinedCore$Arithmetic", "lessWithoutSigns", "(II)Z"⟩
abbrev b_Ari_lessWithoutSigns : ByteArray := prog_2_method_2_code
abbrev y_Ins_numberB : MethodName := ⟨"PipelinedCore$Instruction", "numberB", "()I"⟩
abbrev b_Ins_numberB : ByteArray := prog_9_method_5_code
abbrev y_Exe_read : MethodName := ⟨"PipelinedCore$Execution", "read", "(LPipelinedCore$Instruction;ILPipelinedCore$Effect;)V"⟩
abbrev b_Exe_read : ByteArray := prog_6_method_7_code
abbrev y_Sto_isStraight : MethodName := ⟨"PipelinedCore$Store", "isStraight", "(II)Z"⟩
abbrev b_Sto_isStraight : ByteArray := prog_10_method_4_code
abbrev y_Ins_numberS : MethodName := ⟨"PipelinedCore$Instruction", "numberS", "()I"⟩
abbrev b_Ins_numberS : ByteArray := prog_9_method_4_code
abbrev y_Exe_write : MethodName := ⟨"PipelinedCore$Execution", "write", "(LPipelinedCore$Instruction;IILPipelinedCore$Effect;)V"⟩
abbrev b_Exe_write : ByteArray := prog_6_method_8_code
abbrev y_Exe_computeWithNumber : MethodName := ⟨"PipelinedCore$Execution", "computeWithNumber", "(LPipelinedCore$Instruction;ILPipelinedCore$Effect;)V"⟩
abbrev b_Exe_computeWithNumber : ByteArray := prog_6_method_9_code
abbrev y_Ari_plain : MethodName := ⟨"PipelinedCore$Arithmetic", "plain", "(III)I"⟩
abbrev b_Ari_plain : ByteArray := prog_2_method_3_code
abbrev y_Exe_computeWithRegister : MethodName := ⟨"PipelinedCore$Execution", "computeWithRegister", "(LPipelinedCore$Instruction;IILPipelinedCore$Effect;)V"⟩
abbrev b_Exe_computeWithRegister : ByteArray := prog_6_method_10_code
abbrev y_Ari_product : MethodName := ⟨"PipelinedCore$Arithmetic", "product", "(III)I"⟩
abbrev b_Ari_product : ByteArray := prog_2_method_4_code
abbrev y_Ari_quotient : MethodName := ⟨"PipelinedCore$Arithmetic", "quotient", "(III)I"⟩
abbrev b_Ari_quotient : ByteArray := prog_2_method_5_code
abbrev y_Exe_doWholeWord : MethodName := ⟨"PipelinedCore$Execution", "doWholeWord", "(LPipelinedCore$Instruction;LPipelinedCore$Controls;LPipelinedCore$Effect;)V"⟩
abbrev b_Exe_doWholeWord : ByteArray := prog_6_method_11_code
abbrev y_Con_leaveTrap : MethodName := ⟨"PipelinedCore$Controls", "leaveTrap", "()I"⟩
abbrev b_Con_leaveTrap : ByteArray := prog_4_method_9_code
abbrev y_Exe_useControl : MethodName := ⟨"PipelinedCore$Execution", "useControl", "(LPipelinedCore$Instruction;ILPipelinedCore$Controls;LPipelinedCore$Effect;)V"⟩
abbrev b_Exe_useControl : ByteArray := prog_6_method_12_code
abbrev y_Con_has : MethodName := ⟨"PipelinedCore$Controls", "has", "(I)Z"⟩
abbrev b_Con_has : ByteArray := prog_4_method_2_code
abbrev y_Con_read : MethodName := ⟨"PipelinedCore$Controls", "read", "(I)I"⟩
abbrev b_Con_read : ByteArray := prog_4_method_3_code
abbrev y_Con_write : MethodName := ⟨"PipelinedCore$Controls", "write", "(II)V"⟩
abbrev b_Con_write : ByteArray := prog_4_method_4_code
abbrev y_K_setTimes : MethodName := ⟨"PipelinedCore", "setTimes", "(LPipelinedCore$Effect;)V"⟩
abbrev b_K_setTimes : ByteArray := prog_1_method_18_code
abbrev y_Cac_visit : MethodName := ⟨"PipelinedCore$Cache", "visit", "(IZ)I"⟩
abbrev b_Cac_visit : ByteArray := prog_3_method_2_code
abbrev y_K_goOn : MethodName := ⟨"PipelinedCore", "goOn", "(LPipelinedCore$Effect;)V"⟩
abbrev b_K_goOn : ByteArray := prog_1_method_19_code
abbrev y_Ins_mayJump : MethodName := ⟨"PipelinedCore$Instruction", "mayJump", "()Z"⟩
abbrev b_Ins_mayJump : ByteArray := prog_9_method_8_code
abbrev y_For_learn : MethodName := ⟨"PipelinedCore$Foreteller", "learn", "(IZII)V"⟩
abbrev b_For_learn : ByteArray := prog_7_method_3_code
abbrev y_For_keepEarlier : MethodName := ⟨"PipelinedCore$Foreteller", "keepEarlier", "(I)V"⟩
abbrev b_For_keepEarlier : ByteArray := prog_7_method_5_code
abbrev y_K_reg : MethodName := ⟨"PipelinedCore", "reg", "(I)I"⟩
abbrev b_K_reg : ByteArray := prog_1_method_6_code
abbrev y_K_control : MethodName := ⟨"PipelinedCore", "control", "(I)I"⟩
abbrev b_K_control : ByteArray := prog_1_method_7_code
abbrev y_K_word : MethodName := ⟨"PipelinedCore", "word", "(I)I"⟩
abbrev b_K_word : ByteArray := prog_1_method_8_code
abbrev y_K_ended : MethodName := ⟨"PipelinedCore", "ended", "(II)I"⟩
abbrev b_K_ended : ByteArray := prog_1_method_9_code
abbrev y_His_has : MethodName := ⟨"PipelinedCore$History", "has", "(I)Z"⟩
abbrev b_His_has : ByteArray := prog_8_method_3_code
abbrev y_His_address : MethodName := ⟨"PipelinedCore$History", "address", "(I)I"⟩
abbrev b_His_address : ByteArray := prog_8_method_4_code
abbrev y_His_placeOf : MethodName := ⟨"PipelinedCore$History", "placeOf", "(I)I"⟩
abbrev b_His_placeOf : ByteArray := prog_8_method_6_code
abbrev y_His_time : MethodName := ⟨"PipelinedCore$History", "time", "(I)I"⟩
abbrev b_His_time : ByteArray := prog_8_method_5_code
abbrev y_K_stage : MethodName := ⟨"PipelinedCore", "stage", "(I)I"⟩
abbrev b_K_stage : ByteArray := prog_1_method_10_code
abbrev y_K_foretold : MethodName := ⟨"PipelinedCore", "foretold", "(I)I"⟩
abbrev b_K_foretold : ByteArray := prog_1_method_11_code
abbrev y_K_figure : MethodName := ⟨"PipelinedCore", "figure", "(I)I"⟩
abbrev b_K_figure : ByteArray := prog_1_method_12_code
abbrev y_Law_cell : MethodName := ⟨"PipelinedCoreLaw", "cell", "([II)I"⟩
abbrev b_Law_cell : ByteArray := method_2_code
abbrev y_M_init : MethodName := ⟨"PipelinedCoreModel", "<init>", "(I)V"⟩
abbrev b_M_init : ByteArray := prog_12_method_1_code
abbrev y_M_code : MethodName := ⟨"PipelinedCoreModel", "code", "(II)Z"⟩
abbrev b_M_code : ByteArray := prog_12_method_2_code
abbrev y_M_data : MethodName := ⟨"PipelinedCoreModel", "data", "(II)Z"⟩
abbrev b_M_data : ByteArray := prog_12_method_4_code
abbrev y_M_isData : MethodName := ⟨"PipelinedCoreModel", "isData", "(I)Z"⟩
abbrev b_M_isData : ByteArray := prog_12_method_3_code
abbrev y_M_lines : MethodName := ⟨"PipelinedCoreModel", "lines", "(I)Z"⟩
abbrev b_M_lines : ByteArray := prog_12_method_5_code
abbrev y_M_run : MethodName := ⟨"PipelinedCoreModel", "run", "(I)I"⟩
abbrev b_M_run : ByteArray := prog_12_method_45_code
abbrev y_M_beginning : MethodName := ⟨"PipelinedCoreModel", "beginning", "()I"⟩
abbrev b_M_beginning : ByteArray := prog_12_method_34_code
abbrev y_M_inCode : MethodName := ⟨"PipelinedCoreModel", "inCode", "()Z"⟩
abbrev b_M_inCode : ByteArray := prog_12_method_31_code
abbrev y_M_decoding : MethodName := ⟨"PipelinedCoreModel", "decoding", "()I"⟩
abbrev b_M_decoding : ByteArray := prog_12_method_35_code
abbrev y_M_usesA : MethodName := ⟨"PipelinedCoreModel", "usesA", "()Z"⟩
abbrev b_M_usesA : ByteArray := prog_12_method_14_code
abbrev y_M_op : MethodName := ⟨"PipelinedCoreModel", "op", "()I"⟩
abbrev b_M_op : ByteArray := prog_12_method_7_code
abbrev y_M_bits : MethodName := ⟨"PipelinedCoreModel", "bits", "(II)I"⟩
abbrev b_M_bits : ByteArray := prog_12_method_6_code
abbrev y_M_usesB : MethodName := ⟨"PipelinedCoreModel", "usesB", "()Z"⟩
abbrev b_M_usesB : ByteArray := prog_12_method_15_code
abbrev y_M_perform : MethodName := ⟨"PipelinedCoreModel", "perform", "(I)V"⟩
abbrev b_M_perform : ByteArray := prog_12_method_36_code
abbrev y_M_fetched : MethodName := ⟨"PipelinedCoreModel", "fetched", "()I"⟩
abbrev b_M_fetched : ByteArray := prog_12_method_42_code
abbrev y_M_learn : MethodName := ⟨"PipelinedCoreModel", "learn", "(IIIZ)V"⟩
abbrev b_M_learn : ByteArray := prog_12_method_41_code
abbrev y_M_guess : MethodName := ⟨"PipelinedCoreModel", "guess", "(II)I"⟩
abbrev b_M_guess : ByteArray := prog_12_method_40_code
abbrev y_M_enter : MethodName := ⟨"PipelinedCoreModel", "enter", "(III)V"⟩
abbrev b_M_enter : ByteArray := prog_12_method_33_code
abbrev y_M_fulfil : MethodName := ⟨"PipelinedCoreModel", "fulfil", "()V"⟩
abbrev b_M_fulfil : ByteArray := prog_12_method_37_code
abbrev y_M_decide : MethodName := ⟨"PipelinedCoreModel", "decide", "()V"⟩
abbrev b_M_decide : ByteArray := prog_12_method_32_code
abbrev y_M_numberJ : MethodName := ⟨"PipelinedCoreModel", "numberJ", "()I"⟩
abbrev b_M_numberJ : ByteArray := prog_12_method_11_code
abbrev y_M_go : MethodName := ⟨"PipelinedCoreModel", "go", "(I)V"⟩
abbrev b_M_go : ByteArray := prog_12_method_23_code
abbrev y_M_regA : MethodName := ⟨"PipelinedCoreModel", "regA", "()I"⟩
abbrev b_M_regA : ByteArray := prog_12_method_12_code
abbrev y_M_numberI : MethodName := ⟨"PipelinedCoreModel", "numberI", "()I"⟩
abbrev b_M_numberI : ByteArray := prog_12_method_8_code
abbrev y_M_branch : MethodName := ⟨"PipelinedCoreModel", "branch", "()V"⟩
abbrev b_M_branch : ByteArray := prog_12_method_24_code
abbrev y_M_regB : MethodName := ⟨"PipelinedCoreModel", "regB", "()I"⟩
abbrev b_M_regB : ByteArray := prog_12_method_13_code
abbrev y_M_below : MethodName := ⟨"PipelinedCoreModel", "below", "(II)Z"⟩
abbrev b_M_below : ByteArray := prog_12_method_16_code
abbrev y_M_illegal : MethodName := ⟨"PipelinedCoreModel", "illegal", "()V"⟩
abbrev b_M_illegal : ByteArray := prog_12_method_20_code
abbrev y_M_numberB : MethodName := ⟨"PipelinedCoreModel", "numberB", "()I"⟩
abbrev b_M_numberB : ByteArray := prog_12_method_10_code
abbrev y_M_load : MethodName := ⟨"PipelinedCoreModel", "load", "()V"⟩
abbrev b_M_load : ByteArray := prog_12_method_26_code
abbrev y_M_reach : MethodName := ⟨"PipelinedCoreModel", "reach", "(III)V"⟩
abbrev b_M_reach : ByteArray := prog_12_method_25_code
abbrev y_M_store : MethodName := ⟨"PipelinedCoreModel", "store", "()V"⟩
abbrev b_M_store : ByteArray := prog_12_method_27_code
abbrev y_M_numberS : MethodName := ⟨"PipelinedCoreModel", "numberS", "()I"⟩
abbrev b_M_numberS : ByteArray := prog_12_method_9_code
abbrev y_M_immediate : MethodName := ⟨"PipelinedCoreModel", "immediate", "()V"⟩
abbrev b_M_immediate : ByteArray := prog_12_method_21_code
abbrev y_M_plain : MethodName := ⟨"PipelinedCoreModel", "plain", "(IIIZ)I"⟩
abbrev b_M_plain : ByteArray := prog_12_method_17_code
abbrev y_M_operation : MethodName := ⟨"PipelinedCoreModel", "operation", "()V"⟩
abbrev b_M_operation : ByteArray := prog_12_method_22_code
abbrev y_M_product : MethodName := ⟨"PipelinedCoreModel", "product", "(III)I"⟩
abbrev b_M_product : ByteArray := prog_12_method_18_code
abbrev y_M_quotient : MethodName := ⟨"PipelinedCoreModel", "quotient", "(III)I"⟩
abbrev b_M_quotient : ByteArray := prog_12_method_19_code
abbrev y_M_system : MethodName := ⟨"PipelinedCoreModel", "system", "()V"⟩
abbrev b_M_system : ByteArray := prog_12_method_30_code
abbrev y_M_placeOf : MethodName := ⟨"PipelinedCoreModel", "placeOf", "(I)I"⟩
abbrev b_M_placeOf : ByteArray := prog_12_method_28_code
abbrev y_M_change : MethodName := ⟨"PipelinedCoreModel", "change", "(II)V"⟩
abbrev b_M_change : ByteArray := prog_12_method_29_code
abbrev y_M_finish : MethodName := ⟨"PipelinedCoreModel", "finish", "(I)V"⟩
abbrev b_M_finish : ByteArray := prog_12_method_38_code
abbrev y_M_cached : MethodName := ⟨"PipelinedCoreModel", "cached", "()I"⟩
abbrev b_M_cached : ByteArray := prog_12_method_39_code
abbrev y_M_end : MethodName := ⟨"PipelinedCoreModel", "end", "(I)V"⟩
abbrev b_M_end : ByteArray := prog_12_method_43_code
abbrev y_M_shift : MethodName := ⟨"PipelinedCoreModel", "shift", "(I)V"⟩
abbrev b_M_shift : ByteArray := prog_12_method_44_code
abbrev y_M_reg : MethodName := ⟨"PipelinedCoreModel", "reg", "(I)I"⟩
abbrev b_M_reg : ByteArray := prog_12_method_46_code
abbrev y_M_control : MethodName := ⟨"PipelinedCoreModel", "control", "(I)I"⟩
abbrev b_M_control : ByteArray := prog_12_method_47_code
abbrev y_M_word : MethodName := ⟨"PipelinedCoreModel", "word", "(I)I"⟩
abbrev b_M_word : ByteArray := prog_12_method_48_code
abbrev y_M_ended : MethodName := ⟨"PipelinedCoreModel", "ended", "(II)I"⟩
abbrev b_M_ended : ByteArray := prog_12_method_49_code
abbrev y_M_stage : MethodName := ⟨"PipelinedCoreModel", "stage", "(I)I"⟩
abbrev b_M_stage : ByteArray := prog_12_method_50_code
abbrev y_M_foretold : MethodName := ⟨"PipelinedCoreModel", "foretold", "(I)I"⟩
abbrev b_M_foretold : ByteArray := prog_12_method_51_code
abbrev y_M_figure : MethodName := ⟨"PipelinedCoreModel", "figure", "(I)I"⟩
abbrev b_M_figure : ByteArray := prog_12_method_52_code
theorem m_K_code : mI y_K_code b_K_code 3 (some .boolean) 2 := ⟨w316, w317, w1, w318, by decide +kernel, by decide +kernel, by decide +kernel⟩
theorem m_K_data : mI y_K_data b_K_data 3 (some .boolean) 2 := ⟨w320, w321, w1, w322, by decide +kernel, by decide +kernel, by decide +kernel⟩
theorem m_Sto_hasWord : mS y_Sto_hasWord b_Sto_hasWord 1 (some .boolean) 1 := ⟨w324, w3, w325, by decide +kernel, by decide +kernel, by decide +kernel⟩
theorem m_Sto_has : mS y_Sto_has b_Sto_has 1 (some .boolean) 1 := ⟨w327, w3, w328, by decide +kernel, by decide +kernel, by decide +kernel⟩
theorem m_Sto_setWord : mI y_Sto_setWord b_Sto_setWord 3 none 2 := ⟨w330, w331, w3, w332, by decide +kernel, by decide +kernel, by decide +kernel⟩
theorem m_K_lines : mI y_K_lines b_K_lines 2 (some .boolean) 1 := ⟨w334, w335, w1, w336, by decide +kernel, by decide +kernel, by decide +kernel⟩
theorem m_Con_setLines : mI y_Con_setLines b_Con_setLines 2 (some .boolean) 1 := ⟨w338, w339, w2, w340, by decide +kernel, by decide +kernel, by decide +kernel⟩
theorem m_K_run : mI y_K_run b_K_run 4 (some .int) 1 := ⟨w342, w343, w1, w344, by decide +kernel, by decide +kernel, by decide +kernel⟩
theorem m_K_expect : mI y_K_expect b_K_expect 5 none 3 := ⟨w347, gw_sel (q := (⟨"PipelinedCore", "expect", "(III)V"⟩, 17)) (List.mem_of_getElem? (i := 0) rfl), w1, w348, by decide +kernel, by decide +kernel, by decide +kernel⟩
theorem m_Ins_decode : mI y_Ins_decode b_Ins_decode 4 none 3 := ⟨w350, w351, w7, w352, by decide +kernel, by decide +kernel, by decide +kernel⟩
theorem m_For_foretell : mI y_For_foretell b_For_foretell 6 (some .int) 2 := ⟨w354, w355, w4, w356, by decide +kernel, by decide +kernel, by decide +kernel⟩
theorem m_For_entryFor : mS y_For_entryFor b_For_entryFor 1 (some .int) 1 := ⟨w358, w4, w359, by decide +kernel, by decide +kernel, by decide +kernel⟩
theorem m_Ins_uses : mI y_Ins_uses b_Ins_uses 2 (some .boolean) 1 := ⟨w362, w363, w7, w364, by decide +kernel, by decide +kernel, by decide +kernel⟩
theorem m_Ins_usesA : mI y_Ins_usesA b_Ins_usesA 1 (some .boolean) 0 := ⟨w367, gw_sel (q := (⟨"PipelinedCore$Instruction", "usesA", "()Z"⟩, 12)) (List.mem_of_getElem? (i := 1) rfl), w7, w368, by decide +kernel, by decide +kernel, by decide +kernel⟩
theorem m_Ins_usesB : mI y_Ins_usesB b_Ins_usesB 1 (some .boolean) 0 := ⟨w371, gw_sel (q := (⟨"PipelinedCore$Instruction", "usesB", "()Z"⟩, 12)) (List.mem_of_getElem? (i := 2) rfl), w7, w372, by decide +kernel, by decide +kernel, by decide +kernel⟩
theorem m_K_makeCycle : mI y_K_makeCycle b_K_makeCycle 1 none 0 := ⟨w375, gw_sel (q := (⟨"PipelinedCore", "makeCycle", "()V"⟩, 17)) (List.mem_of_getElem? (i := 3) rfl), w1, w376, by decide +kernel, by decide +kernel, by decide +kernel⟩
theorem m_K_end : mI y_K_end b_K_end 2 none 1 := ⟨w379, gw_sel (q := (⟨"PipelinedCore", "end", "(LPipelinedCore$Effect;)V"⟩, 17)) (List.mem_of_getElem? (i := 4) rfl), w1, w380, by decide +kernel, by decide +kernel, by decide +kernel⟩
theorem m_Sto_read : mI y_Sto_read b_Sto_read 4 (some .int) 2 := ⟨w382, w383, w3, w384, by decide +kernel, by decide +kernel, by decide +kernel⟩
theorem m_Sto_wordAround : mI y_Sto_wordAround b_Sto_wordAround 2 (some .int) 1 := ⟨w386, w387, w3, w388, by decide +kernel, by decide +kernel, by decide +kernel⟩
theorem m_Sto_bitsBelow : mS y_Sto_bitsBelow b_Sto_bitsBelow 1 (some .int) 1 := ⟨w390, w3, w391, by decide +kernel, by decide +kernel, by decide +kernel⟩
theorem m_Sto_write : mI y_Sto_write b_Sto_write 7 none 3 := ⟨w394, w395, w3, w396, by decide +kernel, by decide +kernel, by decide +kernel⟩
theorem m_His_add : mI y_His_add b_His_add 4 none 2 := ⟨w399, w400, w6, w401, by decide +kernel, by decide +kernel, by decide +kernel⟩
theorem m_K_moveToMemory : mI y_K_moveToMemory b_K_moveToMemory 2 none 0 := ⟨w404, gw_sel (q := (⟨"PipelinedCore", "moveToMemory", "()V"⟩, 17)) (List.mem_of_getElem? (i := 5) rfl), w1, w405, by decide +kernel, by decide +kernel, by decide +kernel⟩
theorem m_K_begin : mI y_K_begin b_K_begin 4 none 1 := ⟨w408, gw_sel (q := (⟨"PipelinedCore", "begin", "(LPipelinedCore$Effect;)V"⟩, 17)) (List.mem_of_getElem? (i := 6) rfl), w1, w409, by decide +kernel, by decide +kernel, by decide +kernel⟩
theorem m_Eff_reset : mI y_Eff_reset b_Eff_reset 2 none 1 := ⟨w411, w412, w8, w413, by decide +kernel, by decide +kernel, by decide +kernel⟩
theorem m_Con_dueLine : mI y_Con_dueLine b_Con_dueLine 2 (some .int) 0 := ⟨w415, w416, w2, w417, by decide +kernel, by decide +kernel, by decide +kernel⟩
theorem m_Con_enterInterrupt : mI y_Con_enterInterrupt b_Con_enterInterrupt 4 (some .int) 2 := ⟨w419, w420, w2, w421, by decide +kernel, by decide +kernel, by decide +kernel⟩
theorem m_Con_enterTrap : mI y_Con_enterTrap b_Con_enterTrap 4 (some .int) 3 := ⟨w424, w425, w2, w426, by decide +kernel, by decide +kernel, by decide +kernel⟩
theorem m_K_operand : mI y_K_operand b_K_operand 3 (some .int) 1 := ⟨w429, gw_sel (q := (⟨"PipelinedCore", "operand", "(I)I"⟩, 17)) (List.mem_of_getElem? (i := 7) rfl), w1, w430, by decide +kernel, by decide +kernel, by decide +kernel⟩
theorem m_Exe_perform : mS y_Exe_perform b_Exe_perform 5 none 5 := ⟨w432, w12, w433, by decide +kernel, by decide +kernel, by decide +kernel⟩
theorem m_Ins_numberU : mI y_Ins_numberU b_Ins_numberU 1 (some .int) 0 := ⟨w435, w436, w7, w437, by decide +kernel, by decide +kernel, by decide +kernel⟩
theorem m_Eff_setRegister : mI y_Eff_setRegister b_Eff_setRegister 3 none 2 := ⟨w439, w440, w8, w441, by decide +kernel, by decide +kernel, by decide +kernel⟩
theorem m_Ins_numberJ : mI y_Ins_numberJ b_Ins_numberJ 1 (some .int) 0 := ⟨w443, w444, w7, w445, by decide +kernel, by decide +kernel, by decide +kernel⟩
theorem m_Exe_jump : mS y_Exe_jump b_Exe_jump 3 none 3 := ⟨w448, w12, w449, by decide +kernel, by decide +kernel, by decide +kernel⟩
theorem m_Eff_jump : mI y_Eff_jump b_Eff_jump 2 none 1 := ⟨w451, w452, w8, w453, by decide +kernel, by decide +kernel, by decide +kernel⟩
theorem m_Eff_trap : mI y_Eff_trap b_Eff_trap 3 none 2 := ⟨w455, w456, w8, w457, by decide +kernel, by decide +kernel, by decide +kernel⟩
theorem m_Ins_numberI : mI y_Ins_numberI b_Ins_numberI 1 (some .int) 0 := ⟨w459, w460, w7, w461, by decide +kernel, by decide +kernel, by decide +kernel⟩
theorem m_Exe_refuse : mS y_Exe_refuse b_Exe_refuse 2 none 2 := ⟨w463, w12, w464, by decide +kernel, by decide +kernel, by decide +kernel⟩
theorem m_Exe_branch : mS y_Exe_branch b_Exe_branch 4 none 4 := ⟨w467, w12, w468, by decide +kernel, by decide +kernel, by decide +kernel⟩
theorem m_Exe_conditionHolds : mS y_Exe_conditionHolds b_Exe_conditionHolds 3 (some .boolean) 3 := ⟨w470, w12, w471, by decide +kernel, by decide +kernel, by decide +kernel⟩
theorem m_Ari_lessWithoutSigns : mS y_Ari_lessWithoutSigns b_Ari_lessWithoutSigns 2 (some .boolean) 2 := ⟨w473, w13, w474, by decide +kernel, by decide +kernel, by decide +kernel⟩
theorem m_Ins_numberB : mI y_Ins_numberB b_Ins_numberB 1 (some .int) 0 := ⟨w477, w478, w7, w479, by decide +kernel, by decide +kernel, by decide +kernel⟩
theorem m_Exe_read : mS y_Exe_read b_Exe_read 3 none 3 := ⟨w481, w12, w482, by decide +kernel, by decide +kernel, by decide +kernel⟩
theorem m_Sto_isStraight : mS y_Sto_isStraight b_Sto_isStraight 2 (some .boolean) 2 := ⟨w484, w3, w485, by decide +kernel, by decide +kernel, by decide +kernel⟩
theorem m_Ins_numberS : mI y_Ins_numberS b_Ins_numberS 1 (some .int) 0 := ⟨w488, w489, w7, w490, by decide +kernel, by decide +kernel, by decide +kernel⟩
theorem m_Exe_write : mS y_Exe_write b_Exe_write 4 none 4 := ⟨w492, w12, w493, by decide +kernel, by decide +kernel, by decide +kernel⟩
theorem m_Exe_computeWithNumber : mS y_Exe_computeWithNumber b_Exe_computeWithNumber 4 none 3 := ⟨w495, w12, w496, by decide +kernel, by decide +kernel, by decide +kernel⟩
theorem m_Ari_plain : mS y_Ari_plain b_Ari_plain 3 (some .int) 3 := ⟨w498, w13, w499, by decide +kernel, by decide +kernel, by decide +kernel⟩
theorem m_Exe_computeWithRegister : mS y_Exe_computeWithRegister b_Exe_computeWithRegister 4 none 4 := ⟨w502, w12, w503, by decide +kernel, by decide +kernel, by decide +kernel⟩
theorem m_Ari_product : mS y_Ari_product b_Ari_product 3 (some .int) 3 := ⟨w505, w13, w506, by decide +kernel, by decide +kernel, by decide +kernel⟩
theorem m_Ari_quotient : mS y_Ari_quotient b_Ari_quotient 3 (some .int) 3 := ⟨w508, w13, w509, by decide +kernel, by decide +kernel, by decide +kernel⟩
theorem m_Exe_doWholeWord : mS y_Exe_doWholeWord b_Exe_doWholeWord 3 none 3 := ⟨w511, w12, w512, by decide +kernel, by decide +kernel, by decide +kernel⟩
theorem m_Con_leaveTrap : mI y_Con_leaveTrap b_Con_leaveTrap 1 (some .int) 0 := ⟨w514, w515, w2, w516, by decide +kernel, by decide +kernel, by decide +kernel⟩
theorem m_Exe_useControl : mS y_Exe_useControl b_Exe_useControl 7 none 4 := ⟨w518, w12, w519, by decide +kernel, by decide +kernel, by decide +kernel⟩
theorem m_Con_has : mS y_Con_has b_Con_has 1 (some .boolean) 1 := ⟨w521, w2, w522, by decide +kernel, by decide +kernel, by decide +kernel⟩
theorem m_Con_read : mI y_Con_read b_Con_read 2 (some .int) 1 := ⟨w524, w525, w2, w526, by decide +kernel, by decide +kernel, by decide +kernel⟩
theorem m_Con_write : mI y_Con_write b_Con_write 3 none 2 := ⟨w528, w529, w2, w530, by decide +kernel, by decide +kernel, by decide +kernel⟩
theorem m_K_setTimes : mI y_K_setTimes b_K_setTimes 3 none 1 := ⟨w535, gw_sel (q := (⟨"PipelinedCore", "setTimes", "(LPipelinedCore$Effect;)V"⟩, 17)) (List.mem_of_getElem? (i := 8) rfl), w1, w536, by decide +kernel, by decide +kernel, by decide +kernel⟩
theorem m_Cac_visit : mI y_Cac_visit b_Cac_visit 6 (some .int) 2 := ⟨w538, w539, w9, w540, by decide +kernel, by decide +kernel, by decide +kernel⟩
theorem m_K_goOn : mI y_K_goOn b_K_goOn 4 none 1 := ⟨w543, gw_sel (q := (⟨"PipelinedCore", "goOn", "(LPipelinedCore$Effect;)V"⟩, 17)) (List.mem_of_getElem? (i := 9) rfl), w1, w544, by decide +kernel, by decide +kernel, by decide +kernel⟩
theorem m_Ins_mayJump : mI y_Ins_mayJump b_Ins_mayJump 1 (some .boolean) 0 := ⟨w546, w547, w7, w548, by decide +kernel, by decide +kernel, by decide +kernel⟩
theorem m_For_learn : mI y_For_learn b_For_learn 7 none 4 := ⟨w550, w551, w4, w552, by decide +kernel, by decide +kernel, by decide +kernel⟩
theorem m_For_keepEarlier : mI y_For_keepEarlier b_For_keepEarlier 3 none 1 := ⟨w555, gw_sel (q := (⟨"PipelinedCore$Foreteller", "keepEarlier", "(I)V"⟩, 4)) (List.mem_of_getElem? (i := 10) rfl), w4, w556, by decide +kernel, by decide +kernel, by decide +kernel⟩
theorem m_K_reg : mI y_K_reg b_K_reg 2 (some .int) 1 := ⟨w560, w561, w1, w562, by decide +kernel, by decide +kernel, by decide +kernel⟩
theorem m_K_control : mI y_K_control b_K_control 2 (some .int) 1 := ⟨w564, w565, w1, w566, by decide +kernel, by decide +kernel, by decide +kernel⟩
theorem m_K_word : mI y_K_word b_K_word 2 (some .int) 1 := ⟨w569, w570, w1, w571, by decide +kernel, by decide +kernel, by decide +kernel⟩
theorem m_K_ended : mI y_K_ended b_K_ended 3 (some .int) 2 := ⟨w574, w575, w1, w576, by decide +kernel, by decide +kernel, by decide +kernel⟩
theorem m_His_has : mI y_His_has b_His_has 2 (some .boolean) 1 := ⟨w578, w579, w6, w580, by decide +kernel, by decide +kernel, by decide +kernel⟩
theorem m_His_address : mI y_His_address b_His_address 2 (some .int) 1 := ⟨w582, w583, w6, w584, by decide +kernel, by decide +kernel, by decide +kernel⟩
theorem m_His_placeOf : mI y_His_placeOf b_His_placeOf 2 (some .int) 1 := ⟨w587, gw_sel (q := (⟨"PipelinedCore$History", "placeOf", "(I)I"⟩, 3)) (List.mem_of_getElem? (i := 11) rfl), w6, w588, by decide +kernel, by decide +kernel, by decide +kernel⟩
theorem m_His_time : mI y_His_time b_His_time 2 (some .int) 1 := ⟨w590, w591, w6, w592, by decide +kernel, by decide +kernel, by decide +kernel⟩
theorem m_K_stage : mI y_K_stage b_K_stage 2 (some .int) 1 := ⟨w594, w595, w1, w596, by decide +kernel, by decide +kernel, by decide +kernel⟩
theorem m_K_foretold : mI y_K_foretold b_K_foretold 2 (some .int) 1 := ⟨w598, w599, w1, w600, by decide +kernel, by decide +kernel, by decide +kernel⟩
theorem m_K_figure : mI y_K_figure b_K_figure 2 (some .int) 1 := ⟨w602, w603, w1, w604, by decide +kernel, by decide +kernel, by decide +kernel⟩
theorem m_Law_cell : mS y_Law_cell b_Law_cell 2 (some .int) 2 := ⟨w606, w0, w607, by decide +kernel, by decide +kernel, by decide +kernel⟩
theorem m_M_code : mI y_M_code b_M_code 3 (some .boolean) 2 := ⟨w784, w785, w11, w786, by decide +kernel, by decide +kernel, by decide +kernel⟩
theorem m_M_data : mI y_M_data b_M_data 3 (some .boolean) 2 := ⟨w788, w789, w11, w790, by decide +kernel, by decide +kernel, by decide +kernel⟩
theorem m_M_isData : mS y_M_isData b_M_isData 1 (some .boolean) 1 := ⟨w792, w11, w793, by decide +kernel, by decide +kernel, by decide +kernel⟩
theorem m_M_lines : mI y_M_lines b_M_lines 2 (some .boolean) 1 := ⟨w795, w796, w11, w797, by decide +kernel, by decide +kernel, by decide +kernel⟩
theorem m_M_run : mI y_M_run b_M_run 4 (some .int) 1 := ⟨w799, w800, w11, w801, by decide +kernel, by decide +kernel, by decide +kernel⟩
theorem m_M_beginning : mI y_M_beginning b_M_beginning 5 (some .int) 0 := ⟨w804, gw_sel (q := (⟨"PipelinedCoreModel", "beginning", "()I"⟩, 56)) (List.mem_of_getElem? (i := 12) rfl), w11, w805, by decide +kernel, by decide +kernel, by decide +kernel⟩
theorem m_M_inCode : mI y_M_inCode b_M_inCode 1 (some .boolean) 0 := ⟨w808, gw_sel (q := (⟨"PipelinedCoreModel", "inCode", "()Z"⟩, 56)) (List.mem_of_getElem? (i := 13) rfl), w11, w809, by decide +kernel, by decide +kernel, by decide +kernel⟩
theorem m_M_decoding : mI y_M_decoding b_M_decoding 2 (some .int) 0 := ⟨w812, gw_sel (q := (⟨"PipelinedCoreModel", "decoding", "()I"⟩, 56)) (List.mem_of_getElem? (i := 14) rfl), w11, w813, by decide +kernel, by decide +kernel, by decide +kernel⟩
theorem m_M_usesA : mI y_M_usesA b_M_usesA 4 (some .boolean) 0 := ⟨w816, gw_sel (q := (⟨"PipelinedCoreModel", "usesA", "()Z"⟩, 56)) (List.mem_of_getElem? (i := 15) rfl), w11, w817, by decide +kernel, by decide +kernel, by decide +kernel⟩
theorem m_M_op : mI y_M_op b_M_op 1 (some .int) 0 := ⟨w820, gw_sel (q := (⟨"PipelinedCoreModel", "op", "()I"⟩, 56)) (List.mem_of_getElem? (i := 16) rfl), w11, w821, by decide +kernel, by decide +kernel, by decide +kernel⟩
theorem m_M_bits : mI y_M_bits b_M_bits 3 (some .int) 2 := ⟨w824, gw_sel (q := (⟨"PipelinedCoreModel", "bits", "(II)I"⟩, 56)) (List.mem_of_getElem? (i := 17) rfl), w11, w825, by decide +kernel, by decide +kernel, by decide +kernel⟩
theorem m_M_usesB : mI y_M_usesB b_M_usesB 2 (some .boolean) 0 := ⟨w828, gw_sel (q := (⟨"PipelinedCoreModel", "usesB", "()Z"⟩, 56)) (List.mem_of_getElem? (i := 18) rfl), w11, w829, by decide +kernel, by decide +kernel, by decide +kernel⟩
theorem m_M_perform : mI y_M_perform b_M_perform 8 none 1 := ⟨w832, gw_sel (q := (⟨"PipelinedCoreModel", "perform", "(I)V"⟩, 56)) (List.mem_of_getElem? (i := 19) rfl), w11, w833, by decide +kernel, by decide +kernel, by decide +kernel⟩
theorem m_M_fetched : mI y_M_fetched b_M_fetched 3 (some .int) 0 := ⟨w836, gw_sel (q := (⟨"PipelinedCoreModel", "fetched", "()I"⟩, 56)) (List.mem_of_getElem? (i := 20) rfl), w11, w837, by decide +kernel, by decide +kernel, by decide +kernel⟩
theorem m_M_learn : mI y_M_learn b_M_learn 6 none 4 := ⟨w840, gw_sel (q := (⟨"PipelinedCoreModel", "learn", "(IIIZ)V"⟩, 56)) (List.mem_of_getElem? (i := 21) rfl), w11, w841, by decide +kernel, by decide +kernel, by decide +kernel⟩
theorem m_M_guess : mI y_M_guess b_M_guess 4 (some .int) 2 := ⟨w844, gw_sel (q := (⟨"PipelinedCoreModel", "guess", "(II)I"⟩, 56)) (List.mem_of_getElem? (i := 22) rfl), w11, w845, by decide +kernel, by decide +kernel, by decide +kernel⟩
theorem m_M_enter : mI y_M_enter b_M_enter 4 none 3 := ⟨w849, gw_sel (q := (⟨"PipelinedCoreModel", "enter", "(III)V"⟩, 56)) (List.mem_of_getElem? (i := 23) rfl), w11, w850, by decide +kernel, by decide +kernel, by decide +kernel⟩
theorem m_M_fulfil : mI y_M_fulfil b_M_fulfil 1 none 0 := ⟨w853, gw_sel (q := (⟨"PipelinedCoreModel", "fulfil", "()V"⟩, 56)) (List.mem_of_getElem? (i := 24) rfl), w11, w854, by decide +kernel, by decide +kernel, by decide +kernel⟩
theorem m_M_decide : mI y_M_decide b_M_decide 3 none 0 := ⟨w857, gw_sel (q := (⟨"PipelinedCoreModel", "decide", "()V"⟩, 56)) (List.mem_of_getElem? (i := 25) rfl), w11, w858, by decide +kernel, by decide +kernel, by decide +kernel⟩
theorem m_M_numberJ : mI y_M_numberJ b_M_numberJ 1 (some .int) 0 := ⟨w861, gw_sel (q := (⟨"PipelinedCoreModel", "numberJ", "()I"⟩, 56)) (List.mem_of_getElem? (i := 26) rfl), w11, w862, by decide +kernel, by decide +kernel, by decide +kernel⟩
theorem m_M_go : mI y_M_go b_M_go 2 none 1 := ⟨w865, gw_sel (q := (⟨"PipelinedCoreModel", "go", "(I)V"⟩, 56)) (List.mem_of_getElem? (i := 27) rfl), w11, w866, by decide +kernel, by decide +kernel, by decide +kernel⟩
theorem m_M_regA : mI y_M_regA b_M_regA 1 (some .int) 0 := ⟨w869, gw_sel (q := (⟨"PipelinedCoreModel", "regA", "()I"⟩, 56)) (List.mem_of_getElem? (i := 28) rfl), w11, w870, by decide +kernel, by decide +kernel, by decide +kernel⟩
theorem m_M_numberI : mI y_M_numberI b_M_numberI 1 (some .int) 0 := ⟨w873, gw_sel (q := (⟨"PipelinedCoreModel", "numberI", "()I"⟩, 56)) (List.mem_of_getElem? (i := 29) rfl), w11, w874, by decide +kernel, by decide +kernel, by decide +kernel⟩
theorem m_M_branch : mI y_M_branch b_M_branch 5 none 0 := ⟨w877, gw_sel (q := (⟨"PipelinedCoreModel", "branch", "()V"⟩, 56)) (List.mem_of_getElem? (i := 30) rfl), w11, w878, by decide +kernel, by decide +kernel, by decide +kernel⟩
theorem m_M_regB : mI y_M_regB b_M_regB 1 (some .int) 0 := ⟨w881, gw_sel (q := (⟨"PipelinedCoreModel", "regB", "()I"⟩, 56)) (List.mem_of_getElem? (i := 31) rfl), w11, w882, by decide +kernel, by decide +kernel, by decide +kernel⟩
theorem m_M_below : mS y_M_below b_M_below 2 (some .boolean) 2 := ⟨w884, w11, w885, by decide +kernel, by decide +kernel, by decide +kernel⟩
theorem m_M_illegal : mI y_M_illegal b_M_illegal 1 none 0 := ⟨w889, gw_sel (q := (⟨"PipelinedCoreModel", "illegal", "()V"⟩, 56)) (List.mem_of_getElem? (i := 32) rfl), w11, w890, by decide +kernel, by decide +kernel, by decide +kernel⟩
theorem m_M_numberB : mI y_M_numberB b_M_numberB 1 (some .int) 0 := ⟨w893, gw_sel (q := (⟨"PipelinedCoreModel", "numberB", "()I"⟩, 56)) (List.mem_of_getElem? (i := 33) rfl), w11, w894, by decide +kernel, by decide +kernel, by decide +kernel⟩
theorem m_M_load : mI y_M_load b_M_load 4 none 0 := ⟨w897, gw_sel (q := (⟨"PipelinedCoreModel", "load", "()V"⟩, 56)) (List.mem_of_getElem? (i := 34) rfl), w11, w898, by decide +kernel, by decide +kernel, by decide +kernel⟩
theorem m_M_reach : mI y_M_reach b_M_reach 4 none 3 := ⟨w901, gw_sel (q := (⟨"PipelinedCoreModel", "reach", "(III)V"⟩, 56)) (List.mem_of_getElem? (i := 35) rfl), w11, w902, by decide +kernel, by decide +kernel, by decide +kernel⟩
theorem m_M_store : mI y_M_store b_M_store 4 none 0 := ⟨w906, gw_sel (q := (⟨"PipelinedCoreModel", "store", "()V"⟩, 56)) (List.mem_of_getElem? (i := 36) rfl), w11, w907, by decide +kernel, by decide +kernel, by decide +kernel⟩
theorem m_M_numberS : mI y_M_numberS b_M_numberS 1 (some .int) 0 := ⟨w910, gw_sel (q := (⟨"PipelinedCoreModel", "numberS", "()I"⟩, 56)) (List.mem_of_getElem? (i := 37) rfl), w11, w911, by decide +kernel, by decide +kernel, by decide +kernel⟩
theorem m_M_immediate : mI y_M_immediate b_M_immediate 4 none 0 := ⟨w914, gw_sel (q := (⟨"PipelinedCoreModel", "immediate", "()V"⟩, 56)) (List.mem_of_getElem? (i := 38) rfl), w11, w915, by decide +kernel, by decide +kernel, by decide +kernel⟩
theorem m_M_plain : mS y_M_plain b_M_plain 5 (some .int) 4 := ⟨w917, w11, w918, by decide +kernel, by decide +kernel, by decide +kernel⟩
theorem m_M_operation : mI y_M_operation b_M_operation 4 none 0 := ⟨w921, gw_sel (q := (⟨"PipelinedCoreModel", "operation", "()V"⟩, 56)) (List.mem_of_getElem? (i := 39) rfl), w11, w922, by decide +kernel, by decide +kernel, by decide +kernel⟩
theorem m_M_product : mS y_M_product b_M_product 7 (some .int) 3 := ⟨w924, w11, w925, by decide +kernel, by decide +kernel, by decide +kernel⟩
theorem m_M_quotient : mS y_M_quotient b_M_quotient 8 (some .int) 3 := ⟨w927, w11, w928, by decide +kernel, by decide +kernel, by decide +kernel⟩
theorem m_M_system : mI y_M_system b_M_system 5 none 0 := ⟨w931, gw_sel (q := (⟨"PipelinedCoreModel", "system", "()V"⟩, 56)) (List.mem_of_getElem? (i := 40) rfl), w11, w932, by decide +kernel, by decide +kernel, by decide +kernel⟩
theorem m_M_placeOf : mS y_M_placeOf b_M_placeOf 1 (some .int) 1 := ⟨w934, w11, w935, by decide +kernel, by decide +kernel, by decide +kernel⟩
theorem m_M_change : mI y_M_change b_M_change 4 none 2 := ⟨w941, gw_sel (q := (⟨"PipelinedCoreModel", "change", "(II)V"⟩, 56)) (List.mem_of_getElem? (i := 41) rfl), w11, w942, by decide +kernel, by decide +kernel, by decide +kernel⟩
theorem m_M_finish : mI y_M_finish b_M_finish 7 none 1 := ⟨w945, gw_sel (q := (⟨"PipelinedCoreModel", "finish", "(I)V"⟩, 56)) (List.mem_of_getElem? (i := 42) rfl), w11, w946, by decide +kernel, by decide +kernel, by decide +kernel⟩
theorem m_M_cached : mI y_M_cached b_M_cached 4 (some .int) 0 := ⟨w949, gw_sel (q := (⟨"PipelinedCoreModel", "cached", "()I"⟩, 56)) (List.mem_of_getElem? (i := 43) rfl), w11, w950, by decide +kernel, by decide +kernel, by decide +kernel⟩
theorem m_M_end : mI y_M_end b_M_end 2 none 1 := ⟨w953, gw_sel (q := (⟨"PipelinedCoreModel", "end", "(I)V"⟩, 56)) (List.mem_of_getElem? (i := 44) rfl), w11, w954, by decide +kernel, by decide +kernel, by decide +kernel⟩
theorem m_M_shift : mI y_M_shift b_M_shift 3 none 1 := ⟨w957, gw_sel (q := (⟨"PipelinedCoreModel", "shift", "(I)V"⟩, 56)) (List.mem_of_getElem? (i := 45) rfl), w11, w958, by decide +kernel, by decide +kernel, by decide +kernel⟩
theorem m_M_reg : mI y_M_reg b_M_reg 2 (some .int) 1 := ⟨w960, w961, w11, w962, by decide +kernel, by decide +kernel, by decide +kernel⟩
theorem m_M_control : mI y_M_control b_M_control 3 (some .int) 1 := ⟨w964, w965, w11, w966, by decide +kernel, by decide +kernel, by decide +kernel⟩
theorem m_M_word : mI y_M_word b_M_word 2 (some .int) 1 := ⟨w968, w969, w11, w970, by decide +kernel, by decide +kernel, by decide +kernel⟩
theorem m_M_ended : mI y_M_ended b_M_ended 4 (some .int) 2 := ⟨w972, w973, w11, w974, by decide +kernel, by decide +kernel, by decide +kernel⟩
theorem m_M_stage : mI y_M_stage b_M_stage 5 (some .int) 1 := ⟨w976, w977, w11, w978, by decide +kernel, by decide +kernel, by decide +kernel⟩
theorem m_M_foretold : mI y_M_foretold b_M_foretold 2 (some .int) 1 := ⟨w981, w982, w11, w983, by decide +kernel, by decide +kernel, by decide +kernel⟩
theorem m_M_figure : mI y_M_figure b_M_figure 2 (some .int) 1 := ⟨w985, w986, w11, w987, by decide +kernel, by decide +kernel, by decide +kernel⟩
theorem fg_Con_7 : fg clK "PipelinedCore$Controls" 7 2 0 := ⟨_, F_Con, 8, rfl, in_Con, by decide, w28⟩
theorem fp_Con_7 : fp clK "PipelinedCore$Controls" 7 2 0 (.int) := ⟨_, F_Con, 8, t_Con, rfl, in_Con, by decide, w28, t_Con_ok, n_Con, rfl, by decide +kernel⟩
theorem fg_Con_13 : fg clK "PipelinedCore$Controls" 13 2 1 := ⟨_, F_Con, 8, rfl, in_Con, by decide, w29⟩
theorem fp_Con_13 : fp clK "PipelinedCore$Controls" 13 2 1 (.int) := ⟨_, F_Con, 8, t_Con, rfl, in_Con, by decide, w29, t_Con_ok, n_Con, rfl, by decide +kernel⟩
theorem fg_Con_16 : fg clK "PipelinedCore$Controls" 16 2 2 := ⟨_, F_Con, 8, rfl, in_Con, by decide, w30⟩
theorem fp_Con_16 : fp clK "PipelinedCore$Controls" 16 2 2 (.int) := ⟨_, F_Con, 8, t_Con, rfl, in_Con, by decide, w30, t_Con_ok, n_Con, rfl, by decide +kernel⟩
theorem fg_Con_19 : fg clK "PipelinedCore$Controls" 19 2 3 := ⟨_, F_Con, 8, rfl, in_Con, by decide, w31⟩
theorem fp_Con_19 : fp clK "PipelinedCore$Controls" 19 2 3 (.int) := ⟨_, F_Con, 8, t_Con, rfl, in_Con, by decide, w31, t_Con_ok, n_Con, rfl, by decide +kernel⟩
theorem fg_Con_22 : fg clK "PipelinedCore$Controls" 22 2 4 := ⟨_, F_Con, 8, rfl, in_Con, by decide, w32⟩
theorem fp_Con_22 : fp clK "PipelinedCore$Controls" 22 2 4 (.int) := ⟨_, F_Con, 8, t_Con, rfl, in_Con, by decide, w32, t_Con_ok, n_Con, rfl, by decide +kernel⟩
theorem fg_Con_25 : fg clK "PipelinedCore$Controls" 25 2 5 := ⟨_, F_Con, 8, rfl, in_Con, by decide, w33⟩
theorem fp_Con_25 : fp clK "PipelinedCore$Controls" 25 2 5 (.int) := ⟨_, F_Con, 8, t_Con, rfl, in_Con, by decide, w33, t_Con_ok, n_Con, rfl, by decide +kernel⟩
theorem fg_Con_28 : fg clK "PipelinedCore$Controls" 28 2 6 := ⟨_, F_Con, 8, rfl, in_Con, by decide, w34⟩
theorem fp_Con_28 : fp clK "PipelinedCore$Controls" 28 2 6 (.int) := ⟨_, F_Con, 8, t_Con, rfl, in_Con, by decide, w34, t_Con_ok, n_Con, rfl, by decide +kernel⟩
theorem fg_Con_31 : fg clK "PipelinedCore$Controls" 31 2 7 := ⟨_, F_Con, 8, rfl, in_Con, by decide, w35⟩
theorem fp_Con_31 : fp clK "PipelinedCore$Controls" 31 2 7 (.int) := ⟨_, F_Con, 8, t_Con, rfl, in_Con, by decide, w35, t_Con_ok, n_Con, rfl, by decide +kernel⟩
theorem fg_Sto_9 : fg clK "PipelinedCore$Store" 9 7 0 := ⟨_, F_Sto, 1, rfl, in_Sto, by decide, w60⟩
theorem fg_For_9 : fg clK "PipelinedCore$Foreteller" 9 4 0 := ⟨_, F_For, 4, rfl, in_For, by decide, w73⟩
theorem fg_For_13 : fg clK "PipelinedCore$Foreteller" 13 4 1 := ⟨_, F_For, 4, rfl, in_For, by decide, w74⟩
theorem fg_For_16 : fg clK "PipelinedCore$Foreteller" 16 4 2 := ⟨_, F_For, 4, rfl, in_For, by decide, w75⟩
theorem fg_For_19 : fg clK "PipelinedCore$Foreteller" 19 4 3 := ⟨_, F_For, 4, rfl, in_For, by decide, w76⟩
theorem fg_His_9 : fg clK "PipelinedCore$History" 9 5 0 := ⟨_, F_His, 3, rfl, in_His, by decide, w92⟩
theorem fg_His_13 : fg clK "PipelinedCore$History" 13 5 1 := ⟨_, F_His, 3, rfl, in_His, by decide, w93⟩
theorem fg_His_16 : fg clK "PipelinedCore$History" 16 5 2 := ⟨_, F_His, 3, rfl, in_His, by decide, w94⟩
theorem fp_His_16 : fp clK "PipelinedCore$History" 16 5 2 (.int) := ⟨_, F_His, 3, t_His, rfl, in_His, by decide, w94, t_His_ok, n_His, rfl, by decide +kernel⟩
theorem fg_K_89 : fg clK "PipelinedCore" 89 5 2 := ⟨_, F_His, 3, rfl, in_His, by decide, w95⟩
theorem fp_K_89 : fp clK "PipelinedCore" 89 5 2 (.int) := ⟨_, F_His, 3, t_His, rfl, in_His, by decide, w95, t_His_ok, n_His, rfl, by decide +kernel⟩
theorem fg_Ins_7 : fg clK "PipelinedCore$Instruction" 7 6 0 := ⟨_, F_Ins, 12, rfl, in_Ins, by decide, w109⟩
theorem fp_Ins_7 : fp clK "PipelinedCore$Instruction" 7 6 0 (.int) := ⟨_, F_Ins, 12, t_Ins, rfl, in_Ins, by decide, w109, t_Ins_ok, n_Ins, rfl, by decide +kernel⟩
theorem fg_Exe_26 : fg clK "PipelinedCore$Execution" 26 6 0 := ⟨_, F_Ins, 12, rfl, in_Ins, by decide, w110⟩
theorem fp_Exe_26 : fp clK "PipelinedCore$Execution" 26 6 0 (.int) := ⟨_, F_Ins, 12, t_Ins, rfl, in_Ins, by decide, w110, t_Ins_ok, n_Ins, rfl, by decide +kernel⟩
theorem fg_K_180 : fg clK "PipelinedCore" 180 6 0 := ⟨_, F_Ins, 12, rfl, in_Ins, by decide, w111⟩
theorem fp_K_180 : fp clK "PipelinedCore" 180 6 0 (.int) := ⟨_, F_Ins, 12, t_Ins, rfl, in_Ins, by decide, w111, t_Ins_ok, n_Ins, rfl, by decide +kernel⟩
theorem fg_Ins_13 : fg clK "PipelinedCore$Instruction" 13 6 1 := ⟨_, F_Ins, 12, rfl, in_Ins, by decide, w112⟩
theorem fp_Ins_13 : fp clK "PipelinedCore$Instruction" 13 6 1 (.boolean) := ⟨_, F_Ins, 12, t_Ins, rfl, in_Ins, by decide, w112, t_Ins_ok, n_Ins, rfl, by decide +kernel⟩
theorem fg_K_191 : fg clK "PipelinedCore" 191 6 1 := ⟨_, F_Ins, 12, rfl, in_Ins, by decide, w113⟩
theorem fp_K_191 : fp clK "PipelinedCore" 191 6 1 (.boolean) := ⟨_, F_Ins, 12, t_Ins, rfl, in_Ins, by decide, w113, t_Ins_ok, n_Ins, rfl, by decide +kernel⟩
theorem fg_Ins_17 : fg clK "PipelinedCore$Instruction" 17 6 2 := ⟨_, F_Ins, 12, rfl, in_Ins, by decide, w114⟩
theorem fp_Ins_17 : fp clK "PipelinedCore$Instruction" 17 6 2 (.int) := ⟨_, F_Ins, 12, t_Ins, rfl, in_Ins, by decide, w114, t_Ins_ok, n_Ins, rfl, by decide +kernel⟩
theorem fg_Exe_75 : fg clK "PipelinedCore$Execution" 75 6 2 := ⟨_, F_Ins, 12, rfl, in_Ins, by decide, w115⟩
theorem fp_Exe_75 : fp clK "PipelinedCore$Execution" 75 6 2 (.int) := ⟨_, F_Ins, 12, t_Ins, rfl, in_Ins, by decide, w115, t_Ins_ok, n_Ins, rfl, by decide +kernel⟩
theorem fg_Exe_7 : fg clK "PipelinedCore$Execution" 7 6 3 := ⟨_, F_Ins, 12, rfl, in_Ins, by decide, w116⟩
theorem fp_Exe_7 : fp clK "PipelinedCore$Execution" 7 6 3 (.int) := ⟨_, F_Ins, 12, t_Ins, rfl, in_Ins, by decide, w116, t_Ins_ok, n_Ins, rfl, by decide +kernel⟩
theorem fg_Ins_20 : fg clK "PipelinedCore$Instruction" 20 6 3 := ⟨_, F_Ins, 12, rfl, in_Ins, by decide, w117⟩
theorem fp_Ins_20 : fp clK "PipelinedCore$Instruction" 20 6 3 (.int) := ⟨_, F_Ins, 12, t_Ins, rfl, in_Ins, by decide, w117, t_Ins_ok, n_Ins, rfl, by decide +kernel⟩
theorem fg_Ins_23 : fg clK "PipelinedCore$Instruction" 23 6 4 := ⟨_, F_Ins, 12, rfl, in_Ins, by decide, w118⟩
theorem fp_Ins_23 : fp clK "PipelinedCore$Instruction" 23 6 4 (.int) := ⟨_, F_Ins, 12, t_Ins, rfl, in_Ins, by decide, w118, t_Ins_ok, n_Ins, rfl, by decide +kernel⟩
theorem fg_Exe_13 : fg clK "PipelinedCore$Execution" 13 6 4 := ⟨_, F_Ins, 12, rfl, in_Ins, by decide, w119⟩
theorem fp_Exe_13 : fp clK "PipelinedCore$Execution" 13 6 4 (.int) := ⟨_, F_Ins, 12, t_Ins, rfl, in_Ins, by decide, w119, t_Ins_ok, n_Ins, rfl, by decide +kernel⟩
theorem fg_Ins_26 : fg clK "PipelinedCore$Instruction" 26 6 5 := ⟨_, F_Ins, 12, rfl, in_Ins, by decide, w120⟩
theorem fp_Ins_26 : fp clK "PipelinedCore$Instruction" 26 6 5 (.int) := ⟨_, F_Ins, 12, t_Ins, rfl, in_Ins, by decide, w120, t_Ins_ok, n_Ins, rfl, by decide +kernel⟩
theorem fg_Exe_38 : fg clK "PipelinedCore$Execution" 38 6 5 := ⟨_, F_Ins, 12, rfl, in_Ins, by decide, w121⟩
theorem fp_Exe_38 : fp clK "PipelinedCore$Execution" 38 6 5 (.int) := ⟨_, F_Ins, 12, t_Ins, rfl, in_Ins, by decide, w121, t_Ins_ok, n_Ins, rfl, by decide +kernel⟩
theorem fg_Ins_29 : fg clK "PipelinedCore$Instruction" 29 6 6 := ⟨_, F_Ins, 12, rfl, in_Ins, by decide, w122⟩
theorem fp_Ins_29 : fp clK "PipelinedCore$Instruction" 29 6 6 (.int) := ⟨_, F_Ins, 12, t_Ins, rfl, in_Ins, by decide, w122, t_Ins_ok, n_Ins, rfl, by decide +kernel⟩
theorem fg_Exe_154 : fg clK "PipelinedCore$Execution" 154 6 6 := ⟨_, F_Ins, 12, rfl, in_Ins, by decide, w123⟩
theorem fp_Exe_154 : fp clK "PipelinedCore$Execution" 154 6 6 (.int) := ⟨_, F_Ins, 12, t_Ins, rfl, in_Ins, by decide, w123, t_Ins_ok, n_Ins, rfl, by decide +kernel⟩
theorem fg_K_194 : fg clK "PipelinedCore" 194 6 6 := ⟨_, F_Ins, 12, rfl, in_Ins, by decide, w124⟩
theorem fp_K_194 : fp clK "PipelinedCore" 194 6 6 (.int) := ⟨_, F_Ins, 12, t_Ins, rfl, in_Ins, by decide, w124, t_Ins_ok, n_Ins, rfl, by decide +kernel⟩
theorem fg_Ins_32 : fg clK "PipelinedCore$Instruction" 32 6 7 := ⟨_, F_Ins, 12, rfl, in_Ins, by decide, w125⟩
theorem fp_Ins_32 : fp clK "PipelinedCore$Instruction" 32 6 7 (.int) := ⟨_, F_Ins, 12, t_Ins, rfl, in_Ins, by decide, w125, t_Ins_ok, n_Ins, rfl, by decide +kernel⟩
theorem fg_Exe_126 : fg clK "PipelinedCore$Execution" 126 6 7 := ⟨_, F_Ins, 12, rfl, in_Ins, by decide, w126⟩
theorem fp_Exe_126 : fp clK "PipelinedCore$Execution" 126 6 7 (.int) := ⟨_, F_Ins, 12, t_Ins, rfl, in_Ins, by decide, w126, t_Ins_ok, n_Ins, rfl, by decide +kernel⟩
theorem fg_K_200 : fg clK "PipelinedCore" 200 6 7 := ⟨_, F_Ins, 12, rfl, in_Ins, by decide, w127⟩
theorem fp_K_200 : fp clK "PipelinedCore" 200 6 7 (.int) := ⟨_, F_Ins, 12, t_Ins, rfl, in_Ins, by decide, w127, t_Ins_ok, n_Ins, rfl, by decide +kernel⟩
theorem fg_Ins_35 : fg clK "PipelinedCore$Instruction" 35 6 8 := ⟨_, F_Ins, 12, rfl, in_Ins, by decide, w128⟩
theorem fp_Ins_35 : fp clK "PipelinedCore$Instruction" 35 6 8 (.int) := ⟨_, F_Ins, 12, t_Ins, rfl, in_Ins, by decide, w128, t_Ins_ok, n_Ins, rfl, by decide +kernel⟩
theorem fg_Exe_119 : fg clK "PipelinedCore$Execution" 119 6 8 := ⟨_, F_Ins, 12, rfl, in_Ins, by decide, w129⟩
theorem fp_Exe_119 : fp clK "PipelinedCore$Execution" 119 6 8 (.int) := ⟨_, F_Ins, 12, t_Ins, rfl, in_Ins, by decide, w129, t_Ins_ok, n_Ins, rfl, by decide +kernel⟩
theorem fg_K_252 : fg clK "PipelinedCore" 252 6 9 := ⟨_, F_Ins, 12, rfl, in_Ins, by decide, w130⟩
theorem fp_K_252 : fp clK "PipelinedCore" 252 6 9 (.int) := ⟨_, F_Ins, 12, t_Ins, rfl, in_Ins, by decide, w130, t_Ins_ok, n_Ins, rfl, by decide +kernel⟩
theorem fg_K_269 : fg clK "PipelinedCore" 269 6 10 := ⟨_, F_Ins, 12, rfl, in_Ins, by decide, w131⟩
theorem fp_K_269 : fp clK "PipelinedCore" 269 6 10 (.int) := ⟨_, F_Ins, 12, t_Ins, rfl, in_Ins, by decide, w131, t_Ins_ok, n_Ins, rfl, by decide +kernel⟩
theorem fg_K_146 : fg clK "PipelinedCore" 146 6 11 := ⟨_, F_Ins, 12, rfl, in_Ins, by decide, w132⟩
theorem fp_K_146 : fp clK "PipelinedCore" 146 6 11 (.int) := ⟨_, F_Ins, 12, t_Ins, rfl, in_Ins, by decide, w132, t_Ins_ok, n_Ins, rfl, by decide +kernel⟩
theorem fg_Eff_7 : fg clK "PipelinedCore$Effect" 7 3 0 := ⟨_, F_Eff, 18, rfl, in_Eff, by decide, w164⟩
theorem fp_Eff_7 : fp clK "PipelinedCore$Effect" 7 3 0 (.boolean) := ⟨_, F_Eff, 18, t_Eff, rfl, in_Eff, by decide, w164, t_Eff_ok, n_Eff, rfl, by decide +kernel⟩
theorem fg_K_111 : fg clK "PipelinedCore" 111 3 0 := ⟨_, F_Eff, 18, rfl, in_Eff, by decide, w165⟩
theorem fp_K_111 : fp clK "PipelinedCore" 111 3 0 (.boolean) := ⟨_, F_Eff, 18, t_Eff, rfl, in_Eff, by decide, w165, t_Eff_ok, n_Eff, rfl, by decide +kernel⟩
theorem fg_Eff_13 : fg clK "PipelinedCore$Effect" 13 3 1 := ⟨_, F_Eff, 18, rfl, in_Eff, by decide, w166⟩
theorem fp_Eff_13 : fp clK "PipelinedCore$Effect" 13 3 1 (.int) := ⟨_, F_Eff, 18, t_Eff, rfl, in_Eff, by decide, w166, t_Eff_ok, n_Eff, rfl, by decide +kernel⟩
theorem fg_K_115 : fg clK "PipelinedCore" 115 3 1 := ⟨_, F_Eff, 18, rfl, in_Eff, by decide, w167⟩
theorem fp_K_115 : fp clK "PipelinedCore" 115 3 1 (.int) := ⟨_, F_Eff, 18, t_Eff, rfl, in_Eff, by decide, w167, t_Eff_ok, n_Eff, rfl, by decide +kernel⟩
theorem fg_Eff_17 : fg clK "PipelinedCore$Effect" 17 3 2 := ⟨_, F_Eff, 18, rfl, in_Eff, by decide, w168⟩
theorem fp_Eff_17 : fp clK "PipelinedCore$Effect" 17 3 2 (.int) := ⟨_, F_Eff, 18, t_Eff, rfl, in_Eff, by decide, w168, t_Eff_ok, n_Eff, rfl, by decide +kernel⟩
theorem fg_Exe_129 : fg clK "PipelinedCore$Execution" 129 3 2 := ⟨_, F_Eff, 18, rfl, in_Eff, by decide, w169⟩
theorem fp_Exe_129 : fp clK "PipelinedCore$Execution" 129 3 2 (.int) := ⟨_, F_Eff, 18, t_Eff, rfl, in_Eff, by decide, w169, t_Eff_ok, n_Eff, rfl, by decide +kernel⟩
theorem fg_K_235 : fg clK "PipelinedCore" 235 3 2 := ⟨_, F_Eff, 18, rfl, in_Eff, by decide, w170⟩
theorem fp_K_235 : fp clK "PipelinedCore" 235 3 2 (.int) := ⟨_, F_Eff, 18, t_Eff, rfl, in_Eff, by decide, w170, t_Eff_ok, n_Eff, rfl, by decide +kernel⟩
theorem fg_K_140 : fg clK "PipelinedCore" 140 3 3 := ⟨_, F_Eff, 18, rfl, in_Eff, by decide, w171⟩
theorem fp_K_140 : fp clK "PipelinedCore" 140 3 3 (.int) := ⟨_, F_Eff, 18, t_Eff, rfl, in_Eff, by decide, w171, t_Eff_ok, n_Eff, rfl, by decide +kernel⟩
theorem fg_K_133 : fg clK "PipelinedCore" 133 3 4 := ⟨_, F_Eff, 18, rfl, in_Eff, by decide, w172⟩
theorem fp_K_133 : fp clK "PipelinedCore" 133 3 4 (.int) := ⟨_, F_Eff, 18, t_Eff, rfl, in_Eff, by decide, w172, t_Eff_ok, n_Eff, rfl, by decide +kernel⟩
theorem fg_K_175 : fg clK "PipelinedCore" 175 3 5 := ⟨_, F_Eff, 18, rfl, in_Eff, by decide, w173⟩
theorem fp_K_175 : fp clK "PipelinedCore" 175 3 5 (.boolean) := ⟨_, F_Eff, 18, t_Eff, rfl, in_Eff, by decide, w173, t_Eff_ok, n_Eff, rfl, by decide +kernel⟩
theorem fg_Eff_20 : fg clK "PipelinedCore$Effect" 20 3 6 := ⟨_, F_Eff, 18, rfl, in_Eff, by decide, w174⟩
theorem fp_Eff_20 : fp clK "PipelinedCore$Effect" 20 3 6 (.int) := ⟨_, F_Eff, 18, t_Eff, rfl, in_Eff, by decide, w174, t_Eff_ok, n_Eff, rfl, by decide +kernel⟩
theorem fg_Exe_109 : fg clK "PipelinedCore$Execution" 109 3 6 := ⟨_, F_Eff, 18, rfl, in_Eff, by decide, w175⟩
theorem fp_Exe_109 : fp clK "PipelinedCore$Execution" 109 3 6 (.int) := ⟨_, F_Eff, 18, t_Eff, rfl, in_Eff, by decide, w175, t_Eff_ok, n_Eff, rfl, by decide +kernel⟩
theorem fg_K_172 : fg clK "PipelinedCore" 172 3 6 := ⟨_, F_Eff, 18, rfl, in_Eff, by decide, w176⟩
theorem fp_K_172 : fp clK "PipelinedCore" 172 3 6 (.int) := ⟨_, F_Eff, 18, t_Eff, rfl, in_Eff, by decide, w176, t_Eff_ok, n_Eff, rfl, by decide +kernel⟩
theorem fg_Eff_38 : fg clK "PipelinedCore$Effect" 38 3 7 := ⟨_, F_Eff, 18, rfl, in_Eff, by decide, w177⟩
theorem fp_Eff_38 : fp clK "PipelinedCore$Effect" 38 3 7 (.int) := ⟨_, F_Eff, 18, t_Eff, rfl, in_Eff, by decide, w177, t_Eff_ok, n_Eff, rfl, by decide +kernel⟩
theorem fg_K_163 : fg clK "PipelinedCore" 163 3 7 := ⟨_, F_Eff, 18, rfl, in_Eff, by decide, w178⟩
theorem fp_K_163 : fp clK "PipelinedCore" 163 3 7 (.int) := ⟨_, F_Eff, 18, t_Eff, rfl, in_Eff, by decide, w178, t_Eff_ok, n_Eff, rfl, by decide +kernel⟩
theorem fg_Eff_23 : fg clK "PipelinedCore$Effect" 23 3 8 := ⟨_, F_Eff, 18, rfl, in_Eff, by decide, w179⟩
theorem fp_Eff_23 : fp clK "PipelinedCore$Effect" 23 3 8 (.int) := ⟨_, F_Eff, 18, t_Eff, rfl, in_Eff, by decide, w179, t_Eff_ok, n_Eff, rfl, by decide +kernel⟩
theorem fg_Exe_106 : fg clK "PipelinedCore$Execution" 106 3 8 := ⟨_, F_Eff, 18, rfl, in_Eff, by decide, w180⟩
theorem fp_Exe_106 : fp clK "PipelinedCore$Execution" 106 3 8 (.int) := ⟨_, F_Eff, 18, t_Eff, rfl, in_Eff, by decide, w180, t_Eff_ok, n_Eff, rfl, by decide +kernel⟩
theorem fg_K_152 : fg clK "PipelinedCore" 152 3 8 := ⟨_, F_Eff, 18, rfl, in_Eff, by decide, w181⟩
theorem fp_K_152 : fp clK "PipelinedCore" 152 3 8 (.int) := ⟨_, F_Eff, 18, t_Eff, rfl, in_Eff, by decide, w181, t_Eff_ok, n_Eff, rfl, by decide +kernel⟩
theorem fg_Exe_110 : fg clK "PipelinedCore$Execution" 110 3 9 := ⟨_, F_Eff, 18, rfl, in_Eff, by decide, w182⟩
theorem fp_Exe_110 : fp clK "PipelinedCore$Execution" 110 3 9 (.int) := ⟨_, F_Eff, 18, t_Eff, rfl, in_Eff, by decide, w182, t_Eff_ok, n_Eff, rfl, by decide +kernel⟩
theorem fg_K_155 : fg clK "PipelinedCore" 155 3 9 := ⟨_, F_Eff, 18, rfl, in_Eff, by decide, w183⟩
theorem fp_K_155 : fp clK "PipelinedCore" 155 3 9 (.int) := ⟨_, F_Eff, 18, t_Eff, rfl, in_Eff, by decide, w183, t_Eff_ok, n_Eff, rfl, by decide +kernel⟩
theorem fg_Exe_113 : fg clK "PipelinedCore$Execution" 113 3 10 := ⟨_, F_Eff, 18, rfl, in_Eff, by decide, w184⟩
theorem fp_Exe_113 : fp clK "PipelinedCore$Execution" 113 3 10 (.int) := ⟨_, F_Eff, 18, t_Eff, rfl, in_Eff, by decide, w184, t_Eff_ok, n_Eff, rfl, by decide +kernel⟩
theorem fg_K_158 : fg clK "PipelinedCore" 158 3 10 := ⟨_, F_Eff, 18, rfl, in_Eff, by decide, w185⟩
theorem fp_K_158 : fp clK "PipelinedCore" 158 3 10 (.int) := ⟨_, F_Eff, 18, t_Eff, rfl, in_Eff, by decide, w185, t_Eff_ok, n_Eff, rfl, by decide +kernel⟩
theorem fg_Exe_116 : fg clK "PipelinedCore$Execution" 116 3 11 := ⟨_, F_Eff, 18, rfl, in_Eff, by decide, w186⟩
theorem fp_Exe_116 : fp clK "PipelinedCore$Execution" 116 3 11 (.int) := ⟨_, F_Eff, 18, t_Eff, rfl, in_Eff, by decide, w186, t_Eff_ok, n_Eff, rfl, by decide +kernel⟩
theorem fg_K_166 : fg clK "PipelinedCore" 166 3 11 := ⟨_, F_Eff, 18, rfl, in_Eff, by decide, w187⟩
theorem fp_K_166 : fp clK "PipelinedCore" 166 3 11 (.int) := ⟨_, F_Eff, 18, t_Eff, rfl, in_Eff, by decide, w187, t_Eff_ok, n_Eff, rfl, by decide +kernel⟩
theorem fg_Eff_26 : fg clK "PipelinedCore$Effect" 26 3 12 := ⟨_, F_Eff, 18, rfl, in_Eff, by decide, w188⟩
theorem fp_Eff_26 : fp clK "PipelinedCore$Effect" 26 3 12 (.int) := ⟨_, F_Eff, 18, t_Eff, rfl, in_Eff, by decide, w188, t_Eff_ok, n_Eff, rfl, by decide +kernel⟩
theorem fg_Exe_147 : fg clK "PipelinedCore$Execution" 147 3 12 := ⟨_, F_Eff, 18, rfl, in_Eff, by decide, w189⟩
theorem fp_Exe_147 : fp clK "PipelinedCore$Execution" 147 3 12 (.int) := ⟨_, F_Eff, 18, t_Eff, rfl, in_Eff, by decide, w189, t_Eff_ok, n_Eff, rfl, by decide +kernel⟩
theorem fg_K_249 : fg clK "PipelinedCore" 249 3 12 := ⟨_, F_Eff, 18, rfl, in_Eff, by decide, w190⟩
theorem fp_K_249 : fp clK "PipelinedCore" 249 3 12 (.int) := ⟨_, F_Eff, 18, t_Eff, rfl, in_Eff, by decide, w190, t_Eff_ok, n_Eff, rfl, by decide +kernel⟩
theorem fg_Eff_29 : fg clK "PipelinedCore$Effect" 29 3 13 := ⟨_, F_Eff, 18, rfl, in_Eff, by decide, w191⟩
theorem fp_Eff_29 : fp clK "PipelinedCore$Effect" 29 3 13 (.boolean) := ⟨_, F_Eff, 18, t_Eff, rfl, in_Eff, by decide, w191, t_Eff_ok, n_Eff, rfl, by decide +kernel⟩
theorem fg_K_259 : fg clK "PipelinedCore" 259 3 13 := ⟨_, F_Eff, 18, rfl, in_Eff, by decide, w192⟩
theorem fp_K_259 : fp clK "PipelinedCore" 259 3 13 (.boolean) := ⟨_, F_Eff, 18, t_Eff, rfl, in_Eff, by decide, w192, t_Eff_ok, n_Eff, rfl, by decide +kernel⟩
theorem fg_Eff_32 : fg clK "PipelinedCore$Effect" 32 3 14 := ⟨_, F_Eff, 18, rfl, in_Eff, by decide, w193⟩
theorem fp_Eff_32 : fp clK "PipelinedCore$Effect" 32 3 14 (.boolean) := ⟨_, F_Eff, 18, t_Eff, rfl, in_Eff, by decide, w193, t_Eff_ok, n_Eff, rfl, by decide +kernel⟩
theorem fg_Exe_138 : fg clK "PipelinedCore$Execution" 138 3 14 := ⟨_, F_Eff, 18, rfl, in_Eff, by decide, w194⟩
theorem fp_Exe_138 : fp clK "PipelinedCore$Execution" 138 3 14 (.boolean) := ⟨_, F_Eff, 18, t_Eff, rfl, in_Eff, by decide, w194, t_Eff_ok, n_Eff, rfl, by decide +kernel⟩
theorem fg_K_266 : fg clK "PipelinedCore" 266 3 14 := ⟨_, F_Eff, 18, rfl, in_Eff, by decide, w195⟩
theorem fp_K_266 : fp clK "PipelinedCore" 266 3 14 (.boolean) := ⟨_, F_Eff, 18, t_Eff, rfl, in_Eff, by decide, w195, t_Eff_ok, n_Eff, rfl, by decide +kernel⟩
theorem fg_Eff_35 : fg clK "PipelinedCore$Effect" 35 3 15 := ⟨_, F_Eff, 18, rfl, in_Eff, by decide, w196⟩
theorem fp_Eff_35 : fp clK "PipelinedCore$Effect" 35 3 15 (.boolean) := ⟨_, F_Eff, 18, t_Eff, rfl, in_Eff, by decide, w196, t_Eff_ok, n_Eff, rfl, by decide +kernel⟩
theorem fg_K_212 : fg clK "PipelinedCore" 212 3 15 := ⟨_, F_Eff, 18, rfl, in_Eff, by decide, w197⟩
theorem fp_K_212 : fp clK "PipelinedCore" 212 3 15 (.boolean) := ⟨_, F_Eff, 18, t_Eff, rfl, in_Eff, by decide, w197, t_Eff_ok, n_Eff, rfl, by decide +kernel⟩
theorem fg_Eff_41 : fg clK "PipelinedCore$Effect" 41 3 16 := ⟨_, F_Eff, 18, rfl, in_Eff, by decide, w198⟩
theorem fp_Eff_41 : fp clK "PipelinedCore$Effect" 41 3 16 (.int) := ⟨_, F_Eff, 18, t_Eff, rfl, in_Eff, by decide, w198, t_Eff_ok, n_Eff, rfl, by decide +kernel⟩
theorem fg_K_215 : fg clK "PipelinedCore" 215 3 16 := ⟨_, F_Eff, 18, rfl, in_Eff, by decide, w199⟩
theorem fp_K_215 : fp clK "PipelinedCore" 215 3 16 (.int) := ⟨_, F_Eff, 18, t_Eff, rfl, in_Eff, by decide, w199, t_Eff_ok, n_Eff, rfl, by decide +kernel⟩
theorem fg_Eff_44 : fg clK "PipelinedCore$Effect" 44 3 17 := ⟨_, F_Eff, 18, rfl, in_Eff, by decide, w200⟩
theorem fp_Eff_44 : fp clK "PipelinedCore$Effect" 44 3 17 (.int) := ⟨_, F_Eff, 18, t_Eff, rfl, in_Eff, by decide, w200, t_Eff_ok, n_Eff, rfl, by decide +kernel⟩
theorem fg_K_218 : fg clK "PipelinedCore" 218 3 17 := ⟨_, F_Eff, 18, rfl, in_Eff, by decide, w201⟩
theorem fp_K_218 : fp clK "PipelinedCore" 218 3 17 (.int) := ⟨_, F_Eff, 18, t_Eff, rfl, in_Eff, by decide, w201, t_Eff_ok, n_Eff, rfl, by decide +kernel⟩
theorem fg_Cac_26 : fg clK "PipelinedCore$Cache" 26 1 0 := ⟨_, F_Cac, 3, rfl, in_Cac, by decide, w252⟩
theorem fg_Cac_9 : fg clK "PipelinedCore$Cache" 9 1 1 := ⟨_, F_Cac, 3, rfl, in_Cac, by decide, w253⟩
theorem fg_Cac_13 : fg clK "PipelinedCore$Cache" 13 1 2 := ⟨_, F_Cac, 3, rfl, in_Cac, by decide, w254⟩
theorem fg_K_9 : fg clK "PipelinedCore" 9 0 0 := ⟨_, F_K, 17, rfl, in_K, by decide, w263⟩
theorem fg_K_13 : fg clK "PipelinedCore" 13 0 1 := ⟨_, F_K, 17, rfl, in_K, by decide, w264⟩
theorem fg_K_19 : fg clK "PipelinedCore" 19 0 2 := ⟨_, F_K, 17, rfl, in_K, by decide, w265⟩
theorem fg_K_26 : fg clK "PipelinedCore" 26 0 3 := ⟨_, F_K, 17, rfl, in_K, by decide, w266⟩
theorem fg_K_66 : fg clK "PipelinedCore" 66 0 4 := ⟨_, F_K, 17, rfl, in_K, by decide, w267⟩
theorem fg_K_33 : fg clK "PipelinedCore" 33 0 5 := ⟨_, F_K, 17, rfl, in_K, by decide, w268⟩
theorem fg_K_40 : fg clK "PipelinedCore" 40 0 6 := ⟨_, F_K, 17, rfl, in_K, by decide, w269⟩
theorem fg_K_47 : fg clK "PipelinedCore" 47 0 7 := ⟨_, F_K, 17, rfl, in_K, by decide, w270⟩
theorem fg_K_54 : fg clK "PipelinedCore" 54 0 8 := ⟨_, F_K, 17, rfl, in_K, by decide, w271⟩
theorem fp_K_54 : fp clK "PipelinedCore" 54 0 8 (.object "PipelinedCore$Effect") := ⟨_, F_K, 17, t_K, rfl, in_K, by decide, w271, t_K_ok, n_K, rfl, by decide +kernel⟩
theorem fg_K_58 : fg clK "PipelinedCore" 58 0 9 := ⟨_, F_K, 17, rfl, in_K, by decide, w272⟩
theorem fp_K_58 : fp clK "PipelinedCore" 58 0 9 (.object "PipelinedCore$Effect") := ⟨_, F_K, 17, t_K, rfl, in_K, by decide, w272, t_K_ok, n_K, rfl, by decide +kernel⟩
theorem fg_K_70 : fg clK "PipelinedCore" 70 0 10 := ⟨_, F_K, 17, rfl, in_K, by decide, w273⟩
theorem fp_K_70 : fp clK "PipelinedCore" 70 0 10 (.int) := ⟨_, F_K, 17, t_K, rfl, in_K, by decide, w273, t_K_ok, n_K, rfl, by decide +kernel⟩
theorem fg_K_238 : fg clK "PipelinedCore" 238 0 11 := ⟨_, F_K, 17, rfl, in_K, by decide, w274⟩
theorem fp_K_238 : fp clK "PipelinedCore" 238 0 11 (.int) := ⟨_, F_K, 17, t_K, rfl, in_K, by decide, w274, t_K_ok, n_K, rfl, by decide +kernel⟩
theorem fg_K_246 : fg clK "PipelinedCore" 246 0 12 := ⟨_, F_K, 17, rfl, in_K, by decide, w275⟩
theorem fp_K_246 : fp clK "PipelinedCore" 246 0 12 (.int) := ⟨_, F_K, 17, t_K, rfl, in_K, by decide, w275, t_K_ok, n_K, rfl, by decide +kernel⟩
theorem fg_K_121 : fg clK "PipelinedCore" 121 0 13 := ⟨_, F_K, 17, rfl, in_K, by decide, w276⟩
theorem fp_K_121 : fp clK "PipelinedCore" 121 0 13 (.int) := ⟨_, F_K, 17, t_K, rfl, in_K, by decide, w276, t_K_ok, n_K, rfl, by decide +kernel⟩
theorem fg_K_124 : fg clK "PipelinedCore" 124 0 14 := ⟨_, F_K, 17, rfl, in_K, by decide, w277⟩
theorem fp_K_124 : fp clK "PipelinedCore" 124 0 14 (.int) := ⟨_, F_K, 17, t_K, rfl, in_K, by decide, w277, t_K_ok, n_K, rfl, by decide +kernel⟩
theorem fg_K_127 : fg clK "PipelinedCore" 127 0 15 := ⟨_, F_K, 17, rfl, in_K, by decide, w278⟩
theorem fp_K_127 : fp clK "PipelinedCore" 127 0 15 (.int) := ⟨_, F_K, 17, t_K, rfl, in_K, by decide, w278, t_K_ok, n_K, rfl, by decide +kernel⟩
theorem fg_K_130 : fg clK "PipelinedCore" 130 0 16 := ⟨_, F_K, 17, rfl, in_K, by decide, w279⟩
theorem fp_K_130 : fp clK "PipelinedCore" 130 0 16 (.int) := ⟨_, F_K, 17, t_K, rfl, in_K, by decide, w279, t_K_ok, n_K, rfl, by decide +kernel⟩
theorem fg_M_93 : fg clK "PipelinedCoreModel" 93 8 0 := ⟨_, F_M, 56, rfl, in_M, by decide, w614⟩
theorem fp_M_93 : fp clK "PipelinedCoreModel" 93 8 0 (.int) := ⟨_, F_M, 56, t_M, rfl, in_M, by decide, w614, t_M_ok, n_M, rfl, by decide +kernel⟩
theorem fg_M_96 : fg clK "PipelinedCoreModel" 96 8 1 := ⟨_, F_M, 56, rfl, in_M, by decide, w615⟩
theorem fp_M_96 : fp clK "PipelinedCoreModel" 96 8 1 (.int) := ⟨_, F_M, 56, t_M, rfl, in_M, by decide, w615, t_M_ok, n_M, rfl, by decide +kernel⟩
theorem fg_M_7 : fg clK "PipelinedCoreModel" 7 8 2 := ⟨_, F_M, 56, rfl, in_M, by decide, w616⟩
theorem fg_M_13 : fg clK "PipelinedCoreModel" 13 8 3 := ⟨_, F_M, 56, rfl, in_M, by decide, w617⟩
theorem fg_M_16 : fg clK "PipelinedCoreModel" 16 8 4 := ⟨_, F_M, 56, rfl, in_M, by decide, w618⟩
theorem fg_M_19 : fg clK "PipelinedCoreModel" 19 8 5 := ⟨_, F_M, 56, rfl, in_M, by decide, w619⟩
theorem fg_M_162 : fg clK "PipelinedCoreModel" 162 8 6 := ⟨_, F_M, 56, rfl, in_M, by decide, w620⟩
theorem fp_M_162 : fp clK "PipelinedCoreModel" 162 8 6 (.int) := ⟨_, F_M, 56, t_M, rfl, in_M, by decide, w620, t_M_ok, n_M, rfl, by decide +kernel⟩
theorem fg_M_22 : fg clK "PipelinedCoreModel" 22 8 7 := ⟨_, F_M, 56, rfl, in_M, by decide, w621⟩
theorem fg_M_25 : fg clK "PipelinedCoreModel" 25 8 8 := ⟨_, F_M, 56, rfl, in_M, by decide, w622⟩
theorem fg_M_234 : fg clK "PipelinedCoreModel" 234 8 9 := ⟨_, F_M, 56, rfl, in_M, by decide, w623⟩
theorem fp_M_234 : fp clK "PipelinedCoreModel" 234 8 9 (.boolean) := ⟨_, F_M, 56, t_M, rfl, in_M, by decide, w623, t_M_ok, n_M, rfl, by decide +kernel⟩
theorem fg_M_237 : fg clK "PipelinedCoreModel" 237 8 10 := ⟨_, F_M, 56, rfl, in_M, by decide, w624⟩
theorem fp_M_237 : fp clK "PipelinedCoreModel" 237 8 10 (.boolean) := ⟨_, F_M, 56, t_M, rfl, in_M, by decide, w624, t_M_ok, n_M, rfl, by decide +kernel⟩
theorem fg_M_243 : fg clK "PipelinedCoreModel" 243 8 11 := ⟨_, F_M, 56, rfl, in_M, by decide, w625⟩
theorem fp_M_243 : fp clK "PipelinedCoreModel" 243 8 11 (.int) := ⟨_, F_M, 56, t_M, rfl, in_M, by decide, w625, t_M_ok, n_M, rfl, by decide +kernel⟩
theorem fg_M_240 : fg clK "PipelinedCoreModel" 240 8 12 := ⟨_, F_M, 56, rfl, in_M, by decide, w626⟩
theorem fp_M_240 : fp clK "PipelinedCoreModel" 240 8 12 (.int) := ⟨_, F_M, 56, t_M, rfl, in_M, by decide, w626, t_M_ok, n_M, rfl, by decide +kernel⟩
theorem fg_M_246 : fg clK "PipelinedCoreModel" 246 8 13 := ⟨_, F_M, 56, rfl, in_M, by decide, w627⟩
theorem fp_M_246 : fp clK "PipelinedCoreModel" 246 8 13 (.boolean) := ⟨_, F_M, 56, t_M, rfl, in_M, by decide, w627, t_M_ok, n_M, rfl, by decide +kernel⟩
theorem fg_M_258 : fg clK "PipelinedCoreModel" 258 8 14 := ⟨_, F_M, 56, rfl, in_M, by decide, w628⟩
theorem fp_M_258 : fp clK "PipelinedCoreModel" 258 8 14 (.int) := ⟨_, F_M, 56, t_M, rfl, in_M, by decide, w628, t_M_ok, n_M, rfl, by decide +kernel⟩
theorem fg_M_249 : fg clK "PipelinedCoreModel" 249 8 15 := ⟨_, F_M, 56, rfl, in_M, by decide, w629⟩
theorem fp_M_249 : fp clK "PipelinedCoreModel" 249 8 15 (.int) := ⟨_, F_M, 56, t_M, rfl, in_M, by decide, w629, t_M_ok, n_M, rfl, by decide +kernel⟩
theorem fg_M_28 : fg clK "PipelinedCoreModel" 28 8 16 := ⟨_, F_M, 56, rfl, in_M, by decide, w630⟩
theorem fp_M_28 : fp clK "PipelinedCoreModel" 28 8 16 (.int) := ⟨_, F_M, 56, t_M, rfl, in_M, by decide, w630, t_M_ok, n_M, rfl, by decide +kernel⟩
theorem fg_M_296 : fg clK "PipelinedCoreModel" 296 8 17 := ⟨_, F_M, 56, rfl, in_M, by decide, w631⟩
theorem fp_M_296 : fp clK "PipelinedCoreModel" 296 8 17 (.int) := ⟨_, F_M, 56, t_M, rfl, in_M, by decide, w631, t_M_ok, n_M, rfl, by decide +kernel⟩
theorem fg_M_32 : fg clK "PipelinedCoreModel" 32 8 18 := ⟨_, F_M, 56, rfl, in_M, by decide, w632⟩
theorem fg_M_35 : fg clK "PipelinedCoreModel" 35 8 19 := ⟨_, F_M, 56, rfl, in_M, by decide, w633⟩
theorem fg_M_38 : fg clK "PipelinedCoreModel" 38 8 20 := ⟨_, F_M, 56, rfl, in_M, by decide, w634⟩
theorem fg_M_41 : fg clK "PipelinedCoreModel" 41 8 21 := ⟨_, F_M, 56, rfl, in_M, by decide, w635⟩
theorem fg_M_44 : fg clK "PipelinedCoreModel" 44 8 22 := ⟨_, F_M, 56, rfl, in_M, by decide, w636⟩
theorem fg_M_47 : fg clK "PipelinedCoreModel" 47 8 23 := ⟨_, F_M, 56, rfl, in_M, by decide, w637⟩
theorem fg_M_50 : fg clK "PipelinedCoreModel" 50 8 24 := ⟨_, F_M, 56, rfl, in_M, by decide, w638⟩
theorem fg_M_53 : fg clK "PipelinedCoreModel" 53 8 25 := ⟨_, F_M, 56, rfl, in_M, by decide, w639⟩
theorem fg_M_56 : fg clK "PipelinedCoreModel" 56 8 26 := ⟨_, F_M, 56, rfl, in_M, by decide, w640⟩
theorem fg_M_60 : fg clK "PipelinedCoreModel" 60 8 27 := ⟨_, F_M, 56, rfl, in_M, by decide, w641⟩
theorem fg_M_63 : fg clK "PipelinedCoreModel" 63 8 28 := ⟨_, F_M, 56, rfl, in_M, by decide, w642⟩
theorem fg_M_66 : fg clK "PipelinedCoreModel" 66 8 29 := ⟨_, F_M, 56, rfl, in_M, by decide, w643⟩
theorem fg_M_69 : fg clK "PipelinedCoreModel" 69 8 30 := ⟨_, F_M, 56, rfl, in_M, by decide, w644⟩
theorem fg_M_72 : fg clK "PipelinedCoreModel" 72 8 31 := ⟨_, F_M, 56, rfl, in_M, by decide, w645⟩
theorem fg_M_284 : fg clK "PipelinedCoreModel" 284 8 32 := ⟨_, F_M, 56, rfl, in_M, by decide, w646⟩
theorem fp_M_284 : fp clK "PipelinedCoreModel" 284 8 32 (.int) := ⟨_, F_M, 56, t_M, rfl, in_M, by decide, w646, t_M_ok, n_M, rfl, by decide +kernel⟩
theorem fg_M_75 : fg clK "PipelinedCoreModel" 75 8 33 := ⟨_, F_M, 56, rfl, in_M, by decide, w647⟩
theorem fg_M_78 : fg clK "PipelinedCoreModel" 78 8 34 := ⟨_, F_M, 56, rfl, in_M, by decide, w648⟩
theorem fg_M_81 : fg clK "PipelinedCoreModel" 81 8 35 := ⟨_, F_M, 56, rfl, in_M, by decide, w649⟩
theorem fg_M_84 : fg clK "PipelinedCoreModel" 84 8 36 := ⟨_, F_M, 56, rfl, in_M, by decide, w650⟩
theorem fg_M_305 : fg clK "PipelinedCoreModel" 305 8 37 := ⟨_, F_M, 56, rfl, in_M, by decide, w651⟩
theorem fp_M_305 : fp clK "PipelinedCoreModel" 305 8 37 (.int) := ⟨_, F_M, 56, t_M, rfl, in_M, by decide, w651, t_M_ok, n_M, rfl, by decide +kernel⟩
theorem fg_M_87 : fg clK "PipelinedCoreModel" 87 8 38 := ⟨_, F_M, 56, rfl, in_M, by decide, w652⟩
theorem fg_M_90 : fg clK "PipelinedCoreModel" 90 8 39 := ⟨_, F_M, 56, rfl, in_M, by decide, w653⟩
theorem fg_M_302 : fg clK "PipelinedCoreModel" 302 8 40 := ⟨_, F_M, 56, rfl, in_M, by decide, w654⟩
theorem fp_M_302 : fp clK "PipelinedCoreModel" 302 8 40 (.int) := ⟨_, F_M, 56, t_M, rfl, in_M, by decide, w654, t_M_ok, n_M, rfl, by decide +kernel⟩
theorem fg_M_274 : fg clK "PipelinedCoreModel" 274 8 41 := ⟨_, F_M, 56, rfl, in_M, by decide, w655⟩
theorem fp_M_274 : fp clK "PipelinedCoreModel" 274 8 41 (.int) := ⟨_, F_M, 56, t_M, rfl, in_M, by decide, w655, t_M_ok, n_M, rfl, by decide +kernel⟩
theorem fg_M_268 : fg clK "PipelinedCoreModel" 268 8 42 := ⟨_, F_M, 56, rfl, in_M, by decide, w656⟩
theorem fp_M_268 : fp clK "PipelinedCoreModel" 268 8 42 (.int) := ⟨_, F_M, 56, t_M, rfl, in_M, by decide, w656, t_M_ok, n_M, rfl, by decide +kernel⟩
theorem fg_M_277 : fg clK "PipelinedCoreModel" 277 8 43 := ⟨_, F_M, 56, rfl, in_M, by decide, w657⟩
theorem fp_M_277 : fp clK "PipelinedCoreModel" 277 8 43 (.int) := ⟨_, F_M, 56, t_M, rfl, in_M, by decide, w657, t_M_ok, n_M, rfl, by decide +kernel⟩
theorem fg_M_103 : fg clK "PipelinedCoreModel" 103 8 44 := ⟨_, F_M, 56, rfl, in_M, by decide, w658⟩
theorem fp_M_103 : fp clK "PipelinedCoreModel" 103 8 44 (.int) := ⟨_, F_M, 56, t_M, rfl, in_M, by decide, w658, t_M_ok, n_M, rfl, by decide +kernel⟩
theorem fg_M_120 : fg clK "PipelinedCoreModel" 120 8 45 := ⟨_, F_M, 56, rfl, in_M, by decide, w659⟩
theorem fp_M_120 : fp clK "PipelinedCoreModel" 120 8 45 (.int) := ⟨_, F_M, 56, t_M, rfl, in_M, by decide, w659, t_M_ok, n_M, rfl, by decide +kernel⟩
theorem fg_M_123 : fg clK "PipelinedCoreModel" 123 8 46 := ⟨_, F_M, 56, rfl, in_M, by decide, w660⟩
theorem fp_M_123 : fp clK "PipelinedCoreModel" 123 8 46 (.int) := ⟨_, F_M, 56, t_M, rfl, in_M, by decide, w660, t_M_ok, n_M, rfl, by decide +kernel⟩
theorem fg_M_152 : fg clK "PipelinedCoreModel" 152 8 47 := ⟨_, F_M, 56, rfl, in_M, by decide, w661⟩
theorem fp_M_152 : fp clK "PipelinedCoreModel" 152 8 47 (.int) := ⟨_, F_M, 56, t_M, rfl, in_M, by decide, w661, t_M_ok, n_M, rfl, by decide +kernel⟩
theorem fg_M_199 : fg clK "PipelinedCoreModel" 199 8 48 := ⟨_, F_M, 56, rfl, in_M, by decide, w662⟩
theorem fp_M_199 : fp clK "PipelinedCoreModel" 199 8 48 (.int) := ⟨_, F_M, 56, t_M, rfl, in_M, by decide, w662, t_M_ok, n_M, rfl, by decide +kernel⟩
theorem fg_M_139 : fg clK "PipelinedCoreModel" 139 8 49 := ⟨_, F_M, 56, rfl, in_M, by decide, w663⟩
theorem fp_M_139 : fp clK "PipelinedCoreModel" 139 8 49 (.int) := ⟨_, F_M, 56, t_M, rfl, in_M, by decide, w663, t_M_ok, n_M, rfl, by decide +kernel⟩
theorem fg_M_172 : fg clK "PipelinedCoreModel" 172 8 50 := ⟨_, F_M, 56, rfl, in_M, by decide, w664⟩
theorem fp_M_172 : fp clK "PipelinedCoreModel" 172 8 50 (.int) := ⟨_, F_M, 56, t_M, rfl, in_M, by decide, w664, t_M_ok, n_M, rfl, by decide +kernel⟩
theorem fg_M_183 : fg clK "PipelinedCoreModel" 183 8 51 := ⟨_, F_M, 56, rfl, in_M, by decide, w665⟩
theorem fp_M_183 : fp clK "PipelinedCoreModel" 183 8 51 (.boolean) := ⟨_, F_M, 56, t_M, rfl, in_M, by decide, w665, t_M_ok, n_M, rfl, by decide +kernel⟩
theorem fg_M_186 : fg clK "PipelinedCoreModel" 186 8 52 := ⟨_, F_M, 56, rfl, in_M, by decide, w666⟩
theorem fp_M_186 : fp clK "PipelinedCoreModel" 186 8 52 (.int) := ⟨_, F_M, 56, t_M, rfl, in_M, by decide, w666, t_M_ok, n_M, rfl, by decide +kernel⟩
theorem fg_M_159 : fg clK "PipelinedCoreModel" 159 8 53 := ⟨_, F_M, 56, rfl, in_M, by decide, w667⟩
theorem fp_M_159 : fp clK "PipelinedCoreModel" 159 8 53 (.boolean) := ⟨_, F_M, 56, t_M, rfl, in_M, by decide, w667, t_M_ok, n_M, rfl, by decide +kernel⟩
theorem fg_M_155 : fg clK "PipelinedCoreModel" 155 8 54 := ⟨_, F_M, 56, rfl, in_M, by decide, w668⟩
theorem fp_M_155 : fp clK "PipelinedCoreModel" 155 8 54 (.boolean) := ⟨_, F_M, 56, t_M, rfl, in_M, by decide, w668, t_M_ok, n_M, rfl, by decide +kernel⟩
theorem fg_M_195 : fg clK "PipelinedCoreModel" 195 8 55 := ⟨_, F_M, 56, rfl, in_M, by decide, w669⟩
theorem fp_M_195 : fp clK "PipelinedCoreModel" 195 8 55 (.boolean) := ⟨_, F_M, 56, t_M, rfl, in_M, by decide, w669, t_M_ok, n_M, rfl, by decide +kernel⟩
def pr_K_init : List (Nat × Instr × Nat) := [(0, .aload_n 0, 1), (1, .invokespecial 1, 3), (4, .aload_n 0, 1), (5, .sipush 128, 3), (8, .newarray .int, 2), (10, .putfield 9, 3), (13, .aload_n 0, 1), (14, .bipush 32, 2), (16, .newarray .int, 2), (18, .putfield 13, 3), (21, .aload_n 0, 1), (22, .new 16, 3), (25, .dup, 1), (26, .invokespecial 18, 3), (29, .putfield 19, 3), (32, .aload_n 0, 1), (33, .new 23, 3), (36, .dup, 1), (37, .invokespecial 25, 3), (40, .putfield 26, 3), (43, .aload_n 0, 1), (44, .new 30, 3), (47, .dup, 1), (48, .invokespecial 32, 3), (51, .putfield 33, 3), (54, .aload_n 0, 1), (55, .new 37, 3), (58, .dup, 1), (59, .invokespecial 39, 3), (62, .putfield 40, 3), (65, .aload_n 0, 1), (66, .new 44, 3), (69, .dup, 1), (70, .invokespecial 46, 3), (73, .putfield 47, 3), (76, .aload_n 0, 1), (77, .new 51, 3), (80, .dup, 1), (81, .invokespecial 53, 3), (84, .putfield 54, 3), (87, .aload_n 0, 1), (88, .new 51, 3), (91, .dup, 1), (92, .invokespecial 53, 3), (95, .putfield 58, 3), (98, .aload_n 0, 1), (99, .new 61, 3), (102, .dup, 1), (103, .iload_n 1, 1), (104, .invokespecial 63, 3), (107, .putfield 66, 3), (110, .return_, 1)]
set_option maxRecDepth 100000 in
theorem dm_K_init : okAt b_K_init pr_K_init := by decide +kernel
def pr_Con_init : List (Nat × Instr × Nat) := [(0, .aload_n 0, 1), (1, .invokespecial 1, 3), (4, .return_, 1)]
set_option maxRecDepth 100000 in
theorem dm_Con_init : okAt b_Con_init pr_Con_init := by decide +kernel
def pr_Sto_init : List (Nat × Instr × Nat) := [(0, .aload_n 0, 1), (1, .invokespecial 1, 3), (4, .aload_n 0, 1), (5, .bipush 64, 2), (7, .newarray .int, 2), (9, .putfield 9, 3), (12, .return_, 1)]
set_option maxRecDepth 100000 in
theorem dm_Sto_init : okAt b_Sto_init pr_Sto_init := by decide +kernel
def pr_For_init : List (Nat × Instr × Nat) := [(0, .aload_n 0, 1), (1, .invokespecial 1, 3), (4, .aload_n 0, 1), (5, .bipush 12, 2), (7, .newarray .int, 2), (9, .putfield 9, 3), (12, .aload_n 0, 1), (13, .bipush 12, 2), (15, .newarray .int, 2), (17, .putfield 13, 3), (20, .aload_n 0, 1), (21, .bipush 12, 2), (23, .newarray .int, 2), (25, .putfield 16, 3), (28, .aload_n 0, 1), (29, .iconst 2, 1), (30, .newarray .int, 2), (32, .putfield 19, 3), (35, .aload_n 0, 1), (36, .getfield 9, 3), (39, .iconst (-1), 1), (40, .invokestatic 22, 3), (43, .return_, 1)]
set_option maxRecDepth 100000 in
theorem dm_For_init : okAt b_For_init pr_For_init := by decide +kernel
def pr_Arr_fill : List (Nat × Instr × Nat) := [(0, .iconst 0, 1), (1, .istore_n 2, 1), (2, .aload_n 0, 1), (3, .arraylength, 1), (4, .istore_n 3, 1), (5, .iload_n 2, 1), (6, .iload_n 3, 1), (7, .if_icmp .ge 13, 3), (10, .aload_n 0, 1), (11, .iload_n 2, 1), (12, .iload_n 1, 1), (13, .iastore, 1), (14, .iinc 2 1, 3), (17, .goto (-12), 3), (20, .return_, 1)]
set_option maxRecDepth 100000 in
theorem dm_Arr_fill : okAt b_Arr_fill pr_Arr_fill := by decide +kernel
def pr_His_init : List (Nat × Instr × Nat) := [(0, .aload_n 0, 1), (1, .invokespecial 1, 3), (4, .aload_n 0, 1), (5, .bipush 16, 2), (7, .newarray .int, 2), (9, .putfield 9, 3), (12, .aload_n 0, 1), (13, .bipush 16, 2), (15, .newarray .int, 2), (17, .putfield 13, 3), (20, .return_, 1)]
set_option maxRecDepth 100000 in
theorem dm_His_init : okAt b_His_init pr_His_init := by decide +kernel
def pr_Ins_init : List (Nat × Instr × Nat) := [(0, .aload_n 0, 1), (1, .invokespecial 1, 3), (4, .return_, 1)]
set_option maxRecDepth 100000 in
theorem dm_Ins_init : okAt b_Ins_init pr_Ins_init := by decide +kernel
def pr_Eff_init : List (Nat × Instr × Nat) := [(0, .aload_n 0, 1), (1, .invokespecial 1, 3), (4, .return_, 1)]
set_option maxRecDepth 100000 in
theorem dm_Eff_init : okAt b_Eff_init pr_Eff_init := by decide +kernel
def pr_Cac_init : List (Nat × Instr × Nat) := [(0, .aload_n 0, 1), (1, .invokespecial 1, 3), (4, .aload_n 0, 1), (5, .iconst 4, 1), (6, .newarray .int, 2), (8, .putfield 9, 3), (11, .aload_n 0, 1), (12, .iconst 4, 1), (13, .newarray .boolean, 2), (15, .putfield 13, 3), (18, .aload_n 0, 1), (19, .iconst 4, 1), (20, .iconst 1, 1), (21, .bipush 8, 2), (23, .iload_n 1, 1), (24, .invokestatic 17, 3), (27, .invokestatic 23, 3), (30, .imul, 1), (31, .putfield 26, 3), (34, .aload_n 0, 1), (35, .getfield 9, 3), (38, .iconst (-1), 1), (39, .invokestatic 30, 3), (42, .return_, 1)]
set_option maxRecDepth 100000 in
theorem dm_Cac_init : okAt b_Cac_init pr_Cac_init := by decide +kernel
def pr_Mat_min : List (Nat × Instr × Nat) := [(0, .iload_n 0, 1), (1, .iload_n 1, 1), (2, .if_icmp .gt 7, 3), (5, .iload_n 0, 1), (6, .goto 4, 3), (9, .iload_n 1, 1), (10, .ireturn, 1)]
set_option maxRecDepth 100000 in
theorem dm_Mat_min : okAt b_Mat_min pr_Mat_min := by decide +kernel
def pr_Mat_max : List (Nat × Instr × Nat) := [(0, .iload_n 0, 1), (1, .iload_n 1, 1), (2, .if_icmp .lt 7, 3), (5, .iload_n 0, 1), (6, .goto 4, 3), (9, .iload_n 1, 1), (10, .ireturn, 1)]
set_option maxRecDepth 100000 in
theorem dm_Mat_max : okAt b_Mat_max pr_Mat_max := by decide +kernel
def pr_K_code : List (Nat × Instr × Nat) := [(0, .iload_n 1, 1), (1, .ifCond .lt 17, 3), (4, .iload_n 1, 1), (5, .sipush 128, 3), (8, .if_icmp .ge 10, 3), (11, .aload_n 0, 1), (12, .getfield 70, 3), (15, .ifCond .le 5, 3), (18, .iconst 0, 1), (19, .ireturn, 1), (20, .aload_n 0, 1), (21, .getfield 9, 3), (24, .iload_n 1, 1), (25, .iload_n 2, 1), (26, .iastore, 1), (27, .iconst 1, 1), (28, .ireturn, 1)]
set_option maxRecDepth 100000 in
theorem dm_K_code : okAt b_K_code pr_K_code := by decide +kernel
def pr_K_data : List (Nat × Instr × Nat) := [(0, .iload_n 1, 1), (1, .invokestatic 74, 3), (4, .ifCond .eq 10, 3), (7, .aload_n 0, 1), (8, .getfield 70, 3), (11, .ifCond .le 5, 3), (14, .iconst 0, 1), (15, .ireturn, 1), (16, .aload_n 0, 1), (17, .getfield 26, 3), (20, .iload_n 1, 1), (21, .iload_n 2, 1), (22, .invokevirtual 78, 3), (25, .iconst 1, 1), (26, .ireturn, 1)]
set_option maxRecDepth 100000 in
theorem dm_K_data : okAt b_K_data pr_K_data := by decide +kernel
def pr_Sto_hasWord : List (Nat × Instr × Nat) := [(0, .iload_n 0, 1), (1, .invokestatic 13, 3), (4, .ifCond .eq 13, 3), (7, .iload_n 0, 1), (8, .iconst 3, 1), (9, .iand, 1), (10, .ifCond .ne 7, 3), (13, .iconst 1, 1), (14, .goto 4, 3), (17, .iconst 0, 1), (18, .ireturn, 1)]
set_option maxRecDepth 100000 in
theorem dm_Sto_hasWord : okAt b_Sto_hasWord pr_Sto_hasWord := by decide +kernel
def pr_Sto_has : List (Nat × Instr × Nat) := [(0, .iload_n 0, 1), (1, .sipush 1024, 3), (4, .if_icmp .lt 14, 3), (7, .iload_n 0, 1), (8, .sipush 1280, 3), (11, .if_icmp .ge 7, 3), (14, .iconst 1, 1), (15, .goto 4, 3), (18, .iconst 0, 1), (19, .ireturn, 1)]
set_option maxRecDepth 100000 in
theorem dm_Sto_has : okAt b_Sto_has pr_Sto_has := by decide +kernel
def pr_Sto_setWord : List (Nat × Instr × Nat) := [(0, .iload_n 1, 1), (1, .invokestatic 13, 3), (4, .ifCond .eq 16, 3), (7, .aload_n 0, 1), (8, .getfield 9, 3), (11, .iload_n 1, 1), (12, .sipush 1024, 3), (15, .isub, 1), (16, .iconst 2, 1), (17, .ishr, 1), (18, .iload_n 2, 1), (19, .iastore, 1), (20, .return_, 1)]
set_option maxRecDepth 100000 in
theorem dm_Sto_setWord : okAt b_Sto_setWord pr_Sto_setWord := by decide +kernel
def pr_K_lines : List (Nat × Instr × Nat) := [(0, .aload_n 0, 1), (1, .getfield 19, 3), (4, .iload_n 1, 1), (5, .invokevirtual 82, 3), (8, .ireturn, 1)]
set_option maxRecDepth 100000 in
theorem dm_K_lines : okAt b_K_lines pr_K_lines := by decide +kernel
def pr_Con_setLines : List (Nat × Instr × Nat) := [(0, .iload_n 1, 1), (1, .sipush (-2185), 3), (4, .iand, 1), (5, .ifCond .eq 5, 3), (8, .iconst 0, 1), (9, .ireturn, 1), (10, .aload_n 0, 1), (11, .iload_n 1, 1), (12, .putfield 31, 3), (15, .iconst 1, 1), (16, .ireturn, 1)]
set_option maxRecDepth 100000 in
theorem dm_Con_setLines : okAt b_Con_setLines pr_Con_setLines := by decide +kernel
def pr_K_run : List (Nat × Instr × Nat) := [(0, .iload_n 1, 1), (1, .iconst 1, 1), (2, .if_icmp .lt 9, 3), (5, .iload_n 1, 1), (6, .bipush 100, 2), (8, .if_icmp .le 5, 3), (11, .iconst (-1), 1), (12, .ireturn, 1), (13, .aload_n 0, 1), (14, .getfield 70, 3), (17, .ifCond .ne 10, 3), (20, .aload_n 0, 1), (21, .iconst 0, 1), (22, .iconst 1, 1), (23, .iconst 0, 1), (24, .invokevirtual 85, 3), (27, .aload_n 0, 1), (28, .getfield 40, 3), (31, .getfield 89, 3), (34, .istore_n 2, 1), (35, .iconst 0, 1), (36, .istore_n 3, 1), (37, .iload_n 3, 1), (38, .iload_n 1, 1), (39, .if_icmp .ge 13, 3), (42, .aload_n 0, 1), (43, .invokevirtual 92, 3), (46, .iinc 3 1, 3), (49, .goto (-12), 3), (52, .aload_n 0, 1), (53, .getfield 40, 3), (56, .getfield 89, 3), (59, .iload_n 2, 1), (60, .isub, 1), (61, .ireturn, 1)]
set_option maxRecDepth 100000 in
theorem dm_K_run : okAt b_K_run pr_K_run := by decide +kernel
def pr_K_expect : List (Nat × Instr × Nat) := [(0, .iload_n 1, 1), (1, .iconst 3, 1), (2, .iand, 1), (3, .ifCond .ne 18, 3), (6, .iload_n 1, 1), (7, .ifCond .lt 14, 3), (10, .iload_n 1, 1), (11, .sipush 512, 3), (14, .if_icmp .ge 7, 3), (17, .iconst 1, 1), (18, .goto 4, 3), (21, .iconst 0, 1), (22, .istore 4, 2), (24, .aload_n 0, 1), (25, .getfield 47, 3), (28, .iload_n 1, 1), (29, .iload 4, 2), (31, .iload 4, 2), (33, .ifCond .eq 14, 3), (36, .aload_n 0, 1), (37, .getfield 9, 3), (40, .iload_n 1, 1), (41, .iconst 2, 1), (42, .ishr, 1), (43, .iaload, 1), (44, .goto 4, 3), (47, .iconst 0, 1), (48, .invokevirtual 272, 3), (51, .aload_n 0, 1), (52, .getfield 47, 3), (55, .aload_n 0, 1), (56, .getfield 33, 3), (59, .iload_n 1, 1), (60, .iload_n 2, 1), (61, .invokevirtual 117, 3), (64, .putfield 252, 3), (67, .aload_n 0, 1), (68, .getfield 47, 3), (71, .iload_n 2, 1), (72, .iconst 1, 1), (73, .iadd, 1), (74, .aload_n 0, 1), (75, .getfield 70, 3), (78, .invokestatic 241, 3), (81, .putfield 269, 3), (84, .aload_n 0, 1), (85, .getfield 47, 3), (88, .aload_n 0, 1), (89, .getfield 47, 3), (92, .getfield 269, 3), (95, .iconst 1, 1), (96, .iadd, 1), (97, .iload_n 3, 1), (98, .invokestatic 241, 3), (101, .putfield 146, 3), (104, .aload_n 0, 1), (105, .getfield 246, 3), (108, .ifCond .eq 38, 3), (111, .aload_n 0, 1), (112, .getfield 47, 3), (115, .aload_n 0, 1), (116, .getfield 246, 3), (119, .invokevirtual 276, 3), (122, .ifCond .eq 24, 3), (125, .aload_n 0, 1), (126, .getfield 47, 3), (129, .aload_n 0, 1), (130, .getfield 47, 3), (133, .getfield 146, 3), (136, .aload_n 0, 1), (137, .getfield 238, 3), (140, .invokestatic 241, 3), (143, .putfield 146, 3), (146, .return_, 1)]
set_option maxRecDepth 100000 in
theorem dm_K_expect : okAt b_K_expect pr_K_expect := by decide +kernel
def pr_Ins_decode : List (Nat × Instr × Nat) := [(0, .aload_n 0, 1), (1, .iload_n 1, 1), (2, .putfield 7, 3), (5, .aload_n 0, 1), (6, .iload_n 2, 1), (7, .putfield 13, 3), (10, .aload_n 0, 1), (11, .iload_n 3, 1), (12, .putfield 17, 3), (15, .aload_n 0, 1), (16, .aload_n 0, 1), (17, .getfield 17, 3), (20, .bipush 127, 2), (22, .iand, 1), (23, .putfield 20, 3), (26, .aload_n 0, 1), (27, .aload_n 0, 1), (28, .getfield 17, 3), (31, .bipush 7, 2), (33, .iushr, 1), (34, .bipush 31, 2), (36, .iand, 1), (37, .putfield 23, 3), (40, .aload_n 0, 1), (41, .aload_n 0, 1), (42, .getfield 17, 3), (45, .bipush 12, 2), (47, .iushr, 1), (48, .bipush 7, 2), (50, .iand, 1), (51, .putfield 26, 3), (54, .aload_n 0, 1), (55, .aload_n 0, 1), (56, .getfield 17, 3), (59, .bipush 15, 2), (61, .iushr, 1), (62, .bipush 31, 2), (64, .iand, 1), (65, .putfield 29, 3), (68, .aload_n 0, 1), (69, .aload_n 0, 1), (70, .getfield 17, 3), (73, .bipush 20, 2), (75, .iushr, 1), (76, .bipush 31, 2), (78, .iand, 1), (79, .putfield 32, 3), (82, .aload_n 0, 1), (83, .aload_n 0, 1), (84, .getfield 17, 3), (87, .bipush 25, 2), (89, .iushr, 1), (90, .putfield 35, 3), (93, .return_, 1)]
set_option maxRecDepth 100000 in
theorem dm_Ins_decode : okAt b_Ins_decode pr_Ins_decode := by decide +kernel
def pr_For_foretell : List (Nat × Instr × Nat) := [(0, .iconst 0, 1), (1, .istore_n 3, 1), (2, .iconst 0, 1), (3, .istore 4, 2), (5, .iload 4, 2), (7, .iconst 2, 1), (8, .if_icmp .ge 25, 3), (11, .aload_n 0, 1), (12, .getfield 19, 3), (15, .iload 4, 2), (17, .iaload, 1), (18, .iload_n 2, 1), (19, .if_icmp .lt 8, 3), (22, .iload 4, 2), (24, .iconst 1, 1), (25, .iadd, 1), (26, .istore_n 3, 1), (27, .iinc 4 1, 3), (30, .goto (-25), 3), (33, .iload_n 3, 1), (34, .iconst 4, 1), (35, .imul, 1), (36, .iload_n 1, 1), (37, .invokestatic 28, 3), (40, .iadd, 1), (41, .istore 4, 2), (43, .aload_n 0, 1), (44, .getfield 9, 3), (47, .iload 4, 2), (49, .iaload, 1), (50, .iload_n 1, 1), (51, .if_icmp .ne 18, 3), (54, .aload_n 0, 1), (55, .getfield 16, 3), (58, .iload 4, 2), (60, .iaload, 1), (61, .iconst 2, 1), (62, .if_icmp .lt 7, 3), (65, .iconst 1, 1), (66, .goto 4, 3), (69, .iconst 0, 1), (70, .istore 5, 2), (72, .iload 5, 2), (74, .ifCond .eq 13, 3), (77, .aload_n 0, 1), (78, .getfield 13, 3), (81, .iload 4, 2), (83, .iaload, 1), (84, .goto 6, 3), (87, .iload_n 1, 1), (88, .iconst 4, 1), (89, .iadd, 1), (90, .ireturn, 1)]
set_option maxRecDepth 100000 in
theorem dm_For_foretell : okAt b_For_foretell pr_For_foretell := by decide +kernel
def pr_For_entryFor : List (Nat × Instr × Nat) := [(0, .iload_n 0, 1), (1, .iconst 2, 1), (2, .ishr, 1), (3, .iconst 3, 1), (4, .iand, 1), (5, .ireturn, 1)]
set_option maxRecDepth 100000 in
theorem dm_For_entryFor : okAt b_For_entryFor pr_For_entryFor := by decide +kernel
def pr_Ins_uses : List (Nat × Instr × Nat) := [(0, .aload_n 0, 1), (1, .invokevirtual 39, 3), (4, .ifCond .eq 11, 3), (7, .aload_n 0, 1), (8, .getfield 29, 3), (11, .iload_n 1, 1), (12, .if_icmp .eq 18, 3), (15, .aload_n 0, 1), (16, .invokevirtual 43, 3), (19, .ifCond .eq 15, 3), (22, .aload_n 0, 1), (23, .getfield 32, 3), (26, .iload_n 1, 1), (27, .if_icmp .ne 7, 3), (30, .iconst 1, 1), (31, .goto 4, 3), (34, .iconst 0, 1), (35, .ireturn, 1)]
set_option maxRecDepth 100000 in
theorem dm_Ins_uses : okAt b_Ins_uses pr_Ins_uses := by decide +kernel
def pr_Ins_usesA : List (Nat × Instr × Nat) := [(0, .aload_n 0, 1), (1, .getfield 20, 3), (4, .lookupswitch 75 #[(15, 52), (23, 52), (55, 52), (111, 52), (115, 54)], 52), (56, .iconst 0, 1), (57, .ireturn, 1), (58, .aload_n 0, 1), (59, .getfield 26, 3), (62, .ifCond .eq 15, 3), (65, .aload_n 0, 1), (66, .getfield 26, 3), (69, .iconst 5, 1), (70, .if_icmp .ge 7, 3), (73, .iconst 1, 1), (74, .goto 4, 3), (77, .iconst 0, 1), (78, .ireturn, 1), (79, .iconst 1, 1), (80, .ireturn, 1)]
set_option maxRecDepth 100000 in
theorem dm_Ins_usesA : okAt b_Ins_usesA pr_Ins_usesA := by decide +kernel
def pr_Ins_usesB : List (Nat × Instr × Nat) := [(0, .aload_n 0, 1), (1, .getfield 20, 3), (4, .bipush 99, 2), (6, .if_icmp .eq 21, 3), (9, .aload_n 0, 1), (10, .getfield 20, 3), (13, .bipush 35, 2), (15, .if_icmp .eq 12, 3), (18, .aload_n 0, 1), (19, .getfield 20, 3), (22, .bipush 51, 2), (24, .if_icmp .ne 7, 3), (27, .iconst 1, 1), (28, .goto 4, 3), (31, .iconst 0, 1), (32, .ireturn, 1)]
set_option maxRecDepth 100000 in
theorem dm_Ins_usesB : okAt b_Ins_usesB pr_Ins_usesB := by decide +kernel
def pr_K_makeCycle : List (Nat × Instr × Nat) := [(0, .aload_n 0, 1), (1, .dup, 1), (2, .getfield 70, 3), (5, .iconst 1, 1), (6, .iadd, 1), (7, .putfield 70, 3), (10, .aload_n 0, 1), (11, .getfield 58, 3), (14, .getfield 111, 3), (17, .ifCond .eq 25, 3), (20, .aload_n 0, 1), (21, .getfield 58, 3), (24, .getfield 133, 3), (27, .aload_n 0, 1), (28, .getfield 70, 3), (31, .if_icmp .ne 11, 3), (34, .aload_n 0, 1), (35, .aload_n 0, 1), (36, .getfield 58, 3), (39, .invokevirtual 136, 3), (42, .aload_n 0, 1), (43, .getfield 54, 3), (46, .getfield 111, 3), (49, .ifCond .eq 21, 3), (52, .aload_n 0, 1), (53, .getfield 54, 3), (56, .getfield 140, 3), (59, .aload_n 0, 1), (60, .getfield 70, 3), (63, .if_icmp .ne 7, 3), (66, .aload_n 0, 1), (67, .invokevirtual 143, 3), (70, .aload_n 0, 1), (71, .getfield 47, 3), (74, .getfield 146, 3), (77, .aload_n 0, 1), (78, .getfield 70, 3), (81, .if_icmp .ne 11, 3), (84, .aload_n 0, 1), (85, .aload_n 0, 1), (86, .getfield 54, 3), (89, .invokevirtual 149, 3), (92, .return_, 1)]
set_option maxRecDepth 100000 in
theorem dm_K_makeCycle : okAt b_K_makeCycle pr_K_makeCycle := by decide +kernel
def pr_K_end : List (Nat × Instr × Nat) := [(0, .aload_n 1, 1), (1, .iconst 0, 1), (2, .putfield 111, 3), (5, .aload_n 1, 1), (6, .getfield 152, 3), (9, .iconst 1, 1), (10, .if_icmp .ne 25, 3), (13, .aload_n 1, 1), (14, .aload_n 0, 1), (15, .getfield 26, 3), (18, .aload_n 1, 1), (19, .getfield 155, 3), (22, .aload_n 1, 1), (23, .getfield 158, 3), (26, .invokevirtual 161, 3), (29, .putfield 163, 3), (32, .goto 30, 3), (35, .aload_n 1, 1), (36, .getfield 152, 3), (39, .iconst 2, 1), (40, .if_icmp .ne 22, 3), (43, .aload_n 0, 1), (44, .getfield 26, 3), (47, .aload_n 1, 1), (48, .getfield 155, 3), (51, .aload_n 1, 1), (52, .getfield 158, 3), (55, .aload_n 1, 1), (56, .getfield 166, 3), (59, .invokevirtual 169, 3), (62, .aload_n 1, 1), (63, .getfield 172, 3), (66, .ifCond .eq 16, 3), (69, .aload_n 0, 1), (70, .getfield 13, 3), (73, .aload_n 1, 1), (74, .getfield 172, 3), (77, .aload_n 1, 1), (78, .getfield 163, 3), (81, .iastore, 1), (82, .aload_n 1, 1), (83, .getfield 175, 3), (86, .ifCond .eq 13, 3), (89, .aload_n 0, 1), (90, .dup, 1), (91, .getfield 121, 3), (94, .iconst 1, 1), (95, .iadd, 1), (96, .putfield 121, 3), (99, .aload_n 0, 1), (100, .getfield 40, 3), (103, .aload_n 1, 1), (104, .getfield 115, 3), (107, .aload_n 0, 1), (108, .getfield 70, 3), (111, .invokevirtual 177, 3), (114, .return_, 1)]
set_option maxRecDepth 100000 in
theorem dm_K_end : okAt b_K_end pr_K_end := by decide +kernel
def pr_Sto_read : List (Nat × Instr × Nat) := [(0, .aload_n 0, 1), (1, .iload_n 1, 1), (2, .invokevirtual 17, 3), (5, .iload_n 1, 1), (6, .invokestatic 21, 3), (9, .iushr, 1), (10, .istore_n 3, 1), (11, .iload_n 2, 1), (12, .tableswitch 57 0 5 #[40, 43, 57, 57, 46, 52], 40), (52, .iload_n 3, 1), (53, .i2b, 1), (54, .ireturn, 1), (55, .iload_n 3, 1), (56, .i2s, 1), (57, .ireturn, 1), (58, .iload_n 3, 1), (59, .sipush 255, 3), (62, .iand, 1), (63, .ireturn, 1), (64, .iload_n 3, 1), (65, .ldc 24, 2), (67, .iand, 1), (68, .ireturn, 1), (69, .iload_n 3, 1), (70, .ireturn, 1)]
set_option maxRecDepth 100000 in
theorem dm_Sto_read : okAt b_Sto_read pr_Sto_read := by decide +kernel
def pr_Sto_wordAround : List (Nat × Instr × Nat) := [(0, .iload_n 1, 1), (1, .invokestatic 13, 3), (4, .ifCond .eq 18, 3), (7, .aload_n 0, 1), (8, .getfield 9, 3), (11, .iload_n 1, 1), (12, .sipush 1024, 3), (15, .isub, 1), (16, .iconst 2, 1), (17, .ishr, 1), (18, .iaload, 1), (19, .goto 4, 3), (22, .iconst 0, 1), (23, .ireturn, 1)]
set_option maxRecDepth 100000 in
theorem dm_Sto_wordAround : okAt b_Sto_wordAround pr_Sto_wordAround := by decide +kernel
def pr_Sto_bitsBelow : List (Nat × Instr × Nat) := [(0, .iload_n 0, 1), (1, .iconst 3, 1), (2, .iand, 1), (3, .bipush 8, 2), (5, .imul, 1), (6, .ireturn, 1)]
set_option maxRecDepth 100000 in
theorem dm_Sto_bitsBelow : okAt b_Sto_bitsBelow pr_Sto_bitsBelow := by decide +kernel
def pr_Sto_write : List (Nat × Instr × Nat) := [(0, .iload_n 2, 1), (1, .ifCond .ne 9, 3), (4, .sipush 255, 3), (7, .goto 14, 3), (10, .iload_n 2, 1), (11, .iconst 1, 1), (12, .if_icmp .ne 8, 3), (15, .ldc 24, 2), (17, .goto 4, 3), (20, .iconst (-1), 1), (21, .istore 4, 2), (23, .iload 4, 2), (25, .iload_n 1, 1), (26, .invokestatic 21, 3), (29, .ishl, 1), (30, .istore 5, 2), (32, .aload_n 0, 1), (33, .iload_n 1, 1), (34, .invokevirtual 17, 3), (37, .iload 5, 2), (39, .iconst (-1), 1), (40, .ixor, 1), (41, .iand, 1), (42, .istore 6, 2), (44, .aload_n 0, 1), (45, .iload_n 1, 1), (46, .iload 6, 2), (48, .iload_n 3, 1), (49, .iload_n 1, 1), (50, .invokestatic 21, 3), (53, .ishl, 1), (54, .iload 5, 2), (56, .iand, 1), (57, .ior, 1), (58, .invokevirtual 25, 3), (61, .return_, 1)]
set_option maxRecDepth 100000 in
theorem dm_Sto_write : okAt b_Sto_write pr_Sto_write := by decide +kernel
def pr_His_add : List (Nat × Instr × Nat) := [(0, .aload_n 0, 1), (1, .getfield 16, 3), (4, .bipush 15, 2), (6, .iand, 1), (7, .istore_n 3, 1), (8, .aload_n 0, 1), (9, .getfield 9, 3), (12, .iload_n 3, 1), (13, .iload_n 1, 1), (14, .iastore, 1), (15, .aload_n 0, 1), (16, .getfield 13, 3), (19, .iload_n 3, 1), (20, .iload_n 2, 1), (21, .iastore, 1), (22, .aload_n 0, 1), (23, .dup, 1), (24, .getfield 16, 3), (27, .iconst 1, 1), (28, .iadd, 1), (29, .putfield 16, 3), (32, .return_, 1)]
set_option maxRecDepth 100000 in
theorem dm_His_add : okAt b_His_add pr_His_add := by decide +kernel
def pr_K_moveToMemory : List (Nat × Instr × Nat) := [(0, .aload_n 0, 1), (1, .getfield 58, 3), (4, .astore_n 1, 1), (5, .aload_n 0, 1), (6, .aload_n 0, 1), (7, .getfield 54, 3), (10, .putfield 58, 3), (13, .aload_n 0, 1), (14, .aload_n 1, 1), (15, .putfield 54, 3), (18, .return_, 1)]
set_option maxRecDepth 100000 in
theorem dm_K_moveToMemory : okAt b_K_moveToMemory pr_K_moveToMemory := by decide +kernel
def pr_K_begin : List (Nat × Instr × Nat) := [(0, .aload_n 1, 1), (1, .aload_n 0, 1), (2, .getfield 47, 3), (5, .getfield 180, 3), (8, .invokevirtual 181, 3), (11, .aload_n 0, 1), (12, .getfield 19, 3), (15, .invokevirtual 184, 3), (18, .istore_n 2, 1), (19, .iload_n 2, 1), (20, .ifCond .eq 45, 3), (23, .aload_n 0, 1), (24, .dup, 1), (25, .getfield 127, 3), (28, .iconst 1, 1), (29, .iadd, 1), (30, .putfield 127, 3), (33, .aload_n 0, 1), (34, .aload_n 0, 1), (35, .getfield 19, 3), (38, .aload_n 0, 1), (39, .getfield 47, 3), (42, .getfield 180, 3), (45, .iload_n 2, 1), (46, .invokevirtual 188, 3), (49, .aload_n 0, 1), (50, .getfield 70, 3), (53, .iconst 1, 1), (54, .iadd, 1), (55, .aload_n 0, 1), (56, .getfield 70, 3), (59, .iconst 1, 1), (60, .iadd, 1), (61, .invokevirtual 85, 3), (64, .return_, 1), (65, .aload_n 0, 1), (66, .getfield 47, 3), (69, .getfield 191, 3), (72, .ifCond .eq 40, 3), (75, .aload_n 0, 1), (76, .getfield 47, 3), (79, .aload_n 0, 1), (80, .aload_n 0, 1), (81, .getfield 47, 3), (84, .getfield 194, 3), (87, .invokevirtual 197, 3), (90, .aload_n 0, 1), (91, .aload_n 0, 1), (92, .getfield 47, 3), (95, .getfield 200, 3), (98, .invokevirtual 197, 3), (101, .aload_n 0, 1), (102, .getfield 19, 3), (105, .aload_n 1, 1), (106, .invokestatic 203, 3), (109, .goto 15, 3), (112, .aload_n 1, 1), (113, .iconst 1, 1), (114, .aload_n 0, 1), (115, .getfield 47, 3), (118, .getfield 180, 3), (121, .invokevirtual 209, 3), (124, .aload_n 1, 1), (125, .getfield 212, 3), (128, .ifCond .eq 54, 3), (131, .aload_n 0, 1), (132, .dup, 1), (133, .getfield 124, 3), (136, .iconst 1, 1), (137, .iadd, 1), (138, .putfield 124, 3), (141, .aload_n 0, 1), (142, .getfield 19, 3), (145, .aload_n 0, 1), (146, .getfield 47, 3), (149, .getfield 180, 3), (152, .aload_n 1, 1), (153, .getfield 215, 3), (156, .aload_n 1, 1), (157, .getfield 218, 3), (160, .invokevirtual 221, 3), (163, .istore_n 3, 1), (164, .aload_n 0, 1), (165, .iload_n 3, 1), (166, .aload_n 0, 1), (167, .getfield 70, 3), (170, .iconst 1, 1), (171, .iadd, 1), (172, .aload_n 0, 1), (173, .getfield 70, 3), (176, .iconst 1, 1), (177, .iadd, 1), (178, .invokevirtual 85, 3), (181, .return_, 1), (182, .aload_n 0, 1), (183, .aload_n 1, 1), (184, .invokevirtual 225, 3), (187, .aload_n 0, 1), (188, .aload_n 1, 1), (189, .invokevirtual 228, 3), (192, .return_, 1)]
set_option maxRecDepth 100000 in
theorem dm_K_begin : okAt b_K_begin pr_K_begin := by decide +kernel
def pr_Eff_reset : List (Nat × Instr × Nat) := [(0, .aload_n 0, 1), (1, .iconst 0, 1), (2, .putfield 7, 3), (5, .aload_n 0, 1), (6, .iload_n 1, 1), (7, .putfield 13, 3), (10, .aload_n 0, 1), (11, .iconst 1, 1), (12, .putfield 17, 3), (15, .aload_n 0, 1), (16, .iconst 0, 1), (17, .putfield 20, 3), (20, .aload_n 0, 1), (21, .iconst 0, 1), (22, .putfield 23, 3), (25, .aload_n 0, 1), (26, .iload_n 1, 1), (27, .iconst 4, 1), (28, .iadd, 1), (29, .putfield 26, 3), (32, .aload_n 0, 1), (33, .iconst 0, 1), (34, .putfield 29, 3), (37, .aload_n 0, 1), (38, .iconst 0, 1), (39, .putfield 32, 3), (42, .aload_n 0, 1), (43, .iconst 0, 1), (44, .putfield 35, 3), (47, .return_, 1)]
set_option maxRecDepth 100000 in
theorem dm_Eff_reset : okAt b_Eff_reset pr_Eff_reset := by decide +kernel
def pr_Con_dueLine : List (Nat × Instr × Nat) := [(0, .aload_n 0, 1), (1, .getfield 7, 3), (4, .bipush 8, 2), (6, .iand, 1), (7, .ifCond .eq 15, 3), (10, .aload_n 0, 1), (11, .getfield 31, 3), (14, .aload_n 0, 1), (15, .getfield 13, 3), (18, .iand, 1), (19, .goto 4, 3), (22, .iconst 0, 1), (23, .istore_n 1, 1), (24, .iload_n 1, 1), (25, .sipush 2048, 3), (28, .iand, 1), (29, .ifCond .eq 6, 3), (32, .bipush 11, 2), (34, .ireturn, 1), (35, .iload_n 1, 1), (36, .bipush 8, 2), (38, .iand, 1), (39, .ifCond .eq 5, 3), (42, .iconst 3, 1), (43, .ireturn, 1), (44, .iload_n 1, 1), (45, .sipush 128, 3), (48, .iand, 1), (49, .ifCond .eq 8, 3), (52, .bipush 7, 2), (54, .goto 4, 3), (57, .iconst 0, 1), (58, .ireturn, 1)]
set_option maxRecDepth 100000 in
theorem dm_Con_dueLine : okAt b_Con_dueLine pr_Con_dueLine := by decide +kernel
def pr_Con_enterInterrupt : List (Nat × Instr × Nat) := [(0, .aload_n 0, 1), (1, .iload_n 1, 1), (2, .ldc 34, 2), (4, .iload_n 2, 1), (5, .iadd, 1), (6, .iconst 0, 1), (7, .invokevirtual 35, 3), (10, .istore_n 3, 1), (11, .aload_n 0, 1), (12, .getfield 16, 3), (15, .iconst 1, 1), (16, .iand, 1), (17, .ifCond .eq 11, 3), (20, .iload_n 3, 1), (21, .iconst 4, 1), (22, .iload_n 2, 1), (23, .imul, 1), (24, .iadd, 1), (25, .goto 4, 3), (28, .iload_n 3, 1), (29, .ireturn, 1)]
set_option maxRecDepth 100000 in
theorem dm_Con_enterInterrupt : okAt b_Con_enterInterrupt pr_Con_enterInterrupt := by decide +kernel
def pr_Con_enterTrap : List (Nat × Instr × Nat) := [(0, .aload_n 0, 1), (1, .iload_n 1, 1), (2, .bipush (-4), 2), (4, .iand, 1), (5, .putfield 22, 3), (8, .aload_n 0, 1), (9, .iload_n 2, 1), (10, .putfield 25, 3), (13, .aload_n 0, 1), (14, .iload_n 3, 1), (15, .putfield 28, 3), (18, .aload_n 0, 1), (19, .aload_n 0, 1), (20, .getfield 7, 3), (23, .bipush 8, 2), (25, .iand, 1), (26, .ifCond .eq 9, 3), (29, .sipush 128, 3), (32, .goto 4, 3), (35, .iconst 0, 1), (36, .putfield 7, 3), (39, .aload_n 0, 1), (40, .getfield 16, 3), (43, .bipush (-4), 2), (45, .iand, 1), (46, .ireturn, 1)]
set_option maxRecDepth 100000 in
theorem dm_Con_enterTrap : okAt b_Con_enterTrap pr_Con_enterTrap := by decide +kernel
def pr_K_operand : List (Nat × Instr × Nat) := [(0, .iload_n 1, 1), (1, .ifCond .eq 28, 3), (4, .aload_n 0, 1), (5, .getfield 58, 3), (8, .getfield 111, 3), (11, .ifCond .eq 18, 3), (14, .aload_n 0, 1), (15, .getfield 58, 3), (18, .getfield 172, 3), (21, .iload_n 1, 1), (22, .if_icmp .ne 7, 3), (25, .iconst 1, 1), (26, .goto 4, 3), (29, .iconst 0, 1), (30, .istore_n 2, 1), (31, .iload_n 2, 1), (32, .ifCond .eq 13, 3), (35, .aload_n 0, 1), (36, .getfield 58, 3), (39, .getfield 163, 3), (42, .goto 9, 3), (45, .aload_n 0, 1), (46, .getfield 13, 3), (49, .iload_n 1, 1), (50, .iaload, 1), (51, .ireturn, 1)]
set_option maxRecDepth 100000 in
theorem dm_K_operand : okAt b_K_operand pr_K_operand := by decide +kernel
def pr_Exe_perform : List (Nat × Instr × Nat) := [(0, .aload_n 0, 1), (1, .getfield 7, 3), (4, .lookupswitch 283 #[(3, 200), (15, 280), (19, 231), (23, 116), (35, 215), (51, 241), (55, 100), (99, 189), (103, 155), (111, 137), (115, 252)], 100), (104, .aload 4, 2), (106, .aload_n 0, 1), (107, .getfield 13, 3), (110, .aload_n 0, 1), (111, .invokevirtual 16, 3), (114, .invokevirtual 20, 3), (117, .goto 176, 3), (120, .aload 4, 2), (122, .aload_n 0, 1), (123, .getfield 13, 3), (126, .aload_n 0, 1), (127, .getfield 26, 3), (130, .aload_n 0, 1), (131, .invokevirtual 16, 3), (134, .iadd, 1), (135, .invokevirtual 20, 3), (138, .goto 155, 3), (141, .aload_n 0, 1), (142, .aload_n 0, 1), (143, .getfield 26, 3), (146, .aload_n 0, 1), (147, .invokevirtual 29, 3), (150, .iadd, 1), (151, .aload 4, 2), (153, .invokestatic 32, 3), (156, .goto 137, 3), (159, .aload_n 0, 1), (160, .getfield 38, 3), (163, .ifCond .ne 21, 3), (166, .aload_n 0, 1), (167, .iload_n 1, 1), (168, .aload_n 0, 1), (169, .invokevirtual 41, 3), (172, .iadd, 1), (173, .bipush (-2), 2), (175, .iand, 1), (176, .aload 4, 2), (178, .invokestatic 32, 3), (181, .goto 112, 3), (184, .aload_n 0, 1), (185, .aload 4, 2), (187, .invokestatic 44, 3), (190, .goto 103, 3), (193, .aload_n 0, 1), (194, .iload_n 1, 1), (195, .iload_n 2, 1), (196, .aload 4, 2), (198, .invokestatic 48, 3), (201, .goto 92, 3), (204, .aload_n 0, 1), (205, .iload_n 1, 1), (206, .aload_n 0, 1), (207, .invokevirtual 41, 3), (210, .iadd, 1), (211, .aload 4, 2), (213, .invokestatic 52, 3), (216, .goto 77, 3), (219, .aload_n 0, 1), (220, .iload_n 1, 1), (221, .aload_n 0, 1), (222, .invokevirtual 55, 3), (225, .iadd, 1), (226, .iload_n 2, 1), (227, .aload 4, 2), (229, .invokestatic 58, 3), (232, .goto 61, 3), (235, .aload_n 0, 1), (236, .iload_n 1, 1), (237, .aload 4, 2), (239, .invokestatic 61, 3), (242, .goto 51, 3), (245, .aload_n 0, 1), (246, .iload_n 1, 1), (247, .iload_n 2, 1), (248, .aload 4, 2), (250, .invokestatic 64, 3), (253, .goto 40, 3), (256, .aload_n 0, 1), (257, .getfield 38, 3), (260, .ifCond .ne 13, 3), (263, .aload_n 0, 1), (264, .aload_n 3, 1), (265, .aload 4, 2), (267, .invokestatic 67, 3), (270, .goto 23, 3), (273, .aload_n 0, 1), (274, .iload_n 1, 1), (275, .aload_n 3, 1), (276, .aload 4, 2), (278, .invokestatic 71, 3), (281, .goto 12, 3), (284, .goto 9, 3), (287, .aload_n 0, 1), (288, .aload 4, 2), (290, .invokestatic 44, 3), (293, .return_, 1)]
set_option maxRecDepth 100000 in
theorem dm_Exe_perform : okAt b_Exe_perform pr_Exe_perform := by decide +kernel
def pr_Ins_numberU : List (Nat × Instr × Nat) := [(0, .aload_n 0, 1), (1, .getfield 17, 3), (4, .sipush (-4096), 3), (7, .iand, 1), (8, .ireturn, 1)]
set_option maxRecDepth 100000 in
theorem dm_Ins_numberU : okAt b_Ins_numberU pr_Ins_numberU := by decide +kernel
def pr_Eff_setRegister : List (Nat × Instr × Nat) := [(0, .aload_n 0, 1), (1, .iload_n 1, 1), (2, .putfield 20, 3), (5, .aload_n 0, 1), (6, .iload_n 2, 1), (7, .putfield 38, 3), (10, .return_, 1)]
set_option maxRecDepth 100000 in
theorem dm_Eff_setRegister : okAt b_Eff_setRegister pr_Eff_setRegister := by decide +kernel
def pr_Ins_numberJ : List (Nat × Instr × Nat) := [(0, .aload_n 0, 1), (1, .getfield 17, 3), (4, .bipush 31, 2), (6, .ishr, 1), (7, .bipush 20, 2), (9, .ishl, 1), (10, .aload_n 0, 1), (11, .getfield 17, 3), (14, .ldc 38, 2), (16, .iand, 1), (17, .ior, 1), (18, .aload_n 0, 1), (19, .getfield 17, 3), (22, .bipush 20, 2), (24, .iushr, 1), (25, .iconst 1, 1), (26, .iand, 1), (27, .bipush 11, 2), (29, .ishl, 1), (30, .ior, 1), (31, .aload_n 0, 1), (32, .getfield 17, 3), (35, .bipush 21, 2), (37, .iushr, 1), (38, .sipush 1023, 3), (41, .iand, 1), (42, .iconst 1, 1), (43, .ishl, 1), (44, .ior, 1), (45, .ireturn, 1)]
set_option maxRecDepth 100000 in
theorem dm_Ins_numberJ : okAt b_Ins_numberJ pr_Ins_numberJ := by decide +kernel
def pr_Exe_jump : List (Nat × Instr × Nat) := [(0, .aload_n 2, 1), (1, .aload_n 0, 1), (2, .getfield 13, 3), (5, .aload_n 0, 1), (6, .getfield 26, 3), (9, .iconst 4, 1), (10, .iadd, 1), (11, .invokevirtual 20, 3), (14, .aload_n 2, 1), (15, .iload_n 1, 1), (16, .invokevirtual 81, 3), (19, .return_, 1)]
set_option maxRecDepth 100000 in
theorem dm_Exe_jump : okAt b_Exe_jump pr_Exe_jump := by decide +kernel
def pr_Eff_jump : List (Nat × Instr × Nat) := [(0, .iload_n 1, 1), (1, .iconst 3, 1), (2, .iand, 1), (3, .ifCond .eq 10, 3), (6, .aload_n 0, 1), (7, .iconst 0, 1), (8, .iload_n 1, 1), (9, .invokevirtual 47, 3), (12, .return_, 1), (13, .aload_n 0, 1), (14, .iconst 1, 1), (15, .putfield 29, 3), (18, .aload_n 0, 1), (19, .iload_n 1, 1), (20, .putfield 26, 3), (23, .return_, 1)]
set_option maxRecDepth 100000 in
theorem dm_Eff_jump : okAt b_Eff_jump pr_Eff_jump := by decide +kernel
def pr_Eff_trap : List (Nat × Instr × Nat) := [(0, .aload_n 0, 1), (1, .iconst 1, 1), (2, .putfield 35, 3), (5, .aload_n 0, 1), (6, .iload_n 1, 1), (7, .putfield 41, 3), (10, .aload_n 0, 1), (11, .iload_n 2, 1), (12, .putfield 44, 3), (15, .return_, 1)]
set_option maxRecDepth 100000 in
theorem dm_Eff_trap : okAt b_Eff_trap pr_Eff_trap := by decide +kernel
def pr_Ins_numberI : List (Nat × Instr × Nat) := [(0, .aload_n 0, 1), (1, .getfield 17, 3), (4, .bipush 20, 2), (6, .ishr, 1), (7, .ireturn, 1)]
set_option maxRecDepth 100000 in
theorem dm_Ins_numberI : okAt b_Ins_numberI pr_Ins_numberI := by decide +kernel
def pr_Exe_refuse : List (Nat × Instr × Nat) := [(0, .aload_n 1, 1), (1, .iconst 2, 1), (2, .aload_n 0, 1), (3, .getfield 75, 3), (6, .invokevirtual 78, 3), (9, .return_, 1)]
set_option maxRecDepth 100000 in
theorem dm_Exe_refuse : okAt b_Exe_refuse pr_Exe_refuse := by decide +kernel
def pr_Exe_branch : List (Nat × Instr × Nat) := [(0, .aload_n 0, 1), (1, .getfield 38, 3), (4, .iconst 2, 1), (5, .if_icmp .eq 11, 3), (8, .aload_n 0, 1), (9, .getfield 38, 3), (12, .iconst 3, 1), (13, .if_icmp .ne 11, 3), (16, .aload_n 0, 1), (17, .aload_n 3, 1), (18, .invokestatic 44, 3), (21, .goto 28, 3), (24, .aload_n 0, 1), (25, .getfield 38, 3), (28, .iload_n 1, 1), (29, .iload_n 2, 1), (30, .invokestatic 84, 3), (33, .ifCond .eq 16, 3), (36, .aload_n 3, 1), (37, .aload_n 0, 1), (38, .getfield 26, 3), (41, .aload_n 0, 1), (42, .invokevirtual 88, 3), (45, .iadd, 1), (46, .invokevirtual 81, 3), (49, .return_, 1)]
set_option maxRecDepth 100000 in
theorem dm_Exe_branch : okAt b_Exe_branch pr_Exe_branch := by decide +kernel
def pr_Exe_conditionHolds : List (Nat × Instr × Nat) := [(0, .iload_n 0, 1), (1, .tableswitch 93 0 6 #[43, 54, 93, 93, 65, 76, 87], 43), (44, .iload_n 1, 1), (45, .iload_n 2, 1), (46, .if_icmp .ne 7, 3), (49, .iconst 1, 1), (50, .goto 4, 3), (53, .iconst 0, 1), (54, .ireturn, 1), (55, .iload_n 1, 1), (56, .iload_n 2, 1), (57, .if_icmp .eq 7, 3), (60, .iconst 1, 1), (61, .goto 4, 3), (64, .iconst 0, 1), (65, .ireturn, 1), (66, .iload_n 1, 1), (67, .iload_n 2, 1), (68, .if_icmp .ge 7, 3), (71, .iconst 1, 1), (72, .goto 4, 3), (75, .iconst 0, 1), (76, .ireturn, 1), (77, .iload_n 1, 1), (78, .iload_n 2, 1), (79, .if_icmp .lt 7, 3), (82, .iconst 1, 1), (83, .goto 4, 3), (86, .iconst 0, 1), (87, .ireturn, 1), (88, .iload_n 1, 1), (89, .iload_n 2, 1), (90, .invokestatic 91, 3), (93, .ireturn, 1), (94, .iload_n 1, 1), (95, .iload_n 2, 1), (96, .invokestatic 91, 3), (99, .ifCond .ne 7, 3), (102, .iconst 1, 1), (103, .goto 4, 3), (106, .iconst 0, 1), (107, .ireturn, 1)]
set_option maxRecDepth 100000 in
theorem dm_Exe_conditionHolds : okAt b_Exe_conditionHolds pr_Exe_conditionHolds := by decide +kernel
def pr_Ari_lessWithoutSigns : List (Nat × Instr × Nat) := [(0, .iload_n 0, 1), (1, .i2l, 1), (2, .ldc2_w 9, 3), (5, .land, 1), (6, .iload_n 1, 1), (7, .i2l, 1), (8, .ldc2_w 9, 3), (11, .land, 1), (12, .lcmp, 1), (13, .ifCond .ge 7, 3), (16, .iconst 1, 1), (17, .goto 4, 3), (20, .iconst 0, 1), (21, .ireturn, 1)]
set_option maxRecDepth 100000 in
theorem dm_Ari_lessWithoutSigns : okAt b_Ari_lessWithoutSigns pr_Ari_lessWithoutSigns := by decide +kernel
def pr_Ins_numberB : List (Nat × Instr × Nat) := [(0, .aload_n 0, 1), (1, .getfield 17, 3), (4, .bipush 31, 2), (6, .ishr, 1), (7, .bipush 12, 2), (9, .ishl, 1), (10, .aload_n 0, 1), (11, .getfield 17, 3), (14, .bipush 7, 2), (16, .iushr, 1), (17, .iconst 1, 1), (18, .iand, 1), (19, .bipush 11, 2), (21, .ishl, 1), (22, .ior, 1), (23, .aload_n 0, 1), (24, .getfield 17, 3), (27, .bipush 25, 2), (29, .iushr, 1), (30, .bipush 63, 2), (32, .iand, 1), (33, .iconst 5, 1), (34, .ishl, 1), (35, .ior, 1), (36, .aload_n 0, 1), (37, .getfield 17, 3), (40, .bipush 8, 2), (42, .iushr, 1), (43, .bipush 15, 2), (45, .iand, 1), (46, .iconst 1, 1), (47, .ishl, 1), (48, .ior, 1), (49, .ireturn, 1)]
set_option maxRecDepth 100000 in
theorem dm_Ins_numberB : okAt b_Ins_numberB pr_Ins_numberB := by decide +kernel
def pr_Exe_read : List (Nat × Instr × Nat) := [(0, .aload_n 0, 1), (1, .getfield 38, 3), (4, .iconst 3, 1), (5, .if_icmp .eq 11, 3), (8, .aload_n 0, 1), (9, .getfield 38, 3), (12, .iconst 5, 1), (13, .if_icmp .le 11, 3), (16, .aload_n 0, 1), (17, .aload_n 2, 1), (18, .invokestatic 44, 3), (21, .goto 65, 3), (24, .iload_n 1, 1), (25, .aload_n 0, 1), (26, .getfield 38, 3), (29, .invokestatic 97, 3), (32, .ifCond .ne 12, 3), (35, .aload_n 2, 1), (36, .iconst 4, 1), (37, .iload_n 1, 1), (38, .invokevirtual 78, 3), (41, .goto 45, 3), (44, .iload_n 1, 1), (45, .invokestatic 102, 3), (48, .ifCond .ne 12, 3), (51, .aload_n 2, 1), (52, .iconst 5, 1), (53, .iload_n 1, 1), (54, .invokevirtual 78, 3), (57, .goto 29, 3), (60, .aload_n 2, 1), (61, .iconst 1, 1), (62, .putfield 106, 3), (65, .aload_n 2, 1), (66, .aload_n 0, 1), (67, .getfield 13, 3), (70, .putfield 109, 3), (73, .aload_n 2, 1), (74, .iload_n 1, 1), (75, .putfield 110, 3), (78, .aload_n 2, 1), (79, .aload_n 0, 1), (80, .getfield 38, 3), (83, .putfield 113, 3), (86, .return_, 1)]
set_option maxRecDepth 100000 in
theorem dm_Exe_read : okAt b_Exe_read pr_Exe_read := by decide +kernel
def pr_Sto_isStraight : List (Nat × Instr × Nat) := [(0, .iload_n 0, 1), (1, .iconst 1, 1), (2, .iload_n 1, 1), (3, .iconst 3, 1), (4, .iand, 1), (5, .ishl, 1), (6, .iconst 1, 1), (7, .isub, 1), (8, .iand, 1), (9, .ifCond .ne 7, 3), (12, .iconst 1, 1), (13, .goto 4, 3), (16, .iconst 0, 1), (17, .ireturn, 1)]
set_option maxRecDepth 100000 in
theorem dm_Sto_isStraight : okAt b_Sto_isStraight pr_Sto_isStraight := by decide +kernel
def pr_Ins_numberS : List (Nat × Instr × Nat) := [(0, .aload_n 0, 1), (1, .getfield 17, 3), (4, .bipush 25, 2), (6, .ishr, 1), (7, .iconst 5, 1), (8, .ishl, 1), (9, .aload_n 0, 1), (10, .getfield 23, 3), (13, .ior, 1), (14, .ireturn, 1)]
set_option maxRecDepth 100000 in
theorem dm_Ins_numberS : okAt b_Ins_numberS pr_Ins_numberS := by decide +kernel
def pr_Exe_write : List (Nat × Instr × Nat) := [(0, .aload_n 0, 1), (1, .getfield 38, 3), (4, .iconst 2, 1), (5, .if_icmp .le 11, 3), (8, .aload_n 0, 1), (9, .aload_n 3, 1), (10, .invokestatic 44, 3), (13, .goto 64, 3), (16, .iload_n 1, 1), (17, .aload_n 0, 1), (18, .getfield 38, 3), (21, .invokestatic 97, 3), (24, .ifCond .ne 13, 3), (27, .aload_n 3, 1), (28, .bipush 6, 2), (30, .iload_n 1, 1), (31, .invokevirtual 78, 3), (34, .goto 43, 3), (37, .iload_n 1, 1), (38, .invokestatic 102, 3), (41, .ifCond .ne 13, 3), (44, .aload_n 3, 1), (45, .bipush 7, 2), (47, .iload_n 1, 1), (48, .invokevirtual 78, 3), (51, .goto 26, 3), (54, .aload_n 3, 1), (55, .iconst 2, 1), (56, .putfield 106, 3), (59, .aload_n 3, 1), (60, .iload_n 1, 1), (61, .putfield 110, 3), (64, .aload_n 3, 1), (65, .aload_n 0, 1), (66, .getfield 38, 3), (69, .putfield 113, 3), (72, .aload_n 3, 1), (73, .iload_n 2, 1), (74, .putfield 116, 3), (77, .return_, 1)]
set_option maxRecDepth 100000 in
theorem dm_Exe_write : okAt b_Exe_write pr_Exe_write := by decide +kernel
def pr_Exe_computeWithNumber : List (Nat × Instr × Nat) := [(0, .aload_n 0, 1), (1, .getfield 38, 3), (4, .iconst 1, 1), (5, .if_icmp .eq 11, 3), (8, .aload_n 0, 1), (9, .getfield 38, 3), (12, .iconst 5, 1), (13, .if_icmp .ne 7, 3), (16, .iconst 1, 1), (17, .goto 4, 3), (20, .iconst 0, 1), (21, .istore_n 3, 1), (22, .iload_n 3, 1), (23, .ifCond .eq 10, 3), (26, .aload_n 0, 1), (27, .getfield 119, 3), (30, .ifCond .ne 26, 3), (33, .aload_n 2, 1), (34, .aload_n 0, 1), (35, .getfield 13, 3), (38, .aload_n 0, 1), (39, .getfield 38, 3), (42, .iload_n 1, 1), (43, .aload_n 0, 1), (44, .invokevirtual 41, 3), (47, .invokestatic 122, 3), (50, .invokevirtual 20, 3), (53, .goto 42, 3), (56, .aload_n 0, 1), (57, .getfield 38, 3), (60, .iconst 5, 1), (61, .if_icmp .ne 29, 3), (64, .aload_n 0, 1), (65, .getfield 119, 3), (68, .bipush 32, 2), (70, .if_icmp .ne 20, 3), (73, .aload_n 2, 1), (74, .aload_n 0, 1), (75, .getfield 13, 3), (78, .iload_n 1, 1), (79, .aload_n 0, 1), (80, .getfield 126, 3), (83, .ishr, 1), (84, .invokevirtual 20, 3), (87, .goto 8, 3), (90, .aload_n 0, 1), (91, .aload_n 2, 1), (92, .invokestatic 44, 3), (95, .return_, 1)]
set_option maxRecDepth 100000 in
theorem dm_Exe_computeWithNumber : okAt b_Exe_computeWithNumber pr_Exe_computeWithNumber := by decide +kernel
def pr_Ari_plain : List (Nat × Instr × Nat) := [(0, .iload_n 0, 1), (1, .tableswitch 94 0 6 #[43, 47, 54, 65, 79, 83, 90], 43), (44, .iload_n 1, 1), (45, .iload_n 2, 1), (46, .iadd, 1), (47, .ireturn, 1), (48, .iload_n 1, 1), (49, .iload_n 2, 1), (50, .bipush 31, 2), (52, .iand, 1), (53, .ishl, 1), (54, .ireturn, 1), (55, .iload_n 1, 1), (56, .iload_n 2, 1), (57, .if_icmp .ge 7, 3), (60, .iconst 1, 1), (61, .goto 4, 3), (64, .iconst 0, 1), (65, .ireturn, 1), (66, .iload_n 1, 1), (67, .iload_n 2, 1), (68, .invokestatic 11, 3), (71, .ifCond .eq 7, 3), (74, .iconst 1, 1), (75, .goto 4, 3), (78, .iconst 0, 1), (79, .ireturn, 1), (80, .iload_n 1, 1), (81, .iload_n 2, 1), (82, .ixor, 1), (83, .ireturn, 1), (84, .iload_n 1, 1), (85, .iload_n 2, 1), (86, .bipush 31, 2), (88, .iand, 1), (89, .iushr, 1), (90, .ireturn, 1), (91, .iload_n 1, 1), (92, .iload_n 2, 1), (93, .ior, 1), (94, .ireturn, 1), (95, .iload_n 1, 1), (96, .iload_n 2, 1), (97, .iand, 1), (98, .ireturn, 1)]
set_option maxRecDepth 100000 in
theorem dm_Ari_plain : okAt b_Ari_plain pr_Ari_plain := by decide +kernel
def pr_Exe_computeWithRegister : List (Nat × Instr × Nat) := [(0, .aload_n 0, 1), (1, .getfield 119, 3), (4, .ifCond .ne 23, 3), (7, .aload_n 3, 1), (8, .aload_n 0, 1), (9, .getfield 13, 3), (12, .aload_n 0, 1), (13, .getfield 38, 3), (16, .iload_n 1, 1), (17, .iload_n 2, 1), (18, .invokestatic 122, 3), (21, .invokevirtual 20, 3), (24, .goto 147, 3), (27, .aload_n 0, 1), (28, .getfield 119, 3), (31, .bipush 32, 2), (33, .if_icmp .ne 24, 3), (36, .aload_n 0, 1), (37, .getfield 38, 3), (40, .ifCond .ne 17, 3), (43, .aload_n 3, 1), (44, .aload_n 0, 1), (45, .getfield 13, 3), (48, .iload_n 1, 1), (49, .iload_n 2, 1), (50, .isub, 1), (51, .invokevirtual 20, 3), (54, .goto 117, 3), (57, .aload_n 0, 1), (58, .getfield 119, 3), (61, .bipush 32, 2), (63, .if_icmp .ne 28, 3), (66, .aload_n 0, 1), (67, .getfield 38, 3), (70, .iconst 5, 1), (71, .if_icmp .ne 20, 3), (74, .aload_n 3, 1), (75, .aload_n 0, 1), (76, .getfield 13, 3), (79, .iload_n 1, 1), (80, .iload_n 2, 1), (81, .bipush 31, 2), (83, .iand, 1), (84, .ishr, 1), (85, .invokevirtual 20, 3), (88, .goto 83, 3), (91, .aload_n 0, 1), (92, .getfield 119, 3), (95, .iconst 1, 1), (96, .if_icmp .ne 36, 3), (99, .aload_n 0, 1), (100, .getfield 38, 3), (103, .iconst 4, 1), (104, .if_icmp .ge 28, 3), (107, .aload_n 3, 1), (108, .iconst 4, 1), (109, .putfield 129, 3), (112, .aload_n 3, 1), (113, .aload_n 0, 1), (114, .getfield 13, 3), (117, .aload_n 0, 1), (118, .getfield 38, 3), (121, .iload_n 1, 1), (122, .iload_n 2, 1), (123, .invokestatic 132, 3), (126, .invokevirtual 20, 3), (129, .goto 42, 3), (132, .aload_n 0, 1), (133, .getfield 119, 3), (136, .iconst 1, 1), (137, .if_icmp .ne 29, 3), (140, .aload_n 3, 1), (141, .bipush 33, 2), (143, .putfield 129, 3), (146, .aload_n 3, 1), (147, .aload_n 0, 1), (148, .getfield 13, 3), (151, .aload_n 0, 1), (152, .getfield 38, 3), (155, .iload_n 1, 1), (156, .iload_n 2, 1), (157, .invokestatic 135, 3), (160, .invokevirtual 20, 3), (163, .goto 8, 3), (166, .aload_n 0, 1), (167, .aload_n 3, 1), (168, .invokestatic 44, 3), (171, .return_, 1)]
set_option maxRecDepth 100000 in
theorem dm_Exe_computeWithRegister : okAt b_Exe_computeWithRegister pr_Exe_computeWithRegister := by decide +kernel
def pr_Ari_product : List (Nat × Instr × Nat) := [(0, .iload_n 0, 1), (1, .tableswitch 55 0 2 #[27, 31, 41], 27), (28, .iload_n 1, 1), (29, .iload_n 2, 1), (30, .imul, 1), (31, .ireturn, 1), (32, .iload_n 1, 1), (33, .i2l, 1), (34, .iload_n 2, 1), (35, .i2l, 1), (36, .lmul, 1), (37, .bipush 32, 2), (39, .lshr, 1), (40, .l2i, 1), (41, .ireturn, 1), (42, .iload_n 1, 1), (43, .i2l, 1), (44, .iload_n 2, 1), (45, .i2l, 1), (46, .ldc2_w 9, 3), (49, .land, 1), (50, .lmul, 1), (51, .bipush 32, 2), (53, .lshr, 1), (54, .l2i, 1), (55, .ireturn, 1), (56, .iload_n 1, 1), (57, .i2l, 1), (58, .ldc2_w 9, 3), (61, .land, 1), (62, .iload_n 2, 1), (63, .i2l, 1), (64, .ldc2_w 9, 3), (67, .land, 1), (68, .lmul, 1), (69, .bipush 32, 2), (71, .lushr, 1), (72, .l2i, 1), (73, .ireturn, 1)]
set_option maxRecDepth 100000 in
theorem dm_Ari_product : okAt b_Ari_product pr_Ari_product := by decide +kernel
def pr_Ari_quotient : List (Nat × Instr × Nat) := [(0, .iload_n 2, 1), (1, .ifCond .ne 15, 3), (4, .iload_n 0, 1), (5, .bipush 6, 2), (7, .if_icmp .ge 7, 3), (10, .iconst (-1), 1), (11, .goto 4, 3), (14, .iload_n 1, 1), (15, .ireturn, 1), (16, .iload_n 0, 1), (17, .tableswitch 56 4 6 #[27, 34, 49], 27), (44, .iload_n 1, 1), (45, .i2l, 1), (46, .iload_n 2, 1), (47, .i2l, 1), (48, .ldiv, 1), (49, .l2i, 1), (50, .ireturn, 1), (51, .iload_n 1, 1), (52, .i2l, 1), (53, .ldc2_w 9, 3), (56, .land, 1), (57, .iload_n 2, 1), (58, .i2l, 1), (59, .ldc2_w 9, 3), (62, .land, 1), (63, .ldiv, 1), (64, .l2i, 1), (65, .ireturn, 1), (66, .iload_n 1, 1), (67, .i2l, 1), (68, .iload_n 2, 1), (69, .i2l, 1), (70, .lrem, 1), (71, .l2i, 1), (72, .ireturn, 1), (73, .iload_n 1, 1), (74, .i2l, 1), (75, .ldc2_w 9, 3), (78, .land, 1), (79, .iload_n 2, 1), (80, .i2l, 1), (81, .ldc2_w 9, 3), (84, .land, 1), (85, .lrem, 1), (86, .l2i, 1), (87, .ireturn, 1)]
set_option maxRecDepth 100000 in
theorem dm_Ari_quotient : okAt b_Ari_quotient pr_Ari_quotient := by decide +kernel
def pr_Exe_doWholeWord : List (Nat × Instr × Nat) := [(0, .aload_n 0, 1), (1, .getfield 75, 3), (4, .lookupswitch 82 #[(115, 44), (1048691, 54), (273678451, 79), (807403635, 63)], 44), (48, .aload_n 2, 1), (49, .bipush 11, 2), (51, .iconst 0, 1), (52, .invokevirtual 78, 3), (55, .goto 36, 3), (58, .aload_n 2, 1), (59, .iconst 3, 1), (60, .iconst 0, 1), (61, .invokevirtual 78, 3), (64, .goto 27, 3), (67, .aload_n 2, 1), (68, .iconst 1, 1), (69, .putfield 138, 3), (72, .aload_n 2, 1), (73, .aload_n 1, 1), (74, .invokevirtual 142, 3), (77, .putfield 147, 3), (80, .goto 11, 3), (83, .goto 8, 3), (86, .aload_n 0, 1), (87, .aload_n 2, 1), (88, .invokestatic 44, 3), (91, .return_, 1)]
set_option maxRecDepth 100000 in
theorem dm_Exe_doWholeWord : okAt b_Exe_doWholeWord pr_Exe_doWholeWord := by decide +kernel
def pr_Con_leaveTrap : List (Nat × Instr × Nat) := [(0, .aload_n 0, 1), (1, .aload_n 0, 1), (2, .getfield 7, 3), (5, .sipush 128, 3), (8, .iand, 1), (9, .ifCond .eq 9, 3), (12, .sipush 136, 3), (15, .goto 6, 3), (18, .sipush 128, 3), (21, .putfield 7, 3), (24, .aload_n 0, 1), (25, .getfield 22, 3), (28, .ireturn, 1)]
set_option maxRecDepth 100000 in
theorem dm_Con_leaveTrap : okAt b_Con_leaveTrap pr_Con_leaveTrap := by decide +kernel
def pr_Exe_useControl : List (Nat × Instr × Nat) := [(0, .aload_n 0, 1), (1, .getfield 75, 3), (4, .bipush 20, 2), (6, .iushr, 1), (7, .istore 4, 2), (9, .aload_n 0, 1), (10, .getfield 38, 3), (13, .iconst 4, 1), (14, .if_icmp .eq 11, 3), (17, .iload 4, 2), (19, .invokestatic 150, 3), (22, .ifCond .ne 9, 3), (25, .aload_n 0, 1), (26, .aload_n 3, 1), (27, .invokestatic 44, 3), (30, .return_, 1), (31, .aload_n 2, 1), (32, .iload 4, 2), (34, .invokevirtual 151, 3), (37, .istore 5, 2), (39, .aload_n 0, 1), (40, .getfield 38, 3), (43, .iconst 4, 1), (44, .if_icmp .ge 7, 3), (47, .iload_n 1, 1), (48, .goto 7, 3), (51, .aload_n 0, 1), (52, .getfield 154, 3), (55, .istore 6, 2), (57, .aload_n 3, 1), (58, .aload_n 0, 1), (59, .getfield 13, 3), (62, .iload 5, 2), (64, .invokevirtual 20, 3), (67, .aload_n 0, 1), (68, .getfield 38, 3), (71, .iconst 3, 1), (72, .iand, 1), (73, .lookupswitch 52 #[(1, 27), (2, 38)], 27), (100, .aload_n 2, 1), (101, .iload 4, 2), (103, .iload 6, 2), (105, .invokevirtual 157, 3), (108, .goto 30, 3), (111, .aload_n 2, 1), (112, .iload 4, 2), (114, .iload 5, 2), (116, .iload 6, 2), (118, .ior, 1), (119, .invokevirtual 157, 3), (122, .goto 16, 3), (125, .aload_n 2, 1), (126, .iload 4, 2), (128, .iload 5, 2), (130, .iload 6, 2), (132, .iconst (-1), 1), (133, .ixor, 1), (134, .iand, 1), (135, .invokevirtual 157, 3), (138, .return_, 1)]
set_option maxRecDepth 100000 in
theorem dm_Exe_useControl : okAt b_Exe_useControl pr_Exe_useControl := by decide +kernel
def pr_Con_has : List (Nat × Instr × Nat) := [(0, .iload_n 0, 1), (1, .lookupswitch 77 #[(768, 75), (772, 75), (773, 75), (832, 75), (833, 75), (834, 75), (835, 75), (836, 75)], 75), (76, .iconst 1, 1), (77, .ireturn, 1), (78, .iconst 0, 1), (79, .ireturn, 1)]
set_option maxRecDepth 100000 in
theorem dm_Con_has : okAt b_Con_has pr_Con_has := by decide +kernel
def pr_Con_read : List (Nat × Instr × Nat) := [(0, .iload_n 1, 1), (1, .lookupswitch 115 #[(768, 75), (772, 80), (773, 85), (832, 90), (833, 95), (834, 100), (835, 105), (836, 110)], 75), (76, .aload_n 0, 1), (77, .getfield 7, 3), (80, .ireturn, 1), (81, .aload_n 0, 1), (82, .getfield 13, 3), (85, .ireturn, 1), (86, .aload_n 0, 1), (87, .getfield 16, 3), (90, .ireturn, 1), (91, .aload_n 0, 1), (92, .getfield 19, 3), (95, .ireturn, 1), (96, .aload_n 0, 1), (97, .getfield 22, 3), (100, .ireturn, 1), (101, .aload_n 0, 1), (102, .getfield 25, 3), (105, .ireturn, 1), (106, .aload_n 0, 1), (107, .getfield 28, 3), (110, .ireturn, 1), (111, .aload_n 0, 1), (112, .getfield 31, 3), (115, .ireturn, 1), (116, .iconst 0, 1), (117, .ireturn, 1)]
set_option maxRecDepth 100000 in
theorem dm_Con_read : okAt b_Con_read pr_Con_read := by decide +kernel
def pr_Con_write : List (Nat × Instr × Nat) := [(0, .iload_n 1, 1), (1, .lookupswitch 134 #[(768, 67), (772, 79), (773, 91), (832, 99), (833, 107), (834, 118), (835, 126)], 67), (68, .aload_n 0, 1), (69, .iload_n 2, 1), (70, .sipush 136, 3), (73, .iand, 1), (74, .putfield 7, 3), (77, .goto 58, 3), (80, .aload_n 0, 1), (81, .iload_n 2, 1), (82, .sipush 2184, 3), (85, .iand, 1), (86, .putfield 13, 3), (89, .goto 46, 3), (92, .aload_n 0, 1), (93, .iload_n 2, 1), (94, .putfield 16, 3), (97, .goto 38, 3), (100, .aload_n 0, 1), (101, .iload_n 2, 1), (102, .putfield 19, 3), (105, .goto 30, 3), (108, .aload_n 0, 1), (109, .iload_n 2, 1), (110, .bipush (-4), 2), (112, .iand, 1), (113, .putfield 22, 3), (116, .goto 19, 3), (119, .aload_n 0, 1), (120, .iload_n 2, 1), (121, .putfield 25, 3), (124, .goto 11, 3), (127, .aload_n 0, 1), (128, .iload_n 2, 1), (129, .putfield 28, 3), (132, .goto 3, 3), (135, .return_, 1)]
set_option maxRecDepth 100000 in
theorem dm_Con_write : okAt b_Con_write pr_Con_write := by decide +kernel
def pr_K_setTimes : List (Nat × Instr × Nat) := [(0, .iconst 0, 1), (1, .istore_n 2, 1), (2, .aload_n 1, 1), (3, .getfield 152, 3), (6, .ifCond .eq 28, 3), (9, .aload_n 0, 1), (10, .getfield 66, 3), (13, .aload_n 1, 1), (14, .getfield 155, 3), (17, .aload_n 1, 1), (18, .getfield 152, 3), (21, .iconst 2, 1), (22, .if_icmp .ne 7, 3), (25, .iconst 1, 1), (26, .goto 4, 3), (29, .iconst 0, 1), (30, .invokevirtual 231, 3), (33, .istore_n 2, 1), (34, .aload_n 1, 1), (35, .iload_n 2, 1), (36, .ifCond .le 7, 3), (39, .iconst 1, 1), (40, .goto 4, 3), (43, .iconst 0, 1), (44, .putfield 175, 3), (47, .aload_n 1, 1), (48, .aload_n 0, 1), (49, .getfield 70, 3), (52, .aload_n 1, 1), (53, .getfield 235, 3), (56, .iadd, 1), (57, .aload_n 0, 1), (58, .getfield 238, 3), (61, .invokestatic 241, 3), (64, .putfield 140, 3), (67, .aload_n 1, 1), (68, .aload_n 1, 1), (69, .getfield 140, 3), (72, .iconst 1, 1), (73, .iadd, 1), (74, .iload_n 2, 1), (75, .iadd, 1), (76, .putfield 133, 3), (79, .aload_n 1, 1), (80, .iconst 1, 1), (81, .putfield 111, 3), (84, .aload_n 0, 1), (85, .aload_n 1, 1), (86, .getfield 133, 3), (89, .putfield 238, 3), (92, .aload_n 0, 1), (93, .aload_n 1, 1), (94, .getfield 152, 3), (97, .iconst 1, 1), (98, .if_icmp .ne 10, 3), (101, .aload_n 1, 1), (102, .getfield 172, 3), (105, .goto 4, 3), (108, .iconst 0, 1), (109, .putfield 246, 3), (112, .return_, 1)]
set_option maxRecDepth 100000 in
theorem dm_K_setTimes : okAt b_K_setTimes pr_K_setTimes := by decide +kernel
def pr_Cac_visit : List (Nat × Instr × Nat) := [(0, .iload_n 1, 1), (1, .sipush 1024, 3), (4, .isub, 1), (5, .bipush 16, 2), (7, .idiv, 1), (8, .istore_n 3, 1), (9, .iload_n 3, 1), (10, .iconst 3, 1), (11, .iand, 1), (12, .istore 4, 2), (14, .iconst 0, 1), (15, .istore 5, 2), (17, .aload_n 0, 1), (18, .getfield 9, 3), (21, .iload 4, 2), (23, .iaload, 1), (24, .iload_n 3, 1), (25, .if_icmp .eq 44, 3), (28, .aload_n 0, 1), (29, .getfield 13, 3), (32, .iload 4, 2), (34, .baload, 1), (35, .ifCond .eq 12, 3), (38, .iconst 2, 1), (39, .aload_n 0, 1), (40, .getfield 26, 3), (43, .imul, 1), (44, .goto 7, 3), (47, .aload_n 0, 1), (48, .getfield 26, 3), (51, .istore 5, 2), (53, .aload_n 0, 1), (54, .getfield 9, 3), (57, .iload 4, 2), (59, .iload_n 3, 1), (60, .iastore, 1), (61, .aload_n 0, 1), (62, .getfield 13, 3), (65, .iload 4, 2), (67, .iconst 0, 1), (68, .bastore, 1), (69, .iload_n 2, 1), (70, .ifCond .eq 11, 3), (73, .aload_n 0, 1), (74, .getfield 13, 3), (77, .iload 4, 2), (79, .iconst 1, 1), (80, .bastore, 1), (81, .iload 5, 2), (83, .ireturn, 1)]
set_option maxRecDepth 100000 in
theorem dm_Cac_visit : okAt b_Cac_visit pr_Cac_visit := by decide +kernel
def pr_K_goOn : List (Nat × Instr × Nat) := [(0, .aload_n 1, 1), (1, .getfield 249, 3), (4, .aload_n 0, 1), (5, .getfield 47, 3), (8, .getfield 252, 3), (11, .if_icmp .ne 7, 3), (14, .iconst 1, 1), (15, .goto 4, 3), (18, .iconst 0, 1), (19, .istore_n 2, 1), (20, .aload_n 0, 1), (21, .getfield 47, 3), (24, .invokevirtual 255, 3), (27, .ifCond .eq 43, 3), (30, .aload_n 0, 1), (31, .getfield 33, 3), (34, .aload_n 0, 1), (35, .getfield 47, 3), (38, .getfield 180, 3), (41, .aload_n 1, 1), (42, .getfield 259, 3), (45, .aload_n 1, 1), (46, .getfield 249, 3), (49, .aload_n 0, 1), (50, .getfield 70, 3), (53, .invokevirtual 262, 3), (56, .iload_n 2, 1), (57, .ifCond .ne 13, 3), (60, .aload_n 0, 1), (61, .dup, 1), (62, .getfield 130, 3), (65, .iconst 1, 1), (66, .iadd, 1), (67, .putfield 130, 3), (70, .iload_n 2, 1), (71, .ifCond .eq 20, 3), (74, .aload_n 1, 1), (75, .getfield 266, 3), (78, .ifCond .ne 13, 3), (81, .aload_n 0, 1), (82, .getfield 47, 3), (85, .getfield 269, 3), (88, .goto 9, 3), (91, .aload_n 0, 1), (92, .getfield 70, 3), (95, .iconst 1, 1), (96, .iadd, 1), (97, .istore_n 3, 1), (98, .aload_n 0, 1), (99, .aload_n 1, 1), (100, .getfield 249, 3), (103, .iload_n 3, 1), (104, .aload_n 1, 1), (105, .getfield 140, 3), (108, .invokevirtual 85, 3), (111, .return_, 1)]
set_option maxRecDepth 100000 in
theorem dm_K_goOn : okAt b_K_goOn pr_K_goOn := by decide +kernel
def pr_Ins_mayJump : List (Nat × Instr × Nat) := [(0, .aload_n 0, 1), (1, .getfield 20, 3), (4, .bipush 111, 2), (6, .if_icmp .eq 21, 3), (9, .aload_n 0, 1), (10, .getfield 20, 3), (13, .bipush 103, 2), (15, .if_icmp .eq 12, 3), (18, .aload_n 0, 1), (19, .getfield 20, 3), (22, .bipush 99, 2), (24, .if_icmp .ne 7, 3), (27, .iconst 1, 1), (28, .goto 4, 3), (31, .iconst 0, 1), (32, .ireturn, 1)]
set_option maxRecDepth 100000 in
theorem dm_Ins_mayJump : okAt b_Ins_mayJump pr_Ins_mayJump := by decide +kernel
def pr_For_learn : List (Nat × Instr × Nat) := [(0, .iload_n 1, 1), (1, .invokestatic 28, 3), (4, .istore 5, 2), (6, .aload_n 0, 1), (7, .getfield 9, 3), (10, .iload 5, 2), (12, .iaload, 1), (13, .iload_n 1, 1), (14, .if_icmp .ne 7, 3), (17, .iconst 1, 1), (18, .goto 4, 3), (21, .iconst 0, 1), (22, .istore 6, 2), (24, .iload 6, 2), (26, .ifCond .ne 8, 3), (29, .iload_n 2, 1), (30, .ifCond .ne 4, 3), (33, .return_, 1), (34, .aload_n 0, 1), (35, .iload 4, 2), (37, .invokevirtual 32, 3), (40, .iload_n 2, 1), (41, .ifCond .ne 24, 3), (44, .aload_n 0, 1), (45, .getfield 16, 3), (48, .iload 5, 2), (50, .iconst 0, 1), (51, .aload_n 0, 1), (52, .getfield 16, 3), (55, .iload 5, 2), (57, .iaload, 1), (58, .iconst 1, 1), (59, .isub, 1), (60, .invokestatic 36, 3), (63, .iastore, 1), (64, .return_, 1), (65, .aload_n 0, 1), (66, .getfield 16, 3), (69, .iload 5, 2), (71, .iload 6, 2), (73, .ifCond .eq 19, 3), (76, .iconst 3, 1), (77, .aload_n 0, 1), (78, .getfield 16, 3), (81, .iload 5, 2), (83, .iaload, 1), (84, .iconst 1, 1), (85, .iadd, 1), (86, .invokestatic 42, 3), (89, .goto 4, 3), (92, .iconst 2, 1), (93, .iastore, 1), (94, .aload_n 0, 1), (95, .getfield 9, 3), (98, .iload 5, 2), (100, .iload_n 1, 1), (101, .iastore, 1), (102, .aload_n 0, 1), (103, .getfield 13, 3), (106, .iload 5, 2), (108, .iload_n 3, 1), (109, .iastore, 1), (110, .return_, 1)]
set_option maxRecDepth 100000 in
theorem dm_For_learn : okAt b_For_learn pr_For_learn := by decide +kernel
def pr_For_keepEarlier : List (Nat × Instr × Nat) := [(0, .bipush 11, 2), (2, .istore_n 2, 1), (3, .iload_n 2, 1), (4, .iconst 4, 1), (5, .if_icmp .lt 51, 3), (8, .aload_n 0, 1), (9, .getfield 9, 3), (12, .iload_n 2, 1), (13, .aload_n 0, 1), (14, .getfield 9, 3), (17, .iload_n 2, 1), (18, .iconst 4, 1), (19, .isub, 1), (20, .iaload, 1), (21, .iastore, 1), (22, .aload_n 0, 1), (23, .getfield 13, 3), (26, .iload_n 2, 1), (27, .aload_n 0, 1), (28, .getfield 13, 3), (31, .iload_n 2, 1), (32, .iconst 4, 1), (33, .isub, 1), (34, .iaload, 1), (35, .iastore, 1), (36, .aload_n 0, 1), (37, .getfield 16, 3), (40, .iload_n 2, 1), (41, .aload_n 0, 1), (42, .getfield 16, 3), (45, .iload_n 2, 1), (46, .iconst 4, 1), (47, .isub, 1), (48, .iaload, 1), (49, .iastore, 1), (50, .iinc 2 (-1), 3), (53, .goto (-50), 3), (56, .aload_n 0, 1), (57, .getfield 19, 3), (60, .iconst 1, 1), (61, .aload_n 0, 1), (62, .getfield 19, 3), (65, .iconst 0, 1), (66, .iaload, 1), (67, .iastore, 1), (68, .aload_n 0, 1), (69, .getfield 19, 3), (72, .iconst 0, 1), (73, .iload_n 1, 1), (74, .iastore, 1), (75, .return_, 1)]
set_option maxRecDepth 100000 in
theorem dm_For_keepEarlier : okAt b_For_keepEarlier pr_For_keepEarlier := by decide +kernel
def pr_K_reg : List (Nat × Instr × Nat) := [(0, .iload_n 1, 1), (1, .ifCond .lt 9, 3), (4, .iload_n 1, 1), (5, .bipush 32, 2), (7, .if_icmp .lt 7, 3), (10, .iconst 0, 1), (11, .goto 9, 3), (14, .aload_n 0, 1), (15, .getfield 13, 3), (18, .iload_n 1, 1), (19, .iaload, 1), (20, .ireturn, 1)]
set_option maxRecDepth 100000 in
theorem dm_K_reg : okAt b_K_reg pr_K_reg := by decide +kernel
def pr_K_control : List (Nat × Instr × Nat) := [(0, .aload_n 0, 1), (1, .getfield 19, 3), (4, .iload_n 1, 1), (5, .invokevirtual 95, 3), (8, .ireturn, 1)]
set_option maxRecDepth 100000 in
theorem dm_K_control : okAt b_K_control pr_K_control := by decide +kernel
def pr_K_word : List (Nat × Instr × Nat) := [(0, .iload_n 1, 1), (1, .invokestatic 74, 3), (4, .ifCond .eq 14, 3), (7, .aload_n 0, 1), (8, .getfield 26, 3), (11, .iload_n 1, 1), (12, .invokevirtual 99, 3), (15, .goto 4, 3), (18, .iconst 0, 1), (19, .ireturn, 1)]
set_option maxRecDepth 100000 in
theorem dm_K_word : okAt b_K_word pr_K_word := by decide +kernel
def pr_K_ended : List (Nat × Instr × Nat) := [(0, .aload_n 0, 1), (1, .getfield 40, 3), (4, .iload_n 1, 1), (5, .invokevirtual 102, 3), (8, .ifCond .ne 5, 3), (11, .iconst (-1), 1), (12, .ireturn, 1), (13, .iload_n 2, 1), (14, .lookupswitch 44 #[(0, 26), (1, 35)], 26), (40, .aload_n 0, 1), (41, .getfield 40, 3), (44, .iload_n 1, 1), (45, .invokevirtual 105, 3), (48, .ireturn, 1), (49, .aload_n 0, 1), (50, .getfield 40, 3), (53, .iload_n 1, 1), (54, .invokevirtual 108, 3), (57, .ireturn, 1), (58, .iconst (-1), 1), (59, .ireturn, 1)]
set_option maxRecDepth 100000 in
theorem dm_K_ended : okAt b_K_ended pr_K_ended := by decide +kernel
def pr_His_has : List (Nat × Instr × Nat) := [(0, .iload_n 1, 1), (1, .ifCond .lt 21, 3), (4, .iload_n 1, 1), (5, .bipush 16, 2), (7, .if_icmp .ge 15, 3), (10, .iload_n 1, 1), (11, .aload_n 0, 1), (12, .getfield 16, 3), (15, .if_icmp .ge 7, 3), (18, .iconst 1, 1), (19, .goto 4, 3), (22, .iconst 0, 1), (23, .ireturn, 1)]
set_option maxRecDepth 100000 in
theorem dm_His_has : okAt b_His_has pr_His_has := by decide +kernel
def pr_His_address : List (Nat × Instr × Nat) := [(0, .aload_n 0, 1), (1, .getfield 9, 3), (4, .aload_n 0, 1), (5, .iload_n 1, 1), (6, .invokevirtual 20, 3), (9, .iaload, 1), (10, .ireturn, 1)]
set_option maxRecDepth 100000 in
theorem dm_His_address : okAt b_His_address pr_His_address := by decide +kernel
def pr_His_placeOf : List (Nat × Instr × Nat) := [(0, .aload_n 0, 1), (1, .getfield 16, 3), (4, .iconst 1, 1), (5, .isub, 1), (6, .iload_n 1, 1), (7, .isub, 1), (8, .bipush 15, 2), (10, .iand, 1), (11, .ireturn, 1)]
set_option maxRecDepth 100000 in
theorem dm_His_placeOf : okAt b_His_placeOf pr_His_placeOf := by decide +kernel
def pr_His_time : List (Nat × Instr × Nat) := [(0, .aload_n 0, 1), (1, .getfield 13, 3), (4, .aload_n 0, 1), (5, .iload_n 1, 1), (6, .invokevirtual 20, 3), (9, .iaload, 1), (10, .ireturn, 1)]
set_option maxRecDepth 100000 in
theorem dm_His_time : okAt b_His_time pr_His_time := by decide +kernel
def pr_K_stage : List (Nat × Instr × Nat) := [(0, .iload_n 1, 1), (1, .tableswitch 110 2 4 #[27, 49, 71], 27), (28, .aload_n 0, 1), (29, .getfield 54, 3), (32, .getfield 111, 3), (35, .ifCond .eq 13, 3), (38, .aload_n 0, 1), (39, .getfield 54, 3), (42, .getfield 115, 3), (45, .goto 4, 3), (48, .iconst (-1), 1), (49, .ireturn, 1), (50, .aload_n 0, 1), (51, .getfield 58, 3), (54, .getfield 111, 3), (57, .ifCond .eq 13, 3), (60, .aload_n 0, 1), (61, .getfield 58, 3), (64, .getfield 115, 3), (67, .goto 4, 3), (70, .iconst (-1), 1), (71, .ireturn, 1), (72, .aload_n 0, 1), (73, .getfield 40, 3), (76, .iconst 0, 1), (77, .invokevirtual 102, 3), (80, .ifCond .eq 29, 3), (83, .aload_n 0, 1), (84, .getfield 40, 3), (87, .iconst 0, 1), (88, .invokevirtual 108, 3), (91, .aload_n 0, 1), (92, .getfield 70, 3), (95, .if_icmp .ne 14, 3), (98, .aload_n 0, 1), (99, .getfield 40, 3), (102, .iconst 0, 1), (103, .invokevirtual 105, 3), (106, .goto 4, 3), (109, .iconst (-1), 1), (110, .ireturn, 1), (111, .iconst (-1), 1), (112, .ireturn, 1)]
set_option maxRecDepth 100000 in
theorem dm_K_stage : okAt b_K_stage pr_K_stage := by decide +kernel
def pr_K_foretold : List (Nat × Instr × Nat) := [(0, .aload_n 0, 1), (1, .getfield 33, 3), (4, .iload_n 1, 1), (5, .aload_n 0, 1), (6, .getfield 70, 3), (9, .iconst 1, 1), (10, .iadd, 1), (11, .invokevirtual 117, 3), (14, .ireturn, 1)]
set_option maxRecDepth 100000 in
theorem dm_K_foretold : okAt b_K_foretold pr_K_foretold := by decide +kernel
def pr_K_figure : List (Nat × Instr × Nat) := [(0, .iload_n 1, 1), (1, .tableswitch 72 0 5 #[39, 44, 52, 57, 62, 67], 39), (40, .aload_n 0, 1), (41, .getfield 70, 3), (44, .ireturn, 1), (45, .aload_n 0, 1), (46, .getfield 40, 3), (49, .getfield 89, 3), (52, .ireturn, 1), (53, .aload_n 0, 1), (54, .getfield 121, 3), (57, .ireturn, 1), (58, .aload_n 0, 1), (59, .getfield 124, 3), (62, .ireturn, 1), (63, .aload_n 0, 1), (64, .getfield 127, 3), (67, .ireturn, 1), (68, .aload_n 0, 1), (69, .getfield 130, 3), (72, .ireturn, 1), (73, .iconst (-1), 1), (74, .ireturn, 1)]
set_option maxRecDepth 100000 in
theorem dm_K_figure : okAt b_K_figure pr_K_figure := by decide +kernel
def pr_Law_cell : List (Nat × Instr × Nat) := [(0, .iload_n 1, 1), (1, .aload_n 0, 1), (2, .arraylength, 1), (3, .if_icmp .ge 9, 3), (6, .aload_n 0, 1), (7, .iload_n 1, 1), (8, .iaload, 1), (9, .goto 4, 3), (12, .iconst 0, 1), (13, .ireturn, 1)]
set_option maxRecDepth 100000 in
theorem dm_Law_cell : okAt b_Law_cell pr_Law_cell := by decide +kernel
def pr_M_init : List (Nat × Instr × Nat) := [(0, .aload_n 0, 1), (1, .invokespecial 1, 3), (4, .aload_n 0, 1), (5, .sipush 128, 3), (8, .newarray .int, 2), (10, .putfield 7, 3), (13, .aload_n 0, 1), (14, .bipush 32, 2), (16, .newarray .int, 2), (18, .putfield 13, 3), (21, .aload_n 0, 1), (22, .bipush 64, 2), (24, .newarray .int, 2), (26, .putfield 16, 3), (29, .aload_n 0, 1), (30, .bipush 8, 2), (32, .newarray .int, 2), (34, .putfield 19, 3), (37, .aload_n 0, 1), (38, .bipush 32, 2), (40, .newarray .int, 2), (42, .putfield 22, 3), (45, .aload_n 0, 1), (46, .bipush 64, 2), (48, .newarray .int, 2), (50, .putfield 25, 3), (53, .aload_n 0, 1), (54, .iconst 1, 1), (55, .putfield 28, 3), (58, .aload_n 0, 1), (59, .sipush 160, 3), (62, .newarray .int, 2), (64, .putfield 32, 3), (67, .aload_n 0, 1), (68, .sipush 160, 3), (71, .newarray .int, 2), (73, .putfield 35, 3), (76, .aload_n 0, 1), (77, .sipush 160, 3), (80, .newarray .int, 2), (82, .putfield 38, 3), (85, .aload_n 0, 1), (86, .sipush 160, 3), (89, .newarray .int, 2), (91, .putfield 41, 3), (94, .aload_n 0, 1), (95, .sipush 160, 3), (98, .newarray .int, 2), (100, .putfield 44, 3), (103, .aload_n 0, 1), (104, .sipush 160, 3), (107, .newarray .int, 2), (109, .putfield 47, 3), (112, .aload_n 0, 1), (113, .sipush 160, 3), (116, .newarray .int, 2), (118, .putfield 50, 3), (121, .aload_n 0, 1), (122, .sipush 160, 3), (125, .newarray .int, 2), (127, .putfield 53, 3), (130, .aload_n 0, 1), (131, .sipush 160, 3), (134, .newarray .boolean, 2), (136, .putfield 56, 3), (139, .aload_n 0, 1), (140, .iconst 4, 1), (141, .newarray .int, 2), (143, .putfield 60, 3), (146, .aload_n 0, 1), (147, .iconst 4, 1), (148, .newarray .boolean, 2), (150, .putfield 63, 3), (153, .aload_n 0, 1), (154, .bipush 8, 2), (156, .newarray .int, 2), (158, .putfield 66, 3), (161, .aload_n 0, 1), (162, .bipush 8, 2), (164, .newarray .int, 2), (166, .putfield 69, 3), (169, .aload_n 0, 1), (170, .bipush 8, 2), (172, .newarray .int, 2), (174, .putfield 72, 3), (177, .aload_n 0, 1), (178, .sipush 160, 3), (181, .newarray .int, 2), (183, .putfield 75, 3), (186, .aload_n 0, 1), (187, .sipush 160, 3), (190, .newarray .int, 2), (192, .putfield 78, 3), (195, .aload_n 0, 1), (196, .sipush 160, 3), (199, .newarray .boolean, 2), (201, .putfield 81, 3), (204, .aload_n 0, 1), (205, .sipush 160, 3), (208, .newarray .int, 2), (210, .putfield 84, 3), (213, .aload_n 0, 1), (214, .bipush 16, 2), (216, .newarray .int, 2), (218, .putfield 87, 3), (221, .aload_n 0, 1), (222, .bipush 16, 2), (224, .newarray .int, 2), (226, .putfield 90, 3), (229, .aload_n 0, 1), (230, .iload_n 1, 1), (231, .iconst 1, 1), (232, .if_icmp .ge 7, 3), (235, .iconst 1, 1), (236, .goto 15, 3), (239, .iload_n 1, 1), (240, .bipush 8, 2), (242, .if_icmp .le 8, 3), (245, .bipush 8, 2), (247, .goto 4, 3), (250, .iload_n 1, 1), (251, .putfield 93, 3), (254, .iconst 0, 1), (255, .istore_n 2, 1), (256, .iload_n 2, 1), (257, .bipush 8, 2), (259, .if_icmp .ge 25, 3), (262, .aload_n 0, 1), (263, .getfield 66, 3), (266, .iload_n 2, 1), (267, .iconst (-1), 1), (268, .iastore, 1), (269, .aload_n 0, 1), (270, .getfield 60, 3), (273, .iload_n 2, 1), (274, .iconst 2, 1), (275, .idiv, 1), (276, .iconst (-1), 1), (277, .iastore, 1), (278, .iinc 2 1, 3), (281, .goto (-25), 3), (284, .return_, 1)]
set_option maxRecDepth 100000 in
theorem dm_M_init : okAt b_M_init pr_M_init := by decide +kernel
def pr_M_code : List (Nat × Instr × Nat) := [(0, .iload_n 1, 1), (1, .ifCond .lt 16, 3), (4, .iload_n 1, 1), (5, .bipush 127, 2), (7, .if_icmp .gt 10, 3), (10, .aload_n 0, 1), (11, .getfield 96, 3), (14, .ifCond .le 5, 3), (17, .iconst 0, 1), (18, .ireturn, 1), (19, .aload_n 0, 1), (20, .getfield 7, 3), (23, .iload_n 1, 1), (24, .iload_n 2, 1), (25, .iastore, 1), (26, .iconst 1, 1), (27, .ireturn, 1)]
set_option maxRecDepth 100000 in
theorem dm_M_code : okAt b_M_code pr_M_code := by decide +kernel
def pr_M_data : List (Nat × Instr × Nat) := [(0, .iload_n 1, 1), (1, .invokestatic 99, 3), (4, .ifCond .eq 16, 3), (7, .iload_n 1, 1), (8, .iconst 4, 1), (9, .irem, 1), (10, .ifCond .ne 10, 3), (13, .aload_n 0, 1), (14, .getfield 96, 3), (17, .ifCond .le 5, 3), (20, .iconst 0, 1), (21, .ireturn, 1), (22, .aload_n 0, 1), (23, .getfield 16, 3), (26, .iload_n 1, 1), (27, .sipush 1024, 3), (30, .isub, 1), (31, .iconst 4, 1), (32, .idiv, 1), (33, .iload_n 2, 1), (34, .iastore, 1), (35, .aload_n 0, 1), (36, .getfield 25, 3), (39, .iload_n 1, 1), (40, .sipush 1024, 3), (43, .isub, 1), (44, .iconst 4, 1), (45, .idiv, 1), (46, .iload_n 2, 1), (47, .iastore, 1), (48, .iconst 1, 1), (49, .ireturn, 1)]
set_option maxRecDepth 100000 in
theorem dm_M_data : okAt b_M_data pr_M_data := by decide +kernel
def pr_M_isData : List (Nat × Instr × Nat) := [(0, .iload_n 0, 1), (1, .sipush 1024, 3), (4, .if_icmp .lt 14, 3), (7, .iload_n 0, 1), (8, .sipush 1280, 3), (11, .if_icmp .ge 7, 3), (14, .iconst 1, 1), (15, .goto 4, 3), (18, .iconst 0, 1), (19, .ireturn, 1)]
set_option maxRecDepth 100000 in
theorem dm_M_isData : okAt b_M_isData pr_M_isData := by decide +kernel
def pr_M_lines : List (Nat × Instr × Nat) := [(0, .iload_n 1, 1), (1, .sipush (-2185), 3), (4, .iand, 1), (5, .ifCond .eq 5, 3), (8, .iconst 0, 1), (9, .ireturn, 1), (10, .aload_n 0, 1), (11, .getfield 19, 3), (14, .bipush 7, 2), (16, .iload_n 1, 1), (17, .iastore, 1), (18, .iconst 1, 1), (19, .ireturn, 1)]
set_option maxRecDepth 100000 in
theorem dm_M_lines : okAt b_M_lines pr_M_lines := by decide +kernel
def pr_M_run : List (Nat × Instr × Nat) := [(0, .iload_n 1, 1), (1, .iconst 1, 1), (2, .if_icmp .lt 9, 3), (5, .iload_n 1, 1), (6, .bipush 100, 2), (8, .if_icmp .le 5, 3), (11, .iconst (-1), 1), (12, .ireturn, 1), (13, .aload_n 0, 1), (14, .dup, 1), (15, .getfield 96, 3), (18, .iload_n 1, 1), (19, .iadd, 1), (20, .putfield 96, 3), (23, .aload_n 0, 1), (24, .invokevirtual 308, 3), (27, .istore_n 2, 1), (28, .iload_n 2, 1), (29, .aload_n 0, 1), (30, .getfield 96, 3), (33, .if_icmp .gt 16, 3), (36, .aload_n 0, 1), (37, .iload_n 2, 1), (38, .invokevirtual 311, 3), (41, .aload_n 0, 1), (42, .invokevirtual 308, 3), (45, .istore_n 2, 1), (46, .goto (-18), 3), (49, .iconst 0, 1), (50, .istore_n 3, 1), (51, .iload_n 3, 1), (52, .aload_n 0, 1), (53, .getfield 296, 3), (56, .if_icmp .ge 27, 3), (59, .aload_n 0, 1), (60, .getfield 41, 3), (63, .iload_n 3, 1), (64, .iaload, 1), (65, .aload_n 0, 1), (66, .getfield 96, 3), (69, .if_icmp .gt 14, 3), (72, .aload_n 0, 1), (73, .iload_n 3, 1), (74, .invokevirtual 314, 3), (77, .iinc 3 1, 3), (80, .goto (-29), 3), (83, .aload_n 0, 1), (84, .iload_n 3, 1), (85, .invokevirtual 317, 3), (88, .iload_n 3, 1), (89, .ireturn, 1)]
set_option maxRecDepth 100000 in
theorem dm_M_run : okAt b_M_run pr_M_run := by decide +kernel
def pr_M_beginning : List (Nat × Instr × Nat) := [(0, .aload_n 0, 1), (1, .aload_n 0, 1), (2, .invokevirtual 227, 3), (5, .ifCond .eq 17, 3), (8, .aload_n 0, 1), (9, .getfield 7, 3), (12, .aload_n 0, 1), (13, .getfield 162, 3), (16, .iconst 4, 1), (17, .idiv, 1), (18, .iaload, 1), (19, .goto 4, 3), (22, .iconst 0, 1), (23, .putfield 103, 3), (26, .aload_n 0, 1), (27, .invokevirtual 231, 3), (30, .istore_n 1, 1), (31, .iload_n 1, 1), (32, .iconst 1, 1), (33, .iadd, 1), (34, .istore_n 2, 1), (35, .aload_n 0, 1), (36, .getfield 234, 3), (39, .ifCond .ne 7, 3), (42, .iconst 0, 1), (43, .goto 23, 3), (46, .aload_n 0, 1), (47, .getfield 237, 3), (50, .ifCond .eq 10, 3), (53, .aload_n 0, 1), (54, .getfield 240, 3), (57, .goto 9, 3), (60, .aload_n 0, 1), (61, .getfield 243, 3), (64, .iconst 1, 1), (65, .iadd, 1), (66, .istore_n 3, 1), (67, .iload_n 3, 1), (68, .iload_n 2, 1), (69, .if_icmp .le 7, 3), (72, .iload_n 3, 1), (73, .goto 4, 3), (76, .iload_n 2, 1), (77, .istore_n 2, 1), (78, .aload_n 0, 1), (79, .getfield 246, 3), (82, .ifCond .eq 56, 3), (85, .aload_n 0, 1), (86, .getfield 249, 3), (89, .ifCond .eq 49, 3), (92, .aload_n 0, 1), (93, .invokevirtual 252, 3), (96, .ifCond .eq 17, 3), (99, .aload_n 0, 1), (100, .bipush 15, 2), (102, .iconst 5, 1), (103, .invokevirtual 106, 3), (106, .aload_n 0, 1), (107, .getfield 249, 3), (110, .if_icmp .eq 24, 3), (113, .aload_n 0, 1), (114, .invokevirtual 255, 3), (117, .ifCond .eq 21, 3), (120, .aload_n 0, 1), (121, .bipush 20, 2), (123, .iconst 5, 1), (124, .invokevirtual 106, 3), (127, .aload_n 0, 1), (128, .getfield 249, 3), (131, .if_icmp .ne 7, 3), (134, .iconst 1, 1), (135, .goto 4, 3), (138, .iconst 0, 1), (139, .istore 4, 2), (141, .iload 4, 2), (143, .ifCond .eq 18, 3), (146, .aload_n 0, 1), (147, .getfield 258, 3), (150, .iload_n 2, 1), (151, .if_icmp .le 10, 3), (154, .aload_n 0, 1), (155, .getfield 258, 3), (158, .goto 4, 3), (161, .iload_n 2, 1), (162, .ireturn, 1)]
set_option maxRecDepth 100000 in
theorem dm_M_beginning : okAt b_M_beginning pr_M_beginning := by decide +kernel
def pr_M_inCode : List (Nat × Instr × Nat) := [(0, .aload_n 0, 1), (1, .getfield 162, 3), (4, .ifCond .lt 17, 3), (7, .aload_n 0, 1), (8, .getfield 162, 3), (11, .sipush 512, 3), (14, .if_icmp .ge 7, 3), (17, .iconst 1, 1), (18, .goto 4, 3), (21, .iconst 0, 1), (22, .ireturn, 1)]
set_option maxRecDepth 100000 in
theorem dm_M_inCode : okAt b_M_inCode pr_M_inCode := by decide +kernel
def pr_M_decoding : List (Nat × Instr × Nat) := [(0, .aload_n 0, 1), (1, .getfield 28, 3), (4, .iconst 1, 1), (5, .iadd, 1), (6, .istore_n 1, 1), (7, .aload_n 0, 1), (8, .getfield 234, 3), (11, .ifCond .eq 18, 3), (14, .aload_n 0, 1), (15, .getfield 243, 3), (18, .iload_n 1, 1), (19, .if_icmp .le 10, 3), (22, .aload_n 0, 1), (23, .getfield 243, 3), (26, .goto 4, 3), (29, .iload_n 1, 1), (30, .ireturn, 1)]
set_option maxRecDepth 100000 in
theorem dm_M_decoding : okAt b_M_decoding pr_M_decoding := by decide +kernel
def pr_M_usesA : List (Nat × Instr × Nat) := [(0, .aload_n 0, 1), (1, .invokevirtual 110, 3), (4, .istore_n 1, 1), (5, .aload_n 0, 1), (6, .bipush 12, 2), (8, .iconst 3, 1), (9, .invokevirtual 106, 3), (12, .istore_n 2, 1), (13, .iload_n 1, 1), (14, .bipush 55, 2), (16, .if_icmp .eq 36, 3), (19, .iload_n 1, 1), (20, .bipush 23, 2), (22, .if_icmp .eq 30, 3), (25, .iload_n 1, 1), (26, .bipush 111, 2), (28, .if_icmp .eq 24, 3), (31, .iload_n 1, 1), (32, .bipush 15, 2), (34, .if_icmp .eq 18, 3), (37, .iload_n 1, 1), (38, .bipush 115, 2), (40, .if_icmp .ne 16, 3), (43, .iload_n 2, 1), (44, .ifCond .eq 8, 3), (47, .iload_n 2, 1), (48, .iconst 4, 1), (49, .if_icmp .le 7, 3), (52, .iconst 1, 1), (53, .goto 4, 3), (56, .iconst 0, 1), (57, .istore_n 3, 1), (58, .iload_n 3, 1), (59, .ifCond .ne 7, 3), (62, .iconst 1, 1), (63, .goto 4, 3), (66, .iconst 0, 1), (67, .ireturn, 1)]
set_option maxRecDepth 100000 in
theorem dm_M_usesA : okAt b_M_usesA pr_M_usesA := by decide +kernel
def pr_M_op : List (Nat × Instr × Nat) := [(0, .aload_n 0, 1), (1, .iconst 0, 1), (2, .bipush 7, 2), (4, .invokevirtual 106, 3), (7, .ireturn, 1)]
set_option maxRecDepth 100000 in
theorem dm_M_op : okAt b_M_op pr_M_op := by decide +kernel
def pr_M_bits : List (Nat × Instr × Nat) := [(0, .aload_n 0, 1), (1, .getfield 103, 3), (4, .iload_n 1, 1), (5, .iushr, 1), (6, .iconst 1, 1), (7, .iload_n 2, 1), (8, .ishl, 1), (9, .iconst 1, 1), (10, .isub, 1), (11, .iand, 1), (12, .ireturn, 1)]
set_option maxRecDepth 100000 in
theorem dm_M_bits : okAt b_M_bits pr_M_bits := by decide +kernel
def pr_M_usesB : List (Nat × Instr × Nat) := [(0, .aload_n 0, 1), (1, .invokevirtual 110, 3), (4, .istore_n 1, 1), (5, .iload_n 1, 1), (6, .bipush 99, 2), (8, .if_icmp .eq 15, 3), (11, .iload_n 1, 1), (12, .bipush 35, 2), (14, .if_icmp .eq 9, 3), (17, .iload_n 1, 1), (18, .bipush 51, 2), (20, .if_icmp .ne 7, 3), (23, .iconst 1, 1), (24, .goto 4, 3), (27, .iconst 0, 1), (28, .ireturn, 1)]
set_option maxRecDepth 100000 in
theorem dm_M_usesB : okAt b_M_usesB pr_M_usesB := by decide +kernel
def pr_M_perform : List (Nat × Instr × Nat) := [(0, .aload_n 0, 1), (1, .invokevirtual 261, 3), (4, .istore_n 2, 1), (5, .aload_n 0, 1), (6, .iconst (-1), 1), (7, .putfield 120, 3), (10, .aload_n 0, 1), (11, .aload_n 0, 1), (12, .getfield 162, 3), (15, .iconst 4, 1), (16, .iadd, 1), (17, .putfield 152, 3), (20, .aload_n 0, 1), (21, .iconst 0, 1), (22, .putfield 199, 3), (25, .aload_n 0, 1), (26, .iconst (-1), 1), (27, .putfield 172, 3), (30, .aload_n 0, 1), (31, .iconst 0, 1), (32, .putfield 183, 3), (35, .aload_n 0, 1), (36, .iconst 0, 1), (37, .putfield 159, 3), (40, .aload_n 0, 1), (41, .iconst 0, 1), (42, .putfield 155, 3), (45, .aload_n 0, 1), (46, .iconst 0, 1), (47, .putfield 195, 3), (50, .aload_n 0, 1), (51, .invokevirtual 231, 3), (54, .istore_n 3, 1), (55, .aload_n 0, 1), (56, .getfield 19, 3), (59, .iconst 0, 1), (60, .iaload, 1), (61, .bipush 8, 2), (63, .iand, 1), (64, .ifCond .eq 20, 3), (67, .aload_n 0, 1), (68, .getfield 19, 3), (71, .bipush 7, 2), (73, .iaload, 1), (74, .aload_n 0, 1), (75, .getfield 19, 3), (78, .iconst 1, 1), (79, .iaload, 1), (80, .iand, 1), (81, .goto 4, 3), (84, .iconst 0, 1), (85, .istore 4, 2), (87, .iload 4, 2), (89, .ifCond .eq 7, 3), (92, .iconst 1, 1), (93, .goto 4, 3), (96, .iconst 0, 1), (97, .istore 5, 2), (99, .iload 5, 2), (101, .ifCond .eq 92, 3), (104, .iload 4, 2), (106, .sipush 2048, 3), (109, .iand, 1), (110, .ifCond .eq 8, 3), (113, .bipush 11, 2), (115, .goto 17, 3), (118, .iload 4, 2), (120, .bipush 8, 2), (122, .iand, 1), (123, .ifCond .eq 7, 3), (126, .iconst 3, 1), (127, .goto 5, 3), (130, .bipush 7, 2), (132, .istore 6, 2), (134, .aload_n 0, 1), (135, .getfield 19, 3), (138, .iconst 2, 1), (139, .iaload, 1), (140, .bipush (-4), 2), (142, .iand, 1), (143, .istore 7, 2), (145, .aload_n 0, 1), (146, .ldc_w 264, 3), (149, .iload 6, 2), (151, .iadd, 1), (152, .iconst 0, 1), (153, .aload_n 0, 1), (154, .getfield 19, 3), (157, .iconst 2, 1), (158, .iaload, 1), (159, .iconst 1, 1), (160, .iand, 1), (161, .iconst 1, 1), (162, .if_icmp .ne 13, 3), (165, .iload 7, 2), (167, .iconst 4, 1), (168, .iload 6, 2), (170, .imul, 1), (171, .iadd, 1), (172, .goto 5, 3), (175, .iload 7, 2), (177, .invokevirtual 265, 3), (180, .aload_n 0, 1), (181, .dup, 1), (182, .getfield 268, 3), (185, .iconst 1, 1), (186, .iadd, 1), (187, .putfield 268, 3), (190, .goto 28, 3), (193, .aload_n 0, 1), (194, .invokevirtual 271, 3), (197, .aload_n 0, 1), (198, .dup, 1), (199, .getfield 274, 3), (202, .aload_n 0, 1), (203, .getfield 120, 3), (206, .ifCond .lt 7, 3), (209, .iconst 1, 1), (210, .goto 4, 3), (213, .iconst 0, 1), (214, .iadd, 1), (215, .putfield 274, 3), (218, .iload 5, 2), (220, .ifCond .ne 14, 3), (223, .aload_n 0, 1), (224, .getfield 120, 3), (227, .ifCond .ge 7, 3), (230, .iconst 1, 1), (231, .goto 4, 3), (234, .iconst 0, 1), (235, .istore 6, 2), (237, .iload 6, 2), (239, .ifCond .eq 108, 3), (242, .aload_n 0, 1), (243, .getfield 159, 3), (246, .ifCond .eq 101, 3), (249, .aload_n 0, 1), (250, .dup, 1), (251, .getfield 277, 3), (254, .aload_n 0, 1), (255, .getfield 152, 3), (258, .iload_n 2, 1), (259, .if_icmp .eq 7, 3), (262, .iconst 1, 1), (263, .goto 4, 3), (266, .iconst 0, 1), (267, .iadd, 1), (268, .putfield 277, 3), (271, .aload_n 0, 1), (272, .iconst 4, 1), (273, .aload_n 0, 1), (274, .getfield 162, 3), (277, .aload_n 0, 1), (278, .getfield 152, 3), (281, .aload_n 0, 1), (282, .getfield 155, 3), (285, .invokevirtual 280, 3), (288, .aload_n 0, 1), (289, .getfield 75, 3), (292, .aload_n 0, 1), (293, .getfield 284, 3), (296, .aload_n 0, 1), (297, .getfield 162, 3), (300, .iastore, 1), (301, .aload_n 0, 1), (302, .getfield 78, 3), (305, .aload_n 0, 1), (306, .getfield 284, 3), (309, .aload_n 0, 1), (310, .getfield 152, 3), (313, .iastore, 1), (314, .aload_n 0, 1), (315, .getfield 81, 3), (318, .aload_n 0, 1), (319, .getfield 284, 3), (322, .aload_n 0, 1), (323, .getfield 155, 3), (326, .bastore, 1), (327, .aload_n 0, 1), (328, .getfield 84, 3), (331, .aload_n 0, 1), (332, .getfield 284, 3), (335, .iload_n 1, 1), (336, .iastore, 1), (337, .aload_n 0, 1), (338, .dup, 1), (339, .getfield 284, 3), (342, .iconst 1, 1), (343, .iadd, 1), (344, .putfield 284, 3), (347, .aload_n 0, 1), (348, .iload 6, 2), (350, .ifCond .eq 22, 3), (353, .aload_n 0, 1), (354, .getfield 195, 3), (357, .ifCond .ne 15, 3), (360, .aload_n 0, 1), (361, .getfield 152, 3), (364, .iload_n 2, 1), (365, .if_icmp .ne 7, 3), (368, .iload_n 3, 1), (369, .goto 6, 3), (372, .iload_n 1, 1), (373, .iconst 1, 1), (374, .iadd, 1), (375, .putfield 28, 3), (378, .aload_n 0, 1), (379, .iconst 1, 1), (380, .putfield 234, 3), (383, .aload_n 0, 1), (384, .iload 6, 2), (386, .putfield 237, 3), (389, .aload_n 0, 1), (390, .iload_n 1, 1), (391, .putfield 243, 3), (394, .iload 6, 2), (396, .ifCond .eq 8, 3), (399, .aload_n 0, 1), (400, .iload_n 1, 1), (401, .invokevirtual 287, 3), (404, .aload_n 0, 1), (405, .aload_n 0, 1), (406, .getfield 152, 3), (409, .putfield 162, 3), (412, .return_, 1)]
set_option maxRecDepth 100000 in
theorem dm_M_perform : okAt b_M_perform pr_M_perform := by decide +kernel
def pr_M_fetched : List (Nat × Instr × Nat) := [(0, .iconst 0, 1), (1, .istore_n 1, 1), (2, .iconst 0, 1), (3, .istore_n 2, 1), (4, .iload_n 2, 1), (5, .aload_n 0, 1), (6, .getfield 284, 3), (9, .if_icmp .ge 99, 3), (12, .aload_n 0, 1), (13, .getfield 84, 3), (16, .iload_n 2, 1), (17, .iaload, 1), (18, .aload_n 0, 1), (19, .getfield 28, 3), (22, .if_icmp .ge 29, 3), (25, .aload_n 0, 1), (26, .iconst 0, 1), (27, .aload_n 0, 1), (28, .getfield 75, 3), (31, .iload_n 2, 1), (32, .iaload, 1), (33, .aload_n 0, 1), (34, .getfield 78, 3), (37, .iload_n 2, 1), (38, .iaload, 1), (39, .aload_n 0, 1), (40, .getfield 81, 3), (43, .iload_n 2, 1), (44, .baload, 1), (45, .invokevirtual 280, 3), (48, .goto 54, 3), (51, .aload_n 0, 1), (52, .getfield 75, 3), (55, .iload_n 1, 1), (56, .aload_n 0, 1), (57, .getfield 75, 3), (60, .iload_n 2, 1), (61, .iaload, 1), (62, .iastore, 1), (63, .aload_n 0, 1), (64, .getfield 78, 3), (67, .iload_n 1, 1), (68, .aload_n 0, 1), (69, .getfield 78, 3), (72, .iload_n 2, 1), (73, .iaload, 1), (74, .iastore, 1), (75, .aload_n 0, 1), (76, .getfield 81, 3), (79, .iload_n 1, 1), (80, .aload_n 0, 1), (81, .getfield 81, 3), (84, .iload_n 2, 1), (85, .baload, 1), (86, .bastore, 1), (87, .aload_n 0, 1), (88, .getfield 84, 3), (91, .iload_n 1, 1), (92, .aload_n 0, 1), (93, .getfield 84, 3), (96, .iload_n 2, 1), (97, .iaload, 1), (98, .iastore, 1), (99, .iinc 1 1, 3), (102, .iinc 2 1, 3), (105, .goto (-101), 3), (108, .aload_n 0, 1), (109, .iload_n 1, 1), (110, .putfield 284, 3), (113, .aload_n 0, 1), (114, .iconst 0, 1), (115, .aload_n 0, 1), (116, .getfield 162, 3), (119, .invokevirtual 299, 3), (122, .ireturn, 1)]
set_option maxRecDepth 100000 in
theorem dm_M_fetched : okAt b_M_fetched pr_M_fetched := by decide +kernel
def pr_M_learn : List (Nat × Instr × Nat) := [(0, .iload_n 1, 1), (1, .iload_n 2, 1), (2, .iconst 2, 1), (3, .ishr, 1), (4, .iconst 3, 1), (5, .iand, 1), (6, .iadd, 1), (7, .istore 5, 2), (9, .aload_n 0, 1), (10, .getfield 66, 3), (13, .iload 5, 2), (15, .iaload, 1), (16, .iload_n 2, 1), (17, .if_icmp .ne 91, 3), (20, .aload_n 0, 1), (21, .getfield 72, 3), (24, .iload 5, 2), (26, .iload 4, 2), (28, .ifCond .eq 30, 3), (31, .aload_n 0, 1), (32, .getfield 72, 3), (35, .iload 5, 2), (37, .iaload, 1), (38, .iconst 3, 1), (39, .if_icmp .ge 15, 3), (42, .aload_n 0, 1), (43, .getfield 72, 3), (46, .iload 5, 2), (48, .iaload, 1), (49, .iconst 1, 1), (50, .iadd, 1), (51, .goto 30, 3), (54, .iconst 3, 1), (55, .goto 26, 3), (58, .aload_n 0, 1), (59, .getfield 72, 3), (62, .iload 5, 2), (64, .iaload, 1), (65, .ifCond .le 15, 3), (68, .aload_n 0, 1), (69, .getfield 72, 3), (72, .iload 5, 2), (74, .iaload, 1), (75, .iconst 1, 1), (76, .isub, 1), (77, .goto 4, 3), (80, .iconst 0, 1), (81, .iastore, 1), (82, .aload_n 0, 1), (83, .getfield 69, 3), (86, .iload 5, 2), (88, .iload 4, 2), (90, .ifCond .eq 7, 3), (93, .iload_n 3, 1), (94, .goto 10, 3), (97, .aload_n 0, 1), (98, .getfield 69, 3), (101, .iload 5, 2), (103, .iaload, 1), (104, .iastore, 1), (105, .goto 32, 3), (108, .iload 4, 2), (110, .ifCond .eq 27, 3), (113, .aload_n 0, 1), (114, .getfield 66, 3), (117, .iload 5, 2), (119, .iload_n 2, 1), (120, .iastore, 1), (121, .aload_n 0, 1), (122, .getfield 69, 3), (125, .iload 5, 2), (127, .iload_n 3, 1), (128, .iastore, 1), (129, .aload_n 0, 1), (130, .getfield 72, 3), (133, .iload 5, 2), (135, .iconst 2, 1), (136, .iastore, 1), (137, .return_, 1)]
set_option maxRecDepth 100000 in
theorem dm_M_learn : okAt b_M_learn pr_M_learn := by decide +kernel
def pr_M_guess : List (Nat × Instr × Nat) := [(0, .iload_n 1, 1), (1, .iload_n 2, 1), (2, .iconst 2, 1), (3, .ishr, 1), (4, .iconst 3, 1), (5, .iand, 1), (6, .iadd, 1), (7, .istore_n 3, 1), (8, .aload_n 0, 1), (9, .getfield 66, 3), (12, .iload_n 3, 1), (13, .iaload, 1), (14, .iload_n 2, 1), (15, .if_icmp .ne 26, 3), (18, .iload_n 2, 1), (19, .ifCond .lt 22, 3), (22, .aload_n 0, 1), (23, .getfield 72, 3), (26, .iload_n 3, 1), (27, .iaload, 1), (28, .iconst 1, 1), (29, .if_icmp .le 12, 3), (32, .aload_n 0, 1), (33, .getfield 69, 3), (36, .iload_n 3, 1), (37, .iaload, 1), (38, .goto 6, 3), (41, .iload_n 2, 1), (42, .iconst 4, 1), (43, .iadd, 1), (44, .ireturn, 1)]
set_option maxRecDepth 100000 in
theorem dm_M_guess : okAt b_M_guess pr_M_guess := by decide +kernel
def pr_M_enter : List (Nat × Instr × Nat) := [(0, .aload_n 0, 1), (1, .getfield 19, 3), (4, .iconst 4, 1), (5, .aload_n 0, 1), (6, .getfield 162, 3), (9, .iastore, 1), (10, .aload_n 0, 1), (11, .getfield 19, 3), (14, .iconst 5, 1), (15, .iload_n 1, 1), (16, .iastore, 1), (17, .aload_n 0, 1), (18, .getfield 19, 3), (21, .bipush 6, 2), (23, .iload_n 2, 1), (24, .iastore, 1), (25, .aload_n 0, 1), (26, .getfield 19, 3), (29, .iconst 0, 1), (30, .aload_n 0, 1), (31, .getfield 19, 3), (34, .iconst 0, 1), (35, .iaload, 1), (36, .bipush 8, 2), (38, .iand, 1), (39, .ifCond .eq 9, 3), (42, .sipush 128, 3), (45, .goto 4, 3), (48, .iconst 0, 1), (49, .iastore, 1), (50, .aload_n 0, 1), (51, .iload_n 3, 1), (52, .putfield 152, 3), (55, .return_, 1)]
set_option maxRecDepth 100000 in
theorem dm_M_enter : okAt b_M_enter pr_M_enter := by decide +kernel
def pr_M_fulfil : List (Nat × Instr × Nat) := [(0, .aload_n 0, 1), (1, .invokevirtual 227, 3), (4, .ifCond .eq 10, 3), (7, .aload_n 0, 1), (8, .invokevirtual 290, 3), (11, .goto 16, 3), (14, .aload_n 0, 1), (15, .iconst 1, 1), (16, .putfield 120, 3), (19, .aload_n 0, 1), (20, .aload_n 0, 1), (21, .getfield 162, 3), (24, .putfield 123, 3), (27, .aload_n 0, 1), (28, .getfield 120, 3), (31, .ifCond .lt 27, 3), (34, .aload_n 0, 1), (35, .aload_n 0, 1), (36, .getfield 120, 3), (39, .aload_n 0, 1), (40, .getfield 123, 3), (43, .aload_n 0, 1), (44, .getfield 19, 3), (47, .iconst 2, 1), (48, .iaload, 1), (49, .bipush (-4), 2), (51, .iand, 1), (52, .invokevirtual 265, 3), (55, .goto 48, 3), (58, .aload_n 0, 1), (59, .getfield 195, 3), (62, .ifCond .eq 41, 3), (65, .aload_n 0, 1), (66, .aload_n 0, 1), (67, .getfield 19, 3), (70, .iconst 4, 1), (71, .iaload, 1), (72, .putfield 152, 3), (75, .aload_n 0, 1), (76, .getfield 19, 3), (79, .iconst 0, 1), (80, .aload_n 0, 1), (81, .getfield 19, 3), (84, .iconst 0, 1), (85, .iaload, 1), (86, .sipush 128, 3), (89, .iand, 1), (90, .ifCond .eq 9, 3), (93, .sipush 136, 3), (96, .goto 6, 3), (99, .sipush 128, 3), (102, .iastore, 1), (103, .return_, 1)]
set_option maxRecDepth 100000 in
theorem dm_M_fulfil : okAt b_M_fulfil pr_M_fulfil := by decide +kernel
def pr_M_decide : List (Nat × Instr × Nat) := [(0, .aload_n 0, 1), (1, .invokevirtual 110, 3), (4, .istore_n 1, 1), (5, .iload_n 1, 1), (6, .bipush 55, 2), (8, .if_icmp .eq 38, 3), (11, .iload_n 1, 1), (12, .bipush 23, 2), (14, .if_icmp .eq 32, 3), (17, .iload_n 1, 1), (18, .bipush 111, 2), (20, .if_icmp .eq 26, 3), (23, .iload_n 1, 1), (24, .bipush 103, 2), (26, .if_icmp .eq 20, 3), (29, .iload_n 1, 1), (30, .iconst 3, 1), (31, .if_icmp .eq 15, 3), (34, .iload_n 1, 1), (35, .bipush 19, 2), (37, .if_icmp .eq 9, 3), (40, .iload_n 1, 1), (41, .bipush 51, 2), (43, .if_icmp .ne 7, 3), (46, .iconst 1, 1), (47, .goto 4, 3), (50, .iconst 0, 1), (51, .istore_n 2, 1), (52, .aload_n 0, 1), (53, .iload_n 2, 1), (54, .ifCond .eq 13, 3), (57, .aload_n 0, 1), (58, .bipush 7, 2), (60, .iconst 5, 1), (61, .invokevirtual 106, 3), (64, .goto 4, 3), (67, .iconst 0, 1), (68, .putfield 199, 3), (71, .iload_n 1, 1), (72, .bipush 55, 2), (74, .if_icmp .eq 9, 3), (77, .iload_n 1, 1), (78, .bipush 23, 2), (80, .if_icmp .ne 33, 3), (83, .aload_n 0, 1), (84, .aload_n 0, 1), (85, .getfield 103, 3), (88, .sipush (-4096), 3), (91, .iand, 1), (92, .iload_n 1, 1), (93, .bipush 23, 2), (95, .if_icmp .ne 10, 3), (98, .aload_n 0, 1), (99, .getfield 162, 3), (102, .goto 4, 3), (105, .iconst 0, 1), (106, .iadd, 1), (107, .putfield 139, 3), (110, .goto 177, 3), (113, .iload_n 1, 1), (114, .bipush 111, 2), (116, .if_icmp .ne 34, 3), (119, .aload_n 0, 1), (120, .iconst 1, 1), (121, .putfield 159, 3), (124, .aload_n 0, 1), (125, .aload_n 0, 1), (126, .getfield 162, 3), (129, .iconst 4, 1), (130, .iadd, 1), (131, .putfield 139, 3), (134, .aload_n 0, 1), (135, .aload_n 0, 1), (136, .getfield 162, 3), (139, .aload_n 0, 1), (140, .invokevirtual 206, 3), (143, .iadd, 1), (144, .invokevirtual 168, 3), (147, .goto 140, 3), (150, .iload_n 1, 1), (151, .bipush 103, 2), (153, .if_icmp .ne 47, 3), (156, .aload_n 0, 1), (157, .bipush 12, 2), (159, .iconst 3, 1), (160, .invokevirtual 106, 3), (163, .ifCond .ne 37, 3), (166, .aload_n 0, 1), (167, .iconst 1, 1), (168, .putfield 159, 3), (171, .aload_n 0, 1), (172, .aload_n 0, 1), (173, .getfield 162, 3), (176, .iconst 4, 1), (177, .iadd, 1), (178, .putfield 139, 3), (181, .aload_n 0, 1), (182, .aload_n 0, 1), (183, .invokevirtual 129, 3), (186, .aload_n 0, 1), (187, .invokevirtual 132, 3), (190, .iadd, 1), (191, .bipush (-2), 2), (193, .iand, 1), (194, .invokevirtual 168, 3), (197, .goto 90, 3), (200, .iload_n 1, 1), (201, .bipush 99, 2), (203, .if_icmp .ne 10, 3), (206, .aload_n 0, 1), (207, .invokevirtual 209, 3), (210, .goto 77, 3), (213, .iload_n 1, 1), (214, .iconst 3, 1), (215, .if_icmp .ne 10, 3), (218, .aload_n 0, 1), (219, .invokevirtual 212, 3), (222, .goto 65, 3), (225, .iload_n 1, 1), (226, .bipush 35, 2), (228, .if_icmp .ne 10, 3), (231, .aload_n 0, 1), (232, .invokevirtual 215, 3), (235, .goto 52, 3), (238, .iload_n 1, 1), (239, .bipush 19, 2), (241, .if_icmp .ne 10, 3), (244, .aload_n 0, 1), (245, .invokevirtual 218, 3), (248, .goto 39, 3), (251, .iload_n 1, 1), (252, .bipush 51, 2), (254, .if_icmp .ne 10, 3), (257, .aload_n 0, 1), (258, .invokevirtual 221, 3), (261, .goto 26, 3), (264, .iload_n 1, 1), (265, .bipush 115, 2), (267, .if_icmp .ne 10, 3), (270, .aload_n 0, 1), (271, .invokevirtual 224, 3), (274, .goto 13, 3), (277, .iload_n 1, 1), (278, .bipush 15, 2), (280, .if_icmp .eq 7, 3), (283, .aload_n 0, 1), (284, .invokevirtual 126, 3), (287, .return_, 1)]
set_option maxRecDepth 100000 in
theorem dm_M_decide : okAt b_M_decide pr_M_decide := by decide +kernel
def pr_M_numberJ : List (Nat × Instr × Nat) := [(0, .aload_n 0, 1), (1, .getfield 103, 3), (4, .bipush 31, 2), (6, .ishr, 1), (7, .bipush 20, 2), (9, .ishl, 1), (10, .aload_n 0, 1), (11, .bipush 12, 2), (13, .bipush 8, 2), (15, .invokevirtual 106, 3), (18, .bipush 12, 2), (20, .ishl, 1), (21, .ior, 1), (22, .aload_n 0, 1), (23, .bipush 20, 2), (25, .iconst 1, 1), (26, .invokevirtual 106, 3), (29, .bipush 11, 2), (31, .ishl, 1), (32, .ior, 1), (33, .aload_n 0, 1), (34, .bipush 21, 2), (36, .bipush 10, 2), (38, .invokevirtual 106, 3), (41, .iconst 1, 1), (42, .ishl, 1), (43, .ior, 1), (44, .ireturn, 1)]
set_option maxRecDepth 100000 in
theorem dm_M_numberJ : okAt b_M_numberJ pr_M_numberJ := by decide +kernel
def pr_M_go : List (Nat × Instr × Nat) := [(0, .aload_n 0, 1), (1, .iload_n 1, 1), (2, .putfield 152, 3), (5, .aload_n 0, 1), (6, .iconst 1, 1), (7, .putfield 155, 3), (10, .iload_n 1, 1), (11, .iconst 3, 1), (12, .iand, 1), (13, .ifCond .eq 13, 3), (16, .aload_n 0, 1), (17, .iconst 0, 1), (18, .putfield 120, 3), (21, .aload_n 0, 1), (22, .iload_n 1, 1), (23, .putfield 123, 3), (26, .return_, 1)]
set_option maxRecDepth 100000 in
theorem dm_M_go : okAt b_M_go pr_M_go := by decide +kernel
def pr_M_regA : List (Nat × Instr × Nat) := [(0, .aload_n 0, 1), (1, .getfield 13, 3), (4, .aload_n 0, 1), (5, .bipush 15, 2), (7, .iconst 5, 1), (8, .invokevirtual 106, 3), (11, .iaload, 1), (12, .ireturn, 1)]
set_option maxRecDepth 100000 in
theorem dm_M_regA : okAt b_M_regA pr_M_regA := by decide +kernel
def pr_M_numberI : List (Nat × Instr × Nat) := [(0, .aload_n 0, 1), (1, .getfield 103, 3), (4, .bipush 20, 2), (6, .ishr, 1), (7, .ireturn, 1)]
set_option maxRecDepth 100000 in
theorem dm_M_numberI : okAt b_M_numberI pr_M_numberI := by decide +kernel
def pr_M_branch : List (Nat × Instr × Nat) := [(0, .aload_n 0, 1), (1, .bipush 12, 2), (3, .iconst 3, 1), (4, .invokevirtual 106, 3), (7, .istore_n 1, 1), (8, .aload_n 0, 1), (9, .invokevirtual 129, 3), (12, .istore_n 2, 1), (13, .aload_n 0, 1), (14, .invokevirtual 142, 3), (17, .istore_n 3, 1), (18, .iload_n 1, 1), (19, .iconst 2, 1), (20, .if_icmp .ge 16, 3), (23, .iload_n 2, 1), (24, .iload_n 3, 1), (25, .if_icmp .ne 7, 3), (28, .iconst 1, 1), (29, .goto 31, 3), (32, .iconst 0, 1), (33, .goto 27, 3), (36, .iload_n 1, 1), (37, .bipush 6, 2), (39, .if_icmp .ge 16, 3), (42, .iload_n 2, 1), (43, .iload_n 3, 1), (44, .if_icmp .ge 7, 3), (47, .iconst 1, 1), (48, .goto 12, 3), (51, .iconst 0, 1), (52, .goto 8, 3), (55, .iload_n 2, 1), (56, .iload_n 3, 1), (57, .invokestatic 116, 3), (60, .istore 4, 2), (62, .iload_n 1, 1), (63, .iconst 2, 1), (64, .if_icmp .eq 8, 3), (67, .iload_n 1, 1), (68, .iconst 3, 1), (69, .if_icmp .ne 8, 3), (72, .aload_n 0, 1), (73, .invokevirtual 126, 3), (76, .return_, 1), (77, .aload_n 0, 1), (78, .iconst 1, 1), (79, .putfield 159, 3), (82, .iload 4, 2), (84, .iload_n 1, 1), (85, .iconst 1, 1), (86, .iand, 1), (87, .iconst 1, 1), (88, .if_icmp .ne 7, 3), (91, .iconst 1, 1), (92, .goto 4, 3), (95, .iconst 0, 1), (96, .if_icmp .eq 16, 3), (99, .aload_n 0, 1), (100, .aload_n 0, 1), (101, .getfield 162, 3), (104, .aload_n 0, 1), (105, .invokevirtual 165, 3), (108, .iadd, 1), (109, .invokevirtual 168, 3), (112, .return_, 1)]
set_option maxRecDepth 100000 in
theorem dm_M_branch : okAt b_M_branch pr_M_branch := by decide +kernel
def pr_M_regB : List (Nat × Instr × Nat) := [(0, .aload_n 0, 1), (1, .getfield 13, 3), (4, .aload_n 0, 1), (5, .bipush 20, 2), (7, .iconst 5, 1), (8, .invokevirtual 106, 3), (11, .iaload, 1), (12, .ireturn, 1)]
set_option maxRecDepth 100000 in
theorem dm_M_regB : okAt b_M_regB pr_M_regB := by decide +kernel
def pr_M_below : List (Nat × Instr × Nat) := [(0, .iload_n 0, 1), (1, .i2l, 1), (2, .ldc2_w 114, 3), (5, .land, 1), (6, .iload_n 1, 1), (7, .i2l, 1), (8, .ldc2_w 114, 3), (11, .land, 1), (12, .lcmp, 1), (13, .ifCond .ge 7, 3), (16, .iconst 1, 1), (17, .goto 4, 3), (20, .iconst 0, 1), (21, .ireturn, 1)]
set_option maxRecDepth 100000 in
theorem dm_M_below : okAt b_M_below pr_M_below := by decide +kernel
def pr_M_illegal : List (Nat × Instr × Nat) := [(0, .aload_n 0, 1), (1, .iconst 2, 1), (2, .putfield 120, 3), (5, .aload_n 0, 1), (6, .aload_n 0, 1), (7, .getfield 103, 3), (10, .putfield 123, 3), (13, .return_, 1)]
set_option maxRecDepth 100000 in
theorem dm_M_illegal : okAt b_M_illegal pr_M_illegal := by decide +kernel
def pr_M_numberB : List (Nat × Instr × Nat) := [(0, .aload_n 0, 1), (1, .getfield 103, 3), (4, .bipush 31, 2), (6, .ishr, 1), (7, .bipush 12, 2), (9, .ishl, 1), (10, .aload_n 0, 1), (11, .bipush 7, 2), (13, .iconst 1, 1), (14, .invokevirtual 106, 3), (17, .bipush 11, 2), (19, .ishl, 1), (20, .ior, 1), (21, .aload_n 0, 1), (22, .bipush 25, 2), (24, .bipush 6, 2), (26, .invokevirtual 106, 3), (29, .iconst 5, 1), (30, .ishl, 1), (31, .ior, 1), (32, .aload_n 0, 1), (33, .bipush 8, 2), (35, .iconst 4, 1), (36, .invokevirtual 106, 3), (39, .iconst 1, 1), (40, .ishl, 1), (41, .ior, 1), (42, .ireturn, 1)]
set_option maxRecDepth 100000 in
theorem dm_M_numberB : okAt b_M_numberB pr_M_numberB := by decide +kernel
def pr_M_load : List (Nat × Instr × Nat) := [(0, .aload_n 0, 1), (1, .bipush 12, 2), (3, .iconst 3, 1), (4, .invokevirtual 106, 3), (7, .istore_n 1, 1), (8, .iload_n 1, 1), (9, .iconst 3, 1), (10, .if_icmp .eq 8, 3), (13, .iload_n 1, 1), (14, .iconst 5, 1), (15, .if_icmp .le 8, 3), (18, .aload_n 0, 1), (19, .invokevirtual 126, 3), (22, .return_, 1), (23, .iconst 1, 1), (24, .iload_n 1, 1), (25, .iconst 3, 1), (26, .iand, 1), (27, .ishl, 1), (28, .istore_n 2, 1), (29, .aload_n 0, 1), (30, .aload_n 0, 1), (31, .invokevirtual 129, 3), (34, .aload_n 0, 1), (35, .invokevirtual 132, 3), (38, .iadd, 1), (39, .iload_n 2, 1), (40, .iconst 4, 1), (41, .invokevirtual 175, 3), (44, .aload_n 0, 1), (45, .getfield 120, 3), (48, .ifCond .lt 4, 3), (51, .return_, 1), (52, .aload_n 0, 1), (53, .getfield 16, 3), (56, .aload_n 0, 1), (57, .getfield 172, 3), (60, .sipush 1024, 3), (63, .isub, 1), (64, .iconst 4, 1), (65, .idiv, 1), (66, .iaload, 1), (67, .bipush 8, 2), (69, .aload_n 0, 1), (70, .getfield 172, 3), (73, .iconst 4, 1), (74, .irem, 1), (75, .imul, 1), (76, .iushr, 1), (77, .istore_n 3, 1), (78, .aload_n 0, 1), (79, .iload_n 1, 1), (80, .ifCond .ne 8, 3), (83, .iload_n 3, 1), (84, .i2b, 1), (85, .goto 39, 3), (88, .iload_n 1, 1), (89, .iconst 1, 1), (90, .if_icmp .ne 8, 3), (93, .iload_n 3, 1), (94, .i2s, 1), (95, .goto 29, 3), (98, .iload_n 1, 1), (99, .iconst 2, 1), (100, .if_icmp .ne 7, 3), (103, .iload_n 3, 1), (104, .goto 20, 3), (107, .iload_n 1, 1), (108, .iconst 4, 1), (109, .if_icmp .ne 11, 3), (112, .iload_n 3, 1), (113, .sipush 255, 3), (116, .iand, 1), (117, .goto 7, 3), (120, .iload_n 3, 1), (121, .ldc 179, 2), (123, .iand, 1), (124, .putfield 139, 3), (127, .return_, 1)]
set_option maxRecDepth 100000 in
theorem dm_M_load : okAt b_M_load pr_M_load := by decide +kernel
def pr_M_reach : List (Nat × Instr × Nat) := [(0, .aload_n 0, 1), (1, .iload_n 1, 1), (2, .putfield 172, 3), (5, .aload_n 0, 1), (6, .iload_n 1, 1), (7, .putfield 123, 3), (10, .aload_n 0, 1), (11, .iload_n 1, 1), (12, .iload_n 2, 1), (13, .irem, 1), (14, .ifCond .eq 7, 3), (17, .iload_n 3, 1), (18, .goto 17, 3), (21, .iload_n 1, 1), (22, .invokestatic 99, 3), (25, .ifCond .eq 7, 3), (28, .iconst (-1), 1), (29, .goto 6, 3), (32, .iload_n 3, 1), (33, .iconst 1, 1), (34, .iadd, 1), (35, .putfield 120, 3), (38, .return_, 1)]
set_option maxRecDepth 100000 in
theorem dm_M_reach : okAt b_M_reach pr_M_reach := by decide +kernel
def pr_M_store : List (Nat × Instr × Nat) := [(0, .aload_n 0, 1), (1, .bipush 12, 2), (3, .iconst 3, 1), (4, .invokevirtual 106, 3), (7, .istore_n 1, 1), (8, .iload_n 1, 1), (9, .iconst 2, 1), (10, .if_icmp .le 8, 3), (13, .aload_n 0, 1), (14, .invokevirtual 126, 3), (17, .return_, 1), (18, .aload_n 0, 1), (19, .aload_n 0, 1), (20, .invokevirtual 129, 3), (23, .aload_n 0, 1), (24, .invokevirtual 180, 3), (27, .iadd, 1), (28, .iconst 1, 1), (29, .iload_n 1, 1), (30, .ishl, 1), (31, .bipush 6, 2), (33, .invokevirtual 175, 3), (36, .aload_n 0, 1), (37, .getfield 120, 3), (40, .ifCond .lt 4, 3), (43, .return_, 1), (44, .bipush 8, 2), (46, .aload_n 0, 1), (47, .getfield 172, 3), (50, .iconst 4, 1), (51, .irem, 1), (52, .imul, 1), (53, .istore_n 2, 1), (54, .iload_n 1, 1), (55, .iconst 2, 1), (56, .if_icmp .ne 7, 3), (59, .iconst (-1), 1), (60, .goto 17, 3), (63, .iload_n 1, 1), (64, .ifCond .ne 9, 3), (67, .sipush 255, 3), (70, .goto 5, 3), (73, .ldc 179, 2), (75, .iload_n 2, 1), (76, .ishl, 1), (77, .istore_n 3, 1), (78, .aload_n 0, 1), (79, .iconst 1, 1), (80, .putfield 183, 3), (83, .aload_n 0, 1), (84, .aload_n 0, 1), (85, .getfield 16, 3), (88, .aload_n 0, 1), (89, .getfield 172, 3), (92, .sipush 1024, 3), (95, .isub, 1), (96, .iconst 4, 1), (97, .idiv, 1), (98, .iaload, 1), (99, .iload_n 3, 1), (100, .iconst (-1), 1), (101, .ixor, 1), (102, .iand, 1), (103, .aload_n 0, 1), (104, .invokevirtual 142, 3), (107, .iload_n 2, 1), (108, .ishl, 1), (109, .iload_n 3, 1), (110, .iand, 1), (111, .ior, 1), (112, .putfield 186, 3), (115, .return_, 1)]
set_option maxRecDepth 100000 in
theorem dm_M_store : okAt b_M_store pr_M_store := by decide +kernel
def pr_M_numberS : List (Nat × Instr × Nat) := [(0, .aload_n 0, 1), (1, .getfield 103, 3), (4, .bipush 25, 2), (6, .ishr, 1), (7, .iconst 5, 1), (8, .ishl, 1), (9, .aload_n 0, 1), (10, .bipush 7, 2), (12, .iconst 5, 1), (13, .invokevirtual 106, 3), (16, .ior, 1), (17, .ireturn, 1)]
set_option maxRecDepth 100000 in
theorem dm_M_numberS : okAt b_M_numberS pr_M_numberS := by decide +kernel
def pr_M_immediate : List (Nat × Instr × Nat) := [(0, .aload_n 0, 1), (1, .bipush 12, 2), (3, .iconst 3, 1), (4, .invokevirtual 106, 3), (7, .istore_n 1, 1), (8, .aload_n 0, 1), (9, .bipush 25, 2), (11, .bipush 7, 2), (13, .invokevirtual 106, 3), (16, .istore_n 2, 1), (17, .iload_n 1, 1), (18, .iconst 1, 1), (19, .if_icmp .eq 8, 3), (22, .iload_n 1, 1), (23, .iconst 5, 1), (24, .if_icmp .ne 7, 3), (27, .iconst 1, 1), (28, .goto 4, 3), (31, .iconst 0, 1), (32, .istore_n 3, 1), (33, .iload_n 3, 1), (34, .ifCond .eq 23, 3), (37, .iload_n 2, 1), (38, .ifCond .eq 19, 3), (41, .iload_n 1, 1), (42, .iconst 5, 1), (43, .if_icmp .ne 9, 3), (46, .iload_n 2, 1), (47, .bipush 32, 2), (49, .if_icmp .eq 8, 3), (52, .aload_n 0, 1), (53, .invokevirtual 126, 3), (56, .return_, 1), (57, .aload_n 0, 1), (58, .iload_n 1, 1), (59, .aload_n 0, 1), (60, .invokevirtual 129, 3), (63, .iload_n 3, 1), (64, .ifCond .eq 13, 3), (67, .aload_n 0, 1), (68, .bipush 20, 2), (70, .iconst 5, 1), (71, .invokevirtual 106, 3), (74, .goto 7, 3), (77, .aload_n 0, 1), (78, .invokevirtual 132, 3), (81, .iload_n 3, 1), (82, .ifCond .eq 13, 3), (85, .iload_n 2, 1), (86, .bipush 32, 2), (88, .if_icmp .ne 7, 3), (91, .iconst 1, 1), (92, .goto 4, 3), (95, .iconst 0, 1), (96, .invokestatic 135, 3), (99, .putfield 139, 3), (102, .return_, 1)]
set_option maxRecDepth 100000 in
theorem dm_M_immediate : okAt b_M_immediate pr_M_immediate := by decide +kernel
def pr_M_plain : List (Nat × Instr × Nat) := [(0, .iload_n 2, 1), (1, .bipush 31, 2), (3, .iand, 1), (4, .istore 4, 2), (6, .iload_n 0, 1), (7, .tableswitch 109 0 6 #[41, 55, 60, 71, 85, 89, 105], 41), (48, .iload_n 3, 1), (49, .ifCond .eq 9, 3), (52, .iload_n 1, 1), (53, .iload_n 2, 1), (54, .isub, 1), (55, .goto 6, 3), (58, .iload_n 1, 1), (59, .iload_n 2, 1), (60, .iadd, 1), (61, .ireturn, 1), (62, .iload_n 1, 1), (63, .iload 4, 2), (65, .ishl, 1), (66, .ireturn, 1), (67, .iload_n 1, 1), (68, .iload_n 2, 1), (69, .if_icmp .ge 7, 3), (72, .iconst 1, 1), (73, .goto 4, 3), (76, .iconst 0, 1), (77, .ireturn, 1), (78, .iload_n 1, 1), (79, .iload_n 2, 1), (80, .invokestatic 116, 3), (83, .ifCond .eq 7, 3), (86, .iconst 1, 1), (87, .goto 4, 3), (90, .iconst 0, 1), (91, .ireturn, 1), (92, .iload_n 1, 1), (93, .iload_n 2, 1), (94, .ixor, 1), (95, .ireturn, 1), (96, .iload_n 3, 1), (97, .ifCond .eq 10, 3), (100, .iload_n 1, 1), (101, .iload 4, 2), (103, .ishr, 1), (104, .goto 7, 3), (107, .iload_n 1, 1), (108, .iload 4, 2), (110, .iushr, 1), (111, .ireturn, 1), (112, .iload_n 1, 1), (113, .iload_n 2, 1), (114, .ior, 1), (115, .ireturn, 1), (116, .iload_n 1, 1), (117, .iload_n 2, 1), (118, .iand, 1), (119, .ireturn, 1)]
set_option maxRecDepth 100000 in
theorem dm_M_plain : okAt b_M_plain pr_M_plain := by decide +kernel
def pr_M_operation : List (Nat × Instr × Nat) := [(0, .aload_n 0, 1), (1, .bipush 12, 2), (3, .iconst 3, 1), (4, .invokevirtual 106, 3), (7, .istore_n 1, 1), (8, .aload_n 0, 1), (9, .bipush 25, 2), (11, .bipush 7, 2), (13, .invokevirtual 106, 3), (16, .istore_n 2, 1), (17, .iload_n 2, 1), (18, .ifCond .eq 23, 3), (21, .iload_n 2, 1), (22, .iconst 1, 1), (23, .if_icmp .eq 18, 3), (26, .iload_n 2, 1), (27, .bipush 32, 2), (29, .if_icmp .ne 16, 3), (32, .iload_n 1, 1), (33, .ifCond .eq 8, 3), (36, .iload_n 1, 1), (37, .iconst 5, 1), (38, .if_icmp .ne 7, 3), (41, .iconst 1, 1), (42, .goto 4, 3), (45, .iconst 0, 1), (46, .istore_n 3, 1), (47, .iload_n 3, 1), (48, .ifCond .ne 10, 3), (51, .aload_n 0, 1), (52, .invokevirtual 126, 3), (55, .goto 74, 3), (58, .iload_n 2, 1), (59, .iconst 1, 1), (60, .if_icmp .ne 42, 3), (63, .aload_n 0, 1), (64, .iload_n 1, 1), (65, .iconst 4, 1), (66, .if_icmp .ge 18, 3), (69, .iload_n 1, 1), (70, .aload_n 0, 1), (71, .invokevirtual 129, 3), (74, .aload_n 0, 1), (75, .invokevirtual 142, 3), (78, .invokestatic 145, 3), (81, .goto 15, 3), (84, .iload_n 1, 1), (85, .aload_n 0, 1), (86, .invokevirtual 129, 3), (89, .aload_n 0, 1), (90, .invokevirtual 142, 3), (93, .invokestatic 149, 3), (96, .putfield 139, 3), (99, .goto 30, 3), (102, .aload_n 0, 1), (103, .iload_n 1, 1), (104, .aload_n 0, 1), (105, .invokevirtual 129, 3), (108, .aload_n 0, 1), (109, .invokevirtual 142, 3), (112, .iload_n 2, 1), (113, .bipush 32, 2), (115, .if_icmp .ne 7, 3), (118, .iconst 1, 1), (119, .goto 4, 3), (122, .iconst 0, 1), (123, .invokestatic 135, 3), (126, .putfield 139, 3), (129, .return_, 1)]
set_option maxRecDepth 100000 in
theorem dm_M_operation : okAt b_M_operation pr_M_operation := by decide +kernel
def pr_M_product : List (Nat × Instr × Nat) := [(0, .iload_n 0, 1), (1, .iconst 3, 1), (2, .if_icmp .ne 12, 3), (5, .iload_n 1, 1), (6, .i2l, 1), (7, .ldc2_w 114, 3), (10, .land, 1), (11, .goto 5, 3), (14, .iload_n 1, 1), (15, .i2l, 1), (16, .lstore_n 3, 1), (17, .iload_n 0, 1), (18, .iconst 1, 1), (19, .if_icmp .le 12, 3), (22, .iload_n 2, 1), (23, .i2l, 1), (24, .ldc2_w 114, 3), (27, .land, 1), (28, .goto 5, 3), (31, .iload_n 2, 1), (32, .i2l, 1), (33, .lstore 5, 2), (35, .iload_n 0, 1), (36, .ifCond .ne 9, 3), (39, .iload_n 1, 1), (40, .iload_n 2, 1), (41, .imul, 1), (42, .goto 11, 3), (45, .lload_n 3, 1), (46, .lload 5, 2), (48, .lmul, 1), (49, .bipush 32, 2), (51, .lshr, 1), (52, .l2i, 1), (53, .ireturn, 1)]
set_option maxRecDepth 100000 in
theorem dm_M_product : okAt b_M_product pr_M_product := by decide +kernel
def pr_M_quotient : List (Nat × Instr × Nat) := [(0, .iload_n 0, 1), (1, .iconst 4, 1), (2, .if_icmp .eq 9, 3), (5, .iload_n 0, 1), (6, .bipush 6, 2), (8, .if_icmp .ne 7, 3), (11, .iconst 1, 1), (12, .goto 4, 3), (15, .iconst 0, 1), (16, .istore_n 3, 1), (17, .iload_n 2, 1), (18, .ifCond .ne 15, 3), (21, .iload_n 0, 1), (22, .bipush 6, 2), (24, .if_icmp .ge 7, 3), (27, .iconst (-1), 1), (28, .goto 4, 3), (31, .iload_n 1, 1), (32, .ireturn, 1), (33, .iload_n 3, 1), (34, .ifCond .eq 8, 3), (37, .iload_n 1, 1), (38, .i2l, 1), (39, .goto 9, 3), (42, .iload_n 1, 1), (43, .i2l, 1), (44, .ldc2_w 114, 3), (47, .land, 1), (48, .lstore 4, 2), (50, .iload_n 3, 1), (51, .ifCond .eq 8, 3), (54, .iload_n 2, 1), (55, .i2l, 1), (56, .goto 9, 3), (59, .iload_n 2, 1), (60, .i2l, 1), (61, .ldc2_w 114, 3), (64, .land, 1), (65, .lstore 6, 2), (67, .iload_n 0, 1), (68, .bipush 6, 2), (70, .if_icmp .ge 11, 3), (73, .lload 4, 2), (75, .lload 6, 2), (77, .ldiv, 1), (78, .goto 8, 3), (81, .lload 4, 2), (83, .lload 6, 2), (85, .lrem, 1), (86, .l2i, 1), (87, .ireturn, 1)]
set_option maxRecDepth 100000 in
theorem dm_M_quotient : okAt b_M_quotient pr_M_quotient := by decide +kernel
def pr_M_system : List (Nat × Instr × Nat) := [(0, .aload_n 0, 1), (1, .bipush 12, 2), (3, .iconst 3, 1), (4, .invokevirtual 106, 3), (7, .istore_n 1, 1), (8, .aload_n 0, 1), (9, .bipush 20, 2), (11, .bipush 12, 2), (13, .invokevirtual 106, 3), (16, .invokestatic 189, 3), (19, .istore_n 2, 1), (20, .aload_n 0, 1), (21, .getfield 103, 3), (24, .bipush 115, 2), (26, .if_icmp .eq 12, 3), (29, .aload_n 0, 1), (30, .getfield 103, 3), (33, .ldc 193, 2), (35, .if_icmp .ne 30, 3), (38, .aload_n 0, 1), (39, .aload_n 0, 1), (40, .getfield 103, 3), (43, .bipush 115, 2), (45, .if_icmp .ne 8, 3), (48, .bipush 11, 2), (50, .goto 4, 3), (53, .iconst 3, 1), (54, .putfield 120, 3), (57, .aload_n 0, 1), (58, .iconst 0, 1), (59, .putfield 123, 3), (62, .goto 136, 3), (65, .aload_n 0, 1), (66, .getfield 103, 3), (69, .ldc 194, 2), (71, .if_icmp .ne 11, 3), (74, .aload_n 0, 1), (75, .iconst 1, 1), (76, .putfield 195, 3), (79, .goto 119, 3), (82, .aload_n 0, 1), (83, .getfield 103, 3), (86, .ldc 198, 2), (88, .if_icmp .eq 20, 3), (91, .iload_n 1, 1), (92, .iconst 3, 1), (93, .iand, 1), (94, .ifCond .eq 7, 3), (97, .iload_n 2, 1), (98, .ifCond .ge 10, 3), (101, .aload_n 0, 1), (102, .invokevirtual 126, 3), (105, .goto 93, 3), (108, .aload_n 0, 1), (109, .getfield 103, 3), (112, .ldc 198, 2), (114, .if_icmp .eq 84, 3), (117, .iload_n 1, 1), (118, .iconst 4, 1), (119, .if_icmp .ge 10, 3), (122, .aload_n 0, 1), (123, .invokevirtual 129, 3), (126, .goto 10, 3), (129, .aload_n 0, 1), (130, .bipush 15, 2), (132, .iconst 5, 1), (133, .invokevirtual 106, 3), (136, .istore_n 3, 1), (137, .aload_n 0, 1), (138, .getfield 19, 3), (141, .iload_n 2, 1), (142, .iaload, 1), (143, .istore 4, 2), (145, .aload_n 0, 1), (146, .aload_n 0, 1), (147, .bipush 7, 2), (149, .iconst 5, 1), (150, .invokevirtual 106, 3), (153, .putfield 199, 3), (156, .aload_n 0, 1), (157, .iload 4, 2), (159, .putfield 139, 3), (162, .aload_n 0, 1), (163, .iload_n 2, 1), (164, .iload_n 1, 1), (165, .iconst 3, 1), (166, .iand, 1), (167, .iconst 1, 1), (168, .if_icmp .ne 7, 3), (171, .iload_n 3, 1), (172, .goto 23, 3), (175, .iload_n 1, 1), (176, .iconst 3, 1), (177, .iand, 1), (178, .iconst 2, 1), (179, .if_icmp .ne 10, 3), (182, .iload 4, 2), (184, .iload_n 3, 1), (185, .ior, 1), (186, .goto 9, 3), (189, .iload 4, 2), (191, .iload_n 3, 1), (192, .iconst (-1), 1), (193, .ixor, 1), (194, .iand, 1), (195, .invokevirtual 202, 3), (198, .return_, 1)]
set_option maxRecDepth 100000 in
theorem dm_M_system : okAt b_M_system pr_M_system := by decide +kernel
def pr_M_placeOf : List (Nat × Instr × Nat) := [(0, .iload_n 0, 1), (1, .sipush 768, 3), (4, .if_icmp .ne 7, 3), (7, .iconst 0, 1), (8, .goto 48, 3), (11, .iload_n 0, 1), (12, .sipush 772, 3), (15, .if_icmp .ne 7, 3), (18, .iconst 1, 1), (19, .goto 37, 3), (22, .iload_n 0, 1), (23, .sipush 773, 3), (26, .if_icmp .ne 7, 3), (29, .iconst 2, 1), (30, .goto 26, 3), (33, .iload_n 0, 1), (34, .sipush 832, 3), (37, .if_icmp .lt 18, 3), (40, .iload_n 0, 1), (41, .sipush 836, 3), (44, .if_icmp .gt 11, 3), (47, .iload_n 0, 1), (48, .sipush 829, 3), (51, .isub, 1), (52, .goto 4, 3), (55, .iconst (-1), 1), (56, .ireturn, 1)]
set_option maxRecDepth 100000 in
theorem dm_M_placeOf : okAt b_M_placeOf pr_M_placeOf := by decide +kernel
def pr_M_change : List (Nat × Instr × Nat) := [(0, .iload_n 1, 1), (1, .ifCond .ne 11, 3), (4, .iload_n 2, 1), (5, .sipush 136, 3), (8, .iand, 1), (9, .goto 29, 3), (12, .iload_n 1, 1), (13, .iconst 1, 1), (14, .if_icmp .ne 11, 3), (17, .iload_n 2, 1), (18, .sipush 2184, 3), (21, .iand, 1), (22, .goto 16, 3), (25, .iload_n 1, 1), (26, .iconst 4, 1), (27, .if_icmp .ne 10, 3), (30, .iload_n 2, 1), (31, .bipush (-4), 2), (33, .iand, 1), (34, .goto 4, 3), (37, .iload_n 2, 1), (38, .istore_n 3, 1), (39, .aload_n 0, 1), (40, .getfield 19, 3), (43, .iload_n 1, 1), (44, .iload_n 1, 1), (45, .bipush 7, 2), (47, .if_icmp .ne 13, 3), (50, .aload_n 0, 1), (51, .getfield 19, 3), (54, .bipush 7, 2), (56, .iaload, 1), (57, .goto 4, 3), (60, .iload_n 3, 1), (61, .iastore, 1), (62, .return_, 1)]
set_option maxRecDepth 100000 in
theorem dm_M_change : okAt b_M_change pr_M_change := by decide +kernel
def pr_M_finish : List (Nat × Instr × Nat) := [(0, .aload_n 0, 1), (1, .invokevirtual 110, 3), (4, .istore_n 2, 1), (5, .aload_n 0, 1), (6, .bipush 12, 2), (8, .iconst 3, 1), (9, .invokevirtual 106, 3), (12, .istore_n 3, 1), (13, .iload_n 2, 1), (14, .bipush 51, 2), (16, .if_icmp .ne 19, 3), (19, .aload_n 0, 1), (20, .bipush 25, 2), (22, .bipush 7, 2), (24, .invokevirtual 106, 3), (27, .iconst 1, 1), (28, .if_icmp .ne 7, 3), (31, .iconst 1, 1), (32, .goto 4, 3), (35, .iconst 0, 1), (36, .istore 4, 2), (38, .iload_n 1, 1), (39, .iload 4, 2), (41, .ifCond .ne 7, 3), (44, .iconst 1, 1), (45, .goto 14, 3), (48, .iload_n 3, 1), (49, .iconst 4, 1), (50, .if_icmp .ge 7, 3), (53, .iconst 4, 1), (54, .goto 5, 3), (57, .bipush 33, 2), (59, .iadd, 1), (60, .istore 5, 2), (62, .aload_n 0, 1), (63, .getfield 246, 3), (66, .ifCond .eq 19, 3), (69, .aload_n 0, 1), (70, .getfield 258, 3), (73, .iload 5, 2), (75, .if_icmp .le 10, 3), (78, .aload_n 0, 1), (79, .getfield 258, 3), (82, .goto 5, 3), (85, .iload 5, 2), (87, .istore 5, 2), (89, .aload_n 0, 1), (90, .getfield 172, 3), (93, .ifCond .lt 10, 3), (96, .aload_n 0, 1), (97, .invokevirtual 293, 3), (100, .goto 4, 3), (103, .iconst 0, 1), (104, .istore 6, 2), (106, .aload_n 0, 1), (107, .getfield 35, 3), (110, .aload_n 0, 1), (111, .getfield 296, 3), (114, .iload_n 1, 1), (115, .iastore, 1), (116, .aload_n 0, 1), (117, .getfield 38, 3), (120, .aload_n 0, 1), (121, .getfield 296, 3), (124, .iload 5, 2), (126, .iastore, 1), (127, .aload_n 0, 1), (128, .getfield 41, 3), (131, .aload_n 0, 1), (132, .getfield 296, 3), (135, .iload 5, 2), (137, .iconst 1, 1), (138, .iadd, 1), (139, .iload 6, 2), (141, .iadd, 1), (142, .iastore, 1), (143, .aload_n 0, 1), (144, .getfield 32, 3), (147, .aload_n 0, 1), (148, .getfield 296, 3), (151, .aload_n 0, 1), (152, .getfield 162, 3), (155, .iastore, 1), (156, .aload_n 0, 1), (157, .getfield 44, 3), (160, .aload_n 0, 1), (161, .getfield 296, 3), (164, .aload_n 0, 1), (165, .getfield 199, 3), (168, .iastore, 1), (169, .aload_n 0, 1), (170, .getfield 47, 3), (173, .aload_n 0, 1), (174, .getfield 296, 3), (177, .aload_n 0, 1), (178, .getfield 139, 3), (181, .iastore, 1), (182, .aload_n 0, 1), (183, .getfield 50, 3), (186, .aload_n 0, 1), (187, .getfield 296, 3), (190, .aload_n 0, 1), (191, .getfield 183, 3), (194, .ifCond .eq 16, 3), (197, .aload_n 0, 1), (198, .getfield 172, 3), (201, .sipush 1024, 3), (204, .isub, 1), (205, .iconst 4, 1), (206, .idiv, 1), (207, .goto 4, 3), (210, .iconst (-1), 1), (211, .iastore, 1), (212, .aload_n 0, 1), (213, .getfield 53, 3), (216, .aload_n 0, 1), (217, .getfield 296, 3), (220, .aload_n 0, 1), (221, .getfield 186, 3), (224, .iastore, 1), (225, .aload_n 0, 1), (226, .getfield 56, 3), (229, .aload_n 0, 1), (230, .getfield 296, 3), (233, .iload 6, 2), (235, .ifCond .le 7, 3), (238, .iconst 1, 1), (239, .goto 4, 3), (242, .iconst 0, 1), (243, .bastore, 1), (244, .aload_n 0, 1), (245, .getfield 199, 3), (248, .ifCond .eq 16, 3), (251, .aload_n 0, 1), (252, .getfield 13, 3), (255, .aload_n 0, 1), (256, .getfield 199, 3), (259, .aload_n 0, 1), (260, .getfield 139, 3), (263, .iastore, 1), (264, .aload_n 0, 1), (265, .getfield 183, 3), (268, .ifCond .eq 21, 3), (271, .aload_n 0, 1), (272, .getfield 16, 3), (275, .aload_n 0, 1), (276, .getfield 50, 3), (279, .aload_n 0, 1), (280, .getfield 296, 3), (283, .iaload, 1), (284, .aload_n 0, 1), (285, .getfield 186, 3), (288, .iastore, 1), (289, .aload_n 0, 1), (290, .iload 5, 2), (292, .putfield 240, 3), (295, .aload_n 0, 1), (296, .iconst 1, 1), (297, .putfield 246, 3), (300, .aload_n 0, 1), (301, .aload_n 0, 1), (302, .getfield 41, 3), (305, .aload_n 0, 1), (306, .getfield 296, 3), (309, .iaload, 1), (310, .putfield 258, 3), (313, .aload_n 0, 1), (314, .iload_n 2, 1), (315, .iconst 3, 1), (316, .if_icmp .ne 10, 3), (319, .aload_n 0, 1), (320, .getfield 199, 3), (323, .goto 4, 3), (326, .iconst 0, 1), (327, .putfield 249, 3), (330, .aload_n 0, 1), (331, .dup, 1), (332, .getfield 296, 3), (335, .iconst 1, 1), (336, .iadd, 1), (337, .putfield 296, 3), (340, .return_, 1)]
set_option maxRecDepth 100000 in
theorem dm_M_finish : okAt b_M_finish pr_M_finish := by decide +kernel
def pr_M_cached : List (Nat × Instr × Nat) := [(0, .aload_n 0, 1), (1, .getfield 172, 3), (4, .sipush 1024, 3), (7, .isub, 1), (8, .bipush 16, 2), (10, .idiv, 1), (11, .istore_n 1, 1), (12, .iload_n 1, 1), (13, .iconst 4, 1), (14, .irem, 1), (15, .istore_n 2, 1), (16, .aload_n 0, 1), (17, .getfield 60, 3), (20, .iload_n 2, 1), (21, .iaload, 1), (22, .iload_n 1, 1), (23, .if_icmp .ne 7, 3), (26, .iconst 0, 1), (27, .goto 37, 3), (30, .aload_n 0, 1), (31, .getfield 60, 3), (34, .iload_n 2, 1), (35, .iaload, 1), (36, .ifCond .lt 22, 3), (39, .aload_n 0, 1), (40, .getfield 63, 3), (43, .iload_n 2, 1), (44, .baload, 1), (45, .ifCond .eq 13, 3), (48, .bipush 8, 2), (50, .aload_n 0, 1), (51, .getfield 93, 3), (54, .imul, 1), (55, .goto 9, 3), (58, .iconst 4, 1), (59, .aload_n 0, 1), (60, .getfield 93, 3), (63, .imul, 1), (64, .istore_n 3, 1), (65, .aload_n 0, 1), (66, .getfield 63, 3), (69, .iload_n 2, 1), (70, .aload_n 0, 1), (71, .getfield 183, 3), (74, .ifCond .ne 22, 3), (77, .aload_n 0, 1), (78, .getfield 60, 3), (81, .iload_n 2, 1), (82, .iaload, 1), (83, .iload_n 1, 1), (84, .if_icmp .ne 16, 3), (87, .aload_n 0, 1), (88, .getfield 63, 3), (91, .iload_n 2, 1), (92, .baload, 1), (93, .ifCond .eq 7, 3), (96, .iconst 1, 1), (97, .goto 4, 3), (100, .iconst 0, 1), (101, .bastore, 1), (102, .aload_n 0, 1), (103, .getfield 60, 3), (106, .iload_n 2, 1), (107, .iload_n 1, 1), (108, .iastore, 1), (109, .iload_n 3, 1), (110, .ireturn, 1)]
set_option maxRecDepth 100000 in
theorem dm_M_cached : okAt b_M_cached pr_M_cached := by decide +kernel
def pr_M_end : List (Nat × Instr × Nat) := [(0, .aload_n 0, 1), (1, .getfield 44, 3), (4, .iload_n 1, 1), (5, .iaload, 1), (6, .ifCond .eq 20, 3), (9, .aload_n 0, 1), (10, .getfield 22, 3), (13, .aload_n 0, 1), (14, .getfield 44, 3), (17, .iload_n 1, 1), (18, .iaload, 1), (19, .aload_n 0, 1), (20, .getfield 47, 3), (23, .iload_n 1, 1), (24, .iaload, 1), (25, .iastore, 1), (26, .aload_n 0, 1), (27, .getfield 50, 3), (30, .iload_n 1, 1), (31, .iaload, 1), (32, .ifCond .lt 20, 3), (35, .aload_n 0, 1), (36, .getfield 25, 3), (39, .aload_n 0, 1), (40, .getfield 50, 3), (43, .iload_n 1, 1), (44, .iaload, 1), (45, .aload_n 0, 1), (46, .getfield 53, 3), (49, .iload_n 1, 1), (50, .iaload, 1), (51, .iastore, 1), (52, .aload_n 0, 1), (53, .dup, 1), (54, .getfield 302, 3), (57, .aload_n 0, 1), (58, .getfield 56, 3), (61, .iload_n 1, 1), (62, .baload, 1), (63, .ifCond .eq 7, 3), (66, .iconst 1, 1), (67, .goto 4, 3), (70, .iconst 0, 1), (71, .iadd, 1), (72, .putfield 302, 3), (75, .aload_n 0, 1), (76, .getfield 87, 3), (79, .aload_n 0, 1), (80, .getfield 305, 3), (83, .bipush 16, 2), (85, .irem, 1), (86, .aload_n 0, 1), (87, .getfield 32, 3), (90, .iload_n 1, 1), (91, .iaload, 1), (92, .iastore, 1), (93, .aload_n 0, 1), (94, .getfield 90, 3), (97, .aload_n 0, 1), (98, .getfield 305, 3), (101, .bipush 16, 2), (103, .irem, 1), (104, .aload_n 0, 1), (105, .getfield 41, 3), (108, .iload_n 1, 1), (109, .iaload, 1), (110, .iastore, 1), (111, .aload_n 0, 1), (112, .dup, 1), (113, .getfield 305, 3), (116, .iconst 1, 1), (117, .iadd, 1), (118, .putfield 305, 3), (121, .return_, 1)]
set_option maxRecDepth 100000 in
theorem dm_M_end : okAt b_M_end pr_M_end := by decide +kernel
def pr_M_shift : List (Nat × Instr × Nat) := [(0, .iload_n 1, 1), (1, .istore_n 2, 1), (2, .iload_n 2, 1), (3, .aload_n 0, 1), (4, .getfield 296, 3), (7, .if_icmp .ge 135, 3), (10, .aload_n 0, 1), (11, .getfield 32, 3), (14, .iload_n 2, 1), (15, .iload_n 1, 1), (16, .isub, 1), (17, .aload_n 0, 1), (18, .getfield 32, 3), (21, .iload_n 2, 1), (22, .iaload, 1), (23, .iastore, 1), (24, .aload_n 0, 1), (25, .getfield 35, 3), (28, .iload_n 2, 1), (29, .iload_n 1, 1), (30, .isub, 1), (31, .aload_n 0, 1), (32, .getfield 35, 3), (35, .iload_n 2, 1), (36, .iaload, 1), (37, .iastore, 1), (38, .aload_n 0, 1), (39, .getfield 38, 3), (42, .iload_n 2, 1), (43, .iload_n 1, 1), (44, .isub, 1), (45, .aload_n 0, 1), (46, .getfield 38, 3), (49, .iload_n 2, 1), (50, .iaload, 1), (51, .iastore, 1), (52, .aload_n 0, 1), (53, .getfield 41, 3), (56, .iload_n 2, 1), (57, .iload_n 1, 1), (58, .isub, 1), (59, .aload_n 0, 1), (60, .getfield 41, 3), (63, .iload_n 2, 1), (64, .iaload, 1), (65, .iastore, 1), (66, .aload_n 0, 1), (67, .getfield 44, 3), (70, .iload_n 2, 1), (71, .iload_n 1, 1), (72, .isub, 1), (73, .aload_n 0, 1), (74, .getfield 44, 3), (77, .iload_n 2, 1), (78, .iaload, 1), (79, .iastore, 1), (80, .aload_n 0, 1), (81, .getfield 47, 3), (84, .iload_n 2, 1), (85, .iload_n 1, 1), (86, .isub, 1), (87, .aload_n 0, 1), (88, .getfield 47, 3), (91, .iload_n 2, 1), (92, .iaload, 1), (93, .iastore, 1), (94, .aload_n 0, 1), (95, .getfield 50, 3), (98, .iload_n 2, 1), (99, .iload_n 1, 1), (100, .isub, 1), (101, .aload_n 0, 1), (102, .getfield 50, 3), (105, .iload_n 2, 1), (106, .iaload, 1), (107, .iastore, 1), (108, .aload_n 0, 1), (109, .getfield 53, 3), (112, .iload_n 2, 1), (113, .iload_n 1, 1), (114, .isub, 1), (115, .aload_n 0, 1), (116, .getfield 53, 3), (119, .iload_n 2, 1), (120, .iaload, 1), (121, .iastore, 1), (122, .aload_n 0, 1), (123, .getfield 56, 3), (126, .iload_n 2, 1), (127, .iload_n 1, 1), (128, .isub, 1), (129, .aload_n 0, 1), (130, .getfield 56, 3), (133, .iload_n 2, 1), (134, .baload, 1), (135, .bastore, 1), (136, .iinc 2 1, 3), (139, .goto (-137), 3), (142, .aload_n 0, 1), (143, .dup, 1), (144, .getfield 296, 3), (147, .iload_n 1, 1), (148, .isub, 1), (149, .putfield 296, 3), (152, .return_, 1)]
set_option maxRecDepth 100000 in
theorem dm_M_shift : okAt b_M_shift pr_M_shift := by decide +kernel
def pr_M_reg : List (Nat × Instr × Nat) := [(0, .iload_n 1, 1), (1, .ifCond .lt 18, 3), (4, .iload_n 1, 1), (5, .bipush 32, 2), (7, .if_icmp .ge 12, 3), (10, .aload_n 0, 1), (11, .getfield 22, 3), (14, .iload_n 1, 1), (15, .iaload, 1), (16, .goto 4, 3), (19, .iconst 0, 1), (20, .ireturn, 1)]
set_option maxRecDepth 100000 in
theorem dm_M_reg : okAt b_M_reg pr_M_reg := by decide +kernel
def pr_M_control : List (Nat × Instr × Nat) := [(0, .iload_n 1, 1), (1, .invokestatic 189, 3), (4, .istore_n 2, 1), (5, .iload_n 2, 1), (6, .ifCond .ge 7, 3), (9, .iconst 0, 1), (10, .goto 9, 3), (13, .aload_n 0, 1), (14, .getfield 19, 3), (17, .iload_n 2, 1), (18, .iaload, 1), (19, .ireturn, 1)]
set_option maxRecDepth 100000 in
theorem dm_M_control : okAt b_M_control pr_M_control := by decide +kernel
def pr_M_word : List (Nat × Instr × Nat) := [(0, .iload_n 1, 1), (1, .invokestatic 99, 3), (4, .ifCond .eq 24, 3), (7, .iload_n 1, 1), (8, .iconst 4, 1), (9, .irem, 1), (10, .ifCond .ne 18, 3), (13, .aload_n 0, 1), (14, .getfield 25, 3), (17, .iload_n 1, 1), (18, .sipush 1024, 3), (21, .isub, 1), (22, .iconst 4, 1), (23, .idiv, 1), (24, .iaload, 1), (25, .goto 4, 3), (28, .iconst 0, 1), (29, .ireturn, 1)]
set_option maxRecDepth 100000 in
theorem dm_M_word : okAt b_M_word pr_M_word := by decide +kernel
def pr_M_ended : List (Nat × Instr × Nat) := [(0, .iload_n 1, 1), (1, .ifCond .lt 26, 3), (4, .iload_n 1, 1), (5, .bipush 15, 2), (7, .if_icmp .gt 20, 3), (10, .iload_n 1, 1), (11, .aload_n 0, 1), (12, .getfield 305, 3), (15, .if_icmp .ge 12, 3), (18, .iload_n 2, 1), (19, .ifCond .lt 8, 3), (22, .iload_n 2, 1), (23, .iconst 1, 1), (24, .if_icmp .le 5, 3), (27, .iconst (-1), 1), (28, .ireturn, 1), (29, .aload_n 0, 1), (30, .getfield 305, 3), (33, .iconst 1, 1), (34, .isub, 1), (35, .iload_n 1, 1), (36, .isub, 1), (37, .bipush 16, 2), (39, .irem, 1), (40, .istore_n 3, 1), (41, .iload_n 2, 1), (42, .ifCond .ne 12, 3), (45, .aload_n 0, 1), (46, .getfield 87, 3), (49, .iload_n 3, 1), (50, .iaload, 1), (51, .goto 9, 3), (54, .aload_n 0, 1), (55, .getfield 90, 3), (58, .iload_n 3, 1), (59, .iaload, 1), (60, .ireturn, 1)]
set_option maxRecDepth 100000 in
theorem dm_M_ended : okAt b_M_ended pr_M_ended := by decide +kernel
def pr_M_stage : List (Nat × Instr × Nat) := [(0, .iconst 0, 1), (1, .istore_n 2, 1), (2, .iload_n 2, 1), (3, .aload_n 0, 1), (4, .getfield 296, 3), (7, .if_icmp .ge 74, 3), (10, .iload_n 1, 1), (11, .iconst 2, 1), (12, .if_icmp .ne 20, 3), (15, .aload_n 0, 1), (16, .getfield 38, 3), (19, .iload_n 2, 1), (20, .iaload, 1), (21, .aload_n 0, 1), (22, .getfield 96, 3), (25, .if_icmp .le 7, 3), (28, .iconst 1, 1), (29, .goto 4, 3), (32, .iconst 0, 1), (33, .istore_n 3, 1), (34, .iload_n 1, 1), (35, .iconst 3, 1), (36, .if_icmp .ne 20, 3), (39, .aload_n 0, 1), (40, .getfield 38, 3), (43, .iload_n 2, 1), (44, .iaload, 1), (45, .aload_n 0, 1), (46, .getfield 96, 3), (49, .if_icmp .gt 7, 3), (52, .iconst 1, 1), (53, .goto 4, 3), (56, .iconst 0, 1), (57, .istore 4, 2), (59, .iload_n 3, 1), (60, .ifCond .ne 8, 3), (63, .iload 4, 2), (65, .ifCond .eq 10, 3), (68, .aload_n 0, 1), (69, .getfield 32, 3), (72, .iload_n 2, 1), (73, .iaload, 1), (74, .ireturn, 1), (75, .iinc 2 1, 3), (78, .goto (-76), 3), (81, .iload_n 1, 1), (82, .iconst 4, 1), (83, .if_icmp .ne 27, 3), (86, .aload_n 0, 1), (87, .iconst 0, 1), (88, .iconst 1, 1), (89, .invokevirtual 320, 3), (92, .aload_n 0, 1), (93, .getfield 96, 3), (96, .if_icmp .ne 14, 3), (99, .aload_n 0, 1), (100, .getfield 305, 3), (103, .ifCond .le 7, 3), (106, .iconst 1, 1), (107, .goto 4, 3), (110, .iconst 0, 1), (111, .istore_n 2, 1), (112, .iload_n 2, 1), (113, .ifCond .eq 12, 3), (116, .aload_n 0, 1), (117, .iconst 0, 1), (118, .iconst 0, 1), (119, .invokevirtual 320, 3), (122, .goto 4, 3), (125, .iconst (-1), 1), (126, .ireturn, 1)]
set_option maxRecDepth 100000 in
theorem dm_M_stage : okAt b_M_stage pr_M_stage := by decide +kernel
def pr_M_foretold : List (Nat × Instr × Nat) := [(0, .aload_n 0, 1), (1, .iconst 4, 1), (2, .iload_n 1, 1), (3, .invokevirtual 299, 3), (6, .ireturn, 1)]
set_option maxRecDepth 100000 in
theorem dm_M_foretold : okAt b_M_foretold pr_M_foretold := by decide +kernel
def pr_M_figure : List (Nat × Instr × Nat) := [(0, .iload_n 1, 1), (1, .ifCond .ne 10, 3), (4, .aload_n 0, 1), (5, .getfield 96, 3), (8, .goto 64, 3), (11, .iload_n 1, 1), (12, .iconst 1, 1), (13, .if_icmp .ne 10, 3), (16, .aload_n 0, 1), (17, .getfield 305, 3), (20, .goto 52, 3), (23, .iload_n 1, 1), (24, .iconst 2, 1), (25, .if_icmp .ne 10, 3), (28, .aload_n 0, 1), (29, .getfield 302, 3), (32, .goto 40, 3), (35, .iload_n 1, 1), (36, .iconst 3, 1), (37, .if_icmp .ne 10, 3), (40, .aload_n 0, 1), (41, .getfield 274, 3), (44, .goto 28, 3), (47, .iload_n 1, 1), (48, .iconst 4, 1), (49, .if_icmp .ne 10, 3), (52, .aload_n 0, 1), (53, .getfield 268, 3), (56, .goto 16, 3), (59, .iload_n 1, 1), (60, .iconst 5, 1), (61, .if_icmp .ne 10, 3), (64, .aload_n 0, 1), (65, .getfield 277, 3), (68, .goto 4, 3), (71, .iconst (-1), 1), (72, .ireturn, 1)]
set_option maxRecDepth 100000 in
theorem dm_M_figure : okAt b_M_figure pr_M_figure := by decide +kernel
theorem kI_m1 : Int32.ofInt (-1) = (-1) := by decide +kernel
theorem kI_0 : Int32.ofInt 0 = 0 := by decide +kernel
theorem kI_1 : Int32.ofInt 1 = 1 := by decide +kernel
theorem kI_2 : Int32.ofInt 2 = 2 := by decide +kernel
theorem kI_3 : Int32.ofInt 3 = 3 := by decide +kernel
theorem kI_4 : Int32.ofInt 4 = 4 := by decide +kernel
theorem kI_5 : Int32.ofInt 5 = 5 := by decide +kernel
theorem kB_m4 : (Int8.ofInt (-4)).toInt32 = (-4) := by decide +kernel
theorem kB_m2 : (Int8.ofInt (-2)).toInt32 = (-2) := by decide +kernel
theorem kB_6 : (Int8.ofInt 6).toInt32 = 6 := by decide +kernel
theorem kB_7 : (Int8.ofInt 7).toInt32 = 7 := by decide +kernel
theorem kB_8 : (Int8.ofInt 8).toInt32 = 8 := by decide +kernel
theorem kB_10 : (Int8.ofInt 10).toInt32 = 10 := by decide +kernel
theorem kB_11 : (Int8.ofInt 11).toInt32 = 11 := by decide +kernel
theorem kB_12 : (Int8.ofInt 12).toInt32 = 12 := by decide +kernel
theorem kB_15 : (Int8.ofInt 15).toInt32 = 15 := by decide +kernel
theorem kB_16 : (Int8.ofInt 16).toInt32 = 16 := by decide +kernel
theorem kB_19 : (Int8.ofInt 19).toInt32 = 19 := by decide +kernel
theorem kB_20 : (Int8.ofInt 20).toInt32 = 20 := by decide +kernel
theorem kB_21 : (Int8.ofInt 21).toInt32 = 21 := by decide +kernel
theorem kB_23 : (Int8.ofInt 23).toInt32 = 23 := by decide +kernel
theorem kB_25 : (Int8.ofInt 25).toInt32 = 25 := by decide +kernel
theorem kB_31 : (Int8.ofInt 31).toInt32 = 31 := by decide +kernel
theorem kB_32 : (Int8.ofInt 32).toInt32 = 32 := by decide +kernel
theorem kB_33 : (Int8.ofInt 33).toInt32 = 33 := by decide +kernel
theorem kB_35 : (Int8.ofInt 35).toInt32 = 35 := by decide +kernel
theorem kB_51 : (Int8.ofInt 51).toInt32 = 51 := by decide +kernel
theorem kB_55 : (Int8.ofInt 55).toInt32 = 55 := by decide +kernel
theorem kB_63 : (Int8.ofInt 63).toInt32 = 63 := by decide +kernel
theorem kB_64 : (Int8.ofInt 64).toInt32 = 64 := by decide +kernel
theorem kB_99 : (Int8.ofInt 99).toInt32 = 99 := by decide +kernel
theorem kB_100 : (Int8.ofInt 100).toInt32 = 100 := by decide +kernel
theorem kB_103 : (Int8.ofInt 103).toInt32 = 103 := by decide +kernel
theorem kB_111 : (Int8.ofInt 111).toInt32 = 111 := by decide +kernel
theorem kB_115 : (Int8.ofInt 115).toInt32 = 115 := by decide +kernel
theorem kB_127 : (Int8.ofInt 127).toInt32 = 127 := by decide +kernel
theorem kS_m4096 : (Int16.ofInt (-4096)).toInt32 = (-4096) := by decide +kernel
theorem kS_m2185 : (Int16.ofInt (-2185)).toInt32 = (-2185) := by decide +kernel
theorem kS_128 : (Int16.ofInt 128).toInt32 = 128 := by decide +kernel
theorem kS_136 : (Int16.ofInt 136).toInt32 = 136 := by decide +kernel
theorem kS_160 : (Int16.ofInt 160).toInt32 = 160 := by decide +kernel
theorem kS_255 : (Int16.ofInt 255).toInt32 = 255 := by decide +kernel
theorem kS_512 : (Int16.ofInt 512).toInt32 = 512 := by decide +kernel
theorem kS_768 : (Int16.ofInt 768).toInt32 = 768 := by decide +kernel
theorem kS_772 : (Int16.ofInt 772).toInt32 = 772 := by decide +kernel
theorem kS_773 : (Int16.ofInt 773).toInt32 = 773 := by decide +kernel
theorem kS_829 : (Int16.ofInt 829).toInt32 = 829 := by decide +kernel
theorem kS_832 : (Int16.ofInt 832).toInt32 = 832 := by decide +kernel
theorem kS_836 : (Int16.ofInt 836).toInt32 = 836 := by decide +kernel
theorem kS_1023 : (Int16.ofInt 1023).toInt32 = 1023 := by decide +kernel
theorem kS_1024 : (Int16.ofInt 1024).toInt32 = 1024 := by decide +kernel
theorem kS_1280 : (Int16.ofInt 1280).toInt32 = 1280 := by decide +kernel
theorem kS_2048 : (Int16.ofInt 2048).toInt32 = 2048 := by decide +kernel
theorem kS_2184 : (Int16.ofInt 2184).toInt32 = 2184 := by decide +kernel
end
section
def tysK (cI cB : ClassId) : List (ClassId × FieldType) := [(cI, .int), (cB, .boolean)]
def wsK (h0 : Nat) (a : Nat → Nat) (cI cB : ClassId) (S : St) : va_W := [(h0, .inr (0, [.ref (a 1), .ref (a 2), .ref (a 3), .ref (a 4), .ref (a 6), .ref (a 9), .ref (a 14), .ref (a 17), .ref (a 18), .ref (a 19), .int (S 0 10), .int (S 0 11), .int (S 0 12), .int (S 0 13), .int (S 0 14), .int (S 0 15), .int (S 0 16)])), (a 1, .inl (cI, 128, .inl (S 1))), (a 2, .inl (cI, 32, .inl (S 2))), (a 3, .inr (2, [.int (S 3 0), .int (S 3 1), .int (S 3 2), .int (S 3 3), .int (S 3 4), .int (S 3 5), .int (S 3 6), .int (S 3 7)])), (a 4, .inr (7, [.ref (a 5)])), (a 5, .inl (cI, 64, .inl (S 4))), (a 6, .inr (1, [.int (S 5 0), .ref (a 7), .ref (a 8)])), (a 7, .inl (cI, 4, .inl (S 6))), (a 8, .inl (cB, 4, .inl (S 7))), (a 9, .inr (4, [.ref (a 10), .ref (a 11), .ref (a 12), .ref (a 13)])), (a 10, .inl (cI, 12, .inl (S 8))), (a 11, .inl (cI, 12, .inl (S 9))), (a 12, .inl (cI, 12, .inl (S 10))), (a 13, .inl (cI, 2, .inl (S 11))), (a 14, .inr (5, [.ref (a 15), .ref (a 16), .int (S 12 2)])), (a 15, .inl (cI, 16, .inl (S 13))), (a 16, .inl (cI, 16, .inl (S 14))), (a 17, .inr (6, [.int (S 15 0), .int (S 15 1), .int (S 15 2), .int (S 15 3), .int (S 15 4), .int (S 15 5), .int (S 15 6), .int (S 15 7), .int (S 15 8), .int (S 15 9), .int (S 15 10), .int (S 15 11)])), (a 18, .inr (3, [.int (S 16 0), .int (S 16 1), .int (S 16 2), .int (S 16 3), .int (S 16 4), .int (S 16 5), .int (S 16 6), .int (S 16 7), .int (S 16 8), .int (S 16 9), .int (S 16 10), .int (S 16 11), .int (S 16 12), .int (S 16 13), .int (S 16 14), .int (S 16 15), .int (S 16 16), .int (S 16 17)])), (a 19, .inr (3, [.int (S 17 0), .int (S 17 1), .int (S 17 2), .int (S 17 3), .int (S 17 4), .int (S 17 5), .int (S 17 6), .int (S 17 7), .int (S 17 8), .int (S 17 9), .int (S 17 10), .int (S 17 11), .int (S 17 12), .int (S 17 13), .int (S 17 14), .int (S 17 15), .int (S 17 16), .int (S 17 17)]))]
theorem sK_0_10 (h0 : Nat) (a : Nat → Nat) (cI cB : ClassId) (S : St) (v : Int32) : (wsK h0 a cI cB S).set 0 (h0, .inr (0, [.ref (a 1), .ref (a 2), .ref (a 3), .ref (a 4), .ref (a 6), .ref (a 9), .ref (a 14), .ref (a 17), .ref (a 18), .ref (a 19), .int (S 0 10), .int (S 0 11), .int (S 0 12), .int (S 0 13), .int (S 0 14), .int (S 0 15), .int (S 0 16)].set 10 (.int v))) = wsK h0 a cI cB (st S 0 10 v) := rfl
theorem sK_0_11 (h0 : Nat) (a : Nat → Nat) (cI cB : ClassId) (S : St) (v : Int32) : (wsK h0 a cI cB S).set 0 (h0, .inr (0, [.ref (a 1), .ref (a 2), .ref (a 3), .ref (a 4), .ref (a 6), .ref (a 9), .ref (a 14), .ref (a 17), .ref (a 18), .ref (a 19), .int (S 0 10), .int (S 0 11), .int (S 0 12), .int (S 0 13), .int (S 0 14), .int (S 0 15), .int (S 0 16)].set 11 (.int v))) = wsK h0 a cI cB (st S 0 11 v) := rfl
theorem sK_0_12 (h0 : Nat) (a : Nat → Nat) (cI cB : ClassId) (S : St) (v : Int32) : (wsK h0 a cI cB S).set 0 (h0, .inr (0, [.ref (a 1), .ref (a 2), .ref (a 3), .ref (a 4), .ref (a 6), .ref (a 9), .ref (a 14), .ref (a 17), .ref (a 18), .ref (a 19), .int (S 0 10), .int (S 0 11), .int (S 0 12), .int (S 0 13), .int (S 0 14), .int (S 0 15), .int (S 0 16)].set 12 (.int v))) = wsK h0 a cI cB (st S 0 12 v) := rfl
theorem sK_0_13 (h0 : Nat) (a : Nat → Nat) (cI cB : ClassId) (S : St) (v : Int32) : (wsK h0 a cI cB S).set 0 (h0, .inr (0, [.ref (a 1), .ref (a 2), .ref (a 3), .ref (a 4), .ref (a 6), .ref (a 9), .ref (a 14), .ref (a 17), .ref (a 18), .ref (a 19), .int (S 0 10), .int (S 0 11), .int (S 0 12), .int (S 0 13), .int (S 0 14), .int (S 0 15), .int (S 0 16)].set 13 (.int v))) = wsK h0 a cI cB (st S 0 13 v) := rfl
theorem sK_0_14 (h0 : Nat) (a : Nat → Nat) (cI cB : ClassId) (S : St) (v : Int32) : (wsK h0 a cI cB S).set 0 (h0, .inr (0, [.ref (a 1), .ref (a 2), .ref (a 3), .ref (a 4), .ref (a 6), .ref (a 9), .ref (a 14), .ref (a 17), .ref (a 18), .ref (a 19), .int (S 0 10), .int (S 0 11), .int (S 0 12), .int (S 0 13), .int (S 0 14), .int (S 0 15), .int (S 0 16)].set 14 (.int v))) = wsK h0 a cI cB (st S 0 14 v) := rfl
theorem sK_0_15 (h0 : Nat) (a : Nat → Nat) (cI cB : ClassId) (S : St) (v : Int32) : (wsK h0 a cI cB S).set 0 (h0, .inr (0, [.ref (a 1), .ref (a 2), .ref (a 3), .ref (a 4), .ref (a 6), .ref (a 9), .ref (a 14), .ref (a 17), .ref (a 18), .ref (a 19), .int (S 0 10), .int (S 0 11), .int (S 0 12), .int (S 0 13), .int (S 0 14), .int (S 0 15), .int (S 0 16)].set 15 (.int v))) = wsK h0 a cI cB (st S 0 15 v) := rfl
theorem sK_0_16 (h0 : Nat) (a : Nat → Nat) (cI cB : ClassId) (S : St) (v : Int32) : (wsK h0 a cI cB S).set 0 (h0, .inr (0, [.ref (a 1), .ref (a 2), .ref (a 3), .ref (a 4), .ref (a 6), .ref (a 9), .ref (a 14), .ref (a 17), .ref (a 18), .ref (a 19), .int (S 0 10), .int (S 0 11), .int (S 0 12), .int (S 0 13), .int (S 0 14), .int (S 0 15), .int (S 0 16)].set 16 (.int v))) = wsK h0 a cI cB (st S 0 16 v) := rfl
theorem sK_1 (h0 : Nat) (a : Nat → Nat) (cI cB : ClassId) (S : St) (j : Nat) (v : Int32) : (wsK h0 a cI cB S).set 1 (a 1, .inl (cI, 128, .inl (upd (S 1) j v))) = wsK h0 a cI cB (st S 1 j v) := rfl
theorem sK_2 (h0 : Nat) (a : Nat → Nat) (cI cB : ClassId) (S : St) (j : Nat) (v : Int32) : (wsK h0 a cI cB S).set 2 (a 2, .inl (cI, 32, .inl (upd (S 2) j v))) = wsK h0 a cI cB (st S 2 j v) := rfl
theorem sK_3_0 (h0 : Nat) (a : Nat → Nat) (cI cB : ClassId) (S : St) (v : Int32) : (wsK h0 a cI cB S).set 3 (a 3, .inr (2, [.int (S 3 0), .int (S 3 1), .int (S 3 2), .int (S 3 3), .int (S 3 4), .int (S 3 5), .int (S 3 6), .int (S 3 7)].set 0 (.int v))) = wsK h0 a cI cB (st S 3 0 v) := rfl
theorem sK_3_1 (h0 : Nat) (a : Nat → Nat) (cI cB : ClassId) (S : St) (v : Int32) : (wsK h0 a cI cB S).set 3 (a 3, .inr (2, [.int (S 3 0), .int (S 3 1), .int (S 3 2), .int (S 3 3), .int (S 3 4), .int (S 3 5), .int (S 3 6), .int (S 3 7)].set 1 (.int v))) = wsK h0 a cI cB (st S 3 1 v) := rfl
theorem sK_3_2 (h0 : Nat) (a : Nat → Nat) (cI cB : ClassId) (S : St) (v : Int32) : (wsK h0 a cI cB S).set 3 (a 3, .inr (2, [.int (S 3 0), .int (S 3 1), .int (S 3 2), .int (S 3 3), .int (S 3 4), .int (S 3 5), .int (S 3 6), .int (S 3 7)].set 2 (.int v))) = wsK h0 a cI cB (st S 3 2 v) := rfl
theorem sK_3_3 (h0 : Nat) (a : Nat → Nat) (cI cB : ClassId) (S : St) (v : Int32) : (wsK h0 a cI cB S).set 3 (a 3, .inr (2, [.int (S 3 0), .int (S 3 1), .int (S 3 2), .int (S 3 3), .int (S 3 4), .int (S 3 5), .int (S 3 6), .int (S 3 7)].set 3 (.int v))) = wsK h0 a cI cB (st S 3 3 v) := rfl
theorem sK_3_4 (h0 : Nat) (a : Nat → Nat) (cI cB : ClassId) (S : St) (v : Int32) : (wsK h0 a cI cB S).set 3 (a 3, .inr (2, [.int (S 3 0), .int (S 3 1), .int (S 3 2), .int (S 3 3), .int (S 3 4), .int (S 3 5), .int (S 3 6), .int (S 3 7)].set 4 (.int v))) = wsK h0 a cI cB (st S 3 4 v) := rfl
theorem sK_3_5 (h0 : Nat) (a : Nat → Nat) (cI cB : ClassId) (S : St) (v : Int32) : (wsK h0 a cI cB S).set 3 (a 3, .inr (2, [.int (S 3 0), .int (S 3 1), .int (S 3 2), .int (S 3 3), .int (S 3 4), .int (S 3 5), .int (S 3 6), .int (S 3 7)].set 5 (.int v))) = wsK h0 a cI cB (st S 3 5 v) := rfl
theorem sK_3_6 (h0 : Nat) (a : Nat → Nat) (cI cB : ClassId) (S : St) (v : Int32) : (wsK h0 a cI cB S).set 3 (a 3, .inr (2, [.int (S 3 0), .int (S 3 1), .int (S 3 2), .int (S 3 3), .int (S 3 4), .int (S 3 5), .int (S 3 6), .int (S 3 7)].set 6 (.int v))) = wsK h0 a cI cB (st S 3 6 v) := rfl
theorem sK_3_7 (h0 : Nat) (a : Nat → Nat) (cI cB : ClassId) (S : St) (v : Int32) : (wsK h0 a cI cB S).set 3 (a 3, .inr (2, [.int (S 3 0), .int (S 3 1), .int (S 3 2), .int (S 3 3), .int (S 3 4), .int (S 3 5), .int (S 3 6), .int (S 3 7)].set 7 (.int v))) = wsK h0 a cI cB (st S 3 7 v) := rfl
theorem sK_5 (h0 : Nat) (a : Nat → Nat) (cI cB : ClassId) (S : St) (j : Nat) (v : Int32) : (wsK h0 a cI cB S).set 5 (a 5, .inl (cI, 64, .inl (upd (S 4) j v))) = wsK h0 a cI cB (st S 4 j v) := rfl
theorem sK_6_0 (h0 : Nat) (a : Nat → Nat) (cI cB : ClassId) (S : St) (v : Int32) : (wsK h0 a cI cB S).set 6 (a 6, .inr (1, [.int (S 5 0), .ref (a 7), .ref (a 8)].set 0 (.int v))) = wsK h0 a cI cB (st S 5 0 v) := rfl
theorem sK_7 (h0 : Nat) (a : Nat → Nat) (cI cB : ClassId) (S : St) (j : Nat) (v : Int32) : (wsK h0 a cI cB S).set 7 (a 7, .inl (cI, 4, .inl (upd (S 6) j v))) = wsK h0 a cI cB (st S 6 j v) := rfl
theorem sK_8 (h0 : Nat) (a : Nat → Nat) (cI cB : ClassId) (S : St) (j : Nat) (v : Int32) : (wsK h0 a cI cB S).set 8 (a 8, .inl (cB, 4, .inl (upd (S 7) j v))) = wsK h0 a cI cB (st S 7 j v) := rfl
theorem sK_10 (h0 : Nat) (a : Nat → Nat) (cI cB : ClassId) (S : St) (j : Nat) (v : Int32) : (wsK h0 a cI cB S).set 10 (a 10, .inl (cI, 12, .inl (upd (S 8) j v))) = wsK h0 a cI cB (st S 8 j v) := rfl
theorem sK_11 (h0 : Nat) (a : Nat → Nat) (cI cB : ClassId) (S : St) (j : Nat) (v : Int32) : (wsK h0 a cI cB S).set 11 (a 11, .inl (cI, 12, .inl (upd (S 9) j v))) = wsK h0 a cI cB (st S 9 j v) := rfl
theorem sK_12 (h0 : Nat) (a : Nat → Nat) (cI cB : ClassId) (S : St) (j : Nat) (v : Int32) : (wsK h0 a cI cB S).set 12 (a 12, .inl (cI, 12, .inl (upd (S 10) j v))) = wsK h0 a cI cB (st S 10 j v) := rfl
theorem sK_13 (h0 : Nat) (a : Nat → Nat) (cI cB : ClassId) (S : St) (j : Nat) (v : Int32) : (wsK h0 a cI cB S).set 13 (a 13, .inl (cI, 2, .inl (upd (S 11) j v))) = wsK h0 a cI cB (st S 11 j v) := rfl
theorem sK_14_2 (h0 : Nat) (a : Nat → Nat) (cI cB : ClassId) (S : St) (v : Int32) : (wsK h0 a cI cB S).set 14 (a 14, .inr (5, [.ref (a 15), .ref (a 16), .int (S 12 2)].set 2 (.int v))) = wsK h0 a cI cB (st S 12 2 v) := rfl
theorem sK_15 (h0 : Nat) (a : Nat → Nat) (cI cB : ClassId) (S : St) (j : Nat) (v : Int32) : (wsK h0 a cI cB S).set 15 (a 15, .inl (cI, 16, .inl (upd (S 13) j v))) = wsK h0 a cI cB (st S 13 j v) := rfl
theorem sK_16 (h0 : Nat) (a : Nat → Nat) (cI cB : ClassId) (S : St) (j : Nat) (v : Int32) : (wsK h0 a cI cB S).set 16 (a 16, .inl (cI, 16, .inl (upd (S 14) j v))) = wsK h0 a cI cB (st S 14 j v) := rfl
theorem sK_17_0 (h0 : Nat) (a : Nat → Nat) (cI cB : ClassId) (S : St) (v : Int32) : (wsK h0 a cI cB S).set 17 (a 17, .inr (6, [.int (S 15 0), .int (S 15 1), .int (S 15 2), .int (S 15 3), .int (S 15 4), .int (S 15 5), .int (S 15 6), .int (S 15 7), .int (S 15 8), .int (S 15 9), .int (S 15 10), .int (S 15 11)].set 0 (.int v))) = wsK h0 a cI cB (st S 15 0 v) := rfl
theorem sK_17_1 (h0 : Nat) (a : Nat → Nat) (cI cB : ClassId) (S : St) (v : Int32) : (wsK h0 a cI cB S).set 17 (a 17, .inr (6, [.int (S 15 0), .int (S 15 1), .int (S 15 2), .int (S 15 3), .int (S 15 4), .int (S 15 5), .int (S 15 6), .int (S 15 7), .int (S 15 8), .int (S 15 9), .int (S 15 10), .int (S 15 11)].set 1 (.int v))) = wsK h0 a cI cB (st S 15 1 v) := rfl
theorem sK_17_2 (h0 : Nat) (a : Nat → Nat) (cI cB : ClassId) (S : St) (v : Int32) : (wsK h0 a cI cB S).set 17 (a 17, .inr (6, [.int (S 15 0), .int (S 15 1), .int (S 15 2), .int (S 15 3), .int (S 15 4), .int (S 15 5), .int (S 15 6), .int (S 15 7), .int (S 15 8), .int (S 15 9), .int (S 15 10), .int (S 15 11)].set 2 (.int v))) = wsK h0 a cI cB (st S 15 2 v) := rfl
theorem sK_17_3 (h0 : Nat) (a : Nat → Nat) (cI cB : ClassId) (S : St) (v : Int32) : (wsK h0 a cI cB S).set 17 (a 17, .inr (6, [.int (S 15 0), .int (S 15 1), .int (S 15 2), .int (S 15 3), .int (S 15 4), .int (S 15 5), .int (S 15 6), .int (S 15 7), .int (S 15 8), .int (S 15 9), .int (S 15 10), .int (S 15 11)].set 3 (.int v))) = wsK h0 a cI cB (st S 15 3 v) := rfl
theorem sK_17_4 (h0 : Nat) (a : Nat → Nat) (cI cB : ClassId) (S : St) (v : Int32) : (wsK h0 a cI cB S).set 17 (a 17, .inr (6, [.int (S 15 0), .int (S 15 1), .int (S 15 2), .int (S 15 3), .int (S 15 4), .int (S 15 5), .int (S 15 6), .int (S 15 7), .int (S 15 8), .int (S 15 9), .int (S 15 10), .int (S 15 11)].set 4 (.int v))) = wsK h0 a cI cB (st S 15 4 v) := rfl
theorem sK_17_5 (h0 : Nat) (a : Nat → Nat) (cI cB : ClassId) (S : St) (v : Int32) : (wsK h0 a cI cB S).set 17 (a 17, .inr (6, [.int (S 15 0), .int (S 15 1), .int (S 15 2), .int (S 15 3), .int (S 15 4), .int (S 15 5), .int (S 15 6), .int (S 15 7), .int (S 15 8), .int (S 15 9), .int (S 15 10), .int (S 15 11)].set 5 (.int v))) = wsK h0 a cI cB (st S 15 5 v) := rfl
theorem sK_17_6 (h0 : Nat) (a : Nat → Nat) (cI cB : ClassId) (S : St) (v : Int32) : (wsK h0 a cI cB S).set 17 (a 17, .inr (6, [.int (S 15 0), .int (S 15 1), .int (S 15 2), .int (S 15 3), .int (S 15 4), .int (S 15 5), .int (S 15 6), .int (S 15 7), .int (S 15 8), .int (S 15 9), .int (S 15 10), .int (S 15 11)].set 6 (.int v))) = wsK h0 a cI cB (st S 15 6 v) := rfl
theorem sK_17_7 (h0 : Nat) (a : Nat → Nat) (cI cB : ClassId) (S : St) (v : Int32) : (wsK h0 a cI cB S).set 17 (a 17, .inr (6, [.int (S 15 0), .int (S 15 1), .int (S 15 2), .int (S 15 3), .int (S 15 4), .int (S 15 5), .int (S 15 6), .int (S 15 7), .int (S 15 8), .int (S 15 9), .int (S 15 10), .int (S 15 11)].set 7 (.int v))) = wsK h0 a cI cB (st S 15 7 v) := rfl
theorem sK_17_8 (h0 : Nat) (a : Nat → Nat) (cI cB : ClassId) (S : St) (v : Int32) : (wsK h0 a cI cB S).set 17 (a 17, .inr (6, [.int (S 15 0), .int (S 15 1), .int (S 15 2), .int (S 15 3), .int (S 15 4), .int (S 15 5), .int (S 15 6), .int (S 15 7), .int (S 15 8), .int (S 15 9), .int (S 15 10), .int (S 15 11)].set 8 (.int v))) = wsK h0 a cI cB (st S 15 8 v) := rfl
theorem sK_17_9 (h0 : Nat) (a : Nat → Nat) (cI cB : ClassId) (S : St) (v : Int32) : (wsK h0 a cI cB S).set 17 (a 17, .inr (6, [.int (S 15 0), .int (S 15 1), .int (S 15 2), .int (S 15 3), .int (S 15 4), .int (S 15 5), .int (S 15 6), .int (S 15 7), .int (S 15 8), .int (S 15 9), .int (S 15 10), .int (S 15 11)].set 9 (.int v))) = wsK h0 a cI cB (st S 15 9 v) := rfl
theorem sK_17_10 (h0 : Nat) (a : Nat → Nat) (cI cB : ClassId) (S : St) (v : Int32) : (wsK h0 a cI cB S).set 17 (a 17, .inr (6, [.int (S 15 0), .int (S 15 1), .int (S 15 2), .int (S 15 3), .int (S 15 4), .int (S 15 5), .int (S 15 6), .int (S 15 7), .int (S 15 8), .int (S 15 9), .int (S 15 10), .int (S 15 11)].set 10 (.int v))) = wsK h0 a cI cB (st S 15 10 v) := rfl
theorem sK_17_11 (h0 : Nat) (a : Nat → Nat) (cI cB : ClassId) (S : St) (v : Int32) : (wsK h0 a cI cB S).set 17 (a 17, .inr (6, [.int (S 15 0), .int (S 15 1), .int (S 15 2), .int (S 15 3), .int (S 15 4), .int (S 15 5), .int (S 15 6), .int (S 15 7), .int (S 15 8), .int (S 15 9), .int (S 15 10), .int (S 15 11)].set 11 (.int v))) = wsK h0 a cI cB (st S 15 11 v) := rfl
theorem sK_18_0 (h0 : Nat) (a : Nat → Nat) (cI cB : ClassId) (S : St) (v : Int32) : (wsK h0 a cI cB S).set 18 (a 18, .inr (3, [.int (S 16 0), .int (S 16 1), .int (S 16 2), .int (S 16 3), .int (S 16 4), .int (S 16 5), .int (S 16 6), .int (S 16 7), .int (S 16 8), .int (S 16 9), .int (S 16 10), .int (S 16 11), .int (S 16 12), .int (S 16 13), .int (S 16 14), .int (S 16 15), .int (S 16 16), .int (S 16 17)].set 0 (.int v))) = wsK h0 a cI cB (st S 16 0 v) := rfl
theorem sK_18_1 (h0 : Nat) (a : Nat → Nat) (cI cB : ClassId) (S : St) (v : Int32) : (wsK h0 a cI cB S).set 18 (a 18, .inr (3, [.int (S 16 0), .int (S 16 1), .int (S 16 2), .int (S 16 3), .int (S 16 4), .int (S 16 5), .int (S 16 6), .int (S 16 7), .int (S 16 8), .int (S 16 9), .int (S 16 10), .int (S 16 11), .int (S 16 12), .int (S 16 13), .int (S 16 14), .int (S 16 15), .int (S 16 16), .int (S 16 17)].set 1 (.int v))) = wsK h0 a cI cB (st S 16 1 v) := rfl
theorem sK_18_2 (h0 : Nat) (a : Nat → Nat) (cI cB : ClassId) (S : St) (v : Int32) : (wsK h0 a cI cB S).set 18 (a 18, .inr (3, [.int (S 16 0), .int (S 16 1), .int (S 16 2), .int (S 16 3), .int (S 16 4), .int (S 16 5), .int (S 16 6), .int (S 16 7), .int (S 16 8), .int (S 16 9), .int (S 16 10), .int (S 16 11), .int (S 16 12), .int (S 16 13), .int (S 16 14), .int (S 16 15), .int (S 16 16), .int (S 16 17)].set 2 (.int v))) = wsK h0 a cI cB (st S 16 2 v) := rfl
theorem sK_18_3 (h0 : Nat) (a : Nat → Nat) (cI cB : ClassId) (S : St) (v : Int32) : (wsK h0 a cI cB S).set 18 (a 18, .inr (3, [.int (S 16 0), .int (S 16 1), .int (S 16 2), .int (S 16 3), .int (S 16 4), .int (S 16 5), .int (S 16 6), .int (S 16 7), .int (S 16 8), .int (S 16 9), .int (S 16 10), .int (S 16 11), .int (S 16 12), .int (S 16 13), .int (S 16 14), .int (S 16 15), .int (S 16 16), .int (S 16 17)].set 3 (.int v))) = wsK h0 a cI cB (st S 16 3 v) := rfl
theorem sK_18_4 (h0 : Nat) (a : Nat → Nat) (cI cB : ClassId) (S : St) (v : Int32) : (wsK h0 a cI cB S).set 18 (a 18, .inr (3, [.int (S 16 0), .int (S 16 1), .int (S 16 2), .int (S 16 3), .int (S 16 4), .int (S 16 5), .int (S 16 6), .int (S 16 7), .int (S 16 8), .int (S 16 9), .int (S 16 10), .int (S 16 11), .int (S 16 12), .int (S 16 13), .int (S 16 14), .int (S 16 15), .int (S 16 16), .int (S 16 17)].set 4 (.int v))) = wsK h0 a cI cB (st S 16 4 v) := rfl
theorem sK_18_5 (h0 : Nat) (a : Nat → Nat) (cI cB : ClassId) (S : St) (v : Int32) : (wsK h0 a cI cB S).set 18 (a 18, .inr (3, [.int (S 16 0), .int (S 16 1), .int (S 16 2), .int (S 16 3), .int (S 16 4), .int (S 16 5), .int (S 16 6), .int (S 16 7), .int (S 16 8), .int (S 16 9), .int (S 16 10), .int (S 16 11), .int (S 16 12), .int (S 16 13), .int (S 16 14), .int (S 16 15), .int (S 16 16), .int (S 16 17)].set 5 (.int v))) = wsK h0 a cI cB (st S 16 5 v) := rfl
theorem sK_18_6 (h0 : Nat) (a : Nat → Nat) (cI cB : ClassId) (S : St) (v : Int32) : (wsK h0 a cI cB S).set 18 (a 18, .inr (3, [.int (S 16 0), .int (S 16 1), .int (S 16 2), .int (S 16 3), .int (S 16 4), .int (S 16 5), .int (S 16 6), .int (S 16 7), .int (S 16 8), .int (S 16 9), .int (S 16 10), .int (S 16 11), .int (S 16 12), .int (S 16 13), .int (S 16 14), .int (S 16 15), .int (S 16 16), .int (S 16 17)].set 6 (.int v))) = wsK h0 a cI cB (st S 16 6 v) := rfl
theorem sK_18_7 (h0 : Nat) (a : Nat → Nat) (cI cB : ClassId) (S : St) (v : Int32) : (wsK h0 a cI cB S).set 18 (a 18, .inr (3, [.int (S 16 0), .int (S 16 1), .int (S 16 2), .int (S 16 3), .int (S 16 4), .int (S 16 5), .int (S 16 6), .int (S 16 7), .int (S 16 8), .int (S 16 9), .int (S 16 10), .int (S 16 11), .int (S 16 12), .int (S 16 13), .int (S 16 14), .int (S 16 15), .int (S 16 16), .int (S 16 17)].set 7 (.int v))) = wsK h0 a cI cB (st S 16 7 v) := rfl
theorem sK_18_8 (h0 : Nat) (a : Nat → Nat) (cI cB : ClassId) (S : St) (v : Int32) : (wsK h0 a cI cB S).set 18 (a 18, .inr (3, [.int (S 16 0), .int (S 16 1), .int (S 16 2), .int (S 16 3), .int (S 16 4), .int (S 16 5), .int (S 16 6), .int (S 16 7), .int (S 16 8), .int (S 16 9), .int (S 16 10), .int (S 16 11), .int (S 16 12), .int (S 16 13), .int (S 16 14), .int (S 16 15), .int (S 16 16), .int (S 16 17)].set 8 (.int v))) = wsK h0 a cI cB (st S 16 8 v) := rfl
theorem sK_18_9 (h0 : Nat) (a : Nat → Nat) (cI cB : ClassId) (S : St) (v : Int32) : (wsK h0 a cI cB S).set 18 (a 18, .inr (3, [.int (S 16 0), .int (S 16 1), .int (S 16 2), .int (S 16 3), .int (S 16 4), .int (S 16 5), .int (S 16 6), .int (S 16 7), .int (S 16 8), .int (S 16 9), .int (S 16 10), .int (S 16 11), .int (S 16 12), .int (S 16 13), .int (S 16 14), .int (S 16 15), .int (S 16 16), .int (S 16 17)].set 9 (.int v))) = wsK h0 a cI cB (st S 16 9 v) := rfl
theorem sK_18_10 (h0 : Nat) (a : Nat → Nat) (cI cB : ClassId) (S : St) (v : Int32) : (wsK h0 a cI cB S).set 18 (a 18, .inr (3, [.int (S 16 0), .int (S 16 1), .int (S 16 2), .int (S 16 3), .int (S 16 4), .int (S 16 5), .int (S 16 6), .int (S 16 7), .int (S 16 8), .int (S 16 9), .int (S 16 10), .int (S 16 11), .int (S 16 12), .int (S 16 13), .int (S 16 14), .int (S 16 15), .int (S 16 16), .int (S 16 17)].set 10 (.int v))) = wsK h0 a cI cB (st S 16 10 v) := rfl
theorem sK_18_11 (h0 : Nat) (a : Nat → Nat) (cI cB : ClassId) (S : St) (v : Int32) : (wsK h0 a cI cB S).set 18 (a 18, .inr (3, [.int (S 16 0), .int (S 16 1), .int (S 16 2), .int (S 16 3), .int (S 16 4), .int (S 16 5), .int (S 16 6), .int (S 16 7), .int (S 16 8), .int (S 16 9), .int (S 16 10), .int (S 16 11), .int (S 16 12), .int (S 16 13), .int (S 16 14), .int (S 16 15), .int (S 16 16), .int (S 16 17)].set 11 (.int v))) = wsK h0 a cI cB (st S 16 11 v) := rfl
theorem sK_18_12 (h0 : Nat) (a : Nat → Nat) (cI cB : ClassId) (S : St) (v : Int32) : (wsK h0 a cI cB S).set 18 (a 18, .inr (3, [.int (S 16 0), .int (S 16 1), .int (S 16 2), .int (S 16 3), .int (S 16 4), .int (S 16 5), .int (S 16 6), .int (S 16 7), .int (S 16 8), .int (S 16 9), .int (S 16 10), .int (S 16 11), .int (S 16 12), .int (S 16 13), .int (S 16 14), .int (S 16 15), .int (S 16 16), .int (S 16 17)].set 12 (.int v))) = wsK h0 a cI cB (st S 16 12 v) := rfl
theorem sK_18_13 (h0 : Nat) (a : Nat → Nat) (cI cB : ClassId) (S : St) (v : Int32) : (wsK h0 a cI cB S).set 18 (a 18, .inr (3, [.int (S 16 0), .int (S 16 1), .int (S 16 2), .int (S 16 3), .int (S 16 4), .int (S 16 5), .int (S 16 6), .int (S 16 7), .int (S 16 8), .int (S 16 9), .int (S 16 10), .int (S 16 11), .int (S 16 12), .int (S 16 13), .int (S 16 14), .int (S 16 15), .int (S 16 16), .int (S 16 17)].set 13 (.int v))) = wsK h0 a cI cB (st S 16 13 v) := rfl
theorem sK_18_14 (h0 : Nat) (a : Nat → Nat) (cI cB : ClassId) (S : St) (v : Int32) : (wsK h0 a cI cB S).set 18 (a 18, .inr (3, [.int (S 16 0), .int (S 16 1), .int (S 16 2), .int (S 16 3), .int (S 16 4), .int (S 16 5), .int (S 16 6), .int (S 16 7), .int (S 16 8), .int (S 16 9), .int (S 16 10), .int (S 16 11), .int (S 16 12), .int (S 16 13), .int (S 16 14), .int (S 16 15), .int (S 16 16), .int (S 16 17)].set 14 (.int v))) = wsK h0 a cI cB (st S 16 14 v) := rfl
theorem sK_18_15 (h0 : Nat) (a : Nat → Nat) (cI cB : ClassId) (S : St) (v : Int32) : (wsK h0 a cI cB S).set 18 (a 18, .inr (3, [.int (S 16 0), .int (S 16 1), .int (S 16 2), .int (S 16 3), .int (S 16 4), .int (S 16 5), .int (S 16 6), .int (S 16 7), .int (S 16 8), .int (S 16 9), .int (S 16 10), .int (S 16 11), .int (S 16 12), .int (S 16 13), .int (S 16 14), .int (S 16 15), .int (S 16 16), .int (S 16 17)].set 15 (.int v))) = wsK h0 a cI cB (st S 16 15 v) := rfl
theorem sK_18_16 (h0 : Nat) (a : Nat → Nat) (cI cB : ClassId) (S : St) (v : Int32) : (wsK h0 a cI cB S).set 18 (a 18, .inr (3, [.int (S 16 0), .int (S 16 1), .int (S 16 2), .int (S 16 3), .int (S 16 4), .int (S 16 5), .int (S 16 6), .int (S 16 7), .int (S 16 8), .int (S 16 9), .int (S 16 10), .int (S 16 11), .int (S 16 12), .int (S 16 13), .int (S 16 14), .int (S 16 15), .int (S 16 16), .int (S 16 17)].set 16 (.int v))) = wsK h0 a cI cB (st S 16 16 v) := rfl
theorem sK_18_17 (h0 : Nat) (a : Nat → Nat) (cI cB : ClassId) (S : St) (v : Int32) : (wsK h0 a cI cB S).set 18 (a 18, .inr (3, [.int (S 16 0), .int (S 16 1), .int (S 16 2), .int (S 16 3), .int (S 16 4), .int (S 16 5), .int (S 16 6), .int (S 16 7), .int (S 16 8), .int (S 16 9), .int (S 16 10), .int (S 16 11), .int (S 16 12), .int (S 16 13), .int (S 16 14), .int (S 16 15), .int (S 16 16), .int (S 16 17)].set 17 (.int v))) = wsK h0 a cI cB (st S 16 17 v) := rfl
theorem sK_19_0 (h0 : Nat) (a : Nat → Nat) (cI cB : ClassId) (S : St) (v : Int32) : (wsK h0 a cI cB S).set 19 (a 19, .inr (3, [.int (S 17 0), .int (S 17 1), .int (S 17 2), .int (S 17 3), .int (S 17 4), .int (S 17 5), .int (S 17 6), .int (S 17 7), .int (S 17 8), .int (S 17 9), .int (S 17 10), .int (S 17 11), .int (S 17 12), .int (S 17 13), .int (S 17 14), .int (S 17 15), .int (S 17 16), .int (S 17 17)].set 0 (.int v))) = wsK h0 a cI cB (st S 17 0 v) := rfl
theorem sK_19_1 (h0 : Nat) (a : Nat → Nat) (cI cB : ClassId) (S : St) (v : Int32) : (wsK h0 a cI cB S).set 19 (a 19, .inr (3, [.int (S 17 0), .int (S 17 1), .int (S 17 2), .int (S 17 3), .int (S 17 4), .int (S 17 5), .int (S 17 6), .int (S 17 7), .int (S 17 8), .int (S 17 9), .int (S 17 10), .int (S 17 11), .int (S 17 12), .int (S 17 13), .int (S 17 14), .int (S 17 15), .int (S 17 16), .int (S 17 17)].set 1 (.int v))) = wsK h0 a cI cB (st S 17 1 v) := rfl
theorem sK_19_2 (h0 : Nat) (a : Nat → Nat) (cI cB : ClassId) (S : St) (v : Int32) : (wsK h0 a cI cB S).set 19 (a 19, .inr (3, [.int (S 17 0), .int (S 17 1), .int (S 17 2), .int (S 17 3), .int (S 17 4), .int (S 17 5), .int (S 17 6), .int (S 17 7), .int (S 17 8), .int (S 17 9), .int (S 17 10), .int (S 17 11), .int (S 17 12), .int (S 17 13), .int (S 17 14), .int (S 17 15), .int (S 17 16), .int (S 17 17)].set 2 (.int v))) = wsK h0 a cI cB (st S 17 2 v) := rfl
theorem sK_19_3 (h0 : Nat) (a : Nat → Nat) (cI cB : ClassId) (S : St) (v : Int32) : (wsK h0 a cI cB S).set 19 (a 19, .inr (3, [.int (S 17 0), .int (S 17 1), .int (S 17 2), .int (S 17 3), .int (S 17 4), .int (S 17 5), .int (S 17 6), .int (S 17 7), .int (S 17 8), .int (S 17 9), .int (S 17 10), .int (S 17 11), .int (S 17 12), .int (S 17 13), .int (S 17 14), .int (S 17 15), .int (S 17 16), .int (S 17 17)].set 3 (.int v))) = wsK h0 a cI cB (st S 17 3 v) := rfl
theorem sK_19_4 (h0 : Nat) (a : Nat → Nat) (cI cB : ClassId) (S : St) (v : Int32) : (wsK h0 a cI cB S).set 19 (a 19, .inr (3, [.int (S 17 0), .int (S 17 1), .int (S 17 2), .int (S 17 3), .int (S 17 4), .int (S 17 5), .int (S 17 6), .int (S 17 7), .int (S 17 8), .int (S 17 9), .int (S 17 10), .int (S 17 11), .int (S 17 12), .int (S 17 13), .int (S 17 14), .int (S 17 15), .int (S 17 16), .int (S 17 17)].set 4 (.int v))) = wsK h0 a cI cB (st S 17 4 v) := rfl
theorem sK_19_5 (h0 : Nat) (a : Nat → Nat) (cI cB : ClassId) (S : St) (v : Int32) : (wsK h0 a cI cB S).set 19 (a 19, .inr (3, [.int (S 17 0), .int (S 17 1), .int (S 17 2), .int (S 17 3), .int (S 17 4), .int (S 17 5), .int (S 17 6), .int (S 17 7), .int (S 17 8), .int (S 17 9), .int (S 17 10), .int (S 17 11), .int (S 17 12), .int (S 17 13), .int (S 17 14), .int (S 17 15), .int (S 17 16), .int (S 17 17)].set 5 (.int v))) = wsK h0 a cI cB (st S 17 5 v) := rfl
theorem sK_19_6 (h0 : Nat) (a : Nat → Nat) (cI cB : ClassId) (S : St) (v : Int32) : (wsK h0 a cI cB S).set 19 (a 19, .inr (3, [.int (S 17 0), .int (S 17 1), .int (S 17 2), .int (S 17 3), .int (S 17 4), .int (S 17 5), .int (S 17 6), .int (S 17 7), .int (S 17 8), .int (S 17 9), .int (S 17 10), .int (S 17 11), .int (S 17 12), .int (S 17 13), .int (S 17 14), .int (S 17 15), .int (S 17 16), .int (S 17 17)].set 6 (.int v))) = wsK h0 a cI cB (st S 17 6 v) := rfl
theorem sK_19_7 (h0 : Nat) (a : Nat → Nat) (cI cB : ClassId) (S : St) (v : Int32) : (wsK h0 a cI cB S).set 19 (a 19, .inr (3, [.int (S 17 0), .int (S 17 1), .int (S 17 2), .int (S 17 3), .int (S 17 4), .int (S 17 5), .int (S 17 6), .int (S 17 7), .int (S 17 8), .int (S 17 9), .int (S 17 10), .int (S 17 11), .int (S 17 12), .int (S 17 13), .int (S 17 14), .int (S 17 15), .int (S 17 16), .int (S 17 17)].set 7 (.int v))) = wsK h0 a cI cB (st S 17 7 v) := rfl
theorem sK_19_8 (h0 : Nat) (a : Nat → Nat) (cI cB : ClassId) (S : St) (v : Int32) : (wsK h0 a cI cB S).set 19 (a 19, .inr (3, [.int (S 17 0), .int (S 17 1), .int (S 17 2), .int (S 17 3), .int (S 17 4), .int (S 17 5), .int (S 17 6), .int (S 17 7), .int (S 17 8), .int (S 17 9), .int (S 17 10), .int (S 17 11), .int (S 17 12), .int (S 17 13), .int (S 17 14), .int (S 17 15), .int (S 17 16), .int (S 17 17)].set 8 (.int v))) = wsK h0 a cI cB (st S 17 8 v) := rfl
theorem sK_19_9 (h0 : Nat) (a : Nat → Nat) (cI cB : ClassId) (S : St) (v : Int32) : (wsK h0 a cI cB S).set 19 (a 19, .inr (3, [.int (S 17 0), .int (S 17 1), .int (S 17 2), .int (S 17 3), .int (S 17 4), .int (S 17 5), .int (S 17 6), .int (S 17 7), .int (S 17 8), .int (S 17 9), .int (S 17 10), .int (S 17 11), .int (S 17 12), .int (S 17 13), .int (S 17 14), .int (S 17 15), .int (S 17 16), .int (S 17 17)].set 9 (.int v))) = wsK h0 a cI cB (st S 17 9 v) := rfl
theorem sK_19_10 (h0 : Nat) (a : Nat → Nat) (cI cB : ClassId) (S : St) (v : Int32) : (wsK h0 a cI cB S).set 19 (a 19, .inr (3, [.int (S 17 0), .int (S 17 1), .int (S 17 2), .int (S 17 3), .int (S 17 4), .int (S 17 5), .int (S 17 6), .int (S 17 7), .int (S 17 8), .int (S 17 9), .int (S 17 10), .int (S 17 11), .int (S 17 12), .int (S 17 13), .int (S 17 14), .int (S 17 15), .int (S 17 16), .int (S 17 17)].set 10 (.int v))) = wsK h0 a cI cB (st S 17 10 v) := rfl
theorem sK_19_11 (h0 : Nat) (a : Nat → Nat) (cI cB : ClassId) (S : St) (v : Int32) : (wsK h0 a cI cB S).set 19 (a 19, .inr (3, [.int (S 17 0), .int (S 17 1), .int (S 17 2), .int (S 17 3), .int (S 17 4), .int (S 17 5), .int (S 17 6), .int (S 17 7), .int (S 17 8), .int (S 17 9), .int (S 17 10), .int (S 17 11), .int (S 17 12), .int (S 17 13), .int (S 17 14), .int (S 17 15), .int (S 17 16), .int (S 17 17)].set 11 (.int v))) = wsK h0 a cI cB (st S 17 11 v) := rfl
theorem sK_19_12 (h0 : Nat) (a : Nat → Nat) (cI cB : ClassId) (S : St) (v : Int32) : (wsK h0 a cI cB S).set 19 (a 19, .inr (3, [.int (S 17 0), .int (S 17 1), .int (S 17 2), .int (S 17 3), .int (S 17 4), .int (S 17 5), .int (S 17 6), .int (S 17 7), .int (S 17 8), .int (S 17 9), .int (S 17 10), .int (S 17 11), .int (S 17 12), .int (S 17 13), .int (S 17 14), .int (S 17 15), .int (S 17 16), .int (S 17 17)].set 12 (.int v))) = wsK h0 a cI cB (st S 17 12 v) := rfl
theorem sK_19_13 (h0 : Nat) (a : Nat → Nat) (cI cB : ClassId) (S : St) (v : Int32) : (wsK h0 a cI cB S).set 19 (a 19, .inr (3, [.int (S 17 0), .int (S 17 1), .int (S 17 2), .int (S 17 3), .int (S 17 4), .int (S 17 5), .int (S 17 6), .int (S 17 7), .int (S 17 8), .int (S 17 9), .int (S 17 10), .int (S 17 11), .int (S 17 12), .int (S 17 13), .int (S 17 14), .int (S 17 15), .int (S 17 16), .int (S 17 17)].set 13 (.int v))) = wsK h0 a cI cB (st S 17 13 v) := rfl
theorem sK_19_14 (h0 : Nat) (a : Nat → Nat) (cI cB : ClassId) (S : St) (v : Int32) : (wsK h0 a cI cB S).set 19 (a 19, .inr (3, [.int (S 17 0), .int (S 17 1), .int (S 17 2), .int (S 17 3), .int (S 17 4), .int (S 17 5), .int (S 17 6), .int (S 17 7), .int (S 17 8), .int (S 17 9), .int (S 17 10), .int (S 17 11), .int (S 17 12), .int (S 17 13), .int (S 17 14), .int (S 17 15), .int (S 17 16), .int (S 17 17)].set 14 (.int v))) = wsK h0 a cI cB (st S 17 14 v) := rfl
theorem sK_19_15 (h0 : Nat) (a : Nat → Nat) (cI cB : ClassId) (S : St) (v : Int32) : (wsK h0 a cI cB S).set 19 (a 19, .inr (3, [.int (S 17 0), .int (S 17 1), .int (S 17 2), .int (S 17 3), .int (S 17 4), .int (S 17 5), .int (S 17 6), .int (S 17 7), .int (S 17 8), .int (S 17 9), .int (S 17 10), .int (S 17 11), .int (S 17 12), .int (S 17 13), .int (S 17 14), .int (S 17 15), .int (S 17 16), .int (S 17 17)].set 15 (.int v))) = wsK h0 a cI cB (st S 17 15 v) := rfl
theorem sK_19_16 (h0 : Nat) (a : Nat → Nat) (cI cB : ClassId) (S : St) (v : Int32) : (wsK h0 a cI cB S).set 19 (a 19, .inr (3, [.int (S 17 0), .int (S 17 1), .int (S 17 2), .int (S 17 3), .int (S 17 4), .int (S 17 5), .int (S 17 6), .int (S 17 7), .int (S 17 8), .int (S 17 9), .int (S 17 10), .int (S 17 11), .int (S 17 12), .int (S 17 13), .int (S 17 14), .int (S 17 15), .int (S 17 16), .int (S 17 17)].set 16 (.int v))) = wsK h0 a cI cB (st S 17 16 v) := rfl
theorem sK_19_17 (h0 : Nat) (a : Nat → Nat) (cI cB : ClassId) (S : St) (v : Int32) : (wsK h0 a cI cB S).set 19 (a 19, .inr (3, [.int (S 17 0), .int (S 17 1), .int (S 17 2), .int (S 17 3), .int (S 17 4), .int (S 17 5), .int (S 17 6), .int (S 17 7), .int (S 17 8), .int (S 17 9), .int (S 17 10), .int (S 17 11), .int (S 17 12), .int (S 17 13), .int (S 17 14), .int (S 17 15), .int (S 17 16), .int (S 17 17)].set 17 (.int v))) = wsK h0 a cI cB (st S 17 17 v) := rfl
def wsM (h0 : Nat) (a : Nat → Nat) (cI cB : ClassId) (S : St) : va_W := [(h0, .inr (8, [.int (S 0 0), .int (S 0 1), .ref (a 1), .ref (a 2), .ref (a 3), .ref (a 4), .int (S 0 6), .ref (a 5), .ref (a 6), .int (S 0 9), .int (S 0 10), .int (S 0 11), .int (S 0 12), .int (S 0 13), .int (S 0 14), .int (S 0 15), .int (S 0 16), .int (S 0 17), .ref (a 7), .ref (a 8), .ref (a 9), .ref (a 10), .ref (a 11), .ref (a 12), .ref (a 13), .ref (a 14), .ref (a 15), .ref (a 16), .ref (a 17), .ref (a 18), .ref (a 19), .ref (a 20), .int (S 0 32), .ref (a 21), .ref (a 22), .ref (a 23), .ref (a 24), .int (S 0 37), .ref (a 25), .ref (a 26), .int (S 0 40), .int (S 0 41), .int (S 0 42), .int (S 0 43), .int (S 0 44), .int (S 0 45), .int (S 0 46), .int (S 0 47), .int (S 0 48), .int (S 0 49), .int (S 0 50), .int (S 0 51), .int (S 0 52), .int (S 0 53), .int (S 0 54), .int (S 0 55)])), (a 1, .inl (cI, 128, .inl (S 1))), (a 2, .inl (cI, 32, .inl (S 2))), (a 3, .inl (cI, 64, .inl (S 3))), (a 4, .inl (cI, 8, .inl (S 4))), (a 5, .inl (cI, 32, .inl (S 5))), (a 6, .inl (cI, 64, .inl (S 6))), (a 7, .inl (cI, 160, .inl (S 7))), (a 8, .inl (cI, 160, .inl (S 8))), (a 9, .inl (cI, 160, .inl (S 9))), (a 10, .inl (cI, 160, .inl (S 10))), (a 11, .inl (cI, 160, .inl (S 11))), (a 12, .inl (cI, 160, .inl (S 12))), (a 13, .inl (cI, 160, .inl (S 13))), (a 14, .inl (cI, 160, .inl (S 14))), (a 15, .inl (cB, 160, .inl (S 15))), (a 16, .inl (cI, 4, .inl (S 16))), (a 17, .inl (cB, 4, .inl (S 17))), (a 18, .inl (cI, 8, .inl (S 18))), (a 19, .inl (cI, 8, .inl (S 19))), (a 20, .inl (cI, 8, .inl (S 20))), (a 21, .inl (cI, 160, .inl (S 21))), (a 22, .inl (cI, 160, .inl (S 22))), (a 23, .inl (cB, 160, .inl (S 23))), (a 24, .inl (cI, 160, .inl (S 24))), (a 25, .inl (cI, 16, .inl (S 25))), (a 26, .inl (cI, 16, .inl (S 26)))]
theorem sM_0_0 (h0 : Nat) (a : Nat → Nat) (cI cB : ClassId) (S : St) (v : Int32) : (wsM h0 a cI cB S).set 0 (h0, .inr (8, [.int (S 0 0), .int (S 0 1), .ref (a 1), .ref (a 2), .ref (a 3), .ref (a 4), .int (S 0 6), .ref (a 5), .ref (a 6), .int (S 0 9), .int (S 0 10), .int (S 0 11), .int (S 0 12), .int (S 0 13), .int (S 0 14), .int (S 0 15), .int (S 0 16), .int (S 0 17), .ref (a 7), .ref (a 8), .ref (a 9), .ref (a 10), .ref (a 11), .ref (a 12), .ref (a 13), .ref (a 14), .ref (a 15), .ref (a 16), .ref (a 17), .ref (a 18), .ref (a 19), .ref (a 20), .int (S 0 32), .ref (a 21), .ref (a 22), .ref (a 23), .ref (a 24), .int (S 0 37), .ref (a 25), .ref (a 26), .int (S 0 40), .int (S 0 41), .int (S 0 42), .int (S 0 43), .int (S 0 44), .int (S 0 45), .int (S 0 46), .int (S 0 47), .int (S 0 48), .int (S 0 49), .int (S 0 50), .int (S 0 51), .int (S 0 52), .int (S 0 53), .int (S 0 54), .int (S 0 55)].set 0 (.int v))) = wsM h0 a cI cB (st S 0 0 v) := rfl
theorem sM_0_1 (h0 : Nat) (a : Nat → Nat) (cI cB : ClassId) (S : St) (v : Int32) : (wsM h0 a cI cB S).set 0 (h0, .inr (8, [.int (S 0 0), .int (S 0 1), .ref (a 1), .ref (a 2), .ref (a 3), .ref (a 4), .int (S 0 6), .ref (a 5), .ref (a 6), .int (S 0 9), .int (S 0 10), .int (S 0 11), .int (S 0 12), .int (S 0 13), .int (S 0 14), .int (S 0 15), .int (S 0 16), .int (S 0 17), .ref (a 7), .ref (a 8), .ref (a 9), .ref (a 10), .ref (a 11), .ref (a 12), .ref (a 13), .ref (a 14), .ref (a 15), .ref (a 16), .ref (a 17), .ref (a 18), .ref (a 19), .ref (a 20), .int (S 0 32), .ref (a 21), .ref (a 22), .ref (a 23), .ref (a 24), .int (S 0 37), .ref (a 25), .ref (a 26), .int (S 0 40), .int (S 0 41), .int (S 0 42), .int (S 0 43), .int (S 0 44), .int (S 0 45), .int (S 0 46), .int (S 0 47), .int (S 0 48), .int (S 0 49), .int (S 0 50), .int (S 0 51), .int (S 0 52), .int (S 0 53), .int (S 0 54), .int (S 0 55)].set 1 (.int v))) = wsM h0 a cI cB (st S 0 1 v) := rfl
theorem sM_0_6 (h0 : Nat) (a : Nat → Nat) (cI cB : ClassId) (S : St) (v : Int32) : (wsM h0 a cI cB S).set 0 (h0, .inr (8, [.int (S 0 0), .int (S 0 1), .ref (a 1), .ref (a 2), .ref (a 3), .ref (a 4), .int (S 0 6), .ref (a 5), .ref (a 6), .int (S 0 9), .int (S 0 10), .int (S 0 11), .int (S 0 12), .int (S 0 13), .int (S 0 14), .int (S 0 15), .int (S 0 16), .int (S 0 17), .ref (a 7), .ref (a 8), .ref (a 9), .ref (a 10), .ref (a 11), .ref (a 12), .ref (a 13), .ref (a 14), .ref (a 15), .ref (a 16), .ref (a 17), .ref (a 18), .ref (a 19), .ref (a 20), .int (S 0 32), .ref (a 21), .ref (a 22), .ref (a 23), .ref (a 24), .int (S 0 37), .ref (a 25), .ref (a 26), .int (S 0 40), .int (S 0 41), .int (S 0 42), .int (S 0 43), .int (S 0 44), .int (S 0 45), .int (S 0 46), .int (S 0 47), .int (S 0 48), .int (S 0 49), .int (S 0 50), .int (S 0 51), .int (S 0 52), .int (S 0 53), .int (S 0 54), .int (S 0 55)].set 6 (.int v))) = wsM h0 a cI cB (st S 0 6 v) := rfl
theorem sM_0_9 (h0 : Nat) (a : Nat → Nat) (cI cB : ClassId) (S : St) (v : Int32) : (wsM h0 a cI cB S).set 0 (h0, .inr (8, [.int (S 0 0), .int (S 0 1), .ref (a 1), .ref (a 2), .ref (a 3), .ref (a 4), .int (S 0 6), .ref (a 5), .ref (a 6), .int (S 0 9), .int (S 0 10), .int (S 0 11), .int (S 0 12), .int (S 0 13), .int (S 0 14), .int (S 0 15), .int (S 0 16), .int (S 0 17), .ref (a 7), .ref (a 8), .ref (a 9), .ref (a 10), .ref (a 11), .ref (a 12), .ref (a 13), .ref (a 14), .ref (a 15), .ref (a 16), .ref (a 17), .ref (a 18), .ref (a 19), .ref (a 20), .int (S 0 32), .ref (a 21), .ref (a 22), .ref (a 23), .ref (a 24), .int (S 0 37), .ref (a 25), .ref (a 26), .int (S 0 40), .int (S 0 41), .int (S 0 42), .int (S 0 43), .int (S 0 44), .int (S 0 45), .int (S 0 46), .int (S 0 47), .int (S 0 48), .int (S 0 49), .int (S 0 50), .int (S 0 51), .int (S 0 52), .int (S 0 53), .int (S 0 54), .int (S 0 55)].set 9 (.int v))) = wsM h0 a cI cB (st S 0 9 v) := rfl
theorem sM_0_10 (h0 : Nat) (a : Nat → Nat) (cI cB : ClassId) (S : St) (v : Int32) : (wsM h0 a cI cB S).set 0 (h0, .inr (8, [.int (S 0 0), .int (S 0 1), .ref (a 1), .ref (a 2), .ref (a 3), .ref (a 4), .int (S 0 6), .ref (a 5), .ref (a 6), .int (S 0 9), .int (S 0 10), .int (S 0 11), .int (S 0 12), .int (S 0 13), .int (S 0 14), .int (S 0 15), .int (S 0 16), .int (S 0 17), .ref (a 7), .ref (a 8), .ref (a 9), .ref (a 10), .ref (a 11), .ref (a 12), .ref (a 13), .ref (a 14), .ref (a 15), .ref (a 16), .ref (a 17), .ref (a 18), .ref (a 19), .ref (a 20), .int (S 0 32), .ref (a 21), .ref (a 22), .ref (a 23), .ref (a 24), .int (S 0 37), .ref (a 25), .ref (a 26), .int (S 0 40), .int (S 0 41), .int (S 0 42), .int (S 0 43), .int (S 0 44), .int (S 0 45), .int (S 0 46), .int (S 0 47), .int (S 0 48), .int (S 0 49), .int (S 0 50), .int (S 0 51), .int (S 0 52), .int (S 0 53), .int (S 0 54), .int (S 0 55)].set 10 (.int v))) = wsM h0 a cI cB (st S 0 10 v) := rfl
theorem sM_0_11 (h0 : Nat) (a : Nat → Nat) (cI cB : ClassId) (S : St) (v : Int32) : (wsM h0 a cI cB S).set 0 (h0, .inr (8, [.int (S 0 0), .int (S 0 1), .ref (a 1), .ref (a 2), .ref (a 3), .ref (a 4), .int (S 0 6), .ref (a 5), .ref (a 6), .int (S 0 9), .int (S 0 10), .int (S 0 11), .int (S 0 12), .int (S 0 13), .int (S 0 14), .int (S 0 15), .int (S 0 16), .int (S 0 17), .ref (a 7), .ref (a 8), .ref (a 9), .ref (a 10), .ref (a 11), .ref (a 12), .ref (a 13), .ref (a 14), .ref (a 15), .ref (a 16), .ref (a 17), .ref (a 18), .ref (a 19), .ref (a 20), .int (S 0 32), .ref (a 21), .ref (a 22), .ref (a 23), .ref (a 24), .int (S 0 37), .ref (a 25), .ref (a 26), .int (S 0 40), .int (S 0 41), .int (S 0 42), .int (S 0 43), .int (S 0 44), .int (S 0 45), .int (S 0 46), .int (S 0 47), .int (S 0 48), .int (S 0 49), .int (S 0 50), .int (S 0 51), .int (S 0 52), .int (S 0 53), .int (S 0 54), .int (S 0 55)].set 11 (.int v))) = wsM h0 a cI cB (st S 0 11 v) := rfl
theorem sM_0_12 (h0 : Nat) (a : Nat → Nat) (cI cB : ClassId) (S : St) (v : Int32) : (wsM h0 a cI cB S).set 0 (h0, .inr (8, [.int (S 0 0), .int (S 0 1), .ref (a 1), .ref (a 2), .ref (a 3), .ref (a 4), .int (S 0 6), .ref (a 5), .ref (a 6), .int (S 0 9), .int (S 0 10), .int (S 0 11), .int (S 0 12), .int (S 0 13), .int (S 0 14), .int (S 0 15), .int (S 0 16), .int (S 0 17), .ref (a 7), .ref (a 8), .ref (a 9), .ref (a 10), .ref (a 11), .ref (a 12), .ref (a 13), .ref (a 14), .ref (a 15), .ref (a 16), .ref (a 17), .ref (a 18), .ref (a 19), .ref (a 20), .int (S 0 32), .ref (a 21), .ref (a 22), .ref (a 23), .ref (a 24), .int (S 0 37), .ref (a 25), .ref (a 26), .int (S 0 40), .int (S 0 41), .int (S 0 42), .int (S 0 43), .int (S 0 44), .int (S 0 45), .int (S 0 46), .int (S 0 47), .int (S 0 48), .int (S 0 49), .int (S 0 50), .int (S 0 51), .int (S 0 52), .int (S 0 53), .int (S 0 54), .int (S 0 55)].set 12 (.int v))) = wsM h0 a cI cB (st S 0 12 v) := rfl
theorem sM_0_13 (h0 : Nat) (a : Nat → Nat) (cI cB : ClassId) (S : St) (v : Int32) : (wsM h0 a cI cB S).set 0 (h0, .inr (8, [.int (S 0 0), .int (S 0 1), .ref (a 1), .ref (a 2), .ref (a 3), .ref (a 4), .int (S 0 6), .ref (a 5), .ref (a 6), .int (S 0 9), .int (S 0 10), .int (S 0 11), .int (S 0 12), .int (S 0 13), .int (S 0 14), .int (S 0 15), .int (S 0 16), .int (S 0 17), .ref (a 7), .ref (a 8), .ref (a 9), .ref (a 10), .ref (a 11), .ref (a 12), .ref (a 13), .ref (a 14), .ref (a 15), .ref (a 16), .ref (a 17), .ref (a 18), .ref (a 19), .ref (a 20), .int (S 0 32), .ref (a 21), .ref (a 22), .ref (a 23), .ref (a 24), .int (S 0 37), .ref (a 25), .ref (a 26), .int (S 0 40), .int (S 0 41), .int (S 0 42), .int (S 0 43), .int (S 0 44), .int (S 0 45), .int (S 0 46), .int (S 0 47), .int (S 0 48), .int (S 0 49), .int (S 0 50), .int (S 0 51), .int (S 0 52), .int (S 0 53), .int (S 0 54), .int (S 0 55)].set 13 (.int v))) = wsM h0 a cI cB (st S 0 13 v) := rfl
theorem sM_0_14 (h0 : Nat) (a : Nat → Nat) (cI cB : ClassId) (S : St) (v : Int32) : (wsM h0 a cI cB S).set 0 (h0, .inr (8, [.int (S 0 0), .int (S 0 1), .ref (a 1), .ref (a 2), .ref (a 3), .ref (a 4), .int (S 0 6), .ref (a 5), .ref (a 6), .int (S 0 9), .int (S 0 10), .int (S 0 11), .int (S 0 12), .int (S 0 13), .int (S 0 14), .int (S 0 15), .int (S 0 16), .int (S 0 17), .ref (a 7), .ref (a 8), .ref (a 9), .ref (a 10), .ref (a 11), .ref (a 12), .ref (a 13), .ref (a 14), .ref (a 15), .ref (a 16), .ref (a 17), .ref (a 18), .ref (a 19), .ref (a 20), .int (S 0 32), .ref (a 21), .ref (a 22), .ref (a 23), .ref (a 24), .int (S 0 37), .ref (a 25), .ref (a 26), .int (S 0 40), .int (S 0 41), .int (S 0 42), .int (S 0 43), .int (S 0 44), .int (S 0 45), .int (S 0 46), .int (S 0 47), .int (S 0 48), .int (S 0 49), .int (S 0 50), .int (S 0 51), .int (S 0 52), .int (S 0 53), .int (S 0 54), .int (S 0 55)].set 14 (.int v))) = wsM h0 a cI cB (st S 0 14 v) := rfl
theorem sM_0_15 (h0 : Nat) (a : Nat → Nat) (cI cB : ClassId) (S : St) (v : Int32) : (wsM h0 a cI cB S).set 0 (h0, .inr (8, [.int (S 0 0), .int (S 0 1), .ref (a 1), .ref (a 2), .ref (a 3), .ref (a 4), .int (S 0 6), .ref (a 5), .ref (a 6), .int (S 0 9), .int (S 0 10), .int (S 0 11), .int (S 0 12), .int (S 0 13), .int (S 0 14), .int (S 0 15), .int (S 0 16), .int (S 0 17), .ref (a 7), .ref (a 8), .ref (a 9), .ref (a 10), .ref (a 11), .ref (a 12), .ref (a 13), .ref (a 14), .ref (a 15), .ref (a 16), .ref (a 17), .ref (a 18), .ref (a 19), .ref (a 20), .int (S 0 32), .ref (a 21), .ref (a 22), .ref (a 23), .ref (a 24), .int (S 0 37), .ref (a 25), .ref (a 26), .int (S 0 40), .int (S 0 41), .int (S 0 42), .int (S 0 43), .int (S 0 44), .int (S 0 45), .int (S 0 46), .int (S 0 47), .int (S 0 48), .int (S 0 49), .int (S 0 50), .int (S 0 51), .int (S 0 52), .int (S 0 53), .int (S 0 54), .int (S 0 55)].set 15 (.int v))) = wsM h0 a cI cB (st S 0 15 v) := rfl
theorem sM_0_16 (h0 : Nat) (a : Nat → Nat) (cI cB : ClassId) (S : St) (v : Int32) : (wsM h0 a cI cB S).set 0 (h0, .inr (8, [.int (S 0 0), .int (S 0 1), .ref (a 1), .ref (a 2), .ref (a 3), .ref (a 4), .int (S 0 6), .ref (a 5), .ref (a 6), .int (S 0 9), .int (S 0 10), .int (S 0 11), .int (S 0 12), .int (S 0 13), .int (S 0 14), .int (S 0 15), .int (S 0 16), .int (S 0 17), .ref (a 7), .ref (a 8), .ref (a 9), .ref (a 10), .ref (a 11), .ref (a 12), .ref (a 13), .ref (a 14), .ref (a 15), .ref (a 16), .ref (a 17), .ref (a 18), .ref (a 19), .ref (a 20), .int (S 0 32), .ref (a 21), .ref (a 22), .ref (a 23), .ref (a 24), .int (S 0 37), .ref (a 25), .ref (a 26), .int (S 0 40), .int (S 0 41), .int (S 0 42), .int (S 0 43), .int (S 0 44), .int (S 0 45), .int (S 0 46), .int (S 0 47), .int (S 0 48), .int (S 0 49), .int (S 0 50), .int (S 0 51), .int (S 0 52), .int (S 0 53), .int (S 0 54), .int (S 0 55)].set 16 (.int v))) = wsM h0 a cI cB (st S 0 16 v) := rfl
theorem sM_0_17 (h0 : Nat) (a : Nat → Nat) (cI cB : ClassId) (S : St) (v : Int32) : (wsM h0 a cI cB S).set 0 (h0, .inr (8, [.int (S 0 0), .int (S 0 1), .ref (a 1), .ref (a 2), .ref (a 3), .ref (a 4), .int (S 0 6), .ref (a 5), .ref (a 6), .int (S 0 9), .int (S 0 10), .int (S 0 11), .int (S 0 12), .int (S 0 13), .int (S 0 14), .int (S 0 15), .int (S 0 16), .int (S 0 17), .ref (a 7), .ref (a 8), .ref (a 9), .ref (a 10), .ref (a 11), .ref (a 12), .ref (a 13), .ref (a 14), .ref (a 15), .ref (a 16), .ref (a 17), .ref (a 18), .ref (a 19), .ref (a 20), .int (S 0 32), .ref (a 21), .ref (a 22), .ref (a 23), .ref (a 24), .int (S 0 37), .ref (a 25), .ref (a 26), .int (S 0 40), .int (S 0 41), .int (S 0 42), .int (S 0 43), .int (S 0 44), .int (S 0 45), .int (S 0 46), .int (S 0 47), .int (S 0 48), .int (S 0 49), .int (S 0 50), .int (S 0 51), .int (S 0 52), .int (S 0 53), .int (S 0 54), .int (S 0 55)].set 17 (.int v))) = wsM h0 a cI cB (st S 0 17 v) := rfl
theorem sM_0_32 (h0 : Nat) (a : Nat → Nat) (cI cB : ClassId) (S : St) (v : Int32) : (wsM h0 a cI cB S).set 0 (h0, .inr (8, [.int (S 0 0), .int (S 0 1), .ref (a 1), .ref (a 2), .ref (a 3), .ref (a 4), .int (S 0 6), .ref (a 5), .ref (a 6), .int (S 0 9), .int (S 0 10), .int (S 0 11), .int (S 0 12), .int (S 0 13), .int (S 0 14), .int (S 0 15), .int (S 0 16), .int (S 0 17), .ref (a 7), .ref (a 8), .ref (a 9), .ref (a 10), .ref (a 11), .ref (a 12), .ref (a 13), .ref (a 14), .ref (a 15), .ref (a 16), .ref (a 17), .ref (a 18), .ref (a 19), .ref (a 20), .int (S 0 32), .ref (a 21), .ref (a 22), .ref (a 23), .ref (a 24), .int (S 0 37), .ref (a 25), .ref (a 26), .int (S 0 40), .int (S 0 41), .int (S 0 42), .int (S 0 43), .int (S 0 44), .int (S 0 45), .int (S 0 46), .int (S 0 47), .int (S 0 48), .int (S 0 49), .int (S 0 50), .int (S 0 51), .int (S 0 52), .int (S 0 53), .int (S 0 54), .int (S 0 55)].set 32 (.int v))) = wsM h0 a cI cB (st S 0 32 v) := rfl
theorem sM_0_37 (h0 : Nat) (a : Nat → Nat) (cI cB : ClassId) (S : St) (v : Int32) : (wsM h0 a cI cB S).set 0 (h0, .inr (8, [.int (S 0 0), .int (S 0 1), .ref (a 1), .ref (a 2), .ref (a 3), .ref (a 4), .int (S 0 6), .ref (a 5), .ref (a 6), .int (S 0 9), .int (S 0 10), .int (S 0 11), .int (S 0 12), .int (S 0 13), .int (S 0 14), .int (S 0 15), .int (S 0 16), .int (S 0 17), .ref (a 7), .ref (a 8), .ref (a 9), .ref (a 10), .ref (a 11), .ref (a 12), .ref (a 13), .ref (a 14), .ref (a 15), .ref (a 16), .ref (a 17), .ref (a 18), .ref (a 19), .ref (a 20), .int (S 0 32), .ref (a 21), .ref (a 22), .ref (a 23), .ref (a 24), .int (S 0 37), .ref (a 25), .ref (a 26), .int (S 0 40), .int (S 0 41), .int (S 0 42), .int (S 0 43), .int (S 0 44), .int (S 0 45), .int (S 0 46), .int (S 0 47), .int (S 0 48), .int (S 0 49), .int (S 0 50), .int (S 0 51), .int (S 0 52), .int (S 0 53), .int (S 0 54), .int (S 0 55)].set 37 (.int v))) = wsM h0 a cI cB (st S 0 37 v) := rfl
theorem sM_0_40 (h0 : Nat) (a : Nat → Nat) (cI cB : ClassId) (S : St) (v : Int32) : (wsM h0 a cI cB S).set 0 (h0, .inr (8, [.int (S 0 0), .int (S 0 1), .ref (a 1), .ref (a 2), .ref (a 3), .ref (a 4), .int (S 0 6), .ref (a 5), .ref (a 6), .int (S 0 9), .int (S 0 10), .int (S 0 11), .int (S 0 12), .int (S 0 13), .int (S 0 14), .int (S 0 15), .int (S 0 16), .int (S 0 17), .ref (a 7), .ref (a 8), .ref (a 9), .ref (a 10), .ref (a 11), .ref (a 12), .ref (a 13), .ref (a 14), .ref (a 15), .ref (a 16), .ref (a 17), .ref (a 18), .ref (a 19), .ref (a 20), .int (S 0 32), .ref (a 21), .ref (a 22), .ref (a 23), .ref (a 24), .int (S 0 37), .ref (a 25), .ref (a 26), .int (S 0 40), .int (S 0 41), .int (S 0 42), .int (S 0 43), .int (S 0 44), .int (S 0 45), .int (S 0 46), .int (S 0 47), .int (S 0 48), .int (S 0 49), .int (S 0 50), .int (S 0 51), .int (S 0 52), .int (S 0 53), .int (S 0 54), .int (S 0 55)].set 40 (.int v))) = wsM h0 a cI cB (st S 0 40 v) := rfl
theorem sM_0_41 (h0 : Nat) (a : Nat → Nat) (cI cB : ClassId) (S : St) (v : Int32) : (wsM h0 a cI cB S).set 0 (h0, .inr (8, [.int (S 0 0), .int (S 0 1), .ref (a 1), .ref (a 2), .ref (a 3), .ref (a 4), .int (S 0 6), .ref (a 5), .ref (a 6), .int (S 0 9), .int (S 0 10), .int (S 0 11), .int (S 0 12), .int (S 0 13), .int (S 0 14), .int (S 0 15), .int (S 0 16), .int (S 0 17), .ref (a 7), .ref (a 8), .ref (a 9), .ref (a 10), .ref (a 11), .ref (a 12), .ref (a 13), .ref (a 14), .ref (a 15), .ref (a 16), .ref (a 17), .ref (a 18), .ref (a 19), .ref (a 20), .int (S 0 32), .ref (a 21), .ref (a 22), .ref (a 23), .ref (a 24), .int (S 0 37), .ref (a 25), .ref (a 26), .int (S 0 40), .int (S 0 41), .int (S 0 42), .int (S 0 43), .int (S 0 44), .int (S 0 45), .int (S 0 46), .int (S 0 47), .int (S 0 48), .int (S 0 49), .int (S 0 50), .int (S 0 51), .int (S 0 52), .int (S 0 53), .int (S 0 54), .int (S 0 55)].set 41 (.int v))) = wsM h0 a cI cB (st S 0 41 v) := rfl
theorem sM_0_42 (h0 : Nat) (a : Nat → Nat) (cI cB : ClassId) (S : St) (v : Int32) : (wsM h0 a cI cB S).set 0 (h0, .inr (8, [.int (S 0 0), .int (S 0 1), .ref (a 1), .ref (a 2), .ref (a 3), .ref (a 4), .int (S 0 6), .ref (a 5), .ref (a 6), .int (S 0 9), .int (S 0 10), .int (S 0 11), .int (S 0 12), .int (S 0 13), .int (S 0 14), .int (S 0 15), .int (S 0 16), .int (S 0 17), .ref (a 7), .ref (a 8), .ref (a 9), .ref (a 10), .ref (a 11), .ref (a 12), .ref (a 13), .ref (a 14), .ref (a 15), .ref (a 16), .ref (a 17), .ref (a 18), .ref (a 19), .ref (a 20), .int (S 0 32), .ref (a 21), .ref (a 22), .ref (a 23), .ref (a 24), .int (S 0 37), .ref (a 25), .ref (a 26), .int (S 0 40), .int (S 0 41), .int (S 0 42), .int (S 0 43), .int (S 0 44), .int (S 0 45), .int (S 0 46), .int (S 0 47), .int (S 0 48), .int (S 0 49), .int (S 0 50), .int (S 0 51), .int (S 0 52), .int (S 0 53), .int (S 0 54), .int (S 0 55)].set 42 (.int v))) = wsM h0 a cI cB (st S 0 42 v) := rfl
theorem sM_0_43 (h0 : Nat) (a : Nat → Nat) (cI cB : ClassId) (S : St) (v : Int32) : (wsM h0 a cI cB S).set 0 (h0, .inr (8, [.int (S 0 0), .int (S 0 1), .ref (a 1), .ref (a 2), .ref (a 3), .ref (a 4), .int (S 0 6), .ref (a 5), .ref (a 6), .int (S 0 9), .int (S 0 10), .int (S 0 11), .int (S 0 12), .int (S 0 13), .int (S 0 14), .int (S 0 15), .int (S 0 16), .int (S 0 17), .ref (a 7), .ref (a 8), .ref (a 9), .ref (a 10), .ref (a 11), .ref (a 12), .ref (a 13), .ref (a 14), .ref (a 15), .ref (a 16), .ref (a 17), .ref (a 18), .ref (a 19), .ref (a 20), .int (S 0 32), .ref (a 21), .ref (a 22), .ref (a 23), .ref (a 24), .int (S 0 37), .ref (a 25), .ref (a 26), .int (S 0 40), .int (S 0 41), .int (S 0 42), .int (S 0 43), .int (S 0 44), .int (S 0 45), .int (S 0 46), .int (S 0 47), .int (S 0 48), .int (S 0 49), .int (S 0 50), .int (S 0 51), .int (S 0 52), .int (S 0 53), .int (S 0 54), .int (S 0 55)].set 43 (.int v))) = wsM h0 a cI cB (st S 0 43 v) := rfl
theorem sM_0_44 (h0 : Nat) (a : Nat → Nat) (cI cB : ClassId) (S : St) (v : Int32) : (wsM h0 a cI cB S).set 0 (h0, .inr (8, [.int (S 0 0), .int (S 0 1), .ref (a 1), .ref (a 2), .ref (a 3), .ref (a 4), .int (S 0 6), .ref (a 5), .ref (a 6), .int (S 0 9), .int (S 0 10), .int (S 0 11), .int (S 0 12), .int (S 0 13), .int (S 0 14), .int (S 0 15), .int (S 0 16), .int (S 0 17), .ref (a 7), .ref (a 8), .ref (a 9), .ref (a 10), .ref (a 11), .ref (a 12), .ref (a 13), .ref (a 14), .ref (a 15), .ref (a 16), .ref (a 17), .ref (a 18), .ref (a 19), .ref (a 20), .int (S 0 32), .ref (a 21), .ref (a 22), .ref (a 23), .ref (a 24), .int (S 0 37), .ref (a 25), .ref (a 26), .int (S 0 40), .int (S 0 41), .int (S 0 42), .int (S 0 43), .int (S 0 44), .int (S 0 45), .int (S 0 46), .int (S 0 47), .int (S 0 48), .int (S 0 49), .int (S 0 50), .int (S 0 51), .int (S 0 52), .int (S 0 53), .int (S 0 54), .int (S 0 55)].set 44 (.int v))) = wsM h0 a cI cB (st S 0 44 v) := rfl
theorem sM_0_45 (h0 : Nat) (a : Nat → Nat) (cI cB : ClassId) (S : St) (v : Int32) : (wsM h0 a cI cB S).set 0 (h0, .inr (8, [.int (S 0 0), .int (S 0 1), .ref (a 1), .ref (a 2), .ref (a 3), .ref (a 4), .int (S 0 6), .ref (a 5), .ref (a 6), .int (S 0 9), .int (S 0 10), .int (S 0 11), .int (S 0 12), .int (S 0 13), .int (S 0 14), .int (S 0 15), .int (S 0 16), .int (S 0 17), .ref (a 7), .ref (a 8), .ref (a 9), .ref (a 10), .ref (a 11), .ref (a 12), .ref (a 13), .ref (a 14), .ref (a 15), .ref (a 16), .ref (a 17), .ref (a 18), .ref (a 19), .ref (a 20), .int (S 0 32), .ref (a 21), .ref (a 22), .ref (a 23), .ref (a 24), .int (S 0 37), .ref (a 25), .ref (a 26), .int (S 0 40), .int (S 0 41), .int (S 0 42), .int (S 0 43), .int (S 0 44), .int (S 0 45), .int (S 0 46), .int (S 0 47), .int (S 0 48), .int (S 0 49), .int (S 0 50), .int (S 0 51), .int (S 0 52), .int (S 0 53), .int (S 0 54), .int (S 0 55)].set 45 (.int v))) = wsM h0 a cI cB (st S 0 45 v) := rfl
theorem sM_0_46 (h0 : Nat) (a : Nat → Nat) (cI cB : ClassId) (S : St) (v : Int32) : (wsM h0 a cI cB S).set 0 (h0, .inr (8, [.int (S 0 0), .int (S 0 1), .ref (a 1), .ref (a 2), .ref (a 3), .ref (a 4), .int (S 0 6), .ref (a 5), .ref (a 6), .int (S 0 9), .int (S 0 10), .int (S 0 11), .int (S 0 12), .int (S 0 13), .int (S 0 14), .int (S 0 15), .int (S 0 16), .int (S 0 17), .ref (a 7), .ref (a 8), .ref (a 9), .ref (a 10), .ref (a 11), .ref (a 12), .ref (a 13), .ref (a 14), .ref (a 15), .ref (a 16), .ref (a 17), .ref (a 18), .ref (a 19), .ref (a 20), .int (S 0 32), .ref (a 21), .ref (a 22), .ref (a 23), .ref (a 24), .int (S 0 37), .ref (a 25), .ref (a 26), .int (S 0 40), .int (S 0 41), .int (S 0 42), .int (S 0 43), .int (S 0 44), .int (S 0 45), .int (S 0 46), .int (S 0 47), .int (S 0 48), .int (S 0 49), .int (S 0 50), .int (S 0 51), .int (S 0 52), .int (S 0 53), .int (S 0 54), .int (S 0 55)].set 46 (.int v))) = wsM h0 a cI cB (st S 0 46 v) := rfl
theorem sM_0_47 (h0 : Nat) (a : Nat → Nat) (cI cB : ClassId) (S : St) (v : Int32) : (wsM h0 a cI cB S).set 0 (h0, .inr (8, [.int (S 0 0), .int (S 0 1), .ref (a 1), .ref (a 2), .ref (a 3), .ref (a 4), .int (S 0 6), .ref (a 5), .ref (a 6), .int (S 0 9), .int (S 0 10), .int (S 0 11), .int (S 0 12), .int (S 0 13), .int (S 0 14), .int (S 0 15), .int (S 0 16), .int (S 0 17), .ref (a 7), .ref (a 8), .ref (a 9), .ref (a 10), .ref (a 11), .ref (a 12), .ref (a 13), .ref (a 14), .ref (a 15), .ref (a 16), .ref (a 17), .ref (a 18), .ref (a 19), .ref (a 20), .int (S 0 32), .ref (a 21), .ref (a 22), .ref (a 23), .ref (a 24), .int (S 0 37), .ref (a 25), .ref (a 26), .int (S 0 40), .int (S 0 41), .int (S 0 42), .int (S 0 43), .int (S 0 44), .int (S 0 45), .int (S 0 46), .int (S 0 47), .int (S 0 48), .int (S 0 49), .int (S 0 50), .int (S 0 51), .int (S 0 52), .int (S 0 53), .int (S 0 54), .int (S 0 55)].set 47 (.int v))) = wsM h0 a cI cB (st S 0 47 v) := rfl
theorem sM_0_48 (h0 : Nat) (a : Nat → Nat) (cI cB : ClassId) (S : St) (v : Int32) : (wsM h0 a cI cB S).set 0 (h0, .inr (8, [.int (S 0 0), .int (S 0 1), .ref (a 1), .ref (a 2), .ref (a 3), .ref (a 4), .int (S 0 6), .ref (a 5), .ref (a 6), .int (S 0 9), .int (S 0 10), .int (S 0 11), .int (S 0 12), .int (S 0 13), .int (S 0 14), .int (S 0 15), .int (S 0 16), .int (S 0 17), .ref (a 7), .ref (a 8), .ref (a 9), .ref (a 10), .ref (a 11), .ref (a 12), .ref (a 13), .ref (a 14), .ref (a 15), .ref (a 16), .ref (a 17), .ref (a 18), .ref (a 19), .ref (a 20), .int (S 0 32), .ref (a 21), .ref (a 22), .ref (a 23), .ref (a 24), .int (S 0 37), .ref (a 25), .ref (a 26), .int (S 0 40), .int (S 0 41), .int (S 0 42), .int (S 0 43), .int (S 0 44), .int (S 0 45), .int (S 0 46), .int (S 0 47), .int (S 0 48), .int (S 0 49), .int (S 0 50), .int (S 0 51), .int (S 0 52), .int (S 0 53), .int (S 0 54), .int (S 0 55)].set 48 (.int v))) = wsM h0 a cI cB (st S 0 48 v) := rfl
theorem sM_0_49 (h0 : Nat) (a : Nat → Nat) (cI cB : ClassId) (S : St) (v : Int32) : (wsM h0 a cI cB S).set 0 (h0, .inr (8, [.int (S 0 0), .int (S 0 1), .ref (a 1), .ref (a 2), .ref (a 3), .ref (a 4), .int (S 0 6), .ref (a 5), .ref (a 6), .int (S 0 9), .int (S 0 10), .int (S 0 11), .int (S 0 12), .int (S 0 13), .int (S 0 14), .int (S 0 15), .int (S 0 16), .int (S 0 17), .ref (a 7), .ref (a 8), .ref (a 9), .ref (a 10), .ref (a 11), .ref (a 12), .ref (a 13), .ref (a 14), .ref (a 15), .ref (a 16), .ref (a 17), .ref (a 18), .ref (a 19), .ref (a 20), .int (S 0 32), .ref (a 21), .ref (a 22), .ref (a 23), .ref (a 24), .int (S 0 37), .ref (a 25), .ref (a 26), .int (S 0 40), .int (S 0 41), .int (S 0 42), .int (S 0 43), .int (S 0 44), .int (S 0 45), .int (S 0 46), .int (S 0 47), .int (S 0 48), .int (S 0 49), .int (S 0 50), .int (S 0 51), .int (S 0 52), .int (S 0 53), .int (S 0 54), .int (S 0 55)].set 49 (.int v))) = wsM h0 a cI cB (st S 0 49 v) := rfl
theorem sM_0_50 (h0 : Nat) (a : Nat → Nat) (cI cB : ClassId) (S : St) (v : Int32) : (wsM h0 a cI cB S).set 0 (h0, .inr (8, [.int (S 0 0), .int (S 0 1), .ref (a 1), .ref (a 2), .ref (a 3), .ref (a 4), .int (S 0 6), .ref (a 5), .ref (a 6), .int (S 0 9), .int (S 0 10), .int (S 0 11), .int (S 0 12), .int (S 0 13), .int (S 0 14), .int (S 0 15), .int (S 0 16), .int (S 0 17), .ref (a 7), .ref (a 8), .ref (a 9), .ref (a 10), .ref (a 11), .ref (a 12), .ref (a 13), .ref (a 14), .ref (a 15), .ref (a 16), .ref (a 17), .ref (a 18), .ref (a 19), .ref (a 20), .int (S 0 32), .ref (a 21), .ref (a 22), .ref (a 23), .ref (a 24), .int (S 0 37), .ref (a 25), .ref (a 26), .int (S 0 40), .int (S 0 41), .int (S 0 42), .int (S 0 43), .int (S 0 44), .int (S 0 45), .int (S 0 46), .int (S 0 47), .int (S 0 48), .int (S 0 49), .int (S 0 50), .int (S 0 51), .int (S 0 52), .int (S 0 53), .int (S 0 54), .int (S 0 55)].set 50 (.int v))) = wsM h0 a cI cB (st S 0 50 v) := rfl
theorem sM_0_51 (h0 : Nat) (a : Nat → Nat) (cI cB : ClassId) (S : St) (v : Int32) : (wsM h0 a cI cB S).set 0 (h0, .inr (8, [.int (S 0 0), .int (S 0 1), .ref (a 1), .ref (a 2), .ref (a 3), .ref (a 4), .int (S 0 6), .ref (a 5), .ref (a 6), .int (S 0 9), .int (S 0 10), .int (S 0 11), .int (S 0 12), .int (S 0 13), .int (S 0 14), .int (S 0 15), .int (S 0 16), .int (S 0 17), .ref (a 7), .ref (a 8), .ref (a 9), .ref (a 10), .ref (a 11), .ref (a 12), .ref (a 13), .ref (a 14), .ref (a 15), .ref (a 16), .ref (a 17), .ref (a 18), .ref (a 19), .ref (a 20), .int (S 0 32), .ref (a 21), .ref (a 22), .ref (a 23), .ref (a 24), .int (S 0 37), .ref (a 25), .ref (a 26), .int (S 0 40), .int (S 0 41), .int (S 0 42), .int (S 0 43), .int (S 0 44), .int (S 0 45), .int (S 0 46), .int (S 0 47), .int (S 0 48), .int (S 0 49), .int (S 0 50), .int (S 0 51), .int (S 0 52), .int (S 0 53), .int (S 0 54), .int (S 0 55)].set 51 (.int v))) = wsM h0 a cI cB (st S 0 51 v) := rfl
theorem sM_0_52 (h0 : Nat) (a : Nat → Nat) (cI cB : ClassId) (S : St) (v : Int32) : (wsM h0 a cI cB S).set 0 (h0, .inr (8, [.int (S 0 0), .int (S 0 1), .ref (a 1), .ref (a 2), .ref (a 3), .ref (a 4), .int (S 0 6), .ref (a 5), .ref (a 6), .int (S 0 9), .int (S 0 10), .int (S 0 11), .int (S 0 12), .int (S 0 13), .int (S 0 14), .int (S 0 15), .int (S 0 16), .int (S 0 17), .ref (a 7), .ref (a 8), .ref (a 9), .ref (a 10), .ref (a 11), .ref (a 12), .ref (a 13), .ref (a 14), .ref (a 15), .ref (a 16), .ref (a 17), .ref (a 18), .ref (a 19), .ref (a 20), .int (S 0 32), .ref (a 21), .ref (a 22), .ref (a 23), .ref (a 24), .int (S 0 37), .ref (a 25), .ref (a 26), .int (S 0 40), .int (S 0 41), .int (S 0 42), .int (S 0 43), .int (S 0 44), .int (S 0 45), .int (S 0 46), .int (S 0 47), .int (S 0 48), .int (S 0 49), .int (S 0 50), .int (S 0 51), .int (S 0 52), .int (S 0 53), .int (S 0 54), .int (S 0 55)].set 52 (.int v))) = wsM h0 a cI cB (st S 0 52 v) := rfl
theorem sM_0_53 (h0 : Nat) (a : Nat → Nat) (cI cB : ClassId) (S : St) (v : Int32) : (wsM h0 a cI cB S).set 0 (h0, .inr (8, [.int (S 0 0), .int (S 0 1), .ref (a 1), .ref (a 2), .ref (a 3), .ref (a 4), .int (S 0 6), .ref (a 5), .ref (a 6), .int (S 0 9), .int (S 0 10), .int (S 0 11), .int (S 0 12), .int (S 0 13), .int (S 0 14), .int (S 0 15), .int (S 0 16), .int (S 0 17), .ref (a 7), .ref (a 8), .ref (a 9), .ref (a 10), .ref (a 11), .ref (a 12), .ref (a 13), .ref (a 14), .ref (a 15), .ref (a 16), .ref (a 17), .ref (a 18), .ref (a 19), .ref (a 20), .int (S 0 32), .ref (a 21), .ref (a 22), .ref (a 23), .ref (a 24), .int (S 0 37), .ref (a 25), .ref (a 26), .int (S 0 40), .int (S 0 41), .int (S 0 42), .int (S 0 43), .int (S 0 44), .int (S 0 45), .int (S 0 46), .int (S 0 47), .int (S 0 48), .int (S 0 49), .int (S 0 50), .int (S 0 51), .int (S 0 52), .int (S 0 53), .int (S 0 54), .int (S 0 55)].set 53 (.int v))) = wsM h0 a cI cB (st S 0 53 v) := rfl
theorem sM_0_54 (h0 : Nat) (a : Nat → Nat) (cI cB : ClassId) (S : St) (v : Int32) : (wsM h0 a cI cB S).set 0 (h0, .inr (8, [.int (S 0 0), .int (S 0 1), .ref (a 1), .ref (a 2), .ref (a 3), .ref (a 4), .int (S 0 6), .ref (a 5), .ref (a 6), .int (S 0 9), .int (S 0 10), .int (S 0 11), .int (S 0 12), .int (S 0 13), .int (S 0 14), .int (S 0 15), .int (S 0 16), .int (S 0 17), .ref (a 7), .ref (a 8), .ref (a 9), .ref (a 10), .ref (a 11), .ref (a 12), .ref (a 13), .ref (a 14), .ref (a 15), .ref (a 16), .ref (a 17), .ref (a 18), .ref (a 19), .ref (a 20), .int (S 0 32), .ref (a 21), .ref (a 22), .ref (a 23), .ref (a 24), .int (S 0 37), .ref (a 25), .ref (a 26), .int (S 0 40), .int (S 0 41), .int (S 0 42), .int (S 0 43), .int (S 0 44), .int (S 0 45), .int (S 0 46), .int (S 0 47), .int (S 0 48), .int (S 0 49), .int (S 0 50), .int (S 0 51), .int (S 0 52), .int (S 0 53), .int (S 0 54), .int (S 0 55)].set 54 (.int v))) = wsM h0 a cI cB (st S 0 54 v) := rfl
theorem sM_0_55 (h0 : Nat) (a : Nat → Nat) (cI cB : ClassId) (S : St) (v : Int32) : (wsM h0 a cI cB S).set 0 (h0, .inr (8, [.int (S 0 0), .int (S 0 1), .ref (a 1), .ref (a 2), .ref (a 3), .ref (a 4), .int (S 0 6), .ref (a 5), .ref (a 6), .int (S 0 9), .int (S 0 10), .int (S 0 11), .int (S 0 12), .int (S 0 13), .int (S 0 14), .int (S 0 15), .int (S 0 16), .int (S 0 17), .ref (a 7), .ref (a 8), .ref (a 9), .ref (a 10), .ref (a 11), .ref (a 12), .ref (a 13), .ref (a 14), .ref (a 15), .ref (a 16), .ref (a 17), .ref (a 18), .ref (a 19), .ref (a 20), .int (S 0 32), .ref (a 21), .ref (a 22), .ref (a 23), .ref (a 24), .int (S 0 37), .ref (a 25), .ref (a 26), .int (S 0 40), .int (S 0 41), .int (S 0 42), .int (S 0 43), .int (S 0 44), .int (S 0 45), .int (S 0 46), .int (S 0 47), .int (S 0 48), .int (S 0 49), .int (S 0 50), .int (S 0 51), .int (S 0 52), .int (S 0 53), .int (S 0 54), .int (S 0 55)].set 55 (.int v))) = wsM h0 a cI cB (st S 0 55 v) := rfl
theorem sM_1 (h0 : Nat) (a : Nat → Nat) (cI cB : ClassId) (S : St) (j : Nat) (v : Int32) : (wsM h0 a cI cB S).set 1 (a 1, .inl (cI, 128, .inl (upd (S 1) j v))) = wsM h0 a cI cB (st S 1 j v) := rfl
theorem sM_2 (h0 : Nat) (a : Nat → Nat) (cI cB : ClassId) (S : St) (j : Nat) (v : Int32) : (wsM h0 a cI cB S).set 2 (a 2, .inl (cI, 32, .inl (upd (S 2) j v))) = wsM h0 a cI cB (st S 2 j v) := rfl
theorem sM_3 (h0 : Nat) (a : Nat → Nat) (cI cB : ClassId) (S : St) (j : Nat) (v : Int32) : (wsM h0 a cI cB S).set 3 (a 3, .inl (cI, 64, .inl (upd (S 3) j v))) = wsM h0 a cI cB (st S 3 j v) := rfl
theorem sM_4 (h0 : Nat) (a : Nat → Nat) (cI cB : ClassId) (S : St) (j : Nat) (v : Int32) : (wsM h0 a cI cB S).set 4 (a 4, .inl (cI, 8, .inl (upd (S 4) j v))) = wsM h0 a cI cB (st S 4 j v) := rfl
theorem sM_5 (h0 : Nat) (a : Nat → Nat) (cI cB : ClassId) (S : St) (j : Nat) (v : Int32) : (wsM h0 a cI cB S).set 5 (a 5, .inl (cI, 32, .inl (upd (S 5) j v))) = wsM h0 a cI cB (st S 5 j v) := rfl
theorem sM_6 (h0 : Nat) (a : Nat → Nat) (cI cB : ClassId) (S : St) (j : Nat) (v : Int32) : (wsM h0 a cI cB S).set 6 (a 6, .inl (cI, 64, .inl (upd (S 6) j v))) = wsM h0 a cI cB (st S 6 j v) := rfl
theorem sM_7 (h0 : Nat) (a : Nat → Nat) (cI cB : ClassId) (S : St) (j : Nat) (v : Int32) : (wsM h0 a cI cB S).set 7 (a 7, .inl (cI, 160, .inl (upd (S 7) j v))) = wsM h0 a cI cB (st S 7 j v) := rfl
theorem sM_8 (h0 : Nat) (a : Nat → Nat) (cI cB : ClassId) (S : St) (j : Nat) (v : Int32) : (wsM h0 a cI cB S).set 8 (a 8, .inl (cI, 160, .inl (upd (S 8) j v))) = wsM h0 a cI cB (st S 8 j v) := rfl
theorem sM_9 (h0 : Nat) (a : Nat → Nat) (cI cB : ClassId) (S : St) (j : Nat) (v : Int32) : (wsM h0 a cI cB S).set 9 (a 9, .inl (cI, 160, .inl (upd (S 9) j v))) = wsM h0 a cI cB (st S 9 j v) := rfl
theorem sM_10 (h0 : Nat) (a : Nat → Nat) (cI cB : ClassId) (S : St) (j : Nat) (v : Int32) : (wsM h0 a cI cB S).set 10 (a 10, .inl (cI, 160, .inl (upd (S 10) j v))) = wsM h0 a cI cB (st S 10 j v) := rfl
theorem sM_11 (h0 : Nat) (a : Nat → Nat) (cI cB : ClassId) (S : St) (j : Nat) (v : Int32) : (wsM h0 a cI cB S).set 11 (a 11, .inl (cI, 160, .inl (upd (S 11) j v))) = wsM h0 a cI cB (st S 11 j v) := rfl
theorem sM_12 (h0 : Nat) (a : Nat → Nat) (cI cB : ClassId) (S : St) (j : Nat) (v : Int32) : (wsM h0 a cI cB S).set 12 (a 12, .inl (cI, 160, .inl (upd (S 12) j v))) = wsM h0 a cI cB (st S 12 j v) := rfl
theorem sM_13 (h0 : Nat) (a : Nat → Nat) (cI cB : ClassId) (S : St) (j : Nat) (v : Int32) : (wsM h0 a cI cB S).set 13 (a 13, .inl (cI, 160, .inl (upd (S 13) j v))) = wsM h0 a cI cB (st S 13 j v) := rfl
theorem sM_14 (h0 : Nat) (a : Nat → Nat) (cI cB : ClassId) (S : St) (j : Nat) (v : Int32) : (wsM h0 a cI cB S).set 14 (a 14, .inl (cI, 160, .inl (upd (S 14) j v))) = wsM h0 a cI cB (st S 14 j v) := rfl
theorem sM_15 (h0 : Nat) (a : Nat → Nat) (cI cB : ClassId) (S : St) (j : Nat) (v : Int32) : (wsM h0 a cI cB S).set 15 (a 15, .inl (cB, 160, .inl (upd (S 15) j v))) = wsM h0 a cI cB (st S 15 j v) := rfl
theorem sM_16 (h0 : Nat) (a : Nat → Nat) (cI cB : ClassId) (S : St) (j : Nat) (v : Int32) : (wsM h0 a cI cB S).set 16 (a 16, .inl (cI, 4, .inl (upd (S 16) j v))) = wsM h0 a cI cB (st S 16 j v) := rfl
theorem sM_17 (h0 : Nat) (a : Nat → Nat) (cI cB : ClassId) (S : St) (j : Nat) (v : Int32) : (wsM h0 a cI cB S).set 17 (a 17, .inl (cB, 4, .inl (upd (S 17) j v))) = wsM h0 a cI cB (st S 17 j v) := rfl
theorem sM_18 (h0 : Nat) (a : Nat → Nat) (cI cB : ClassId) (S : St) (j : Nat) (v : Int32) : (wsM h0 a cI cB S).set 18 (a 18, .inl (cI, 8, .inl (upd (S 18) j v))) = wsM h0 a cI cB (st S 18 j v) := rfl
theorem sM_19 (h0 : Nat) (a : Nat → Nat) (cI cB : ClassId) (S : St) (j : Nat) (v : Int32) : (wsM h0 a cI cB S).set 19 (a 19, .inl (cI, 8, .inl (upd (S 19) j v))) = wsM h0 a cI cB (st S 19 j v) := rfl
theorem sM_20 (h0 : Nat) (a : Nat → Nat) (cI cB : ClassId) (S : St) (j : Nat) (v : Int32) : (wsM h0 a cI cB S).set 20 (a 20, .inl (cI, 8, .inl (upd (S 20) j v))) = wsM h0 a cI cB (st S 20 j v) := rfl
theorem sM_21 (h0 : Nat) (a : Nat → Nat) (cI cB : ClassId) (S : St) (j : Nat) (v : Int32) : (wsM h0 a cI cB S).set 21 (a 21, .inl (cI, 160, .inl (upd (S 21) j v))) = wsM h0 a cI cB (st S 21 j v) := rfl
theorem sM_22 (h0 : Nat) (a : Nat → Nat) (cI cB : ClassId) (S : St) (j : Nat) (v : Int32) : (wsM h0 a cI cB S).set 22 (a 22, .inl (cI, 160, .inl (upd (S 22) j v))) = wsM h0 a cI cB (st S 22 j v) := rfl
theorem sM_23 (h0 : Nat) (a : Nat → Nat) (cI cB : ClassId) (S : St) (j : Nat) (v : Int32) : (wsM h0 a cI cB S).set 23 (a 23, .inl (cB, 160, .inl (upd (S 23) j v))) = wsM h0 a cI cB (st S 23 j v) := rfl
theorem sM_24 (h0 : Nat) (a : Nat → Nat) (cI cB : ClassId) (S : St) (j : Nat) (v : Int32) : (wsM h0 a cI cB S).set 24 (a 24, .inl (cI, 160, .inl (upd (S 24) j v))) = wsM h0 a cI cB (st S 24 j v) := rfl
theorem sM_25 (h0 : Nat) (a : Nat → Nat) (cI cB : ClassId) (S : St) (j : Nat) (v : Int32) : (wsM h0 a cI cB S).set 25 (a 25, .inl (cI, 16, .inl (upd (S 25) j v))) = wsM h0 a cI cB (st S 25 j v) := rfl
theorem sM_26 (h0 : Nat) (a : Nat → Nat) (cI cB : ClassId) (S : St) (j : Nat) (v : Int32) : (wsM h0 a cI cB S).set 26 (a 26, .inl (cI, 16, .inl (upd (S 26) j v))) = wsM h0 a cI cB (st S 26 j v) := rfl
end
section
abbrev rm_K_code : Room := { frames := 0, cells := 0, slots := 0, locals := 0 }
def wp_K_code_18 (K : Int32 → St → Prop) (S : St)  : Prop := K 0 S
set_option maxHeartbeats 4000000 in
set_option maxRecDepth 100000 in
theorem L_K_code_18 {p : Program} {l : Launch} {e : Env} {s : State} {m : MethodId} {args : Array Value} {below : List Frame} {meth : Method} {c : Code} {A : Nat → Prop} {D : va_G} {h0 : Nat} {a : Nat → Nat} {cI cB : ClassId} {K : Int32 → St → Prop} (C : CX p rm_K_code s m args meth c b_K_code 3 "PipelinedCore" (some .boolean) pr_K_code D clK (tysK cI cB) A) (S : St)  (h : wp_K_code_18 K S) : J p l e rm_K_code s m args below meth c 3 D clK A 0 0 (MQ below (va_Qi K (fun u t => QK D clK (tysK cI cB) A (wsK h0 a cI cB u) t) A) args s 0 0 A) (wsK h0 a cI cB S) [] 18 [] := by
  unfold wp_K_code_18 at h
  refine j_iconst C 8 19 rfl rfl kI_0 ?_
  exact j_zret C 9 rfl isB_0 h
def wp_K_code (S : St) (p1 : Int32) (p2 : Int32) (K : Int32 → St → Prop) : Prop := ((p1 < 0 → ((wp_K_code_18 K S))) ∧ (¬ p1 < 0 → ((((128 : Int32) ≤ p1 → ((wp_K_code_18 K S))) ∧ (¬ (128 : Int32) ≤ p1 → ((((S 0 10) ≤ 0 → (vp_in p1 128 ∧ (∀ S4 : St, S4 = st S 1 p1.toNatClampNeg p2 → (K 1 S4)))) ∧ (¬ (S 0 10) ≤ 0 → ((wp_K_code_18 K S))))))))))
set_option maxHeartbeats 4000000 in
set_option maxRecDepth 100000 in
theorem c_K_code (l : Launch) (D : va_G) (h0 : Nat) (a : Nat → Nat) (cI cB : ClassId) (S : St) (p1 : Int32) (p2 : Int32) (K : Int32 → St → Prop) (h : wp_K_code S p1 p2 K) (sz : Nat) : Met l y_K_code (Cond.code y_K_code b_K_code 3 (some .boolean) :: gw) rm_K_code (va_Pc [.ref h0, .int p1, .int p2] (PK D clK (tysK cI cB) (wsK h0 a cI cB S) sz)) (va_Qi K (fun u t => QK D clK (tysK cI cB) (va_A (wsK h0 a cI cB S) sz) (wsK h0 a cI cB u) t) (va_A (wsK h0 a cI cB S) sz)) 0 0 (va_A (wsK h0 a cI cB S) sz) := by
  refine met_of (rm := rm_K_code) (pr := pr_K_code) (Qc := fun A => va_Qi K (fun u t => QK D clK (tysK cI cB) A (wsK h0 a cI cB u) t) A) (by decide +kernel) dm_K_code (Nat.le_of_ble_eq_true rfl) (fun p e s m args below meth c A C => ?_) sz
  unfold wp_K_code at h
  show J p l e rm_K_code s m args below meth c 3 D clK A 0 0 _ (wsK h0 a cI cB S) [(0, .ref h0), (1, .int p1), (2, .int p2)] 0 []
  refine j_iload_n C 0 1 rfl rfl rfl 1 rfl ?_
  refine j_if_lt C 1 18 4 rfl (by decide) rfl (fun c1 => ?_) (fun c1 => ?_)
  · replace h := h.1 c1
    refine j_sub [] rfl ?_
    exact L_K_code_18 C S h
  · replace h := h.2 c1
    refine j_iload_n C 2 5 rfl rfl rfl 1 rfl ?_
    refine j_sipush C 3 8 rfl rfl kS_128 ?_
    refine j_icmp_ge C 4 18 11 rfl (by decide) rfl (fun c2 => ?_) (fun c2 => ?_)
    · replace h := h.1 c2
      refine j_sub [] rfl ?_
      exact L_K_code_18 C S h
    · replace h := h.2 c2
      refine j_aload_n C 5 12 rfl rfl rfl 0 rfl ?_
      refine j_get C 6 15 rfl rfl fg_K_70 0 rfl rfl ?_
      refine j_if_le C 7 20 18 rfl (by decide) rfl (fun c3 => ?_) (fun c3 => ?_)
      · replace h := h.1 c3
        refine j_aload_n C 10 21 rfl rfl rfl 0 rfl ?_
        refine j_get C 11 24 rfl rfl fg_K_9 0 rfl rfl ?_
        refine j_iload_n C 12 25 rfl rfl rfl 1 rfl ?_
        refine j_iload_n C 13 26 rfl rfl rfl 2 rfl ?_
        refine j_iast C 14 27 rfl rfl 1 0 rfl rfl h.1 (st S 1 p1.toNatClampNeg p2) (sK_1 _ _ _ _ _ _ _) (fun S4 eS4 => ?_)
        replace h := h.2
        replace h := h S4 eS4
        refine j_iconst C 15 28 rfl rfl kI_1 ?_
        exact j_zret C 16 rfl isB_1 h
      · replace h := h.2 c3
        refine j_sub [] rfl ?_
        exact L_K_code_18 C S h
abbrev rm_Sto_has : Room := { frames := 0, cells := 0, slots := 0, locals := 0 }
def wp_Sto_has_19 (K : Int32 → St → Prop) (S : St) (k0 : Int32) : Prop := isB k0 ∧ K k0 S
set_option maxHeartbeats 4000000 in
set_option maxRecDepth 100000 in
theorem L_Sto_has_19 {p : Program} {l : Launch} {e : Env} {s : State} {m : MethodId} {args : Array Value} {below : List Frame} {meth : Method} {c : Code} {A : Nat → Prop} {D : va_G} {h0 : Nat} {a : Nat → Nat} {cI cB : ClassId} {K : Int32 → St → Prop} (C : CX p rm_Sto_has s m args meth c b_Sto_has 1 "PipelinedCore$Store" (some .boolean) pr_Sto_has D clK (tysK cI cB) A) (S : St) (k0 : Int32) (h : wp_Sto_has_19 K S k0) : J p l e rm_Sto_has s m args below meth c 1 D clK A 0 0 (MQ below (va_Qi K (fun u t => QK D clK (tysK cI cB) A (wsK h0 a cI cB u) t) A) args s 0 0 A) (wsK h0 a cI cB S) [] 19 [.int k0] := by
  unfold wp_Sto_has_19 at h
  exact j_zret C 9 rfl h.1 h.2
def wp_Sto_has_18 (K : Int32 → St → Prop) (S : St)  : Prop := (wp_Sto_has_19 K S 0)
set_option maxHeartbeats 4000000 in
set_option maxRecDepth 100000 in
theorem L_Sto_has_18 {p : Program} {l : Launch} {e : Env} {s : State} {m : MethodId} {args : Array Value} {below : List Frame} {meth : Method} {c : Code} {A : Nat → Prop} {D : va_G} {h0 : Nat} {a : Nat → Nat} {cI cB : ClassId} {K : Int32 → St → Prop} (C : CX p rm_Sto_has s m args meth c b_Sto_has 1 "PipelinedCore$Store" (some .boolean) pr_Sto_has D clK (tysK cI cB) A) (S : St)  (h : wp_Sto_has_18 K S) : J p l e rm_Sto_has s m args below meth c 1 D clK A 0 0 (MQ below (va_Qi K (fun u t => QK D clK (tysK cI cB) A (wsK h0 a cI cB u) t) A) args s 0 0 A) (wsK h0 a cI cB S) [] 18 [] := by
  unfold wp_Sto_has_18 at h
  refine j_iconst C 8 19 rfl rfl kI_0 ?_
  exact L_Sto_has_19 C S 0 h
def wp_Sto_has (S : St) (p1 : Int32) (K : Int32 → St → Prop) : Prop := ((p1 < 1024 → ((wp_Sto_has_18 K S))) ∧ (¬ p1 < 1024 → ((((1280 : Int32) ≤ p1 → ((wp_Sto_has_18 K S))) ∧ (¬ (1280 : Int32) ≤ p1 → ((wp_Sto_has_19 K S 1)))))))
set_option maxHeartbeats 4000000 in
set_option maxRecDepth 100000 in
theorem c_Sto_has (l : Launch) (D : va_G) (h0 : Nat) (a : Nat → Nat) (cI cB : ClassId) (S : St) (p1 : Int32) (K : Int32 → St → Prop) (h : wp_Sto_has S p1 K) (sz : Nat) : Met l y_Sto_has (Cond.code y_Sto_has b_Sto_has 1 (some .boolean) :: gw) rm_Sto_has (va_Pc [.int p1] (PK D clK (tysK cI cB) (wsK h0 a cI cB S) sz)) (va_Qi K (fun u t => QK D clK (tysK cI cB) (va_A (wsK h0 a cI cB S) sz) (wsK h0 a cI cB u) t) (va_A (wsK h0 a cI cB S) sz)) 0 0 (va_A (wsK h0 a cI cB S) sz) := by
  refine met_of (rm := rm_Sto_has) (pr := pr_Sto_has) (Qc := fun A => va_Qi K (fun u t => QK D clK (tysK cI cB) A (wsK h0 a cI cB u) t) A) (by decide +kernel) dm_Sto_has (Nat.le_of_ble_eq_true rfl) (fun p e s m args below meth c A C => ?_) sz
  unfold wp_Sto_has at h
  show J p l e rm_Sto_has s m args below meth c 1 D clK A 0 0 _ (wsK h0 a cI cB S) [(0, .int p1)] 0 []
  refine j_iload_n C 0 1 rfl rfl rfl 0 rfl ?_
  refine j_sipush C 1 4 rfl rfl kS_1024 ?_
  refine j_icmp_lt C 2 18 7 rfl (by decide) rfl (fun c1 => ?_) (fun c1 => ?_)
  · replace h := h.1 c1
    refine j_sub [] rfl ?_
    exact L_Sto_has_18 C S h
  · replace h := h.2 c1
    refine j_iload_n C 3 8 rfl rfl rfl 0 rfl ?_
    refine j_sipush C 4 11 rfl rfl kS_1280 ?_
    refine j_icmp_ge C 5 18 14 rfl (by decide) rfl (fun c2 => ?_) (fun c2 => ?_)
    · replace h := h.1 c2
      refine j_sub [] rfl ?_
      exact L_Sto_has_18 C S h
    · replace h := h.2 c2
      refine j_iconst C 6 15 rfl rfl kI_1 ?_
      refine j_goto C 7 19 rfl (by decide) ?_
      refine j_sub [] rfl ?_
      exact L_Sto_has_19 C S 1 h
abbrev rm_Sto_hasWord : Room := { frames := 1, cells := 0, slots := 0, locals := 20 }
def wp_Sto_hasWord_18 (K : Int32 → St → Prop) (S : St) (k0 : Int32) : Prop := isB k0 ∧ K k0 S
set_option maxHeartbeats 4000000 in
set_option maxRecDepth 100000 in
theorem L_Sto_hasWord_18 {p : Program} {l : Launch} {e : Env} {s : State} {m : MethodId} {args : Array Value} {below : List Frame} {meth : Method} {c : Code} {A : Nat → Prop} {D : va_G} {h0 : Nat} {a : Nat → Nat} {cI cB : ClassId} {K : Int32 → St → Prop} (C : CX p rm_Sto_hasWord s m args meth c b_Sto_hasWord 1 "PipelinedCore$Store" (some .boolean) pr_Sto_hasWord D clK (tysK cI cB) A) (S : St) (k0 : Int32) (h : wp_Sto_hasWord_18 K S k0) : J p l e rm_Sto_hasWord s m args below meth c 1 D clK A 0 0 (MQ below (va_Qi K (fun u t => QK D clK (tysK cI cB) A (wsK h0 a cI cB u) t) A) args s 0 0 A) (wsK h0 a cI cB S) [] 18 [.int k0] := by
  unfold wp_Sto_hasWord_18 at h
  exact j_zret C 10 rfl h.1 h.2
def wp_Sto_hasWord_17 (K : Int32 → St → Prop) (S : St)  : Prop := (wp_Sto_hasWord_18 K S 0)
set_option maxHeartbeats 4000000 in
set_option maxRecDepth 100000 in
theorem L_Sto_hasWord_17 {p : Program} {l : Launch} {e : Env} {s : State} {m : MethodId} {args : Array Value} {below : List Frame} {meth : Method} {c : Code} {A : Nat → Prop} {D : va_G} {h0 : Nat} {a : Nat → Nat} {cI cB : ClassId} {K : Int32 → St → Prop} (C : CX p rm_Sto_hasWord s m args meth c b_Sto_hasWord 1 "PipelinedCore$Store" (some .boolean) pr_Sto_hasWord D clK (tysK cI cB) A) (S : St)  (h : wp_Sto_hasWord_17 K S) : J p l e rm_Sto_hasWord s m args below meth c 1 D clK A 0 0 (MQ below (va_Qi K (fun u t => QK D clK (tysK cI cB) A (wsK h0 a cI cB u) t) A) args s 0 0 A) (wsK h0 a cI cB S) [] 17 [] := by
  unfold wp_Sto_hasWord_17 at h
  refine j_iconst C 9 18 rfl rfl kI_0 ?_
  exact L_Sto_hasWord_18 C S 0 h
def wp_Sto_hasWord (S : St) (p1 : Int32) (K : Int32 → St → Prop) : Prop := wp_Sto_has S p1 (fun r2 S1 => (((r2 = 0 → ((wp_Sto_hasWord_17 K S1))) ∧ (¬ r2 = 0 → (((¬ (p1 &&& 3) = 0 → ((wp_Sto_hasWord_17 K S1))) ∧ ((p1 &&& 3) = 0 → ((wp_Sto_hasWord_18 K S1 1)))))))))
set_option maxHeartbeats 4000000 in
set_option maxRecDepth 100000 in
theorem c_Sto_hasWord (l : Launch) (D : va_G) (h0 : Nat) (a : Nat → Nat) (cI cB : ClassId) (S : St) (p1 : Int32) (K : Int32 → St → Prop) (h : wp_Sto_hasWord S p1 K) (sz : Nat) : Met l y_Sto_hasWord (Cond.code y_Sto_hasWord b_Sto_hasWord 1 (some .boolean) :: gw) rm_Sto_hasWord (va_Pc [.int p1] (PK D clK (tysK cI cB) (wsK h0 a cI cB S) sz)) (va_Qi K (fun u t => QK D clK (tysK cI cB) (va_A (wsK h0 a cI cB S) sz) (wsK h0 a cI cB u) t) (va_A (wsK h0 a cI cB S) sz)) 0 0 (va_A (wsK h0 a cI cB S) sz) := by
  refine met_of (rm := rm_Sto_hasWord) (pr := pr_Sto_hasWord) (Qc := fun A => va_Qi K (fun u t => QK D clK (tysK cI cB) A (wsK h0 a cI cB u) t) A) (by decide +kernel) dm_Sto_hasWord (Nat.le_of_ble_eq_true rfl) (fun p e s m args below meth c A C => ?_) sz
  unfold wp_Sto_hasWord at h
  show J p l e rm_Sto_hasWord s m args below meth c 1 D clK A 0 0 _ (wsK h0 a cI cB S) [(0, .int p1)] 0 []
  refine j_iload_n C 0 1 rfl rfl rfl 0 rfl ?_
  refine j_callSi C 1 4 rfl rfl w326 m_Sto_has (As := [.int p1]) (c_Sto_has l D h0 a cI cB S p1 _ h) ⟨rfl, rfl⟩ ⟨Nat.le_of_ble_eq_true rfl, Nat.le_of_ble_eq_true rfl⟩ rfl ⟨Nat.le_of_ble_eq_true rfl, Nat.le_of_ble_eq_true rfl⟩ (Nat.le_of_ble_eq_true rfl) rfl (fun r2 S1 h => ?_)
  refine j_if_eq C 2 17 7 rfl (by decide) rfl (fun c3 => ?_) (fun c3 => ?_)
  · replace h := h.1 c3
    refine j_sub [] rfl ?_
    exact L_Sto_hasWord_17 C S1 h
  · replace h := h.2 c3
    refine j_iload_n C 3 8 rfl rfl rfl 0 rfl ?_
    refine j_iconst C 4 9 rfl rfl kI_3 ?_
    refine j_iand C 5 10 rfl rfl ?_
    refine j_if_ne C 6 17 13 rfl (by decide) rfl (fun c4 => ?_) (fun c4 => ?_)
    · replace h := h.1 c4
      refine j_sub [] rfl ?_
      exact L_Sto_hasWord_17 C S1 h
    · replace h := h.2 c4
      refine j_iconst C 7 14 rfl rfl kI_1 ?_
      refine j_goto C 8 18 rfl (by decide) ?_
      refine j_sub [] rfl ?_
      exact L_Sto_hasWord_18 C S1 1 h
abbrev rm_Sto_setWord : Room := { frames := 1, cells := 0, slots := 0, locals := 20 }
def wp_Sto_setWord_20 (K : St → Prop) (S : St)  : Prop := K S
set_option maxHeartbeats 4000000 in
set_option maxRecDepth 100000 in
theorem L_Sto_setWord_20 {p : Program} {l : Launch} {e : Env} {s : State} {m : MethodId} {args : Array Value} {below : List Frame} {meth : Method} {c : Code} {A : Nat → Prop} {D : va_G} {h0 : Nat} {a : Nat → Nat} {cI cB : ClassId} {K : St → Prop} (C : CX p rm_Sto_setWord s m args meth c b_Sto_setWord 3 "PipelinedCore$Store" none pr_Sto_setWord D clK (tysK cI cB) A) (S : St)  (h : wp_Sto_setWord_20 K S) : J p l e rm_Sto_setWord s m args below meth c 3 D clK A 0 0 (MQ below (va_Qv K (fun u t => QK D clK (tysK cI cB) A (wsK h0 a cI cB u) t) A) args s 0 0 A) (wsK h0 a cI cB S) [] 20 [] := by
  unfold wp_Sto_setWord_20 at h
  exact j_vret C 12 rfl h
def wp_Sto_setWord (S : St) (p1 : Int32) (p2 : Int32) (K : St → Prop) : Prop := wp_Sto_has S p1 (fun r2 S1 => (((r2 = 0 → ((wp_Sto_setWord_20 K S1))) ∧ (¬ r2 = 0 → (vp_in ((p1 - 1024) >>> (2 &&& 31)) 64 ∧ (∀ S4 : St, S4 = st S1 4 ((p1 - 1024) >>> (2 &&& 31) : Int32).toNatClampNeg p2 → ((wp_Sto_setWord_20 K S4))))))))
set_option maxHeartbeats 4000000 in
set_option maxRecDepth 100000 in
theorem c_Sto_setWord (l : Launch) (D : va_G) (h0 : Nat) (a : Nat → Nat) (cI cB : ClassId) (S : St) (p1 : Int32) (p2 : Int32) (K : St → Prop) (h : wp_Sto_setWord S p1 p2 K) (sz : Nat) : Met l y_Sto_setWord (Cond.code y_Sto_setWord b_Sto_setWord 3 none :: gw) rm_Sto_setWord (va_Pc [.ref (a 4), .int p1, .int p2] (PK D clK (tysK cI cB) (wsK h0 a cI cB S) sz)) (va_Qv K (fun u t => QK D clK (tysK cI cB) (va_A (wsK h0 a cI cB S) sz) (wsK h0 a cI cB u) t) (va_A (wsK h0 a cI cB S) sz)) 0 0 (va_A (wsK h0 a cI cB S) sz) := by
  refine met_of (rm := rm_Sto_setWord) (pr := pr_Sto_setWord) (Qc := fun A => va_Qv K (fun u t => QK D clK (tysK cI cB) A (wsK h0 a cI cB u) t) A) (by decide +kernel) dm_Sto_setWord (Nat.le_of_ble_eq_true rfl) (fun p e s m args below meth c A C => ?_) sz
  unfold wp_Sto_setWord at h
  show J p l e rm_Sto_setWord s m args below meth c 3 D clK A 0 0 _ (wsK h0 a cI cB S) [(0, .ref (a 4)), (1, .int p1), (2, .int p2)] 0 []
  refine j_iload_n C 0 1 rfl rfl rfl 1 rfl ?_
  refine j_callSi C 1 4 rfl rfl w326 m_Sto_has (As := [.int p1]) (c_Sto_has l D h0 a cI cB S p1 _ h) ⟨rfl, rfl⟩ ⟨Nat.le_of_ble_eq_true rfl, Nat.le_of_ble_eq_true rfl⟩ rfl ⟨Nat.le_of_ble_eq_true rfl, Nat.le_of_ble_eq_true rfl⟩ (Nat.le_of_ble_eq_true rfl) rfl (fun r2 S1 h => ?_)
  refine j_if_eq C 2 20 7 rfl (by decide) rfl (fun c3 => ?_) (fun c3 => ?_)
  · replace h := h.1 c3
    refine j_sub [] rfl ?_
    exact L_Sto_setWord_20 C S1 h
  · replace h := h.2 c3
    refine j_aload_n C 3 8 rfl rfl rfl 0 rfl ?_
    refine j_get C 4 11 rfl rfl fg_Sto_9 4 rfl rfl ?_
    refine j_iload_n C 5 12 rfl rfl rfl 1 rfl ?_
    refine j_sipush C 6 15 rfl rfl kS_1024 ?_
    refine j_isub C 7 16 rfl rfl ?_
    refine j_iconst C 8 17 rfl rfl kI_2 ?_
    refine j_ishr C 9 18 rfl rfl ?_
    refine j_iload_n C 10 19 rfl rfl rfl 2 rfl ?_
    refine j_iast C 11 20 rfl rfl 5 0 rfl rfl h.1 (st S1 4 ((p1 - 1024) >>> (2 &&& 31) : Int32).toNatClampNeg p2) (sK_5 _ _ _ _ _ _ _) (fun S4 eS4 => ?_)
    replace h := h.2
    replace h := h S4 eS4
    refine j_sub [] rfl ?_
    exact L_Sto_setWord_20 C S4 h
abbrev rm_K_data : Room := { frames := 2, cells := 0, slots := 0, locals := 42 }
def wp_K_data_14 (K : Int32 → St → Prop) (S : St)  : Prop := K 0 S
set_option maxHeartbeats 4000000 in
set_option maxRecDepth 100000 in
theorem L_K_data_14 {p : Program} {l : Launch} {e : Env} {s : State} {m : MethodId} {args : Array Value} {below : List Frame} {meth : Method} {c : Code} {A : Nat → Prop} {D : va_G} {h0 : Nat} {a : Nat → Nat} {cI cB : ClassId} {K : Int32 → St → Prop} (C : CX p rm_K_data s m args meth c b_K_data 3 "PipelinedCore" (some .boolean) pr_K_data D clK (tysK cI cB) A) (S : St)  (h : wp_K_data_14 K S) : J p l e rm_K_data s m args below meth c 3 D clK A 0 0 (MQ below (va_Qi K (fun u t => QK D clK (tysK cI cB) A (wsK h0 a cI cB u) t) A) args s 0 0 A) (wsK h0 a cI cB S) [] 14 [] := by
  unfold wp_K_data_14 at h
  refine j_iconst C 6 15 rfl rfl kI_0 ?_
  exact j_zret C 7 rfl isB_0 h
def wp_K_data (S : St) (p1 : Int32) (p2 : Int32) (K : Int32 → St → Prop) : Prop := wp_Sto_hasWord S p1 (fun r2 S1 => (((r2 = 0 → ((wp_K_data_14 K S1))) ∧ (¬ r2 = 0 → ((((S1 0 10) ≤ 0 → (wp_Sto_setWord S1 p1 p2 (fun S5 => (K 1 S5)))) ∧ (¬ (S1 0 10) ≤ 0 → ((wp_K_data_14 K S1)))))))))
set_option maxHeartbeats 4000000 in
set_option maxRecDepth 100000 in
theorem c_K_data (l : Launch) (D : va_G) (h0 : Nat) (a : Nat → Nat) (cI cB : ClassId) (S : St) (p1 : Int32) (p2 : Int32) (K : Int32 → St → Prop) (h : wp_K_data S p1 p2 K) (sz : Nat) : Met l y_K_data (Cond.code y_K_data b_K_data 3 (some .boolean) :: gw) rm_K_data (va_Pc [.ref h0, .int p1, .int p2] (PK D clK (tysK cI cB) (wsK h0 a cI cB S) sz)) (va_Qi K (fun u t => QK D clK (tysK cI cB) (va_A (wsK h0 a cI cB S) sz) (wsK h0 a cI cB u) t) (va_A (wsK h0 a cI cB S) sz)) 0 0 (va_A (wsK h0 a cI cB S) sz) := by
  refine met_of (rm := rm_K_data) (pr := pr_K_data) (Qc := fun A => va_Qi K (fun u t => QK D clK (tysK cI cB) A (wsK h0 a cI cB u) t) A) (by decide +kernel) dm_K_data (Nat.le_of_ble_eq_true rfl) (fun p e s m args below meth c A C => ?_) sz
  unfold wp_K_data at h
  show J p l e rm_K_data s m args below meth c 3 D clK A 0 0 _ (wsK h0 a cI cB S) [(0, .ref h0), (1, .int p1), (2, .int p2)] 0 []
  refine j_iload_n C 0 1 rfl rfl rfl 1 rfl ?_
  refine j_callSi C 1 4 rfl rfl w323 m_Sto_hasWord (As := [.int p1]) (c_Sto_hasWord l D h0 a cI cB S p1 _ h) ⟨rfl, rfl⟩ ⟨Nat.le_of_ble_eq_true rfl, Nat.le_of_ble_eq_true rfl⟩ rfl ⟨Nat.le_of_ble_eq_true rfl, Nat.le_of_ble_eq_true rfl⟩ (Nat.le_of_ble_eq_true rfl) rfl (fun r2 S1 h => ?_)
  refine j_if_eq C 2 14 7 rfl (by decide) rfl (fun c3 => ?_) (fun c3 => ?_)
  · replace h := h.1 c3
    refine j_sub [] rfl ?_
    exact L_K_data_14 C S1 h
  · replace h := h.2 c3
    refine j_aload_n C 3 8 rfl rfl rfl 0 rfl ?_
    refine j_get C 4 11 rfl rfl fg_K_70 0 rfl rfl ?_
    refine j_if_le C 5 16 14 rfl (by decide) rfl (fun c4 => ?_) (fun c4 => ?_)
    · replace h := h.1 c4
      refine j_aload_n C 8 17 rfl rfl rfl 0 rfl ?_
      refine j_get C 9 20 rfl rfl fg_K_26 0 rfl rfl ?_
      refine j_iload_n C 10 21 rfl rfl rfl 1 rfl ?_
      refine j_iload_n C 11 22 rfl rfl rfl 2 rfl ?_
      refine j_callVv C 12 25 rfl rfl w329 m_Sto_setWord (As := [.int p1, .int p2]) (c_Sto_setWord l D h0 a cI cB S1 p1 p2 _ h) ⟨rfl, rfl⟩ ⟨Nat.le_of_ble_eq_true rfl, Nat.le_of_ble_eq_true rfl⟩ 4 rfl rfl rfl ⟨Nat.le_of_ble_eq_true rfl, Nat.le_of_ble_eq_true rfl⟩ (Nat.le_of_ble_eq_true rfl) rfl (fun S5 h => ?_)
      refine j_iconst C 13 26 rfl rfl kI_1 ?_
      exact j_zret C 14 rfl isB_1 h
    · replace h := h.2 c4
      refine j_sub [] rfl ?_
      exact L_K_data_14 C S1 h
abbrev rm_Con_setLines : Room := { frames := 0, cells := 0, slots := 0, locals := 0 }
def wp_Con_setLines (S : St) (p1 : Int32) (K : Int32 → St → Prop) : Prop := (((p1 &&& (-2185)) = 0 → (∀ S2 : St, S2 = st S 3 7 p1 → (K 1 S2))) ∧ (¬ (p1 &&& (-2185)) = 0 → (K 0 S)))
set_option maxHeartbeats 4000000 in
set_option maxRecDepth 100000 in
theorem c_Con_setLines (l : Launch) (D : va_G) (h0 : Nat) (a : Nat → Nat) (cI cB : ClassId) (S : St) (p1 : Int32) (K : Int32 → St → Prop) (h : wp_Con_setLines S p1 K) (sz : Nat) : Met l y_Con_setLines (Cond.code y_Con_setLines b_Con_setLines 2 (some .boolean) :: gw) rm_Con_setLines (va_Pc [.ref (a 3), .int p1] (PK D clK (tysK cI cB) (wsK h0 a cI cB S) sz)) (va_Qi K (fun u t => QK D clK (tysK cI cB) (va_A (wsK h0 a cI cB S) sz) (wsK h0 a cI cB u) t) (va_A (wsK h0 a cI cB S) sz)) 0 0 (va_A (wsK h0 a cI cB S) sz) := by
  refine met_of (rm := rm_Con_setLines) (pr := pr_Con_setLines) (Qc := fun A => va_Qi K (fun u t => QK D clK (tysK cI cB) A (wsK h0 a cI cB u) t) A) (by decide +kernel) dm_Con_setLines (Nat.le_of_ble_eq_true rfl) (fun p e s m args below meth c A C => ?_) sz
  unfold wp_Con_setLines at h
  show J p l e rm_Con_setLines s m args below meth c 2 D clK A 0 0 _ (wsK h0 a cI cB S) [(0, .ref (a 3)), (1, .int p1)] 0 []
  refine j_iload_n C 0 1 rfl rfl rfl 1 rfl ?_
  refine j_sipush C 1 4 rfl rfl kS_m2185 ?_
  refine j_iand C 2 5 rfl rfl ?_
  refine j_if_eq C 3 10 8 rfl (by decide) rfl (fun c1 => ?_) (fun c1 => ?_)
  · replace h := h.1 c1
    refine j_aload_n C 6 11 rfl rfl rfl 0 rfl ?_
    refine j_iload_n C 7 12 rfl rfl rfl 1 rfl ?_
    refine j_put C 8 15 rfl rfl fp_Con_31 3 rfl (Nat.le_of_ble_eq_true rfl) rfl rfl (st S 3 7 p1) (sK_3_7 _ _ _ _ _ _) (fun S2 eS2 => ?_)
    replace h := h S2 eS2
    refine j_iconst C 9 16 rfl rfl kI_1 ?_
    exact j_zret C 10 rfl isB_1 h
  · replace h := h.2 c1
    refine j_iconst C 4 9 rfl rfl kI_0 ?_
    exact j_zret C 5 rfl isB_0 h
abbrev rm_K_lines : Room := { frames := 1, cells := 0, slots := 0, locals := 21 }
def wp_K_lines (S : St) (p1 : Int32) (K : Int32 → St → Prop) : Prop := wp_Con_setLines S p1 (fun r2 S1 => (isB r2 ∧ K r2 S1))
set_option maxHeartbeats 4000000 in
set_option maxRecDepth 100000 in
theorem c_K_lines (l : Launch) (D : va_G) (h0 : Nat) (a : Nat → Nat) (cI cB : ClassId) (S : St) (p1 : Int32) (K : Int32 → St → Prop) (h : wp_K_lines S p1 K) (sz : Nat) : Met l y_K_lines (Cond.code y_K_lines b_K_lines 2 (some .boolean) :: gw) rm_K_lines (va_Pc [.ref h0, .int p1] (PK D clK (tysK cI cB) (wsK h0 a cI cB S) sz)) (va_Qi K (fun u t => QK D clK (tysK cI cB) (va_A (wsK h0 a cI cB S) sz) (wsK h0 a cI cB u) t) (va_A (wsK h0 a cI cB S) sz)) 0 0 (va_A (wsK h0 a cI cB S) sz) := by
  refine met_of (rm := rm_K_lines) (pr := pr_K_lines) (Qc := fun A => va_Qi K (fun u t => QK D clK (tysK cI cB) A (wsK h0 a cI cB u) t) A) (by decide +kernel) dm_K_lines (Nat.le_of_ble_eq_true rfl) (fun p e s m args below meth c A C => ?_) sz
  unfold wp_K_lines at h
  show J p l e rm_K_lines s m args below meth c 2 D clK A 0 0 _ (wsK h0 a cI cB S) [(0, .ref h0), (1, .int p1)] 0 []
  refine j_aload_n C 0 1 rfl rfl rfl 0 rfl ?_
  refine j_get C 1 4 rfl rfl fg_K_19 0 rfl rfl ?_
  refine j_iload_n C 2 5 rfl rfl rfl 1 rfl ?_
  refine j_callVi C 3 8 rfl rfl w337 m_Con_setLines (As := [.int p1]) (c_Con_setLines l D h0 a cI cB S p1 _ h) ⟨rfl, rfl⟩ ⟨Nat.le_of_ble_eq_true rfl, Nat.le_of_ble_eq_true rfl⟩ 3 rfl rfl rfl ⟨Nat.le_of_ble_eq_true rfl, Nat.le_of_ble_eq_true rfl⟩ (Nat.le_of_ble_eq_true rfl) rfl (fun r2 S1 h => ?_)
  exact j_zret C 4 rfl h.1 h.2
abbrev rm_Ins_decode : Room := { frames := 0, cells := 0, slots := 0, locals := 0 }
def wp_Ins_decode (S : St) (p1 : Int32) (p2 : Int32) (p3 : Int32) (K : St → Prop) : Prop := ∀ S1 : St, S1 = st S 15 0 p1 → (isB p2 ∧ (∀ S2 : St, S2 = st S1 15 1 p2 → (∀ S3 : St, S3 = st S2 15 2 p3 → (∀ S4 : St, S4 = st S3 15 3 ((S3 15 2) &&& 127) → (∀ S5 : St, S5 = st S4 15 4 ((jushr (S4 15 2) 7) &&& 31) → (∀ S6 : St, S6 = st S5 15 5 ((jushr (S5 15 2) 12) &&& 7) → (∀ S7 : St, S7 = st S6 15 6 ((jushr (S6 15 2) 15) &&& 31) → (∀ S8 : St, S8 = st S7 15 7 ((jushr (S7 15 2) 20) &&& 31) → (∀ S9 : St, S9 = st S8 15 8 (jushr (S8 15 2) 25) → (K S9))))))))))
set_option maxHeartbeats 4000000 in
set_option maxRecDepth 100000 in
theorem c_Ins_decode (l : Launch) (D : va_G) (h0 : Nat) (a : Nat → Nat) (cI cB : ClassId) (S : St) (p1 : Int32) (p2 : Int32) (p3 : Int32) (K : St → Prop) (h : wp_Ins_decode S p1 p2 p3 K) (sz : Nat) : Met l y_Ins_decode (Cond.code y_Ins_decode b_Ins_decode 4 none :: gw) rm_Ins_decode (va_Pc [.ref (a 17), .int p1, .int p2, .int p3] (PK D clK (tysK cI cB) (wsK h0 a cI cB S) sz)) (va_Qv K (fun u t => QK D clK (tysK cI cB) (va_A (wsK h0 a cI cB S) sz) (wsK h0 a cI cB u) t) (va_A (wsK h0 a cI cB S) sz)) 0 0 (va_A (wsK h0 a cI cB S) sz) := by
  refine met_of (rm := rm_Ins_decode) (pr := pr_Ins_decode) (Qc := fun A => va_Qv K (fun u t => QK D clK (tysK cI cB) A (wsK h0 a cI cB u) t) A) (by decide +kernel) dm_Ins_decode (Nat.le_of_ble_eq_true rfl) (fun p e s m args below meth c A C => ?_) sz
  unfold wp_Ins_decode at h
  show J p l e rm_Ins_decode s m args below meth c 4 D clK A 0 0 _ (wsK h0 a cI cB S) [(0, .ref (a 17)), (1, .int p1), (2, .int p2), (3, .int p3)] 0 []
  refine j_aload_n C 0 1 rfl rfl rfl 0 rfl ?_
  refine j_iload_n C 1 2 rfl rfl rfl 1 rfl ?_
  refine j_put C 2 5 rfl rfl fp_Ins_7 17 rfl (Nat.le_of_ble_eq_true rfl) rfl rfl (st S 15 0 p1) (sK_17_0 _ _ _ _ _ _) (fun S1 eS1 => ?_)
  replace h := h S1 eS1
  refine j_aload_n C 3 6 rfl rfl rfl 0 rfl ?_
  refine j_iload_n C 4 7 rfl rfl rfl 2 rfl ?_
  refine j_put C 5 10 rfl rfl fp_Ins_13 17 rfl (Nat.le_of_ble_eq_true rfl) (isB_nar h.1) (isB_fit h.1) (st S1 15 1 p2) (sK_17_1 _ _ _ _ _ _) (fun S2 eS2 => ?_)
  replace h := h.2
  replace h := h S2 eS2
  refine j_aload_n C 6 11 rfl rfl rfl 0 rfl ?_
  refine j_iload_n C 7 12 rfl rfl rfl 3 rfl ?_
  refine j_put C 8 15 rfl rfl fp_Ins_17 17 rfl (Nat.le_of_ble_eq_true rfl) rfl rfl (st S2 15 2 p3) (sK_17_2 _ _ _ _ _ _) (fun S3 eS3 => ?_)
  replace h := h S3 eS3
  refine j_aload_n C 9 16 rfl rfl rfl 0 rfl ?_
  refine j_aload_n C 10 17 rfl rfl rfl 0 rfl ?_
  refine j_get C 11 20 rfl rfl fg_Ins_17 17 rfl rfl ?_
  refine j_bipush C 12 22 rfl rfl kB_127 ?_
  refine j_iand C 13 23 rfl rfl ?_
  refine j_put C 14 26 rfl rfl fp_Ins_20 17 rfl (Nat.le_of_ble_eq_true rfl) rfl rfl (st S3 15 3 ((S3 15 2) &&& 127)) (sK_17_3 _ _ _ _ _ _) (fun S4 eS4 => ?_)
  replace h := h S4 eS4
  refine j_aload_n C 15 27 rfl rfl rfl 0 rfl ?_
  refine j_aload_n C 16 28 rfl rfl rfl 0 rfl ?_
  refine j_get C 17 31 rfl rfl fg_Ins_17 17 rfl rfl ?_
  refine j_bipush C 18 33 rfl rfl kB_7 ?_
  refine j_iushr C 19 34 rfl rfl ?_
  refine j_bipush C 20 36 rfl rfl kB_31 ?_
  refine j_iand C 21 37 rfl rfl ?_
  refine j_put C 22 40 rfl rfl fp_Ins_23 17 rfl (Nat.le_of_ble_eq_true rfl) rfl rfl (st S4 15 4 ((jushr (S4 15 2) 7) &&& 31)) (sK_17_4 _ _ _ _ _ _) (fun S5 eS5 => ?_)
  replace h := h S5 eS5
  refine j_aload_n C 23 41 rfl rfl rfl 0 rfl ?_
  refine j_aload_n C 24 42 rfl rfl rfl 0 rfl ?_
  refine j_get C 25 45 rfl rfl fg_Ins_17 17 rfl rfl ?_
  refine j_bipush C 26 47 rfl rfl kB_12 ?_
  refine j_iushr C 27 48 rfl rfl ?_
  refine j_bipush C 28 50 rfl rfl kB_7 ?_
  refine j_iand C 29 51 rfl rfl ?_
  refine j_put C 30 54 rfl rfl fp_Ins_26 17 rfl (Nat.le_of_ble_eq_true rfl) rfl rfl (st S5 15 5 ((jushr (S5 15 2) 12) &&& 7)) (sK_17_5 _ _ _ _ _ _) (fun S6 eS6 => ?_)
  replace h := h S6 eS6
  refine j_aload_n C 31 55 rfl rfl rfl 0 rfl ?_
  refine j_aload_n C 32 56 rfl rfl rfl 0 rfl ?_
  refine j_get C 33 59 rfl rfl fg_Ins_17 17 rfl rfl ?_
  refine j_bipush C 34 61 rfl rfl kB_15 ?_
  refine j_iushr C 35 62 rfl rfl ?_
  refine j_bipush C 36 64 rfl rfl kB_31 ?_
  refine j_iand C 37 65 rfl rfl ?_
  refine j_put C 38 68 rfl rfl fp_Ins_29 17 rfl (Nat.le_of_ble_eq_true rfl) rfl rfl (st S6 15 6 ((jushr (S6 15 2) 15) &&& 31)) (sK_17_6 _ _ _ _ _ _) (fun S7 eS7 => ?_)
  replace h := h S7 eS7
  refine j_aload_n C 39 69 rfl rfl rfl 0 rfl ?_
  refine j_aload_n C 40 70 rfl rfl rfl 0 rfl ?_
  refine j_get C 41 73 rfl rfl fg_Ins_17 17 rfl rfl ?_
  refine j_bipush C 42 75 rfl rfl kB_20 ?_
  refine j_iushr C 43 76 rfl rfl ?_
  refine j_bipush C 44 78 rfl rfl kB_31 ?_
  refine j_iand C 45 79 rfl rfl ?_
  refine j_put C 46 82 rfl rfl fp_Ins_32 17 rfl (Nat.le_of_ble_eq_true rfl) rfl rfl (st S7 15 7 ((jushr (S7 15 2) 20) &&& 31)) (sK_17_7 _ _ _ _ _ _) (fun S8 eS8 => ?_)
  replace h := h S8 eS8
  refine j_aload_n C 47 83 rfl rfl rfl 0 rfl ?_
  refine j_aload_n C 48 84 rfl rfl rfl 0 rfl ?_
  refine j_get C 49 87 rfl rfl fg_Ins_17 17 rfl rfl ?_
  refine j_bipush C 50 89 rfl rfl kB_25 ?_
  refine j_iushr C 51 90 rfl rfl ?_
  refine j_put C 52 93 rfl rfl fp_Ins_35 17 rfl (Nat.le_of_ble_eq_true rfl) rfl rfl (st S8 15 8 (jushr (S8 15 2) 25)) (sK_17_8 _ _ _ _ _ _) (fun S9 eS9 => ?_)
  replace h := h S9 eS9
  exact j_vret C 53 rfl h
abbrev rm_For_entryFor : Room := { frames := 0, cells := 0, slots := 0, locals := 0 }
def wp_For_entryFor (S : St) (p1 : Int32) (K : Int32 → St → Prop) : Prop := K ((p1 >>> (2 &&& 31)) &&& 3) S
set_option maxHeartbeats 4000000 in
set_option maxRecDepth 100000 in
theorem c_For_entryFor (l : Launch) (D : va_G) (h0 : Nat) (a : Nat → Nat) (cI cB : ClassId) (S : St) (p1 : Int32) (K : Int32 → St → Prop) (h : wp_For_entryFor S p1 K) (sz : Nat) : Met l y_For_entryFor (Cond.code y_For_entryFor b_For_entryFor 1 (some .int) :: gw) rm_For_entryFor (va_Pc [.int p1] (PK D clK (tysK cI cB) (wsK h0 a cI cB S) sz)) (va_Qi K (fun u t => QK D clK (tysK cI cB) (va_A (wsK h0 a cI cB S) sz) (wsK h0 a cI cB u) t) (va_A (wsK h0 a cI cB S) sz)) 0 0 (va_A (wsK h0 a cI cB S) sz) := by
  refine met_of (rm := rm_For_entryFor) (pr := pr_For_entryFor) (Qc := fun A => va_Qi K (fun u t => QK D clK (tysK cI cB) A (wsK h0 a cI cB u) t) A) (by decide +kernel) dm_For_entryFor (Nat.le_of_ble_eq_true rfl) (fun p e s m args below meth c A C => ?_) sz
  unfold wp_For_entryFor at h
  show J p l e rm_For_entryFor s m args below meth c 1 D clK A 0 0 _ (wsK h0 a cI cB S) [(0, .int p1)] 0 []
  refine j_iload_n C 0 1 rfl rfl rfl 0 rfl ?_
  refine j_iconst C 1 2 rfl rfl kI_2 ?_
  refine j_ishr C 2 3 rfl rfl ?_
  refine j_iconst C 3 4 rfl rfl kI_3 ?_
  refine j_iand C 4 5 rfl rfl ?_
  exact j_iret C 5 rfl h
abbrev rm_For_foretell : Room := { frames := 1, cells := 0, slots := 0, locals := 20 }
def wp_For_foretell_27 (K : Int32 → St → Prop) (KH : St → Int32 → Int32 → Int32 → Int32 → Prop) (S : St) (v1 : Int32) (v2 : Int32) (v3 : Int32) (v4 : Int32) : Prop := (KH S v1 v2 v3 (v4 + 1))
set_option maxHeartbeats 4000000 in
set_option maxRecDepth 100000 in
theorem L_For_foretell_27 {p : Program} {l : Launch} {e : Env} {s : State} {m : MethodId} {args : Array Value} {below : List Frame} {meth : Method} {c : Code} {A : Nat → Prop} {D : va_G} {h0 : Nat} {a : Nat → Nat} {cI cB : ClassId} {K : Int32 → St → Prop} (C : CX p rm_For_foretell s m args meth c b_For_foretell 6 "PipelinedCore$Foreteller" (some .int) pr_For_foretell D clK (tysK cI cB) A) (KH : St → Int32 → Int32 → Int32 → Int32 → Prop) (hKH : ∀ (S : St) (v1 : Int32) (v2 : Int32) (v3 : Int32) (v4 : Int32), KH S v1 v2 v3 v4 → J p l e rm_For_foretell s m args below meth c 6 D clK A 0 0 (MQ below (va_Qi K (fun u t => QK D clK (tysK cI cB) A (wsK h0 a cI cB u) t) A) args s 0 0 A) (wsK h0 a cI cB S) [(0, .ref (a 9)), (1, .int v1), (2, .int v2), (3, .int v3), (4, .int v4)] 5 []) (S : St) (v1 : Int32) (v2 : Int32) (v3 : Int32) (v4 : Int32) (h : wp_For_foretell_27 K KH S v1 v2 v3 v4) : J p l e rm_For_foretell s m args below meth c 6 D clK A 0 0 (MQ below (va_Qi K (fun u t => QK D clK (tysK cI cB) A (wsK h0 a cI cB u) t) A) args s 0 0 A) (wsK h0 a cI cB S) [(0, .ref (a 9)), (1, .int v1), (2, .int v2), (3, .int v3), (4, .int v4)] 27 [] := by
  unfold wp_For_foretell_27 at h
  refine j_iinc C 17 30 [(4, .int (v4 + 1)), (0, .ref (a 9)), (1, .int v1), (2, .int v2), (3, .int v3)] rfl rfl 4 rfl kI_1 (by decide) rfl ?_
  refine j_goto C 18 5 rfl (by decide) ?_
  refine j_sub [1, 2, 3, 4, 0] rfl ?_
  exact hKH S v1 v2 v3 (v4 + 1) h
def wp_For_foretell_90 (K : Int32 → St → Prop) (S : St) (k0 : Int32) : Prop := K k0 S
set_option maxHeartbeats 4000000 in
set_option maxRecDepth 100000 in
theorem L_For_foretell_90 {p : Program} {l : Launch} {e : Env} {s : State} {m : MethodId} {args : Array Value} {below : List Frame} {meth : Method} {c : Code} {A : Nat → Prop} {D : va_G} {h0 : Nat} {a : Nat → Nat} {cI cB : ClassId} {K : Int32 → St → Prop} (C : CX p rm_For_foretell s m args meth c b_For_foretell 6 "PipelinedCore$Foreteller" (some .int) pr_For_foretell D clK (tysK cI cB) A) (S : St) (k0 : Int32) (h : wp_For_foretell_90 K S k0) : J p l e rm_For_foretell s m args below meth c 6 D clK A 0 0 (MQ below (va_Qi K (fun u t => QK D clK (tysK cI cB) A (wsK h0 a cI cB u) t) A) args s 0 0 A) (wsK h0 a cI cB S) [] 90 [.int k0] := by
  unfold wp_For_foretell_90 at h
  exact j_iret C 52 rfl h
def wp_For_foretell_70 (K : Int32 → St → Prop) (S : St) (v1 : Int32) (v4 : Int32) (k0 : Int32) : Prop := ((k0 = 0 → ((wp_For_foretell_90 K S (v1 + 4)))) ∧ (¬ k0 = 0 → (vp_in v4 12 ∧ ((wp_For_foretell_90 K S (S 9 v4.toNatClampNeg))))))
set_option maxHeartbeats 4000000 in
set_option maxRecDepth 100000 in
theorem L_For_foretell_70 {p : Program} {l : Launch} {e : Env} {s : State} {m : MethodId} {args : Array Value} {below : List Frame} {meth : Method} {c : Code} {A : Nat → Prop} {D : va_G} {h0 : Nat} {a : Nat → Nat} {cI cB : ClassId} {K : Int32 → St → Prop} (C : CX p rm_For_foretell s m args meth c b_For_foretell 6 "PipelinedCore$Foreteller" (some .int) pr_For_foretell D clK (tysK cI cB) A) (S : St) (v1 : Int32) (v4 : Int32) (k0 : Int32) (h : wp_For_foretell_70 K S v1 v4 k0) : J p l e rm_For_foretell s m args below meth c 6 D clK A 0 0 (MQ below (va_Qi K (fun u t => QK D clK (tysK cI cB) A (wsK h0 a cI cB u) t) A) args s 0 0 A) (wsK h0 a cI cB S) [(0, .ref (a 9)), (1, .int v1), (4, .int v4)] 70 [.int k0] := by
  unfold wp_For_foretell_70 at h
  refine j_istore C 41 72 [(5, .int k0), (0, .ref (a 9)), (1, .int v1), (4, .int v4)] rfl rfl (by decide) rfl ?_
  refine j_iload C 42 74 rfl rfl 0 rfl ?_
  refine j_if_eq C 43 87 77 rfl (by decide) rfl (fun c9 => ?_) (fun c9 => ?_)
  · replace h := h.1 c9
    refine j_iload_n C 49 88 rfl rfl rfl 2 rfl ?_
    refine j_iconst C 50 89 rfl rfl kI_4 ?_
    refine j_iadd C 51 90 rfl rfl ?_
    refine j_sub [] rfl ?_
    exact L_For_foretell_90 C S (v1 + 4) h
  · replace h := h.2 c9
    refine j_aload_n C 44 78 rfl rfl rfl 1 rfl ?_
    refine j_get C 45 81 rfl rfl fg_For_13 9 rfl rfl ?_
    refine j_iload C 46 83 rfl rfl 3 rfl ?_
    refine j_iald C 47 84 rfl rfl 11 0 rfl rfl h.1 ?_
    replace h := h.2
    refine j_goto C 48 90 rfl (by decide) ?_
    refine j_sub [] rfl ?_
    exact L_For_foretell_90 C S (S 9 v4.toNatClampNeg) h
def wp_For_foretell_69 (K : Int32 → St → Prop) (S : St) (v1 : Int32) (v4 : Int32) : Prop := (wp_For_foretell_70 K S v1 v4 0)
set_option maxHeartbeats 4000000 in
set_option maxRecDepth 100000 in
theorem L_For_foretell_69 {p : Program} {l : Launch} {e : Env} {s : State} {m : MethodId} {args : Array Value} {below : List Frame} {meth : Method} {c : Code} {A : Nat → Prop} {D : va_G} {h0 : Nat} {a : Nat → Nat} {cI cB : ClassId} {K : Int32 → St → Prop} (C : CX p rm_For_foretell s m args meth c b_For_foretell 6 "PipelinedCore$Foreteller" (some .int) pr_For_foretell D clK (tysK cI cB) A) (S : St) (v1 : Int32) (v4 : Int32) (h : wp_For_foretell_69 K S v1 v4) : J p l e rm_For_foretell s m args below meth c 6 D clK A 0 0 (MQ below (va_Qi K (fun u t => QK D clK (tysK cI cB) A (wsK h0 a cI cB u) t) A) args s 0 0 A) (wsK h0 a cI cB S) [(0, .ref (a 9)), (1, .int v1), (4, .int v4)] 69 [] := by
  unfold wp_For_foretell_69 at h
  refine j_iconst C 40 70 rfl rfl kI_0 ?_
  exact L_For_foretell_70 C S v1 v4 0 h
def wp_For_foretell_5 (K : Int32 → St → Prop) : Nat → St → Int32 → Int32 → Int32 → Int32 → Prop
  | 0 => fun _ _ _ _ _ => False
  | f + 1 => fun S v1 v2 v3 v4 => (fun KH : St → Int32 → Int32 → Int32 → Int32 → Prop => (((2 : Int32) ≤ v4 → (wp_For_entryFor S v1 (fun r3 S2 => (∀ x4 : Int32, x4 = (v3 * 4) + r3 → (vp_in x4 12 ∧ (((¬ (S2 8 x4.toNatClampNeg) = v1 → ((wp_For_foretell_69 K S2 v1 x4))) ∧ ((S2 8 x4.toNatClampNeg) = v1 → (vp_in x4 12 ∧ ((((S2 10 x4.toNatClampNeg) < 2 → ((wp_For_foretell_69 K S2 v1 x4))) ∧ (¬ (S2 10 x4.toNatClampNeg) < 2 → ((wp_For_foretell_70 K S2 v1 x4 1)))))))))))))) ∧ (¬ (2 : Int32) ≤ v4 → (vp_in v4 2 ∧ ((((S 11 v4.toNatClampNeg) < v2 → ((wp_For_foretell_27 K KH S v1 v2 v3 v4))) ∧ (¬ (S 11 v4.toNatClampNeg) < v2 → (∀ x8 : Int32, x8 = v4 + 1 → ((wp_For_foretell_27 K KH S v1 v2 x8 v4)))))))))) (wp_For_foretell_5 K f)
set_option maxHeartbeats 4000000 in
set_option maxRecDepth 100000 in
theorem L_For_foretell_5 {p : Program} {l : Launch} {e : Env} {s : State} {m : MethodId} {args : Array Value} {below : List Frame} {meth : Method} {c : Code} {A : Nat → Prop} {D : va_G} {h0 : Nat} {a : Nat → Nat} {cI cB : ClassId} {K : Int32 → St → Prop} (C : CX p rm_For_foretell s m args meth c b_For_foretell 6 "PipelinedCore$Foreteller" (some .int) pr_For_foretell D clK (tysK cI cB) A) (f : Nat) : ∀ (S : St) (v1 : Int32) (v2 : Int32) (v3 : Int32) (v4 : Int32), wp_For_foretell_5 K f S v1 v2 v3 v4 → J p l e rm_For_foretell s m args below meth c 6 D clK A 0 0 (MQ below (va_Qi K (fun u t => QK D clK (tysK cI cB) A (wsK h0 a cI cB u) t) A) args s 0 0 A) (wsK h0 a cI cB S) [(0, .ref (a 9)), (1, .int v1), (2, .int v2), (3, .int v3), (4, .int v4)] 5 [] := by
  induction f with
  | zero => exact fun _ _ _ _ _ h => h.elim
  | succ f ih =>
    intro S v1 v2 v3 v4 h
    have hKH := ih
    rw [wp_For_foretell_5] at h
    generalize wp_For_foretell_5 K f = KH at h hKH
    dsimp only at h
    refine j_iload C 4 7 rfl rfl 4 rfl ?_
    refine j_iconst C 5 8 rfl rfl kI_2 ?_
    refine j_icmp_ge C 6 33 11 rfl (by decide) rfl (fun c1 => ?_) (fun c1 => ?_)
    · replace h := h.1 c1
      refine j_iload_n C 19 34 rfl rfl rfl 3 rfl ?_
      refine j_iconst C 20 35 rfl rfl kI_4 ?_
      refine j_imul C 21 36 rfl rfl ?_
      refine j_iload_n C 22 37 rfl rfl rfl 1 rfl ?_
      refine j_callSi C 23 40 rfl rfl w357 m_For_entryFor (As := [.int v1]) (c_For_entryFor l D h0 a cI cB S v1 _ h) ⟨rfl, rfl⟩ ⟨Nat.le_of_ble_eq_true rfl, Nat.le_of_ble_eq_true rfl⟩ rfl ⟨Nat.le_of_ble_eq_true rfl, Nat.le_of_ble_eq_true rfl⟩ (Nat.le_of_ble_eq_true rfl) rfl (fun r3 S2 h => ?_)
      refine j_iadd C 24 41 rfl rfl ?_
      refine j_topi (fun x4 ex4 => ?_)
      replace h := h x4 ex4
      refine j_istore C 25 43 [(4, .int x4), (0, .ref (a 9)), (1, .int v1), (2, .int v2), (3, .int v3)] rfl rfl (by decide) rfl ?_
      refine j_aload_n C 26 44 rfl rfl rfl 1 rfl ?_
      refine j_get C 27 47 rfl rfl fg_For_9 9 rfl rfl ?_
      refine j_iload C 28 49 rfl rfl 0 rfl ?_
      refine j_iald C 29 50 rfl rfl 10 0 rfl rfl h.1 ?_
      replace h := h.2
      refine j_iload_n C 30 51 rfl rfl rfl 2 rfl ?_
      refine j_icmp_ne C 31 69 54 rfl (by decide) rfl (fun c5 => ?_) (fun c5 => ?_)
      · replace h := h.1 c5
        refine j_sub [1, 2, 0] rfl ?_
        exact L_For_foretell_69 C S2 v1 x4 h
      · replace h := h.2 c5
        refine j_aload_n C 32 55 rfl rfl rfl 1 rfl ?_
        refine j_get C 33 58 rfl rfl fg_For_16 9 rfl rfl ?_
        refine j_iload C 34 60 rfl rfl 0 rfl ?_
        refine j_iald C 35 61 rfl rfl 12 0 rfl rfl h.1 ?_
        replace h := h.2
        refine j_iconst C 36 62 rfl rfl kI_2 ?_
        refine j_icmp_lt C 37 69 65 rfl (by decide) rfl (fun c6 => ?_) (fun c6 => ?_)
        · replace h := h.1 c6
          refine j_sub [1, 2, 0] rfl ?_
          exact L_For_foretell_69 C S2 v1 x4 h
        · replace h := h.2 c6
          refine j_iconst C 38 66 rfl rfl kI_1 ?_
          refine j_goto C 39 70 rfl (by decide) ?_
          refine j_sub [1, 2, 0] rfl ?_
          exact L_For_foretell_70 C S2 v1 x4 1 h
    · replace h := h.2 c1
      refine j_aload_n C 7 12 rfl rfl rfl 0 rfl ?_
      refine j_get C 8 15 rfl rfl fg_For_19 9 rfl rfl ?_
      refine j_iload C 9 17 rfl rfl 4 rfl ?_
      refine j_iald C 10 18 rfl rfl 13 0 rfl rfl h.1 ?_
      replace h := h.2
      refine j_iload_n C 11 19 rfl rfl rfl 2 rfl ?_
      refine j_icmp_lt C 12 27 22 rfl (by decide) rfl (fun c7 => ?_) (fun c7 => ?_)
      · replace h := h.1 c7
        exact L_For_foretell_27 C KH hKH S v1 v2 v3 v4 h
      · replace h := h.2 c7
        refine j_iload C 13 24 rfl rfl 4 rfl ?_
        refine j_iconst C 14 25 rfl rfl kI_1 ?_
        refine j_iadd C 15 26 rfl rfl ?_
        refine j_topi (fun x8 ex8 => ?_)
        replace h := h x8 ex8
        refine j_istore_n C 16 27 [(3, .int x8), (0, .ref (a 9)), (1, .int v1), (2, .int v2), (4, .int v4)] rfl rfl rfl (by decide) rfl ?_
        refine j_sub [1, 2, 3, 0, 4] rfl ?_
        exact L_For_foretell_27 C KH hKH S v1 v2 x8 v4 h
def wp_For_foretell (S : St) (p1 : Int32) (p2 : Int32) (K : Int32 → St → Prop) : Prop := (∃ f, wp_For_foretell_5 K f S p1 p2 0 0)
set_option maxHeartbeats 4000000 in
set_option maxRecDepth 100000 in
theorem c_For_foretell (l : Launch) (D : va_G) (h0 : Nat) (a : Nat → Nat) (cI cB : ClassId) (S : St) (p1 : Int32) (p2 : Int32) (K : Int32 → St → Prop) (h : wp_For_foretell S p1 p2 K) (sz : Nat) : Met l y_For_foretell (Cond.code y_For_foretell b_For_foretell 6 (some .int) :: gw) rm_For_foretell (va_Pc [.ref (a 9), .int p1, .int p2] (PK D clK (tysK cI cB) (wsK h0 a cI cB S) sz)) (va_Qi K (fun u t => QK D clK (tysK cI cB) (va_A (wsK h0 a cI cB S) sz) (wsK h0 a cI cB u) t) (va_A (wsK h0 a cI cB S) sz)) 0 0 (va_A (wsK h0 a cI cB S) sz) := by
  refine met_of (rm := rm_For_foretell) (pr := pr_For_foretell) (Qc := fun A => va_Qi K (fun u t => QK D clK (tysK cI cB) A (wsK h0 a cI cB u) t) A) (by decide +kernel) dm_For_foretell (Nat.le_of_ble_eq_true rfl) (fun p e s m args below meth c A C => ?_) sz
  unfold wp_For_foretell at h
  show J p l e rm_For_foretell s m args below meth c 6 D clK A 0 0 _ (wsK h0 a cI cB S) [(0, .ref (a 9)), (1, .int p1), (2, .int p2)] 0 []
  refine j_iconst C 0 1 rfl rfl kI_0 ?_
  refine j_istore_n C 1 2 [(3, .int 0), (0, .ref (a 9)), (1, .int p1), (2, .int p2)] rfl rfl rfl (by decide) rfl ?_
  refine j_iconst C 2 3 rfl rfl kI_0 ?_
  refine j_istore C 3 5 [(4, .int 0), (3, .int 0), (0, .ref (a 9)), (1, .int p1), (2, .int p2)] rfl rfl (by decide) rfl ?_
  refine j_sub [2, 3, 4, 1, 0] rfl ?_
  obtain ⟨f, h⟩ := h
  exact L_For_foretell_5 C f S p1 p2 0 0 h
abbrev rm_Ins_usesA : Room := { frames := 0, cells := 0, slots := 0, locals := 0 }
def wp_Ins_usesA_78 (K : Int32 → St → Prop) (S : St) (k0 : Int32) : Prop := isB k0 ∧ K k0 S
set_option maxHeartbeats 4000000 in
set_option maxRecDepth 100000 in
theorem L_Ins_usesA_78 {p : Program} {l : Launch} {e : Env} {s : State} {m : MethodId} {args : Array Value} {below : List Frame} {meth : Method} {c : Code} {A : Nat → Prop} {D : va_G} {h0 : Nat} {a : Nat → Nat} {cI cB : ClassId} {K : Int32 → St → Prop} (C : CX p rm_Ins_usesA s m args meth c b_Ins_usesA 1 "PipelinedCore$Instruction" (some .boolean) pr_Ins_usesA D clK (tysK cI cB) A) (S : St) (k0 : Int32) (h : wp_Ins_usesA_78 K S k0) : J p l e rm_Ins_usesA s m args below meth c 1 D clK A 0 0 (MQ below (va_Qi K (fun u t => QK D clK (tysK cI cB) A (wsK h0 a cI cB u) t) A) args s 0 0 A) (wsK h0 a cI cB S) [] 78 [.int k0] := by
  unfold wp_Ins_usesA_78 at h
  exact j_zret C 15 rfl h.1 h.2
def wp_Ins_usesA_77 (K : Int32 → St → Prop) (S : St)  : Prop := (wp_Ins_usesA_78 K S 0)
set_option maxHeartbeats 4000000 in
set_option maxRecDepth 100000 in
theorem L_Ins_usesA_77 {p : Program} {l : Launch} {e : Env} {s : State} {m : MethodId} {args : Array Value} {below : List Frame} {meth : Method} {c : Code} {A : Nat → Prop} {D : va_G} {h0 : Nat} {a : Nat → Nat} {cI cB : ClassId} {K : Int32 → St → Prop} (C : CX p rm_Ins_usesA s m args meth c b_Ins_usesA 1 "PipelinedCore$Instruction" (some .boolean) pr_Ins_usesA D clK (tysK cI cB) A) (S : St)  (h : wp_Ins_usesA_77 K S) : J p l e rm_Ins_usesA s m args below meth c 1 D clK A 0 0 (MQ below (va_Qi K (fun u t => QK D clK (tysK cI cB) A (wsK h0 a cI cB u) t) A) args s 0 0 A) (wsK h0 a cI cB S) [] 77 [] := by
  unfold wp_Ins_usesA_77 at h
  refine j_iconst C 14 78 rfl rfl kI_0 ?_
  exact L_Ins_usesA_78 C S 0 h
def wp_Ins_usesA (S : St)  (K : Int32 → St → Prop) : Prop := (((S 15 3) = 15 → (K 0 S)) ∧ (¬ (S 15 3) = 15 → (((S 15 3) = 23 → (K 0 S)) ∧ (¬ (S 15 3) = 23 → (((S 15 3) = 55 → (K 0 S)) ∧ (¬ (S 15 3) = 55 → (((S 15 3) = 111 → (K 0 S)) ∧ (¬ (S 15 3) = 111 → (((S 15 3) = 115 → ((((S 15 5) = 0 → ((wp_Ins_usesA_77 K S))) ∧ (¬ (S 15 5) = 0 → ((((5 : Int32) ≤ (S 15 5) → ((wp_Ins_usesA_77 K S))) ∧ (¬ (5 : Int32) ≤ (S 15 5) → ((wp_Ins_usesA_78 K S 1))))))))) ∧ (¬ (S 15 3) = 115 → (K 1 S)))))))))))
set_option maxHeartbeats 4000000 in
set_option maxRecDepth 100000 in
theorem c_Ins_usesA (l : Launch) (D : va_G) (h0 : Nat) (a : Nat → Nat) (cI cB : ClassId) (S : St)  (K : Int32 → St → Prop) (h : wp_Ins_usesA S K) (sz : Nat) : Met l y_Ins_usesA (Cond.code y_Ins_usesA b_Ins_usesA 1 (some .boolean) :: gw) rm_Ins_usesA (va_Pc [.ref (a 17)] (PK D clK (tysK cI cB) (wsK h0 a cI cB S) sz)) (va_Qi K (fun u t => QK D clK (tysK cI cB) (va_A (wsK h0 a cI cB S) sz) (wsK h0 a cI cB u) t) (va_A (wsK h0 a cI cB S) sz)) 0 0 (va_A (wsK h0 a cI cB S) sz) := by
  refine met_of (rm := rm_Ins_usesA) (pr := pr_Ins_usesA) (Qc := fun A => va_Qi K (fun u t => QK D clK (tysK cI cB) A (wsK h0 a cI cB u) t) A) (by decide +kernel) dm_Ins_usesA (Nat.le_of_ble_eq_true rfl) (fun p e s m args below meth c A C => ?_) sz
  unfold wp_Ins_usesA at h
  show J p l e rm_Ins_usesA s m args below meth c 1 D clK A 0 0 _ (wsK h0 a cI cB S) [(0, .ref (a 17))] 0 []
  refine j_aload_n C 0 1 rfl rfl rfl 0 rfl ?_
  refine j_get C 1 4 rfl rfl fg_Ins_20 17 rfl rfl ?_
  refine j_lookup C 2 rfl (by decide) [(15, 56), (23, 56), (55, 56), (111, 56), (115, 58)] 79 (by decide +kernel) (by decide) (swP_c (fun c1_0 => ?_) (fun nc1_0 => swP_c (fun c1_1 => ?_) (fun nc1_1 => swP_c (fun c1_2 => ?_) (fun nc1_2 => swP_c (fun c1_3 => ?_) (fun nc1_3 => swP_c (fun c1_4 => ?_) (fun nc1_4 => swP_n ?_))))))
  · replace h := h.1 c1_0
    refine j_iconst C 3 57 rfl rfl kI_0 ?_
    exact j_zret C 4 rfl isB_0 h
  · replace h := (h.2 nc1_0).1 c1_1
    refine j_iconst C 3 57 rfl rfl kI_0 ?_
    exact j_zret C 4 rfl isB_0 h
  · replace h := ((h.2 nc1_0).2 nc1_1).1 c1_2
    refine j_iconst C 3 57 rfl rfl kI_0 ?_
    exact j_zret C 4 rfl isB_0 h
  · replace h := (((h.2 nc1_0).2 nc1_1).2 nc1_2).1 c1_3
    refine j_iconst C 3 57 rfl rfl kI_0 ?_
    exact j_zret C 4 rfl isB_0 h
  · replace h := ((((h.2 nc1_0).2 nc1_1).2 nc1_2).2 nc1_3).1 c1_4
    refine j_aload_n C 5 59 rfl rfl rfl 0 rfl ?_
    refine j_get C 6 62 rfl rfl fg_Ins_26 17 rfl rfl ?_
    refine j_if_eq C 7 77 65 rfl (by decide) rfl (fun c2 => ?_) (fun c2 => ?_)
    · replace h := h.1 c2
      refine j_sub [] rfl ?_
      exact L_Ins_usesA_77 C S h
    · replace h := h.2 c2
      refine j_aload_n C 8 66 rfl rfl rfl 0 rfl ?_
      refine j_get C 9 69 rfl rfl fg_Ins_26 17 rfl rfl ?_
      refine j_iconst C 10 70 rfl rfl kI_5 ?_
      refine j_icmp_ge C 11 77 73 rfl (by decide) rfl (fun c3 => ?_) (fun c3 => ?_)
      · replace h := h.1 c3
        refine j_sub [] rfl ?_
        exact L_Ins_usesA_77 C S h
      · replace h := h.2 c3
        refine j_iconst C 12 74 rfl rfl kI_1 ?_
        refine j_goto C 13 78 rfl (by decide) ?_
        refine j_sub [] rfl ?_
        exact L_Ins_usesA_78 C S 1 h
  · replace h := (((((h.2 nc1_0).2 nc1_1).2 nc1_2).2 nc1_3).2 nc1_4)
    refine j_iconst C 16 80 rfl rfl kI_1 ?_
    exact j_zret C 17 rfl isB_1 h
abbrev rm_Ins_usesB : Room := { frames := 0, cells := 0, slots := 0, locals := 0 }
def wp_Ins_usesB_32 (K : Int32 → St → Prop) (S : St) (k0 : Int32) : Prop := isB k0 ∧ K k0 S
set_option maxHeartbeats 4000000 in
set_option maxRecDepth 100000 in
theorem L_Ins_usesB_32 {p : Program} {l : Launch} {e : Env} {s : State} {m : MethodId} {args : Array Value} {below : List Frame} {meth : Method} {c : Code} {A : Nat → Prop} {D : va_G} {h0 : Nat} {a : Nat → Nat} {cI cB : ClassId} {K : Int32 → St → Prop} (C : CX p rm_Ins_usesB s m args meth c b_Ins_usesB 1 "PipelinedCore$Instruction" (some .boolean) pr_Ins_usesB D clK (tysK cI cB) A) (S : St) (k0 : Int32) (h : wp_Ins_usesB_32 K S k0) : J p l e rm_Ins_usesB s m args below meth c 1 D clK A 0 0 (MQ below (va_Qi K (fun u t => QK D clK (tysK cI cB) A (wsK h0 a cI cB u) t) A) args s 0 0 A) (wsK h0 a cI cB S) [] 32 [.int k0] := by
  unfold wp_Ins_usesB_32 at h
  exact j_zret C 15 rfl h.1 h.2
def wp_Ins_usesB_27 (K : Int32 → St → Prop) (S : St)  : Prop := (wp_Ins_usesB_32 K S 1)
set_option maxHeartbeats 4000000 in
set_option maxRecDepth 100000 in
theorem L_Ins_usesB_27 {p : Program} {l : Launch} {e : Env} {s : State} {m : MethodId} {args : Array Value} {below : List Frame} {meth : Method} {c : Code} {A : Nat → Prop} {D : va_G} {h0 : Nat} {a : Nat → Nat} {cI cB : ClassId} {K : Int32 → St → Prop} (C : CX p rm_Ins_usesB s m args meth c b_Ins_usesB 1 "PipelinedCore$Instruction" (some .boolean) pr_Ins_usesB D clK (tysK cI cB) A) (S : St)  (h : wp_Ins_usesB_27 K S) : J p l e rm_Ins_usesB s m args below meth c 1 D clK A 0 0 (MQ below (va_Qi K (fun u t => QK D clK (tysK cI cB) A (wsK h0 a cI cB u) t) A) args s 0 0 A) (wsK h0 a cI cB S) [] 27 [] := by
  unfold wp_Ins_usesB_27 at h
  refine j_iconst C 12 28 rfl rfl kI_1 ?_
  refine j_goto C 13 32 rfl (by decide) ?_
  exact L_Ins_usesB_32 C S 1 h
def wp_Ins_usesB (S : St)  (K : Int32 → St → Prop) : Prop := (((S 15 3) = 99 → ((wp_Ins_usesB_27 K S))) ∧ (¬ (S 15 3) = 99 → ((((S 15 3) = 35 → ((wp_Ins_usesB_27 K S))) ∧ (¬ (S 15 3) = 35 → (((¬ (S 15 3) = 51 → ((wp_Ins_usesB_32 K S 0))) ∧ ((S 15 3) = 51 → ((wp_Ins_usesB_27 K S))))))))))
set_option maxHeartbeats 4000000 in
set_option maxRecDepth 100000 in
theorem c_Ins_usesB (l : Launch) (D : va_G) (h0 : Nat) (a : Nat → Nat) (cI cB : ClassId) (S : St)  (K : Int32 → St → Prop) (h : wp_Ins_usesB S K) (sz : Nat) : Met l y_Ins_usesB (Cond.code y_Ins_usesB b_Ins_usesB 1 (some .boolean) :: gw) rm_Ins_usesB (va_Pc [.ref (a 17)] (PK D clK (tysK cI cB) (wsK h0 a cI cB S) sz)) (va_Qi K (fun u t => QK D clK (tysK cI cB) (va_A (wsK h0 a cI cB S) sz) (wsK h0 a cI cB u) t) (va_A (wsK h0 a cI cB S) sz)) 0 0 (va_A (wsK h0 a cI cB S) sz) := by
  refine met_of (rm := rm_Ins_usesB) (pr := pr_Ins_usesB) (Qc := fun A => va_Qi K (fun u t => QK D clK (tysK cI cB) A (wsK h0 a cI cB u) t) A) (by decide +kernel) dm_Ins_usesB (Nat.le_of_ble_eq_true rfl) (fun p e s m args below meth c A C => ?_) sz
  unfold wp_Ins_usesB at h
  show J p l e rm_Ins_usesB s m args below meth c 1 D clK A 0 0 _ (wsK h0 a cI cB S) [(0, .ref (a 17))] 0 []
  refine j_aload_n C 0 1 rfl rfl rfl 0 rfl ?_
  refine j_get C 1 4 rfl rfl fg_Ins_20 17 rfl rfl ?_
  refine j_bipush C 2 6 rfl rfl kB_99 ?_
  refine j_icmp_eq C 3 27 9 rfl (by decide) rfl (fun c1 => ?_) (fun c1 => ?_)
  · replace h := h.1 c1
    refine j_sub [] rfl ?_
    exact L_Ins_usesB_27 C S h
  · replace h := h.2 c1
    refine j_aload_n C 4 10 rfl rfl rfl 0 rfl ?_
    refine j_get C 5 13 rfl rfl fg_Ins_20 17 rfl rfl ?_
    refine j_bipush C 6 15 rfl rfl kB_35 ?_
    refine j_icmp_eq C 7 27 18 rfl (by decide) rfl (fun c2 => ?_) (fun c2 => ?_)
    · replace h := h.1 c2
      refine j_sub [] rfl ?_
      exact L_Ins_usesB_27 C S h
    · replace h := h.2 c2
      refine j_aload_n C 8 19 rfl rfl rfl 0 rfl ?_
      refine j_get C 9 22 rfl rfl fg_Ins_20 17 rfl rfl ?_
      refine j_bipush C 10 24 rfl rfl kB_51 ?_
      refine j_icmp_ne C 11 31 27 rfl (by decide) rfl (fun c3 => ?_) (fun c3 => ?_)
      · replace h := h.1 c3
        refine j_iconst C 14 32 rfl rfl kI_0 ?_
        refine j_sub [] rfl ?_
        exact L_Ins_usesB_32 C S 0 h
      · replace h := h.2 c3
        refine j_sub [] rfl ?_
        exact L_Ins_usesB_27 C S h
abbrev rm_Ins_uses : Room := { frames := 1, cells := 0, slots := 0, locals := 20 }
def wp_Ins_uses_35 (K : Int32 → St → Prop) (S : St) (k0 : Int32) : Prop := isB k0 ∧ K k0 S
set_option maxHeartbeats 4000000 in
set_option maxRecDepth 100000 in
theorem L_Ins_uses_35 {p : Program} {l : Launch} {e : Env} {s : State} {m : MethodId} {args : Array Value} {below : List Frame} {meth : Method} {c : Code} {A : Nat → Prop} {D : va_G} {h0 : Nat} {a : Nat → Nat} {cI cB : ClassId} {K : Int32 → St → Prop} (C : CX p rm_Ins_uses s m args meth c b_Ins_uses 2 "PipelinedCore$Instruction" (some .boolean) pr_Ins_uses D clK (tysK cI cB) A) (S : St) (k0 : Int32) (h : wp_Ins_uses_35 K S k0) : J p l e rm_Ins_uses s m args below meth c 2 D clK A 0 0 (MQ below (va_Qi K (fun u t => QK D clK (tysK cI cB) A (wsK h0 a cI cB u) t) A) args s 0 0 A) (wsK h0 a cI cB S) [] 35 [.int k0] := by
  unfold wp_Ins_uses_35 at h
  exact j_zret C 17 rfl h.1 h.2
def wp_Ins_uses_30 (K : Int32 → St → Prop) (S : St)  : Prop := (wp_Ins_uses_35 K S 1)
set_option maxHeartbeats 4000000 in
set_option maxRecDepth 100000 in
theorem L_Ins_uses_30 {p : Program} {l : Launch} {e : Env} {s : State} {m : MethodId} {args : Array Value} {below : List Frame} {meth : Method} {c : Code} {A : Nat → Prop} {D : va_G} {h0 : Nat} {a : Nat → Nat} {cI cB : ClassId} {K : Int32 → St → Prop} (C : CX p rm_Ins_uses s m args meth c b_Ins_uses 2 "PipelinedCore$Instruction" (some .boolean) pr_Ins_uses D clK (tysK cI cB) A) (S : St)  (h : wp_Ins_uses_30 K S) : J p l e rm_Ins_uses s m args below meth c 2 D clK A 0 0 (MQ below (va_Qi K (fun u t => QK D clK (tysK cI cB) A (wsK h0 a cI cB u) t) A) args s 0 0 A) (wsK h0 a cI cB S) [] 30 [] := by
  unfold wp_Ins_uses_30 at h
  refine j_iconst C 14 31 rfl rfl kI_1 ?_
  refine j_goto C 15 35 rfl (by decide) ?_
  exact L_Ins_uses_35 C S 1 h
def wp_Ins_uses_34 (K : Int32 → St → Prop) (S : St)  : Prop := (wp_Ins_uses_35 K S 0)
set_option maxHeartbeats 4000000 in
set_option maxRecDepth 100000 in
theorem L_Ins_uses_34 {p : Program} {l : Launch} {e : Env} {s : State} {m : MethodId} {args : Array Value} {below : List Frame} {meth : Method} {c : Code} {A : Nat → Prop} {D : va_G} {h0 : Nat} {a : Nat → Nat} {cI cB : ClassId} {K : Int32 → St → Prop} (C : CX p rm_Ins_uses s m args meth c b_Ins_uses 2 "PipelinedCore$Instruction" (some .boolean) pr_Ins_uses D clK (tysK cI cB) A) (S : St)  (h : wp_Ins_uses_34 K S) : J p l e rm_Ins_uses s m args below meth c 2 D clK A 0 0 (MQ below (va_Qi K (fun u t => QK D clK (tysK cI cB) A (wsK h0 a cI cB u) t) A) args s 0 0 A) (wsK h0 a cI cB S) [] 34 [] := by
  unfold wp_Ins_uses_34 at h
  refine j_iconst C 16 35 rfl rfl kI_0 ?_
  exact L_Ins_uses_35 C S 0 h
def wp_Ins_uses_15 (K : Int32 → St → Prop) (S : St) (v1 : Int32) : Prop := wp_Ins_usesB S (fun r6 S5 => (((r6 = 0 → ((wp_Ins_uses_34 K S5))) ∧ (¬ r6 = 0 → (((¬ (S5 15 7) = v1 → ((wp_Ins_uses_34 K S5))) ∧ ((S5 15 7) = v1 → ((wp_Ins_uses_30 K S5)))))))))
set_option maxHeartbeats 4000000 in
set_option maxRecDepth 100000 in
theorem L_Ins_uses_15 {p : Program} {l : Launch} {e : Env} {s : State} {m : MethodId} {args : Array Value} {below : List Frame} {meth : Method} {c : Code} {A : Nat → Prop} {D : va_G} {h0 : Nat} {a : Nat → Nat} {cI cB : ClassId} {K : Int32 → St → Prop} (C : CX p rm_Ins_uses s m args meth c b_Ins_uses 2 "PipelinedCore$Instruction" (some .boolean) pr_Ins_uses D clK (tysK cI cB) A) (S : St) (v1 : Int32) (h : wp_Ins_uses_15 K S v1) : J p l e rm_Ins_uses s m args below meth c 2 D clK A 0 0 (MQ below (va_Qi K (fun u t => QK D clK (tysK cI cB) A (wsK h0 a cI cB u) t) A) args s 0 0 A) (wsK h0 a cI cB S) [(0, .ref (a 17)), (1, .int v1)] 15 [] := by
  unfold wp_Ins_uses_15 at h
  refine j_aload_n C 7 16 rfl rfl rfl 0 rfl ?_
  refine j_callVi C 8 19 rfl rfl w369 m_Ins_usesB (As := []) (c_Ins_usesB l D h0 a cI cB S _ h) ⟨rfl, rfl⟩ ⟨Nat.le_of_ble_eq_true rfl, Nat.le_of_ble_eq_true rfl⟩ 17 rfl rfl rfl ⟨Nat.le_of_ble_eq_true rfl, Nat.le_of_ble_eq_true rfl⟩ (Nat.le_of_ble_eq_true rfl) rfl (fun r6 S5 h => ?_)
  refine j_if_eq C 9 34 22 rfl (by decide) rfl (fun c7 => ?_) (fun c7 => ?_)
  · replace h := h.1 c7
    refine j_sub [] rfl ?_
    exact L_Ins_uses_34 C S5 h
  · replace h := h.2 c7
    refine j_aload_n C 10 23 rfl rfl rfl 0 rfl ?_
    refine j_get C 11 26 rfl rfl fg_Ins_32 17 rfl rfl ?_
    refine j_iload_n C 12 27 rfl rfl rfl 1 rfl ?_
    refine j_icmp_ne C 13 34 30 rfl (by decide) rfl (fun c8 => ?_) (fun c8 => ?_)
    · replace h := h.1 c8
      refine j_sub [] rfl ?_
      exact L_Ins_uses_34 C S5 h
    · replace h := h.2 c8
      refine j_sub [] rfl ?_
      exact L_Ins_uses_30 C S5 h
def wp_Ins_uses (S : St) (p1 : Int32) (K : Int32 → St → Prop) : Prop := wp_Ins_usesA S (fun r2 S1 => (((r2 = 0 → ((wp_Ins_uses_15 K S1 p1))) ∧ (¬ r2 = 0 → ((((S1 15 6) = p1 → ((wp_Ins_uses_30 K S1))) ∧ (¬ (S1 15 6) = p1 → ((wp_Ins_uses_15 K S1 p1)))))))))
set_option maxHeartbeats 4000000 in
set_option maxRecDepth 100000 in
theorem c_Ins_uses (l : Launch) (D : va_G) (h0 : Nat) (a : Nat → Nat) (cI cB : ClassId) (S : St) (p1 : Int32) (K : Int32 → St → Prop) (h : wp_Ins_uses S p1 K) (sz : Nat) : Met l y_Ins_uses (Cond.code y_Ins_uses b_Ins_uses 2 (some .boolean) :: gw) rm_Ins_uses (va_Pc [.ref (a 17), .int p1] (PK D clK (tysK cI cB) (wsK h0 a cI cB S) sz)) (va_Qi K (fun u t => QK D clK (tysK cI cB) (va_A (wsK h0 a cI cB S) sz) (wsK h0 a cI cB u) t) (va_A (wsK h0 a cI cB S) sz)) 0 0 (va_A (wsK h0 a cI cB S) sz) := by
  refine met_of (rm := rm_Ins_uses) (pr := pr_Ins_uses) (Qc := fun A => va_Qi K (fun u t => QK D clK (tysK cI cB) A (wsK h0 a cI cB u) t) A) (by decide +kernel) dm_Ins_uses (Nat.le_of_ble_eq_true rfl) (fun p e s m args below meth c A C => ?_) sz
  unfold wp_Ins_uses at h
  show J p l e rm_Ins_uses s m args below meth c 2 D clK A 0 0 _ (wsK h0 a cI cB S) [(0, .ref (a 17)), (1, .int p1)] 0 []
  refine j_aload_n C 0 1 rfl rfl rfl 0 rfl ?_
  refine j_callVi C 1 4 rfl rfl w365 m_Ins_usesA (As := []) (c_Ins_usesA l D h0 a cI cB S _ h) ⟨rfl, rfl⟩ ⟨Nat.le_of_ble_eq_true rfl, Nat.le_of_ble_eq_true rfl⟩ 17 rfl rfl rfl ⟨Nat.le_of_ble_eq_true rfl, Nat.le_of_ble_eq_true rfl⟩ (Nat.le_of_ble_eq_true rfl) rfl (fun r2 S1 h => ?_)
  refine j_if_eq C 2 15 7 rfl (by decide) rfl (fun c3 => ?_) (fun c3 => ?_)
  · replace h := h.1 c3
    exact L_Ins_uses_15 C S1 p1 h
  · replace h := h.2 c3
    refine j_aload_n C 3 8 rfl rfl rfl 0 rfl ?_
    refine j_get C 4 11 rfl rfl fg_Ins_29 17 rfl rfl ?_
    refine j_iload_n C 5 12 rfl rfl rfl 1 rfl ?_
    refine j_icmp_eq C 6 30 15 rfl (by decide) rfl (fun c4 => ?_) (fun c4 => ?_)
    · replace h := h.1 c4
      refine j_sub [] rfl ?_
      exact L_Ins_uses_30 C S1 h
    · replace h := h.2 c4
      exact L_Ins_uses_15 C S1 p1 h
abbrev rm_K_expect : Room := { frames := 2, cells := 0, slots := 0, locals := 45 }
def wp_K_expect_146 (K : St → Prop) (S : St)  : Prop := K S
set_option maxHeartbeats 4000000 in
set_option maxRecDepth 100000 in
theorem L_K_expect_146 {p : Program} {l : Launch} {e : Env} {s : State} {m : MethodId} {args : Array Value} {below : List Frame} {meth : Method} {c : Code} {A : Nat → Prop} {D : va_G} {h0 : Nat} {a : Nat → Nat} {cI cB : ClassId} {K : St → Prop} (C : CX p rm_K_expect s m args meth c b_K_expect 5 "PipelinedCore" none pr_K_expect D clK (tysK cI cB) A) (S : St)  (h : wp_K_expect_146 K S) : J p l e rm_K_expect s m args below meth c 5 D clK A 0 0 (MQ below (va_Qv K (fun u t => QK D clK (tysK cI cB) A (wsK h0 a cI cB u) t) A) args s 0 0 A) (wsK h0 a cI cB S) [] 146 [] := by
  unfold wp_K_expect_146 at h
  exact j_vret C 73 rfl h
def wp_K_expect_48 (K : St → Prop) (S : St) (v1 : Int32) (v2 : Int32) (v3 : Int32) (k0 : Int32) (k1 : Int32) (k2 : Int32) : Prop := wp_Ins_decode S k2 k1 k0 (fun S5 => (wp_For_foretell S5 v1 v2 (fun r8 S7 => (∀ S9 : St, S9 = st S7 15 9 r8 → (∀ S10 : St, S10 = st S9 15 10 (jmax (v2 + 1) (S9 0 10)) → (∀ S11 : St, S11 = st S10 15 11 (jmax ((S10 15 10) + 1) v3) → ((((S11 0 12) = 0 → ((wp_K_expect_146 K S11))) ∧ (¬ (S11 0 12) = 0 → (wp_Ins_uses S11 (S11 0 12) (fun r14 S13 => (((r14 = 0 → ((wp_K_expect_146 K S13))) ∧ (¬ r14 = 0 → (∀ S16 : St, S16 = st S13 15 11 (jmax (S13 15 11) (S13 0 11)) → ((wp_K_expect_146 K S16)))))))))))))))))
set_option maxHeartbeats 4000000 in
set_option maxRecDepth 100000 in
theorem L_K_expect_48 {p : Program} {l : Launch} {e : Env} {s : State} {m : MethodId} {args : Array Value} {below : List Frame} {meth : Method} {c : Code} {A : Nat → Prop} {D : va_G} {h0 : Nat} {a : Nat → Nat} {cI cB : ClassId} {K : St → Prop} (C : CX p rm_K_expect s m args meth c b_K_expect 5 "PipelinedCore" none pr_K_expect D clK (tysK cI cB) A) (S : St) (v1 : Int32) (v2 : Int32) (v3 : Int32) (k0 : Int32) (k1 : Int32) (k2 : Int32) (h : wp_K_expect_48 K S v1 v2 v3 k0 k1 k2) : J p l e rm_K_expect s m args below meth c 5 D clK A 0 0 (MQ below (va_Qv K (fun u t => QK D clK (tysK cI cB) A (wsK h0 a cI cB u) t) A) args s 0 0 A) (wsK h0 a cI cB S) [(0, .ref h0), (1, .int v1), (2, .int v2), (3, .int v3)] 48 [.int k0, .int k1, .int k2, .ref (a 17)] := by
  unfold wp_K_expect_48 at h
  refine j_callVv C 27 51 rfl rfl w349 m_Ins_decode (As := [.int k2, .int k1, .int k0]) (c_Ins_decode l D h0 a cI cB S k2 k1 k0 _ h) ⟨rfl, rfl⟩ ⟨Nat.le_of_ble_eq_true rfl, Nat.le_of_ble_eq_true rfl⟩ 17 rfl rfl rfl ⟨Nat.le_of_ble_eq_true rfl, Nat.le_of_ble_eq_true rfl⟩ (Nat.le_of_ble_eq_true rfl) rfl (fun S5 h => ?_)
  refine j_aload_n C 28 52 rfl rfl rfl 0 rfl ?_
  refine j_get C 29 55 rfl rfl fg_K_47 0 rfl rfl ?_
  refine j_aload_n C 30 56 rfl rfl rfl 0 rfl ?_
  refine j_get C 31 59 rfl rfl fg_K_33 0 rfl rfl ?_
  refine j_iload_n C 32 60 rfl rfl rfl 1 rfl ?_
  refine j_iload_n C 33 61 rfl rfl rfl 2 rfl ?_
  refine j_callVi C 34 64 rfl rfl w353 m_For_foretell (As := [.int v1, .int v2]) (c_For_foretell l D h0 a cI cB S5 v1 v2 _ h) ⟨rfl, rfl⟩ ⟨Nat.le_of_ble_eq_true rfl, Nat.le_of_ble_eq_true rfl⟩ 9 rfl rfl rfl ⟨Nat.le_of_ble_eq_true rfl, Nat.le_of_ble_eq_true rfl⟩ (Nat.le_of_ble_eq_true rfl) rfl (fun r8 S7 h => ?_)
  refine j_put C 35 67 rfl rfl fp_K_252 17 rfl (Nat.le_of_ble_eq_true rfl) rfl rfl (st S7 15 9 r8) (sK_17_9 _ _ _ _ _ _) (fun S9 eS9 => ?_)
  replace h := h S9 eS9
  refine j_aload_n C 36 68 rfl rfl rfl 0 rfl ?_
  refine j_get C 37 71 rfl rfl fg_K_47 0 rfl rfl ?_
  refine j_iload_n C 38 72 rfl rfl rfl 2 rfl ?_
  refine j_iconst C 39 73 rfl rfl kI_1 ?_
  refine j_iadd C 40 74 rfl rfl ?_
  refine j_aload_n C 41 75 rfl rfl rfl 0 rfl ?_
  refine j_get C 42 78 rfl rfl fg_K_70 0 rfl rfl ?_
  refine j_mmax C 43 81 rfl rfl w360 w249 w10 w250 (Nat.le_of_ble_eq_true rfl) (Nat.le_of_ble_eq_true rfl) ⟨Nat.le_of_ble_eq_true rfl, Nat.le_of_ble_eq_true rfl⟩ ?_
  refine j_put C 44 84 rfl rfl fp_K_269 17 rfl (Nat.le_of_ble_eq_true rfl) rfl rfl (st S9 15 10 (jmax (v2 + 1) (S9 0 10))) (sK_17_10 _ _ _ _ _ _) (fun S10 eS10 => ?_)
  replace h := h S10 eS10
  refine j_aload_n C 45 85 rfl rfl rfl 0 rfl ?_
  refine j_get C 46 88 rfl rfl fg_K_47 0 rfl rfl ?_
  refine j_aload_n C 47 89 rfl rfl rfl 0 rfl ?_
  refine j_get C 48 92 rfl rfl fg_K_47 0 rfl rfl ?_
  refine j_get C 49 95 rfl rfl fg_K_269 17 rfl rfl ?_
  refine j_iconst C 50 96 rfl rfl kI_1 ?_
  refine j_iadd C 51 97 rfl rfl ?_
  refine j_iload_n C 52 98 rfl rfl rfl 3 rfl ?_
  refine j_mmax C 53 101 rfl rfl w360 w249 w10 w250 (Nat.le_of_ble_eq_true rfl) (Nat.le_of_ble_eq_true rfl) ⟨Nat.le_of_ble_eq_true rfl, Nat.le_of_ble_eq_true rfl⟩ ?_
  refine j_put C 54 104 rfl rfl fp_K_146 17 rfl (Nat.le_of_ble_eq_true rfl) rfl rfl (st S10 15 11 (jmax ((S10 15 10) + 1) v3)) (sK_17_11 _ _ _ _ _ _) (fun S11 eS11 => ?_)
  replace h := h S11 eS11
  refine j_aload_n C 55 105 rfl rfl rfl 0 rfl ?_
  refine j_get C 56 108 rfl rfl fg_K_246 0 rfl rfl ?_
  refine j_if_eq C 57 146 111 rfl (by decide) rfl (fun c12 => ?_) (fun c12 => ?_)
  · replace h := h.1 c12
    refine j_sub [] rfl ?_
    exact L_K_expect_146 C S11 h
  · replace h := h.2 c12
    refine j_aload_n C 58 112 rfl rfl rfl 0 rfl ?_
    refine j_get C 59 115 rfl rfl fg_K_47 0 rfl rfl ?_
    refine j_aload_n C 60 116 rfl rfl rfl 0 rfl ?_
    refine j_get C 61 119 rfl rfl fg_K_246 0 rfl rfl ?_
    refine j_callVi C 62 122 rfl rfl w361 m_Ins_uses (As := [.int (S11 0 12)]) (c_Ins_uses l D h0 a cI cB S11 (S11 0 12) _ h) ⟨rfl, rfl⟩ ⟨Nat.le_of_ble_eq_true rfl, Nat.le_of_ble_eq_true rfl⟩ 17 rfl rfl rfl ⟨Nat.le_of_ble_eq_true rfl, Nat.le_of_ble_eq_true rfl⟩ (Nat.le_of_ble_eq_true rfl) rfl (fun r14 S13 h => ?_)
    refine j_if_eq C 63 146 125 rfl (by decide) rfl (fun c15 => ?_) (fun c15 => ?_)
    · replace h := h.1 c15
      refine j_sub [] rfl ?_
      exact L_K_expect_146 C S13 h
    · replace h := h.2 c15
      refine j_aload_n C 64 126 rfl rfl rfl 0 rfl ?_
      refine j_get C 65 129 rfl rfl fg_K_47 0 rfl rfl ?_
      refine j_aload_n C 66 130 rfl rfl rfl 0 rfl ?_
      refine j_get C 67 133 rfl rfl fg_K_47 0 rfl rfl ?_
      refine j_get C 68 136 rfl rfl fg_K_146 17 rfl rfl ?_
      refine j_aload_n C 69 137 rfl rfl rfl 0 rfl ?_
      refine j_get C 70 140 rfl rfl fg_K_238 0 rfl rfl ?_
      refine j_mmax C 71 143 rfl rfl w360 w249 w10 w250 (Nat.le_of_ble_eq_true rfl) (Nat.le_of_ble_eq_true rfl) ⟨Nat.le_of_ble_eq_true rfl, Nat.le_of_ble_eq_true rfl⟩ ?_
      refine j_put C 72 146 rfl rfl fp_K_146 17 rfl (Nat.le_of_ble_eq_true rfl) rfl rfl (st S13 15 11 (jmax (S13 15 11) (S13 0 11))) (sK_17_11 _ _ _ _ _ _) (fun S16 eS16 => ?_)
      replace h := h S16 eS16
      refine j_sub [] rfl ?_
      exact L_K_expect_146 C S16 h
def wp_K_expect_22 (K : St → Prop) (S : St) (v1 : Int32) (v2 : Int32) (v3 : Int32) (k0 : Int32) : Prop := ((k0 = 0 → ((wp_K_expect_48 K S v1 v2 v3 0 k0 v1))) ∧ (¬ k0 = 0 → (vp_in (v1 >>> (2 &&& 31)) 128 ∧ ((wp_K_expect_48 K S v1 v2 v3 (S 1 (v1 >>> (2 &&& 31) : Int32).toNatClampNeg) k0 v1)))))
set_option maxHeartbeats 4000000 in
set_option maxRecDepth 100000 in
theorem L_K_expect_22 {p : Program} {l : Launch} {e : Env} {s : State} {m : MethodId} {args : Array Value} {below : List Frame} {meth : Method} {c : Code} {A : Nat → Prop} {D : va_G} {h0 : Nat} {a : Nat → Nat} {cI cB : ClassId} {K : St → Prop} (C : CX p rm_K_expect s m args meth c b_K_expect 5 "PipelinedCore" none pr_K_expect D clK (tysK cI cB) A) (S : St) (v1 : Int32) (v2 : Int32) (v3 : Int32) (k0 : Int32) (h : wp_K_expect_22 K S v1 v2 v3 k0) : J p l e rm_K_expect s m args below meth c 5 D clK A 0 0 (MQ below (va_Qv K (fun u t => QK D clK (tysK cI cB) A (wsK h0 a cI cB u) t) A) args s 0 0 A) (wsK h0 a cI cB S) [(0, .ref h0), (1, .int v1), (2, .int v2), (3, .int v3)] 22 [.int k0] := by
  unfold wp_K_expect_22 at h
  refine j_istore C 12 24 [(4, .int k0), (0, .ref h0), (1, .int v1), (2, .int v2), (3, .int v3)] rfl rfl (by decide) rfl ?_
  refine j_aload_n C 13 25 rfl rfl rfl 1 rfl ?_
  refine j_get C 14 28 rfl rfl fg_K_47 0 rfl rfl ?_
  refine j_iload_n C 15 29 rfl rfl rfl 2 rfl ?_
  refine j_iload C 16 31 rfl rfl 0 rfl ?_
  refine j_iload C 17 33 rfl rfl 0 rfl ?_
  refine j_if_eq C 18 47 36 rfl (by decide) rfl (fun c4 => ?_) (fun c4 => ?_)
  · replace h := h.1 c4
    refine j_iconst C 26 48 rfl rfl kI_0 ?_
    refine j_sub [1, 2, 3, 4] rfl ?_
    exact L_K_expect_48 C S v1 v2 v3 0 k0 v1 h
  · replace h := h.2 c4
    refine j_aload_n C 19 37 rfl rfl rfl 1 rfl ?_
    refine j_get C 20 40 rfl rfl fg_K_9 0 rfl rfl ?_
    refine j_iload_n C 21 41 rfl rfl rfl 2 rfl ?_
    refine j_iconst C 22 42 rfl rfl kI_2 ?_
    refine j_ishr C 23 43 rfl rfl ?_
    refine j_iald C 24 44 rfl rfl 1 0 rfl rfl h.1 ?_
    replace h := h.2
    refine j_goto C 25 48 rfl (by decide) ?_
    refine j_sub [1, 2, 3, 4] rfl ?_
    exact L_K_expect_48 C S v1 v2 v3 (S 1 (v1 >>> (2 &&& 31) : Int32).toNatClampNeg) k0 v1 h
def wp_K_expect_21 (K : St → Prop) (S : St) (v1 : Int32) (v2 : Int32) (v3 : Int32) : Prop := (wp_K_expect_22 K S v1 v2 v3 0)
set_option maxHeartbeats 4000000 in
set_option maxRecDepth 100000 in
theorem L_K_expect_21 {p : Program} {l : Launch} {e : Env} {s : State} {m : MethodId} {args : Array Value} {below : List Frame} {meth : Method} {c : Code} {A : Nat → Prop} {D : va_G} {h0 : Nat} {a : Nat → Nat} {cI cB : ClassId} {K : St → Prop} (C : CX p rm_K_expect s m args meth c b_K_expect 5 "PipelinedCore" none pr_K_expect D clK (tysK cI cB) A) (S : St) (v1 : Int32) (v2 : Int32) (v3 : Int32) (h : wp_K_expect_21 K S v1 v2 v3) : J p l e rm_K_expect s m args below meth c 5 D clK A 0 0 (MQ below (va_Qv K (fun u t => QK D clK (tysK cI cB) A (wsK h0 a cI cB u) t) A) args s 0 0 A) (wsK h0 a cI cB S) [(0, .ref h0), (1, .int v1), (2, .int v2), (3, .int v3)] 21 [] := by
  unfold wp_K_expect_21 at h
  refine j_iconst C 11 22 rfl rfl kI_0 ?_
  exact L_K_expect_22 C S v1 v2 v3 0 h
def wp_K_expect (S : St) (p1 : Int32) (p2 : Int32) (p3 : Int32) (K : St → Prop) : Prop := ((¬ (p1 &&& 3) = 0 → ((wp_K_expect_21 K S p1 p2 p3))) ∧ ((p1 &&& 3) = 0 → (((p1 < 0 → ((wp_K_expect_21 K S p1 p2 p3))) ∧ (¬ p1 < 0 → ((((512 : Int32) ≤ p1 → ((wp_K_expect_21 K S p1 p2 p3))) ∧ (¬ (512 : Int32) ≤ p1 → ((wp_K_expect_22 K S p1 p2 p3 1))))))))))
set_option maxHeartbeats 4000000 in
set_option maxRecDepth 100000 in
theorem c_K_expect (l : Launch) (D : va_G) (h0 : Nat) (a : Nat → Nat) (cI cB : ClassId) (S : St) (p1 : Int32) (p2 : Int32) (p3 : Int32) (K : St → Prop) (h : wp_K_expect S p1 p2 p3 K) (sz : Nat) : Met l y_K_expect (Cond.code y_K_expect b_K_expect 5 none :: gw) rm_K_expect (va_Pc [.ref h0, .int p1, .int p2, .int p3] (PK D clK (tysK cI cB) (wsK h0 a cI cB S) sz)) (va_Qv K (fun u t => QK D clK (tysK cI cB) (va_A (wsK h0 a cI cB S) sz) (wsK h0 a cI cB u) t) (va_A (wsK h0 a cI cB S) sz)) 0 0 (va_A (wsK h0 a cI cB S) sz) := by
  refine met_of (rm := rm_K_expect) (pr := pr_K_expect) (Qc := fun A => va_Qv K (fun u t => QK D clK (tysK cI cB) A (wsK h0 a cI cB u) t) A) (by decide +kernel) dm_K_expect (Nat.le_of_ble_eq_true rfl) (fun p e s m args below meth c A C => ?_) sz
  unfold wp_K_expect at h
  show J p l e rm_K_expect s m args below meth c 5 D clK A 0 0 _ (wsK h0 a cI cB S) [(0, .ref h0), (1, .int p1), (2, .int p2), (3, .int p3)] 0 []
  refine j_iload_n C 0 1 rfl rfl rfl 1 rfl ?_
  refine j_iconst C 1 2 rfl rfl kI_3 ?_
  refine j_iand C 2 3 rfl rfl ?_
  refine j_if_ne C 3 21 6 rfl (by decide) rfl (fun c1 => ?_) (fun c1 => ?_)
  · replace h := h.1 c1
    exact L_K_expect_21 C S p1 p2 p3 h
  · replace h := h.2 c1
    refine j_iload_n C 4 7 rfl rfl rfl 1 rfl ?_
    refine j_if_lt C 5 21 10 rfl (by decide) rfl (fun c2 => ?_) (fun c2 => ?_)
    · replace h := h.1 c2
      exact L_K_expect_21 C S p1 p2 p3 h
    · replace h := h.2 c2
      refine j_iload_n C 6 11 rfl rfl rfl 1 rfl ?_
      refine j_sipush C 7 14 rfl rfl kS_512 ?_
      refine j_icmp_ge C 8 21 17 rfl (by decide) rfl (fun c3 => ?_) (fun c3 => ?_)
      · replace h := h.1 c3
        exact L_K_expect_21 C S p1 p2 p3 h
      · replace h := h.2 c3
        refine j_iconst C 9 18 rfl rfl kI_1 ?_
        refine j_goto C 10 22 rfl (by decide) ?_
        exact L_K_expect_22 C S p1 p2 p3 1 h
abbrev rm_Sto_wordAround : Room := { frames := 1, cells := 0, slots := 0, locals := 20 }
def wp_Sto_wordAround_23 (K : Int32 → St → Prop) (S : St) (k0 : Int32) : Prop := K k0 S
set_option maxHeartbeats 4000000 in
set_option maxRecDepth 100000 in
theorem L_Sto_wordAround_23 {p : Program} {l : Launch} {e : Env} {s : State} {m : MethodId} {args : Array Value} {below : List Frame} {meth : Method} {c : Code} {A : Nat → Prop} {D : va_G} {h0 : Nat} {a : Nat → Nat} {cI cB : ClassId} {K : Int32 → St → Prop} (C : CX p rm_Sto_wordAround s m args meth c b_Sto_wordAround 2 "PipelinedCore$Store" (some .int) pr_Sto_wordAround D clK (tysK cI cB) A) (S : St) (k0 : Int32) (h : wp_Sto_wordAround_23 K S k0) : J p l e rm_Sto_wordAround s m args below meth c 2 D clK A 0 0 (MQ below (va_Qi K (fun u t => QK D clK (tysK cI cB) A (wsK h0 a cI cB u) t) A) args s 0 0 A) (wsK h0 a cI cB S) [] 23 [.int k0] := by
  unfold wp_Sto_wordAround_23 at h
  exact j_iret C 13 rfl h
def wp_Sto_wordAround (S : St) (p1 : Int32) (K : Int32 → St → Prop) : Prop := wp_Sto_has S p1 (fun r2 S1 => (((r2 = 0 → ((wp_Sto_wordAround_23 K S1 0))) ∧ (¬ r2 = 0 → (vp_in ((p1 - 1024) >>> (2 &&& 31)) 64 ∧ ((wp_Sto_wordAround_23 K S1 (S1 4 ((p1 - 1024) >>> (2 &&& 31) : Int32).toNatClampNeg))))))))
set_option maxHeartbeats 4000000 in
set_option maxRecDepth 100000 in
theorem c_Sto_wordAround (l : Launch) (D : va_G) (h0 : Nat) (a : Nat → Nat) (cI cB : ClassId) (S : St) (p1 : Int32) (K : Int32 → St → Prop) (h : wp_Sto_wordAround S p1 K) (sz : Nat) : Met l y_Sto_wordAround (Cond.code y_Sto_wordAround b_Sto_wordAround 2 (some .int) :: gw) rm_Sto_wordAround (va_Pc [.ref (a 4), .int p1] (PK D clK (tysK cI cB) (wsK h0 a cI cB S) sz)) (va_Qi K (fun u t => QK D clK (tysK cI cB) (va_A (wsK h0 a cI cB S) sz) (wsK h0 a cI cB u) t) (va_A (wsK h0 a cI cB S) sz)) 0 0 (va_A (wsK h0 a cI cB S) sz) := by
  refine met_of (rm := rm_Sto_wordAround) (pr := pr_Sto_wordAround) (Qc := fun A => va_Qi K (fun u t => QK D clK (tysK cI cB) A (wsK h0 a cI cB u) t) A) (by decide +kernel) dm_Sto_wordAround (Nat.le_of_ble_eq_true rfl) (fun p e s m args below meth c A C => ?_) sz
  unfold wp_Sto_wordAround at h
  show J p l e rm_Sto_wordAround s m args below meth c 2 D clK A 0 0 _ (wsK h0 a cI cB S) [(0, .ref (a 4)), (1, .int p1)] 0 []
  refine j_iload_n C 0 1 rfl rfl rfl 1 rfl ?_
  refine j_callSi C 1 4 rfl rfl w326 m_Sto_has (As := [.int p1]) (c_Sto_has l D h0 a cI cB S p1 _ h) ⟨rfl, rfl⟩ ⟨Nat.le_of_ble_eq_true rfl, Nat.le_of_ble_eq_true rfl⟩ rfl ⟨Nat.le_of_ble_eq_true rfl, Nat.le_of_ble_eq_true rfl⟩ (Nat.le_of_ble_eq_true rfl) rfl (fun r2 S1 h => ?_)
  refine j_if_eq C 2 22 7 rfl (by decide) rfl (fun c3 => ?_) (fun c3 => ?_)
  · replace h := h.1 c3
    refine j_iconst C 12 23 rfl rfl kI_0 ?_
    refine j_sub [] rfl ?_
    exact L_Sto_wordAround_23 C S1 0 h
  · replace h := h.2 c3
    refine j_aload_n C 3 8 rfl rfl rfl 0 rfl ?_
    refine j_get C 4 11 rfl rfl fg_Sto_9 4 rfl rfl ?_
    refine j_iload_n C 5 12 rfl rfl rfl 1 rfl ?_
    refine j_sipush C 6 15 rfl rfl kS_1024 ?_
    refine j_isub C 7 16 rfl rfl ?_
    refine j_iconst C 8 17 rfl rfl kI_2 ?_
    refine j_ishr C 9 18 rfl rfl ?_
    refine j_iald C 10 19 rfl rfl 5 0 rfl rfl h.1 ?_
    replace h := h.2
    refine j_goto C 11 23 rfl (by decide) ?_
    refine j_sub [] rfl ?_
    exact L_Sto_wordAround_23 C S1 (S1 4 ((p1 - 1024) >>> (2 &&& 31) : Int32).toNatClampNeg) h
abbrev rm_Sto_bitsBelow : Room := { frames := 0, cells := 0, slots := 0, locals := 0 }
def wp_Sto_bitsBelow (S : St) (p1 : Int32) (K : Int32 → St → Prop) : Prop := K ((p1 &&& 3) * 8) S
set_option maxHeartbeats 4000000 in
set_option maxRecDepth 100000 in
theorem c_Sto_bitsBelow (l : Launch) (D : va_G) (h0 : Nat) (a : Nat → Nat) (cI cB : ClassId) (S : St) (p1 : Int32) (K : Int32 → St → Prop) (h : wp_Sto_bitsBelow S p1 K) (sz : Nat) : Met l y_Sto_bitsBelow (Cond.code y_Sto_bitsBelow b_Sto_bitsBelow 1 (some .int) :: gw) rm_Sto_bitsBelow (va_Pc [.int p1] (PK D clK (tysK cI cB) (wsK h0 a cI cB S) sz)) (va_Qi K (fun u t => QK D clK (tysK cI cB) (va_A (wsK h0 a cI cB S) sz) (wsK h0 a cI cB u) t) (va_A (wsK h0 a cI cB S) sz)) 0 0 (va_A (wsK h0 a cI cB S) sz) := by
  refine met_of (rm := rm_Sto_bitsBelow) (pr := pr_Sto_bitsBelow) (Qc := fun A => va_Qi K (fun u t => QK D clK (tysK cI cB) A (wsK h0 a cI cB u) t) A) (by decide +kernel) dm_Sto_bitsBelow (Nat.le_of_ble_eq_true rfl) (fun p e s m args below meth c A C => ?_) sz
  unfold wp_Sto_bitsBelow at h
  show J p l e rm_Sto_bitsBelow s m args below meth c 1 D clK A 0 0 _ (wsK h0 a cI cB S) [(0, .int p1)] 0 []
  refine j_iload_n C 0 1 rfl rfl rfl 0 rfl ?_
  refine j_iconst C 1 2 rfl rfl kI_3 ?_
  refine j_iand C 2 3 rfl rfl ?_
  refine j_bipush C 3 5 rfl rfl kB_8 ?_
  refine j_imul C 4 6 rfl rfl ?_
  exact j_iret C 5 rfl h
abbrev rm_Sto_read : Room := { frames := 2, cells := 0, slots := 0, locals := 41 }
def wp_Sto_read (S : St) (p1 : Int32) (p2 : Int32) (K : Int32 → St → Prop) : Prop := wp_Sto_wordAround S p1 (fun r2 S1 => (wp_Sto_bitsBelow S1 p1 (fun r4 S3 => (∀ x5 : Int32, x5 = jushr r2 r4 → (((p2 = 0 → (K x5.toInt8.toInt32 S3)) ∧ (¬ p2 = 0 → ((p2 = 1 → (K x5.toInt16.toInt32 S3)) ∧ (¬ p2 = 1 → ((p2 = 2 → (K x5 S3)) ∧ (¬ p2 = 2 → ((p2 = 3 → (K x5 S3)) ∧ (¬ p2 = 3 → ((p2 = 4 → (K (x5 &&& 255) S3)) ∧ (¬ p2 = 4 → ((p2 = 5 → (K (x5 &&& 65535) S3)) ∧ (¬ p2 = 5 → (K x5 S3))))))))))))))))))
set_option maxHeartbeats 4000000 in
set_option maxRecDepth 100000 in
theorem c_Sto_read (l : Launch) (D : va_G) (h0 : Nat) (a : Nat → Nat) (cI cB : ClassId) (S : St) (p1 : Int32) (p2 : Int32) (K : Int32 → St → Prop) (h : wp_Sto_read S p1 p2 K) (sz : Nat) : Met l y_Sto_read (Cond.code y_Sto_read b_Sto_read 4 (some .int) :: gw) rm_Sto_read (va_Pc [.ref (a 4), .int p1, .int p2] (PK D clK (tysK cI cB) (wsK h0 a cI cB S) sz)) (va_Qi K (fun u t => QK D clK (tysK cI cB) (va_A (wsK h0 a cI cB S) sz) (wsK h0 a cI cB u) t) (va_A (wsK h0 a cI cB S) sz)) 0 0 (va_A (wsK h0 a cI cB S) sz) := by
  refine met_of (rm := rm_Sto_read) (pr := pr_Sto_read) (Qc := fun A => va_Qi K (fun u t => QK D clK (tysK cI cB) A (wsK h0 a cI cB u) t) A) (by decide +kernel) dm_Sto_read (Nat.le_of_ble_eq_true rfl) (fun p e s m args below meth c A C => ?_) sz
  unfold wp_Sto_read at h
  show J p l e rm_Sto_read s m args below meth c 4 D clK A 0 0 _ (wsK h0 a cI cB S) [(0, .ref (a 4)), (1, .int p1), (2, .int p2)] 0 []
  refine j_aload_n C 0 1 rfl rfl rfl 0 rfl ?_
  refine j_iload_n C 1 2 rfl rfl rfl 1 rfl ?_
  refine j_callVi C 2 5 rfl rfl w385 m_Sto_wordAround (As := [.int p1]) (c_Sto_wordAround l D h0 a cI cB S p1 _ h) ⟨rfl, rfl⟩ ⟨Nat.le_of_ble_eq_true rfl, Nat.le_of_ble_eq_true rfl⟩ 4 rfl rfl rfl ⟨Nat.le_of_ble_eq_true rfl, Nat.le_of_ble_eq_true rfl⟩ (Nat.le_of_ble_eq_true rfl) rfl (fun r2 S1 h => ?_)
  refine j_iload_n C 3 6 rfl rfl rfl 1 rfl ?_
  refine j_callSi C 4 9 rfl rfl w389 m_Sto_bitsBelow (As := [.int p1]) (c_Sto_bitsBelow l D h0 a cI cB S1 p1 _ h) ⟨rfl, rfl⟩ ⟨Nat.le_of_ble_eq_true rfl, Nat.le_of_ble_eq_true rfl⟩ rfl ⟨Nat.le_of_ble_eq_true rfl, Nat.le_of_ble_eq_true rfl⟩ (Nat.le_of_ble_eq_true rfl) rfl (fun r4 S3 h => ?_)
  refine j_iushr C 5 10 rfl rfl ?_
  refine j_topi (fun x5 ex5 => ?_)
  replace h := h x5 ex5
  refine j_istore_n C 6 11 [(3, .int x5), (0, .ref (a 4)), (1, .int p1), (2, .int p2)] rfl rfl rfl (by decide) rfl ?_
  refine j_iload_n C 7 12 rfl rfl rfl 3 rfl ?_
  refine j_table C 8 rfl [(0, 52), (1, 55), (2, 69), (3, 69), (4, 58), (5, 64)] 69 (by decide +kernel) (by decide) (by decide) (swP_c (fun c6_0 => ?_) (fun nc6_0 => swP_c (fun c6_1 => ?_) (fun nc6_1 => swP_c (fun c6_2 => ?_) (fun nc6_2 => swP_c (fun c6_3 => ?_) (fun nc6_3 => swP_c (fun c6_4 => ?_) (fun nc6_4 => swP_c (fun c6_5 => ?_) (fun nc6_5 => swP_n ?_)))))))
  · replace h := h.1 c6_0
    refine j_iload_n C 9 53 rfl rfl rfl 0 rfl ?_
    refine j_i2b C 10 54 rfl rfl ?_
    exact j_iret C 11 rfl h
  · replace h := (h.2 nc6_0).1 c6_1
    refine j_iload_n C 12 56 rfl rfl rfl 0 rfl ?_
    refine j_i2s C 13 57 rfl rfl ?_
    exact j_iret C 14 rfl h
  · replace h := ((h.2 nc6_0).2 nc6_1).1 c6_2
    refine j_iload_n C 23 70 rfl rfl rfl 0 rfl ?_
    exact j_iret C 24 rfl h
  · replace h := (((h.2 nc6_0).2 nc6_1).2 nc6_2).1 c6_3
    refine j_iload_n C 23 70 rfl rfl rfl 0 rfl ?_
    exact j_iret C 24 rfl h
  · replace h := ((((h.2 nc6_0).2 nc6_1).2 nc6_2).2 nc6_3).1 c6_4
    refine j_iload_n C 15 59 rfl rfl rfl 0 rfl ?_
    refine j_sipush C 16 62 rfl rfl kS_255 ?_
    refine j_iand C 17 63 rfl rfl ?_
    exact j_iret C 18 rfl h
  · replace h := (((((h.2 nc6_0).2 nc6_1).2 nc6_2).2 nc6_3).2 nc6_4).1 c6_5
    refine j_iload_n C 19 65 rfl rfl rfl 0 rfl ?_
    refine j_ldc C 20 67 rfl rfl w392 ?_
    refine j_iand C 21 68 rfl rfl ?_
    exact j_iret C 22 rfl h
  · replace h := ((((((h.2 nc6_0).2 nc6_1).2 nc6_2).2 nc6_3).2 nc6_4).2 nc6_5)
    refine j_iload_n C 23 70 rfl rfl rfl 0 rfl ?_
    exact j_iret C 24 rfl h
abbrev rm_Sto_write : Room := { frames := 2, cells := 0, slots := 0, locals := 42 }
def wp_Sto_write_21 (K : St → Prop) (S : St) (v1 : Int32) (v3 : Int32) (k0 : Int32) : Prop := wp_Sto_bitsBelow S v1 (fun r4 S3 => (∀ x5 : Int32, x5 = k0 <<< (r4 &&& 31) → (wp_Sto_wordAround S3 v1 (fun r7 S6 => (∀ x8 : Int32, x8 = r7 &&& (x5 ^^^ (-1)) → (wp_Sto_bitsBelow S6 v1 (fun r10 S9 => (wp_Sto_setWord S9 v1 (x8 ||| ((v3 <<< (r10 &&& 31)) &&& x5)) (fun S11 => (K S11))))))))))
set_option maxHeartbeats 4000000 in
set_option maxRecDepth 100000 in
theorem L_Sto_write_21 {p : Program} {l : Launch} {e : Env} {s : State} {m : MethodId} {args : Array Value} {below : List Frame} {meth : Method} {c : Code} {A : Nat → Prop} {D : va_G} {h0 : Nat} {a : Nat → Nat} {cI cB : ClassId} {K : St → Prop} (C : CX p rm_Sto_write s m args meth c b_Sto_write 7 "PipelinedCore$Store" none pr_Sto_write D clK (tysK cI cB) A) (S : St) (v1 : Int32) (v3 : Int32) (k0 : Int32) (h : wp_Sto_write_21 K S v1 v3 k0) : J p l e rm_Sto_write s m args below meth c 7 D clK A 0 0 (MQ below (va_Qv K (fun u t => QK D clK (tysK cI cB) A (wsK h0 a cI cB u) t) A) args s 0 0 A) (wsK h0 a cI cB S) [(0, .ref (a 4)), (1, .int v1), (3, .int v3)] 21 [.int k0] := by
  unfold wp_Sto_write_21 at h
  refine j_istore C 10 23 [(4, .int k0), (0, .ref (a 4)), (1, .int v1), (3, .int v3)] rfl rfl (by decide) rfl ?_
  refine j_iload C 11 25 rfl rfl 0 rfl ?_
  refine j_iload_n C 12 26 rfl rfl rfl 2 rfl ?_
  refine j_callSi C 13 29 rfl rfl w389 m_Sto_bitsBelow (As := [.int v1]) (c_Sto_bitsBelow l D h0 a cI cB S v1 _ h) ⟨rfl, rfl⟩ ⟨Nat.le_of_ble_eq_true rfl, Nat.le_of_ble_eq_true rfl⟩ rfl ⟨Nat.le_of_ble_eq_true rfl, Nat.le_of_ble_eq_true rfl⟩ (Nat.le_of_ble_eq_true rfl) rfl (fun r4 S3 h => ?_)
  refine j_ishl C 14 30 rfl rfl ?_
  refine j_topi (fun x5 ex5 => ?_)
  replace h := h x5 ex5
  refine j_istore C 15 32 [(5, .int x5), (4, .int k0), (0, .ref (a 4)), (1, .int v1), (3, .int v3)] rfl rfl (by decide) rfl ?_
  refine j_aload_n C 16 33 rfl rfl rfl 2 rfl ?_
  refine j_iload_n C 17 34 rfl rfl rfl 3 rfl ?_
  refine j_callVi C 18 37 rfl rfl w385 m_Sto_wordAround (As := [.int v1]) (c_Sto_wordAround l D h0 a cI cB S3 v1 _ h) ⟨rfl, rfl⟩ ⟨Nat.le_of_ble_eq_true rfl, Nat.le_of_ble_eq_true rfl⟩ 4 rfl rfl rfl ⟨Nat.le_of_ble_eq_true rfl, Nat.le_of_ble_eq_true rfl⟩ (Nat.le_of_ble_eq_true rfl) rfl (fun r7 S6 h => ?_)
  refine j_iload C 19 39 rfl rfl 0 rfl ?_
  refine j_iconst C 20 40 rfl rfl kI_m1 ?_
  refine j_ixor C 21 41 rfl rfl ?_
  refine j_iand C 22 42 rfl rfl ?_
  refine j_topi (fun x8 ex8 => ?_)
  replace h := h x8 ex8
  refine j_istore C 23 44 [(6, .int x8), (5, .int x5), (4, .int k0), (0, .ref (a 4)), (1, .int v1), (3, .int v3)] rfl rfl (by decide) rfl ?_
  refine j_aload_n C 24 45 rfl rfl rfl 3 rfl ?_
  refine j_iload_n C 25 46 rfl rfl rfl 4 rfl ?_
  refine j_iload C 26 48 rfl rfl 0 rfl ?_
  refine j_iload_n C 27 49 rfl rfl rfl 5 rfl ?_
  refine j_iload_n C 28 50 rfl rfl rfl 4 rfl ?_
  refine j_callSi C 29 53 rfl rfl w389 m_Sto_bitsBelow (As := [.int v1]) (c_Sto_bitsBelow l D h0 a cI cB S6 v1 _ h) ⟨rfl, rfl⟩ ⟨Nat.le_of_ble_eq_true rfl, Nat.le_of_ble_eq_true rfl⟩ rfl ⟨Nat.le_of_ble_eq_true rfl, Nat.le_of_ble_eq_true rfl⟩ (Nat.le_of_ble_eq_true rfl) rfl (fun r10 S9 h => ?_)
  refine j_ishl C 30 54 rfl rfl ?_
  refine j_iload C 31 56 rfl rfl 1 rfl ?_
  refine j_iand C 32 57 rfl rfl ?_
  refine j_ior C 33 58 rfl rfl ?_
  refine j_callVv C 34 61 rfl rfl w397 m_Sto_setWord (As := [.int v1, .int (x8 ||| ((v3 <<< (r10 &&& 31)) &&& x5))]) (c_Sto_setWord l D h0 a cI cB S9 v1 (x8 ||| ((v3 <<< (r10 &&& 31)) &&& x5)) _ h) ⟨rfl, rfl⟩ ⟨Nat.le_of_ble_eq_true rfl, Nat.le_of_ble_eq_true rfl⟩ 4 rfl rfl rfl ⟨Nat.le_of_ble_eq_true rfl, Nat.le_of_ble_eq_true rfl⟩ (Nat.le_of_ble_eq_true rfl) rfl (fun S11 h => ?_)
  exact j_vret C 35 rfl h
def wp_Sto_write (S : St) (p1 : Int32) (p2 : Int32) (p3 : Int32) (K : St → Prop) : Prop := ((¬ p2 = 0 → (((¬ p2 = 1 → ((wp_Sto_write_21 K S p1 p3 (-1)))) ∧ (p2 = 1 → ((wp_Sto_write_21 K S p1 p3 65535)))))) ∧ (p2 = 0 → ((wp_Sto_write_21 K S p1 p3 255))))
set_option maxHeartbeats 4000000 in
set_option maxRecDepth 100000 in
theorem c_Sto_write (l : Launch) (D : va_G) (h0 : Nat) (a : Nat → Nat) (cI cB : ClassId) (S : St) (p1 : Int32) (p2 : Int32) (p3 : Int32) (K : St → Prop) (h : wp_Sto_write S p1 p2 p3 K) (sz : Nat) : Met l y_Sto_write (Cond.code y_Sto_write b_Sto_write 7 none :: gw) rm_Sto_write (va_Pc [.ref (a 4), .int p1, .int p2, .int p3] (PK D clK (tysK cI cB) (wsK h0 a cI cB S) sz)) (va_Qv K (fun u t => QK D clK (tysK cI cB) (va_A (wsK h0 a cI cB S) sz) (wsK h0 a cI cB u) t) (va_A (wsK h0 a cI cB S) sz)) 0 0 (va_A (wsK h0 a cI cB S) sz) := by
  refine met_of (rm := rm_Sto_write) (pr := pr_Sto_write) (Qc := fun A => va_Qv K (fun u t => QK D clK (tysK cI cB) A (wsK h0 a cI cB u) t) A) (by decide +kernel) dm_Sto_write (Nat.le_of_ble_eq_true rfl) (fun p e s m args below meth c A C => ?_) sz
  unfold wp_Sto_write at h
  show J p l e rm_Sto_write s m args below meth c 7 D clK A 0 0 _ (wsK h0 a cI cB S) [(0, .ref (a 4)), (1, .int p1), (2, .int p2), (3, .int p3)] 0 []
  refine j_iload_n C 0 1 rfl rfl rfl 2 rfl ?_
  refine j_if_ne C 1 10 4 rfl (by decide) rfl (fun c1 => ?_) (fun c1 => ?_)
  · replace h := h.1 c1
    refine j_iload_n C 4 11 rfl rfl rfl 2 rfl ?_
    refine j_iconst C 5 12 rfl rfl kI_1 ?_
    refine j_icmp_ne C 6 20 15 rfl (by decide) rfl (fun c2 => ?_) (fun c2 => ?_)
    · replace h := h.1 c2
      refine j_iconst C 9 21 rfl rfl kI_m1 ?_
      refine j_sub [0, 1, 3] rfl ?_
      exact L_Sto_write_21 C S p1 p3 (-1) h
    · replace h := h.2 c2
      refine j_ldc C 7 17 rfl rfl w392 ?_
      refine j_goto C 8 21 rfl (by decide) ?_
      refine j_sub [0, 1, 3] rfl ?_
      exact L_Sto_write_21 C S p1 p3 65535 h
  · replace h := h.2 c1
    refine j_sipush C 2 7 rfl rfl kS_255 ?_
    refine j_goto C 3 21 rfl (by decide) ?_
    refine j_sub [0, 1, 3] rfl ?_
    exact L_Sto_write_21 C S p1 p3 255 h
abbrev rm_His_add : Room := { frames := 0, cells := 0, slots := 0, locals := 0 }
def wp_His_add (S : St) (p1 : Int32) (p2 : Int32) (K : St → Prop) : Prop := ∀ x1 : Int32, x1 = (S 12 2) &&& 15 → (vp_in x1 16 ∧ (∀ S2 : St, S2 = st S 13 x1.toNatClampNeg p1 → (vp_in x1 16 ∧ (∀ S3 : St, S3 = st S2 14 x1.toNatClampNeg p2 → (∀ S4 : St, S4 = st S3 12 2 ((S3 12 2) + 1) → (K S4))))))
set_option maxHeartbeats 4000000 in
set_option maxRecDepth 100000 in
theorem c_His_add (l : Launch) (D : va_G) (h0 : Nat) (a : Nat → Nat) (cI cB : ClassId) (S : St) (p1 : Int32) (p2 : Int32) (K : St → Prop) (h : wp_His_add S p1 p2 K) (sz : Nat) : Met l y_His_add (Cond.code y_His_add b_His_add 4 none :: gw) rm_His_add (va_Pc [.ref (a 14), .int p1, .int p2] (PK D clK (tysK cI cB) (wsK h0 a cI cB S) sz)) (va_Qv K (fun u t => QK D clK (tysK cI cB) (va_A (wsK h0 a cI cB S) sz) (wsK h0 a cI cB u) t) (va_A (wsK h0 a cI cB S) sz)) 0 0 (va_A (wsK h0 a cI cB S) sz) := by
  refine met_of (rm := rm_His_add) (pr := pr_His_add) (Qc := fun A => va_Qv K (fun u t => QK D clK (tysK cI cB) A (wsK h0 a cI cB u) t) A) (by decide +kernel) dm_His_add (Nat.le_of_ble_eq_true rfl) (fun p e s m args below meth c A C => ?_) sz
  unfold wp_His_add at h
  show J p l e rm_His_add s m args below meth c 4 D clK A 0 0 _ (wsK h0 a cI cB S) [(0, .ref (a 14)), (1, .int p1), (2, .int p2)] 0 []
  refine j_aload_n C 0 1 rfl rfl rfl 0 rfl ?_
  refine j_get C 1 4 rfl rfl fg_His_16 14 rfl rfl ?_
  refine j_bipush C 2 6 rfl rfl kB_15 ?_
  refine j_iand C 3 7 rfl rfl ?_
  refine j_topi (fun x1 ex1 => ?_)
  replace h := h x1 ex1
  refine j_istore_n C 4 8 [(3, .int x1), (0, .ref (a 14)), (1, .int p1), (2, .int p2)] rfl rfl rfl (by decide) rfl ?_
  refine j_aload_n C 5 9 rfl rfl rfl 1 rfl ?_
  refine j_get C 6 12 rfl rfl fg_His_9 14 rfl rfl ?_
  refine j_iload_n C 7 13 rfl rfl rfl 0 rfl ?_
  refine j_iload_n C 8 14 rfl rfl rfl 2 rfl ?_
  refine j_iast C 9 15 rfl rfl 15 0 rfl rfl h.1 (st S 13 x1.toNatClampNeg p1) (sK_15 _ _ _ _ _ _ _) (fun S2 eS2 => ?_)
  replace h := h.2
  replace h := h S2 eS2
  refine j_aload_n C 10 16 rfl rfl rfl 1 rfl ?_
  refine j_get C 11 19 rfl rfl fg_His_13 14 rfl rfl ?_
  refine j_iload_n C 12 20 rfl rfl rfl 0 rfl ?_
  refine j_iload_n C 13 21 rfl rfl rfl 3 rfl ?_
  refine j_iast C 14 22 rfl rfl 16 0 rfl rfl h.1 (st S2 14 x1.toNatClampNeg p2) (sK_16 _ _ _ _ _ _ _) (fun S3 eS3 => ?_)
  replace h := h.2
  replace h := h S3 eS3
  refine j_aload_n C 15 23 rfl rfl rfl 1 rfl ?_
  refine j_dup C 16 24 rfl rfl rfl ?_
  refine j_get C 17 27 rfl rfl fg_His_16 14 rfl rfl ?_
  refine j_iconst C 18 28 rfl rfl kI_1 ?_
  refine j_iadd C 19 29 rfl rfl ?_
  refine j_put C 20 32 rfl rfl fp_His_16 14 rfl (Nat.le_of_ble_eq_true rfl) rfl rfl (st S3 12 2 ((S3 12 2) + 1)) (sK_14_2 _ _ _ _ _ _) (fun S4 eS4 => ?_)
  replace h := h S4 eS4
  exact j_vret C 21 rfl h
abbrev rm_K_end : Room := { frames := 3, cells := 0, slots := 0, locals := 68 }
def wp_K_end_99 (K : St → Prop) (S : St)  : Prop := wp_His_add S (S 17 1) (S 0 10) (fun S13 => (K S13))
set_option maxHeartbeats 4000000 in
set_option maxRecDepth 100000 in
theorem L_K_end_99 {p : Program} {l : Launch} {e : Env} {s : State} {m : MethodId} {args : Array Value} {below : List Frame} {meth : Method} {c : Code} {A : Nat → Prop} {D : va_G} {h0 : Nat} {a : Nat → Nat} {cI cB : ClassId} {K : St → Prop} (C : CX p rm_K_end s m args meth c b_K_end 2 "PipelinedCore" none pr_K_end D clK (tysK cI cB) A) (S : St)  (h : wp_K_end_99 K S) : J p l e rm_K_end s m args below meth c 2 D clK A 0 0 (MQ below (va_Qv K (fun u t => QK D clK (tysK cI cB) A (wsK h0 a cI cB u) t) A) args s 0 0 A) (wsK h0 a cI cB S) [(0, .ref h0), (1, .ref (a 19))] 99 [] := by
  unfold wp_K_end_99 at h
  refine j_aload_n C 49 100 rfl rfl rfl 0 rfl ?_
  refine j_get C 50 103 rfl rfl fg_K_40 0 rfl rfl ?_
  refine j_aload_n C 51 104 rfl rfl rfl 1 rfl ?_
  refine j_get C 52 107 rfl rfl fg_K_115 19 rfl rfl ?_
  refine j_aload_n C 53 108 rfl rfl rfl 0 rfl ?_
  refine j_get C 54 111 rfl rfl fg_K_70 0 rfl rfl ?_
  refine j_callVv C 55 114 rfl rfl w398 m_His_add (As := [.int (S 17 1), .int (S 0 10)]) (c_His_add l D h0 a cI cB S (S 17 1) (S 0 10) _ h) ⟨rfl, rfl⟩ ⟨Nat.le_of_ble_eq_true rfl, Nat.le_of_ble_eq_true rfl⟩ 14 rfl rfl rfl ⟨Nat.le_of_ble_eq_true rfl, Nat.le_of_ble_eq_true rfl⟩ (Nat.le_of_ble_eq_true rfl) rfl (fun S13 h => ?_)
  exact j_vret C 56 rfl h
def wp_K_end_82 (K : St → Prop) (S : St)  : Prop := (((S 17 5) = 0 → ((wp_K_end_99 K S))) ∧ (¬ (S 17 5) = 0 → (∀ S12 : St, S12 = st S 0 13 ((S 0 13) + 1) → ((wp_K_end_99 K S12)))))
set_option maxHeartbeats 4000000 in
set_option maxRecDepth 100000 in
theorem L_K_end_82 {p : Program} {l : Launch} {e : Env} {s : State} {m : MethodId} {args : Array Value} {below : List Frame} {meth : Method} {c : Code} {A : Nat → Prop} {D : va_G} {h0 : Nat} {a : Nat → Nat} {cI cB : ClassId} {K : St → Prop} (C : CX p rm_K_end s m args meth c b_K_end 2 "PipelinedCore" none pr_K_end D clK (tysK cI cB) A) (S : St)  (h : wp_K_end_82 K S) : J p l e rm_K_end s m args below meth c 2 D clK A 0 0 (MQ below (va_Qv K (fun u t => QK D clK (tysK cI cB) A (wsK h0 a cI cB u) t) A) args s 0 0 A) (wsK h0 a cI cB S) [(0, .ref h0), (1, .ref (a 19))] 82 [] := by
  unfold wp_K_end_82 at h
  refine j_aload_n C 40 83 rfl rfl rfl 1 rfl ?_
  refine j_get C 41 86 rfl rfl fg_K_175 19 rfl rfl ?_
  refine j_if_eq C 42 99 89 rfl (by decide) rfl (fun c11 => ?_) (fun c11 => ?_)
  · replace h := h.1 c11
    exact L_K_end_99 C S h
  · replace h := h.2 c11
    refine j_aload_n C 43 90 rfl rfl rfl 0 rfl ?_
    refine j_dup C 44 91 rfl rfl rfl ?_
    refine j_get C 45 94 rfl rfl fg_K_121 0 rfl rfl ?_
    refine j_iconst C 46 95 rfl rfl kI_1 ?_
    refine j_iadd C 47 96 rfl rfl ?_
    refine j_put C 48 99 rfl rfl fp_K_121 0 rfl (Nat.le_of_ble_eq_true rfl) rfl rfl (st S 0 13 ((S 0 13) + 1)) (sK_0_13 _ _ _ _ _ _) (fun S12 eS12 => ?_)
    replace h := h S12 eS12
    exact L_K_end_99 C S12 h
def wp_K_end_62 (K : St → Prop) (S : St)  : Prop := (((S 17 6) = 0 → ((wp_K_end_82 K S))) ∧ (¬ (S 17 6) = 0 → (vp_in (S 17 6) 32 ∧ (∀ S10 : St, S10 = st S 2 (S 17 6 : Int32).toNatClampNeg (S 17 7) → ((wp_K_end_82 K S10))))))
set_option maxHeartbeats 4000000 in
set_option maxRecDepth 100000 in
theorem L_K_end_62 {p : Program} {l : Launch} {e : Env} {s : State} {m : MethodId} {args : Array Value} {below : List Frame} {meth : Method} {c : Code} {A : Nat → Prop} {D : va_G} {h0 : Nat} {a : Nat → Nat} {cI cB : ClassId} {K : St → Prop} (C : CX p rm_K_end s m args meth c b_K_end 2 "PipelinedCore" none pr_K_end D clK (tysK cI cB) A) (S : St)  (h : wp_K_end_62 K S) : J p l e rm_K_end s m args below meth c 2 D clK A 0 0 (MQ below (va_Qv K (fun u t => QK D clK (tysK cI cB) A (wsK h0 a cI cB u) t) A) args s 0 0 A) (wsK h0 a cI cB S) [(0, .ref h0), (1, .ref (a 19))] 62 [] := by
  unfold wp_K_end_62 at h
  refine j_aload_n C 30 63 rfl rfl rfl 1 rfl ?_
  refine j_get C 31 66 rfl rfl fg_K_172 19 rfl rfl ?_
  refine j_if_eq C 32 82 69 rfl (by decide) rfl (fun c9 => ?_) (fun c9 => ?_)
  · replace h := h.1 c9
    exact L_K_end_82 C S h
  · replace h := h.2 c9
    refine j_aload_n C 33 70 rfl rfl rfl 0 rfl ?_
    refine j_get C 34 73 rfl rfl fg_K_13 0 rfl rfl ?_
    refine j_aload_n C 35 74 rfl rfl rfl 1 rfl ?_
    refine j_get C 36 77 rfl rfl fg_K_172 19 rfl rfl ?_
    refine j_aload_n C 37 78 rfl rfl rfl 1 rfl ?_
    refine j_get C 38 81 rfl rfl fg_K_163 19 rfl rfl ?_
    refine j_iast C 39 82 rfl rfl 2 0 rfl rfl h.1 (st S 2 (S 17 6 : Int32).toNatClampNeg (S 17 7)) (sK_2 _ _ _ _ _ _ _) (fun S10 eS10 => ?_)
    replace h := h.2
    replace h := h S10 eS10
    exact L_K_end_82 C S10 h
def wp_K_end (S : St)  (K : St → Prop) : Prop := ∀ S1 : St, S1 = st S 17 0 0 → (((¬ (S1 17 8) = 1 → (((¬ (S1 17 8) = 2 → ((wp_K_end_62 K S1))) ∧ ((S1 17 8) = 2 → (wp_Sto_write S1 (S1 17 9) (S1 17 10) (S1 17 11) (fun S4 => ((wp_K_end_62 K S4)))))))) ∧ ((S1 17 8) = 1 → (wp_Sto_read S1 (S1 17 9) (S1 17 10) (fun r7 S6 => (∀ S8 : St, S8 = st S6 17 7 r7 → ((wp_K_end_62 K S8))))))))
set_option maxHeartbeats 4000000 in
set_option maxRecDepth 100000 in
theorem c_K_end (l : Launch) (D : va_G) (h0 : Nat) (a : Nat → Nat) (cI cB : ClassId) (S : St)  (K : St → Prop) (h : wp_K_end S K) (sz : Nat) : Met l y_K_end (Cond.code y_K_end b_K_end 2 none :: gw) rm_K_end (va_Pc [.ref h0, .ref (a 19)] (PK D clK (tysK cI cB) (wsK h0 a cI cB S) sz)) (va_Qv K (fun u t => QK D clK (tysK cI cB) (va_A (wsK h0 a cI cB S) sz) (wsK h0 a cI cB u) t) (va_A (wsK h0 a cI cB S) sz)) 0 0 (va_A (wsK h0 a cI cB S) sz) := by
  refine met_of (rm := rm_K_end) (pr := pr_K_end) (Qc := fun A => va_Qv K (fun u t => QK D clK (tysK cI cB) A (wsK h0 a cI cB u) t) A) (by decide +kernel) dm_K_end (Nat.le_of_ble_eq_true rfl) (fun p e s m args below meth c A C => ?_) sz
  unfold wp_K_end at h
  show J p l e rm_K_end s m args below meth c 2 D clK A 0 0 _ (wsK h0 a cI cB S) [(0, .ref h0), (1, .ref (a 19))] 0 []
  refine j_aload_n C 0 1 rfl rfl rfl 1 rfl ?_
  refine j_iconst C 1 2 rfl rfl kI_0 ?_
  refine j_put C 2 5 rfl rfl fp_K_111 19 rfl (Nat.le_of_ble_eq_true rfl) (isB_nar isB_0) (isB_fit isB_0) (st S 17 0 0) (sK_19_0 _ _ _ _ _ _) (fun S1 eS1 => ?_)
  replace h := h S1 eS1
  refine j_aload_n C 3 6 rfl rfl rfl 1 rfl ?_
  refine j_get C 4 9 rfl rfl fg_K_152 19 rfl rfl ?_
  refine j_iconst C 5 10 rfl rfl kI_1 ?_
  refine j_icmp_ne C 6 35 13 rfl (by decide) rfl (fun c2 => ?_) (fun c2 => ?_)
  · replace h := h.1 c2
    refine j_aload_n C 17 36 rfl rfl rfl 1 rfl ?_
    refine j_get C 18 39 rfl rfl fg_K_152 19 rfl rfl ?_
    refine j_iconst C 19 40 rfl rfl kI_2 ?_
    refine j_icmp_ne C 20 62 43 rfl (by decide) rfl (fun c3 => ?_) (fun c3 => ?_)
    · replace h := h.1 c3
      exact L_K_end_62 C S1 h
    · replace h := h.2 c3
      refine j_aload_n C 21 44 rfl rfl rfl 0 rfl ?_
      refine j_get C 22 47 rfl rfl fg_K_26 0 rfl rfl ?_
      refine j_aload_n C 23 48 rfl rfl rfl 1 rfl ?_
      refine j_get C 24 51 rfl rfl fg_K_155 19 rfl rfl ?_
      refine j_aload_n C 25 52 rfl rfl rfl 1 rfl ?_
      refine j_get C 26 55 rfl rfl fg_K_158 19 rfl rfl ?_
      refine j_aload_n C 27 56 rfl rfl rfl 1 rfl ?_
      refine j_get C 28 59 rfl rfl fg_K_166 19 rfl rfl ?_
      refine j_callVv C 29 62 rfl rfl w393 m_Sto_write (As := [.int (S1 17 9), .int (S1 17 10), .int (S1 17 11)]) (c_Sto_write l D h0 a cI cB S1 (S1 17 9) (S1 17 10) (S1 17 11) _ h) ⟨rfl, rfl⟩ ⟨Nat.le_of_ble_eq_true rfl, Nat.le_of_ble_eq_true rfl⟩ 4 rfl rfl rfl ⟨Nat.le_of_ble_eq_true rfl, Nat.le_of_ble_eq_true rfl⟩ (Nat.le_of_ble_eq_true rfl) rfl (fun S4 h => ?_)
      exact L_K_end_62 C S4 h
  · replace h := h.2 c2
    refine j_aload_n C 7 14 rfl rfl rfl 1 rfl ?_
    refine j_aload_n C 8 15 rfl rfl rfl 0 rfl ?_
    refine j_get C 9 18 rfl rfl fg_K_26 0 rfl rfl ?_
    refine j_aload_n C 10 19 rfl rfl rfl 1 rfl ?_
    refine j_get C 11 22 rfl rfl fg_K_155 19 rfl rfl ?_
    refine j_aload_n C 12 23 rfl rfl rfl 1 rfl ?_
    refine j_get C 13 26 rfl rfl fg_K_158 19 rfl rfl ?_
    refine j_callVi C 14 29 rfl rfl w381 m_Sto_read (As := [.int (S1 17 9), .int (S1 17 10)]) (c_Sto_read l D h0 a cI cB S1 (S1 17 9) (S1 17 10) _ h) ⟨rfl, rfl⟩ ⟨Nat.le_of_ble_eq_true rfl, Nat.le_of_ble_eq_true rfl⟩ 4 rfl rfl rfl ⟨Nat.le_of_ble_eq_true rfl, Nat.le_of_ble_eq_true rfl⟩ (Nat.le_of_ble_eq_true rfl) rfl (fun r7 S6 h => ?_)
    refine j_put C 15 32 rfl rfl fp_K_163 19 rfl (Nat.le_of_ble_eq_true rfl) rfl rfl (st S6 17 7 r7) (sK_19_7 _ _ _ _ _ _) (fun S8 eS8 => ?_)
    replace h := h S8 eS8
    refine j_goto C 16 62 rfl (by decide) ?_
    exact L_K_end_62 C S8 h
end
