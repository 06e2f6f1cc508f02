section
-- ===== PART A: goes FIRST, ahead of the names: the tables' words, and 'selects' of the private methods out of them =====
/-- a private method of a class that the tables say can be made, by its rows of tables_1 -/
def lw_okq (q : MethodName × Nat) : Prop := (q.1.cls ≠ "java/lang/invoke/MethodHandle" ∧ q.1.cls ≠ "java/lang/invoke/VarHandle") ∧ Cond.instantiable q.1.cls q.2 ∈ tables_1 ∧ Cond.privateMethod q.1 ∈ tables_1 ∧ Cond.instanceMethod q.1 ∈ tables_1
theorem lw_p0 : lw_okq (⟨"ParishYards$Rings", "parishAt", "(II)I"⟩, 3) := ⟨⟨by decide +kernel, by decide +kernel⟩, List.mem_of_getElem? (i := 148) (by decide +kernel), List.mem_of_getElem? (i := 165) (by decide +kernel), List.mem_of_getElem? (i := 166) (by decide +kernel)⟩
theorem lw_p1 : lw_okq (⟨"ParishYards$Rings", "stands", "(LParishYards$Tables;I)Z"⟩, 3) := ⟨⟨by decide +kernel, by decide +kernel⟩, List.mem_of_getElem? (i := 148) (by decide +kernel), List.mem_of_getElem? (i := 315) (by decide +kernel), List.mem_of_getElem? (i := 316) (by decide +kernel)⟩
theorem lw_p2 : lw_okq (⟨"ParishYards", "bound", "()I"⟩, 9) := ⟨⟨by decide +kernel, by decide +kernel⟩, List.mem_of_getElem? (i := 21) (by decide +kernel), List.mem_of_getElem? (i := 319) (by decide +kernel), List.mem_of_getElem? (i := 320) (by decide +kernel)⟩
theorem lw_p3 : lw_okq (⟨"ParishYards$Rings", "product", "(LParishYards$Tables;IZ)J"⟩, 3) := ⟨⟨by decide +kernel, by decide +kernel⟩, List.mem_of_getElem? (i := 148) (by decide +kernel), List.mem_of_getElem? (i := 336) (by decide +kernel), List.mem_of_getElem? (i := 337) (by decide +kernel)⟩
theorem lw_p4 : lw_okq (⟨"java/lang/Throwable", "fillInStackTrace", "(I)Ljava/lang/Throwable;"⟩, 6) := ⟨⟨by decide +kernel, by decide +kernel⟩, List.mem_of_getElem? (i := 402) (by decide +kernel), List.mem_of_getElem? (i := 400) (by decide +kernel), List.mem_of_getElem? (i := 401) (by decide +kernel)⟩
theorem lw_p5 : lw_okq (⟨"ParishYards$Measures", "measure", "(LParishYards$Tables;)V"⟩, 2) := ⟨⟨by decide +kernel, by decide +kernel⟩, List.mem_of_getElem? (i := 202) (by decide +kernel), List.mem_of_getElem? (i := 440) (by decide +kernel), List.mem_of_getElem? (i := 441) (by decide +kernel)⟩
theorem lw_p6 : lw_okq (⟨"ParishYards$Measures", "isMeasured", "(I)Z"⟩, 2) := ⟨⟨by decide +kernel, by decide +kernel⟩, List.mem_of_getElem? (i := 202) (by decide +kernel), List.mem_of_getElem? (i := 447) (by decide +kernel), List.mem_of_getElem? (i := 448) (by decide +kernel)⟩
theorem lw_p7 : lw_okq (⟨"ParishYards$Measures", "spread", "(LParishYards$Tables;)V"⟩, 2) := ⟨⟨by decide +kernel, by decide +kernel⟩, List.mem_of_getElem? (i := 202) (by decide +kernel), List.mem_of_getElem? (i := 454) (by decide +kernel), List.mem_of_getElem? (i := 455) (by decide +kernel)⟩
theorem lw_p8 : lw_okq (⟨"ParishYards$Measures", "agrees", "(LParishYards$Tables;II)Z"⟩, 2) := ⟨⟨by decide +kernel, by decide +kernel⟩, List.mem_of_getElem? (i := 202) (by decide +kernel), List.mem_of_getElem? (i := 464) (by decide +kernel), List.mem_of_getElem? (i := 465) (by decide +kernel)⟩
theorem lw_p9 : lw_okq (⟨"ParishYards", "hashPairs", "(J)J"⟩, 9) := ⟨⟨by decide +kernel, by decide +kernel⟩, List.mem_of_getElem? (i := 21) (by decide +kernel), List.mem_of_getElem? (i := 474) (by decide +kernel), List.mem_of_getElem? (i := 475) (by decide +kernel)⟩
theorem lw_p10 : lw_okq (⟨"ParishYards$Rings", "standsWith", "(LParishYards$Tables;II)Z"⟩, 3) := ⟨⟨by decide +kernel, by decide +kernel⟩, List.mem_of_getElem? (i := 148) (by decide +kernel), List.mem_of_getElem? (i := 509) (by decide +kernel), List.mem_of_getElem? (i := 510) (by decide +kernel)⟩
theorem lw_p11 : lw_okq (⟨"ParishYards", "rounding", "()I"⟩, 9) := ⟨⟨by decide +kernel, by decide +kernel⟩, List.mem_of_getElem? (i := 21) (by decide +kernel), List.mem_of_getElem? (i := 554) (by decide +kernel), List.mem_of_getElem? (i := 555) (by decide +kernel)⟩
theorem lw_p12 : lw_okq (⟨"ParishYards", "hashRings", "(J)J"⟩, 9) := ⟨⟨by decide +kernel, by decide +kernel⟩, List.mem_of_getElem? (i := 21) (by decide +kernel), List.mem_of_getElem? (i := 577) (by decide +kernel), List.mem_of_getElem? (i := 578) (by decide +kernel)⟩
theorem lw_p13 : lw_okq (⟨"ParishYards", "hashBolts", "(J)J"⟩, 9) := ⟨⟨by decide +kernel, by decide +kernel⟩, List.mem_of_getElem? (i := 21) (by decide +kernel), List.mem_of_getElem? (i := 602) (by decide +kernel), List.mem_of_getElem? (i := 603) (by decide +kernel)⟩
theorem lw_p14 : lw_okq (⟨"ParishYards", "checkBolt", "(I)V"⟩, 9) := ⟨⟨by decide +kernel, by decide +kernel⟩, List.mem_of_getElem? (i := 21) (by decide +kernel), List.mem_of_getElem? (i := 610) (by decide +kernel), List.mem_of_getElem? (i := 611) (by decide +kernel)⟩
theorem lw_p15 : lw_okq (⟨"ParishYards$History", "dropOldest", "()V"⟩, 2) := ⟨⟨by decide +kernel, by decide +kernel⟩, List.mem_of_getElem? (i := 113) (by decide +kernel), List.mem_of_getElem? (i := 670) (by decide +kernel), List.mem_of_getElem? (i := 671) (by decide +kernel)⟩
def lw_privs_1 : List (MethodName × Nat) := [(⟨"ParishYards$Rings", "parishAt", "(II)I"⟩, 3), (⟨"ParishYards$Rings", "stands", "(LParishYards$Tables;I)Z"⟩, 3), (⟨"ParishYards", "bound", "()I"⟩, 9), (⟨"ParishYards$Rings", "product", "(LParishYards$Tables;IZ)J"⟩, 3), (⟨"java/lang/Throwable", "fillInStackTrace", "(I)Ljava/lang/Throwable;"⟩, 6), (⟨"ParishYards$Measures", "measure", "(LParishYards$Tables;)V"⟩, 2), (⟨"ParishYards$Measures", "isMeasured", "(I)Z"⟩, 2), (⟨"ParishYards$Measures", "spread", "(LParishYards$Tables;)V"⟩, 2), (⟨"ParishYards$Measures", "agrees", "(LParishYards$Tables;II)Z"⟩, 2), (⟨"ParishYards", "hashPairs", "(J)J"⟩, 9), (⟨"ParishYards$Rings", "standsWith", "(LParishYards$Tables;II)Z"⟩, 3), (⟨"ParishYards", "rounding", "()I"⟩, 9), (⟨"ParishYards", "hashRings", "(J)J"⟩, 9), (⟨"ParishYards", "hashBolts", "(J)J"⟩, 9), (⟨"ParishYards", "checkBolt", "(I)V"⟩, 9), (⟨"ParishYards$History", "dropOldest", "()V"⟩, 2)]
theorem lw_r1 : ∀ q ∈ lw_privs_1, lw_okq q := List.forall_mem_cons.mpr ⟨lw_p0, List.forall_mem_cons.mpr ⟨lw_p1, List.forall_mem_cons.mpr ⟨lw_p2, List.forall_mem_cons.mpr ⟨lw_p3, List.forall_mem_cons.mpr ⟨lw_p4, List.forall_mem_cons.mpr ⟨lw_p5, List.forall_mem_cons.mpr ⟨lw_p6, List.forall_mem_cons.mpr ⟨lw_p7, List.forall_mem_cons.mpr ⟨lw_p8, List.forall_mem_cons.mpr ⟨lw_p9, List.forall_mem_cons.mpr ⟨lw_p10, List.forall_mem_cons.mpr ⟨lw_p11, List.forall_mem_cons.mpr ⟨lw_p12, List.forall_mem_cons.mpr ⟨lw_p13, List.forall_mem_cons.mpr ⟨lw_p14, List.forall_mem_cons.mpr ⟨lw_p15, fun _ h => absurd h List.not_mem_nil⟩⟩⟩⟩⟩⟩⟩⟩⟩⟩⟩⟩⟩⟩⟩⟩
theorem lw_p16 : lw_okq (⟨"ParishYards", "whyNoSend", "(II)I"⟩, 9) := ⟨⟨by decide +kernel, by decide +kernel⟩, List.mem_of_getElem? (i := 21) (by decide +kernel), List.mem_of_getElem? (i := 743) (by decide +kernel), List.mem_of_getElem? (i := 744) (by decide +kernel)⟩
theorem lw_p17 : lw_okq (⟨"ParishYards", "lengthSent", "(II)J"⟩, 9) := ⟨⟨by decide +kernel, by decide +kernel⟩, List.mem_of_getElem? (i := 21) (by decide +kernel), List.mem_of_getElem? (i := 747) (by decide +kernel), List.mem_of_getElem? (i := 748) (by decide +kernel)⟩
theorem lw_p18 : lw_okq (⟨"ParishYards", "moveBolt", "(II)V"⟩, 9) := ⟨⟨by decide +kernel, by decide +kernel⟩, List.mem_of_getElem? (i := 21) (by decide +kernel), List.mem_of_getElem? (i := 753) (by decide +kernel), List.mem_of_getElem? (i := 754) (by decide +kernel)⟩
theorem lw_p19 : lw_okq (⟨"ParishYards$Bolts", "closeUp", "([II)V"⟩, 7) := ⟨⟨by decide +kernel, by decide +kernel⟩, List.mem_of_getElem? (i := 53) (by decide +kernel), List.mem_of_getElem? (i := 773) (by decide +kernel), List.mem_of_getElem? (i := 774) (by decide +kernel)⟩
theorem lw_p20 : lw_okq (⟨"ParishYards", "doPart", "(I)I"⟩, 9) := ⟨⟨by decide +kernel, by decide +kernel⟩, List.mem_of_getElem? (i := 21) (by decide +kernel), List.mem_of_getElem? (i := 807) (by decide +kernel), List.mem_of_getElem? (i := 808) (by decide +kernel)⟩
theorem lw_p21 : lw_okq (⟨"ParishYards", "doDrop", "(II)I"⟩, 9) := ⟨⟨by decide +kernel, by decide +kernel⟩, List.mem_of_getElem? (i := 21) (by decide +kernel), List.mem_of_getElem? (i := 811) (by decide +kernel), List.mem_of_getElem? (i := 812) (by decide +kernel)⟩
theorem lw_p22 : lw_okq (⟨"ParishYards", "doBolt", "(II)I"⟩, 9) := ⟨⟨by decide +kernel, by decide +kernel⟩, List.mem_of_getElem? (i := 21) (by decide +kernel), List.mem_of_getElem? (i := 815) (by decide +kernel), List.mem_of_getElem? (i := 816) (by decide +kernel)⟩
theorem lw_p23 : lw_okq (⟨"ParishYards", "doSend", "(II)I"⟩, 9) := ⟨⟨by decide +kernel, by decide +kernel⟩, List.mem_of_getElem? (i := 21) (by decide +kernel), List.mem_of_getElem? (i := 819) (by decide +kernel), List.mem_of_getElem? (i := 820) (by decide +kernel)⟩
theorem lw_p24 : lw_okq (⟨"ParishYards", "doTable", "(IIII)I"⟩, 9) := ⟨⟨by decide +kernel, by decide +kernel⟩, List.mem_of_getElem? (i := 21) (by decide +kernel), List.mem_of_getElem? (i := 823) (by decide +kernel), List.mem_of_getElem? (i := 824) (by decide +kernel)⟩
theorem lw_p25 : lw_okq (⟨"ParishYardsModel", "refused", "(I)Z"⟩, 19) := ⟨⟨by decide +kernel, by decide +kernel⟩, List.mem_of_getElem? (i := 883) (by decide +kernel), List.mem_of_getElem? (i := 971) (by decide +kernel), List.mem_of_getElem? (i := 972) (by decide +kernel)⟩
theorem lw_p26 : lw_okq (⟨"ParishYardsModel", "saves", "()V"⟩, 19) := ⟨⟨by decide +kernel, by decide +kernel⟩, List.mem_of_getElem? (i := 883) (by decide +kernel), List.mem_of_getElem? (i := 975) (by decide +kernel), List.mem_of_getElem? (i := 976) (by decide +kernel)⟩
theorem lw_p27 : lw_okq (⟨"ParishYardsModel", "offTried", "(IIII)I"⟩, 19) := ⟨⟨by decide +kernel, by decide +kernel⟩, List.mem_of_getElem? (i := 883) (by decide +kernel), List.mem_of_getElem? (i := 989) (by decide +kernel), List.mem_of_getElem? (i := 990) (by decide +kernel)⟩
theorem lw_p28 : lw_okq (⟨"ParishYardsModel", "up", "(II)I"⟩, 19) := ⟨⟨by decide +kernel, by decide +kernel⟩, List.mem_of_getElem? (i := 883) (by decide +kernel), List.mem_of_getElem? (i := 993) (by decide +kernel), List.mem_of_getElem? (i := 994) (by decide +kernel)⟩
theorem lw_p29 : lw_okq (⟨"ParishYardsModel", "down", "(II)I"⟩, 19) := ⟨⟨by decide +kernel, by decide +kernel⟩, List.mem_of_getElem? (i := 883) (by decide +kernel), List.mem_of_getElem? (i := 1000) (by decide +kernel), List.mem_of_getElem? (i := 1001) (by decide +kernel)⟩
theorem lw_p30 : lw_okq (⟨"ParishYardsModel", "puts", "(IIII)V"⟩, 19) := ⟨⟨by decide +kernel, by decide +kernel⟩, List.mem_of_getElem? (i := 883) (by decide +kernel), List.mem_of_getElem? (i := 1004) (by decide +kernel), List.mem_of_getElem? (i := 1005) (by decide +kernel)⟩
theorem lw_p31 : lw_okq (⟨"ParishYardsModel", "offWith", "(II)I"⟩, 19) := ⟨⟨by decide +kernel, by decide +kernel⟩, List.mem_of_getElem? (i := 883) (by decide +kernel), List.mem_of_getElem? (i := 1008) (by decide +kernel), List.mem_of_getElem? (i := 1009) (by decide +kernel)⟩
def lw_privs_2 : List (MethodName × Nat) := [(⟨"ParishYards", "whyNoSend", "(II)I"⟩, 9), (⟨"ParishYards", "lengthSent", "(II)J"⟩, 9), (⟨"ParishYards", "moveBolt", "(II)V"⟩, 9), (⟨"ParishYards$Bolts", "closeUp", "([II)V"⟩, 7), (⟨"ParishYards", "doPart", "(I)I"⟩, 9), (⟨"ParishYards", "doDrop", "(II)I"⟩, 9), (⟨"ParishYards", "doBolt", "(II)I"⟩, 9), (⟨"ParishYards", "doSend", "(II)I"⟩, 9), (⟨"ParishYards", "doTable", "(IIII)I"⟩, 9), (⟨"ParishYardsModel", "refused", "(I)Z"⟩, 19), (⟨"ParishYardsModel", "saves", "()V"⟩, 19), (⟨"ParishYardsModel", "offTried", "(IIII)I"⟩, 19), (⟨"ParishYardsModel", "up", "(II)I"⟩, 19), (⟨"ParishYardsModel", "down", "(II)I"⟩, 19), (⟨"ParishYardsModel", "puts", "(IIII)V"⟩, 19), (⟨"ParishYardsModel", "offWith", "(II)I"⟩, 19)]
theorem lw_r2 : ∀ q ∈ lw_privs_2, lw_okq q := List.forall_mem_cons.mpr ⟨lw_p16, List.forall_mem_cons.mpr ⟨lw_p17, List.forall_mem_cons.mpr ⟨lw_p18, List.forall_mem_cons.mpr ⟨lw_p19, List.forall_mem_cons.mpr ⟨lw_p20, List.forall_mem_cons.mpr ⟨lw_p21, List.forall_mem_cons.mpr ⟨lw_p22, List.forall_mem_cons.mpr ⟨lw_p23, List.forall_mem_cons.mpr ⟨lw_p24, List.forall_mem_cons.mpr ⟨lw_p25, List.forall_mem_cons.mpr ⟨lw_p26, List.forall_mem_cons.mpr ⟨lw_p27, List.forall_mem_cons.mpr ⟨lw_p28, List.forall_mem_cons.mpr ⟨lw_p29, List.forall_mem_cons.mpr ⟨lw_p30, List.forall_mem_cons.mpr ⟨lw_p31, fun _ h => absurd h List.not_mem_nil⟩⟩⟩⟩⟩⟩⟩⟩⟩⟩⟩⟩⟩⟩⟩⟩
theorem lw_p32 : lw_okq (⟨"ParishYardsModel", "hasTable", "(III)Z"⟩, 19) := ⟨⟨by decide +kernel, by decide +kernel⟩, List.mem_of_getElem? (i := 883) (by decide +kernel), List.mem_of_getElem? (i := 1012) (by decide +kernel), List.mem_of_getElem? (i := 1013) (by decide +kernel)⟩
theorem lw_p33 : lw_okq (⟨"ParishYardsModel", "isThere", "(I)Z"⟩, 19) := ⟨⟨by decide +kernel, by decide +kernel⟩, List.mem_of_getElem? (i := 883) (by decide +kernel), List.mem_of_getElem? (i := 1016) (by decide +kernel), List.mem_of_getElem? (i := 1017) (by decide +kernel)⟩
theorem lw_p34 : lw_okq (⟨"ParishYardsModel", "has", "(II)Z"⟩, 19) := ⟨⟨by decide +kernel, by decide +kernel⟩, List.mem_of_getElem? (i := 883) (by decide +kernel), List.mem_of_getElem? (i := 1020) (by decide +kernel), List.mem_of_getElem? (i := 1021) (by decide +kernel)⟩
theorem lw_p35 : lw_okq (⟨"ParishYardsModel", "isOff", "(I)Z"⟩, 19) := ⟨⟨by decide +kernel, by decide +kernel⟩, List.mem_of_getElem? (i := 883) (by decide +kernel), List.mem_of_getElem? (i := 1024) (by decide +kernel), List.mem_of_getElem? (i := 1025) (by decide +kernel)⟩
theorem lw_p36 : lw_okq (⟨"ParishYardsModel", "gain", "(I)J"⟩, 19) := ⟨⟨by decide +kernel, by decide +kernel⟩, List.mem_of_getElem? (i := 883) (by decide +kernel), List.mem_of_getElem? (i := 1028) (by decide +kernel), List.mem_of_getElem? (i := 1029) (by decide +kernel)⟩
theorem lw_p37 : lw_okq (⟨"ParishYardsModel", "product", "(IZ)J"⟩, 19) := ⟨⟨by decide +kernel, by decide +kernel⟩, List.mem_of_getElem? (i := 883) (by decide +kernel), List.mem_of_getElem? (i := 1032) (by decide +kernel), List.mem_of_getElem? (i := 1033) (by decide +kernel)⟩
theorem lw_p38 : lw_okq (⟨"ParishYardsModel", "rings", "()I"⟩, 19) := ⟨⟨by decide +kernel, by decide +kernel⟩, List.mem_of_getElem? (i := 883) (by decide +kernel), List.mem_of_getElem? (i := 1040) (by decide +kernel), List.mem_of_getElem? (i := 1041) (by decide +kernel)⟩
theorem lw_p39 : lw_okq (⟨"ParishYardsModel", "comes", "(II)I"⟩, 19) := ⟨⟨by decide +kernel, by decide +kernel⟩, List.mem_of_getElem? (i := 883) (by decide +kernel), List.mem_of_getElem? (i := 1056) (by decide +kernel), List.mem_of_getElem? (i := 1057) (by decide +kernel)⟩
theorem lw_p40 : lw_okq (⟨"ParishYardsModel", "isBolt", "(I)Z"⟩, 19) := ⟨⟨by decide +kernel, by decide +kernel⟩, List.mem_of_getElem? (i := 883) (by decide +kernel), List.mem_of_getElem? (i := 1064) (by decide +kernel), List.mem_of_getElem? (i := 1065) (by decide +kernel)⟩
theorem lw_p41 : lw_okq (⟨"ParishYardsModel", "bar", "(II)I"⟩, 19) := ⟨⟨by decide +kernel, by decide +kernel⟩, List.mem_of_getElem? (i := 883) (by decide +kernel), List.mem_of_getElem? (i := 1068) (by decide +kernel), List.mem_of_getElem? (i := 1069) (by decide +kernel)⟩
theorem lw_p42 : lw_okq (⟨"ParishYardsModel", "ofBolt", "(II)I"⟩, 19) := ⟨⟨by decide +kernel, by decide +kernel⟩, List.mem_of_getElem? (i := 883) (by decide +kernel), List.mem_of_getElem? (i := 1072) (by decide +kernel), List.mem_of_getElem? (i := 1073) (by decide +kernel)⟩
theorem lw_p43 : lw_okq (⟨"ParishYardsModel", "turns", "(IIJ)J"⟩, 19) := ⟨⟨by decide +kernel, by decide +kernel⟩, List.mem_of_getElem? (i := 883) (by decide +kernel), List.mem_of_getElem? (i := 1076) (by decide +kernel), List.mem_of_getElem? (i := 1077) (by decide +kernel)⟩
theorem lw_p44 : lw_okq (⟨"ParishYardsModel", "sends", "(II)I"⟩, 19) := ⟨⟨by decide +kernel, by decide +kernel⟩, List.mem_of_getElem? (i := 883) (by decide +kernel), List.mem_of_getElem? (i := 1082) (by decide +kernel), List.mem_of_getElem? (i := 1083) (by decide +kernel)⟩
theorem lw_p45 : lw_okq (⟨"ParishYardsModel", "gains", "(IIJ)J"⟩, 19) := ⟨⟨by decide +kernel, by decide +kernel⟩, List.mem_of_getElem? (i := 883) (by decide +kernel), List.mem_of_getElem? (i := 1086) (by decide +kernel), List.mem_of_getElem? (i := 1087) (by decide +kernel)⟩
theorem lw_p46 : lw_okq (⟨"ParishYardsModel", "isWhole", "()Z"⟩, 19) := ⟨⟨by decide +kernel, by decide +kernel⟩, List.mem_of_getElem? (i := 883) (by decide +kernel), List.mem_of_getElem? (i := 1107) (by decide +kernel), List.mem_of_getElem? (i := 1108) (by decide +kernel)⟩
theorem lw_p47 : lw_okq (⟨"ParishYardsModel", "part", "()V"⟩, 19) := ⟨⟨by decide +kernel, by decide +kernel⟩, List.mem_of_getElem? (i := 883) (by decide +kernel), List.mem_of_getElem? (i := 1111) (by decide +kernel), List.mem_of_getElem? (i := 1112) (by decide +kernel)⟩
def lw_privs_3 : List (MethodName × Nat) := [(⟨"ParishYardsModel", "hasTable", "(III)Z"⟩, 19), (⟨"ParishYardsModel", "isThere", "(I)Z"⟩, 19), (⟨"ParishYardsModel", "has", "(II)Z"⟩, 19), (⟨"ParishYardsModel", "isOff", "(I)Z"⟩, 19), (⟨"ParishYardsModel", "gain", "(I)J"⟩, 19), (⟨"ParishYardsModel", "product", "(IZ)J"⟩, 19), (⟨"ParishYardsModel", "rings", "()I"⟩, 19), (⟨"ParishYardsModel", "comes", "(II)I"⟩, 19), (⟨"ParishYardsModel", "isBolt", "(I)Z"⟩, 19), (⟨"ParishYardsModel", "bar", "(II)I"⟩, 19), (⟨"ParishYardsModel", "ofBolt", "(II)I"⟩, 19), (⟨"ParishYardsModel", "turns", "(IIJ)J"⟩, 19), (⟨"ParishYardsModel", "sends", "(II)I"⟩, 19), (⟨"ParishYardsModel", "gains", "(IIJ)J"⟩, 19), (⟨"ParishYardsModel", "isWhole", "()Z"⟩, 19), (⟨"ParishYardsModel", "part", "()V"⟩, 19)]
theorem lw_r3 : ∀ q ∈ lw_privs_3, lw_okq q := List.forall_mem_cons.mpr ⟨lw_p32, List.forall_mem_cons.mpr ⟨lw_p33, List.forall_mem_cons.mpr ⟨lw_p34, List.forall_mem_cons.mpr ⟨lw_p35, List.forall_mem_cons.mpr ⟨lw_p36, List.forall_mem_cons.mpr ⟨lw_p37, List.forall_mem_cons.mpr ⟨lw_p38, List.forall_mem_cons.mpr ⟨lw_p39, List.forall_mem_cons.mpr ⟨lw_p40, List.forall_mem_cons.mpr ⟨lw_p41, List.forall_mem_cons.mpr ⟨lw_p42, List.forall_mem_cons.mpr ⟨lw_p43, List.forall_mem_cons.mpr ⟨lw_p44, List.forall_mem_cons.mpr ⟨lw_p45, List.forall_mem_cons.mpr ⟨lw_p46, List.forall_mem_cons.mpr ⟨lw_p47, fun _ h => absurd h List.not_mem_nil⟩⟩⟩⟩⟩⟩⟩⟩⟩⟩⟩⟩⟩⟩⟩⟩
theorem lw_p48 : lw_okq (⟨"ParishYardsModel", "next", "()I"⟩, 19) := ⟨⟨by decide +kernel, by decide +kernel⟩, List.mem_of_getElem? (i := 883) (by decide +kernel), List.mem_of_getElem? (i := 1115) (by decide +kernel), List.mem_of_getElem? (i := 1116) (by decide +kernel)⟩
theorem lw_p49 : lw_okq (⟨"ParishYardsModel", "digit", "(II)I"⟩, 19) := ⟨⟨by decide +kernel, by decide +kernel⟩, List.mem_of_getElem? (i := 883) (by decide +kernel), List.mem_of_getElem? (i := 1119) (by decide +kernel), List.mem_of_getElem? (i := 1120) (by decide +kernel)⟩
theorem lw_p50 : lw_okq (⟨"ParishYardsModel", "sign", "(I)V"⟩, 19) := ⟨⟨by decide +kernel, by decide +kernel⟩, List.mem_of_getElem? (i := 883) (by decide +kernel), List.mem_of_getElem? (i := 1123) (by decide +kernel), List.mem_of_getElem? (i := 1124) (by decide +kernel)⟩
theorem lw_p51 : lw_okq (⟨"ParishYardsModel", "number", "(I)I"⟩, 19) := ⟨⟨by decide +kernel, by decide +kernel⟩, List.mem_of_getElem? (i := 883) (by decide +kernel), List.mem_of_getElem? (i := 1127) (by decide +kernel), List.mem_of_getElem? (i := 1128) (by decide +kernel)⟩
theorem lw_p52 : lw_okq (⟨"ParishYardsModel", "does", "()I"⟩, 19) := ⟨⟨by decide +kernel, by decide +kernel⟩, List.mem_of_getElem? (i := 883) (by decide +kernel), List.mem_of_getElem? (i := 1135) (by decide +kernel), List.mem_of_getElem? (i := 1136) (by decide +kernel)⟩
theorem lw_p53 : lw_okq (⟨"ParishYardsModel", "stop", "(I)I"⟩, 19) := ⟨⟨by decide +kernel, by decide +kernel⟩, List.mem_of_getElem? (i := 883) (by decide +kernel), List.mem_of_getElem? (i := 1143) (by decide +kernel), List.mem_of_getElem? (i := 1144) (by decide +kernel)⟩
theorem lw_p54 : lw_okq (⟨"ParishYardsModel", "tables", "()I"⟩, 19) := ⟨⟨by decide +kernel, by decide +kernel⟩, List.mem_of_getElem? (i := 883) (by decide +kernel), List.mem_of_getElem? (i := 1155) (by decide +kernel), List.mem_of_getElem? (i := 1156) (by decide +kernel)⟩
theorem lw_p55 : lw_okq (⟨"ParishYardsModel", "ofTable", "(III)I"⟩, 19) := ⟨⟨by decide +kernel, by decide +kernel⟩, List.mem_of_getElem? (i := 883) (by decide +kernel), List.mem_of_getElem? (i := 1170) (by decide +kernel), List.mem_of_getElem? (i := 1171) (by decide +kernel)⟩
theorem lw_p56 : lw_okq (⟨"ParishYardsModel", "withTable", "(II)I"⟩, 19) := ⟨⟨by decide +kernel, by decide +kernel⟩, List.mem_of_getElem? (i := 883) (by decide +kernel), List.mem_of_getElem? (i := 1174) (by decide +kernel), List.mem_of_getElem? (i := 1175) (by decide +kernel)⟩
theorem lw_p57 : lw_okq (⟨"ParishYardsModel", "told", "(II)I"⟩, 19) := ⟨⟨by decide +kernel, by decide +kernel⟩, List.mem_of_getElem? (i := 883) (by decide +kernel), List.mem_of_getElem? (i := 1182) (by decide +kernel), List.mem_of_getElem? (i := 1183) (by decide +kernel)⟩
theorem lw_p58 : lw_okq (⟨"ParishYardsModel", "bolted", "(II)I"⟩, 19) := ⟨⟨by decide +kernel, by decide +kernel⟩, List.mem_of_getElem? (i := 883) (by decide +kernel), List.mem_of_getElem? (i := 1193) (by decide +kernel), List.mem_of_getElem? (i := 1194) (by decide +kernel)⟩
theorem lw_p59 : lw_okq (⟨"ParishYardsModel", "counts", "(I)I"⟩, 19) := ⟨⟨by decide +kernel, by decide +kernel⟩, List.mem_of_getElem? (i := 883) (by decide +kernel), List.mem_of_getElem? (i := 1202) (by decide +kernel), List.mem_of_getElem? (i := 1203) (by decide +kernel)⟩
theorem lw_p60 : lw_okq (⟨"ParishYardsModel", "offRings", "()I"⟩, 19) := ⟨⟨by decide +kernel, by decide +kernel⟩, List.mem_of_getElem? (i := 883) (by decide +kernel), List.mem_of_getElem? (i := 1206) (by decide +kernel), List.mem_of_getElem? (i := 1207) (by decide +kernel)⟩
theorem lw_p61 : lw_okq (⟨"ParishYardsModel", "isSound", "()Z"⟩, 19) := ⟨⟨by decide +kernel, by decide +kernel⟩, List.mem_of_getElem? (i := 883) (by decide +kernel), List.mem_of_getElem? (i := 1210) (by decide +kernel), List.mem_of_getElem? (i := 1211) (by decide +kernel)⟩
theorem lw_p62 : lw_okq (⟨"ParishYardsModel", "isMeasured", "()Z"⟩, 19) := ⟨⟨by decide +kernel, by decide +kernel⟩, List.mem_of_getElem? (i := 883) (by decide +kernel), List.mem_of_getElem? (i := 1214) (by decide +kernel), List.mem_of_getElem? (i := 1215) (by decide +kernel)⟩
theorem lw_p63 : lw_okq (⟨"ParishYardsModel", "measures", "()V"⟩, 19) := ⟨⟨by decide +kernel, by decide +kernel⟩, List.mem_of_getElem? (i := 883) (by decide +kernel), List.mem_of_getElem? (i := 1218) (by decide +kernel), List.mem_of_getElem? (i := 1219) (by decide +kernel)⟩
def lw_privs_4 : List (MethodName × Nat) := [(⟨"ParishYardsModel", "next", "()I"⟩, 19), (⟨"ParishYardsModel", "digit", "(II)I"⟩, 19), (⟨"ParishYardsModel", "sign", "(I)V"⟩, 19), (⟨"ParishYardsModel", "number", "(I)I"⟩, 19), (⟨"ParishYardsModel", "does", "()I"⟩, 19), (⟨"ParishYardsModel", "stop", "(I)I"⟩, 19), (⟨"ParishYardsModel", "tables", "()I"⟩, 19), (⟨"ParishYardsModel", "ofTable", "(III)I"⟩, 19), (⟨"ParishYardsModel", "withTable", "(II)I"⟩, 19), (⟨"ParishYardsModel", "told", "(II)I"⟩, 19), (⟨"ParishYardsModel", "bolted", "(II)I"⟩, 19), (⟨"ParishYardsModel", "counts", "(I)I"⟩, 19), (⟨"ParishYardsModel", "offRings", "()I"⟩, 19), (⟨"ParishYardsModel", "isSound", "()Z"⟩, 19), (⟨"ParishYardsModel", "isMeasured", "()Z"⟩, 19), (⟨"ParishYardsModel", "measures", "()V"⟩, 19)]
theorem lw_r4 : ∀ q ∈ lw_privs_4, lw_okq q := List.forall_mem_cons.mpr ⟨lw_p48, List.forall_mem_cons.mpr ⟨lw_p49, List.forall_mem_cons.mpr ⟨lw_p50, List.forall_mem_cons.mpr ⟨lw_p51, List.forall_mem_cons.mpr ⟨lw_p52, List.forall_mem_cons.mpr ⟨lw_p53, List.forall_mem_cons.mpr ⟨lw_p54, List.forall_mem_cons.mpr ⟨lw_p55, List.forall_mem_cons.mpr ⟨lw_p56, List.forall_mem_cons.mpr ⟨lw_p57, List.forall_mem_cons.mpr ⟨lw_p58, List.forall_mem_cons.mpr ⟨lw_p59, List.forall_mem_cons.mpr ⟨lw_p60, List.forall_mem_cons.mpr ⟨lw_p61, List.forall_mem_cons.mpr ⟨lw_p62, List.forall_mem_cons.mpr ⟨lw_p63, fun _ h => absurd h List.not_mem_nil⟩⟩⟩⟩⟩⟩⟩⟩⟩⟩⟩⟩⟩⟩⟩⟩
theorem lw_p64 : lw_okq (⟨"ParishYardsModel", "spreads", "()V"⟩, 19) := ⟨⟨by decide +kernel, by decide +kernel⟩, List.mem_of_getElem? (i := 883) (by decide +kernel), List.mem_of_getElem? (i := 1222) (by decide +kernel), List.mem_of_getElem? (i := 1223) (by decide +kernel)⟩
theorem lw_p65 : lw_okq (⟨"ParishYardsModel", "lengths", "()I"⟩, 19) := ⟨⟨by decide +kernel, by decide +kernel⟩, List.mem_of_getElem? (i := 883) (by decide +kernel), List.mem_of_getElem? (i := 1226) (by decide +kernel), List.mem_of_getElem? (i := 1227) (by decide +kernel)⟩
theorem lw_p66 : lw_okq (⟨"ParishYardsModel", "way", "(III)I"⟩, 19) := ⟨⟨by decide +kernel, by decide +kernel⟩, List.mem_of_getElem? (i := 883) (by decide +kernel), List.mem_of_getElem? (i := 1244) (by decide +kernel), List.mem_of_getElem? (i := 1245) (by decide +kernel)⟩
theorem lw_p67 : lw_okq (⟨"ParishYardsModel", "leads", "(IIII)Z"⟩, 19) := ⟨⟨by decide +kernel, by decide +kernel⟩, List.mem_of_getElem? (i := 883) (by decide +kernel), List.mem_of_getElem? (i := 1251) (by decide +kernel), List.mem_of_getElem? (i := 1252) (by decide +kernel)⟩
theorem lw_p68 : lw_okq (⟨"ParishYardsModel", "rounding", "(III)J"⟩, 19) := ⟨⟨by decide +kernel, by decide +kernel⟩, List.mem_of_getElem? (i := 883) (by decide +kernel), List.mem_of_getElem? (i := 1255) (by decide +kernel), List.mem_of_getElem? (i := 1256) (by decide +kernel)⟩
theorem lw_p69 : lw_okq (⟨"ParishYardsModel", "mend", "(III)I"⟩, 19) := ⟨⟨by decide +kernel, by decide +kernel⟩, List.mem_of_getElem? (i := 883) (by decide +kernel), List.mem_of_getElem? (i := 1263) (by decide +kernel), List.mem_of_getElem? (i := 1264) (by decide +kernel)⟩
theorem lw_p70 : lw_okq (⟨"ParishYardsModel", "share", "()D"⟩, 19) := ⟨⟨by decide +kernel, by decide +kernel⟩, List.mem_of_getElem? (i := 883) (by decide +kernel), List.mem_of_getElem? (i := 1275) (by decide +kernel), List.mem_of_getElem? (i := 1276) (by decide +kernel)⟩
def lw_privs_5 : List (MethodName × Nat) := [(⟨"ParishYardsModel", "spreads", "()V"⟩, 19), (⟨"ParishYardsModel", "lengths", "()I"⟩, 19), (⟨"ParishYardsModel", "way", "(III)I"⟩, 19), (⟨"ParishYardsModel", "leads", "(IIII)Z"⟩, 19), (⟨"ParishYardsModel", "rounding", "(III)J"⟩, 19), (⟨"ParishYardsModel", "mend", "(III)I"⟩, 19), (⟨"ParishYardsModel", "share", "()D"⟩, 19)]
theorem lw_r5 : ∀ q ∈ lw_privs_5, lw_okq q := List.forall_mem_cons.mpr ⟨lw_p64, List.forall_mem_cons.mpr ⟨lw_p65, List.forall_mem_cons.mpr ⟨lw_p66, List.forall_mem_cons.mpr ⟨lw_p67, List.forall_mem_cons.mpr ⟨lw_p68, List.forall_mem_cons.mpr ⟨lw_p69, List.forall_mem_cons.mpr ⟨lw_p70, fun _ h => absurd h List.not_mem_nil⟩⟩⟩⟩⟩⟩⟩
def lw_privs : List (MethodName × Nat) := lw_privs_1 ++ (lw_privs_2 ++ (lw_privs_3 ++ (lw_privs_4 ++ (lw_privs_5))))
def lw_tbl : List Cond := k2_sels lw_privs ++ tables_1
theorem lw_privs_ok : ∀ q ∈ lw_privs, lw_okq q := by
  show ∀ q ∈ lw_privs_1 ++ (lw_privs_2 ++ (lw_privs_3 ++ (lw_privs_4 ++ (lw_privs_5)))), lw_okq q
  exact List.forall_mem_append.mpr ⟨lw_r1, List.forall_mem_append.mpr ⟨lw_r2, List.forall_mem_append.mpr ⟨lw_r3, List.forall_mem_append.mpr ⟨lw_r4, lw_r5⟩⟩⟩⟩
/-- the streams that the claim lets the run draw from -/
abbrev lw_cs : List Choice := [Jvm.Choice.named "NaN.bits"]
theorem lw_bits : nanBits ∈ lw_cs := by first | decide | exact List.mem_cons_self | simp [lw_cs, nanBits]
-- ===== end of PART A; then your names; then what follows =====
end
section
/-! ===== BEGIN words of one list among another's, by their places ===== -/
theorem goodIn_r {big : List Cond} (ws : List Cond) (ps : List Nat) (hp : ws = ps.filterMap (fun i => big[i]?)) (h : ws.all goodWord = true) : GoodIn big ws := by
  intro w hw
  have h1 := List.all_eq_true.mp h w hw
  rw [hp] at hw
  obtain ⟨i, -, hi⟩ := List.mem_filterMap.mp hw
  have hm : w ∈ big := by first | exact List.mem_of_getElem? hi | exact List.getElem?_mem hi
  exact ⟨hm, good_of_word h1⟩
theorem goodIn_app {big a b : List Cond} (ha : GoodIn big a) (hb : GoodIn big b) : GoodIn big (a ++ b) := fun w h => (List.mem_append.mp h).elim (ha w) (hb w)
theorem goodIn_ca {big a b : List Cond} {c : Cond} (ha : GoodIn big (c :: a)) (hb : GoodIn big b) : GoodIn big (c :: (a ++ b)) := fun w h => (List.mem_cons.mp h).elim (fun e => ha w (List.mem_cons.mpr (Or.inl e))) (fun h => (List.mem_append.mp h).elim (fun h => ha w (List.mem_cons.mpr (Or.inr h))) (hb w))
theorem goodIn_sub {big ws : List Cond} (hm : ∀ w ∈ ws, w ∈ big) (h : ws.all goodWord = true) : GoodIn big ws := fun w hw => ⟨hm w hw, good_of_word (List.all_eq_true.mp h w hw)⟩
/-! ===== END ===== -/

/-! ===== BEGIN exceptions that leave a method, and their catching by the caller (launches without stack traces) ===== -/
section VXA
/-! The laws vx_back, vx_callV, vx_callS, vx_callSW, vx_throw0, vx_throwS follow proofs of the library, with one case more: JvmDerived/Free/Laws.lean (Back.of_free), Shelf42/LK1.lean (callV, callS), Shelf/KitTraced.lean (throwNew0V, throwNewS). -/
/-- where a method has thrown q: the class by its name, the cell, what was written, the world -/
def vx_T (XC : String → State → State → Prop) (st : State) (q : Addr) (t : State) (mc ms : Nat) (free : Addr → Prop) : Prop :=
  ∃ (E : String) (ce : Cell) (L : List Loc), XC E st t ∧ t.heap[q]? = some ce ∧ ce.vm = .none ∧ st.vm.findClass E = some ce.cls ∧ st.WarmedH t.vm ∧ st.sameButNew ({ t with vm := st.vm } : State) L mc ms ∧ ∀ z ∈ L, free z.base
def vx_Q (Qc : Array Value → State → Outcome → State → Prop) (XC : String → State → State → Prop) (mc ms : Nat) (free : Addr → Prop) : Array Value → State → Outcome → State → Prop := fun a st o t =>
  (Qc a st o t ∧ ∃ L, FrameEnd st o t L mc ms ∧ ∀ q ∈ L, free q.base) ∨ ∃ q, o = .threw q ∧ vx_T XC st q t mc ms free
/-- a callee that returns or throws -/
def vx_Met (l : Launch) (y : MethodName) (ws : List Cond) (rm : Room) (Pc : Array Value → State → Prop) (Qc : Array Value → State → Outcome → State → Prop) (XC : String → State → State → Prop) (mc ms : Nat) (free : Addr → Prop) : Prop :=
  MetFree l y (headSpec ws rm) Pc (fun _ _ _ _ _ => True) (vx_Q Qc XC mc ms free)
def vx_Post (XC : String → State → State → Prop) (mc ms : Nat) (free : Addr → Prop) : Pt → Array Value → Addr → Pt → Prop := fun A a q B =>
  ∃ (g : JFrame) (mk : MethodId) (t : State) (L : List Loc) (E : String) (ce : Cell), B.U.heap = t.heap ∧ B.U.vm = t.vm ∧ XC E (A.U.calling g mk a) t ∧ t.heap[q]? = some ce ∧ ce.vm = .none ∧ A.U.vm.findClass E = some ce.cls ∧ B.locs = A.locs ++ L ∧ (∀ z ∈ L, free z.base) ∧ B.cells = A.cells + mc ∧ B.slots = A.slots + ms
def vx_Back (l : Launch) (R : Room) (p : Program) (e : Env) (below : List Frame) (s : State) (sargs : Array Value) (y : MethodName) (len W9 : Nat)
    (Pre : Pt → Array Value → Prop) (Post : Pt → Array Value → Option Value → Pt → Prop) (PostX : Pt → Array Value → Addr → Pt → Prop) : Prop :=
  ∀ (m : MethodId) (meth : Method) (c : Code) (A : Pt) (g : JFrame) (ig : Instr) (mk : MethodId) (a : Array Value),
    Stand p l e R s m sargs below meth c A.U A.locs A.cells A.slots → g.method = m → g.locals.size = c.maxLocals → decode c.code g.pc = .ok (ig, len) →
    2 * g.monitorRoom + (g.stack.map fun v => v.category).sum ≤ W9 → A.U.methodNamed? y = some mk → Pre A a →
    (∃ (v : Option Value) (B : Pt), Stand p l e R s m sargs below meth c B.U B.locs B.cells B.slots ∧ Post A a v B ∧
      Steps p.tables e below (doInvoke e (A.U.setTop g) [] mk a).1 (B.U.setTop { g with pc := g.pc + len, stack := v.toList ++ g.stack })) ∨
    (∃ (q : Addr) (B : Pt), Stand p l e R s m sargs below meth c B.U B.locs B.cells B.slots ∧ PostX A a q B ∧
      Steps p.tables e below (doInvoke e (A.U.setTop g) [] mk a).1 ((B.U.setTop g).pushFrame (.throwing q)))
section Payer
variable {l : Launch} {R : Room} {p : Program} {e : Env} {below : List Frame} {s : State} {sargs : Array Value} {y : MethodName} {len W9 : Nat}
theorem vx_back {ws : List Cond} {rm : Room} {Pc : Array Value → State → Prop} {Qc : Array Value → State → Outcome → State → Prop} {XC : String → State → State → Prop} {mc ms : Nat} {free : Addr → Prop} {bytes : ByteArray} {maxL : Nat} {ret : Option FieldType}
    (hM : vx_Met l y ws rm Pc Qc XC mc ms free) (hblind : FrameBlind Pc) (hrc : rm.cells = mc) (hrs : rm.slots = ms)
    (hframes : rm.frames + 1 ≤ R.frames) (hlocals : W9 + (maxL + 11) + rm.locals ≤ R.locals)
    (hws : ∀ w ∈ ws, ∀ a' U, s.WarmedH U.vm → w.before a' U = true) (hcode : Cond.code y bytes maxL ret ∈ ws) (hinit : ∀ a' U, s.WarmedH U.vm → (Cond.initialized y.cls).before a' U = true) :
    vx_Back l R p e below s sargs y len W9 (PreOf R mc ms Pc) (PostOf Qc mc ms free) (vx_Post XC mc ms free) := by
  intro m meth c A g ig mk a X hg hsize hdg hW hn hp
  have h1 : (headSpec ws rm).pre.before a A.U = true := atoms_intro fun w hw => hws w hw _ _ X.warmed
  have h2 : (Cond.code y bytes maxL ret).before a A.U = true := hws _ hcode _ _ X.warmed
  have h3 : (Cond.initialized y.cls).before a A.U = true := hinit _ _ X.warmed
  have h4 : A.cells + (headSpec ws rm).room.cells ≤ R.cells := by rw [show (headSpec ws rm).room.cells = mc from hrc]; exact hp.1
  have h5 : A.slots + (headSpec ws rm).room.slots ≤ R.slots := by rw [show (headSpec ws rm).room.slots = ms from hrs]; exact hp.2.1
  have hPc : Pc a (A.U.calling g mk a) := hblind _ _ _ _ hp.2.2
  obtain ⟨U, Ls, c0, s0⟩ := A
  dsimp only [Pt.U, Pt.locs, Pt.cells, Pt.slots] at h1 h2 h3 h4 h5 X hn hPc ⊢
  obtain ⟨methY, cY, hmY, hcY, -, hlY, -, -, -, -⟩ := Cond.code_spec hn h2
  obtain ⟨kY, hkY, -⟩ := className_of_methodNamed hn
  have hinitY : kY.init = .initialized := Cond.initialized_spec (findClass_of_methodNamed hn) hkY h3
  have h : At U g.method c below := by rw [hg]; exact X.here
  have hlocals9 : W9 + (maxL + 11) + (headSpec ws rm).room.locals ≤ R.locals := hlocals
  have happ : (headSpec ws rm).appliesLoose y e.platform (U.calling g mk a) = true :=
    Spec.appliesLoose_calling (g := g) h hdg hn hkY hinitY
      (X.room_calling (g := g) (R' := (headSpec ws rm).room) hsize hmY hcY hframes (by rw [hlY]; omega) h4 h5) h1
  obtain ⟨mid, hmid⟩ := h.above
  have hfr : (U.setTop g).frames = (.java g :: mid) ++ below := by rw [State.frames_setTop' g h.top, hmid]; rfl
  obtain ⟨o, s₂, hsteps, -, hend, hq⟩ := Steps.callFree hM p X.admits X.cas X.clock (acts := []) hfr happ hPc trivial
  have hq' : vx_Q Qc XC mc ms free a (U.calling g mk a) o s₂ := hq
  rw [State.frames_setTop' g h.top] at hend
  obtain ⟨g₀, hg0⟩ := Option.isSome_iff_exists.mp h.top
  obtain ⟨r, hr⟩ := State.topJava?_eq_some.mp hg0
  have hr' : (({ U with heap := s₂.heap, slotsUsed := s₂.slotsUsed } : State).setVm s₂.vm).frames = .java g₀ :: r := hr
  rcases hq' with ⟨hqc, L, hfe, hL⟩ | ⟨q, rfl, E, ce, L, hx, hce, hcv, hcl, hW₂, hsm, hL⟩
  · obtain ⟨⟨v, rfl⟩, hW₂, e2, q2, q3, q4, q5, q6⟩ := id hfe
    have e3 : s₂ = ({ (U.calling g mk a).setFrames s₂.frames with heap := s₂.heap, slotsUsed := s₂.slotsUsed } : State).setVm s₂.vm := by
      have : s₂ = ({ s₂ with vm := (U.calling g mk a).vm } : State).setVm s₂.vm := rfl
      rw [e2] at this
      exact this
    obtain ⟨c₂, i₂, len₂, hc₂, hd₂, hf₂⟩ := hend
    have hW' : U.WarmedH s₂.vm := hW₂
    have hcc : c₂ = c := by
      have h1 : s₂.code? g.method = U.code? g.method := by
        rw [State.code?_eq, State.code?_eq, hW'.alike.method?]
      exact Option.some.inj (hc₂.symm.trans (h1.trans h.code))
    subst hcc
    have hlen : len₂ = len := by rw [hdg] at hd₂; cases hd₂; rfl
    subst hlen
    have hs₂ : s₂ = (({ U with heap := s₂.heap, slotsUsed := s₂.slotsUsed } : State).setVm s₂.vm).setTop { g with pc := g.pc + len₂, stack := v.toList ++ g.stack } := by
      refine e3.trans ?_
      rw [hf₂, State.calling_eq h.top, State.setFrames_setFrames, State.setTop_of_frames _ hr', hr]
      rfl
    have hsame : U.sameButNew ({ U with heap := s₂.heap, slotsUsed := s₂.slotsUsed } : State) L mc ms := by
      refine ⟨?_, q2, q3, q4, q5, q6⟩
      obtain ⟨t, ht, -⟩ := State.frames_cons hr
      show ({ U with heap := s₂.heap, slotsUsed := s₂.slotsUsed } : State) = { U.setFrames U.frames with heap := s₂.heap, slotsUsed := s₂.slotsUsed }
      rw [State.setFrames_self ht]
    subst hg
    refine Or.inl ⟨v, ⟨(({ U with heap := s₂.heap, slotsUsed := s₂.slotsUsed } : State).setVm s₂.vm), Ls ++ L, c0 + mc, s0 + ms⟩,
      ⟨X.admits, X.cas, X.clock, X.frames, X.room, X.hears, X.method, X.code, (X.here.setHeapUsed s₂.heap s₂.slotsUsed).setVm hW'.alike, X.tail, State.WarmedH.trans X.warmed hW', X.limits, X.bytes, X.same.trans (hsame.setVm s.vm)⟩,
      ⟨g, mk, s₂, L, rfl, rfl, hqc, rfl, hL, rfl, rfl⟩, ?_⟩
    show Steps p.tables e below _ ((({ U with heap := s₂.heap, slotsUsed := s₂.slotsUsed } : State).setVm s₂.vm).setTop { g with pc := g.pc + len₂, stack := v.toList ++ g.stack })
    rw [← hs₂]
    exact hsteps
  · obtain ⟨e2, q2, q3, q4, q5, q6⟩ := id hsm
    have e3 : s₂ = ({ (U.calling g mk a).setFrames s₂.frames with heap := s₂.heap, slotsUsed := s₂.slotsUsed } : State).setVm s₂.vm := by
      have : s₂ = ({ s₂ with vm := (U.calling g mk a).vm } : State).setVm s₂.vm := rfl
      rw [e2] at this
      exact this
    have hf₂ : s₂.frames = .throwing q :: .java g :: U.frames.tail := hend
    have hW' : U.WarmedH s₂.vm := hW₂
    have hs₂ : s₂ = ((({ U with heap := s₂.heap, slotsUsed := s₂.slotsUsed } : State).setVm s₂.vm).setTop g).pushFrame (.throwing q) := by
      refine e3.trans ?_
      rw [hf₂, State.calling_eq h.top, State.setFrames_setFrames, State.pushFrame, State.frames_setTop _ hr', State.setTop_of_frames _ hr', State.setFrames_setFrames, hr]
      rfl
    have hsame : U.sameButNew ({ U with heap := s₂.heap, slotsUsed := s₂.slotsUsed } : State) L mc ms := by
      refine ⟨?_, q2, q3, q4, q5, q6⟩
      obtain ⟨t, ht, -⟩ := State.frames_cons hr
      show ({ U with heap := s₂.heap, slotsUsed := s₂.slotsUsed } : State) = { U.setFrames U.frames with heap := s₂.heap, slotsUsed := s₂.slotsUsed }
      rw [State.setFrames_self ht]
    subst hg
    refine Or.inr ⟨q, ⟨(({ U with heap := s₂.heap, slotsUsed := s₂.slotsUsed } : State).setVm s₂.vm), Ls ++ L, c0 + mc, s0 + ms⟩,
      ⟨X.admits, X.cas, X.clock, X.frames, X.room, X.hears, X.method, X.code, (X.here.setHeapUsed s₂.heap s₂.slotsUsed).setVm hW'.alike, X.tail, State.WarmedH.trans X.warmed hW', X.limits, X.bytes, X.same.trans (hsame.setVm s.vm)⟩,
      ⟨g, mk, s₂, L, E, ce, rfl, rfl, hx, hce, hcv, hcl, rfl, hL, rfl, rfl⟩, ?_⟩
    show Steps p.tables e below _ (((({ U with heap := s₂.heap, slotsUsed := s₂.slotsUsed } : State).setVm s₂.vm).setTop g).pushFrame (.throwing q))
    rw [← hs₂]
    exact hsteps
end Payer
section Calls
variable {p : Program} {l : Launch} {e : Env} {R : Room} {s : State} {m : MethodId} {args : Array Value} {below : List Frame} {meth : Method} {c : Code} {T : State} {locs : List Loc} {cells slots : Nat}
theorem vx_callV (X : Stand p l e R s m args below meth c T locs cells slots) (hexec : p.tables.exec = Jvm.exec) {own C : String} {index : Nat} {y : MethodName} {bytes : ByteArray} {maxL : Nat} {ret : Option FieldType}
    (hown : s.vm.findClass own = some m.cls) (hlink : (Cond.methodLink own index y).before args s = true) (hinst : (Cond.instanceMethod y).before args s = true) (hsel : (Cond.selects C y y).before args s = true)
    (hcode : (Cond.code y bytes maxL ret).before args s = true) (hy : y.cls ≠ "java/lang/invoke/MethodHandle" ∧ y.cls ≠ "java/lang/invoke/VarHandle")
    {W9 : Nat} {Pre : Pt → Array Value → Prop} {Post : Pt → Array Value → Option Value → Pt → Prop} {PostX : Pt → Array Value → Addr → Pt → Prop} (hK : vx_Back l R p e below s args y 3 W9 Pre Post PostX)
    {b : Addr} {cellB : Cell} (hcell : T.heap[b]? = some cellB) (hobj : cellB.vm.isStatics = false) (hcls : s.vm.findClass C = some cellB.cls)
    {g : JFrame} (hg : g.method = m) (hsize : g.locals.size = c.maxLocals) {argsL rest : List Value} (hlen : ∀ sig, parseMethodDescriptor y.desc = some sig → argsL.length = sig.parameters.length)
    (hstack : g.stack = argsL.reverse ++ .ref b :: rest) (hW : 2 * g.monitorRoom + (rest.map fun v => v.category).sum ≤ W9) (hdg : decode c.code g.pc = .ok (.invokevirtual index, 3))
    (hpre : ∀ vm₁, s.WarmedH vm₁ → Pre ⟨T.setVm vm₁, locs, cells, slots⟩ (Value.ref b :: argsL).toArray) :
    (∃ (v : Option Value) (vm₁ : Vm) (B : Pt), s.WarmedH vm₁ ∧ Stand p l e R s m args below meth c B.U B.locs B.cells B.slots ∧ Post ⟨T.setVm vm₁, locs, cells, slots⟩ (Value.ref b :: argsL).toArray v B ∧
      ∀ target, Steps p.tables e below (B.U.setTop { g with pc := g.pc + 3, stack := v.toList ++ rest }) target → Steps p.tables e below (T.setTop g) target) ∨
    (∃ (q : Addr) (vm₁ : Vm) (B : Pt), s.WarmedH vm₁ ∧ Stand p l e R s m args below meth c B.U B.locs B.cells B.slots ∧ PostX ⟨T.setVm vm₁, locs, cells, slots⟩ (Value.ref b :: argsL).toArray q B ∧
      Steps p.tables e below (T.setTop g) ((B.U.setTop { g with stack := rest }).pushFrame (.throwing q))) := by
  obtain ⟨mk, methM, hnamed, hmethM, hstM, habM⟩ := Cond.instanceMethod_spec hinst
  obtain ⟨methM', cM, hmethM', -, -, -, -, -, -, hsigM⟩ := Cond.code_spec hnamed hcode
  cases hmethM.symm.trans hmethM'
  obtain ⟨c2, r2, m2, q1, q2, q3, q4, kP, hkP, hkPi⟩ := Cond.selects_spec hsel
  cases hcls.symm.trans q1
  cases (State.methodFound?_of_named hnamed hy).symm.trans q2
  cases hnamed.symm.trans q3
  have hselP : selectMethod e.platform s.vm cellB.cls mk = .method mk := by rw [Launch.admits_selectMethod X.admits]; exact q4
  obtain ⟨vm₁, X₁, hstep₁⟩ := X.invokevirtual hexec hown hlink hnamed hmethM hstM hkP hkPi hy (a := b) (cell := cellB) hcell
    (fun z h => by rw [h] at hobj; cases hobj) hselP hmethM habM hkP hkPi (g := g) hg (argsL := argsL) (rest := rest) (hlen _ hsigM) hstack hdg
  rcases hK m meth c ⟨T.setVm vm₁, locs, cells, slots⟩ { g with stack := rest } (.invokevirtual index) mk (Value.ref b :: argsL).toArray X₁ hg hsize hdg hW (X₁.named hnamed) (hpre vm₁ X₁.warmed) with ⟨v, B, X', hpost, hsteps⟩ | ⟨q, B, X', hpost, hsteps⟩
  · exact Or.inl ⟨v, vm₁, B, X₁.warmed, X', hpost, fun target h => hstep₁ _ fun acts => by rw [doInvoke_state]; exact hsteps.trans h⟩
  · exact Or.inr ⟨q, vm₁, B, X₁.warmed, X', hpost, hstep₁ _ fun acts => by rw [doInvoke_state]; exact hsteps⟩
theorem vx_callS (X : Stand p l e R s m args below meth c T locs cells slots) (hexec : p.tables.exec = Jvm.exec) {own : String} {index : Nat} {y : MethodName} {bytes : ByteArray} {maxL : Nat} {ret : Option FieldType}
    (hown : s.vm.findClass own = some m.cls) (hlink : (Cond.methodLink own index y).before args s = true) (hstat : (Cond.static y).before args s = true) (hinit : (Cond.initialized y.cls).before args s = true)
    (hcode : (Cond.code y bytes maxL ret).before args s = true) (hy : y.cls ≠ "java/lang/invoke/MethodHandle" ∧ y.cls ≠ "java/lang/invoke/VarHandle")
    {W9 : Nat} {Pre : Pt → Array Value → Prop} {Post : Pt → Array Value → Option Value → Pt → Prop} {PostX : Pt → Array Value → Addr → Pt → Prop} (hK : vx_Back l R p e below s args y 3 W9 Pre Post PostX)
    {g : JFrame} (hg : g.method = m) (hsize : g.locals.size = c.maxLocals) {argsL rest : List Value} (hlen : ∀ sig, parseMethodDescriptor y.desc = some sig → argsL.length = sig.parameters.length)
    (hstack : g.stack = argsL.reverse ++ rest) (hW : 2 * g.monitorRoom + (rest.map fun v => v.category).sum ≤ W9) (hdg : decode c.code g.pc = .ok (.invokestatic index, 3))
    (hpre : ∀ vm₁, s.WarmedH vm₁ → Pre ⟨T.setVm vm₁, locs, cells, slots⟩ argsL.toArray) :
    (∃ (v : Option Value) (vm₁ : Vm) (B : Pt), s.WarmedH vm₁ ∧ Stand p l e R s m args below meth c B.U B.locs B.cells B.slots ∧ Post ⟨T.setVm vm₁, locs, cells, slots⟩ argsL.toArray v B ∧
      ∀ target, Steps p.tables e below (B.U.setTop { g with pc := g.pc + 3, stack := v.toList ++ rest }) target → Steps p.tables e below (T.setTop g) target) ∨
    (∃ (q : Addr) (vm₁ : Vm) (B : Pt), s.WarmedH vm₁ ∧ Stand p l e R s m args below meth c B.U B.locs B.cells B.slots ∧ PostX ⟨T.setVm vm₁, locs, cells, slots⟩ argsL.toArray q B ∧
      Steps p.tables e below (T.setTop g) ((B.U.setTop { g with stack := rest }).pushFrame (.throwing q))) := by
  obtain ⟨mk, hnamed⟩ := Cond.code_named hcode
  obtain ⟨methM, cM, hmethM, -, -, -, -, -, -, hsigM⟩ := Cond.code_spec hnamed hcode
  have hstatic : methM.isStatic = true := Cond.static_spec hnamed hmethM hstat
  obtain ⟨kP, hkP, -⟩ := className_of_methodNamed hnamed
  have hinitP : kP.init = .initialized := Cond.initialized_spec (findClass_of_methodNamed hnamed) hkP hinit
  obtain ⟨vm₁, X₁, hstep₁⟩ := X.invokestatic hexec hown hlink hnamed hmethM hstatic hkP hinitP hy (g := g) hg (argsL := argsL) (rest := rest) (hlen _ hsigM) hstack hdg
  rcases hK m meth c ⟨T.setVm vm₁, locs, cells, slots⟩ { g with stack := rest } (.invokestatic index) mk argsL.toArray X₁ hg hsize hdg hW (X₁.named hnamed) (hpre vm₁ X₁.warmed) with ⟨v, B, X', hpost, hsteps⟩ | ⟨q, B, X', hpost, hsteps⟩
  · exact Or.inl ⟨v, vm₁, B, X₁.warmed, X', hpost, fun target h => hstep₁ _ fun acts => by rw [doInvoke_state]; exact hsteps.trans h⟩
  · exact Or.inr ⟨q, vm₁, B, X₁.warmed, X', hpost, hstep₁ _ fun acts => by rw [doInvoke_state]; exact hsteps⟩
end Calls
theorem vx_cls {s : State} {T : State} {vm₁ : Vm} {E : String} {k : ClassId} (hW : s.WarmedH vm₁) (h : (T.setVm vm₁).vm.findClass E = some k) : s.vm.findClass E = some k := by
  have h1 : vm₁.findClass E = some k := h
  rw [hW.alike.findClass] at h1
  exact h1
/-- the method's frame g, with q thrown over it -/
def vx_W (p : Program) (l : Launch) (e : Env) (R : Room) (s : State) (m : MethodId) (args : Array Value) (below : List Frame) (meth : Method) (c : Code) (H : Heap) (locs : List Loc) (cells slots : Nat) (Q : State → Prop) (g : JFrame) (q : Addr) : Prop :=
  ∀ T : State, T.heap = H → Stand p l e R s m args below meth c T locs cells slots → ∃ t, Steps p.tables e below ((T.setTop g).pushFrame (.throwing q)) t ∧ Q t
def vx_Run (p : Program) (l : Launch) (e : Env) (R : Room) (s : State) (m : MethodId) (args : Array Value) (below : List Frame) (meth : Method) (c : Code) (H : Heap) (locs : List Loc) (cells slots mc ms : Nat) (g : JFrame) (rest : List Value) (Qa : State → Outcome → State → Prop) (XC : String → State → State → Prop) (free : Addr → Prop) : Prop :=
  ∀ T : State, T.heap = H → Stand p l e R s m args below meth c T locs cells slots →
    (∃ (v : Option Value) (st₀ t T' : State) (L : List Loc), st₀.heap = H ∧ Stand p l e R s m args below meth c T' (locs ++ L) (cells + mc) (slots + ms) ∧ (∀ q ∈ L, free q.base) ∧ T'.heap = t.heap ∧ T'.vm = t.vm ∧ Qa st₀ (.returned v) t ∧
      Goes p e below T g T' { g with pc := g.pc + 3, stack := v.toList ++ rest }) ∨
    (∃ (q : Addr) (st₀ t T' : State) (L : List Loc) (E : String) (ce : Cell), st₀.heap = H ∧ Stand p l e R s m args below meth c T' (locs ++ L) (cells + mc) (slots + ms) ∧ (∀ z ∈ L, free z.base) ∧ T'.heap = t.heap ∧ T'.vm = t.vm ∧ XC E st₀ t ∧ t.heap[q]? = some ce ∧ ce.vm = .none ∧ s.vm.findClass E = some ce.cls ∧
      Steps p.tables e below (T.setTop g) ((T'.setTop { g with stack := rest }).pushFrame (.throwing q)))
def vx_X {S : Type} (px : S → Prop) (B : String → S → State → Prop) (A : Nat → Prop) : String → State → State → Prop := fun E st t => ∃ u : S, px u ∧ B E u t ∧ va_F A st t
section Runs
variable {p : Program} {l : Launch} {e : Env} {R : Room} {s : State} {m : MethodId} {args : Array Value} {below : List Frame} {meth : Method} {c : Code} {H : Heap} {locs : List Loc} {cells slots : Nat}
variable {y : MethodName} {bytes cc : ByteArray} {maxL nL mc ms n index : Nat} {ret : Option FieldType} {ws : List Cond} {rm : Room} {Pc : Array Value → State → Prop} {Qc : Array Value → State → Outcome → State → Prop} {XC : String → State → State → Prop} {free : Addr → Prop} {Ts : List Cond} {own C : String} {b : Addr} {As rest : List Value} {g : JFrame}
theorem vx_callBack (cb : CallB R s args own index y bytes maxL ret ws rm mc ms n) (hM : vx_Met l y ws rm Pc Qc XC mc ms free) (hbl : FrameBlind Pc) : vx_Back l R p e below s args y 3 8 (PreOf R mc ms Pc) (PostOf Qc mc ms free) (vx_Post XC mc ms free) := by
  obtain ⟨hrc, hrs, hfr, hlo, hws, hcw, -, hini, -⟩ := cb
  exact vx_back (bytes := bytes) (maxL := maxL) (ret := ret) hM hbl hrc hrs hfr hlo hws hcw (fun a' U hW => word_at hW (Or.inl (by first | rfl | simp [Cond.onTables, Cond.keeps, Cond.steady])) hini)
theorem vx_runV (S : CallFix p m c cc nL s args Ts own) (hM : vx_Met l y ws rm Pc Qc XC mc ms free) (cw : CallW R s args own C index y bytes maxL ret ws rm mc ms n) (hp : PreV s H C b Pc As)
    (hg : g.method = m) (hn : As.length = n) (hsize : g.locals.size = nL) (hstack : g.stack = As.reverse ++ .ref b :: rest) (hW : 2 * g.monitorRoom + (rest.map fun v => v.category).sum ≤ 8) (hdg : decode cc g.pc = .ok (.invokevirtual index, 3)) (hf : cells + mc ≤ R.cells ∧ slots + ms ≤ R.slots) :
    vx_Run p l e R s m args below meth c H locs cells slots mc ms g rest (Qc (Value.ref b :: As).toArray) XC free := by
  have hK : vx_Back l R p e below s args y 3 8 (PreOf R mc ms Pc) (PostOf Qc mc ms free) (vx_Post XC mc ms free) := vx_callBack cw.1 hM hp.1
  obtain ⟨⟨-, -, -, -, -, -, hcode, -, hy, hlen, hl⟩, hin, hse⟩ := cw
  obtain ⟨hx, hb, hml, ho, -⟩ := S
  obtain ⟨-, ⟨cellB, hcB, hoB, hclB⟩, hPc⟩ := hp
  intro T hT X
  rcases vx_callV X hx (C := C) (bytes := bytes) (maxL := maxL) (ret := ret) ho hl hin hse hcode hy hK (by rw [hT]; exact hcB) hoB hclB hg (hsize.trans hml.symm) (argsL := As) (rest := rest) (fun sig h => hn.trans (hlen sig h)) hstack hW (by rw [hb]; exact hdg)
    (fun vm₁ hW₁ => ⟨hf.1, hf.2, hPc (T.setVm vm₁) hT hW₁⟩) with ⟨v, vm₁, ⟨U', l2, c2, s2⟩, hW₁, X', ⟨g', mk, t, L, e1, e2, hq, h1, hL, h2, h3⟩, st⟩ | ⟨q, vm₁, ⟨U', l2, c2, s2⟩, hW₁, X', ⟨g', mk, t, L, E, ce, e1, e2, hq, hce, hcv, hcl, h1, hL, h2, h3⟩, st⟩
  · dsimp only [Pt.U, Pt.locs, Pt.cells, Pt.slots] at X' e1 e2 h1 h2 h3 st
    subst h1; subst h2; subst h3
    exact Or.inl ⟨v, (T.setVm vm₁).calling g' mk (Value.ref b :: As).toArray, t, U', L, hT, X', hL, e1, e2, hq, st⟩
  · dsimp only [Pt.U, Pt.locs, Pt.cells, Pt.slots] at X' e1 e2 h1 h2 h3 st hcl
    subst h1; subst h2; subst h3
    exact Or.inr ⟨q, (T.setVm vm₁).calling g' mk (Value.ref b :: As).toArray, t, U', L, E, ce, hT, X', hL, e1, e2, hq, hce, hcv, vx_cls hW₁ hcl, st⟩
theorem vx_runS (S : CallFix p m c cc nL s args Ts own) (hM : vx_Met l y ws rm Pc Qc XC mc ms free) (cw : CallB R s args own index y bytes maxL ret ws rm mc ms n ∧ (Cond.static y).before args s = true) (hp : PreS s H Pc As)
    (hg : g.method = m) (hn : As.length = n) (hsize : g.locals.size = nL) (hstack : g.stack = As.reverse ++ rest) (hW : 2 * g.monitorRoom + (rest.map fun v => v.category).sum ≤ 8) (hdg : decode cc g.pc = .ok (.invokestatic index, 3)) (hf : cells + mc ≤ R.cells ∧ slots + ms ≤ R.slots) :
    vx_Run p l e R s m args below meth c H locs cells slots mc ms g rest (Qc As.toArray) XC free := by
  have hK : vx_Back l R p e below s args y 3 8 (PreOf R mc ms Pc) (PostOf Qc mc ms free) (vx_Post XC mc ms free) := vx_callBack cw.1 hM hp.1
  obtain ⟨⟨-, -, -, -, -, -, hcode, hini, hy, hlen, hl⟩, hstt⟩ := cw
  obtain ⟨hx, hb, hml, ho, -⟩ := S
  intro T hT X
  rcases vx_callS X hx (bytes := bytes) (maxL := maxL) (ret := ret) ho hl hstt hini hcode hy hK hg (hsize.trans hml.symm) (argsL := As) (rest := rest) (fun sig h => hn.trans (hlen sig h)) hstack hW (by rw [hb]; exact hdg)
    (fun vm₁ hW₁ => ⟨hf.1, hf.2, hp.2 (T.setVm vm₁) hT hW₁⟩) with ⟨v, vm₁, ⟨U', l2, c2, s2⟩, hW₁, X', ⟨g', mk, t, L, e1, e2, hq, h1, hL, h2, h3⟩, st⟩ | ⟨q, vm₁, ⟨U', l2, c2, s2⟩, hW₁, X', ⟨g', mk, t, L, E, ce, e1, e2, hq, hce, hcv, hcl, h1, hL, h2, h3⟩, st⟩
  · dsimp only [Pt.U, Pt.locs, Pt.cells, Pt.slots] at X' e1 e2 h1 h2 h3 st
    subst h1; subst h2; subst h3
    exact Or.inl ⟨v, (T.setVm vm₁).calling g' mk As.toArray, t, U', L, hT, X', hL, e1, e2, hq, st⟩
  · dsimp only [Pt.U, Pt.locs, Pt.cells, Pt.slots] at X' e1 e2 h1 h2 h3 st hcl
    subst h1; subst h2; subst h3
    exact Or.inr ⟨q, (T.setVm vm₁).calling g' mk As.toArray, t, U', L, E, ce, hT, X', hL, e1, e2, hq, hce, hcv, vx_cls hW₁ hcl, st⟩
end Runs
section Rows
variable {p : Program} {l : Launch} {e : Env} {R : Room} {s : State} {m : MethodId} {args : Array Value} {below : List Frame} {meth : Method} {c : Code} {H : Heap} {locs : List Loc} {cells slots : Nat} {Q : State → Prop}
variable {mc ms : Nat} {free : Addr → Prop} {A0 A1 : Nat → Prop} {H0 : Heap} {a : Array Value} {pc : Nat} {ls : Array Slot} {st0 rest : List Value}
theorem vx_keep {st₀ t T' : State} {L : List Loc} (h0 : st₀.heap = H) (e1 : T'.heap = t.heap) (hS : va_S A0 H0 H locs) (hA : ∀ q, q < H.size → A1 q → A0 q) (hf : ∀ q, free q → A0 q) (hL : ∀ q ∈ L, free q.base) (hF : va_F A1 st₀ t) :
    H.size ≤ T'.heap.size ∧ (∀ q : Nat, q < H.size → ¬ A1 q → T'.heap[q]? = H[q]?) ∧ va_S A0 H0 T'.heap (locs ++ L) := by
  obtain ⟨hz, hk⟩ := hF
  rw [h0] at hz hk
  exact ⟨by rw [e1]; exact hz, fun q h1 h2 => by rw [e1]; exact hk q h1 h2,
    ⟨Nat.le_trans hS.1 (by rw [e1]; exact hz), fun q h1 h2 => by rw [e1, hk q (Nat.lt_of_lt_of_le h1 hS.1) (fun z => h2 (hA q (Nat.lt_of_lt_of_le h1 hS.1) z))]; exact hS.2.1 q h1 h2, fun q hq => by
      rcases List.mem_append.mp hq with h | h
      · exact hS.2.2 q h
      · exact hf _ (hL q h)⟩⟩
theorem vx_calli {S SX : Type} {post : Int32 → S → Prop} {px : SX → Prop} {B : S → State → Prop} {BX : String → SX → State → Prop} {AX : Nat → Prop} (hr : vx_Run p l e R s m args below meth c H locs cells slots mc ms (F0 m pc ls st0) rest (va_Qi post B A1 a) (vx_X px BX AX) free) (hS : va_S A0 H0 H locs) (hA : ∀ q, q < H.size → A1 q → A0 q) (hf : ∀ q, free q → A0 q) (hAX : ∀ q, q < H.size → AX q → A0 q)
    (kx : ∀ (E : String) (ce : Cell) (q9 : Addr) (u : SX) (t : State) (H1 : Heap) (locs1 : List Loc), t.heap = H1 → s.vm.Alike t.vm → px u → BX E u t → H.size ≤ H1.size → (∀ q : Nat, q < H.size → ¬ AX q → H1[q]? = H[q]?) → va_S A0 H0 H1 locs1 → H1[q9]? = some ce → ce.vm = .none → s.vm.findClass E = some ce.cls → vx_W p l e R s m args below meth c H1 locs1 (cells + mc) (slots + ms) Q (F0 m pc ls rest) q9)
    (kk : ∀ (r : Int32) (u : S) (t : State) (H1 : Heap) (locs1 : List Loc), t.heap = H1 → s.vm.Alike t.vm → post r u → B u t → H.size ≤ H1.size → (∀ q : Nat, q < H.size → ¬ A1 q → H1[q]? = H[q]?) → va_S A0 H0 H1 locs1 → W p l e R s m args below meth c H1 locs1 (cells + mc) (slots + ms) Q (F0 m (pc + 3) ls (.int r :: rest))) : W p l e R s m args below meth c H locs cells slots Q (F0 m pc ls st0) := by
  intro T hT X
  rcases hr T hT X with ⟨v, st₀, t, T', L, h0, X', hL, e1, e2, ⟨⟨r, u, hv, hp, hb⟩, hF⟩, st⟩ | ⟨q, st₀, t, T', L, E, ce, h0, X', hL, e1, e2, ⟨u, hp, hb, hF⟩, hce, hcv, hcl, st⟩
  · cases hv
    obtain ⟨k1, k2, k3⟩ := vx_keep h0 e1 hS hA hf hL hF
    obtain ⟨t2, a1, b1⟩ := kk r u t T'.heap (locs ++ L) e1.symm (by rw [← e2]; exact X'.warmed.alike) hp hb k1 k2 k3 T' rfl X'
    exact ⟨t2, st t2 a1, b1⟩
  · obtain ⟨k1, k2, k3⟩ := vx_keep h0 e1 hS hAX hf hL hF
    obtain ⟨t2, a1, b1⟩ := kx E ce q u t T'.heap (locs ++ L) e1.symm (by rw [← e2]; exact X'.warmed.alike) hp hb k1 k2 k3 (by rw [e1]; exact hce) hcv hcl T' rfl X'
    exact ⟨t2, st.trans a1, b1⟩
theorem vx_calll {S SX : Type} {post : Int64 → S → Prop} {px : SX → Prop} {B : S → State → Prop} {BX : String → SX → State → Prop} {AX : Nat → Prop} (hr : vx_Run p l e R s m args below meth c H locs cells slots mc ms (F0 m pc ls st0) rest (va_Ql post B A1 a) (vx_X px BX AX) free) (hS : va_S A0 H0 H locs) (hA : ∀ q, q < H.size → A1 q → A0 q) (hf : ∀ q, free q → A0 q) (hAX : ∀ q, q < H.size → AX q → A0 q)
    (kx : ∀ (E : String) (ce : Cell) (q9 : Addr) (u : SX) (t : State) (H1 : Heap) (locs1 : List Loc), t.heap = H1 → s.vm.Alike t.vm → px u → BX E u t → H.size ≤ H1.size → (∀ q : Nat, q < H.size → ¬ AX q → H1[q]? = H[q]?) → va_S A0 H0 H1 locs1 → H1[q9]? = some ce → ce.vm = .none → s.vm.findClass E = some ce.cls → vx_W p l e R s m args below meth c H1 locs1 (cells + mc) (slots + ms) Q (F0 m pc ls rest) q9)
    (kk : ∀ (r : Int64) (u : S) (t : State) (H1 : Heap) (locs1 : List Loc), t.heap = H1 → s.vm.Alike t.vm → post r u → B u t → H.size ≤ H1.size → (∀ q : Nat, q < H.size → ¬ A1 q → H1[q]? = H[q]?) → va_S A0 H0 H1 locs1 → W p l e R s m args below meth c H1 locs1 (cells + mc) (slots + ms) Q (F0 m (pc + 3) ls (.long r :: rest))) : W p l e R s m args below meth c H locs cells slots Q (F0 m pc ls st0) := by
  intro T hT X
  rcases hr T hT X with ⟨v, st₀, t, T', L, h0, X', hL, e1, e2, ⟨⟨r, u, hv, hp, hb⟩, hF⟩, st⟩ | ⟨q, st₀, t, T', L, E, ce, h0, X', hL, e1, e2, ⟨u, hp, hb, hF⟩, hce, hcv, hcl, st⟩
  · cases hv
    obtain ⟨k1, k2, k3⟩ := vx_keep h0 e1 hS hA hf hL hF
    obtain ⟨t2, a1, b1⟩ := kk r u t T'.heap (locs ++ L) e1.symm (by rw [← e2]; exact X'.warmed.alike) hp hb k1 k2 k3 T' rfl X'
    exact ⟨t2, st t2 a1, b1⟩
  · obtain ⟨k1, k2, k3⟩ := vx_keep h0 e1 hS hAX hf hL hF
    obtain ⟨t2, a1, b1⟩ := kx E ce q u t T'.heap (locs ++ L) e1.symm (by rw [← e2]; exact X'.warmed.alike) hp hb k1 k2 k3 (by rw [e1]; exact hce) hcv hcl T' rfl X'
    exact ⟨t2, st.trans a1, b1⟩
theorem vx_callf {S SX : Type} {post : UInt32 → S → Prop} {px : SX → Prop} {B : S → State → Prop} {BX : String → SX → State → Prop} {AX : Nat → Prop} (hr : vx_Run p l e R s m args below meth c H locs cells slots mc ms (F0 m pc ls st0) rest (va_Qf post B A1 a) (vx_X px BX AX) free) (hS : va_S A0 H0 H locs) (hA : ∀ q, q < H.size → A1 q → A0 q) (hf : ∀ q, free q → A0 q) (hAX : ∀ q, q < H.size → AX q → A0 q)
    (kx : ∀ (E : String) (ce : Cell) (q9 : Addr) (u : SX) (t : State) (H1 : Heap) (locs1 : List Loc), t.heap = H1 → s.vm.Alike t.vm → px u → BX E u t → H.size ≤ H1.size → (∀ q : Nat, q < H.size → ¬ AX q → H1[q]? = H[q]?) → va_S A0 H0 H1 locs1 → H1[q9]? = some ce → ce.vm = .none → s.vm.findClass E = some ce.cls → vx_W p l e R s m args below meth c H1 locs1 (cells + mc) (slots + ms) Q (F0 m pc ls rest) q9)
    (kk : ∀ (r : UInt32) (u : S) (t : State) (H1 : Heap) (locs1 : List Loc), t.heap = H1 → s.vm.Alike t.vm → post r u → B u t → H.size ≤ H1.size → (∀ q : Nat, q < H.size → ¬ A1 q → H1[q]? = H[q]?) → va_S A0 H0 H1 locs1 → W p l e R s m args below meth c H1 locs1 (cells + mc) (slots + ms) Q (F0 m (pc + 3) ls (.float r :: rest))) : W p l e R s m args below meth c H locs cells slots Q (F0 m pc ls st0) := by
  intro T hT X
  rcases hr T hT X with ⟨v, st₀, t, T', L, h0, X', hL, e1, e2, ⟨⟨r, u, hv, hp, hb⟩, hF⟩, st⟩ | ⟨q, st₀, t, T', L, E, ce, h0, X', hL, e1, e2, ⟨u, hp, hb, hF⟩, hce, hcv, hcl, st⟩
  · cases hv
    obtain ⟨k1, k2, k3⟩ := vx_keep h0 e1 hS hA hf hL hF
    obtain ⟨t2, a1, b1⟩ := kk r u t T'.heap (locs ++ L) e1.symm (by rw [← e2]; exact X'.warmed.alike) hp hb k1 k2 k3 T' rfl X'
    exact ⟨t2, st t2 a1, b1⟩
  · obtain ⟨k1, k2, k3⟩ := vx_keep h0 e1 hS hAX hf hL hF
    obtain ⟨t2, a1, b1⟩ := kx E ce q u t T'.heap (locs ++ L) e1.symm (by rw [← e2]; exact X'.warmed.alike) hp hb k1 k2 k3 (by rw [e1]; exact hce) hcv hcl T' rfl X'
    exact ⟨t2, st.trans a1, b1⟩
theorem vx_calld {S SX : Type} {post : UInt64 → S → Prop} {px : SX → Prop} {B : S → State → Prop} {BX : String → SX → State → Prop} {AX : Nat → Prop} (hr : vx_Run p l e R s m args below meth c H locs cells slots mc ms (F0 m pc ls st0) rest (va_Qd post B A1 a) (vx_X px BX AX) free) (hS : va_S A0 H0 H locs) (hA : ∀ q, q < H.size → A1 q → A0 q) (hf : ∀ q, free q → A0 q) (hAX : ∀ q, q < H.size → AX q → A0 q)
    (kx : ∀ (E : String) (ce : Cell) (q9 : Addr) (u : SX) (t : State) (H1 : Heap) (locs1 : List Loc), t.heap = H1 → s.vm.Alike t.vm → px u → BX E u t → H.size ≤ H1.size → (∀ q : Nat, q < H.size → ¬ AX q → H1[q]? = H[q]?) → va_S A0 H0 H1 locs1 → H1[q9]? = some ce → ce.vm = .none → s.vm.findClass E = some ce.cls → vx_W p l e R s m args below meth c H1 locs1 (cells + mc) (slots + ms) Q (F0 m pc ls rest) q9)
    (kk : ∀ (r : UInt64) (u : S) (t : State) (H1 : Heap) (locs1 : List Loc), t.heap = H1 → s.vm.Alike t.vm → post r u → B u t → H.size ≤ H1.size → (∀ q : Nat, q < H.size → ¬ A1 q → H1[q]? = H[q]?) → va_S A0 H0 H1 locs1 → W p l e R s m args below meth c H1 locs1 (cells + mc) (slots + ms) Q (F0 m (pc + 3) ls (.double r :: rest))) : W p l e R s m args below meth c H locs cells slots Q (F0 m pc ls st0) := by
  intro T hT X
  rcases hr T hT X with ⟨v, st₀, t, T', L, h0, X', hL, e1, e2, ⟨⟨r, u, hv, hp, hb⟩, hF⟩, st⟩ | ⟨q, st₀, t, T', L, E, ce, h0, X', hL, e1, e2, ⟨u, hp, hb, hF⟩, hce, hcv, hcl, st⟩
  · cases hv
    obtain ⟨k1, k2, k3⟩ := vx_keep h0 e1 hS hA hf hL hF
    obtain ⟨t2, a1, b1⟩ := kk r u t T'.heap (locs ++ L) e1.symm (by rw [← e2]; exact X'.warmed.alike) hp hb k1 k2 k3 T' rfl X'
    exact ⟨t2, st t2 a1, b1⟩
  · obtain ⟨k1, k2, k3⟩ := vx_keep h0 e1 hS hAX hf hL hF
    obtain ⟨t2, a1, b1⟩ := kx E ce q u t T'.heap (locs ++ L) e1.symm (by rw [← e2]; exact X'.warmed.alike) hp hb k1 k2 k3 (by rw [e1]; exact hce) hcv hcl T' rfl X'
    exact ⟨t2, st.trans a1, b1⟩
theorem vx_callv {S SX : Type} {post : S → Prop} {px : SX → Prop} {B : S → State → Prop} {BX : String → SX → State → Prop} {AX : Nat → Prop} (hr : vx_Run p l e R s m args below meth c H locs cells slots mc ms (F0 m pc ls st0) rest (va_Qv post B A1 a) (vx_X px BX AX) free) (hS : va_S A0 H0 H locs) (hA : ∀ q, q < H.size → A1 q → A0 q) (hf : ∀ q, free q → A0 q) (hAX : ∀ q, q < H.size → AX q → A0 q)
    (kx : ∀ (E : String) (ce : Cell) (q9 : Addr) (u : SX) (t : State) (H1 : Heap) (locs1 : List Loc), t.heap = H1 → s.vm.Alike t.vm → px u → BX E u t → H.size ≤ H1.size → (∀ q : Nat, q < H.size → ¬ AX q → H1[q]? = H[q]?) → va_S A0 H0 H1 locs1 → H1[q9]? = some ce → ce.vm = .none → s.vm.findClass E = some ce.cls → vx_W p l e R s m args below meth c H1 locs1 (cells + mc) (slots + ms) Q (F0 m pc ls rest) q9)
    (kk : ∀ (u : S) (t : State) (H1 : Heap) (locs1 : List Loc), t.heap = H1 → s.vm.Alike t.vm → post u → B u t → H.size ≤ H1.size → (∀ q : Nat, q < H.size → ¬ A1 q → H1[q]? = H[q]?) → va_S A0 H0 H1 locs1 → W p l e R s m args below meth c H1 locs1 (cells + mc) (slots + ms) Q (F0 m (pc + 3) ls (rest))) : W p l e R s m args below meth c H locs cells slots Q (F0 m pc ls st0) := by
  intro T hT X
  rcases hr T hT X with ⟨v, st₀, t, T', L, h0, X', hL, e1, e2, ⟨⟨u, hv, hp, hb⟩, hF⟩, st⟩ | ⟨q, st₀, t, T', L, E, ce, h0, X', hL, e1, e2, ⟨u, hp, hb, hF⟩, hce, hcv, hcl, st⟩
  · cases hv
    obtain ⟨k1, k2, k3⟩ := vx_keep h0 e1 hS hA hf hL hF
    obtain ⟨t2, a1, b1⟩ := kk u t T'.heap (locs ++ L) e1.symm (by rw [← e2]; exact X'.warmed.alike) hp hb k1 k2 k3 T' rfl X'
    exact ⟨t2, st t2 a1, b1⟩
  · obtain ⟨k1, k2, k3⟩ := vx_keep h0 e1 hS hAX hf hL hF
    obtain ⟨t2, a1, b1⟩ := kx E ce q u t T'.heap (locs ++ L) e1.symm (by rw [← e2]; exact X'.warmed.alike) hp hb k1 k2 k3 (by rw [e1]; exact hce) hcv hcl T' rfl X'
    exact ⟨t2, st.trans a1, b1⟩
/-- caught by the row x of this method's table; the rows ahead don't take it -/
theorem vx_catch {own name : String} {E : String} {ce : Cell} {q : Addr} (hown : s.vm.findClass own = some m.cls) (pre : List ExceptionTableEntry) (x : ExceptionTableEntry) (suf : List ExceptionTableEntry) (hsplit : c.exceptionTable.toList = pre ++ x :: suf)
    (hpass : ∀ z ∈ pre, covers z pc = false ∨ (z.catchType ≠ 0 ∧ ∃ nm : String, (Cond.classLink own z.catchType nm).before args s = true ∧ va_Nc E nm s)) (hx : covers x pc = true) (h0 : x.catchType ≠ 0)
    (hlink : (Cond.classLink own x.catchType name).before args s = true) (hcast : (Cond.castable E name).before args s = true) (hcell : H[q]? = some ce) (hv : ce.vm = .none) (hcl : s.vm.findClass E = some ce.cls)
    (kk : W p l e R s m args below meth c H locs cells slots Q (F0 m x.handlerPc ls [.ref q])) : vx_W p l e R s m args below meth c H locs cells slots Q (F0 m pc ls rest) q := by
  intro T hT X
  have hpl : e.platform.magicAccessors = ({} : Platform).magicAccessors := by rw [X.admits.platform]
  obtain ⟨c3, c4, hc3, hc4, hasg⟩ := Cond.castable_spec hcast
  cases Option.some.inj (hc3.symm.trans hcl)
  obtain ⟨c5, hc5, hcl5⟩ := Cond.classLink_spec hown hlink e.platform hpl
  cases Option.some.inj (hc4.symm.trans hc5)
  obtain ⟨vm', X', st⟩ := X.thenCaughtThrough q (g := F0 m pc ls rest) rfl (Steps.refl _) (by rw [hT]; exact hcell) (by rw [hv]; rfl) (by obtain ⟨k9, h9, -⟩ := Vm.findClass_spec hcl; exact ⟨k9, h9⟩) pre x suf hsplit
    (fun z hz => by
      rcases hpass z hz with h | ⟨hz0, nm, hl1, hn1⟩
      · exact Or.inl h
      · obtain ⟨c6, hc6, hcl6⟩ := Cond.classLink_spec hown hl1 e.platform hpl
        obtain ⟨a8, b8, h1, h2, h3⟩ := hn1
        cases Option.some.inj (h1.symm.trans hcl)
        cases Option.some.inj (h2.symm.trans hc6)
        exact Or.inr ⟨hz0, _, hcl6, h3⟩) hx (Or.inr ⟨h0, c4, hcl5, hasg⟩)
  obtain ⟨t, a1, b1⟩ := kk (T.setVm vm') hT X'
  exact ⟨t, st.trans a1, b1⟩
end Rows
section Ends
variable {p : Program} {l : Launch} {e : Env} {R : Room} {s : State} {m : MethodId} {args : Array Value} {below : List Frame} {meth : Method} {c : Code} {H : Heap} {locs : List Loc} {cells slots : Nat} {Q : State → Prop}
variable {mc ms : Nat} {free : Addr → Prop} {A0 A1 : Nat → Prop} {H0 : Heap} {a : Array Value} {ls : Array Slot} {st0 rest : List Value}
variable {Qc : Array Value → State → Outcome → State → Prop} {XC : String → State → State → Prop}
/-- what a body that may throw owes at its end -/
def vx_MQ (below : List Frame) (Qc : Array Value → State → Outcome → State → Prop) (XC : String → State → State → Prop) (a : Array Value) (s : State) (mc ms : Nat) (free : Addr → Prop) : State → Prop := fun t =>
  ∃ o, t.status = .running ∧ Ended t below o ∧ vx_Q Qc XC mc ms free a s o t
theorem vx_ret {g : JFrame} {mc ms : Nat} (k : W p l e R s m args below meth c H locs cells slots (MQ below Qc args s mc ms free) g) : W p l e R s m args below meth c H locs cells slots (vx_MQ below Qc XC args s mc ms free) g := by
  intro T hT X
  obtain ⟨t, a1, o, b1, b2, b3, b4⟩ := k T hT X
  exact ⟨t, a1, o, b1, b2, Or.inl ⟨b3, b4⟩⟩
/-- not caught here: it goes on to the caller -/
theorem vx_widen {g : JFrame} {q : Addr} {k n : Nat} (h1 : cells ≤ k) (h2 : slots ≤ n) (kk : vx_W p l e R s m args below meth c H locs k n Q g q) : vx_W p l e R s m args below meth c H locs cells slots Q g q := fun T hT X => kk T hT (stand_widen X h1 h2)
theorem vx_out {pc : Nat} {E : String} {ce : Cell} {q : Addr} {mc ms : Nat} (hout : ∀ x ∈ c.exceptionTable.toList, covers x pc = false) (hlocks : meth.locks = false) (hcell : H[q]? = some ce) (hv : ce.vm = .none) (hcl : s.vm.findClass E = some ce.cls)
    (hx : ∀ t : State, t.heap = H → s.vm.Alike t.vm → XC E s t) (hf : ∀ z ∈ locs, free z.base) (hc : cells ≤ mc) (hs : slots ≤ ms) :
    vx_W p l e R s m args below meth c H locs cells slots (vx_MQ below Qc XC args s mc ms free) (F0 m pc ls rest) q := by
  intro T hT X
  obtain ⟨st1, hrun, hend, hW, hsm⟩ := X.leaveThrown q (g := F0 m pc ls rest) rfl rfl rfl hout hlocks
  have hcell9 : (T.setFrames (.throwing q :: below)).heap[q]? = some ce := by
    show T.heap[q]? = some ce
    rw [hT]; exact hcell
  exact ⟨_, st1, .threw q, hrun, hend, Or.inr ⟨q, rfl, E, ce, locs, hx _ hT hW.alike, hcell9, hv, hcl, hW, hsm.mono hc hs, hf⟩⟩
theorem vx_frame {U : State} {k n : Nat} (h : s.sameButNew ({ U with vm := s.vm } : State) locs k n) : s.heap.size ≤ U.heap.size ∧ ∀ q : Nat, q < s.heap.size → (∀ z ∈ locs, z.base ≠ q) → U.heap[q]? = s.heap[q]? := by
  obtain ⟨-, h2, -, -, -, h6⟩ := h
  refine ⟨h2, fun q hq hz => ?_⟩
  obtain ⟨c9, e1, e2, e3, e4⟩ := h6 q _ (Array.getElem?_eq_getElem hq)
  have hs : c9.slots = (s.heap[q]).slots := Array.ext_getElem? fun i => e4 i fun hm => hz _ hm rfl
  have h9 : c9 = s.heap[q] := by
    rw [hs] at e2
    exact e2
  have e5 : U.heap[q]? = some c9 := e1
  rw [e5, h9, Array.getElem?_eq_getElem hq]
/-- the words of a throw but the four that speak of the heap -/
def vx_no (w : Cond) : Bool := decide (w ≠ .isRef (.static Bundle.tN "UNASSIGNED_STACK" Bundle.steD)) && decide (w ≠ .isRef (.static Bundle.tN "SUPPRESSED_SENTINEL" Bundle.listD)) && decide (w ≠ .laysStatic Bundle.tN "UNASSIGNED_STACK" Bundle.steD) && decide (w ≠ .laysStatic Bundle.tN "SUPPRESSED_SENTINEL" Bundle.listD)
def vx_at0 (own : String) (ic : Nat) (X : String) (names : List String) : List Cond := (Bundle.ownAtoms0 own ic X names).filter vx_no
def vx_atS (own : String) (ic : Nat) (X : String) (names : List String) : List Cond := (Bundle.ownAtoms own ic X names).filter vx_no
/-- a word that the tables alone decide, or a good one -/
def vx_ot (w : Cond) : Bool := w.onTables || goodWord w
theorem vx_ot_at {args a' : Array Value} {s U : State} {w : Cond} (hW : s.WarmedH U.vm) (hvm : s.vm = U.vm) (hg : vx_ot w = true) (h : w.before args s = true) : w.before a' U = true := by
  simp only [vx_ot, Bool.or_eq_true] at hg
  rcases hg with hg | hg
  · exact va_tabs hg hvm h
  · exact word_at hW (good_of_word hg) h
/-- a list's words: the good ones out of the method's own list, the others by premises of their own -/
theorem vx_hat {args : Array Value} {s : State} {L B : List Cond} (h1 : ∀ w ∈ L.filter goodWord, w.before args s = true) (h2 : ∀ w ∈ L.filter (fun w => !goodWord w), w ∈ B) (h3 : ∀ w ∈ B, w.before args s = true) : ∀ w ∈ L, w.before args s = true := by
  intro w hw
  by_cases g : goodWord w = true
  · exact h1 w (List.mem_filter.mpr ⟨hw, g⟩)
  · refine h3 w (h2 w (List.mem_filter.mpr ⟨hw, ?_⟩))
    show (!goodWord w) = true
    cases hgw : goodWord w
    · rfl
    · exact absurd hgw g
theorem vx_c {args : Array Value} {s : State} {w : Cond} {B : List Cond} (h : w.before args s = true) (t : ∀ w ∈ B, w.before args s = true) : ∀ w' ∈ w :: B, w'.before args s = true := fun w' h' => (List.mem_cons.mp h').elim (fun e => by rw [e]; exact h) (t w')
theorem vx_n {args : Array Value} {s : State} : ∀ w ∈ ([] : List Cond), w.before args s = true := fun _ h => nomatch h
theorem vx_own {args : Array Value} {s : State} {L : List Cond} (h1 : ∀ w ∈ L.filter vx_no, w.before args s = true)
    (hU : (Cond.isRef (.static Bundle.tN "UNASSIGNED_STACK" Bundle.steD)).before args s = true) (hN : (Cond.isRef (.static Bundle.tN "SUPPRESSED_SENTINEL" Bundle.listD)).before args s = true)
    (lU : (Cond.laysStatic Bundle.tN "UNASSIGNED_STACK" Bundle.steD).before args s = true) (lN : (Cond.laysStatic Bundle.tN "SUPPRESSED_SENTINEL" Bundle.listD).before args s = true) : ∀ w ∈ L, w.before args s = true := by
  intro w hw
  by_cases e1 : w = .isRef (.static Bundle.tN "UNASSIGNED_STACK" Bundle.steD)
  · rw [e1]; exact hU
  · by_cases e2 : w = .isRef (.static Bundle.tN "SUPPRESSED_SENTINEL" Bundle.listD)
    · rw [e2]; exact hN
    · by_cases e3 : w = .laysStatic Bundle.tN "UNASSIGNED_STACK" Bundle.steD
      · rw [e3]; exact lU
      · by_cases e4 : w = .laysStatic Bundle.tN "SUPPRESSED_SENTINEL" Bundle.listD
        · rw [e4]; exact lN
        · exact h1 w (List.mem_filter.mpr ⟨hw, by unfold vx_no; rw [decide_eq_true e1, decide_eq_true e2, decide_eq_true e3, decide_eq_true e4]; rfl⟩)
/-- where a static field lies, its class's statics cell in H -/
def vx_L (C n d : String) (A : Nat → Prop) (U : State) (H : Heap) : Prop := ∃ (c : ClassId) (k : Class) (i : Nat) (f : Field) (a : Nat) (cell : Cell), U.vm.findClass C = some c ∧ U.fieldFound? C n d = some (c, k, i, f) ∧ f.isStatic = true ∧ k.statics = some a ∧ H[a]? = some cell ∧ cell.vm.isStatics = true ∧ cell.cls = c ∧ f.slot < cell.slots.size ∧ k.staticTypes[f.slot]? = some f.type ∧ ¬ A a
theorem vx_L.moved {C n d : String} {A : Nat → Prop} {u U : State} {H : Heap} (hvm : u.vm.Alike U.vm) (h : vx_L C n d A u H) : vx_L C n d A U H := by
  obtain ⟨c, k, i, f, a, cell, h1, h2, h3, h4, h5, h6, h7, h8, h9, h10⟩ := h
  obtain ⟨k', hi', he⟩ := State.fieldFound?_setVm hvm h2
  exact ⟨c, k', i, f, a, cell, by rw [hvm.findClass]; exact h1, hi', h3, by rw [he]; exact h4, h5, h6, h7, h8, by rw [he]; exact h9, h10⟩
theorem vx_L.kept {C n d : String} {A : Nat → Prop} {U : State} {H H1 : Heap} (h : vx_L C n d A U H) (hq : ∀ a : Nat, a < H.size → ¬ A a → H1[a]? = H[a]?) : vx_L C n d A U H1 := by
  obtain ⟨c, k, i, f, a, cell, h1, h2, h3, h4, h5, h6, h7, h8, h9, h10⟩ := h
  exact ⟨c, k, i, f, a, cell, h1, h2, h3, h4, by rw [hq a (Array.getElem?_eq_some_iff.mp h5).1 h10]; exact h5, h6, h7, h8, h9, h10⟩
theorem vx_L.narrow {C n d : String} {A B : Nat → Prop} {U : State} {H : Heap} (h : vx_L C n d A U H) (hAB : ∀ q, B q → A q) : vx_L C n d B U H := by
  obtain ⟨c, k, i, f, a, cell, h1, h2, h3, h4, h5, h6, h7, h8, h9, h10⟩ := h
  exact ⟨c, k, i, f, a, cell, h1, h2, h3, h4, h5, h6, h7, h8, h9, fun z => h10 (hAB _ z)⟩
theorem vx_L.word {C n d : String} {A : Nat → Prop} {s : State} {args : Array Value} (h : vx_L C n d A s s.heap) : (Cond.laysStatic C n d).before args s = true := by
  obtain ⟨c, k, i, f, a, cell, h1, h2, h3, h4, h5, h6, h7, h8, h9, -⟩ := h
  show (Cond.laysStatic C n d).holds args s none s [] = true
  exact Cond.laysStatic_of h1 h2 h3 h4 h5 h6 h7 h8 h9
/-- .. and what it holds: null or some reference -/
def vx_Zq (C n d : String) (A : Nat → Prop) (U : State) (H : Heap) : Prop := va_Zq C n d A U H ∧ vx_L C n d A U H
theorem vx_Zq.moved {C n d : String} {A : Nat → Prop} {u U : State} {H : Heap} (hvm : u.vm.Alike U.vm) (h : vx_Zq C n d A u H) : vx_Zq C n d A U H := ⟨va_Zq.moved hvm h.1, vx_L.moved hvm h.2⟩
theorem vx_Zq.kept {C n d : String} {A : Nat → Prop} {U : State} {H H1 : Heap} (h : vx_Zq C n d A U H) (hq : ∀ a : Nat, a < H.size → ¬ A a → H1[a]? = H[a]?) : vx_Zq C n d A U H1 := ⟨va_Zq.kept h.1 hq, vx_L.kept h.2 hq⟩
theorem vx_Zq.narrow {C n d : String} {A B : Nat → Prop} {U : State} {H : Heap} (h : vx_Zq C n d A U H) (hAB : ∀ q, B q → A q) : vx_Zq C n d B U H := ⟨va_Zq.narrow h.1 hAB, vx_L.narrow h.2 hAB⟩
theorem vx_Zqof {args : Array Value} {s : State} {C n d : String} {A : Nat → Prop} (hl : (Cond.laysStatic C n d).before args s = true) (hini : (Cond.initialized C).before args s = true) (h : (Cond.isRef (.static C n d)).before args s = true) (hA : ∀ a : Nat, a < s.heap.size → ¬ A a) : vx_Zq C n d A s s.heap := by
  refine ⟨va_Zqof hl hini h hA, ?_⟩
  obtain ⟨c, k, i, f, a, cell, h1, h2, h3, h4, h5, h6, h7, h8, h9⟩ := Cond.laysStatic_spec hl
  exact ⟨c, k, i, f, a, cell, h1, h2, h3, h4, h5, h6, h7, h8, h9, hA a (Array.getElem?_eq_some_iff.mp h5).1⟩
theorem vx_isRef {C n d : String} {v : Value} {A : Nat → Prop} {s : State} {args : Array Value} (h : va_Z C n d v A s s.heap) (hv : v.isRef = true) : (Cond.isRef (.static C n d)).before args s = true := by
  obtain ⟨cf, kf, fi, f, a, cell, h1, h2, h3, h4, h5, h6, h7, -⟩ := h
  have he : (Term.static C n d).eval args s none [] s = some v := by
    simp [Term.eval, State.fieldNamed?, h1, h2, h4, h5, h6, h7]
  simp only [Cond.before, Cond.holds, Cond.value, he]
  cases v <;> simp_all [Value.isRef]
theorem vx_isRefq {C n d : String} {A : Nat → Prop} {s : State} {args : Array Value} (h : va_Zq C n d A s s.heap) : (Cond.isRef (.static C n d)).before args s = true := by
  rcases h with h | ⟨t, h⟩
  · exact vx_isRef h rfl
  · exact vx_isRef h rfl
/-- the same frame, seen from here: as if the method were called anew in this heap -/
theorem vx_rebase {T : State} (X : Stand p l e R s m args below meth c T locs cells slots) {R' : Room} (hf : R'.frames ≤ R.frames) (hl : R'.locals ≤ R.locals) (hc : cells + R'.cells ≤ R.cells) (hs : slots + R'.slots ≤ R.slots) :
    Stand p l e R' ((T.setVm s.vm).setFrames (.invoking m args :: below)) m args below meth c T [] 0 0 := by
  have htop : (T.setVm s.vm).topJava?.isSome := X.here.top
  have hF : ((T.setVm s.vm).setFrames (.invoking m args :: below)).frames = .invoking m args :: below := State.frames_setFrames _ (State.cur_lt_of_top htop)
  obtain ⟨g₀, hg0⟩ := Option.isSome_iff_exists.mp htop
  obtain ⟨r, hr⟩ := State.topJava?_eq_some.mp hg0
  have hl9 : e.platform.stackLimits (T.setVm s.vm).me = e.platform.stackLimits s.me := X.limits
  have hb9 : (T.setVm s.vm).me.stackBytes = s.me.stackBytes := X.bytes
  refine ⟨X.admits, X.cas, X.clock, hF, ?_, X.hears, X.method, X.code, X.here, X.tail, X.warmed, ?_, ?_, ?_⟩
  · have h := X.room
    have hU : ((T.setVm s.vm).setFrames (.invoking m args :: below)).localsInUse = s.localsInUse := by
      rw [State.localsInUse_invoking hF (meth := meth) (c := c) X.method X.code, State.localsInUse_invoking X.frames X.method X.code]
    simp only [State.hasRoom, Bool.and_eq_true, decide_eq_true_eq] at h ⊢
    obtain ⟨⟨⟨⟨h1, h2, h3, h4, h5, h6⟩, h7⟩, h8⟩, h9⟩ := h
    rw [X.frames, List.length_cons] at h2 h3
    have q1 := X.heapSize
    have q2 := X.used
    simp only [hF, hU, List.length_cons, State.stackLimits_setFrames, State.stackBytes_setFrames, hl9, hb9]
    refine ⟨⟨⟨⟨by omega, by omega, by omega, by omega, by omega, h6⟩, ?_⟩, ?_⟩, X.book⟩
    · show T.heap.size + R'.cells ≤ e.platform.maxCells
      omega
    · show T.slotsUsed + R'.slots ≤ e.platform.maxSlots
      omega
  · rw [State.stackLimits_setFrames]; rfl
  · rw [State.stackBytes_setFrames]; rfl
  · refine ⟨?_, Nat.le_refl _, Nat.le_refl _, ?_, ?_, fun a c9 h9 => ⟨c9, h9, rfl, rfl, fun _ _ => rfl⟩⟩
    · obtain ⟨t, ht, -⟩ := State.frames_cons hr
      show T.setVm s.vm = { ((T.setVm s.vm).setFrames (.invoking m args :: below)).setFrames (T.setVm s.vm).frames with heap := T.heap, slotsUsed := T.slotsUsed }
      rw [State.setFrames_setFrames, State.setFrames_self ht]
      rfl
    · show T.slotsUsed = T.slotsUsed + ((T.heap.toList.drop T.heap.size).map (·.slots.size)).sum
      rw [List.drop_eq_nil_of_le (Nat.le_of_eq Array.length_toList)]
      rfl
    · show ((T.heap.toList.drop T.heap.size).map (·.slots.size)).sum ≤ 0
      rw [List.drop_eq_nil_of_le (Nat.le_of_eq Array.length_toList)]
      exact Nat.le_refl _
/-- 'throw new E()': new; dup; invokespecial; athrow -/
theorem vx_throw0 {cc : ByteArray} {pc : Nat} (hexec : p.tables.exec = Jvm.exec) (hb : c.code = cc) (hl : l.stackTraces = false) {own cls : String} {names : List String} {ik ic mc ms : Nat} {A : Nat → Prop}
    (hown : s.vm.findClass own = some m.cls) (hcls : Bundle.fit cls = true) (hnames : ∀ n ∈ names, Bundle.fit n = true)
    (hk : (Cond.classLink own ik cls).before args s = true) (hini : (Cond.initialized cls).before args s = true) (hat : ∀ w ∈ vx_at0 own ic cls names, w.before args s = true)
    (hgood : ∀ w ∈ Cond.classLink own ik cls :: Cond.initialized cls :: vx_at0 own ic cls names, vx_ot w = true)
    (hU : vx_Zq Bundle.tN "UNASSIGNED_STACK" Bundle.steD A s s.heap) (hN : vx_Zq Bundle.tN "SUPPRESSED_SENTINEL" Bundle.listD A s s.heap) (hS : va_S A s.heap H locs) (hsize : ls.size = c.maxLocals)
    (d0 : decode cc pc = .ok (.new ik, 3)) (d3 : decode cc (pc + 3) = .ok (.dup, 1)) (d4 : decode cc (pc + 4) = .ok (.invokespecial ic, 3)) (d7 : decode cc (pc + 7) = .ok (.athrow, 1))
    (hout : ∀ x ∈ c.exceptionTable.toList, covers x (pc + 7) = false)
    (hRframes : names.length + 3 < R.frames) (hRlocals : (rest.map fun v => v.category).sum + (13 * (names.length + 1) + 42) ≤ R.locals) (hRcells : cells + 1 ≤ R.cells) (hRslots : slots + 6 ≤ R.slots) (hlocks : meth.locks = false)
    (hx : ∀ t : State, s.vm.Alike t.vm → H.size ≤ t.heap.size → (∀ q : Nat, q < H.size → t.heap[q]? = H[q]?) → XC cls s t)
    (hf : ∀ z ∈ locs, free z.base) (hc : cells + 1 ≤ mc) (hs : slots + 6 ≤ ms) :
    W p l e R s m args below meth c H locs cells slots (vx_MQ below Qc XC args s mc ms free) (F0 m pc ls rest) := by
  intro T hT X
  have htr : e.platform.stackTraces = false := (show e.platform.stackTraces = l.stackTraces by rw [X.admits.platform]).trans hl
  have Y := vx_rebase X (R' := { frames := R.frames, locals := R.locals, cells := 1, slots := 6 }) (Nat.le_refl _) (Nat.le_refl _) hRcells hRslots
  obtain ⟨s', hA⟩ : ∃ z, z = (T.setVm s.vm).setFrames (.invoking m args :: below) := ⟨_, rfl⟩
  rw [← hA] at Y
  have hvm : s'.vm = s.vm := by rw [hA]; rfl
  have hhp : s'.heap = H := by rw [hA]; exact hT
  have hW0 : s.WarmedH s'.vm := by rw [hvm]; exact State.WarmedH.refl s
  have hat' : ∀ w ∈ vx_at0 own ic cls names, w.before args s' = true := fun w hw => vx_ot_at hW0 hvm.symm (hgood w (List.mem_cons_of_mem _ (List.mem_cons_of_mem _ hw))) (hat w hw)
  have hk' : (Cond.classLink own ik cls).before args s' = true := vx_ot_at hW0 hvm.symm (hgood _ List.mem_cons_self) hk
  have hini' : (Cond.initialized cls).before args s' = true := vx_ot_at hW0 hvm.symm (hgood _ (List.mem_cons_of_mem _ List.mem_cons_self)) hini
  have hU' : vx_Zq Bundle.tN "UNASSIGNED_STACK" Bundle.steD A s' s'.heap := by rw [hhp]; exact vx_Zq.moved hW0.alike (hU.kept hS.2.1)
  have hN' : vx_Zq Bundle.tN "SUPPRESSED_SENTINEL" Bundle.listD A s' s'.heap := by rw [hhp]; exact vx_Zq.moved hW0.alike (hN.kept hS.2.1)
  have h : ∀ w ∈ Bundle.ownAtoms0 own ic cls names, w.before args s' = true := vx_own hat' (vx_isRefq hU'.1) (vx_isRefq hN'.1) hU'.2.word hN'.2.word
  have hown' : s'.vm.findClass own = some m.cls := by rw [hvm]; exact hown
  have hins : (Cond.instantiable cls 6).before args s' = true := h _ (by simp [Bundle.ownAtoms0])
  obtain ⟨vm₁, cX, kX, hfX, hkX, -, -, X₁, st1⟩ := Y.newCold hexec (own := own) (C := cls) (index := ik) (n := 6) hown' hk' hins hini'
    (g := F0 m pc ls rest) rfl (by rw [hb]; exact d0) (Nat.le_refl _) (Nat.le_refl _)
  generalize hT1 : (T.setVm vm₁).pushCell { cls := cX, slots := kX.instanceTypes.map defaultValue, vm := .none } = T1 at X₁ st1
  have hcat : (Value.ref T.heap.size).category = 1 := rfl
  have hcellA : T1.heap[T.heap.size]? = some (freshCell cX kX) := by rw [← hT1]; exact State.heap_pushCell_size _ _
  have d3' : decode c.code (pc + 3) = .ok (.dup, 1) := by rw [hb]; exact d3
  obtain ⟨U, hsteps, hrun, hend, hW, hsame, ce, hce, hO⟩ := X₁.ctorThrow0 hexec htr (own := own) (cls := cls) (names := names) (ic := ic) hown' hcls hnames h (fun x hx => nomatch hx) hfX hkX hcellA (by rw [hhp, hT]; exact Nat.le_refl _)
    (g := { method := m, pc := pc + 4, locals := ls, stack := .ref T.heap.size :: .ref T.heap.size :: rest, locked := none }) rfl hsize rfl rfl (rest := rest) rfl
    (by rw [hb]; exact d4) (by rw [hb]; exact d7) hout hRframes (by simp only [List.map_cons, List.sum_cons, hcat]; omega) hlocks
  obtain ⟨f1, f2⟩ := vx_frame hsame
  rw [hhp] at f1 f2
  have hWs : s.WarmedH U.vm := State.WarmedH.trans hW0 hW
  have hcl : s.vm.findClass cls = some ce.cls := by
    have h9 := hO.cls
    rw [hvm] at h9
    exact h9
  have hall : s.sameButNew ({ U with vm := s.vm } : State) locs mc ms := by
    subst hA
    obtain ⟨e1, e2⟩ := hsame
    rw [State.setFrames_setFrames] at e1
    have h2 : (T.setVm s.vm).sameButNew ({ U with vm := s.vm } : State) [] (0 + 1) (0 + 6) := ⟨e1, e2⟩
    have h3 := X.same.trans h2
    rw [List.append_nil] at h3
    exact h3.mono hc hs
  refine ⟨U, ?_, .threw T.heap.size, hrun, hend, Or.inr ⟨T.heap.size, rfl, cls, ce, locs, hx U hWs.alike f1 (fun q hq => f2 q hq (fun z hz => nomatch hz)), hce, hO.vm, hcl, hWs, hall, hf⟩⟩
  refine st1 _ ?_
  show Steps p.tables e below (T1.setTop { method := m, pc := pc + 3, locals := ls, stack := .ref T.heap.size :: rest, locked := none }) _
  jvm_step X₁.here [X₁.here.top, hexec, d3', Value.category]
  exact hsteps
/-- 'throw new E("text")': new; dup; ldc; invokespecial; athrow -/
theorem vx_throwS {cc : ByteArray} {pc : Nat} (hexec : p.tables.exec = Jvm.exec) (hb : c.code = cc) (hl : l.stackTraces = false) {own cls text : String} {names : List String} {ik is ic mc ms sa : Nat} {A : Nat → Prop}
    (hown : s.vm.findClass own = some m.cls) (hcls : Bundle.fit cls = true) (hnames : ∀ n ∈ names, Bundle.fit n = true)
    (hk : (Cond.classLink own ik cls).before args s = true) (hini : (Cond.initialized cls).before args s = true) (hstr : vk_R own is text sa s) (hat : ∀ w ∈ vx_atS own ic cls names, w.before args s = true)
    (hgood : ∀ w ∈ Cond.classLink own ik cls :: Cond.initialized cls :: vx_atS own ic cls names, vx_ot w = true)
    (hU : vx_Zq Bundle.tN "UNASSIGNED_STACK" Bundle.steD A s s.heap) (hN : vx_Zq Bundle.tN "SUPPRESSED_SENTINEL" Bundle.listD A s s.heap) (hS : va_S A s.heap H locs) (hsize : ls.size = c.maxLocals)
    (d0 : decode cc pc = .ok (.new ik, 3)) (d3 : decode cc (pc + 3) = .ok (.dup, 1)) (d4 : decode cc (pc + 4) = .ok (.ldc is, 2)) (d6 : decode cc (pc + 6) = .ok (.invokespecial ic, 3)) (d9 : decode cc (pc + 9) = .ok (.athrow, 1))
    (hout : ∀ x ∈ c.exceptionTable.toList, covers x (pc + 9) = false)
    (hRframes : names.length + 3 < R.frames) (hRlocals : (rest.map fun v => v.category).sum + (13 * (names.length + 1) + 43) ≤ R.locals) (hRcells : cells + 1 ≤ R.cells) (hRslots : slots + 6 ≤ R.slots) (hlocks : meth.locks = false)
    (hx : ∀ t : State, s.vm.Alike t.vm → H.size ≤ t.heap.size → (∀ q : Nat, q < H.size → t.heap[q]? = H[q]?) → XC cls s t)
    (hf : ∀ z ∈ locs, free z.base) (hc : cells + 1 ≤ mc) (hs : slots + 6 ≤ ms) :
    W p l e R s m args below meth c H locs cells slots (vx_MQ below Qc XC args s mc ms free) (F0 m pc ls rest) := by
  intro T hT X
  have htr : e.platform.stackTraces = false := (show e.platform.stackTraces = l.stackTraces by rw [X.admits.platform]).trans hl
  have Y := vx_rebase X (R' := { frames := R.frames, locals := R.locals, cells := 1, slots := 6 }) (Nat.le_refl _) (Nat.le_refl _) hRcells hRslots
  obtain ⟨s', hA⟩ : ∃ z, z = (T.setVm s.vm).setFrames (.invoking m args :: below) := ⟨_, rfl⟩
  rw [← hA] at Y
  have hvm : s'.vm = s.vm := by rw [hA]; rfl
  have hhp : s'.heap = H := by rw [hA]; exact hT
  have hW0 : s.WarmedH s'.vm := by rw [hvm]; exact State.WarmedH.refl s
  have hat' : ∀ w ∈ vx_atS own ic cls names, w.before args s' = true := fun w hw => vx_ot_at hW0 hvm.symm (hgood w (List.mem_cons_of_mem _ (List.mem_cons_of_mem _ hw))) (hat w hw)
  have hk' : (Cond.classLink own ik cls).before args s' = true := vx_ot_at hW0 hvm.symm (hgood _ List.mem_cons_self) hk
  have hini' : (Cond.initialized cls).before args s' = true := vx_ot_at hW0 hvm.symm (hgood _ (List.mem_cons_of_mem _ List.mem_cons_self)) hini
  have hU' : vx_Zq Bundle.tN "UNASSIGNED_STACK" Bundle.steD A s' s'.heap := by rw [hhp]; exact vx_Zq.moved hW0.alike (hU.kept hS.2.1)
  have hN' : vx_Zq Bundle.tN "SUPPRESSED_SENTINEL" Bundle.listD A s' s'.heap := by rw [hhp]; exact vx_Zq.moved hW0.alike (hN.kept hS.2.1)
  have h : ∀ w ∈ Bundle.ownAtoms own ic cls names, w.before args s' = true := vx_own hat' (vx_isRefq hU'.1) (vx_isRefq hN'.1) hU'.2.word hN'.2.word
  have hown' : s'.vm.findClass own = some m.cls := by rw [hvm]; exact hown
  have hins : (Cond.instantiable cls 6).before args s' = true := h _ (by simp [Bundle.ownAtoms])
  obtain ⟨vm₁, cX, kX, hfX, hkX, -, -, X₁, st1⟩ := Y.newCold hexec (own := own) (C := cls) (index := ik) (n := 6) hown' hk' hins hini'
    (g := F0 m pc ls rest) rfl (by rw [hb]; exact d0) (Nat.le_refl _) (Nat.le_refl _)
  generalize hT1 : (T.setVm vm₁).pushCell { cls := cX, slots := kX.instanceTypes.map defaultValue, vm := .none } = T1 at X₁ st1
  have hcat : (Value.ref T.heap.size).category = 1 := rfl
  have hcellA : T1.heap[T.heap.size]? = some (freshCell cX kX) := by rw [← hT1]; exact State.heap_pushCell_size _ _
  have d3' : decode c.code (pc + 3) = .ok (.dup, 1) := by rw [hb]; exact d3
  have d4' : decode c.code (pc + 4) = .ok (.ldc is, 2) := by rw [hb]; exact d4
  have hstr' : vk_R own is text sa s' := vk_R.warm hW0 hstr
  obtain ⟨U, hsteps, hrun, hend, hW, hsame, ce, hce, hO⟩ := X₁.ctorThrowS hexec htr (own := own) (cls := cls) (names := names) (ic := ic) hown' hcls hnames h (fun x hx => nomatch hx) hfX hkX hcellA (by rw [hhp, hT]; exact Nat.le_refl _) (msg := .ref sa) rfl
    (g := { method := m, pc := pc + 6, locals := ls, stack := .ref sa :: .ref T.heap.size :: .ref T.heap.size :: rest, locked := none }) rfl hsize rfl rfl (rest := rest) rfl
    (by rw [hb]; exact d6) (by rw [hb]; exact d9) hout hRframes (by simp only [List.map_cons, List.sum_cons, hcat]; omega) hlocks
  obtain ⟨f1, f2⟩ := vx_frame hsame
  rw [hhp] at f1 f2
  have hWs : s.WarmedH U.vm := State.WarmedH.trans hW0 hW
  have hcl : s.vm.findClass cls = some ce.cls := by
    have h9 := hO.cls
    rw [hvm] at h9
    exact h9
  have hall : s.sameButNew ({ U with vm := s.vm } : State) locs mc ms := by
    subst hA
    obtain ⟨e1, e2⟩ := hsame
    rw [State.setFrames_setFrames] at e1
    have h2 : (T.setVm s.vm).sameButNew ({ U with vm := s.vm } : State) [] (0 + 1) (0 + 6) := ⟨e1, e2⟩
    have h3 := X.same.trans h2
    rw [List.append_nil] at h3
    exact h3.mono hc hs
  refine ⟨U, ?_, .threw T.heap.size, hrun, hend, Or.inr ⟨T.heap.size, rfl, cls, ce, locs, hx U hWs.alike f1 (fun q hq => f2 q hq (fun z hz => nomatch hz)), hce, hO.vm, hcl, hWs, hall, hf⟩⟩
  refine st1 _ ?_
  show Steps p.tables e below (T1.setTop { method := m, pc := pc + 3, locals := ls, stack := .ref T.heap.size :: rest, locked := none }) _
  jvm_step X₁.here [X₁.here.top, hexec, d3', Value.category]
  exact X₁.ldcString hexec (own := own) (text := text) (index := is) (a := sa) hown' hstr'.1 hstr'.2
    (g := { method := m, pc := pc + 4, locals := ls, stack := .ref T.heap.size :: .ref T.heap.size :: rest, locked := none }) rfl d4' _ hsteps
/-- 'throw new E("text")', the text by a wide index -/
theorem vx_throwSW {cc : ByteArray} {pc : Nat} (hexec : p.tables.exec = Jvm.exec) (hb : c.code = cc) (hl : l.stackTraces = false) {own cls text : String} {names : List String} {ik is ic mc ms sa : Nat} {A : Nat → Prop}
    (hown : s.vm.findClass own = some m.cls) (hcls : Bundle.fit cls = true) (hnames : ∀ n ∈ names, Bundle.fit n = true)
    (hk : (Cond.classLink own ik cls).before args s = true) (hini : (Cond.initialized cls).before args s = true) (hstr : vk_R own is text sa s) (hat : ∀ w ∈ vx_atS own ic cls names, w.before args s = true)
    (hgood : ∀ w ∈ Cond.classLink own ik cls :: Cond.initialized cls :: vx_atS own ic cls names, vx_ot w = true)
    (hU : vx_Zq Bundle.tN "UNASSIGNED_STACK" Bundle.steD A s s.heap) (hN : vx_Zq Bundle.tN "SUPPRESSED_SENTINEL" Bundle.listD A s s.heap) (hS : va_S A s.heap H locs) (hsize : ls.size = c.maxLocals)
    (d0 : decode cc pc = .ok (.new ik, 3)) (d3 : decode cc (pc + 3) = .ok (.dup, 1)) (d4 : decode cc (pc + 4) = .ok (.ldc_w is, 3)) (d7 : decode cc (pc + 7) = .ok (.invokespecial ic, 3)) (d10 : decode cc (pc + 10) = .ok (.athrow, 1))
    (hout : ∀ x ∈ c.exceptionTable.toList, covers x (pc + 10) = false)
    (hRframes : names.length + 3 < R.frames) (hRlocals : (rest.map fun v => v.category).sum + (13 * (names.length + 1) + 43) ≤ R.locals) (hRcells : cells + 1 ≤ R.cells) (hRslots : slots + 6 ≤ R.slots) (hlocks : meth.locks = false)
    (hx : ∀ t : State, s.vm.Alike t.vm → H.size ≤ t.heap.size → (∀ q : Nat, q < H.size → t.heap[q]? = H[q]?) → XC cls s t)
    (hf : ∀ z ∈ locs, free z.base) (hc : cells + 1 ≤ mc) (hs : slots + 6 ≤ ms) :
    W p l e R s m args below meth c H locs cells slots (vx_MQ below Qc XC args s mc ms free) (F0 m pc ls rest) := by
  intro T hT X
  have htr : e.platform.stackTraces = false := (show e.platform.stackTraces = l.stackTraces by rw [X.admits.platform]).trans hl
  have Y := vx_rebase X (R' := { frames := R.frames, locals := R.locals, cells := 1, slots := 6 }) (Nat.le_refl _) (Nat.le_refl _) hRcells hRslots
  obtain ⟨s', hA⟩ : ∃ z, z = (T.setVm s.vm).setFrames (.invoking m args :: below) := ⟨_, rfl⟩
  rw [← hA] at Y
  have hvm : s'.vm = s.vm := by rw [hA]; rfl
  have hhp : s'.heap = H := by rw [hA]; exact hT
  have hW0 : s.WarmedH s'.vm := by rw [hvm]; exact State.WarmedH.refl s
  have hat' : ∀ w ∈ vx_atS own ic cls names, w.before args s' = true := fun w hw => vx_ot_at hW0 hvm.symm (hgood w (List.mem_cons_of_mem _ (List.mem_cons_of_mem _ hw))) (hat w hw)
  have hk' : (Cond.classLink own ik cls).before args s' = true := vx_ot_at hW0 hvm.symm (hgood _ List.mem_cons_self) hk
  have hini' : (Cond.initialized cls).before args s' = true := vx_ot_at hW0 hvm.symm (hgood _ (List.mem_cons_of_mem _ List.mem_cons_self)) hini
  have hU' : vx_Zq Bundle.tN "UNASSIGNED_STACK" Bundle.steD A s' s'.heap := by rw [hhp]; exact vx_Zq.moved hW0.alike (hU.kept hS.2.1)
  have hN' : vx_Zq Bundle.tN "SUPPRESSED_SENTINEL" Bundle.listD A s' s'.heap := by rw [hhp]; exact vx_Zq.moved hW0.alike (hN.kept hS.2.1)
  have h : ∀ w ∈ Bundle.ownAtoms own ic cls names, w.before args s' = true := vx_own hat' (vx_isRefq hU'.1) (vx_isRefq hN'.1) hU'.2.word hN'.2.word
  have hown' : s'.vm.findClass own = some m.cls := by rw [hvm]; exact hown
  have hins : (Cond.instantiable cls 6).before args s' = true := h _ (by simp [Bundle.ownAtoms])
  obtain ⟨vm₁, cX, kX, hfX, hkX, -, -, X₁, st1⟩ := Y.newCold hexec (own := own) (C := cls) (index := ik) (n := 6) hown' hk' hins hini'
    (g := F0 m pc ls rest) rfl (by rw [hb]; exact d0) (Nat.le_refl _) (Nat.le_refl _)
  generalize hT1 : (T.setVm vm₁).pushCell { cls := cX, slots := kX.instanceTypes.map defaultValue, vm := .none } = T1 at X₁ st1
  have hcat : (Value.ref T.heap.size).category = 1 := rfl
  have hcellA : T1.heap[T.heap.size]? = some (freshCell cX kX) := by rw [← hT1]; exact State.heap_pushCell_size _ _
  have d3' : decode c.code (pc + 3) = .ok (.dup, 1) := by rw [hb]; exact d3
  have d4' : decode c.code (pc + 4) = .ok (.ldc_w is, 3) := by rw [hb]; exact d4
  have hstr' : vk_R own is text sa s' := vk_R.warm hW0 hstr
  obtain ⟨U, hsteps, hrun, hend, hW, hsame, ce, hce, hO⟩ := X₁.ctorThrowS hexec htr (own := own) (cls := cls) (names := names) (ic := ic) hown' hcls hnames h (fun x hx => nomatch hx) hfX hkX hcellA (by rw [hhp, hT]; exact Nat.le_refl _) (msg := .ref sa) rfl
    (g := { method := m, pc := pc + 7, locals := ls, stack := .ref sa :: .ref T.heap.size :: .ref T.heap.size :: rest, locked := none }) rfl hsize rfl rfl (rest := rest) rfl
    (by rw [hb]; exact d7) (by rw [hb]; exact d10) hout hRframes (by simp only [List.map_cons, List.sum_cons, hcat]; omega) hlocks
  obtain ⟨f1, f2⟩ := vx_frame hsame
  rw [hhp] at f1 f2
  have hWs : s.WarmedH U.vm := State.WarmedH.trans hW0 hW
  have hcl : s.vm.findClass cls = some ce.cls := by
    have h9 := hO.cls
    rw [hvm] at h9
    exact h9
  have hall : s.sameButNew ({ U with vm := s.vm } : State) locs mc ms := by
    subst hA
    obtain ⟨e1, e2⟩ := hsame
    rw [State.setFrames_setFrames] at e1
    have h2 : (T.setVm s.vm).sameButNew ({ U with vm := s.vm } : State) [] (0 + 1) (0 + 6) := ⟨e1, e2⟩
    have h3 := X.same.trans h2
    rw [List.append_nil] at h3
    exact h3.mono hc hs
  refine ⟨U, ?_, .threw T.heap.size, hrun, hend, Or.inr ⟨T.heap.size, rfl, cls, ce, locs, hx U hWs.alike f1 (fun q hq => f2 q hq (fun z hz => nomatch hz)), hce, hO.vm, hcl, hWs, hall, hf⟩⟩
  refine st1 _ ?_
  show Steps p.tables e below (T1.setTop { method := m, pc := pc + 3, locals := ls, stack := .ref T.heap.size :: rest, locked := none }) _
  jvm_step X₁.here [X₁.here.top, hexec, d3', Value.category]
  exact X₁.ldcStringW hexec (own := own) (text := text) (index := is) (a := sa) hown' hstr'.1 hstr'.2
    (g := { method := m, pc := pc + 4, locals := ls, stack := .ref T.heap.size :: .ref T.heap.size :: rest, locked := none }) rfl d4' _ hsteps
end Ends
section Bodies
variable {l : Launch}
theorem vx_ofW {y : MethodName} {ws ws' : List Cond} {rm : Room} {Pc : Array Value → State → Prop} {Qc : Array Value → State → Outcome → State → Prop} {XC : String → State → State → Prop} {mc ms : Nat} {free : Addr → Prop} {cc : ByteArray} {maxL : Nat} {ret : Option FieldType}
    (hy : plainName y.cls = true) (hw : ws = Cond.code y cc maxL ret :: ws')
    (body : ∀ p e s m args below meth c s₁, BodyLoose p l y (headSpec ws rm) cc maxL ret e s m args below meth c s₁ → c.maxLocals = maxL → (∀ x ∈ c.exceptionTable.toList, False) → Pc args s →
      W p l e (headSpec ws rm).room s m args below meth c s.heap [] 0 0 (vx_MQ below Qc XC args s mc ms free) (entryFrame m args maxL)) : vx_Met l y ws rm Pc Qc XC mc ms free := by
  refine MetFree.of_bodyS (code := cc) (maxLocals := maxL) (ret := ret) hy ?_ ?_
  · intro args s m h hn
    obtain ⟨meth, c, h1, h2, h3, h4, h5, h6, -, -⟩ := Cond.code_spec hn (atoms_spec (ws := ws) h _ (by rw [hw]; exact List.mem_cons_self))
    exact ⟨meth, c, h1, h2, h3, h4, h5, h6⟩
  · intro p e s m args below meth c s₁ B hml hP _
    have hh0 : s₁.heap = s.heap := by rw [B.state]; rfl
    have ht : ∀ x ∈ c.exceptionTable.toList, False := by
      obtain ⟨meth9, c9, h1, h2, -, -, -, -, h7, -⟩ := Cond.code_spec B.named (atoms_spec (ws := ws) B.pre _ (by rw [hw]; exact List.mem_cons_self))
      cases Option.some.inj (h1.symm.trans B.method)
      cases Option.some.inj (h2.symm.trans (Stand.of_body B).code)
      intro x hx
      rw [Array.isEmpty_iff.mp h7] at hx
      cases hx
    obtain ⟨t, a1, o, b1, b2, b3⟩ := body p e s m args below meth c s₁ B hml ht hP s₁ hh0 (Stand.of_body B)
    exact ⟨t, o, a1, b1, b2, b3⟩
/-- the table of a body with handlers -/
theorem vx_table {p : Program} {x y : MethodName} {S : Spec} {cc bytes : ByteArray} {maxL maxL' : Nat} {ret ret' : Option FieldType} {e : Env} {s s₁ : State} {m : MethodId} {args : Array Value} {below : List Frame} {meth : Method} {c : Code} {hh : List (Nat × Nat × Nat × Nat)}
    (B : BodyLoose p l y S cc maxL ret e s m args below meth c s₁) (h : (Cond.codeWith y bytes maxL' ret' hh).before args s = true) : c.exceptionTable.toList = tableOf hh := by
  obtain ⟨m9, meth9, c9, hn9, h1, h2, -, -, h6, -⟩ := Cond.codeWith_spec h
  cases Option.some.inj (hn9.symm.trans B.named)
  cases Option.some.inj (h1.symm.trans B.method)
  cases Option.some.inj (h2.symm.trans (Stand.of_body B).code)
  rw [← h6, table_eq]
end Bodies
end VXA
/-! ===== END ===== -/
/-! ===== BEGIN a static call of a method with an exception table ===== -/
section VXS
variable {p : Program} {l : Launch} {e : Env} {R : Room} {s : State} {m : MethodId} {args : Array Value} {below : List Frame} {meth : Method} {c : Code} {T : State} {H : Heap} {locs : List Loc} {cells slots : Nat}
abbrev vx_CSW (R : Room) (s : State) (args : Array Value) (own : String) (index : Nat) (y : MethodName) (bytes : ByteArray) (maxL : Nat) (ret : Option FieldType) (hh : List (Nat × Nat × Nat × Nat)) (ws : List Cond) (rm : Room) (mc ms n : Nat) : Prop :=
  (rm.cells = mc ∧ rm.slots = ms ∧ rm.frames + 1 ≤ R.frames ∧ 8 + (maxL + 11) + rm.locals ≤ R.locals ∧ (∀ w ∈ ws, ∀ (a' : Array Value) (U : State), s.WarmedH U.vm → w.before a' U = true) ∧ Cond.codeWith y bytes maxL ret hh ∈ ws) ∧
  (Cond.codeWith y bytes maxL ret hh).before args s = true ∧ (Cond.initialized y.cls).before args s = true ∧ (y.cls ≠ "java/lang/invoke/MethodHandle" ∧ y.cls ≠ "java/lang/invoke/VarHandle") ∧
  (∀ sig, parseMethodDescriptor y.desc = some sig → n = sig.parameters.length) ∧ (Cond.methodLink own index y).before args s = true ∧ (Cond.static y).before args s = true
theorem vx_cwSW {own : String} {index maxL mc ms : Nat} {y : MethodName} {bytes : ByteArray} {ret : Option FieldType} {hh : List (Nat × Nat × Nat × Nat)} {Ts ws ws' : List Cond} {rm : Room} (n : Nat) (ht : ∀ w ∈ Ts, w.before args s = true) (hT : GoodIn Ts (va_wsS own index y ws)) (hw : ws = Cond.codeWith y bytes maxL ret hh :: ws') (hrc : rm.cells = mc) (hrs : rm.slots = ms)
    (hd : y.cls ≠ "java/lang/invoke/MethodHandle" ∧ y.cls ≠ "java/lang/invoke/VarHandle" ∧ (parseMethodDescriptor y.desc).map (fun d => d.parameters.length) = some n) (hR : rm.frames + 1 ≤ R.frames ∧ 8 + (maxL + 11) + rm.locals ≤ R.locals) :
    vx_CSW R s args own index y bytes maxL ret hh ws rm mc ms n := by
  have ok : ∀ w ∈ va_wsS own index y ws, w.before args s = true := fun w h => ht w (hT w h).1
  have hG : GoodIn Ts ws := fun w h => hT w (by unfold va_wsS; exact List.mem_append_right _ h)
  have hc : Cond.codeWith y bytes maxL ret hh ∈ ws := by rw [hw]; exact List.mem_cons_self
  refine ⟨⟨hrc, hrs, hR.1, hR.2, pay_in ht hG, hc⟩, ht _ (hG _ hc).1, ok _ (by simp [va_wsS]), ⟨hd.1, hd.2.1⟩, fun sig h => ?_, ok _ (by simp [va_wsS]), ok _ (by simp [va_wsS])⟩
  have h2 := hd.2.2
  rw [h] at h2
  exact (Option.some.inj h2).symm
theorem vx_callSW (X : Stand p l e R s m args below meth c T locs cells slots) (hexec : p.tables.exec = Jvm.exec) {own : String} {index : Nat} {y : MethodName} {bytes : ByteArray} {maxL : Nat} {ret : Option FieldType} {hh : List (Nat × Nat × Nat × Nat)}
    (hown : s.vm.findClass own = some m.cls) (hlink : (Cond.methodLink own index y).before args s = true) (hstat : (Cond.static y).before args s = true) (hinit : (Cond.initialized y.cls).before args s = true)
    (hcode : (Cond.codeWith y bytes maxL ret hh).before args s = true) (hy : y.cls ≠ "java/lang/invoke/MethodHandle" ∧ y.cls ≠ "java/lang/invoke/VarHandle")
    {W9 : Nat} {Pre : Pt → Array Value → Prop} {Post : Pt → Array Value → Option Value → Pt → Prop} (hK : Back l R p e below s args y 3 W9 Pre Post)
    {g : JFrame} (hg : g.method = m) (hsize : g.locals.size = c.maxLocals) {argsL rest : List Value} (hlen : ∀ sig, parseMethodDescriptor y.desc = some sig → argsL.length = sig.parameters.length)
    (hstack : g.stack = argsL.reverse ++ rest) (hW : 2 * g.monitorRoom + (rest.map fun v => v.category).sum ≤ W9) (hdg : decode c.code g.pc = .ok (.invokestatic index, 3))
    (hpre : ∀ vm₁, s.WarmedH vm₁ → Pre ⟨T.setVm vm₁, locs, cells, slots⟩ argsL.toArray) :
    ∃ (v : Option Value) (vm₁ : Vm) (B : Pt), s.WarmedH vm₁ ∧ Stand p l e R s m args below meth c B.U B.locs B.cells B.slots ∧ Post ⟨T.setVm vm₁, locs, cells, slots⟩ argsL.toArray v B ∧
      ∀ target, Steps p.tables e below (B.U.setTop { g with pc := g.pc + 3, stack := v.toList ++ rest }) target → Steps p.tables e below (T.setTop g) target := by
  obtain ⟨mk, methM, cM, hnamed, hmethM, -, -, -, -, -, -, hsigM⟩ := Cond.codeWith_spec hcode
  have hstatic : methM.isStatic = true := Cond.static_spec hnamed hmethM hstat
  obtain ⟨kP, hkP, -⟩ := className_of_methodNamed hnamed
  have hinitP : kP.init = .initialized := Cond.initialized_spec (findClass_of_methodNamed hnamed) hkP hinit
  obtain ⟨vm₁, X₁, hstep₁⟩ := X.invokestatic hexec hown hlink hnamed hmethM hstatic hkP hinitP hy (g := g) hg (argsL := argsL) (rest := rest) (hlen _ hsigM) hstack hdg
  obtain ⟨v, B, X', hpost, hsteps⟩ := hK m meth c ⟨T.setVm vm₁, locs, cells, slots⟩ { g with stack := rest } (.invokestatic index) mk argsL.toArray X₁ hg hsize hdg hW (X₁.named hnamed) (hpre vm₁ X₁.warmed)
  exact ⟨v, vm₁, B, X₁.warmed, X', hpost, fun target h => hstep₁ _ fun acts => by rw [doInvoke_state]; exact hsteps.trans h⟩
theorem vx_runSW {y : MethodName} {bytes cc : ByteArray} {maxL nL mc ms n index : Nat} {ret : Option FieldType} {hh : List (Nat × Nat × Nat × Nat)} {ws : List Cond} {rm : Room} {Pc : Array Value → State → Prop} {Qc : Array Value → State → Outcome → State → Prop} {free : Addr → Prop} {Ts : List Cond} {own : String} {As rest : List Value} {g : JFrame}
    (S : CallFix p m c cc nL s args Ts own) (hM : Met l y ws rm Pc Qc mc ms free) (cw : vx_CSW R s args own index y bytes maxL ret hh ws rm mc ms n) (hp : PreS s H Pc As)
    (hg : g.method = m) (hn : As.length = n) (hsize : g.locals.size = nL) (hstack : g.stack = As.reverse ++ rest) (hW : 2 * g.monitorRoom + (rest.map fun v => v.category).sum ≤ 8) (hdg : decode cc g.pc = .ok (.invokestatic index, 3)) (hf : cells + mc ≤ R.cells ∧ slots + ms ≤ R.slots) :
    va_Run p l e R s m args below meth c H locs cells slots mc ms g rest (Qc As.toArray) (free) := by
  obtain ⟨⟨hrc, hrs, hfr, hlo, hws, hcw⟩, hcode, hini, hy, hlen, hl, hstt⟩ := cw
  have hK : Back l R p e below s args y 3 8 (PreOf R mc ms Pc) (PostOf Qc mc ms free) := va_backW (hh := hh) (bytes := bytes) (maxL := maxL) (ret := ret) hM hp.1 hrc hrs hfr hlo hws hcw (fun a' U hW => word_at hW (Or.inl (by first | rfl | simp [Cond.onTables, Cond.keeps, Cond.steady])) hini)
  obtain ⟨hx, hb, hml, ho, -⟩ := S
  intro T hT X
  obtain ⟨v, vm₁, ⟨U', l2, c2, s2⟩, hW₁, X', ⟨g', mk, t, L, e1, e2, hq, h1, hL, h2, h3⟩, st⟩ := vx_callSW X hx (hh := hh) (bytes := bytes) (maxL := maxL) (ret := ret) ho hl hstt hini hcode hy hK hg (hsize.trans hml.symm) (argsL := As) (rest := rest) (fun sig h => hn.trans (hlen sig h)) hstack hW (by rw [hb]; exact hdg)
    (fun vm₁ hW₁ => ⟨hf.1, hf.2, hp.2 (T.setVm vm₁) hT hW₁⟩)
  dsimp only [Pt.U, Pt.locs, Pt.cells, Pt.slots] at X' e1 e2 h1 h2 h3 st
  subst h1; subst h2; subst h3
  exact ⟨v, (T.setVm vm₁).calling g' mk As.toArray, t, U', L, hT, X', hL, e1, e2, hq, st⟩
/-- not caught here, past rows that name other classes: it goes on to the caller -/
theorem vx_outP {p : Program} {l : Launch} {e : Env} {R : Room} {s : State} {m : MethodId} {args : Array Value} {below : List Frame} {meth : Method} {c : Code} {H : Heap} {locs : List Loc} {cells slots : Nat} {free : Addr → Prop} {ls : Array Slot} {rest : List Value} {Qc : Array Value → State → Outcome → State → Prop} {XC : String → State → State → Prop}
    {pc : Nat} {own E : String} {ce : Cell} {q : Addr} {mc ms : Nat} (hown : s.vm.findClass own = some m.cls) (hlocks : meth.locks = false)
    (hpass : ∀ z ∈ c.exceptionTable.toList, covers z pc = false ∨ (z.catchType ≠ 0 ∧ ∃ nm : String, (Cond.classLink own z.catchType nm).before args s = true ∧ va_Nc E nm s)) (hcell : H[q]? = some ce) (hv : ce.vm = .none) (hcl : s.vm.findClass E = some ce.cls)
    (hx : ∀ t : State, t.heap = H → s.vm.Alike t.vm → XC E s t) (hf : ∀ z ∈ locs, free z.base) (hc : cells ≤ mc) (hs : slots ≤ ms) :
    vx_W p l e R s m args below meth c H locs cells slots (vx_MQ below Qc XC args s mc ms free) (F0 m pc ls rest) q := by
  intro T hT X
  have hpl : e.platform.magicAccessors = ({} : Platform).magicAccessors := by rw [X.admits.platform]
  obtain ⟨vm', hW', X', st⟩ := X.outThrough hlocks q (g := F0 m pc ls rest) rfl rfl rfl (cell := ce) (by rw [hT]; exact hcell) (by rw [hv]; rfl)
    (by obtain ⟨k9, h9, -⟩ := Vm.findClass_spec hcl; exact ⟨k9, h9⟩) (fun z hz => by
      rcases hpass z hz with h | ⟨hz0, nm, hl1, hn1⟩
      · exact Or.inl h
      · obtain ⟨c6, hc6, hcl6⟩ := Cond.classLink_spec hown hl1 e.platform hpl
        obtain ⟨a8, b8, h1, h2, h3⟩ := hn1
        cases Option.some.inj (h1.symm.trans hcl)
        cases Option.some.inj (h2.symm.trans hc6)
        exact Or.inr ⟨hz0, _, hcl6, h3⟩)
  obtain ⟨g₀, hfr⟩ := X'.frames_eq
  have hcell9 : ((T.setVm vm').setFrames (.throwing q :: below)).heap[q]? = some ce := by
    show T.heap[q]? = some ce
    rw [hT]; exact hcell
  have hend : Ended ((T.setVm vm').setFrames (.throwing q :: below)) below (.threw q) := State.frames_setFrames _ (State.cur_lt_of_frames hfr)
  refine ⟨(T.setVm vm').setFrames (.throwing q :: below), ?_, .threw q, X'.here.running, hend, Or.inr ⟨q, rfl, E, ce, locs, hx _ hT (X'.ends _).1.alike, hcell9, hv, hcl, (X'.ends _).1, (X'.ends _).2.mono hc hs, hf⟩⟩
  rw [X.pushThrowing_eq]
  exact st
/-- a thing of a world lies in the heap -/
theorem vx_lt {D : va_G} {cl : List vw_C} {ws : va_W} {H1 : Heap} (h : va_P D cl ws H1) {k : Nat} {q : Nat × va_E} (hk : ws[k]? = some q) : q.1 < H1.size := (h k q hk).lt
end VXS
/-! ===== END ===== -/
/-! ===== BEGIN methods with a table of their own: called by a name, returning or throwing ===== -/
section VXH
/-! vx_backW, vx_callVX, vx_callSX, vx_callVW, vx_runVW, vx_runVX, vx_runSX, vx_ofWH follow the same proofs as their sisters above (Free/Laws.lean, Shelf42/LK1.lean); vx_outP calls Shelf42/NT130.lean (outThrough). -/
section
variable {l : Launch} {R : Room} {p : Program} {e : Env} {below : List Frame} {s : State} {sargs : Array Value} {y : MethodName} {len W9 : Nat}
theorem vx_backW {ws : List Cond} {rm : Room} {Pc : Array Value → State → Prop} {Qc : Array Value → State → Outcome → State → Prop} {XC : String → State → State → Prop} {mc ms : Nat} {free : Addr → Prop} {bytes : ByteArray} {maxL : Nat} {ret : Option FieldType} {hh : List (Nat × Nat × Nat × Nat)}
    (hM : vx_Met l y ws rm Pc Qc XC mc ms free) (hblind : FrameBlind Pc) (hrc : rm.cells = mc) (hrs : rm.slots = ms)
    (hframes : rm.frames + 1 ≤ R.frames) (hlocals : W9 + (maxL + 11) + rm.locals ≤ R.locals)
    (hws : ∀ w ∈ ws, ∀ a' U, s.WarmedH U.vm → w.before a' U = true) (hcode : Cond.codeWith y bytes maxL ret hh ∈ ws) (hinit : ∀ a' U, s.WarmedH U.vm → (Cond.initialized y.cls).before a' U = true) :
    vx_Back l R p e below s sargs y len W9 (PreOf R mc ms Pc) (PostOf Qc mc ms free) (vx_Post XC mc ms free) := by
  intro m meth c A g ig mk a X hg hsize hdg hW hn hp
  have h1 : (headSpec ws rm).pre.before a A.U = true := atoms_intro fun w hw => hws w hw _ _ X.warmed
  have h2 : (Cond.codeWith y bytes maxL ret hh).before a A.U = true := hws _ hcode _ _ X.warmed
  have h3 : (Cond.initialized y.cls).before a A.U = true := hinit _ _ X.warmed
  have h4 : A.cells + (headSpec ws rm).room.cells ≤ R.cells := by rw [show (headSpec ws rm).room.cells = mc from hrc]; exact hp.1
  have h5 : A.slots + (headSpec ws rm).room.slots ≤ R.slots := by rw [show (headSpec ws rm).room.slots = ms from hrs]; exact hp.2.1
  have hPc : Pc a (A.U.calling g mk a) := hblind _ _ _ _ hp.2.2
  obtain ⟨U, Ls, c0, s0⟩ := A
  dsimp only [Pt.U, Pt.locs, Pt.cells, Pt.slots] at h1 h2 h3 h4 h5 X hn hPc ⊢
  obtain ⟨m9, methY, cY, hn9, hmY, hcY, -, hlY, -⟩ := Cond.codeWith_spec h2
  cases Option.some.inj (hn9.symm.trans hn)
  obtain ⟨kY, hkY, -⟩ := className_of_methodNamed hn
  have hinitY : kY.init = .initialized := Cond.initialized_spec (findClass_of_methodNamed hn) hkY h3
  have h : At U g.method c below := by rw [hg]; exact X.here
  have hlocals9 : W9 + (maxL + 11) + (headSpec ws rm).room.locals ≤ R.locals := hlocals
  have happ : (headSpec ws rm).appliesLoose y e.platform (U.calling g mk a) = true :=
    Spec.appliesLoose_calling (g := g) h hdg hn hkY hinitY
      (X.room_calling (g := g) (R' := (headSpec ws rm).room) hsize hmY hcY hframes (by rw [hlY]; omega) h4 h5) h1
  obtain ⟨mid, hmid⟩ := h.above
  have hfr : (U.setTop g).frames = (.java g :: mid) ++ below := by rw [State.frames_setTop' g h.top, hmid]; rfl
  obtain ⟨o, s₂, hsteps, -, hend, hq⟩ := Steps.callFree hM p X.admits X.cas X.clock (acts := []) hfr happ hPc trivial
  have hq' : vx_Q Qc XC mc ms free a (U.calling g mk a) o s₂ := hq
  rw [State.frames_setTop' g h.top] at hend
  obtain ⟨g₀, hg0⟩ := Option.isSome_iff_exists.mp h.top
  obtain ⟨r, hr⟩ := State.topJava?_eq_some.mp hg0
  have hr' : (({ U with heap := s₂.heap, slotsUsed := s₂.slotsUsed } : State).setVm s₂.vm).frames = .java g₀ :: r := hr
  rcases hq' with ⟨hqc, L, hfe, hL⟩ | ⟨q, rfl, E, ce, L, hx, hce, hcv, hcl, hW₂, hsm, hL⟩
  · obtain ⟨⟨v, rfl⟩, hW₂, e2, q2, q3, q4, q5, q6⟩ := id hfe
    have e3 : s₂ = ({ (U.calling g mk a).setFrames s₂.frames with heap := s₂.heap, slotsUsed := s₂.slotsUsed } : State).setVm s₂.vm := by
      have : s₂ = ({ s₂ with vm := (U.calling g mk a).vm } : State).setVm s₂.vm := rfl
      rw [e2] at this
      exact this
    obtain ⟨c₂, i₂, len₂, hc₂, hd₂, hf₂⟩ := hend
    have hW' : U.WarmedH s₂.vm := hW₂
    have hcc : c₂ = c := by
      have h1 : s₂.code? g.method = U.code? g.method := by
        rw [State.code?_eq, State.code?_eq, hW'.alike.method?]
      exact Option.some.inj (hc₂.symm.trans (h1.trans h.code))
    subst hcc
    have hlen : len₂ = len := by rw [hdg] at hd₂; cases hd₂; rfl
    subst hlen
    have hs₂ : s₂ = (({ U with heap := s₂.heap, slotsUsed := s₂.slotsUsed } : State).setVm s₂.vm).setTop { g with pc := g.pc + len₂, stack := v.toList ++ g.stack } := by
      refine e3.trans ?_
      rw [hf₂, State.calling_eq h.top, State.setFrames_setFrames, State.setTop_of_frames _ hr', hr]
      rfl
    have hsame : U.sameButNew ({ U with heap := s₂.heap, slotsUsed := s₂.slotsUsed } : State) L mc ms := by
      refine ⟨?_, q2, q3, q4, q5, q6⟩
      obtain ⟨t, ht, -⟩ := State.frames_cons hr
      show ({ U with heap := s₂.heap, slotsUsed := s₂.slotsUsed } : State) = { U.setFrames U.frames with heap := s₂.heap, slotsUsed := s₂.slotsUsed }
      rw [State.setFrames_self ht]
    subst hg
    refine Or.inl ⟨v, ⟨(({ U with heap := s₂.heap, slotsUsed := s₂.slotsUsed } : State).setVm s₂.vm), Ls ++ L, c0 + mc, s0 + ms⟩,
      ⟨X.admits, X.cas, X.clock, X.frames, X.room, X.hears, X.method, X.code, (X.here.setHeapUsed s₂.heap s₂.slotsUsed).setVm hW'.alike, X.tail, State.WarmedH.trans X.warmed hW', X.limits, X.bytes, X.same.trans (hsame.setVm s.vm)⟩,
      ⟨g, mk, s₂, L, rfl, rfl, hqc, rfl, hL, rfl, rfl⟩, ?_⟩
    show Steps p.tables e below _ ((({ U with heap := s₂.heap, slotsUsed := s₂.slotsUsed } : State).setVm s₂.vm).setTop { g with pc := g.pc + len₂, stack := v.toList ++ g.stack })
    rw [← hs₂]
    exact hsteps
  · obtain ⟨e2, q2, q3, q4, q5, q6⟩ := id hsm
    have e3 : s₂ = ({ (U.calling g mk a).setFrames s₂.frames with heap := s₂.heap, slotsUsed := s₂.slotsUsed } : State).setVm s₂.vm := by
      have : s₂ = ({ s₂ with vm := (U.calling g mk a).vm } : State).setVm s₂.vm := rfl
      rw [e2] at this
      exact this
    have hf₂ : s₂.frames = .throwing q :: .java g :: U.frames.tail := hend
    have hW' : U.WarmedH s₂.vm := hW₂
    have hs₂ : s₂ = ((({ U with heap := s₂.heap, slotsUsed := s₂.slotsUsed } : State).setVm s₂.vm).setTop g).pushFrame (.throwing q) := by
      refine e3.trans ?_
      rw [hf₂, State.calling_eq h.top, State.setFrames_setFrames, State.pushFrame, State.frames_setTop _ hr', State.setTop_of_frames _ hr', State.setFrames_setFrames, hr]
      rfl
    have hsame : U.sameButNew ({ U with heap := s₂.heap, slotsUsed := s₂.slotsUsed } : State) L mc ms := by
      refine ⟨?_, q2, q3, q4, q5, q6⟩
      obtain ⟨t, ht, -⟩ := State.frames_cons hr
      show ({ U with heap := s₂.heap, slotsUsed := s₂.slotsUsed } : State) = { U.setFrames U.frames with heap := s₂.heap, slotsUsed := s₂.slotsUsed }
      rw [State.setFrames_self ht]
    subst hg
    refine Or.inr ⟨q, ⟨(({ U with heap := s₂.heap, slotsUsed := s₂.slotsUsed } : State).setVm s₂.vm), Ls ++ L, c0 + mc, s0 + ms⟩,
      ⟨X.admits, X.cas, X.clock, X.frames, X.room, X.hears, X.method, X.code, (X.here.setHeapUsed s₂.heap s₂.slotsUsed).setVm hW'.alike, X.tail, State.WarmedH.trans X.warmed hW', X.limits, X.bytes, X.same.trans (hsame.setVm s.vm)⟩,
      ⟨g, mk, s₂, L, E, ce, rfl, rfl, hx, hce, hcv, hcl, rfl, hL, rfl, rfl⟩, ?_⟩
    show Steps p.tables e below _ (((({ U with heap := s₂.heap, slotsUsed := s₂.slotsUsed } : State).setVm s₂.vm).setTop g).pushFrame (.throwing q))
    rw [← hs₂]
    exact hsteps
end
variable {p : Program} {l : Launch} {e : Env} {R : Room} {s : State} {m : MethodId} {args : Array Value} {below : List Frame} {meth : Method} {c : Code} {T : State} {H : Heap} {locs : List Loc} {cells slots : Nat}
theorem vx_callVX (X : Stand p l e R s m args below meth c T locs cells slots) (hexec : p.tables.exec = Jvm.exec) {own C : String} {index : Nat} {y : MethodName} {bytes : ByteArray} {maxL : Nat} {ret : Option FieldType} {hh : List (Nat × Nat × Nat × Nat)}
    (hown : s.vm.findClass own = some m.cls) (hlink : (Cond.methodLink own index y).before args s = true) (hinst : (Cond.instanceMethod y).before args s = true) (hsel : (Cond.selects C y y).before args s = true)
    (hcode : (Cond.codeWith y bytes maxL ret hh).before args s = true) (hy : y.cls ≠ "java/lang/invoke/MethodHandle" ∧ y.cls ≠ "java/lang/invoke/VarHandle")
    {W9 : Nat} {Pre : Pt → Array Value → Prop} {Post : Pt → Array Value → Option Value → Pt → Prop} {PostX : Pt → Array Value → Addr → Pt → Prop} (hK : vx_Back l R p e below s args y 3 W9 Pre Post PostX)
    {b : Addr} {cellB : Cell} (hcell : T.heap[b]? = some cellB) (hobj : cellB.vm.isStatics = false) (hcls : s.vm.findClass C = some cellB.cls)
    {g : JFrame} (hg : g.method = m) (hsize : g.locals.size = c.maxLocals) {argsL rest : List Value} (hlen : ∀ sig, parseMethodDescriptor y.desc = some sig → argsL.length = sig.parameters.length)
    (hstack : g.stack = argsL.reverse ++ .ref b :: rest) (hW : 2 * g.monitorRoom + (rest.map fun v => v.category).sum ≤ W9) (hdg : decode c.code g.pc = .ok (.invokevirtual index, 3))
    (hpre : ∀ vm₁, s.WarmedH vm₁ → Pre ⟨T.setVm vm₁, locs, cells, slots⟩ (Value.ref b :: argsL).toArray) :
    (∃ (v : Option Value) (vm₁ : Vm) (B : Pt), s.WarmedH vm₁ ∧ Stand p l e R s m args below meth c B.U B.locs B.cells B.slots ∧ Post ⟨T.setVm vm₁, locs, cells, slots⟩ (Value.ref b :: argsL).toArray v B ∧
      ∀ target, Steps p.tables e below (B.U.setTop { g with pc := g.pc + 3, stack := v.toList ++ rest }) target → Steps p.tables e below (T.setTop g) target) ∨
    (∃ (q : Addr) (vm₁ : Vm) (B : Pt), s.WarmedH vm₁ ∧ Stand p l e R s m args below meth c B.U B.locs B.cells B.slots ∧ PostX ⟨T.setVm vm₁, locs, cells, slots⟩ (Value.ref b :: argsL).toArray q B ∧
      Steps p.tables e below (T.setTop g) ((B.U.setTop { g with stack := rest }).pushFrame (.throwing q))) := by
  obtain ⟨mk, methM, hnamed, hmethM, hstM, habM⟩ := Cond.instanceMethod_spec hinst
  obtain ⟨m8, methM', cM, hn8, hmethM', -, -, -, -, -, -, hsigM⟩ := Cond.codeWith_spec hcode
  cases Option.some.inj (hn8.symm.trans hnamed)
  cases hmethM.symm.trans hmethM'
  obtain ⟨c2, r2, m2, q1, q2, q3, q4, kP, hkP, hkPi⟩ := Cond.selects_spec hsel
  cases hcls.symm.trans q1
  cases (State.methodFound?_of_named hnamed hy).symm.trans q2
  cases hnamed.symm.trans q3
  have hselP : selectMethod e.platform s.vm cellB.cls mk = .method mk := by rw [Launch.admits_selectMethod X.admits]; exact q4
  obtain ⟨vm₁, X₁, hstep₁⟩ := X.invokevirtual hexec hown hlink hnamed hmethM hstM hkP hkPi hy (a := b) (cell := cellB) hcell
    (fun z h => by rw [h] at hobj; cases hobj) hselP hmethM habM hkP hkPi (g := g) hg (argsL := argsL) (rest := rest) (hlen _ hsigM) hstack hdg
  rcases hK m meth c ⟨T.setVm vm₁, locs, cells, slots⟩ { g with stack := rest } (.invokevirtual index) mk (Value.ref b :: argsL).toArray X₁ hg hsize hdg hW (X₁.named hnamed) (hpre vm₁ X₁.warmed) with ⟨v, B, X', hpost, hsteps⟩ | ⟨q, B, X', hpost, hsteps⟩
  · exact Or.inl ⟨v, vm₁, B, X₁.warmed, X', hpost, fun target h => hstep₁ _ fun acts => by rw [doInvoke_state]; exact hsteps.trans h⟩
  · exact Or.inr ⟨q, vm₁, B, X₁.warmed, X', hpost, hstep₁ _ fun acts => by rw [doInvoke_state]; exact hsteps⟩
theorem vx_callSX (X : Stand p l e R s m args below meth c T locs cells slots) (hexec : p.tables.exec = Jvm.exec) {own : String} {index : Nat} {y : MethodName} {bytes : ByteArray} {maxL : Nat} {ret : Option FieldType} {hh : List (Nat × Nat × Nat × Nat)}
    (hown : s.vm.findClass own = some m.cls) (hlink : (Cond.methodLink own index y).before args s = true) (hstat : (Cond.static y).before args s = true) (hinit : (Cond.initialized y.cls).before args s = true)
    (hcode : (Cond.codeWith y bytes maxL ret hh).before args s = true) (hy : y.cls ≠ "java/lang/invoke/MethodHandle" ∧ y.cls ≠ "java/lang/invoke/VarHandle")
    {W9 : Nat} {Pre : Pt → Array Value → Prop} {Post : Pt → Array Value → Option Value → Pt → Prop} {PostX : Pt → Array Value → Addr → Pt → Prop} (hK : vx_Back l R p e below s args y 3 W9 Pre Post PostX)
    {g : JFrame} (hg : g.method = m) (hsize : g.locals.size = c.maxLocals) {argsL rest : List Value} (hlen : ∀ sig, parseMethodDescriptor y.desc = some sig → argsL.length = sig.parameters.length)
    (hstack : g.stack = argsL.reverse ++ rest) (hW : 2 * g.monitorRoom + (rest.map fun v => v.category).sum ≤ W9) (hdg : decode c.code g.pc = .ok (.invokestatic index, 3))
    (hpre : ∀ vm₁, s.WarmedH vm₁ → Pre ⟨T.setVm vm₁, locs, cells, slots⟩ argsL.toArray) :
    (∃ (v : Option Value) (vm₁ : Vm) (B : Pt), s.WarmedH vm₁ ∧ Stand p l e R s m args below meth c B.U B.locs B.cells B.slots ∧ Post ⟨T.setVm vm₁, locs, cells, slots⟩ argsL.toArray v B ∧
      ∀ target, Steps p.tables e below (B.U.setTop { g with pc := g.pc + 3, stack := v.toList ++ rest }) target → Steps p.tables e below (T.setTop g) target) ∨
    (∃ (q : Addr) (vm₁ : Vm) (B : Pt), s.WarmedH vm₁ ∧ Stand p l e R s m args below meth c B.U B.locs B.cells B.slots ∧ PostX ⟨T.setVm vm₁, locs, cells, slots⟩ argsL.toArray q B ∧
      Steps p.tables e below (T.setTop g) ((B.U.setTop { g with stack := rest }).pushFrame (.throwing q))) := by
  obtain ⟨mk, methM, cM, hnamed, hmethM, -, -, -, -, -, -, hsigM⟩ := Cond.codeWith_spec hcode
  have hstatic : methM.isStatic = true := Cond.static_spec hnamed hmethM hstat
  obtain ⟨kP, hkP, -⟩ := className_of_methodNamed hnamed
  have hinitP : kP.init = .initialized := Cond.initialized_spec (findClass_of_methodNamed hnamed) hkP hinit
  obtain ⟨vm₁, X₁, hstep₁⟩ := X.invokestatic hexec hown hlink hnamed hmethM hstatic hkP hinitP hy (g := g) hg (argsL := argsL) (rest := rest) (hlen _ hsigM) hstack hdg
  rcases hK m meth c ⟨T.setVm vm₁, locs, cells, slots⟩ { g with stack := rest } (.invokestatic index) mk argsL.toArray X₁ hg hsize hdg hW (X₁.named hnamed) (hpre vm₁ X₁.warmed) with ⟨v, B, X', hpost, hsteps⟩ | ⟨q, B, X', hpost, hsteps⟩
  · exact Or.inl ⟨v, vm₁, B, X₁.warmed, X', hpost, fun target h => hstep₁ _ fun acts => by rw [doInvoke_state]; exact hsteps.trans h⟩
  · exact Or.inr ⟨q, vm₁, B, X₁.warmed, X', hpost, hstep₁ _ fun acts => by rw [doInvoke_state]; exact hsteps⟩
theorem vx_callVW (X : Stand p l e R s m args below meth c T locs cells slots) (hexec : p.tables.exec = Jvm.exec) {own C : String} {index : Nat} {y : MethodName} {bytes : ByteArray} {maxL : Nat} {ret : Option FieldType} {hh : List (Nat × Nat × Nat × Nat)}
    (hown : s.vm.findClass own = some m.cls) (hlink : (Cond.methodLink own index y).before args s = true) (hinst : (Cond.instanceMethod y).before args s = true) (hsel : (Cond.selects C y y).before args s = true)
    (hcode : (Cond.codeWith y bytes maxL ret hh).before args s = true) (hy : y.cls ≠ "java/lang/invoke/MethodHandle" ∧ y.cls ≠ "java/lang/invoke/VarHandle")
    {W9 : Nat} {Pre : Pt → Array Value → Prop} {Post : Pt → Array Value → Option Value → Pt → Prop} (hK : Back l R p e below s args y 3 W9 Pre Post)
    {b : Addr} {cellB : Cell} (hcell : T.heap[b]? = some cellB) (hobj : cellB.vm.isStatics = false) (hcls : s.vm.findClass C = some cellB.cls)
    {g : JFrame} (hg : g.method = m) (hsize : g.locals.size = c.maxLocals) {argsL rest : List Value} (hlen : ∀ sig, parseMethodDescriptor y.desc = some sig → argsL.length = sig.parameters.length)
    (hstack : g.stack = argsL.reverse ++ .ref b :: rest) (hW : 2 * g.monitorRoom + (rest.map fun v => v.category).sum ≤ W9) (hdg : decode c.code g.pc = .ok (.invokevirtual index, 3))
    (hpre : ∀ vm₁, s.WarmedH vm₁ → Pre ⟨T.setVm vm₁, locs, cells, slots⟩ (Value.ref b :: argsL).toArray) :
    ∃ (v : Option Value) (vm₁ : Vm) (B : Pt), s.WarmedH vm₁ ∧ Stand p l e R s m args below meth c B.U B.locs B.cells B.slots ∧ Post ⟨T.setVm vm₁, locs, cells, slots⟩ (Value.ref b :: argsL).toArray v B ∧
      ∀ target, Steps p.tables e below (B.U.setTop { g with pc := g.pc + 3, stack := v.toList ++ rest }) target → Steps p.tables e below (T.setTop g) target := by
  obtain ⟨mk, methM, hnamed, hmethM, hstM, habM⟩ := Cond.instanceMethod_spec hinst
  obtain ⟨m8, methM', cM, hn8, hmethM', -, -, -, -, -, -, hsigM⟩ := Cond.codeWith_spec hcode
  cases Option.some.inj (hn8.symm.trans hnamed)
  cases hmethM.symm.trans hmethM'
  obtain ⟨c2, r2, m2, q1, q2, q3, q4, kP, hkP, hkPi⟩ := Cond.selects_spec hsel
  cases hcls.symm.trans q1
  cases (State.methodFound?_of_named hnamed hy).symm.trans q2
  cases hnamed.symm.trans q3
  have hselP : selectMethod e.platform s.vm cellB.cls mk = .method mk := by rw [Launch.admits_selectMethod X.admits]; exact q4
  obtain ⟨vm₁, X₁, hstep₁⟩ := X.invokevirtual hexec hown hlink hnamed hmethM hstM hkP hkPi hy (a := b) (cell := cellB) hcell
    (fun z h => by rw [h] at hobj; cases hobj) hselP hmethM habM hkP hkPi (g := g) hg (argsL := argsL) (rest := rest) (hlen _ hsigM) hstack hdg
  obtain ⟨v, B, X', hpost, hsteps⟩ := hK m meth c ⟨T.setVm vm₁, locs, cells, slots⟩ { g with stack := rest } (.invokevirtual index) mk (Value.ref b :: argsL).toArray X₁ hg hsize hdg hW (X₁.named hnamed) (hpre vm₁ X₁.warmed)
  exact ⟨v, vm₁, B, X₁.warmed, X', hpost, fun target h => hstep₁ _ fun acts => by rw [doInvoke_state]; exact hsteps.trans h⟩
abbrev vx_CVW (R : Room) (s : State) (args : Array Value) (own C : String) (index : Nat) (y : MethodName) (bytes : ByteArray) (maxL : Nat) (ret : Option FieldType) (hh : List (Nat × Nat × Nat × Nat)) (ws : List Cond) (rm : Room) (mc ms n : Nat) : Prop :=
  (rm.cells = mc ∧ rm.slots = ms ∧ rm.frames + 1 ≤ R.frames ∧ 8 + (maxL + 11) + rm.locals ≤ R.locals ∧ (∀ w ∈ ws, ∀ (a' : Array Value) (U : State), s.WarmedH U.vm → w.before a' U = true) ∧ Cond.codeWith y bytes maxL ret hh ∈ ws) ∧
  (Cond.codeWith y bytes maxL ret hh).before args s = true ∧ (Cond.initialized y.cls).before args s = true ∧ (y.cls ≠ "java/lang/invoke/MethodHandle" ∧ y.cls ≠ "java/lang/invoke/VarHandle") ∧
  (∀ sig, parseMethodDescriptor y.desc = some sig → n = sig.parameters.length) ∧ (Cond.methodLink own index y).before args s = true ∧ (Cond.instanceMethod y).before args s = true ∧ (Cond.selects C y y).before args s = true
theorem vx_cwVW {own C : String} {index maxL mc ms : Nat} {y : MethodName} {bytes : ByteArray} {ret : Option FieldType} {hh : List (Nat × Nat × Nat × Nat)} {Ts ws ws' : List Cond} {rm : Room} (n : Nat) (ht : ∀ w ∈ Ts, w.before args s = true) (hT : GoodIn Ts (wsV own index C y ws)) (hw : ws = Cond.codeWith y bytes maxL ret hh :: ws') (hrc : rm.cells = mc) (hrs : rm.slots = ms)
    (hd : y.cls = C ∧ y.cls ≠ "java/lang/invoke/MethodHandle" ∧ y.cls ≠ "java/lang/invoke/VarHandle" ∧ (parseMethodDescriptor y.desc).map (fun d => d.parameters.length) = some n) (hR : rm.frames + 1 ≤ R.frames ∧ 8 + (maxL + 11) + rm.locals ≤ R.locals) :
    vx_CVW R s args own C index y bytes maxL ret hh ws rm mc ms n := by
  obtain ⟨hC, hd⟩ := hd
  subst hC
  have ok : ∀ w ∈ wsV own index y.cls y ws, w.before args s = true := fun w h => ht w (hT w h).1
  have hG : GoodIn Ts ws := fun w h => hT w (by unfold wsV; exact List.mem_append_right _ h)
  have hc : Cond.codeWith y bytes maxL ret hh ∈ ws := by rw [hw]; exact List.mem_cons_self
  refine ⟨⟨hrc, hrs, hR.1, hR.2, pay_in ht hG, hc⟩, ht _ (hG _ hc).1, ok _ (by simp [wsV]), ⟨hd.1, hd.2.1⟩, fun sig h => ?_, ok _ (by simp [wsV]), ok _ (by simp [wsV]), ok _ (by simp [wsV])⟩
  have h2 := hd.2.2
  rw [h] at h2
  exact (Option.some.inj h2).symm
theorem vx_runVW {y : MethodName} {bytes cc : ByteArray} {maxL nL mc ms n index : Nat} {ret : Option FieldType} {hh : List (Nat × Nat × Nat × Nat)} {ws : List Cond} {rm : Room} {Pc : Array Value → State → Prop} {Qc : Array Value → State → Outcome → State → Prop} {free : Addr → Prop} {Ts : List Cond} {own C : String} {b : Addr} {As rest : List Value} {g : JFrame}
    (S : CallFix p m c cc nL s args Ts own) (hM : Met l y ws rm Pc Qc mc ms free) (cw : vx_CVW R s args own C index y bytes maxL ret hh ws rm mc ms n) (hp : PreV s H C b Pc As)
    (hg : g.method = m) (hn : As.length = n) (hsize : g.locals.size = nL) (hstack : g.stack = As.reverse ++ .ref b :: rest) (hW : 2 * g.monitorRoom + (rest.map fun v => v.category).sum ≤ 8) (hdg : decode cc g.pc = .ok (.invokevirtual index, 3)) (hf : cells + mc ≤ R.cells ∧ slots + ms ≤ R.slots) :
    va_Run p l e R s m args below meth c H locs cells slots mc ms g rest (Qc (Value.ref b :: As).toArray) free := by
  obtain ⟨⟨hrc, hrs, hfr, hlo, hws, hcw⟩, hcode, hini, hy, hlen, hl, hin, hse⟩ := cw
  have hK : Back l R p e below s args y 3 8 (PreOf R mc ms Pc) (PostOf Qc mc ms free) := va_backW (hh := hh) (bytes := bytes) (maxL := maxL) (ret := ret) hM hp.1 hrc hrs hfr hlo hws hcw (fun a' U hW => word_at hW (Or.inl (by first | rfl | simp [Cond.onTables, Cond.keeps, Cond.steady])) hini)
  obtain ⟨hx, hb, hml, ho, -⟩ := S
  obtain ⟨-, ⟨cellB, hcB, hoB, hclB⟩, hPc⟩ := hp
  intro T hT X
  obtain ⟨v, vm₁, ⟨U', l2, c2, s2⟩, hW₁, X', ⟨g', mk, t, L, e1, e2, hq, h1, hL, h2, h3⟩, st⟩ := vx_callVW X hx (C := C) (hh := hh) (bytes := bytes) (maxL := maxL) (ret := ret) ho hl hin hse hcode hy hK (by rw [hT]; exact hcB) hoB hclB hg (hsize.trans hml.symm) (argsL := As) (rest := rest) (fun sig h => hn.trans (hlen sig h)) hstack hW (by rw [hb]; exact hdg)
    (fun vm₁ hW₁ => ⟨hf.1, hf.2, hPc (T.setVm vm₁) hT hW₁⟩)
  dsimp only [Pt.U, Pt.locs, Pt.cells, Pt.slots] at X' e1 e2 h1 h2 h3 st
  subst h1; subst h2; subst h3
  exact ⟨v, (T.setVm vm₁).calling g' mk (Value.ref b :: As).toArray, t, U', L, hT, X', hL, e1, e2, hq, st⟩
section
variable {y : MethodName} {bytes cc : ByteArray} {maxL nL mc ms n index : Nat} {ret : Option FieldType} {ws : List Cond} {rm : Room} {Pc : Array Value → State → Prop} {Qc : Array Value → State → Outcome → State → Prop} {XC : String → State → State → Prop} {free : Addr → Prop} {Ts : List Cond} {own C : String} {b : Addr} {As rest : List Value} {g : JFrame}
theorem vx_runVX {hh : List (Nat × Nat × Nat × Nat)} (S : CallFix p m c cc nL s args Ts own) (hM : vx_Met l y ws rm Pc Qc XC mc ms free) (cw : vx_CVW R s args own C index y bytes maxL ret hh ws rm mc ms n) (hp : PreV s H C b Pc As)
    (hg : g.method = m) (hn : As.length = n) (hsize : g.locals.size = nL) (hstack : g.stack = As.reverse ++ .ref b :: rest) (hW : 2 * g.monitorRoom + (rest.map fun v => v.category).sum ≤ 8) (hdg : decode cc g.pc = .ok (.invokevirtual index, 3)) (hf : cells + mc ≤ R.cells ∧ slots + ms ≤ R.slots) :
    vx_Run p l e R s m args below meth c H locs cells slots mc ms g rest (Qc (Value.ref b :: As).toArray) XC free := by
  obtain ⟨⟨hrc, hrs, hfr, hlo, hws, hcw⟩, hcode, hini, hy, hlen, hl, hin, hse⟩ := cw
  have hK : vx_Back l R p e below s args y 3 8 (PreOf R mc ms Pc) (PostOf Qc mc ms free) (vx_Post XC mc ms free) := vx_backW (hh := hh) (bytes := bytes) (maxL := maxL) (ret := ret) hM hp.1 hrc hrs hfr hlo hws hcw (fun a' U hW => word_at hW (Or.inl (by first | rfl | simp [Cond.onTables, Cond.keeps, Cond.steady])) hini)
  obtain ⟨hx, hb, hml, ho, -⟩ := S
  obtain ⟨-, ⟨cellB, hcB, hoB, hclB⟩, hPc⟩ := hp
  intro T hT X
  rcases vx_callVX X hx (C := C) (hh := hh) (bytes := bytes) (maxL := maxL) (ret := ret) ho hl hin hse hcode hy hK (by rw [hT]; exact hcB) hoB hclB hg (hsize.trans hml.symm) (argsL := As) (rest := rest) (fun sig h => hn.trans (hlen sig h)) hstack hW (by rw [hb]; exact hdg)
    (fun vm₁ hW₁ => ⟨hf.1, hf.2, hPc (T.setVm vm₁) hT hW₁⟩) with ⟨v, vm₁, ⟨U', l2, c2, s2⟩, hW₁, X', ⟨g', mk, t, L, e1, e2, hq, h1, hL, h2, h3⟩, st⟩ | ⟨q, vm₁, ⟨U', l2, c2, s2⟩, hW₁, X', ⟨g', mk, t, L, E, ce, e1, e2, hq, hce, hcv, hcl, h1, hL, h2, h3⟩, st⟩
  · dsimp only [Pt.U, Pt.locs, Pt.cells, Pt.slots] at X' e1 e2 h1 h2 h3 st
    subst h1; subst h2; subst h3
    exact Or.inl ⟨v, (T.setVm vm₁).calling g' mk (Value.ref b :: As).toArray, t, U', L, hT, X', hL, e1, e2, hq, st⟩
  · dsimp only [Pt.U, Pt.locs, Pt.cells, Pt.slots] at X' e1 e2 h1 h2 h3 st hcl
    subst h1; subst h2; subst h3
    exact Or.inr ⟨q, (T.setVm vm₁).calling g' mk (Value.ref b :: As).toArray, t, U', L, E, ce, hT, X', hL, e1, e2, hq, hce, hcv, vx_cls hW₁ hcl, st⟩
theorem vx_runSX {hh : List (Nat × Nat × Nat × Nat)} (S : CallFix p m c cc nL s args Ts own) (hM : vx_Met l y ws rm Pc Qc XC mc ms free) (cw : vx_CSW R s args own index y bytes maxL ret hh ws rm mc ms n) (hp : PreS s H Pc As)
    (hg : g.method = m) (hn : As.length = n) (hsize : g.locals.size = nL) (hstack : g.stack = As.reverse ++ rest) (hW : 2 * g.monitorRoom + (rest.map fun v => v.category).sum ≤ 8) (hdg : decode cc g.pc = .ok (.invokestatic index, 3)) (hf : cells + mc ≤ R.cells ∧ slots + ms ≤ R.slots) :
    vx_Run p l e R s m args below meth c H locs cells slots mc ms g rest (Qc As.toArray) XC free := by
  obtain ⟨⟨hrc, hrs, hfr, hlo, hws, hcw⟩, hcode, hini, hy, hlen, hl, hstt⟩ := cw
  have hK : vx_Back l R p e below s args y 3 8 (PreOf R mc ms Pc) (PostOf Qc mc ms free) (vx_Post XC mc ms free) := vx_backW (hh := hh) (bytes := bytes) (maxL := maxL) (ret := ret) hM hp.1 hrc hrs hfr hlo hws hcw (fun a' U hW => word_at hW (Or.inl (by first | rfl | simp [Cond.onTables, Cond.keeps, Cond.steady])) hini)
  obtain ⟨hx, hb, hml, ho, -⟩ := S
  intro T hT X
  rcases vx_callSX X hx (hh := hh) (bytes := bytes) (maxL := maxL) (ret := ret) ho hl hstt hini hcode hy hK hg (hsize.trans hml.symm) (argsL := As) (rest := rest) (fun sig h => hn.trans (hlen sig h)) hstack hW (by rw [hb]; exact hdg)
    (fun vm₁ hW₁ => ⟨hf.1, hf.2, hp.2 (T.setVm vm₁) hT hW₁⟩) with ⟨v, vm₁, ⟨U', l2, c2, s2⟩, hW₁, X', ⟨g', mk, t, L, e1, e2, hq, h1, hL, h2, h3⟩, st⟩ | ⟨q, vm₁, ⟨U', l2, c2, s2⟩, hW₁, X', ⟨g', mk, t, L, E, ce, e1, e2, hq, hce, hcv, hcl, h1, hL, h2, h3⟩, st⟩
  · dsimp only [Pt.U, Pt.locs, Pt.cells, Pt.slots] at X' e1 e2 h1 h2 h3 st
    subst h1; subst h2; subst h3
    exact Or.inl ⟨v, (T.setVm vm₁).calling g' mk As.toArray, t, U', L, hT, X', hL, e1, e2, hq, st⟩
  · dsimp only [Pt.U, Pt.locs, Pt.cells, Pt.slots] at X' e1 e2 h1 h2 h3 st hcl
    subst h1; subst h2; subst h3
    exact Or.inr ⟨q, (T.setVm vm₁).calling g' mk As.toArray, t, U', L, E, ce, hT, X', hL, e1, e2, hq, hce, hcv, vx_cls hW₁ hcl, st⟩
end
end VXH
theorem vx_ofWH {l : Launch} {y : MethodName} {ws ws' : List Cond} {rm : Room} {Pc : Array Value → State → Prop} {Qc : Array Value → State → Outcome → State → Prop} {XC : String → State → State → Prop} {mc ms : Nat} {free : Addr → Prop} {cc : ByteArray} {maxL : Nat} {ret : Option FieldType} {hh : List (Nat × Nat × Nat × Nat)}
    (hy : plainName y.cls = true) (hw : ws = Cond.codeWith y cc maxL ret hh :: ws')
    (body : ∀ p e s m args below meth c s₁, BodyLoose p l y (headSpec ws rm) cc maxL ret e s m args below meth c s₁ → c.maxLocals = maxL → Pc args s →
      W p l e (headSpec ws rm).room s m args below meth c s.heap [] 0 0 (vx_MQ below Qc XC args s mc ms free) (entryFrame m args maxL)) : vx_Met l y ws rm Pc Qc XC mc ms free := by
  refine MetFree.of_bodyS (code := cc) (maxLocals := maxL) (ret := ret) hy ?_ ?_
  · intro args s m h hn
    obtain ⟨m9, meth, c, hn9, h1, h2, h3, h4, -, h5, h6, -⟩ := Cond.codeWith_spec (atoms_spec (ws := ws) h _ (by rw [hw]; exact List.mem_cons_self))
    cases hn.symm.trans hn9
    exact ⟨meth, c, h1, h2, h3, h4, h5, h6⟩
  · intro p e s m args below meth c s₁ B hml hP _
    have hh0 : s₁.heap = s.heap := by rw [B.state]; rfl
    obtain ⟨t, a1, o, b1, b2, b3⟩ := body p e s m args below meth c s₁ B hml hP s₁ hh0 (Stand.of_body B)
    exact ⟨t, o, a1, b1, b2, b3⟩
/-! ===== END ===== -/
end
section
/-! ===== BEGIN printed: names, fields, word lists, decode rows ===== -/
def RX0 : String := "ParishYards$Bolts"
def TX0 : u_T := fun k => match k with
  | 0 => ("ParishYards$Bolts", "parishes", "[I", true)
  | 1 => ("ParishYards$Bolts", "lengths", "[I", true)
  | 2 => ("ParishYards$Bolts", "gains", "[I", true)
  | 3 => ("ParishYards$Bolts", "sendings", "[I", true)
  | 4 => ("ParishYards$Bolts", "size", "I", false)
  | 5 => ("ParishYards$Bolts", "sold", "I", false)
  | _ => ("ParishYards$Bolts", "gained", "I", false)
def tyX0 : Nat → FieldType := fun k => match k with
  | 0 => .array .int
  | 1 => .array .int
  | 2 => .array .int
  | 3 => .array .int
  | 4 => .int
  | 5 => .int
  | _ => .int
abbrev wsX00 : List Cond := u_ws RX0 TX0 7
theorem nmX0 : ∀ a, a < 7 → ∀ b, b < 7 → a ≠ b → (TX0 a).2.1 ≠ (TX0 b).2.1 := by decide +kernel
theorem tyX0_ok : ∀ k, k < 7 → parseFieldDescriptor (TX0 k).2.2.1 = some (tyX0 k) := by decide +kernel
abbrev cX0_init : ByteArray := prog_2_method_1_code
def yX0_init : MethodName := ⟨RX0, "<init>", "()V"⟩
abbrev cX0_copy : ByteArray := prog_2_method_2_code
def yX0_copy : MethodName := ⟨RX0, "copy", "(LParishYards$Bolts;)V"⟩
abbrev cX0_has : ByteArray := prog_2_method_3_code
def yX0_has : MethodName := ⟨RX0, "has", "(I)Z"⟩
abbrev cX0_come : ByteArray := prog_2_method_4_code
def yX0_come : MethodName := ⟨RX0, "come", "(II)V"⟩
abbrev cX0_move : ByteArray := prog_2_method_5_code
def yX0_move : MethodName := ⟨RX0, "move", "(IIII)V"⟩
abbrev cX0_go : ByteArray := prog_2_method_6_code
def yX0_go : MethodName := ⟨RX0, "go", "(I)V"⟩
abbrev cX0_closeUp : ByteArray := prog_2_method_7_code
def yX0_closeUp : MethodName := ⟨RX0, "closeUp", "([II)V"⟩
abbrev cX0_lengthOfAll : ByteArray := prog_2_method_8_code
def yX0_lengthOfAll : MethodName := ⟨RX0, "lengthOfAll", "()I"⟩
def RX1 : String := "ParishYards$History"
def TX1 : u_T := fun k => match k with
  | 0 => ("ParishYards$History", "saved", "[LParishYards$Yards;", true)
  | _ => ("ParishYards$History", "size", "I", false)
def tyX1 : Nat → FieldType := fun k => match k with
  | 0 => .array (.object "ParishYards$Yards")
  | _ => .int
abbrev wsX10 : List Cond := u_ws RX1 TX1 2
theorem nmX1 : ∀ a, a < 2 → ∀ b, b < 2 → a ≠ b → (TX1 a).2.1 ≠ (TX1 b).2.1 := by decide +kernel
theorem tyX1_ok : ∀ k, k < 2 → parseFieldDescriptor (TX1 k).2.2.1 = some (tyX1 k) := by decide +kernel
abbrev cX1_init : ByteArray := prog_3_method_1_code
def yX1_init : MethodName := ⟨RX1, "<init>", "()V"⟩
abbrev cX1_push : ByteArray := prog_3_method_2_code
def yX1_push : MethodName := ⟨RX1, "push", "(LParishYards$Yards;)V"⟩
abbrev cX1_dropOldest : ByteArray := prog_3_method_3_code
def yX1_dropOldest : MethodName := ⟨RX1, "dropOldest", "()V"⟩
abbrev cX1_pop : ByteArray := prog_3_method_4_code
def yX1_pop : MethodName := ⟨RX1, "pop", "(LParishYards$Yards;)V"⟩
def RX2 : String := "ParishYards$Measures"
def TX2 : u_T := fun k => match k with
  | 0 => ("ParishYards$Measures", "ups", "[J", true)
  | _ => ("ParishYards$Measures", "downs", "[J", true)
def tyX2 : Nat → FieldType := fun k => match k with
  | 0 => .array .long
  | _ => .array .long
abbrev wsX20 : List Cond := u_ws RX2 TX2 2
theorem nmX2 : ∀ a, a < 2 → ∀ b, b < 2 → a ≠ b → (TX2 a).2.1 ≠ (TX2 b).2.1 := by decide +kernel
theorem tyX2_ok : ∀ k, k < 2 → parseFieldDescriptor (TX2 k).2.2.1 = some (tyX2 k) := by decide +kernel
abbrev cX2_init : ByteArray := prog_4_method_1_code
def yX2_init : MethodName := ⟨RX2, "<init>", "()V"⟩
abbrev cX2_areSound : ByteArray := prog_4_method_2_code
def yX2_areSound : MethodName := ⟨RX2, "areSound", "(LParishYards$Tables;)Z"⟩
abbrev cX2_agrees : ByteArray := prog_4_method_3_code
def yX2_agrees : MethodName := ⟨RX2, "agrees", "(LParishYards$Tables;II)Z"⟩
abbrev cX2_measure : ByteArray := prog_4_method_4_code
def yX2_measure : MethodName := ⟨RX2, "measure", "(LParishYards$Tables;)V"⟩
abbrev cX2_isMeasured : ByteArray := prog_4_method_5_code
def yX2_isMeasured : MethodName := ⟨RX2, "isMeasured", "(I)Z"⟩
abbrev cX2_spread : ByteArray := prog_4_method_6_code
def yX2_spread : MethodName := ⟨RX2, "spread", "(LParishYards$Tables;)V"⟩
def RX3 : String := "ParishYards$Rings"
def TX3 : u_T := fun k => match k with
  | 0 => ("ParishYards$Rings", "parishes", "[I", true)
  | 1 => ("ParishYards$Rings", "pairs", "[I", true)
  | _ => ("ParishYards$Rings", "trial", "LParishYards$Tables;", true)
def tyX3 : Nat → FieldType := fun k => match k with
  | 0 => .array .int
  | 1 => .array .int
  | _ => .object "ParishYards$Tables"
abbrev wsX30 : List Cond := u_ws RX3 TX3 3
theorem nmX3 : ∀ a, a < 3 → ∀ b, b < 3 → a ≠ b → (TX3 a).2.1 ≠ (TX3 b).2.1 := by decide +kernel
theorem tyX3_ok : ∀ k, k < 3 → parseFieldDescriptor (TX3 k).2.2.1 = some (tyX3 k) := by decide +kernel
abbrev cX3_init : ByteArray := prog_5_method_1_code
def yX3_init : MethodName := ⟨RX3, "<init>", "()V"⟩
abbrev cX3_parishAt : ByteArray := prog_5_method_2_code
def yX3_parishAt : MethodName := ⟨RX3, "parishAt", "(II)I"⟩
abbrev cX3_stands : ByteArray := prog_5_method_3_code
def yX3_stands : MethodName := ⟨RX3, "stands", "(LParishYards$Tables;I)Z"⟩
abbrev cX3_standsWith : ByteArray := prog_5_method_4_code
def yX3_standsWith : MethodName := ⟨RX3, "standsWith", "(LParishYards$Tables;II)Z"⟩
abbrev cX3_standing : ByteArray := prog_5_method_5_code
def yX3_standing : MethodName := ⟨RX3, "standing", "(LParishYards$Tables;)I"⟩
abbrev cX3_standingWith : ByteArray := prog_5_method_6_code
def yX3_standingWith : MethodName := ⟨RX3, "standingWith", "(LParishYards$Tables;II)I"⟩
abbrev cX3_standingAt : ByteArray := prog_5_method_7_code
def yX3_standingAt : MethodName := ⟨RX3, "standingAt", "(LParishYards$Tables;I)I"⟩
abbrev cX3_product : ByteArray := prog_5_method_8_code
def yX3_product : MethodName := ⟨RX3, "product", "(LParishYards$Tables;IZ)J"⟩
abbrev cX3_gain : ByteArray := prog_5_method_9_code
def yX3_gain : MethodName := ⟨RX3, "gain", "(LParishYards$Tables;I)J"⟩
abbrev cX3_isOff : ByteArray := prog_5_method_10_code
def yX3_isOff : MethodName := ⟨RX3, "isOff", "(LParishYards$Tables;II)Z"⟩
abbrev cX3_off : ByteArray := prog_5_method_11_code
def yX3_off : MethodName := ⟨RX3, "off", "(LParishYards$Tables;I)I"⟩
abbrev cX3_firstOffBy : ByteArray := prog_5_method_12_code
def yX3_firstOffBy : MethodName := ⟨RX3, "firstOffBy", "(LParishYards$Tables;IIIII)I"⟩
abbrev cX3_areSound : ByteArray := prog_5_method_13_code
def yX3_areSound : MethodName := ⟨RX3, "areSound", "(LParishYards$Tables;)Z"⟩
def RX4 : String := "ParishYards$Tables"
def TX4 : u_T := fun k => match k with
  | 0 => ("ParishYards$Tables", "ups", "[I", true)
  | _ => ("ParishYards$Tables", "pairs", "I", false)
def tyX4 : Nat → FieldType := fun k => match k with
  | 0 => .array .int
  | _ => .int
abbrev wsX40 : List Cond := u_ws RX4 TX4 2
theorem nmX4 : ∀ a, a < 2 → ∀ b, b < 2 → a ≠ b → (TX4 a).2.1 ≠ (TX4 b).2.1 := by decide +kernel
theorem tyX4_ok : ∀ k, k < 2 → parseFieldDescriptor (TX4 k).2.2.1 = some (tyX4 k) := by decide +kernel
abbrev cX4_init : ByteArray := prog_6_method_1_code
def yX4_init : MethodName := ⟨RX4, "<init>", "()V"⟩
abbrev cX4_copy : ByteArray := prog_6_method_2_code
def yX4_copy : MethodName := ⟨RX4, "copy", "(LParishYards$Tables;)V"⟩
abbrev cX4_up : ByteArray := prog_6_method_3_code
def yX4_up : MethodName := ⟨RX4, "up", "(II)I"⟩
abbrev cX4_has : ByteArray := prog_6_method_4_code
def yX4_has : MethodName := ⟨RX4, "has", "(II)Z"⟩
abbrev cX4_size : ByteArray := prog_6_method_5_code
def yX4_size : MethodName := ⟨RX4, "size", "()I"⟩
abbrev cX4_lay : ByteArray := prog_6_method_6_code
def yX4_lay : MethodName := ⟨RX4, "lay", "(IIII)V"⟩
def RX5 : String := "ParishYards$Text"
def TX5 : u_T := fun k => match k with
  | 0 => ("ParishYards$Text", "codes", "[I", true)
  | 1 => ("ParishYards$Text", "length", "I", false)
  | _ => ("ParishYards$Text", "state", "I", false)
def tyX5 : Nat → FieldType := fun k => match k with
  | 0 => .array .int
  | 1 => .int
  | _ => .int
abbrev wsX50 : List Cond := u_ws RX5 TX5 3
theorem nmX5 : ∀ a, a < 3 → ∀ b, b < 3 → a ≠ b → (TX5 a).2.1 ≠ (TX5 b).2.1 := by decide +kernel
theorem tyX5_ok : ∀ k, k < 3 → parseFieldDescriptor (TX5 k).2.2.1 = some (tyX5 k) := by decide +kernel
abbrev cX5_init : ByteArray := prog_7_method_1_code
def yX5_init : MethodName := ⟨RX5, "<init>", "()V"⟩
abbrev cX5_add : ByteArray := prog_7_method_2_code
def yX5_add : MethodName := ⟨RX5, "add", "(I)V"⟩
abbrev cX5_empty : ByteArray := prog_7_method_3_code
def yX5_empty : MethodName := ⟨RX5, "empty", "()I"⟩
abbrev cX5_read : ByteArray := prog_7_method_4_code
def yX5_read : MethodName := ⟨RX5, "read", "()I"⟩
abbrev cX5_isComplete : ByteArray := prog_7_method_5_code
def yX5_isComplete : MethodName := ⟨RX5, "isComplete", "()Z"⟩
abbrev cX5_mayEnd : ByteArray := prog_7_method_6_code
def yX5_mayEnd : MethodName := ⟨RX5, "mayEnd", "(I)Z"⟩
abbrev cX5_next : ByteArray := prog_7_method_7_code
def yX5_next : MethodName := ⟨RX5, "next", "(II)I"⟩
abbrev cX5_nextOfPart : ByteArray := prog_7_method_8_code
def yX5_nextOfPart : MethodName := ⟨RX5, "nextOfPart", "(I)I"⟩
abbrev cX5_nextOfBolt : ByteArray := prog_7_method_9_code
def yX5_nextOfBolt : MethodName := ⟨RX5, "nextOfBolt", "(II)I"⟩
abbrev cX5_isDigit : ByteArray := prog_7_method_10_code
def yX5_isDigit : MethodName := ⟨RX5, "isDigit", "(III)Z"⟩
abbrev cX5_readPart : ByteArray := prog_7_method_11_code
def yX5_readPart : MethodName := ⟨RX5, "readPart", "(I[I)I"⟩
def RX6 : String := "ParishYards$Way"
def TX6 : u_T := fun k => match k with
  | 0 => ("ParishYards$Way", "stops", "[I", true)
  | _ => ("ParishYards$Way", "size", "I", false)
def tyX6 : Nat → FieldType := fun k => match k with
  | 0 => .array .int
  | _ => .int
abbrev wsX60 : List Cond := u_ws RX6 TX6 2
theorem nmX6 : ∀ a, a < 2 → ∀ b, b < 2 → a ≠ b → (TX6 a).2.1 ≠ (TX6 b).2.1 := by decide +kernel
theorem tyX6_ok : ∀ k, k < 2 → parseFieldDescriptor (TX6 k).2.2.1 = some (tyX6 k) := by decide +kernel
abbrev cX6_init : ByteArray := prog_8_method_1_code
def yX6_init : MethodName := ⟨RX6, "<init>", "()V"⟩
abbrev cX6_choose : ByteArray := prog_8_method_2_code
def yX6_choose : MethodName := ⟨RX6, "choose", "(III)V"⟩
abbrev cX6_stopsOf : ByteArray := prog_8_method_3_code
def yX6_stopsOf : MethodName := ⟨RX6, "stopsOf", "(I)I"⟩
abbrev cX6_otherParish : ByteArray := prog_8_method_4_code
def yX6_otherParish : MethodName := ⟨RX6, "otherParish", "(III)I"⟩
abbrev cX6_stands : ByteArray := prog_8_method_5_code
def yX6_stands : MethodName := ⟨RX6, "stands", "(LParishYards$Tables;)Z"⟩
abbrev cX6_number : ByteArray := prog_8_method_6_code
def yX6_number : MethodName := ⟨RX6, "number", "()I"⟩
abbrev cX6_roundedOff : ByteArray := prog_8_method_7_code
def yX6_roundedOff : MethodName := ⟨RX6, "roundedOff", "(LParishYards$Tables;II)J"⟩
abbrev cX6_product : ByteArray := prog_8_method_8_code
def yX6_product : MethodName := ⟨RX6, "product", "(LParishYards$Tables;Z)J"⟩
def RX7 : String := "ParishYards$Yards"
def TX7 : u_T := fun k => match k with
  | 0 => ("ParishYards$Yards", "sticks", "[I", true)
  | 1 => ("ParishYards$Yards", "settings", "[I", true)
  | 2 => ("ParishYards$Yards", "tables", "LParishYards$Tables;", true)
  | 3 => ("ParishYards$Yards", "bolts", "LParishYards$Bolts;", true)
  | 4 => ("ParishYards$Yards", "stopPart", "I", false)
  | _ => ("ParishYards$Yards", "stopReason", "I", false)
def tyX7 : Nat → FieldType := fun k => match k with
  | 0 => .array .int
  | 1 => .array .int
  | 2 => .object "ParishYards$Tables"
  | 3 => .object "ParishYards$Bolts"
  | 4 => .int
  | _ => .int
abbrev wsX70 : List Cond := u_ws RX7 TX7 6
theorem nmX7 : ∀ a, a < 6 → ∀ b, b < 6 → a ≠ b → (TX7 a).2.1 ≠ (TX7 b).2.1 := by decide +kernel
theorem tyX7_ok : ∀ k, k < 6 → parseFieldDescriptor (TX7 k).2.2.1 = some (tyX7 k) := by decide +kernel
abbrev cX7_init : ByteArray := prog_9_method_1_code
def yX7_init : MethodName := ⟨RX7, "<init>", "()V"⟩
abbrev cX7_copy : ByteArray := prog_9_method_2_code
def yX7_copy : MethodName := ⟨RX7, "copy", "(LParishYards$Yards;)V"⟩
def RX8 : String := "ParishYards"
def TX8 : u_T := fun k => match k with
  | 0 => ("ParishYards", "now", "LParishYards$Yards;", true)
  | 1 => ("ParishYards", "kept", "LParishYards$Yards;", true)
  | 2 => ("ParishYards", "history", "LParishYards$History;", true)
  | 3 => ("ParishYards", "text", "LParishYards$Text;", true)
  | 4 => ("ParishYards", "rings", "LParishYards$Rings;", true)
  | 5 => ("ParishYards", "way", "LParishYards$Way;", true)
  | 6 => ("ParishYards", "measures", "LParishYards$Measures;", true)
  | 7 => ("ParishYards", "part", "[I", true)
  | _ => ("ParishYards", "hasKept", "Z", false)
def tyX8 : Nat → FieldType := fun k => match k with
  | 0 => .object "ParishYards$Yards"
  | 1 => .object "ParishYards$Yards"
  | 2 => .object "ParishYards$History"
  | 3 => .object "ParishYards$Text"
  | 4 => .object "ParishYards$Rings"
  | 5 => .object "ParishYards$Way"
  | 6 => .object "ParishYards$Measures"
  | 7 => .array .int
  | _ => .boolean
abbrev wsX80 : List Cond := u_ws RX8 TX8 9
theorem nmX8 : ∀ a, a < 9 → ∀ b, b < 9 → a ≠ b → (TX8 a).2.1 ≠ (TX8 b).2.1 := by decide +kernel
theorem tyX8_ok : ∀ k, k < 9 → parseFieldDescriptor (TX8 k).2.2.1 = some (tyX8 k) := by decide +kernel
abbrev cX8_init : ByteArray := prog_1_method_1_code
def yX8_init : MethodName := ⟨RX8, "<init>", "()V"⟩
abbrev cX8_stick : ByteArray := prog_1_method_2_code
def yX8_stick : MethodName := ⟨RX8, "stick", "(II)I"⟩
abbrev cX8_table : ByteArray := prog_1_method_3_code
def yX8_table : MethodName := ⟨RX8, "table", "(IIII)I"⟩
abbrev cX8_drop : ByteArray := prog_1_method_4_code
def yX8_drop : MethodName := ⟨RX8, "drop", "(II)I"⟩
abbrev cX8_set : ByteArray := prog_1_method_5_code
def yX8_set : MethodName := ⟨RX8, "set", "(II)I"⟩
abbrev cX8_bolt : ByteArray := prog_1_method_6_code
def yX8_bolt : MethodName := ⟨RX8, "bolt", "(II)I"⟩
abbrev cX8_send : ByteArray := prog_1_method_7_code
def yX8_send : MethodName := ⟨RX8, "send", "(II)I"⟩
abbrev cX8_sell : ByteArray := prog_1_method_8_code
def yX8_sell : MethodName := ⟨RX8, "sell", "(I)I"⟩
abbrev cX8_append : ByteArray := prog_1_method_9_code
def yX8_append : MethodName := ⟨RX8, "append", "(I)I"⟩
abbrev cX8_clearBuffer : ByteArray := prog_1_method_10_code
def yX8_clearBuffer : MethodName := ⟨RX8, "clearBuffer", "()I"⟩
abbrev cX8_firstError : ByteArray := prog_1_method_11_code
def yX8_firstError : MethodName := ⟨RX8, "firstError", "()I"⟩
abbrev cX8_work : ByteArray := prog_1_method_12_code
def yX8_work : MethodName := ⟨RX8, "work", "()I"⟩
abbrev cX8_stopped : ByteArray := prog_1_method_13_code
def yX8_stopped : MethodName := ⟨RX8, "stopped", "(I)I"⟩
abbrev cX8_undo : ByteArray := prog_1_method_14_code
def yX8_undo : MethodName := ⟨RX8, "undo", "()I"⟩
abbrev cX8_keep : ByteArray := prog_1_method_15_code
def yX8_keep : MethodName := ⟨RX8, "keep", "()I"⟩
abbrev cX8_restore : ByteArray := prog_1_method_16_code
def yX8_restore : MethodName := ⟨RX8, "restore", "()I"⟩
abbrev cX8_tableOf : ByteArray := prog_1_method_17_code
def yX8_tableOf : MethodName := ⟨RX8, "tableOf", "(III)I"⟩
abbrev cX8_ring : ByteArray := prog_1_method_18_code
def yX8_ring : MethodName := ⟨RX8, "ring", "(II)I"⟩
abbrev cX8_boltOf : ByteArray := prog_1_method_19_code
def yX8_boltOf : MethodName := ⟨RX8, "boltOf", "(II)I"⟩
abbrev cX8_count : ByteArray := prog_1_method_20_code
def yX8_count : MethodName := ⟨RX8, "count", "(I)I"⟩
abbrev cX8_offBy : ByteArray := prog_1_method_21_code
def yX8_offBy : MethodName := ⟨RX8, "offBy", "(IIII)I"⟩
abbrev cX8_turned : ByteArray := prog_1_method_22_code
def yX8_turned : MethodName := ⟨RX8, "turned", "(III)I"⟩
abbrev cX8_bestWay : ByteArray := prog_1_method_23_code
def yX8_bestWay : MethodName := ⟨RX8, "bestWay", "(III)I"⟩
abbrev cX8_mends : ByteArray := prog_1_method_24_code
def yX8_mends : MethodName := ⟨RX8, "mends", "(III)I"⟩
abbrev cX8_trueShare : ByteArray := prog_1_method_25_code
def yX8_trueShare : MethodName := ⟨RX8, "trueShare", "()D"⟩
abbrev cX8_digest : ByteArray := prog_1_method_26_code
def yX8_digest : MethodName := ⟨RX8, "digest", "()J"⟩
abbrev cX8_hashPairs : ByteArray := prog_1_method_27_code
def yX8_hashPairs : MethodName := ⟨RX8, "hashPairs", "(J)J"⟩
abbrev cX8_hashRings : ByteArray := prog_1_method_28_code
def yX8_hashRings : MethodName := ⟨RX8, "hashRings", "(J)J"⟩
abbrev cX8_hashBolts : ByteArray := prog_1_method_29_code
def yX8_hashBolts : MethodName := ⟨RX8, "hashBolts", "(J)J"⟩
abbrev cX8_bitsOfShare : ByteArray := prog_1_method_30_code
def yX8_bitsOfShare : MethodName := ⟨RX8, "bitsOfShare", "(D)J"⟩
abbrev cX8_doPart : ByteArray := prog_1_method_31_code
def yX8_doPart : MethodName := ⟨RX8, "doPart", "(I)I"⟩
abbrev cX8_doTable : ByteArray := prog_1_method_32_code
def yX8_doTable : MethodName := ⟨RX8, "doTable", "(IIII)I"⟩
abbrev cX8_doDrop : ByteArray := prog_1_method_33_code
def yX8_doDrop : MethodName := ⟨RX8, "doDrop", "(II)I"⟩
abbrev cX8_doBolt : ByteArray := prog_1_method_34_code
def yX8_doBolt : MethodName := ⟨RX8, "doBolt", "(II)I"⟩
abbrev cX8_doSend : ByteArray := prog_1_method_35_code
def yX8_doSend : MethodName := ⟨RX8, "doSend", "(II)I"⟩
abbrev cX8_whyNoSend : ByteArray := prog_1_method_36_code
def yX8_whyNoSend : MethodName := ⟨RX8, "whyNoSend", "(II)I"⟩
abbrev cX8_lengthSent : ByteArray := prog_1_method_37_code
def yX8_lengthSent : MethodName := ⟨RX8, "lengthSent", "(II)J"⟩
abbrev cX8_moveBolt : ByteArray := prog_1_method_38_code
def yX8_moveBolt : MethodName := ⟨RX8, "moveBolt", "(II)V"⟩
abbrev cX8_bound : ByteArray := prog_1_method_39_code
def yX8_bound : MethodName := ⟨RX8, "bound", "()I"⟩
abbrev cX8_rounding : ByteArray := prog_1_method_40_code
def yX8_rounding : MethodName := ⟨RX8, "rounding", "()I"⟩
abbrev cX8_leastOfSetting : ByteArray := prog_1_method_41_code
def yX8_leastOfSetting : MethodName := ⟨RX8, "leastOfSetting", "(I)I"⟩
abbrev cX8_mostOfSetting : ByteArray := prog_1_method_42_code
def yX8_mostOfSetting : MethodName := ⟨RX8, "mostOfSetting", "(I)I"⟩
abbrev cX8_checkParish : ByteArray := prog_1_method_43_code
def yX8_checkParish : MethodName := ⟨RX8, "checkParish", "(I)V"⟩
abbrev cX8_checkPair : ByteArray := prog_1_method_44_code
def yX8_checkPair : MethodName := ⟨RX8, "checkPair", "(II)V"⟩
abbrev cX8_checkBolt : ByteArray := prog_1_method_45_code
def yX8_checkBolt : MethodName := ⟨RX8, "checkBolt", "(I)V"⟩
abbrev cX8_checkRange : ByteArray := prog_1_method_46_code
def yX8_checkRange : MethodName := ⟨RX8, "checkRange", "(III)V"⟩
abbrev cX8_isParish : ByteArray := prog_1_method_47_code
def yX8_isParish : MethodName := ⟨RX8, "isParish", "(I)Z"⟩
abbrev cX8_at : ByteArray := prog_1_method_48_code
def yX8_at : MethodName := ⟨RX8, "at", "([II)I"⟩
abbrev cX8_put : ByteArray := prog_1_method_49_code
def yX8_put : MethodName := ⟨RX8, "put", "([III)V"⟩
abbrev cX8_longAt : ByteArray := prog_1_method_50_code
def yX8_longAt : MethodName := ⟨RX8, "longAt", "([JI)J"⟩
abbrev cX8_putLong : ByteArray := prog_1_method_51_code
def yX8_putLong : MethodName := ⟨RX8, "putLong", "([JIJ)V"⟩
abbrev cX8_copyRow : ByteArray := prog_1_method_52_code
def yX8_copyRow : MethodName := ⟨RX8, "copyRow", "([I[I)V"⟩
abbrev cX8_turn : ByteArray := prog_1_method_53_code
def yX8_turn : MethodName := ⟨RX8, "turn", "(JIII)J"⟩
abbrev cX8_gainOfTurn : ByteArray := prog_1_method_54_code
def yX8_gainOfTurn : MethodName := ⟨RX8, "gainOfTurn", "(JJII)J"⟩
abbrev cX8_lowestTerm : ByteArray := prog_1_method_55_code
def yX8_lowestTerm : MethodName := ⟨RX8, "lowestTerm", "(JJI)I"⟩
abbrev cX8_commonDivisor : ByteArray := prog_1_method_56_code
def yX8_commonDivisor : MethodName := ⟨RX8, "commonDivisor", "(JJ)J"⟩
abbrev cX8_bitOf : ByteArray := prog_1_method_57_code
def yX8_bitOf : MethodName := ⟨RX8, "bitOf", "(II)I"⟩
abbrev cX8_ringSize : ByteArray := prog_1_method_58_code
def yX8_ringSize : MethodName := ⟨RX8, "ringSize", "(I)I"⟩
def RX9 : String := "ParishYardsModel"
def TX9 : u_T := fun k => match k with
  | 0 => ("ParishYardsModel", "s", "[I", true)
  | 1 => ("ParishYardsModel", "past", "[I", true)
  | 2 => ("ParishYardsModel", "pasts", "I", false)
  | 3 => ("ParishYardsModel", "snapshot", "[I", true)
  | 4 => ("ParishYardsModel", "isKept", "Z", false)
  | 5 => ("ParishYardsModel", "text", "[I", true)
  | 6 => ("ParishYardsModel", "length", "I", false)
  | 7 => ("ParishYardsModel", "thrown", "I", false)
  | 8 => ("ParishYardsModel", "sizes", "[I", true)
  | 9 => ("ParishYardsModel", "codes", "[I", true)
  | 10 => ("ParishYardsModel", "nums", "[J", true)
  | 11 => ("ParishYardsModel", "dens", "[J", true)
  | 12 => ("ParishYardsModel", "spot", "I", false)
  | 13 => ("ParishYardsModel", "isWrong", "Z", false)
  | 14 => ("ParishYardsModel", "kind", "I", false)
  | 15 => ("ParishYardsModel", "first", "I", false)
  | 16 => ("ParishYardsModel", "second", "I", false)
  | 17 => ("ParishYardsModel", "third", "I", false)
  | _ => ("ParishYardsModel", "fourth", "I", false)
def tyX9 : Nat → FieldType := fun k => match k with
  | 0 => .array .int
  | 1 => .array .int
  | 2 => .int
  | 3 => .array .int
  | 4 => .boolean
  | 5 => .array .int
  | 6 => .int
  | 7 => .int
  | 8 => .array .int
  | 9 => .array .int
  | 10 => .array .long
  | 11 => .array .long
  | 12 => .int
  | 13 => .boolean
  | 14 => .int
  | 15 => .int
  | 16 => .int
  | 17 => .int
  | _ => .int
abbrev wsX90 : List Cond := u_ws RX9 TX9 19
theorem nmX9 : ∀ a, a < 19 → ∀ b, b < 19 → a ≠ b → (TX9 a).2.1 ≠ (TX9 b).2.1 := by decide +kernel
theorem tyX9_ok : ∀ k, k < 19 → parseFieldDescriptor (TX9 k).2.2.1 = some (tyX9 k) := by decide +kernel
abbrev cX9_init : ByteArray := prog_11_method_1_code
def yX9_init : MethodName := ⟨RX9, "<init>", "()V"⟩
abbrev cX9_thrown : ByteArray := prog_11_method_2_code
def yX9_thrown : MethodName := ⟨RX9, "thrown", "()I"⟩
abbrev cX9_refused : ByteArray := prog_11_method_3_code
def yX9_refused : MethodName := ⟨RX9, "refused", "(I)Z"⟩
abbrev cX9_in : ByteArray := prog_11_method_4_code
def yX9_in : MethodName := ⟨RX9, "in", "(III)Z"⟩
abbrev cX9_isParish : ByteArray := prog_11_method_5_code
def yX9_isParish : MethodName := ⟨RX9, "isParish", "(I)Z"⟩
abbrev cX9_isPart : ByteArray := prog_11_method_6_code
def yX9_isPart : MethodName := ⟨RX9, "isPart", "(I)Z"⟩
abbrev cX9_isBolt : ByteArray := prog_11_method_7_code
def yX9_isBolt : MethodName := ⟨RX9, "isBolt", "(I)Z"⟩
abbrev cX9_saves : ByteArray := prog_11_method_8_code
def yX9_saves : MethodName := ⟨RX9, "saves", "()V"⟩
abbrev cX9_at : ByteArray := prog_11_method_9_code
def yX9_at : MethodName := ⟨RX9, "at", "(III)I"⟩
abbrev cX9_isWay : ByteArray := prog_11_method_10_code
def yX9_isWay : MethodName := ⟨RX9, "isWay", "(II)Z"⟩
abbrev cX9_isRing : ByteArray := prog_11_method_11_code
def yX9_isRing : MethodName := ⟨RX9, "isRing", "(II)Z"⟩
abbrev cX9_pair : ByteArray := prog_11_method_12_code
def yX9_pair : MethodName := ⟨RX9, "pair", "(II)I"⟩
abbrev cX9_has : ByteArray := prog_11_method_13_code
def yX9_has : MethodName := ⟨RX9, "has", "(II)Z"⟩
abbrev cX9_up : ByteArray := prog_11_method_14_code
def yX9_up : MethodName := ⟨RX9, "up", "(II)I"⟩
abbrev cX9_down : ByteArray := prog_11_method_15_code
def yX9_down : MethodName := ⟨RX9, "down", "(II)I"⟩
abbrev cX9_puts : ByteArray := prog_11_method_16_code
def yX9_puts : MethodName := ⟨RX9, "puts", "(IIII)V"⟩
abbrev cX9_isThere : ByteArray := prog_11_method_17_code
def yX9_isThere : MethodName := ⟨RX9, "isThere", "(I)Z"⟩
abbrev cX9_hasTable : ByteArray := prog_11_method_18_code
def yX9_hasTable : MethodName := ⟨RX9, "hasTable", "(III)Z"⟩
abbrev cX9_product : ByteArray := prog_11_method_19_code
def yX9_product : MethodName := ⟨RX9, "product", "(IZ)J"⟩
abbrev cX9_floored : ByteArray := prog_11_method_20_code
def yX9_floored : MethodName := ⟨RX9, "floored", "(JJ)J"⟩
abbrev cX9_gain : ByteArray := prog_11_method_21_code
def yX9_gain : MethodName := ⟨RX9, "gain", "(I)J"⟩
abbrev cX9_isOff : ByteArray := prog_11_method_22_code
def yX9_isOff : MethodName := ⟨RX9, "isOff", "(I)Z"⟩
abbrev cX9_rings : ByteArray := prog_11_method_23_code
def yX9_rings : MethodName := ⟨RX9, "rings", "()I"⟩
abbrev cX9_offRings : ByteArray := prog_11_method_24_code
def yX9_offRings : MethodName := ⟨RX9, "offRings", "()I"⟩
abbrev cX9_withTable : ByteArray := prog_11_method_25_code
def yX9_withTable : MethodName := ⟨RX9, "withTable", "(II)I"⟩
abbrev cX9_isSound : ByteArray := prog_11_method_26_code
def yX9_isSound : MethodName := ⟨RX9, "isSound", "()Z"⟩
abbrev cX9_isMeasured : ByteArray := prog_11_method_27_code
def yX9_isMeasured : MethodName := ⟨RX9, "isMeasured", "()Z"⟩
abbrev cX9_measures : ByteArray := prog_11_method_28_code
def yX9_measures : MethodName := ⟨RX9, "measures", "()V"⟩
abbrev cX9_spreads : ByteArray := prog_11_method_29_code
def yX9_spreads : MethodName := ⟨RX9, "spreads", "()V"⟩
abbrev cX9_offWith : ByteArray := prog_11_method_30_code
def yX9_offWith : MethodName := ⟨RX9, "offWith", "(II)I"⟩
abbrev cX9_offTried : ByteArray := prog_11_method_31_code
def yX9_offTried : MethodName := ⟨RX9, "offTried", "(IIII)I"⟩
abbrev cX9_tables : ByteArray := prog_11_method_32_code
def yX9_tables : MethodName := ⟨RX9, "tables", "()I"⟩
abbrev cX9_stick : ByteArray := prog_11_method_33_code
def yX9_stick : MethodName := ⟨RX9, "stick", "(II)I"⟩
abbrev cX9_badTable : ByteArray := prog_11_method_34_code
def yX9_badTable : MethodName := ⟨RX9, "badTable", "(IIII)I"⟩
abbrev cX9_table : ByteArray := prog_11_method_35_code
def yX9_table : MethodName := ⟨RX9, "table", "(IIII)I"⟩
abbrev cX9_drop : ByteArray := prog_11_method_36_code
def yX9_drop : MethodName := ⟨RX9, "drop", "(II)I"⟩
abbrev cX9_set : ByteArray := prog_11_method_37_code
def yX9_set : MethodName := ⟨RX9, "set", "(II)I"⟩
abbrev cX9_ofBolt : ByteArray := prog_11_method_38_code
def yX9_ofBolt : MethodName := ⟨RX9, "ofBolt", "(II)I"⟩
abbrev cX9_turns : ByteArray := prog_11_method_39_code
def yX9_turns : MethodName := ⟨RX9, "turns", "(IIJ)J"⟩
abbrev cX9_gains : ByteArray := prog_11_method_40_code
def yX9_gains : MethodName := ⟨RX9, "gains", "(IIJ)J"⟩
abbrev cX9_comes : ByteArray := prog_11_method_41_code
def yX9_comes : MethodName := ⟨RX9, "comes", "(II)I"⟩
abbrev cX9_bolt : ByteArray := prog_11_method_42_code
def yX9_bolt : MethodName := ⟨RX9, "bolt", "(II)I"⟩
abbrev cX9_bar : ByteArray := prog_11_method_43_code
def yX9_bar : MethodName := ⟨RX9, "bar", "(II)I"⟩
abbrev cX9_sends : ByteArray := prog_11_method_44_code
def yX9_sends : MethodName := ⟨RX9, "sends", "(II)I"⟩
abbrev cX9_send : ByteArray := prog_11_method_45_code
def yX9_send : MethodName := ⟨RX9, "send", "(II)I"⟩
abbrev cX9_sell : ByteArray := prog_11_method_46_code
def yX9_sell : MethodName := ⟨RX9, "sell", "(I)I"⟩
abbrev cX9_append : ByteArray := prog_11_method_47_code
def yX9_append : MethodName := ⟨RX9, "append", "(I)I"⟩
abbrev cX9_clearBuffer : ByteArray := prog_11_method_48_code
def yX9_clearBuffer : MethodName := ⟨RX9, "clearBuffer", "()I"⟩
abbrev cX9_next : ByteArray := prog_11_method_49_code
def yX9_next : MethodName := ⟨RX9, "next", "()I"⟩
abbrev cX9_sign : ByteArray := prog_11_method_50_code
def yX9_sign : MethodName := ⟨RX9, "sign", "(I)V"⟩
abbrev cX9_digit : ByteArray := prog_11_method_51_code
def yX9_digit : MethodName := ⟨RX9, "digit", "(II)I"⟩
abbrev cX9_number : ByteArray := prog_11_method_52_code
def yX9_number : MethodName := ⟨RX9, "number", "(I)I"⟩
abbrev cX9_part : ByteArray := prog_11_method_53_code
def yX9_part : MethodName := ⟨RX9, "part", "()V"⟩
abbrev cX9_isWhole : ByteArray := prog_11_method_54_code
def yX9_isWhole : MethodName := ⟨RX9, "isWhole", "()Z"⟩
abbrev cX9_firstError : ByteArray := prog_11_method_55_code
def yX9_firstError : MethodName := ⟨RX9, "firstError", "()I"⟩
abbrev cX9_does : ByteArray := prog_11_method_56_code
def yX9_does : MethodName := ⟨RX9, "does", "()I"⟩
abbrev cX9_work : ByteArray := prog_11_method_57_code
def yX9_work : MethodName := ⟨RX9, "work", "()I"⟩
abbrev cX9_stop : ByteArray := prog_11_method_58_code
def yX9_stop : MethodName := ⟨RX9, "stop", "(I)I"⟩
abbrev cX9_stopped : ByteArray := prog_11_method_59_code
def yX9_stopped : MethodName := ⟨RX9, "stopped", "(I)I"⟩
abbrev cX9_undo : ByteArray := prog_11_method_60_code
def yX9_undo : MethodName := ⟨RX9, "undo", "()I"⟩
abbrev cX9_keep : ByteArray := prog_11_method_61_code
def yX9_keep : MethodName := ⟨RX9, "keep", "()I"⟩
abbrev cX9_restore : ByteArray := prog_11_method_62_code
def yX9_restore : MethodName := ⟨RX9, "restore", "()I"⟩
abbrev cX9_ofTable : ByteArray := prog_11_method_63_code
def yX9_ofTable : MethodName := ⟨RX9, "ofTable", "(III)I"⟩
abbrev cX9_badPair : ByteArray := prog_11_method_64_code
def yX9_badPair : MethodName := ⟨RX9, "badPair", "(IIZ)I"⟩
abbrev cX9_tableOf : ByteArray := prog_11_method_65_code
def yX9_tableOf : MethodName := ⟨RX9, "tableOf", "(III)I"⟩
abbrev cX9_told : ByteArray := prog_11_method_66_code
def yX9_told : MethodName := ⟨RX9, "told", "(II)I"⟩
abbrev cX9_ring : ByteArray := prog_11_method_67_code
def yX9_ring : MethodName := ⟨RX9, "ring", "(II)I"⟩
abbrev cX9_bolted : ByteArray := prog_11_method_68_code
def yX9_bolted : MethodName := ⟨RX9, "bolted", "(II)I"⟩
abbrev cX9_boltOf : ByteArray := prog_11_method_69_code
def yX9_boltOf : MethodName := ⟨RX9, "boltOf", "(II)I"⟩
abbrev cX9_lengths : ByteArray := prog_11_method_70_code
def yX9_lengths : MethodName := ⟨RX9, "lengths", "()I"⟩
abbrev cX9_counts : ByteArray := prog_11_method_71_code
def yX9_counts : MethodName := ⟨RX9, "counts", "(I)I"⟩
abbrev cX9_count : ByteArray := prog_11_method_72_code
def yX9_count : MethodName := ⟨RX9, "count", "(I)I"⟩
abbrev cX9_offBy : ByteArray := prog_11_method_73_code
def yX9_offBy : MethodName := ⟨RX9, "offBy", "(IIII)I"⟩
abbrev cX9_turned : ByteArray := prog_11_method_74_code
def yX9_turned : MethodName := ⟨RX9, "turned", "(III)I"⟩
abbrev cX9_leads : ByteArray := prog_11_method_75_code
def yX9_leads : MethodName := ⟨RX9, "leads", "(IIII)Z"⟩
abbrev cX9_rounding : ByteArray := prog_11_method_76_code
def yX9_rounding : MethodName := ⟨RX9, "rounding", "(III)J"⟩
abbrev cX9_power : ByteArray := prog_11_method_77_code
def yX9_power : MethodName := ⟨RX9, "power", "(I)I"⟩
abbrev cX9_way : ByteArray := prog_11_method_78_code
def yX9_way : MethodName := ⟨RX9, "way", "(III)I"⟩
abbrev cX9_bestWay : ByteArray := prog_11_method_79_code
def yX9_bestWay : MethodName := ⟨RX9, "bestWay", "(III)I"⟩
abbrev cX9_divisor : ByteArray := prog_11_method_80_code
def yX9_divisor : MethodName := ⟨RX9, "divisor", "(JJ)J"⟩
abbrev cX9_mend : ByteArray := prog_11_method_81_code
def yX9_mend : MethodName := ⟨RX9, "mend", "(III)I"⟩
abbrev cX9_mends : ByteArray := prog_11_method_82_code
def yX9_mends : MethodName := ⟨RX9, "mends", "(III)I"⟩
abbrev cX9_share : ByteArray := prog_11_method_83_code
def yX9_share : MethodName := ⟨RX9, "share", "()D"⟩
abbrev cX9_trueShare : ByteArray := prog_11_method_84_code
def yX9_trueShare : MethodName := ⟨RX9, "trueShare", "()D"⟩
abbrev cX9_digest : ByteArray := prog_11_method_85_code
def yX9_digest : MethodName := ⟨RX9, "digest", "()J"⟩
def RJxe99ae : String := "java/lang/Double"
def TJxe99ae : u_T := fun k => match k with
  | _ => ("", "", "", false)
def tyJxe99ae : Nat → FieldType := fun k => match k with
  | _ => .int
abbrev wsJxe99ae0 : List Cond := u_ws RJxe99ae TJxe99ae 0
theorem nmJxe99ae : ∀ a, a < 0 → ∀ b, b < 0 → a ≠ b → (TJxe99ae a).2.1 ≠ (TJxe99ae b).2.1 := by decide +kernel
theorem tyJxe99ae_ok : ∀ k, k < 0 → parseFieldDescriptor (TJxe99ae k).2.2.1 = some (tyJxe99ae k) := by decide +kernel
abbrev cJxe99ae_isNaN_b9ae7 : ByteArray := prog_12_method_6_code
def yJxe99ae_isNaN_b9ae7 : MethodName := ⟨RJxe99ae, "isNaN", "(D)Z"⟩
abbrev cJxe99ae_doubleToLongBits_ccdee : ByteArray := prog_12_method_23_code
def yJxe99ae_doubleToLongBits_ccdee : MethodName := ⟨RJxe99ae, "doubleToLongBits", "(D)J"⟩
def RJ6 : String := "java/lang/Integer"
def TJ6 : u_T := fun k => match k with
  | _ => ("", "", "", false)
def tyJ6 : Nat → FieldType := fun k => match k with
  | _ => .int
abbrev wsJ60 : List Cond := u_ws RJ6 TJ6 0
theorem nmJ6 : ∀ a, a < 0 → ∀ b, b < 0 → a ≠ b → (TJ6 a).2.1 ≠ (TJ6 b).2.1 := by decide +kernel
theorem tyJ6_ok : ∀ k, k < 0 → parseFieldDescriptor (TJ6 k).2.2.1 = some (tyJ6 k) := by decide +kernel
abbrev cJ6_bitCount_0f7a4 : ByteArray := prog_17_method_49_code
def yJ6_bitCount_0f7a4 : MethodName := ⟨RJ6, "bitCount", "(I)I"⟩
def RJ9 : String := "java/lang/Math"
def TJ9 : u_T := fun k => match k with
  | _ => ("", "", "", false)
def tyJ9 : Nat → FieldType := fun k => match k with
  | _ => .int
abbrev wsJ90 : List Cond := u_ws RJ9 TJ9 0
theorem nmJ9 : ∀ a, a < 0 → ∀ b, b < 0 → a ≠ b → (TJ9 a).2.1 ≠ (TJ9 b).2.1 := by decide +kernel
theorem tyJ9_ok : ∀ k, k < 0 → parseFieldDescriptor (TJ9 k).2.2.1 = some (tyJ9 k) := by decide +kernel
abbrev cJ9_floorDiv_f86c9 : ByteArray := prog_18_method_49_code
def yJ9_floorDiv_f86c9 : MethodName := ⟨RJ9, "floorDiv", "(JJ)J"⟩
abbrev cJ9_abs_067f4 : ByteArray := prog_18_method_61_code
def yJ9_abs_067f4 : MethodName := ⟨RJ9, "abs", "(J)J"⟩
abbrev cJ9_max_7cf53 : ByteArray := prog_18_method_65_code
def yJ9_max_7cf53 : MethodName := ⟨RJ9, "max", "(II)I"⟩
abbrev cJ9_max_f86c9 : ByteArray := prog_18_method_66_code
def yJ9_max_f86c9 : MethodName := ⟨RJ9, "max", "(JJ)J"⟩
abbrev cJ9_min_7cf53 : ByteArray := prog_18_method_69_code
def yJ9_min_7cf53 : MethodName := ⟨RJ9, "min", "(II)I"⟩
abbrev cJ9_min_f86c9 : ByteArray := prog_18_method_70_code
def yJ9_min_f86c9 : MethodName := ⟨RJ9, "min", "(JJ)J"⟩
def RJ0 : String := "java/lang/String"
def TJ0 : u_T := fun k => match k with
  | _ => ("", "", "", false)
def tyJ0 : Nat → FieldType := fun k => match k with
  | _ => .int
abbrev wsJ00 : List Cond := u_ws RJ0 TJ0 0
theorem nmJ0 : ∀ a, a < 0 → ∀ b, b < 0 → a ≠ b → (TJ0 a).2.1 ≠ (TJ0 b).2.1 := by decide +kernel
theorem tyJ0_ok : ∀ k, k < 0 → parseFieldDescriptor (TJ0 k).2.2.1 = some (tyJ0 k) := by decide +kernel
def RL : String := "ParishYardsLaw"
abbrev cL_stick : ByteArray := method_3_code
def yL_stick : MethodName := ⟨RL, "stick", "(LParishYards;II[J)I"⟩
abbrev cL_table : ByteArray := method_4_code
def yL_table : MethodName := ⟨RL, "table", "(LParishYards;IIII[J)I"⟩
abbrev cL_drop : ByteArray := method_5_code
def yL_drop : MethodName := ⟨RL, "drop", "(LParishYards;II[J)I"⟩
abbrev cL_set : ByteArray := method_6_code
def yL_set : MethodName := ⟨RL, "set", "(LParishYards;II[J)I"⟩
abbrev cL_bolt : ByteArray := method_7_code
def yL_bolt : MethodName := ⟨RL, "bolt", "(LParishYards;II[J)I"⟩
abbrev cL_send : ByteArray := method_8_code
def yL_send : MethodName := ⟨RL, "send", "(LParishYards;II[J)I"⟩
abbrev cL_sell : ByteArray := method_9_code
def yL_sell : MethodName := ⟨RL, "sell", "(LParishYards;I[J)I"⟩
abbrev cL_append : ByteArray := method_10_code
def yL_append : MethodName := ⟨RL, "append", "(LParishYards;I[J)I"⟩
abbrev cL_work : ByteArray := method_11_code
def yL_work : MethodName := ⟨RL, "work", "(LParishYards;[J)I"⟩
abbrev cL_stopped : ByteArray := method_12_code
def yL_stopped : MethodName := ⟨RL, "stopped", "(LParishYards;I[J)I"⟩
abbrev cL_undo : ByteArray := method_13_code
def yL_undo : MethodName := ⟨RL, "undo", "(LParishYards;[J)I"⟩
abbrev cL_restore : ByteArray := method_14_code
def yL_restore : MethodName := ⟨RL, "restore", "(LParishYards;[J)I"⟩
abbrev cL_tableOf : ByteArray := method_15_code
def yL_tableOf : MethodName := ⟨RL, "tableOf", "(LParishYards;III[J)I"⟩
abbrev cL_ring : ByteArray := method_16_code
def yL_ring : MethodName := ⟨RL, "ring", "(LParishYards;II[J)I"⟩
abbrev cL_boltOf : ByteArray := method_17_code
def yL_boltOf : MethodName := ⟨RL, "boltOf", "(LParishYards;II[J)I"⟩
abbrev cL_count : ByteArray := method_18_code
def yL_count : MethodName := ⟨RL, "count", "(LParishYards;I[J)I"⟩
abbrev cL_offBy : ByteArray := method_19_code
def yL_offBy : MethodName := ⟨RL, "offBy", "(LParishYards;IIII[J)I"⟩
abbrev cL_turned : ByteArray := method_20_code
def yL_turned : MethodName := ⟨RL, "turned", "(LParishYards;III[J)I"⟩
abbrev cL_bestWay : ByteArray := method_21_code
def yL_bestWay : MethodName := ⟨RL, "bestWay", "(LParishYards;III[J)I"⟩
abbrev cL_mends : ByteArray := method_22_code
def yL_mends : MethodName := ⟨RL, "mends", "(LParishYards;III[J)I"⟩
abbrev cL_law : ByteArray := code
def yL_law : MethodName := ⟨RL, "law", "([I)Z"⟩
abbrev vwCl : List vw_C := [(RX0, TX0, 7), (RX1, TX1, 2), (RX2, TX2, 2), (RX3, TX3, 3), (RX4, TX4, 2), (RX5, TX5, 3), (RX6, TX6, 2), (RX7, TX7, 6), (RX8, TX8, 9), (RX9, TX9, 19)]
end
section
theorem dX0_init_0 : decode cX0_init 0 = .ok (.aload_n 0, 1) := by decide +kernel
theorem dX0_init_1 : decode cX0_init 1 = .ok (.invokespecial 3, 3) := by decide +kernel
theorem dX0_init_4 : decode cX0_init 4 = .ok (.aload_n 0, 1) := by decide +kernel
theorem dX0_init_5 : decode cX0_init 5 = .ok (.bipush 8, 2) := by decide +kernel
theorem dX0_init_7 : decode cX0_init 7 = .ok (.newarray .int, 2) := by decide +kernel
theorem dX0_init_9 : decode cX0_init 9 = .ok (.putfield 9, 3) := by decide +kernel
theorem dX0_init_12 : decode cX0_init 12 = .ok (.aload_n 0, 1) := by decide +kernel
theorem dX0_init_13 : decode cX0_init 13 = .ok (.bipush 8, 2) := by decide +kernel
theorem dX0_init_15 : decode cX0_init 15 = .ok (.newarray .int, 2) := by decide +kernel
theorem dX0_init_17 : decode cX0_init 17 = .ok (.putfield 15, 3) := by decide +kernel
theorem dX0_init_20 : decode cX0_init 20 = .ok (.aload_n 0, 1) := by decide +kernel
theorem dX0_init_21 : decode cX0_init 21 = .ok (.bipush 8, 2) := by decide +kernel
theorem dX0_init_23 : decode cX0_init 23 = .ok (.newarray .int, 2) := by decide +kernel
theorem dX0_init_25 : decode cX0_init 25 = .ok (.putfield 18, 3) := by decide +kernel
theorem dX0_init_28 : decode cX0_init 28 = .ok (.aload_n 0, 1) := by decide +kernel
theorem dX0_init_29 : decode cX0_init 29 = .ok (.bipush 8, 2) := by decide +kernel
theorem dX0_init_31 : decode cX0_init 31 = .ok (.newarray .int, 2) := by decide +kernel
theorem dX0_init_33 : decode cX0_init 33 = .ok (.putfield 21, 3) := by decide +kernel
theorem dX0_init_36 : decode cX0_init 36 = .ok (.aload_n 0, 1) := by decide +kernel
theorem dX0_init_37 : decode cX0_init 37 = .ok (.iconst 0, 1) := by decide +kernel
theorem dX0_init_38 : decode cX0_init 38 = .ok (.putfield 24, 3) := by decide +kernel
theorem dX0_init_41 : decode cX0_init 41 = .ok (.aload_n 0, 1) := by decide +kernel
theorem dX0_init_42 : decode cX0_init 42 = .ok (.iconst 0, 1) := by decide +kernel
theorem dX0_init_43 : decode cX0_init 43 = .ok (.putfield 28, 3) := by decide +kernel
theorem dX0_init_46 : decode cX0_init 46 = .ok (.aload_n 0, 1) := by decide +kernel
theorem dX0_init_47 : decode cX0_init 47 = .ok (.iconst 0, 1) := by decide +kernel
theorem dX0_init_48 : decode cX0_init 48 = .ok (.putfield 31, 3) := by decide +kernel
theorem dX0_init_51 : decode cX0_init 51 = .ok (.return_, 1) := by decide +kernel
theorem dX0_copy_0 : decode cX0_copy 0 = .ok (.aload_n 1, 1) := by decide +kernel
theorem dX0_copy_1 : decode cX0_copy 1 = .ok (.getfield 9, 3) := by decide +kernel
theorem dX0_copy_4 : decode cX0_copy 4 = .ok (.aload_n 0, 1) := by decide +kernel
theorem dX0_copy_5 : decode cX0_copy 5 = .ok (.getfield 9, 3) := by decide +kernel
theorem dX0_copy_8 : decode cX0_copy 8 = .ok (.invokestatic 34, 3) := by decide +kernel
theorem dX0_copy_11 : decode cX0_copy 11 = .ok (.aload_n 1, 1) := by decide +kernel
theorem dX0_copy_12 : decode cX0_copy 12 = .ok (.getfield 15, 3) := by decide +kernel
theorem dX0_copy_15 : decode cX0_copy 15 = .ok (.aload_n 0, 1) := by decide +kernel
theorem dX0_copy_16 : decode cX0_copy 16 = .ok (.getfield 15, 3) := by decide +kernel
theorem dX0_copy_19 : decode cX0_copy 19 = .ok (.invokestatic 34, 3) := by decide +kernel
theorem dX0_copy_22 : decode cX0_copy 22 = .ok (.aload_n 1, 1) := by decide +kernel
theorem dX0_copy_23 : decode cX0_copy 23 = .ok (.getfield 18, 3) := by decide +kernel
theorem dX0_copy_26 : decode cX0_copy 26 = .ok (.aload_n 0, 1) := by decide +kernel
theorem dX0_copy_27 : decode cX0_copy 27 = .ok (.getfield 18, 3) := by decide +kernel
theorem dX0_copy_30 : decode cX0_copy 30 = .ok (.invokestatic 34, 3) := by decide +kernel
theorem dX0_copy_33 : decode cX0_copy 33 = .ok (.aload_n 1, 1) := by decide +kernel
theorem dX0_copy_34 : decode cX0_copy 34 = .ok (.getfield 21, 3) := by decide +kernel
theorem dX0_copy_37 : decode cX0_copy 37 = .ok (.aload_n 0, 1) := by decide +kernel
theorem dX0_copy_38 : decode cX0_copy 38 = .ok (.getfield 21, 3) := by decide +kernel
theorem dX0_copy_41 : decode cX0_copy 41 = .ok (.invokestatic 34, 3) := by decide +kernel
theorem dX0_copy_44 : decode cX0_copy 44 = .ok (.aload_n 0, 1) := by decide +kernel
theorem dX0_copy_45 : decode cX0_copy 45 = .ok (.aload_n 1, 1) := by decide +kernel
theorem dX0_copy_46 : decode cX0_copy 46 = .ok (.getfield 24, 3) := by decide +kernel
theorem dX0_copy_49 : decode cX0_copy 49 = .ok (.putfield 24, 3) := by decide +kernel
theorem dX0_copy_52 : decode cX0_copy 52 = .ok (.aload_n 0, 1) := by decide +kernel
theorem dX0_copy_53 : decode cX0_copy 53 = .ok (.aload_n 1, 1) := by decide +kernel
theorem dX0_copy_54 : decode cX0_copy 54 = .ok (.getfield 28, 3) := by decide +kernel
theorem dX0_copy_57 : decode cX0_copy 57 = .ok (.putfield 28, 3) := by decide +kernel
theorem dX0_copy_60 : decode cX0_copy 60 = .ok (.aload_n 0, 1) := by decide +kernel
theorem dX0_copy_61 : decode cX0_copy 61 = .ok (.aload_n 1, 1) := by decide +kernel
theorem dX0_copy_62 : decode cX0_copy 62 = .ok (.getfield 31, 3) := by decide +kernel
theorem dX0_copy_65 : decode cX0_copy 65 = .ok (.putfield 31, 3) := by decide +kernel
theorem dX0_copy_68 : decode cX0_copy 68 = .ok (.return_, 1) := by decide +kernel
theorem dX0_has_0 : decode cX0_has 0 = .ok (.iload_n 1, 1) := by decide +kernel
theorem dX0_has_1 : decode cX0_has 1 = .ok (.ifCond .lt 15, 3) := by decide +kernel
theorem dX0_has_4 : decode cX0_has 4 = .ok (.iload_n 1, 1) := by decide +kernel
theorem dX0_has_5 : decode cX0_has 5 = .ok (.aload_n 0, 1) := by decide +kernel
theorem dX0_has_6 : decode cX0_has 6 = .ok (.getfield 24, 3) := by decide +kernel
theorem dX0_has_9 : decode cX0_has 9 = .ok (.if_icmp .ge 7, 3) := by decide +kernel
theorem dX0_has_12 : decode cX0_has 12 = .ok (.iconst 1, 1) := by decide +kernel
theorem dX0_has_13 : decode cX0_has 13 = .ok (.goto 4, 3) := by decide +kernel
theorem dX0_has_16 : decode cX0_has 16 = .ok (.iconst 0, 1) := by decide +kernel
theorem dX0_has_17 : decode cX0_has 17 = .ok (.ireturn, 1) := by decide +kernel
theorem dX0_come_0 : decode cX0_come 0 = .ok (.aload_n 0, 1) := by decide +kernel
theorem dX0_come_1 : decode cX0_come 1 = .ok (.getfield 24, 3) := by decide +kernel
theorem dX0_come_4 : decode cX0_come 4 = .ok (.bipush 8, 2) := by decide +kernel
theorem dX0_come_6 : decode cX0_come 6 = .ok (.if_icmp .lt 4, 3) := by decide +kernel
theorem dX0_come_9 : decode cX0_come 9 = .ok (.return_, 1) := by decide +kernel
theorem dX0_come_10 : decode cX0_come 10 = .ok (.aload_n 0, 1) := by decide +kernel
theorem dX0_come_11 : decode cX0_come 11 = .ok (.getfield 9, 3) := by decide +kernel
theorem dX0_come_14 : decode cX0_come 14 = .ok (.aload_n 0, 1) := by decide +kernel
theorem dX0_come_15 : decode cX0_come 15 = .ok (.getfield 24, 3) := by decide +kernel
theorem dX0_come_18 : decode cX0_come 18 = .ok (.iload_n 1, 1) := by decide +kernel
theorem dX0_come_19 : decode cX0_come 19 = .ok (.invokestatic 38, 3) := by decide +kernel
theorem dX0_come_22 : decode cX0_come 22 = .ok (.aload_n 0, 1) := by decide +kernel
theorem dX0_come_23 : decode cX0_come 23 = .ok (.getfield 15, 3) := by decide +kernel
theorem dX0_come_26 : decode cX0_come 26 = .ok (.aload_n 0, 1) := by decide +kernel
theorem dX0_come_27 : decode cX0_come 27 = .ok (.getfield 24, 3) := by decide +kernel
theorem dX0_come_30 : decode cX0_come 30 = .ok (.iload_n 2, 1) := by decide +kernel
theorem dX0_come_31 : decode cX0_come 31 = .ok (.invokestatic 38, 3) := by decide +kernel
theorem dX0_come_34 : decode cX0_come 34 = .ok (.aload_n 0, 1) := by decide +kernel
theorem dX0_come_35 : decode cX0_come 35 = .ok (.getfield 18, 3) := by decide +kernel
theorem dX0_come_38 : decode cX0_come 38 = .ok (.aload_n 0, 1) := by decide +kernel
theorem dX0_come_39 : decode cX0_come 39 = .ok (.getfield 24, 3) := by decide +kernel
theorem dX0_come_42 : decode cX0_come 42 = .ok (.iconst 0, 1) := by decide +kernel
theorem dX0_come_43 : decode cX0_come 43 = .ok (.invokestatic 38, 3) := by decide +kernel
theorem dX0_come_46 : decode cX0_come 46 = .ok (.aload_n 0, 1) := by decide +kernel
theorem dX0_come_47 : decode cX0_come 47 = .ok (.getfield 21, 3) := by decide +kernel
theorem dX0_come_50 : decode cX0_come 50 = .ok (.aload_n 0, 1) := by decide +kernel
theorem dX0_come_51 : decode cX0_come 51 = .ok (.getfield 24, 3) := by decide +kernel
theorem dX0_come_54 : decode cX0_come 54 = .ok (.iconst 0, 1) := by decide +kernel
theorem dX0_come_55 : decode cX0_come 55 = .ok (.invokestatic 38, 3) := by decide +kernel
theorem dX0_come_58 : decode cX0_come 58 = .ok (.aload_n 0, 1) := by decide +kernel
theorem dX0_come_59 : decode cX0_come 59 = .ok (.dup, 1) := by decide +kernel
theorem dX0_come_60 : decode cX0_come 60 = .ok (.getfield 24, 3) := by decide +kernel
theorem dX0_come_63 : decode cX0_come 63 = .ok (.iconst 1, 1) := by decide +kernel
theorem dX0_come_64 : decode cX0_come 64 = .ok (.iadd, 1) := by decide +kernel
theorem dX0_come_65 : decode cX0_come 65 = .ok (.putfield 24, 3) := by decide +kernel
theorem dX0_come_68 : decode cX0_come 68 = .ok (.return_, 1) := by decide +kernel
theorem dX0_move_0 : decode cX0_move 0 = .ok (.aload_n 0, 1) := by decide +kernel
theorem dX0_move_1 : decode cX0_move 1 = .ok (.getfield 9, 3) := by decide +kernel
theorem dX0_move_4 : decode cX0_move 4 = .ok (.iload_n 1, 1) := by decide +kernel
theorem dX0_move_5 : decode cX0_move 5 = .ok (.iload_n 2, 1) := by decide +kernel
theorem dX0_move_6 : decode cX0_move 6 = .ok (.invokestatic 38, 3) := by decide +kernel
theorem dX0_move_9 : decode cX0_move 9 = .ok (.aload_n 0, 1) := by decide +kernel
theorem dX0_move_10 : decode cX0_move 10 = .ok (.getfield 15, 3) := by decide +kernel
theorem dX0_move_13 : decode cX0_move 13 = .ok (.iload_n 1, 1) := by decide +kernel
theorem dX0_move_14 : decode cX0_move 14 = .ok (.iload_n 3, 1) := by decide +kernel
theorem dX0_move_15 : decode cX0_move 15 = .ok (.invokestatic 38, 3) := by decide +kernel
theorem dX0_move_18 : decode cX0_move 18 = .ok (.aload_n 0, 1) := by decide +kernel
theorem dX0_move_19 : decode cX0_move 19 = .ok (.getfield 18, 3) := by decide +kernel
theorem dX0_move_22 : decode cX0_move 22 = .ok (.iload_n 1, 1) := by decide +kernel
theorem dX0_move_23 : decode cX0_move 23 = .ok (.aload_n 0, 1) := by decide +kernel
theorem dX0_move_24 : decode cX0_move 24 = .ok (.getfield 18, 3) := by decide +kernel
theorem dX0_move_27 : decode cX0_move 27 = .ok (.iload_n 1, 1) := by decide +kernel
theorem dX0_move_28 : decode cX0_move 28 = .ok (.invokestatic 42, 3) := by decide +kernel
theorem dX0_move_31 : decode cX0_move 31 = .ok (.iload 4, 2) := by decide +kernel
theorem dX0_move_33 : decode cX0_move 33 = .ok (.iadd, 1) := by decide +kernel
theorem dX0_move_34 : decode cX0_move 34 = .ok (.invokestatic 38, 3) := by decide +kernel
theorem dX0_move_37 : decode cX0_move 37 = .ok (.aload_n 0, 1) := by decide +kernel
theorem dX0_move_38 : decode cX0_move 38 = .ok (.getfield 21, 3) := by decide +kernel
theorem dX0_move_41 : decode cX0_move 41 = .ok (.iload_n 1, 1) := by decide +kernel
theorem dX0_move_42 : decode cX0_move 42 = .ok (.aload_n 0, 1) := by decide +kernel
theorem dX0_move_43 : decode cX0_move 43 = .ok (.getfield 21, 3) := by decide +kernel
theorem dX0_move_46 : decode cX0_move 46 = .ok (.iload_n 1, 1) := by decide +kernel
theorem dX0_move_47 : decode cX0_move 47 = .ok (.invokestatic 42, 3) := by decide +kernel
theorem dX0_move_50 : decode cX0_move 50 = .ok (.iconst 1, 1) := by decide +kernel
theorem dX0_move_51 : decode cX0_move 51 = .ok (.iadd, 1) := by decide +kernel
theorem dX0_move_52 : decode cX0_move 52 = .ok (.invokestatic 38, 3) := by decide +kernel
theorem dX0_move_55 : decode cX0_move 55 = .ok (.aload_n 0, 1) := by decide +kernel
theorem dX0_move_56 : decode cX0_move 56 = .ok (.dup, 1) := by decide +kernel
theorem dX0_move_57 : decode cX0_move 57 = .ok (.getfield 31, 3) := by decide +kernel
theorem dX0_move_60 : decode cX0_move 60 = .ok (.iload 4, 2) := by decide +kernel
theorem dX0_move_62 : decode cX0_move 62 = .ok (.iadd, 1) := by decide +kernel
theorem dX0_move_63 : decode cX0_move 63 = .ok (.putfield 31, 3) := by decide +kernel
theorem dX0_move_66 : decode cX0_move 66 = .ok (.return_, 1) := by decide +kernel
theorem dX0_go_0 : decode cX0_go 0 = .ok (.aload_n 0, 1) := by decide +kernel
theorem dX0_go_1 : decode cX0_go 1 = .ok (.aload_n 0, 1) := by decide +kernel
theorem dX0_go_2 : decode cX0_go 2 = .ok (.getfield 9, 3) := by decide +kernel
theorem dX0_go_5 : decode cX0_go 5 = .ok (.iload_n 1, 1) := by decide +kernel
theorem dX0_go_6 : decode cX0_go 6 = .ok (.invokevirtual 46, 3) := by decide +kernel
theorem dX0_go_9 : decode cX0_go 9 = .ok (.aload_n 0, 1) := by decide +kernel
theorem dX0_go_10 : decode cX0_go 10 = .ok (.aload_n 0, 1) := by decide +kernel
theorem dX0_go_11 : decode cX0_go 11 = .ok (.getfield 15, 3) := by decide +kernel
theorem dX0_go_14 : decode cX0_go 14 = .ok (.iload_n 1, 1) := by decide +kernel
theorem dX0_go_15 : decode cX0_go 15 = .ok (.invokevirtual 46, 3) := by decide +kernel
theorem dX0_go_18 : decode cX0_go 18 = .ok (.aload_n 0, 1) := by decide +kernel
theorem dX0_go_19 : decode cX0_go 19 = .ok (.aload_n 0, 1) := by decide +kernel
theorem dX0_go_20 : decode cX0_go 20 = .ok (.getfield 18, 3) := by decide +kernel
theorem dX0_go_23 : decode cX0_go 23 = .ok (.iload_n 1, 1) := by decide +kernel
theorem dX0_go_24 : decode cX0_go 24 = .ok (.invokevirtual 46, 3) := by decide +kernel
theorem dX0_go_27 : decode cX0_go 27 = .ok (.aload_n 0, 1) := by decide +kernel
theorem dX0_go_28 : decode cX0_go 28 = .ok (.aload_n 0, 1) := by decide +kernel
theorem dX0_go_29 : decode cX0_go 29 = .ok (.getfield 21, 3) := by decide +kernel
theorem dX0_go_32 : decode cX0_go 32 = .ok (.iload_n 1, 1) := by decide +kernel
theorem dX0_go_33 : decode cX0_go 33 = .ok (.invokevirtual 46, 3) := by decide +kernel
theorem dX0_go_36 : decode cX0_go 36 = .ok (.aload_n 0, 1) := by decide +kernel
theorem dX0_go_37 : decode cX0_go 37 = .ok (.dup, 1) := by decide +kernel
theorem dX0_go_38 : decode cX0_go 38 = .ok (.getfield 24, 3) := by decide +kernel
theorem dX0_go_41 : decode cX0_go 41 = .ok (.iconst 1, 1) := by decide +kernel
theorem dX0_go_42 : decode cX0_go 42 = .ok (.isub, 1) := by decide +kernel
theorem dX0_go_43 : decode cX0_go 43 = .ok (.putfield 24, 3) := by decide +kernel
theorem dX0_go_46 : decode cX0_go 46 = .ok (.aload_n 0, 1) := by decide +kernel
theorem dX0_go_47 : decode cX0_go 47 = .ok (.dup, 1) := by decide +kernel
theorem dX0_go_48 : decode cX0_go 48 = .ok (.getfield 28, 3) := by decide +kernel
theorem dX0_go_51 : decode cX0_go 51 = .ok (.iconst 1, 1) := by decide +kernel
theorem dX0_go_52 : decode cX0_go 52 = .ok (.iadd, 1) := by decide +kernel
theorem dX0_go_53 : decode cX0_go 53 = .ok (.putfield 28, 3) := by decide +kernel
theorem dX0_go_56 : decode cX0_go 56 = .ok (.return_, 1) := by decide +kernel
theorem dX0_closeUp_0 : decode cX0_closeUp 0 = .ok (.iload_n 2, 1) := by decide +kernel
theorem dX0_closeUp_1 : decode cX0_closeUp 1 = .ok (.istore_n 3, 1) := by decide +kernel
theorem dX0_closeUp_2 : decode cX0_closeUp 2 = .ok (.iload_n 3, 1) := by decide +kernel
theorem dX0_closeUp_3 : decode cX0_closeUp 3 = .ok (.aload_n 0, 1) := by decide +kernel
theorem dX0_closeUp_4 : decode cX0_closeUp 4 = .ok (.getfield 24, 3) := by decide +kernel
theorem dX0_closeUp_7 : decode cX0_closeUp 7 = .ok (.iconst 1, 1) := by decide +kernel
theorem dX0_closeUp_8 : decode cX0_closeUp 8 = .ok (.isub, 1) := by decide +kernel
theorem dX0_closeUp_9 : decode cX0_closeUp 9 = .ok (.if_icmp .ge 21, 3) := by decide +kernel
theorem dX0_closeUp_12 : decode cX0_closeUp 12 = .ok (.aload_n 1, 1) := by decide +kernel
theorem dX0_closeUp_13 : decode cX0_closeUp 13 = .ok (.iload_n 3, 1) := by decide +kernel
theorem dX0_closeUp_14 : decode cX0_closeUp 14 = .ok (.aload_n 1, 1) := by decide +kernel
theorem dX0_closeUp_15 : decode cX0_closeUp 15 = .ok (.iload_n 3, 1) := by decide +kernel
theorem dX0_closeUp_16 : decode cX0_closeUp 16 = .ok (.iconst 1, 1) := by decide +kernel
theorem dX0_closeUp_17 : decode cX0_closeUp 17 = .ok (.iadd, 1) := by decide +kernel
theorem dX0_closeUp_18 : decode cX0_closeUp 18 = .ok (.invokestatic 42, 3) := by decide +kernel
theorem dX0_closeUp_21 : decode cX0_closeUp 21 = .ok (.invokestatic 38, 3) := by decide +kernel
theorem dX0_closeUp_24 : decode cX0_closeUp 24 = .ok (.iinc 3 1, 3) := by decide +kernel
theorem dX0_closeUp_27 : decode cX0_closeUp 27 = .ok (.goto (-25), 3) := by decide +kernel
theorem dX0_closeUp_30 : decode cX0_closeUp 30 = .ok (.return_, 1) := by decide +kernel
theorem dX0_lengthOfAll_0 : decode cX0_lengthOfAll 0 = .ok (.iconst 0, 1) := by decide +kernel
theorem dX0_lengthOfAll_1 : decode cX0_lengthOfAll 1 = .ok (.istore_n 1, 1) := by decide +kernel
theorem dX0_lengthOfAll_2 : decode cX0_lengthOfAll 2 = .ok (.iconst 0, 1) := by decide +kernel
theorem dX0_lengthOfAll_3 : decode cX0_lengthOfAll 3 = .ok (.istore_n 2, 1) := by decide +kernel
theorem dX0_lengthOfAll_4 : decode cX0_lengthOfAll 4 = .ok (.iload_n 2, 1) := by decide +kernel
theorem dX0_lengthOfAll_5 : decode cX0_lengthOfAll 5 = .ok (.aload_n 0, 1) := by decide +kernel
theorem dX0_lengthOfAll_6 : decode cX0_lengthOfAll 6 = .ok (.getfield 24, 3) := by decide +kernel
theorem dX0_lengthOfAll_9 : decode cX0_lengthOfAll 9 = .ok (.if_icmp .ge 20, 3) := by decide +kernel
theorem dX0_lengthOfAll_12 : decode cX0_lengthOfAll 12 = .ok (.iload_n 1, 1) := by decide +kernel
theorem dX0_lengthOfAll_13 : decode cX0_lengthOfAll 13 = .ok (.aload_n 0, 1) := by decide +kernel
theorem dX0_lengthOfAll_14 : decode cX0_lengthOfAll 14 = .ok (.getfield 15, 3) := by decide +kernel
theorem dX0_lengthOfAll_17 : decode cX0_lengthOfAll 17 = .ok (.iload_n 2, 1) := by decide +kernel
theorem dX0_lengthOfAll_18 : decode cX0_lengthOfAll 18 = .ok (.invokestatic 42, 3) := by decide +kernel
theorem dX0_lengthOfAll_21 : decode cX0_lengthOfAll 21 = .ok (.iadd, 1) := by decide +kernel
theorem dX0_lengthOfAll_22 : decode cX0_lengthOfAll 22 = .ok (.istore_n 1, 1) := by decide +kernel
theorem dX0_lengthOfAll_23 : decode cX0_lengthOfAll 23 = .ok (.iinc 2 1, 3) := by decide +kernel
theorem dX0_lengthOfAll_26 : decode cX0_lengthOfAll 26 = .ok (.goto (-22), 3) := by decide +kernel
theorem dX0_lengthOfAll_29 : decode cX0_lengthOfAll 29 = .ok (.iload_n 1, 1) := by decide +kernel
theorem dX0_lengthOfAll_30 : decode cX0_lengthOfAll 30 = .ok (.ireturn, 1) := by decide +kernel
theorem dX1_init_0 : decode cX1_init 0 = .ok (.aload_n 0, 1) := by decide +kernel
theorem dX1_init_1 : decode cX1_init 1 = .ok (.invokespecial 3, 3) := by decide +kernel
theorem dX1_init_4 : decode cX1_init 4 = .ok (.aload_n 0, 1) := by decide +kernel
theorem dX1_init_5 : decode cX1_init 5 = .ok (.bipush 6, 2) := by decide +kernel
theorem dX1_init_7 : decode cX1_init 7 = .ok (.anewarray 9, 3) := by decide +kernel
theorem dX1_init_10 : decode cX1_init 10 = .ok (.putfield 11, 3) := by decide +kernel
theorem dX1_init_13 : decode cX1_init 13 = .ok (.iconst 0, 1) := by decide +kernel
theorem dX1_init_14 : decode cX1_init 14 = .ok (.istore_n 1, 1) := by decide +kernel
theorem dX1_init_15 : decode cX1_init 15 = .ok (.iload_n 1, 1) := by decide +kernel
theorem dX1_init_16 : decode cX1_init 16 = .ok (.aload_n 0, 1) := by decide +kernel
theorem dX1_init_17 : decode cX1_init 17 = .ok (.getfield 11, 3) := by decide +kernel
theorem dX1_init_20 : decode cX1_init 20 = .ok (.arraylength, 1) := by decide +kernel
theorem dX1_init_21 : decode cX1_init 21 = .ok (.if_icmp .ge 22, 3) := by decide +kernel
theorem dX1_init_24 : decode cX1_init 24 = .ok (.aload_n 0, 1) := by decide +kernel
theorem dX1_init_25 : decode cX1_init 25 = .ok (.getfield 11, 3) := by decide +kernel
theorem dX1_init_28 : decode cX1_init 28 = .ok (.iload_n 1, 1) := by decide +kernel
theorem dX1_init_29 : decode cX1_init 29 = .ok (.new 9, 3) := by decide +kernel
theorem dX1_init_32 : decode cX1_init 32 = .ok (.dup, 1) := by decide +kernel
theorem dX1_init_33 : decode cX1_init 33 = .ok (.invokespecial 17, 3) := by decide +kernel
theorem dX1_init_36 : decode cX1_init 36 = .ok (.aastore, 1) := by decide +kernel
theorem dX1_init_37 : decode cX1_init 37 = .ok (.iinc 1 1, 3) := by decide +kernel
theorem dX1_init_40 : decode cX1_init 40 = .ok (.goto (-25), 3) := by decide +kernel
theorem dX1_init_43 : decode cX1_init 43 = .ok (.aload_n 0, 1) := by decide +kernel
theorem dX1_init_44 : decode cX1_init 44 = .ok (.iconst 0, 1) := by decide +kernel
theorem dX1_init_45 : decode cX1_init 45 = .ok (.putfield 18, 3) := by decide +kernel
theorem dX1_init_48 : decode cX1_init 48 = .ok (.return_, 1) := by decide +kernel
theorem dX1_push_0 : decode cX1_push 0 = .ok (.aload_n 0, 1) := by decide +kernel
theorem dX1_push_1 : decode cX1_push 1 = .ok (.getfield 18, 3) := by decide +kernel
theorem dX1_push_4 : decode cX1_push 4 = .ok (.aload_n 0, 1) := by decide +kernel
theorem dX1_push_5 : decode cX1_push 5 = .ok (.getfield 11, 3) := by decide +kernel
theorem dX1_push_8 : decode cX1_push 8 = .ok (.arraylength, 1) := by decide +kernel
theorem dX1_push_9 : decode cX1_push 9 = .ok (.if_icmp .lt 7, 3) := by decide +kernel
theorem dX1_push_12 : decode cX1_push 12 = .ok (.aload_n 0, 1) := by decide +kernel
theorem dX1_push_13 : decode cX1_push 13 = .ok (.invokevirtual 22, 3) := by decide +kernel
theorem dX1_push_16 : decode cX1_push 16 = .ok (.aload_n 0, 1) := by decide +kernel
theorem dX1_push_17 : decode cX1_push 17 = .ok (.getfield 18, 3) := by decide +kernel
theorem dX1_push_20 : decode cX1_push 20 = .ok (.ifCond .lt 50, 3) := by decide +kernel
theorem dX1_push_23 : decode cX1_push 23 = .ok (.aload_n 0, 1) := by decide +kernel
theorem dX1_push_24 : decode cX1_push 24 = .ok (.getfield 18, 3) := by decide +kernel
theorem dX1_push_27 : decode cX1_push 27 = .ok (.aload_n 0, 1) := by decide +kernel
theorem dX1_push_28 : decode cX1_push 28 = .ok (.getfield 11, 3) := by decide +kernel
theorem dX1_push_31 : decode cX1_push 31 = .ok (.arraylength, 1) := by decide +kernel
theorem dX1_push_32 : decode cX1_push 32 = .ok (.if_icmp .ge 38, 3) := by decide +kernel
theorem dX1_push_35 : decode cX1_push 35 = .ok (.aload_n 0, 1) := by decide +kernel
theorem dX1_push_36 : decode cX1_push 36 = .ok (.getfield 11, 3) := by decide +kernel
theorem dX1_push_39 : decode cX1_push 39 = .ok (.aload_n 0, 1) := by decide +kernel
theorem dX1_push_40 : decode cX1_push 40 = .ok (.getfield 18, 3) := by decide +kernel
theorem dX1_push_43 : decode cX1_push 43 = .ok (.aaload, 1) := by decide +kernel
theorem dX1_push_44 : decode cX1_push 44 = .ok (.ifnull 26, 3) := by decide +kernel
theorem dX1_push_47 : decode cX1_push 47 = .ok (.aload_n 0, 1) := by decide +kernel
theorem dX1_push_48 : decode cX1_push 48 = .ok (.getfield 11, 3) := by decide +kernel
theorem dX1_push_51 : decode cX1_push 51 = .ok (.aload_n 0, 1) := by decide +kernel
theorem dX1_push_52 : decode cX1_push 52 = .ok (.getfield 18, 3) := by decide +kernel
theorem dX1_push_55 : decode cX1_push 55 = .ok (.aaload, 1) := by decide +kernel
theorem dX1_push_56 : decode cX1_push 56 = .ok (.aload_n 1, 1) := by decide +kernel
theorem dX1_push_57 : decode cX1_push 57 = .ok (.invokevirtual 25, 3) := by decide +kernel
theorem dX1_push_60 : decode cX1_push 60 = .ok (.aload_n 0, 1) := by decide +kernel
theorem dX1_push_61 : decode cX1_push 61 = .ok (.dup, 1) := by decide +kernel
theorem dX1_push_62 : decode cX1_push 62 = .ok (.getfield 18, 3) := by decide +kernel
theorem dX1_push_65 : decode cX1_push 65 = .ok (.iconst 1, 1) := by decide +kernel
theorem dX1_push_66 : decode cX1_push 66 = .ok (.iadd, 1) := by decide +kernel
theorem dX1_push_67 : decode cX1_push 67 = .ok (.putfield 18, 3) := by decide +kernel
theorem dX1_push_70 : decode cX1_push 70 = .ok (.return_, 1) := by decide +kernel
theorem dX1_dropOldest_0 : decode cX1_dropOldest 0 = .ok (.aload_n 0, 1) := by decide +kernel
theorem dX1_dropOldest_1 : decode cX1_dropOldest 1 = .ok (.getfield 11, 3) := by decide +kernel
theorem dX1_dropOldest_4 : decode cX1_dropOldest 4 = .ok (.arraylength, 1) := by decide +kernel
theorem dX1_dropOldest_5 : decode cX1_dropOldest 5 = .ok (.ifCond .ne 4, 3) := by decide +kernel
theorem dX1_dropOldest_8 : decode cX1_dropOldest 8 = .ok (.return_, 1) := by decide +kernel
theorem dX1_dropOldest_9 : decode cX1_dropOldest 9 = .ok (.aload_n 0, 1) := by decide +kernel
theorem dX1_dropOldest_10 : decode cX1_dropOldest 10 = .ok (.getfield 11, 3) := by decide +kernel
theorem dX1_dropOldest_13 : decode cX1_dropOldest 13 = .ok (.iconst 0, 1) := by decide +kernel
theorem dX1_dropOldest_14 : decode cX1_dropOldest 14 = .ok (.aaload, 1) := by decide +kernel
theorem dX1_dropOldest_15 : decode cX1_dropOldest 15 = .ok (.astore_n 1, 1) := by decide +kernel
theorem dX1_dropOldest_16 : decode cX1_dropOldest 16 = .ok (.iconst 0, 1) := by decide +kernel
theorem dX1_dropOldest_17 : decode cX1_dropOldest 17 = .ok (.istore_n 2, 1) := by decide +kernel
theorem dX1_dropOldest_18 : decode cX1_dropOldest 18 = .ok (.iload_n 2, 1) := by decide +kernel
theorem dX1_dropOldest_19 : decode cX1_dropOldest 19 = .ok (.aload_n 0, 1) := by decide +kernel
theorem dX1_dropOldest_20 : decode cX1_dropOldest 20 = .ok (.getfield 11, 3) := by decide +kernel
theorem dX1_dropOldest_23 : decode cX1_dropOldest 23 = .ok (.arraylength, 1) := by decide +kernel
theorem dX1_dropOldest_24 : decode cX1_dropOldest 24 = .ok (.iconst 1, 1) := by decide +kernel
theorem dX1_dropOldest_25 : decode cX1_dropOldest 25 = .ok (.isub, 1) := by decide +kernel
theorem dX1_dropOldest_26 : decode cX1_dropOldest 26 = .ok (.if_icmp .ge 23, 3) := by decide +kernel
theorem dX1_dropOldest_29 : decode cX1_dropOldest 29 = .ok (.aload_n 0, 1) := by decide +kernel
theorem dX1_dropOldest_30 : decode cX1_dropOldest 30 = .ok (.getfield 11, 3) := by decide +kernel
theorem dX1_dropOldest_33 : decode cX1_dropOldest 33 = .ok (.iload_n 2, 1) := by decide +kernel
theorem dX1_dropOldest_34 : decode cX1_dropOldest 34 = .ok (.aload_n 0, 1) := by decide +kernel
theorem dX1_dropOldest_35 : decode cX1_dropOldest 35 = .ok (.getfield 11, 3) := by decide +kernel
theorem dX1_dropOldest_38 : decode cX1_dropOldest 38 = .ok (.iload_n 2, 1) := by decide +kernel
theorem dX1_dropOldest_39 : decode cX1_dropOldest 39 = .ok (.iconst 1, 1) := by decide +kernel
theorem dX1_dropOldest_40 : decode cX1_dropOldest 40 = .ok (.iadd, 1) := by decide +kernel
theorem dX1_dropOldest_41 : decode cX1_dropOldest 41 = .ok (.aaload, 1) := by decide +kernel
theorem dX1_dropOldest_42 : decode cX1_dropOldest 42 = .ok (.aastore, 1) := by decide +kernel
theorem dX1_dropOldest_43 : decode cX1_dropOldest 43 = .ok (.iinc 2 1, 3) := by decide +kernel
theorem dX1_dropOldest_46 : decode cX1_dropOldest 46 = .ok (.goto (-28), 3) := by decide +kernel
theorem dX1_dropOldest_49 : decode cX1_dropOldest 49 = .ok (.aload_n 0, 1) := by decide +kernel
theorem dX1_dropOldest_50 : decode cX1_dropOldest 50 = .ok (.getfield 11, 3) := by decide +kernel
theorem dX1_dropOldest_53 : decode cX1_dropOldest 53 = .ok (.aload_n 0, 1) := by decide +kernel
theorem dX1_dropOldest_54 : decode cX1_dropOldest 54 = .ok (.getfield 11, 3) := by decide +kernel
theorem dX1_dropOldest_57 : decode cX1_dropOldest 57 = .ok (.arraylength, 1) := by decide +kernel
theorem dX1_dropOldest_58 : decode cX1_dropOldest 58 = .ok (.iconst 1, 1) := by decide +kernel
theorem dX1_dropOldest_59 : decode cX1_dropOldest 59 = .ok (.isub, 1) := by decide +kernel
theorem dX1_dropOldest_60 : decode cX1_dropOldest 60 = .ok (.aload_n 1, 1) := by decide +kernel
theorem dX1_dropOldest_61 : decode cX1_dropOldest 61 = .ok (.aastore, 1) := by decide +kernel
theorem dX1_dropOldest_62 : decode cX1_dropOldest 62 = .ok (.aload_n 0, 1) := by decide +kernel
theorem dX1_dropOldest_63 : decode cX1_dropOldest 63 = .ok (.aload_n 0, 1) := by decide +kernel
theorem dX1_dropOldest_64 : decode cX1_dropOldest 64 = .ok (.getfield 11, 3) := by decide +kernel
theorem dX1_dropOldest_67 : decode cX1_dropOldest 67 = .ok (.arraylength, 1) := by decide +kernel
theorem dX1_dropOldest_68 : decode cX1_dropOldest 68 = .ok (.iconst 1, 1) := by decide +kernel
theorem dX1_dropOldest_69 : decode cX1_dropOldest 69 = .ok (.isub, 1) := by decide +kernel
theorem dX1_dropOldest_70 : decode cX1_dropOldest 70 = .ok (.putfield 18, 3) := by decide +kernel
theorem dX1_dropOldest_73 : decode cX1_dropOldest 73 = .ok (.return_, 1) := by decide +kernel
theorem dX1_pop_0 : decode cX1_pop 0 = .ok (.aload_n 0, 1) := by decide +kernel
theorem dX1_pop_1 : decode cX1_pop 1 = .ok (.getfield 18, 3) := by decide +kernel
theorem dX1_pop_4 : decode cX1_pop 4 = .ok (.iconst 1, 1) := by decide +kernel
theorem dX1_pop_5 : decode cX1_pop 5 = .ok (.isub, 1) := by decide +kernel
theorem dX1_pop_6 : decode cX1_pop 6 = .ok (.istore_n 2, 1) := by decide +kernel
theorem dX1_pop_7 : decode cX1_pop 7 = .ok (.iload_n 2, 1) := by decide +kernel
theorem dX1_pop_8 : decode cX1_pop 8 = .ok (.ifCond .lt 36, 3) := by decide +kernel
theorem dX1_pop_11 : decode cX1_pop 11 = .ok (.iload_n 2, 1) := by decide +kernel
theorem dX1_pop_12 : decode cX1_pop 12 = .ok (.aload_n 0, 1) := by decide +kernel
theorem dX1_pop_13 : decode cX1_pop 13 = .ok (.getfield 11, 3) := by decide +kernel
theorem dX1_pop_16 : decode cX1_pop 16 = .ok (.arraylength, 1) := by decide +kernel
theorem dX1_pop_17 : decode cX1_pop 17 = .ok (.if_icmp .ge 27, 3) := by decide +kernel
theorem dX1_pop_20 : decode cX1_pop 20 = .ok (.aload_n 0, 1) := by decide +kernel
theorem dX1_pop_21 : decode cX1_pop 21 = .ok (.getfield 11, 3) := by decide +kernel
theorem dX1_pop_24 : decode cX1_pop 24 = .ok (.iload_n 2, 1) := by decide +kernel
theorem dX1_pop_25 : decode cX1_pop 25 = .ok (.aaload, 1) := by decide +kernel
theorem dX1_pop_26 : decode cX1_pop 26 = .ok (.ifnull 18, 3) := by decide +kernel
theorem dX1_pop_29 : decode cX1_pop 29 = .ok (.aload_n 1, 1) := by decide +kernel
theorem dX1_pop_30 : decode cX1_pop 30 = .ok (.aload_n 0, 1) := by decide +kernel
theorem dX1_pop_31 : decode cX1_pop 31 = .ok (.getfield 11, 3) := by decide +kernel
theorem dX1_pop_34 : decode cX1_pop 34 = .ok (.iload_n 2, 1) := by decide +kernel
theorem dX1_pop_35 : decode cX1_pop 35 = .ok (.aaload, 1) := by decide +kernel
theorem dX1_pop_36 : decode cX1_pop 36 = .ok (.invokevirtual 25, 3) := by decide +kernel
theorem dX1_pop_39 : decode cX1_pop 39 = .ok (.aload_n 0, 1) := by decide +kernel
theorem dX1_pop_40 : decode cX1_pop 40 = .ok (.iload_n 2, 1) := by decide +kernel
theorem dX1_pop_41 : decode cX1_pop 41 = .ok (.putfield 18, 3) := by decide +kernel
theorem dX1_pop_44 : decode cX1_pop 44 = .ok (.return_, 1) := by decide +kernel
theorem dX2_init_0 : decode cX2_init 0 = .ok (.aload_n 0, 1) := by decide +kernel
theorem dX2_init_1 : decode cX2_init 1 = .ok (.invokespecial 3, 3) := by decide +kernel
theorem dX2_init_4 : decode cX2_init 4 = .ok (.aload_n 0, 1) := by decide +kernel
theorem dX2_init_5 : decode cX2_init 5 = .ok (.iconst 5, 1) := by decide +kernel
theorem dX2_init_6 : decode cX2_init 6 = .ok (.newarray .long, 2) := by decide +kernel
theorem dX2_init_8 : decode cX2_init 8 = .ok (.putfield 9, 3) := by decide +kernel
theorem dX2_init_11 : decode cX2_init 11 = .ok (.aload_n 0, 1) := by decide +kernel
theorem dX2_init_12 : decode cX2_init 12 = .ok (.iconst 5, 1) := by decide +kernel
theorem dX2_init_13 : decode cX2_init 13 = .ok (.newarray .long, 2) := by decide +kernel
theorem dX2_init_15 : decode cX2_init 15 = .ok (.putfield 15, 3) := by decide +kernel
theorem dX2_init_18 : decode cX2_init 18 = .ok (.return_, 1) := by decide +kernel
theorem dX2_areSound_0 : decode cX2_areSound 0 = .ok (.aload_n 0, 1) := by decide +kernel
theorem dX2_areSound_1 : decode cX2_areSound 1 = .ok (.aload_n 1, 1) := by decide +kernel
theorem dX2_areSound_2 : decode cX2_areSound 2 = .ok (.invokevirtual 18, 3) := by decide +kernel
theorem dX2_areSound_5 : decode cX2_areSound 5 = .ok (.iconst 0, 1) := by decide +kernel
theorem dX2_areSound_6 : decode cX2_areSound 6 = .ok (.istore_n 2, 1) := by decide +kernel
theorem dX2_areSound_7 : decode cX2_areSound 7 = .ok (.iload_n 2, 1) := by decide +kernel
theorem dX2_areSound_8 : decode cX2_areSound 8 = .ok (.iconst 5, 1) := by decide +kernel
theorem dX2_areSound_9 : decode cX2_areSound 9 = .ok (.if_icmp .ge 45, 3) := by decide +kernel
theorem dX2_areSound_12 : decode cX2_areSound 12 = .ok (.iload_n 2, 1) := by decide +kernel
theorem dX2_areSound_13 : decode cX2_areSound 13 = .ok (.iconst 1, 1) := by decide +kernel
theorem dX2_areSound_14 : decode cX2_areSound 14 = .ok (.iadd, 1) := by decide +kernel
theorem dX2_areSound_15 : decode cX2_areSound 15 = .ok (.istore_n 3, 1) := by decide +kernel
theorem dX2_areSound_16 : decode cX2_areSound 16 = .ok (.iload_n 3, 1) := by decide +kernel
theorem dX2_areSound_17 : decode cX2_areSound 17 = .ok (.iconst 5, 1) := by decide +kernel
theorem dX2_areSound_18 : decode cX2_areSound 18 = .ok (.if_icmp .ge 30, 3) := by decide +kernel
theorem dX2_areSound_21 : decode cX2_areSound 21 = .ok (.aload_n 1, 1) := by decide +kernel
theorem dX2_areSound_22 : decode cX2_areSound 22 = .ok (.iload_n 2, 1) := by decide +kernel
theorem dX2_areSound_23 : decode cX2_areSound 23 = .ok (.iload_n 3, 1) := by decide +kernel
theorem dX2_areSound_24 : decode cX2_areSound 24 = .ok (.invokevirtual 22, 3) := by decide +kernel
theorem dX2_areSound_27 : decode cX2_areSound 27 = .ok (.ifCond .eq 15, 3) := by decide +kernel
theorem dX2_areSound_30 : decode cX2_areSound 30 = .ok (.aload_n 0, 1) := by decide +kernel
theorem dX2_areSound_31 : decode cX2_areSound 31 = .ok (.aload_n 1, 1) := by decide +kernel
theorem dX2_areSound_32 : decode cX2_areSound 32 = .ok (.iload_n 2, 1) := by decide +kernel
theorem dX2_areSound_33 : decode cX2_areSound 33 = .ok (.iload_n 3, 1) := by decide +kernel
theorem dX2_areSound_34 : decode cX2_areSound 34 = .ok (.invokevirtual 28, 3) := by decide +kernel
theorem dX2_areSound_37 : decode cX2_areSound 37 = .ok (.ifCond .ne 5, 3) := by decide +kernel
theorem dX2_areSound_40 : decode cX2_areSound 40 = .ok (.iconst 0, 1) := by decide +kernel
theorem dX2_areSound_41 : decode cX2_areSound 41 = .ok (.ireturn, 1) := by decide +kernel
theorem dX2_areSound_42 : decode cX2_areSound 42 = .ok (.iinc 3 1, 3) := by decide +kernel
theorem dX2_areSound_45 : decode cX2_areSound 45 = .ok (.goto (-29), 3) := by decide +kernel
theorem dX2_areSound_48 : decode cX2_areSound 48 = .ok (.iinc 2 1, 3) := by decide +kernel
theorem dX2_areSound_51 : decode cX2_areSound 51 = .ok (.goto (-44), 3) := by decide +kernel
theorem dX2_areSound_54 : decode cX2_areSound 54 = .ok (.iconst 1, 1) := by decide +kernel
theorem dX2_areSound_55 : decode cX2_areSound 55 = .ok (.ireturn, 1) := by decide +kernel
theorem dX2_agrees_0 : decode cX2_agrees 0 = .ok (.aload_n 0, 1) := by decide +kernel
theorem dX2_agrees_1 : decode cX2_agrees 1 = .ok (.getfield 9, 3) := by decide +kernel
theorem dX2_agrees_4 : decode cX2_agrees 4 = .ok (.iload_n 2, 1) := by decide +kernel
theorem dX2_agrees_5 : decode cX2_agrees 5 = .ok (.invokestatic 32, 3) := by decide +kernel
theorem dX2_agrees_8 : decode cX2_agrees 8 = .ok (.aload_n 1, 1) := by decide +kernel
theorem dX2_agrees_9 : decode cX2_agrees 9 = .ok (.iload_n 2, 1) := by decide +kernel
theorem dX2_agrees_10 : decode cX2_agrees 10 = .ok (.iload_n 3, 1) := by decide +kernel
theorem dX2_agrees_11 : decode cX2_agrees 11 = .ok (.invokevirtual 36, 3) := by decide +kernel
theorem dX2_agrees_14 : decode cX2_agrees 14 = .ok (.i2l, 1) := by decide +kernel
theorem dX2_agrees_15 : decode cX2_agrees 15 = .ok (.lmul, 1) := by decide +kernel
theorem dX2_agrees_16 : decode cX2_agrees 16 = .ok (.aload_n 0, 1) := by decide +kernel
theorem dX2_agrees_17 : decode cX2_agrees 17 = .ok (.getfield 15, 3) := by decide +kernel
theorem dX2_agrees_20 : decode cX2_agrees 20 = .ok (.iload_n 3, 1) := by decide +kernel
theorem dX2_agrees_21 : decode cX2_agrees 21 = .ok (.invokestatic 32, 3) := by decide +kernel
theorem dX2_agrees_24 : decode cX2_agrees 24 = .ok (.lmul, 1) := by decide +kernel
theorem dX2_agrees_25 : decode cX2_agrees 25 = .ok (.aload_n 0, 1) := by decide +kernel
theorem dX2_agrees_26 : decode cX2_agrees 26 = .ok (.getfield 9, 3) := by decide +kernel
theorem dX2_agrees_29 : decode cX2_agrees 29 = .ok (.iload_n 3, 1) := by decide +kernel
theorem dX2_agrees_30 : decode cX2_agrees 30 = .ok (.invokestatic 32, 3) := by decide +kernel
theorem dX2_agrees_33 : decode cX2_agrees 33 = .ok (.aload_n 1, 1) := by decide +kernel
theorem dX2_agrees_34 : decode cX2_agrees 34 = .ok (.iload_n 3, 1) := by decide +kernel
theorem dX2_agrees_35 : decode cX2_agrees 35 = .ok (.iload_n 2, 1) := by decide +kernel
theorem dX2_agrees_36 : decode cX2_agrees 36 = .ok (.invokevirtual 36, 3) := by decide +kernel
theorem dX2_agrees_39 : decode cX2_agrees 39 = .ok (.i2l, 1) := by decide +kernel
theorem dX2_agrees_40 : decode cX2_agrees 40 = .ok (.lmul, 1) := by decide +kernel
theorem dX2_agrees_41 : decode cX2_agrees 41 = .ok (.aload_n 0, 1) := by decide +kernel
theorem dX2_agrees_42 : decode cX2_agrees 42 = .ok (.getfield 15, 3) := by decide +kernel
theorem dX2_agrees_45 : decode cX2_agrees 45 = .ok (.iload_n 2, 1) := by decide +kernel
theorem dX2_agrees_46 : decode cX2_agrees 46 = .ok (.invokestatic 32, 3) := by decide +kernel
theorem dX2_agrees_49 : decode cX2_agrees 49 = .ok (.lmul, 1) := by decide +kernel
theorem dX2_agrees_50 : decode cX2_agrees 50 = .ok (.lcmp, 1) := by decide +kernel
theorem dX2_agrees_51 : decode cX2_agrees 51 = .ok (.ifCond .ne 7, 3) := by decide +kernel
theorem dX2_agrees_54 : decode cX2_agrees 54 = .ok (.iconst 1, 1) := by decide +kernel
theorem dX2_agrees_55 : decode cX2_agrees 55 = .ok (.goto 4, 3) := by decide +kernel
theorem dX2_agrees_58 : decode cX2_agrees 58 = .ok (.iconst 0, 1) := by decide +kernel
theorem dX2_agrees_59 : decode cX2_agrees 59 = .ok (.ireturn, 1) := by decide +kernel
theorem dX2_measure_0 : decode cX2_measure 0 = .ok (.iconst 0, 1) := by decide +kernel
theorem dX2_measure_1 : decode cX2_measure 1 = .ok (.istore_n 2, 1) := by decide +kernel
theorem dX2_measure_2 : decode cX2_measure 2 = .ok (.iload_n 2, 1) := by decide +kernel
theorem dX2_measure_3 : decode cX2_measure 3 = .ok (.iconst 5, 1) := by decide +kernel
theorem dX2_measure_4 : decode cX2_measure 4 = .ok (.if_icmp .ge 27, 3) := by decide +kernel
theorem dX2_measure_7 : decode cX2_measure 7 = .ok (.aload_n 0, 1) := by decide +kernel
theorem dX2_measure_8 : decode cX2_measure 8 = .ok (.getfield 9, 3) := by decide +kernel
theorem dX2_measure_11 : decode cX2_measure 11 = .ok (.iload_n 2, 1) := by decide +kernel
theorem dX2_measure_12 : decode cX2_measure 12 = .ok (.lconst 0, 1) := by decide +kernel
theorem dX2_measure_13 : decode cX2_measure 13 = .ok (.invokestatic 40, 3) := by decide +kernel
theorem dX2_measure_16 : decode cX2_measure 16 = .ok (.aload_n 0, 1) := by decide +kernel
theorem dX2_measure_17 : decode cX2_measure 17 = .ok (.getfield 15, 3) := by decide +kernel
theorem dX2_measure_20 : decode cX2_measure 20 = .ok (.iload_n 2, 1) := by decide +kernel
theorem dX2_measure_21 : decode cX2_measure 21 = .ok (.lconst 0, 1) := by decide +kernel
theorem dX2_measure_22 : decode cX2_measure 22 = .ok (.invokestatic 40, 3) := by decide +kernel
theorem dX2_measure_25 : decode cX2_measure 25 = .ok (.iinc 2 1, 3) := by decide +kernel
theorem dX2_measure_28 : decode cX2_measure 28 = .ok (.goto (-26), 3) := by decide +kernel
theorem dX2_measure_31 : decode cX2_measure 31 = .ok (.iconst 0, 1) := by decide +kernel
theorem dX2_measure_32 : decode cX2_measure 32 = .ok (.istore_n 2, 1) := by decide +kernel
theorem dX2_measure_33 : decode cX2_measure 33 = .ok (.iload_n 2, 1) := by decide +kernel
theorem dX2_measure_34 : decode cX2_measure 34 = .ok (.iconst 5, 1) := by decide +kernel
theorem dX2_measure_35 : decode cX2_measure 35 = .ok (.if_icmp .ge 40, 3) := by decide +kernel
theorem dX2_measure_38 : decode cX2_measure 38 = .ok (.aload_n 0, 1) := by decide +kernel
theorem dX2_measure_39 : decode cX2_measure 39 = .ok (.iload_n 2, 1) := by decide +kernel
theorem dX2_measure_40 : decode cX2_measure 40 = .ok (.invokevirtual 44, 3) := by decide +kernel
theorem dX2_measure_43 : decode cX2_measure 43 = .ok (.ifCond .ne 26, 3) := by decide +kernel
theorem dX2_measure_46 : decode cX2_measure 46 = .ok (.aload_n 0, 1) := by decide +kernel
theorem dX2_measure_47 : decode cX2_measure 47 = .ok (.getfield 9, 3) := by decide +kernel
theorem dX2_measure_50 : decode cX2_measure 50 = .ok (.iload_n 2, 1) := by decide +kernel
theorem dX2_measure_51 : decode cX2_measure 51 = .ok (.lconst 1, 1) := by decide +kernel
theorem dX2_measure_52 : decode cX2_measure 52 = .ok (.invokestatic 40, 3) := by decide +kernel
theorem dX2_measure_55 : decode cX2_measure 55 = .ok (.aload_n 0, 1) := by decide +kernel
theorem dX2_measure_56 : decode cX2_measure 56 = .ok (.getfield 15, 3) := by decide +kernel
theorem dX2_measure_59 : decode cX2_measure 59 = .ok (.iload_n 2, 1) := by decide +kernel
theorem dX2_measure_60 : decode cX2_measure 60 = .ok (.lconst 1, 1) := by decide +kernel
theorem dX2_measure_61 : decode cX2_measure 61 = .ok (.invokestatic 40, 3) := by decide +kernel
theorem dX2_measure_64 : decode cX2_measure 64 = .ok (.aload_n 0, 1) := by decide +kernel
theorem dX2_measure_65 : decode cX2_measure 65 = .ok (.aload_n 1, 1) := by decide +kernel
theorem dX2_measure_66 : decode cX2_measure 66 = .ok (.invokevirtual 48, 3) := by decide +kernel
theorem dX2_measure_69 : decode cX2_measure 69 = .ok (.iinc 2 1, 3) := by decide +kernel
theorem dX2_measure_72 : decode cX2_measure 72 = .ok (.goto (-39), 3) := by decide +kernel
theorem dX2_measure_75 : decode cX2_measure 75 = .ok (.return_, 1) := by decide +kernel
theorem dX2_isMeasured_0 : decode cX2_isMeasured 0 = .ok (.aload_n 0, 1) := by decide +kernel
theorem dX2_isMeasured_1 : decode cX2_isMeasured 1 = .ok (.getfield 9, 3) := by decide +kernel
theorem dX2_isMeasured_4 : decode cX2_isMeasured 4 = .ok (.iload_n 1, 1) := by decide +kernel
theorem dX2_isMeasured_5 : decode cX2_isMeasured 5 = .ok (.invokestatic 32, 3) := by decide +kernel
theorem dX2_isMeasured_8 : decode cX2_isMeasured 8 = .ok (.lconst 0, 1) := by decide +kernel
theorem dX2_isMeasured_9 : decode cX2_isMeasured 9 = .ok (.lcmp, 1) := by decide +kernel
theorem dX2_isMeasured_10 : decode cX2_isMeasured 10 = .ok (.ifCond .le 7, 3) := by decide +kernel
theorem dX2_isMeasured_13 : decode cX2_isMeasured 13 = .ok (.iconst 1, 1) := by decide +kernel
theorem dX2_isMeasured_14 : decode cX2_isMeasured 14 = .ok (.goto 4, 3) := by decide +kernel
theorem dX2_isMeasured_17 : decode cX2_isMeasured 17 = .ok (.iconst 0, 1) := by decide +kernel
theorem dX2_isMeasured_18 : decode cX2_isMeasured 18 = .ok (.ireturn, 1) := by decide +kernel
theorem dX2_spread_0 : decode cX2_spread 0 = .ok (.iconst 1, 1) := by decide +kernel
theorem dX2_spread_1 : decode cX2_spread 1 = .ok (.istore_n 2, 1) := by decide +kernel
theorem dX2_spread_2 : decode cX2_spread 2 = .ok (.iload_n 2, 1) := by decide +kernel
theorem dX2_spread_3 : decode cX2_spread 3 = .ok (.iconst 5, 1) := by decide +kernel
theorem dX2_spread_4 : decode cX2_spread 4 = .ok (.if_icmp .ge 116, 3) := by decide +kernel
theorem dX2_spread_7 : decode cX2_spread 7 = .ok (.iconst 0, 1) := by decide +kernel
theorem dX2_spread_8 : decode cX2_spread 8 = .ok (.istore_n 3, 1) := by decide +kernel
theorem dX2_spread_9 : decode cX2_spread 9 = .ok (.iload_n 3, 1) := by decide +kernel
theorem dX2_spread_10 : decode cX2_spread 10 = .ok (.iconst 5, 1) := by decide +kernel
theorem dX2_spread_11 : decode cX2_spread 11 = .ok (.if_icmp .ge 103, 3) := by decide +kernel
theorem dX2_spread_14 : decode cX2_spread 14 = .ok (.iconst 0, 1) := by decide +kernel
theorem dX2_spread_15 : decode cX2_spread 15 = .ok (.istore 4, 2) := by decide +kernel
theorem dX2_spread_17 : decode cX2_spread 17 = .ok (.iload 4, 2) := by decide +kernel
theorem dX2_spread_19 : decode cX2_spread 19 = .ok (.iconst 5, 1) := by decide +kernel
theorem dX2_spread_20 : decode cX2_spread 20 = .ok (.if_icmp .ge 88, 3) := by decide +kernel
theorem dX2_spread_23 : decode cX2_spread 23 = .ok (.aload_n 1, 1) := by decide +kernel
theorem dX2_spread_24 : decode cX2_spread 24 = .ok (.iload_n 3, 1) := by decide +kernel
theorem dX2_spread_25 : decode cX2_spread 25 = .ok (.iload 4, 2) := by decide +kernel
theorem dX2_spread_27 : decode cX2_spread 27 = .ok (.invokevirtual 22, 3) := by decide +kernel
theorem dX2_spread_30 : decode cX2_spread 30 = .ok (.ifCond .eq 72, 3) := by decide +kernel
theorem dX2_spread_33 : decode cX2_spread 33 = .ok (.aload_n 0, 1) := by decide +kernel
theorem dX2_spread_34 : decode cX2_spread 34 = .ok (.iload_n 3, 1) := by decide +kernel
theorem dX2_spread_35 : decode cX2_spread 35 = .ok (.invokevirtual 44, 3) := by decide +kernel
theorem dX2_spread_38 : decode cX2_spread 38 = .ok (.ifCond .eq 64, 3) := by decide +kernel
theorem dX2_spread_41 : decode cX2_spread 41 = .ok (.aload_n 0, 1) := by decide +kernel
theorem dX2_spread_42 : decode cX2_spread 42 = .ok (.iload 4, 2) := by decide +kernel
theorem dX2_spread_44 : decode cX2_spread 44 = .ok (.invokevirtual 44, 3) := by decide +kernel
theorem dX2_spread_47 : decode cX2_spread 47 = .ok (.ifCond .ne 55, 3) := by decide +kernel
theorem dX2_spread_50 : decode cX2_spread 50 = .ok (.aload_n 0, 1) := by decide +kernel
theorem dX2_spread_51 : decode cX2_spread 51 = .ok (.getfield 9, 3) := by decide +kernel
theorem dX2_spread_54 : decode cX2_spread 54 = .ok (.iload 4, 2) := by decide +kernel
theorem dX2_spread_56 : decode cX2_spread 56 = .ok (.aload_n 0, 1) := by decide +kernel
theorem dX2_spread_57 : decode cX2_spread 57 = .ok (.getfield 9, 3) := by decide +kernel
theorem dX2_spread_60 : decode cX2_spread 60 = .ok (.iload_n 3, 1) := by decide +kernel
theorem dX2_spread_61 : decode cX2_spread 61 = .ok (.invokestatic 32, 3) := by decide +kernel
theorem dX2_spread_64 : decode cX2_spread 64 = .ok (.aload_n 1, 1) := by decide +kernel
theorem dX2_spread_65 : decode cX2_spread 65 = .ok (.iload_n 3, 1) := by decide +kernel
theorem dX2_spread_66 : decode cX2_spread 66 = .ok (.iload 4, 2) := by decide +kernel
theorem dX2_spread_68 : decode cX2_spread 68 = .ok (.invokevirtual 36, 3) := by decide +kernel
theorem dX2_spread_71 : decode cX2_spread 71 = .ok (.i2l, 1) := by decide +kernel
theorem dX2_spread_72 : decode cX2_spread 72 = .ok (.lmul, 1) := by decide +kernel
theorem dX2_spread_73 : decode cX2_spread 73 = .ok (.invokestatic 40, 3) := by decide +kernel
theorem dX2_spread_76 : decode cX2_spread 76 = .ok (.aload_n 0, 1) := by decide +kernel
theorem dX2_spread_77 : decode cX2_spread 77 = .ok (.getfield 15, 3) := by decide +kernel
theorem dX2_spread_80 : decode cX2_spread 80 = .ok (.iload 4, 2) := by decide +kernel
theorem dX2_spread_82 : decode cX2_spread 82 = .ok (.aload_n 0, 1) := by decide +kernel
theorem dX2_spread_83 : decode cX2_spread 83 = .ok (.getfield 15, 3) := by decide +kernel
theorem dX2_spread_86 : decode cX2_spread 86 = .ok (.iload_n 3, 1) := by decide +kernel
theorem dX2_spread_87 : decode cX2_spread 87 = .ok (.invokestatic 32, 3) := by decide +kernel
theorem dX2_spread_90 : decode cX2_spread 90 = .ok (.aload_n 1, 1) := by decide +kernel
theorem dX2_spread_91 : decode cX2_spread 91 = .ok (.iload 4, 2) := by decide +kernel
theorem dX2_spread_93 : decode cX2_spread 93 = .ok (.iload_n 3, 1) := by decide +kernel
theorem dX2_spread_94 : decode cX2_spread 94 = .ok (.invokevirtual 36, 3) := by decide +kernel
theorem dX2_spread_97 : decode cX2_spread 97 = .ok (.i2l, 1) := by decide +kernel
theorem dX2_spread_98 : decode cX2_spread 98 = .ok (.lmul, 1) := by decide +kernel
theorem dX2_spread_99 : decode cX2_spread 99 = .ok (.invokestatic 40, 3) := by decide +kernel
theorem dX2_spread_102 : decode cX2_spread 102 = .ok (.iinc 4 1, 3) := by decide +kernel
theorem dX2_spread_105 : decode cX2_spread 105 = .ok (.goto (-88), 3) := by decide +kernel
theorem dX2_spread_108 : decode cX2_spread 108 = .ok (.iinc 3 1, 3) := by decide +kernel
theorem dX2_spread_111 : decode cX2_spread 111 = .ok (.goto (-102), 3) := by decide +kernel
theorem dX2_spread_114 : decode cX2_spread 114 = .ok (.iinc 2 1, 3) := by decide +kernel
theorem dX2_spread_117 : decode cX2_spread 117 = .ok (.goto (-115), 3) := by decide +kernel
theorem dX2_spread_120 : decode cX2_spread 120 = .ok (.return_, 1) := by decide +kernel
theorem dX3_init_0 : decode cX3_init 0 = .ok (.aload_n 0, 1) := by decide +kernel
theorem dX3_init_1 : decode cX3_init 1 = .ok (.invokespecial 3, 3) := by decide +kernel
theorem dX3_init_4 : decode cX3_init 4 = .ok (.aload_n 0, 1) := by decide +kernel
theorem dX3_init_5 : decode cX3_init 5 = .ok (.sipush 185, 3) := by decide +kernel
theorem dX3_init_8 : decode cX3_init 8 = .ok (.newarray .int, 2) := by decide +kernel
theorem dX3_init_10 : decode cX3_init 10 = .ok (.putfield 9, 3) := by decide +kernel
theorem dX3_init_13 : decode cX3_init 13 = .ok (.aload_n 0, 1) := by decide +kernel
theorem dX3_init_14 : decode cX3_init 14 = .ok (.bipush 37, 2) := by decide +kernel
theorem dX3_init_16 : decode cX3_init 16 = .ok (.newarray .int, 2) := by decide +kernel
theorem dX3_init_18 : decode cX3_init 18 = .ok (.putfield 15, 3) := by decide +kernel
theorem dX3_init_21 : decode cX3_init 21 = .ok (.aload_n 0, 1) := by decide +kernel
theorem dX3_init_22 : decode cX3_init 22 = .ok (.new 18, 3) := by decide +kernel
theorem dX3_init_25 : decode cX3_init 25 = .ok (.dup, 1) := by decide +kernel
theorem dX3_init_26 : decode cX3_init 26 = .ok (.invokespecial 20, 3) := by decide +kernel
theorem dX3_init_29 : decode cX3_init 29 = .ok (.putfield 21, 3) := by decide +kernel
theorem dX3_init_32 : decode cX3_init 32 = .ok (.iconst 0, 1) := by decide +kernel
theorem dX3_init_33 : decode cX3_init 33 = .ok (.istore_n 1, 1) := by decide +kernel
theorem dX3_init_34 : decode cX3_init 34 = .ok (.iload_n 1, 1) := by decide +kernel
theorem dX3_init_35 : decode cX3_init 35 = .ok (.bipush 37, 2) := by decide +kernel
theorem dX3_init_37 : decode cX3_init 37 = .ok (.if_icmp .ge 123, 3) := by decide +kernel
theorem dX3_init_40 : decode cX3_init 40 = .ok (.iload_n 1, 1) := by decide +kernel
theorem dX3_init_41 : decode cX3_init 41 = .ok (.invokestatic 25, 3) := by decide +kernel
theorem dX3_init_44 : decode cX3_init 44 = .ok (.istore_n 2, 1) := by decide +kernel
theorem dX3_init_45 : decode cX3_init 45 = .ok (.getstatic 29, 3) := by decide +kernel
theorem dX3_init_48 : decode cX3_init 48 = .ok (.iload_n 1, 1) := by decide +kernel
theorem dX3_init_49 : decode cX3_init 49 = .ok (.invokestatic 32, 3) := by decide +kernel
theorem dX3_init_52 : decode cX3_init 52 = .ok (.istore_n 3, 1) := by decide +kernel
theorem dX3_init_53 : decode cX3_init 53 = .ok (.iload_n 2, 1) := by decide +kernel
theorem dX3_init_54 : decode cX3_init 54 = .ok (.iconst 1, 1) := by decide +kernel
theorem dX3_init_55 : decode cX3_init 55 = .ok (.isub, 1) := by decide +kernel
theorem dX3_init_56 : decode cX3_init 56 = .ok (.istore 4, 2) := by decide +kernel
theorem dX3_init_58 : decode cX3_init 58 = .ok (.iload 4, 2) := by decide +kernel
theorem dX3_init_60 : decode cX3_init 60 = .ok (.ifCond .lt 31, 3) := by decide +kernel
theorem dX3_init_63 : decode cX3_init 63 = .ok (.aload_n 0, 1) := by decide +kernel
theorem dX3_init_64 : decode cX3_init 64 = .ok (.getfield 9, 3) := by decide +kernel
theorem dX3_init_67 : decode cX3_init 67 = .ok (.iload_n 1, 1) := by decide +kernel
theorem dX3_init_68 : decode cX3_init 68 = .ok (.iconst 5, 1) := by decide +kernel
theorem dX3_init_69 : decode cX3_init 69 = .ok (.imul, 1) := by decide +kernel
theorem dX3_init_70 : decode cX3_init 70 = .ok (.iload 4, 2) := by decide +kernel
theorem dX3_init_72 : decode cX3_init 72 = .ok (.iadd, 1) := by decide +kernel
theorem dX3_init_73 : decode cX3_init 73 = .ok (.iload_n 3, 1) := by decide +kernel
theorem dX3_init_74 : decode cX3_init 74 = .ok (.bipush 10, 2) := by decide +kernel
theorem dX3_init_76 : decode cX3_init 76 = .ok (.irem, 1) := by decide +kernel
theorem dX3_init_77 : decode cX3_init 77 = .ok (.invokestatic 36, 3) := by decide +kernel
theorem dX3_init_80 : decode cX3_init 80 = .ok (.iload_n 3, 1) := by decide +kernel
theorem dX3_init_81 : decode cX3_init 81 = .ok (.bipush 10, 2) := by decide +kernel
theorem dX3_init_83 : decode cX3_init 83 = .ok (.idiv, 1) := by decide +kernel
theorem dX3_init_84 : decode cX3_init 84 = .ok (.istore_n 3, 1) := by decide +kernel
theorem dX3_init_85 : decode cX3_init 85 = .ok (.iinc 4 (-1), 3) := by decide +kernel
theorem dX3_init_88 : decode cX3_init 88 = .ok (.goto (-30), 3) := by decide +kernel
theorem dX3_init_91 : decode cX3_init 91 = .ok (.iconst 0, 1) := by decide +kernel
theorem dX3_init_92 : decode cX3_init 92 = .ok (.istore 4, 2) := by decide +kernel
theorem dX3_init_94 : decode cX3_init 94 = .ok (.aload_n 0, 1) := by decide +kernel
theorem dX3_init_95 : decode cX3_init 95 = .ok (.iload_n 1, 1) := by decide +kernel
theorem dX3_init_96 : decode cX3_init 96 = .ok (.iload_n 2, 1) := by decide +kernel
theorem dX3_init_97 : decode cX3_init 97 = .ok (.iconst 1, 1) := by decide +kernel
theorem dX3_init_98 : decode cX3_init 98 = .ok (.isub, 1) := by decide +kernel
theorem dX3_init_99 : decode cX3_init 99 = .ok (.invokevirtual 40, 3) := by decide +kernel
theorem dX3_init_102 : decode cX3_init 102 = .ok (.istore 5, 2) := by decide +kernel
theorem dX3_init_104 : decode cX3_init 104 = .ok (.iconst 0, 1) := by decide +kernel
theorem dX3_init_105 : decode cX3_init 105 = .ok (.istore 6, 2) := by decide +kernel
theorem dX3_init_107 : decode cX3_init 107 = .ok (.iload 6, 2) := by decide +kernel
theorem dX3_init_109 : decode cX3_init 109 = .ok (.iload_n 2, 1) := by decide +kernel
theorem dX3_init_110 : decode cX3_init 110 = .ok (.if_icmp .ge 34, 3) := by decide +kernel
theorem dX3_init_113 : decode cX3_init 113 = .ok (.aload_n 0, 1) := by decide +kernel
theorem dX3_init_114 : decode cX3_init 114 = .ok (.iload_n 1, 1) := by decide +kernel
theorem dX3_init_115 : decode cX3_init 115 = .ok (.iload 6, 2) := by decide +kernel
theorem dX3_init_117 : decode cX3_init 117 = .ok (.invokevirtual 40, 3) := by decide +kernel
theorem dX3_init_120 : decode cX3_init 120 = .ok (.istore 7, 2) := by decide +kernel
theorem dX3_init_122 : decode cX3_init 122 = .ok (.iload 4, 2) := by decide +kernel
theorem dX3_init_124 : decode cX3_init 124 = .ok (.iload 5, 2) := by decide +kernel
theorem dX3_init_126 : decode cX3_init 126 = .ok (.iload 7, 2) := by decide +kernel
theorem dX3_init_128 : decode cX3_init 128 = .ok (.invokestatic 44, 3) := by decide +kernel
theorem dX3_init_131 : decode cX3_init 131 = .ok (.ior, 1) := by decide +kernel
theorem dX3_init_132 : decode cX3_init 132 = .ok (.istore 4, 2) := by decide +kernel
theorem dX3_init_134 : decode cX3_init 134 = .ok (.iload 7, 2) := by decide +kernel
theorem dX3_init_136 : decode cX3_init 136 = .ok (.istore 5, 2) := by decide +kernel
theorem dX3_init_138 : decode cX3_init 138 = .ok (.iinc 6 1, 3) := by decide +kernel
theorem dX3_init_141 : decode cX3_init 141 = .ok (.goto (-34), 3) := by decide +kernel
theorem dX3_init_144 : decode cX3_init 144 = .ok (.aload_n 0, 1) := by decide +kernel
theorem dX3_init_145 : decode cX3_init 145 = .ok (.getfield 15, 3) := by decide +kernel
theorem dX3_init_148 : decode cX3_init 148 = .ok (.iload_n 1, 1) := by decide +kernel
theorem dX3_init_149 : decode cX3_init 149 = .ok (.iload 4, 2) := by decide +kernel
theorem dX3_init_151 : decode cX3_init 151 = .ok (.invokestatic 36, 3) := by decide +kernel
theorem dX3_init_154 : decode cX3_init 154 = .ok (.iinc 1 1, 3) := by decide +kernel
theorem dX3_init_157 : decode cX3_init 157 = .ok (.goto (-123), 3) := by decide +kernel
theorem dX3_init_160 : decode cX3_init 160 = .ok (.return_, 1) := by decide +kernel
theorem dX3_parishAt_0 : decode cX3_parishAt 0 = .ok (.aload_n 0, 1) := by decide +kernel
theorem dX3_parishAt_1 : decode cX3_parishAt 1 = .ok (.getfield 9, 3) := by decide +kernel
theorem dX3_parishAt_4 : decode cX3_parishAt 4 = .ok (.iload_n 1, 1) := by decide +kernel
theorem dX3_parishAt_5 : decode cX3_parishAt 5 = .ok (.iconst 5, 1) := by decide +kernel
theorem dX3_parishAt_6 : decode cX3_parishAt 6 = .ok (.imul, 1) := by decide +kernel
theorem dX3_parishAt_7 : decode cX3_parishAt 7 = .ok (.iload_n 2, 1) := by decide +kernel
theorem dX3_parishAt_8 : decode cX3_parishAt 8 = .ok (.iadd, 1) := by decide +kernel
theorem dX3_parishAt_9 : decode cX3_parishAt 9 = .ok (.invokestatic 32, 3) := by decide +kernel
theorem dX3_parishAt_12 : decode cX3_parishAt 12 = .ok (.ireturn, 1) := by decide +kernel
theorem dX3_stands_0 : decode cX3_stands 0 = .ok (.aload_n 0, 1) := by decide +kernel
theorem dX3_stands_1 : decode cX3_stands 1 = .ok (.getfield 15, 3) := by decide +kernel
theorem dX3_stands_4 : decode cX3_stands 4 = .ok (.iload_n 2, 1) := by decide +kernel
theorem dX3_stands_5 : decode cX3_stands 5 = .ok (.invokestatic 32, 3) := by decide +kernel
theorem dX3_stands_8 : decode cX3_stands 8 = .ok (.istore_n 3, 1) := by decide +kernel
theorem dX3_stands_9 : decode cX3_stands 9 = .ok (.aload_n 1, 1) := by decide +kernel
theorem dX3_stands_10 : decode cX3_stands 10 = .ok (.getfield 47, 3) := by decide +kernel
theorem dX3_stands_13 : decode cX3_stands 13 = .ok (.iload_n 3, 1) := by decide +kernel
theorem dX3_stands_14 : decode cX3_stands 14 = .ok (.iand, 1) := by decide +kernel
theorem dX3_stands_15 : decode cX3_stands 15 = .ok (.iload_n 3, 1) := by decide +kernel
theorem dX3_stands_16 : decode cX3_stands 16 = .ok (.if_icmp .ne 7, 3) := by decide +kernel
theorem dX3_stands_19 : decode cX3_stands 19 = .ok (.iconst 1, 1) := by decide +kernel
theorem dX3_stands_20 : decode cX3_stands 20 = .ok (.goto 4, 3) := by decide +kernel
theorem dX3_stands_23 : decode cX3_stands 23 = .ok (.iconst 0, 1) := by decide +kernel
theorem dX3_stands_24 : decode cX3_stands 24 = .ok (.ireturn, 1) := by decide +kernel
theorem dX3_standsWith_0 : decode cX3_standsWith 0 = .ok (.aload_n 0, 1) := by decide +kernel
theorem dX3_standsWith_1 : decode cX3_standsWith 1 = .ok (.getfield 15, 3) := by decide +kernel
theorem dX3_standsWith_4 : decode cX3_standsWith 4 = .ok (.iload_n 2, 1) := by decide +kernel
theorem dX3_standsWith_5 : decode cX3_standsWith 5 = .ok (.invokestatic 32, 3) := by decide +kernel
theorem dX3_standsWith_8 : decode cX3_standsWith 8 = .ok (.iload_n 3, 1) := by decide +kernel
theorem dX3_standsWith_9 : decode cX3_standsWith 9 = .ok (.iand, 1) := by decide +kernel
theorem dX3_standsWith_10 : decode cX3_standsWith 10 = .ok (.ifCond .eq 16, 3) := by decide +kernel
theorem dX3_standsWith_13 : decode cX3_standsWith 13 = .ok (.aload_n 0, 1) := by decide +kernel
theorem dX3_standsWith_14 : decode cX3_standsWith 14 = .ok (.aload_n 1, 1) := by decide +kernel
theorem dX3_standsWith_15 : decode cX3_standsWith 15 = .ok (.iload_n 2, 1) := by decide +kernel
theorem dX3_standsWith_16 : decode cX3_standsWith 16 = .ok (.invokevirtual 50, 3) := by decide +kernel
theorem dX3_standsWith_19 : decode cX3_standsWith 19 = .ok (.ifCond .eq 7, 3) := by decide +kernel
theorem dX3_standsWith_22 : decode cX3_standsWith 22 = .ok (.iconst 1, 1) := by decide +kernel
theorem dX3_standsWith_23 : decode cX3_standsWith 23 = .ok (.goto 4, 3) := by decide +kernel
theorem dX3_standsWith_26 : decode cX3_standsWith 26 = .ok (.iconst 0, 1) := by decide +kernel
theorem dX3_standsWith_27 : decode cX3_standsWith 27 = .ok (.ireturn, 1) := by decide +kernel
theorem dX3_standing_0 : decode cX3_standing 0 = .ok (.iconst 0, 1) := by decide +kernel
theorem dX3_standing_1 : decode cX3_standing 1 = .ok (.istore_n 2, 1) := by decide +kernel
theorem dX3_standing_2 : decode cX3_standing 2 = .ok (.iconst 0, 1) := by decide +kernel
theorem dX3_standing_3 : decode cX3_standing 3 = .ok (.istore_n 3, 1) := by decide +kernel
theorem dX3_standing_4 : decode cX3_standing 4 = .ok (.iload_n 3, 1) := by decide +kernel
theorem dX3_standing_5 : decode cX3_standing 5 = .ok (.bipush 37, 2) := by decide +kernel
theorem dX3_standing_7 : decode cX3_standing 7 = .ok (.if_icmp .ge 21, 3) := by decide +kernel
theorem dX3_standing_10 : decode cX3_standing 10 = .ok (.aload_n 0, 1) := by decide +kernel
theorem dX3_standing_11 : decode cX3_standing 11 = .ok (.aload_n 1, 1) := by decide +kernel
theorem dX3_standing_12 : decode cX3_standing 12 = .ok (.iload_n 3, 1) := by decide +kernel
theorem dX3_standing_13 : decode cX3_standing 13 = .ok (.invokevirtual 50, 3) := by decide +kernel
theorem dX3_standing_16 : decode cX3_standing 16 = .ok (.ifCond .eq 6, 3) := by decide +kernel
theorem dX3_standing_19 : decode cX3_standing 19 = .ok (.iinc 2 1, 3) := by decide +kernel
theorem dX3_standing_22 : decode cX3_standing 22 = .ok (.iinc 3 1, 3) := by decide +kernel
theorem dX3_standing_25 : decode cX3_standing 25 = .ok (.goto (-21), 3) := by decide +kernel
theorem dX3_standing_28 : decode cX3_standing 28 = .ok (.iload_n 2, 1) := by decide +kernel
theorem dX3_standing_29 : decode cX3_standing 29 = .ok (.ireturn, 1) := by decide +kernel
theorem dX3_standingWith_0 : decode cX3_standingWith 0 = .ok (.iload_n 2, 1) := by decide +kernel
theorem dX3_standingWith_1 : decode cX3_standingWith 1 = .ok (.iload_n 3, 1) := by decide +kernel
theorem dX3_standingWith_2 : decode cX3_standingWith 2 = .ok (.invokestatic 44, 3) := by decide +kernel
theorem dX3_standingWith_5 : decode cX3_standingWith 5 = .ok (.istore 4, 2) := by decide +kernel
theorem dX3_standingWith_7 : decode cX3_standingWith 7 = .ok (.iconst 0, 1) := by decide +kernel
theorem dX3_standingWith_8 : decode cX3_standingWith 8 = .ok (.istore 5, 2) := by decide +kernel
theorem dX3_standingWith_10 : decode cX3_standingWith 10 = .ok (.iconst 0, 1) := by decide +kernel
theorem dX3_standingWith_11 : decode cX3_standingWith 11 = .ok (.istore 6, 2) := by decide +kernel
theorem dX3_standingWith_13 : decode cX3_standingWith 13 = .ok (.iload 6, 2) := by decide +kernel
theorem dX3_standingWith_15 : decode cX3_standingWith 15 = .ok (.bipush 37, 2) := by decide +kernel
theorem dX3_standingWith_17 : decode cX3_standingWith 17 = .ok (.if_icmp .ge 24, 3) := by decide +kernel
theorem dX3_standingWith_20 : decode cX3_standingWith 20 = .ok (.aload_n 0, 1) := by decide +kernel
theorem dX3_standingWith_21 : decode cX3_standingWith 21 = .ok (.aload_n 1, 1) := by decide +kernel
theorem dX3_standingWith_22 : decode cX3_standingWith 22 = .ok (.iload 6, 2) := by decide +kernel
theorem dX3_standingWith_24 : decode cX3_standingWith 24 = .ok (.iload 4, 2) := by decide +kernel
theorem dX3_standingWith_26 : decode cX3_standingWith 26 = .ok (.invokevirtual 54, 3) := by decide +kernel
theorem dX3_standingWith_29 : decode cX3_standingWith 29 = .ok (.ifCond .eq 6, 3) := by decide +kernel
theorem dX3_standingWith_32 : decode cX3_standingWith 32 = .ok (.iinc 5 1, 3) := by decide +kernel
theorem dX3_standingWith_35 : decode cX3_standingWith 35 = .ok (.iinc 6 1, 3) := by decide +kernel
theorem dX3_standingWith_38 : decode cX3_standingWith 38 = .ok (.goto (-25), 3) := by decide +kernel
theorem dX3_standingWith_41 : decode cX3_standingWith 41 = .ok (.iload 5, 2) := by decide +kernel
theorem dX3_standingWith_43 : decode cX3_standingWith 43 = .ok (.ireturn, 1) := by decide +kernel
theorem dX3_standingAt_0 : decode cX3_standingAt 0 = .ok (.iconst 0, 1) := by decide +kernel
theorem dX3_standingAt_1 : decode cX3_standingAt 1 = .ok (.istore_n 3, 1) := by decide +kernel
theorem dX3_standingAt_2 : decode cX3_standingAt 2 = .ok (.iconst 0, 1) := by decide +kernel
theorem dX3_standingAt_3 : decode cX3_standingAt 3 = .ok (.istore 4, 2) := by decide +kernel
theorem dX3_standingAt_5 : decode cX3_standingAt 5 = .ok (.iload 4, 2) := by decide +kernel
theorem dX3_standingAt_7 : decode cX3_standingAt 7 = .ok (.bipush 37, 2) := by decide +kernel
theorem dX3_standingAt_9 : decode cX3_standingAt 9 = .ok (.if_icmp .ge 30, 3) := by decide +kernel
theorem dX3_standingAt_12 : decode cX3_standingAt 12 = .ok (.aload_n 0, 1) := by decide +kernel
theorem dX3_standingAt_13 : decode cX3_standingAt 13 = .ok (.aload_n 1, 1) := by decide +kernel
theorem dX3_standingAt_14 : decode cX3_standingAt 14 = .ok (.iload 4, 2) := by decide +kernel
theorem dX3_standingAt_16 : decode cX3_standingAt 16 = .ok (.invokevirtual 50, 3) := by decide +kernel
theorem dX3_standingAt_19 : decode cX3_standingAt 19 = .ok (.ifCond .eq 14, 3) := by decide +kernel
theorem dX3_standingAt_22 : decode cX3_standingAt 22 = .ok (.iload_n 3, 1) := by decide +kernel
theorem dX3_standingAt_23 : decode cX3_standingAt 23 = .ok (.iload_n 2, 1) := by decide +kernel
theorem dX3_standingAt_24 : decode cX3_standingAt 24 = .ok (.if_icmp .ne 6, 3) := by decide +kernel
theorem dX3_standingAt_27 : decode cX3_standingAt 27 = .ok (.iload 4, 2) := by decide +kernel
theorem dX3_standingAt_29 : decode cX3_standingAt 29 = .ok (.ireturn, 1) := by decide +kernel
theorem dX3_standingAt_30 : decode cX3_standingAt 30 = .ok (.iinc 3 1, 3) := by decide +kernel
theorem dX3_standingAt_33 : decode cX3_standingAt 33 = .ok (.iinc 4 1, 3) := by decide +kernel
theorem dX3_standingAt_36 : decode cX3_standingAt 36 = .ok (.goto (-31), 3) := by decide +kernel
theorem dX3_standingAt_39 : decode cX3_standingAt 39 = .ok (.iconst (-1), 1) := by decide +kernel
theorem dX3_standingAt_40 : decode cX3_standingAt 40 = .ok (.ireturn, 1) := by decide +kernel
theorem dX3_product_0 : decode cX3_product 0 = .ok (.iload_n 2, 1) := by decide +kernel
theorem dX3_product_1 : decode cX3_product 1 = .ok (.invokestatic 25, 3) := by decide +kernel
theorem dX3_product_4 : decode cX3_product 4 = .ok (.istore 4, 2) := by decide +kernel
theorem dX3_product_6 : decode cX3_product 6 = .ok (.iload_n 2, 1) := by decide +kernel
theorem dX3_product_7 : decode cX3_product 7 = .ok (.iconst 5, 1) := by decide +kernel
theorem dX3_product_8 : decode cX3_product 8 = .ok (.imul, 1) := by decide +kernel
theorem dX3_product_9 : decode cX3_product 9 = .ok (.istore 5, 2) := by decide +kernel
theorem dX3_product_11 : decode cX3_product 11 = .ok (.lconst 1, 1) := by decide +kernel
theorem dX3_product_12 : decode cX3_product 12 = .ok (.lstore 6, 2) := by decide +kernel
theorem dX3_product_14 : decode cX3_product 14 = .ok (.aload_n 0, 1) := by decide +kernel
theorem dX3_product_15 : decode cX3_product 15 = .ok (.getfield 9, 3) := by decide +kernel
theorem dX3_product_18 : decode cX3_product 18 = .ok (.iload 5, 2) := by decide +kernel
theorem dX3_product_20 : decode cX3_product 20 = .ok (.iload 4, 2) := by decide +kernel
theorem dX3_product_22 : decode cX3_product 22 = .ok (.iadd, 1) := by decide +kernel
theorem dX3_product_23 : decode cX3_product 23 = .ok (.iconst 1, 1) := by decide +kernel
theorem dX3_product_24 : decode cX3_product 24 = .ok (.isub, 1) := by decide +kernel
theorem dX3_product_25 : decode cX3_product 25 = .ok (.invokestatic 32, 3) := by decide +kernel
theorem dX3_product_28 : decode cX3_product 28 = .ok (.istore 8, 2) := by decide +kernel
theorem dX3_product_30 : decode cX3_product 30 = .ok (.iconst 0, 1) := by decide +kernel
theorem dX3_product_31 : decode cX3_product 31 = .ok (.istore 9, 2) := by decide +kernel
theorem dX3_product_33 : decode cX3_product 33 = .ok (.iload 9, 2) := by decide +kernel
theorem dX3_product_35 : decode cX3_product 35 = .ok (.iload 4, 2) := by decide +kernel
theorem dX3_product_37 : decode cX3_product 37 = .ok (.if_icmp .ge 57, 3) := by decide +kernel
theorem dX3_product_40 : decode cX3_product 40 = .ok (.aload_n 0, 1) := by decide +kernel
theorem dX3_product_41 : decode cX3_product 41 = .ok (.getfield 9, 3) := by decide +kernel
theorem dX3_product_44 : decode cX3_product 44 = .ok (.iload 5, 2) := by decide +kernel
theorem dX3_product_46 : decode cX3_product 46 = .ok (.iload 9, 2) := by decide +kernel
theorem dX3_product_48 : decode cX3_product 48 = .ok (.iadd, 1) := by decide +kernel
theorem dX3_product_49 : decode cX3_product 49 = .ok (.invokestatic 32, 3) := by decide +kernel
theorem dX3_product_52 : decode cX3_product 52 = .ok (.istore 10, 2) := by decide +kernel
theorem dX3_product_54 : decode cX3_product 54 = .ok (.lload 6, 2) := by decide +kernel
theorem dX3_product_56 : decode cX3_product 56 = .ok (.iload_n 3, 1) := by decide +kernel
theorem dX3_product_57 : decode cX3_product 57 = .ok (.ifCond .eq 15, 3) := by decide +kernel
theorem dX3_product_60 : decode cX3_product 60 = .ok (.aload_n 1, 1) := by decide +kernel
theorem dX3_product_61 : decode cX3_product 61 = .ok (.iload 8, 2) := by decide +kernel
theorem dX3_product_63 : decode cX3_product 63 = .ok (.iload 10, 2) := by decide +kernel
theorem dX3_product_65 : decode cX3_product 65 = .ok (.invokevirtual 58, 3) := by decide +kernel
theorem dX3_product_68 : decode cX3_product 68 = .ok (.i2l, 1) := by decide +kernel
theorem dX3_product_69 : decode cX3_product 69 = .ok (.goto 12, 3) := by decide +kernel
theorem dX3_product_72 : decode cX3_product 72 = .ok (.aload_n 1, 1) := by decide +kernel
theorem dX3_product_73 : decode cX3_product 73 = .ok (.iload 10, 2) := by decide +kernel
theorem dX3_product_75 : decode cX3_product 75 = .ok (.iload 8, 2) := by decide +kernel
theorem dX3_product_77 : decode cX3_product 77 = .ok (.invokevirtual 58, 3) := by decide +kernel
theorem dX3_product_80 : decode cX3_product 80 = .ok (.i2l, 1) := by decide +kernel
theorem dX3_product_81 : decode cX3_product 81 = .ok (.lmul, 1) := by decide +kernel
theorem dX3_product_82 : decode cX3_product 82 = .ok (.lstore 6, 2) := by decide +kernel
theorem dX3_product_84 : decode cX3_product 84 = .ok (.iload 10, 2) := by decide +kernel
theorem dX3_product_86 : decode cX3_product 86 = .ok (.istore 8, 2) := by decide +kernel
theorem dX3_product_88 : decode cX3_product 88 = .ok (.iinc 9 1, 3) := by decide +kernel
theorem dX3_product_91 : decode cX3_product 91 = .ok (.goto (-58), 3) := by decide +kernel
theorem dX3_product_94 : decode cX3_product 94 = .ok (.lload 6, 2) := by decide +kernel
theorem dX3_product_96 : decode cX3_product 96 = .ok (.lreturn, 1) := by decide +kernel
theorem dX3_gain_0 : decode cX3_gain 0 = .ok (.aload_n 0, 1) := by decide +kernel
theorem dX3_gain_1 : decode cX3_gain 1 = .ok (.aload_n 1, 1) := by decide +kernel
theorem dX3_gain_2 : decode cX3_gain 2 = .ok (.iload_n 2, 1) := by decide +kernel
theorem dX3_gain_3 : decode cX3_gain 3 = .ok (.iconst 1, 1) := by decide +kernel
theorem dX3_gain_4 : decode cX3_gain 4 = .ok (.invokevirtual 61, 3) := by decide +kernel
theorem dX3_gain_7 : decode cX3_gain 7 = .ok (.lstore_n 3, 1) := by decide +kernel
theorem dX3_gain_8 : decode cX3_gain 8 = .ok (.aload_n 0, 1) := by decide +kernel
theorem dX3_gain_9 : decode cX3_gain 9 = .ok (.aload_n 1, 1) := by decide +kernel
theorem dX3_gain_10 : decode cX3_gain 10 = .ok (.iload_n 2, 1) := by decide +kernel
theorem dX3_gain_11 : decode cX3_gain 11 = .ok (.iconst 0, 1) := by decide +kernel
theorem dX3_gain_12 : decode cX3_gain 12 = .ok (.invokevirtual 61, 3) := by decide +kernel
theorem dX3_gain_15 : decode cX3_gain 15 = .ok (.lstore 5, 2) := by decide +kernel
theorem dX3_gain_17 : decode cX3_gain 17 = .ok (.lload 5, 2) := by decide +kernel
theorem dX3_gain_19 : decode cX3_gain 19 = .ok (.lconst 0, 1) := by decide +kernel
theorem dX3_gain_20 : decode cX3_gain 20 = .ok (.lcmp, 1) := by decide +kernel
theorem dX3_gain_21 : decode cX3_gain 21 = .ok (.ifCond .le 19, 3) := by decide +kernel
theorem dX3_gain_24 : decode cX3_gain 24 = .ok (.lload_n 3, 1) := by decide +kernel
theorem dX3_gain_25 : decode cX3_gain 25 = .ok (.lload 5, 2) := by decide +kernel
theorem dX3_gain_27 : decode cX3_gain 27 = .ok (.lsub, 1) := by decide +kernel
theorem dX3_gain_28 : decode cX3_gain 28 = .ok (.ldc2_w 65, 3) := by decide +kernel
theorem dX3_gain_31 : decode cX3_gain 31 = .ok (.lmul, 1) := by decide +kernel
theorem dX3_gain_32 : decode cX3_gain 32 = .ok (.lload 5, 2) := by decide +kernel
theorem dX3_gain_34 : decode cX3_gain 34 = .ok (.invokestatic 67, 3) := by decide +kernel
theorem dX3_gain_37 : decode cX3_gain 37 = .ok (.goto 4, 3) := by decide +kernel
theorem dX3_gain_40 : decode cX3_gain 40 = .ok (.lconst 0, 1) := by decide +kernel
theorem dX3_gain_41 : decode cX3_gain 41 = .ok (.lreturn, 1) := by decide +kernel
theorem dX3_isOff_0 : decode cX3_isOff 0 = .ok (.aload_n 0, 1) := by decide +kernel
theorem dX3_isOff_1 : decode cX3_isOff 1 = .ok (.aload_n 1, 1) := by decide +kernel
theorem dX3_isOff_2 : decode cX3_isOff 2 = .ok (.iload_n 2, 1) := by decide +kernel
theorem dX3_isOff_3 : decode cX3_isOff 3 = .ok (.invokevirtual 73, 3) := by decide +kernel
theorem dX3_isOff_6 : decode cX3_isOff 6 = .ok (.invokestatic 77, 3) := by decide +kernel
theorem dX3_isOff_9 : decode cX3_isOff 9 = .ok (.iload_n 3, 1) := by decide +kernel
theorem dX3_isOff_10 : decode cX3_isOff 10 = .ok (.i2l, 1) := by decide +kernel
theorem dX3_isOff_11 : decode cX3_isOff 11 = .ok (.lcmp, 1) := by decide +kernel
theorem dX3_isOff_12 : decode cX3_isOff 12 = .ok (.ifCond .le 7, 3) := by decide +kernel
theorem dX3_isOff_15 : decode cX3_isOff 15 = .ok (.iconst 1, 1) := by decide +kernel
theorem dX3_isOff_16 : decode cX3_isOff 16 = .ok (.goto 4, 3) := by decide +kernel
theorem dX3_isOff_19 : decode cX3_isOff 19 = .ok (.iconst 0, 1) := by decide +kernel
theorem dX3_isOff_20 : decode cX3_isOff 20 = .ok (.ireturn, 1) := by decide +kernel
theorem dX3_off_0 : decode cX3_off 0 = .ok (.iconst 0, 1) := by decide +kernel
theorem dX3_off_1 : decode cX3_off 1 = .ok (.istore_n 3, 1) := by decide +kernel
theorem dX3_off_2 : decode cX3_off 2 = .ok (.iconst 0, 1) := by decide +kernel
theorem dX3_off_3 : decode cX3_off 3 = .ok (.istore 4, 2) := by decide +kernel
theorem dX3_off_5 : decode cX3_off 5 = .ok (.iload 4, 2) := by decide +kernel
theorem dX3_off_7 : decode cX3_off 7 = .ok (.bipush 37, 2) := by decide +kernel
theorem dX3_off_9 : decode cX3_off 9 = .ok (.if_icmp .ge 33, 3) := by decide +kernel
theorem dX3_off_12 : decode cX3_off 12 = .ok (.aload_n 0, 1) := by decide +kernel
theorem dX3_off_13 : decode cX3_off 13 = .ok (.aload_n 1, 1) := by decide +kernel
theorem dX3_off_14 : decode cX3_off 14 = .ok (.iload 4, 2) := by decide +kernel
theorem dX3_off_16 : decode cX3_off 16 = .ok (.invokevirtual 50, 3) := by decide +kernel
theorem dX3_off_19 : decode cX3_off 19 = .ok (.ifCond .eq 17, 3) := by decide +kernel
theorem dX3_off_22 : decode cX3_off 22 = .ok (.aload_n 0, 1) := by decide +kernel
theorem dX3_off_23 : decode cX3_off 23 = .ok (.aload_n 1, 1) := by decide +kernel
theorem dX3_off_24 : decode cX3_off 24 = .ok (.iload 4, 2) := by decide +kernel
theorem dX3_off_26 : decode cX3_off 26 = .ok (.iload_n 2, 1) := by decide +kernel
theorem dX3_off_27 : decode cX3_off 27 = .ok (.invokevirtual 81, 3) := by decide +kernel
theorem dX3_off_30 : decode cX3_off 30 = .ok (.ifCond .eq 6, 3) := by decide +kernel
theorem dX3_off_33 : decode cX3_off 33 = .ok (.iinc 3 1, 3) := by decide +kernel
theorem dX3_off_36 : decode cX3_off 36 = .ok (.iinc 4 1, 3) := by decide +kernel
theorem dX3_off_39 : decode cX3_off 39 = .ok (.goto (-34), 3) := by decide +kernel
theorem dX3_off_42 : decode cX3_off 42 = .ok (.iload_n 3, 1) := by decide +kernel
theorem dX3_off_43 : decode cX3_off 43 = .ok (.ireturn, 1) := by decide +kernel
theorem dX3_firstOffBy_0 : decode cX3_firstOffBy 0 = .ok (.aload_n 0, 1) := by decide +kernel
theorem dX3_firstOffBy_1 : decode cX3_firstOffBy 1 = .ok (.getfield 21, 3) := by decide +kernel
theorem dX3_firstOffBy_4 : decode cX3_firstOffBy 4 = .ok (.aload_n 1, 1) := by decide +kernel
theorem dX3_firstOffBy_5 : decode cX3_firstOffBy 5 = .ok (.invokevirtual 84, 3) := by decide +kernel
theorem dX3_firstOffBy_8 : decode cX3_firstOffBy 8 = .ok (.aload_n 0, 1) := by decide +kernel
theorem dX3_firstOffBy_9 : decode cX3_firstOffBy 9 = .ok (.getfield 21, 3) := by decide +kernel
theorem dX3_firstOffBy_12 : decode cX3_firstOffBy 12 = .ok (.iload_n 2, 1) := by decide +kernel
theorem dX3_firstOffBy_13 : decode cX3_firstOffBy 13 = .ok (.iload_n 3, 1) := by decide +kernel
theorem dX3_firstOffBy_14 : decode cX3_firstOffBy 14 = .ok (.iload 4, 2) := by decide +kernel
theorem dX3_firstOffBy_16 : decode cX3_firstOffBy 16 = .ok (.iload 5, 2) := by decide +kernel
theorem dX3_firstOffBy_18 : decode cX3_firstOffBy 18 = .ok (.invokevirtual 88, 3) := by decide +kernel
theorem dX3_firstOffBy_21 : decode cX3_firstOffBy 21 = .ok (.iload_n 2, 1) := by decide +kernel
theorem dX3_firstOffBy_22 : decode cX3_firstOffBy 22 = .ok (.iload_n 3, 1) := by decide +kernel
theorem dX3_firstOffBy_23 : decode cX3_firstOffBy 23 = .ok (.invokestatic 44, 3) := by decide +kernel
theorem dX3_firstOffBy_26 : decode cX3_firstOffBy 26 = .ok (.istore 7, 2) := by decide +kernel
theorem dX3_firstOffBy_28 : decode cX3_firstOffBy 28 = .ok (.iconst 0, 1) := by decide +kernel
theorem dX3_firstOffBy_29 : decode cX3_firstOffBy 29 = .ok (.istore 8, 2) := by decide +kernel
theorem dX3_firstOffBy_31 : decode cX3_firstOffBy 31 = .ok (.iload 8, 2) := by decide +kernel
theorem dX3_firstOffBy_33 : decode cX3_firstOffBy 33 = .ok (.bipush 37, 2) := by decide +kernel
theorem dX3_firstOffBy_35 : decode cX3_firstOffBy 35 = .ok (.if_icmp .ge 47, 3) := by decide +kernel
theorem dX3_firstOffBy_38 : decode cX3_firstOffBy 38 = .ok (.aload_n 0, 1) := by decide +kernel
theorem dX3_firstOffBy_39 : decode cX3_firstOffBy 39 = .ok (.aload_n 0, 1) := by decide +kernel
theorem dX3_firstOffBy_40 : decode cX3_firstOffBy 40 = .ok (.getfield 21, 3) := by decide +kernel
theorem dX3_firstOffBy_43 : decode cX3_firstOffBy 43 = .ok (.iload 8, 2) := by decide +kernel
theorem dX3_firstOffBy_45 : decode cX3_firstOffBy 45 = .ok (.iload 7, 2) := by decide +kernel
theorem dX3_firstOffBy_47 : decode cX3_firstOffBy 47 = .ok (.invokevirtual 54, 3) := by decide +kernel
theorem dX3_firstOffBy_50 : decode cX3_firstOffBy 50 = .ok (.ifCond .eq 26, 3) := by decide +kernel
theorem dX3_firstOffBy_53 : decode cX3_firstOffBy 53 = .ok (.aload_n 0, 1) := by decide +kernel
theorem dX3_firstOffBy_54 : decode cX3_firstOffBy 54 = .ok (.aload_n 0, 1) := by decide +kernel
theorem dX3_firstOffBy_55 : decode cX3_firstOffBy 55 = .ok (.getfield 21, 3) := by decide +kernel
theorem dX3_firstOffBy_58 : decode cX3_firstOffBy 58 = .ok (.iload 8, 2) := by decide +kernel
theorem dX3_firstOffBy_60 : decode cX3_firstOffBy 60 = .ok (.invokevirtual 73, 3) := by decide +kernel
theorem dX3_firstOffBy_63 : decode cX3_firstOffBy 63 = .ok (.invokestatic 77, 3) := by decide +kernel
theorem dX3_firstOffBy_66 : decode cX3_firstOffBy 66 = .ok (.iload 6, 2) := by decide +kernel
theorem dX3_firstOffBy_68 : decode cX3_firstOffBy 68 = .ok (.i2l, 1) := by decide +kernel
theorem dX3_firstOffBy_69 : decode cX3_firstOffBy 69 = .ok (.lcmp, 1) := by decide +kernel
theorem dX3_firstOffBy_70 : decode cX3_firstOffBy 70 = .ok (.ifCond .le 6, 3) := by decide +kernel
theorem dX3_firstOffBy_73 : decode cX3_firstOffBy 73 = .ok (.iload 8, 2) := by decide +kernel
theorem dX3_firstOffBy_75 : decode cX3_firstOffBy 75 = .ok (.ireturn, 1) := by decide +kernel
theorem dX3_firstOffBy_76 : decode cX3_firstOffBy 76 = .ok (.iinc 8 1, 3) := by decide +kernel
theorem dX3_firstOffBy_79 : decode cX3_firstOffBy 79 = .ok (.goto (-48), 3) := by decide +kernel
theorem dX3_firstOffBy_82 : decode cX3_firstOffBy 82 = .ok (.iconst (-1), 1) := by decide +kernel
theorem dX3_firstOffBy_83 : decode cX3_firstOffBy 83 = .ok (.ireturn, 1) := by decide +kernel
theorem dX3_areSound_0 : decode cX3_areSound 0 = .ok (.iconst 0, 1) := by decide +kernel
theorem dX3_areSound_1 : decode cX3_areSound 1 = .ok (.istore_n 2, 1) := by decide +kernel
theorem dX3_areSound_2 : decode cX3_areSound 2 = .ok (.iload_n 2, 1) := by decide +kernel
theorem dX3_areSound_3 : decode cX3_areSound 3 = .ok (.bipush 37, 2) := by decide +kernel
theorem dX3_areSound_5 : decode cX3_areSound 5 = .ok (.if_icmp .ge 38, 3) := by decide +kernel
theorem dX3_areSound_8 : decode cX3_areSound 8 = .ok (.aload_n 0, 1) := by decide +kernel
theorem dX3_areSound_9 : decode cX3_areSound 9 = .ok (.aload_n 1, 1) := by decide +kernel
theorem dX3_areSound_10 : decode cX3_areSound 10 = .ok (.iload_n 2, 1) := by decide +kernel
theorem dX3_areSound_11 : decode cX3_areSound 11 = .ok (.invokevirtual 50, 3) := by decide +kernel
theorem dX3_areSound_14 : decode cX3_areSound 14 = .ok (.ifCond .eq 23, 3) := by decide +kernel
theorem dX3_areSound_17 : decode cX3_areSound 17 = .ok (.aload_n 0, 1) := by decide +kernel
theorem dX3_areSound_18 : decode cX3_areSound 18 = .ok (.aload_n 1, 1) := by decide +kernel
theorem dX3_areSound_19 : decode cX3_areSound 19 = .ok (.iload_n 2, 1) := by decide +kernel
theorem dX3_areSound_20 : decode cX3_areSound 20 = .ok (.iconst 1, 1) := by decide +kernel
theorem dX3_areSound_21 : decode cX3_areSound 21 = .ok (.invokevirtual 61, 3) := by decide +kernel
theorem dX3_areSound_24 : decode cX3_areSound 24 = .ok (.aload_n 0, 1) := by decide +kernel
theorem dX3_areSound_25 : decode cX3_areSound 25 = .ok (.aload_n 1, 1) := by decide +kernel
theorem dX3_areSound_26 : decode cX3_areSound 26 = .ok (.iload_n 2, 1) := by decide +kernel
theorem dX3_areSound_27 : decode cX3_areSound 27 = .ok (.iconst 0, 1) := by decide +kernel
theorem dX3_areSound_28 : decode cX3_areSound 28 = .ok (.invokevirtual 61, 3) := by decide +kernel
theorem dX3_areSound_31 : decode cX3_areSound 31 = .ok (.lcmp, 1) := by decide +kernel
theorem dX3_areSound_32 : decode cX3_areSound 32 = .ok (.ifCond .eq 5, 3) := by decide +kernel
theorem dX3_areSound_35 : decode cX3_areSound 35 = .ok (.iconst 0, 1) := by decide +kernel
theorem dX3_areSound_36 : decode cX3_areSound 36 = .ok (.ireturn, 1) := by decide +kernel
theorem dX3_areSound_37 : decode cX3_areSound 37 = .ok (.iinc 2 1, 3) := by decide +kernel
theorem dX3_areSound_40 : decode cX3_areSound 40 = .ok (.goto (-38), 3) := by decide +kernel
theorem dX3_areSound_43 : decode cX3_areSound 43 = .ok (.iconst 1, 1) := by decide +kernel
theorem dX3_areSound_44 : decode cX3_areSound 44 = .ok (.ireturn, 1) := by decide +kernel
theorem dX4_init_0 : decode cX4_init 0 = .ok (.aload_n 0, 1) := by decide +kernel
theorem dX4_init_1 : decode cX4_init 1 = .ok (.invokespecial 3, 3) := by decide +kernel
theorem dX4_init_4 : decode cX4_init 4 = .ok (.aload_n 0, 1) := by decide +kernel
theorem dX4_init_5 : decode cX4_init 5 = .ok (.bipush 25, 2) := by decide +kernel
theorem dX4_init_7 : decode cX4_init 7 = .ok (.newarray .int, 2) := by decide +kernel
theorem dX4_init_9 : decode cX4_init 9 = .ok (.putfield 9, 3) := by decide +kernel
theorem dX4_init_12 : decode cX4_init 12 = .ok (.aload_n 0, 1) := by decide +kernel
theorem dX4_init_13 : decode cX4_init 13 = .ok (.iconst 0, 1) := by decide +kernel
theorem dX4_init_14 : decode cX4_init 14 = .ok (.putfield 15, 3) := by decide +kernel
theorem dX4_init_17 : decode cX4_init 17 = .ok (.return_, 1) := by decide +kernel
theorem dX4_copy_0 : decode cX4_copy 0 = .ok (.aload_n 1, 1) := by decide +kernel
theorem dX4_copy_1 : decode cX4_copy 1 = .ok (.getfield 9, 3) := by decide +kernel
theorem dX4_copy_4 : decode cX4_copy 4 = .ok (.aload_n 0, 1) := by decide +kernel
theorem dX4_copy_5 : decode cX4_copy 5 = .ok (.getfield 9, 3) := by decide +kernel
theorem dX4_copy_8 : decode cX4_copy 8 = .ok (.invokestatic 19, 3) := by decide +kernel
theorem dX4_copy_11 : decode cX4_copy 11 = .ok (.aload_n 0, 1) := by decide +kernel
theorem dX4_copy_12 : decode cX4_copy 12 = .ok (.aload_n 1, 1) := by decide +kernel
theorem dX4_copy_13 : decode cX4_copy 13 = .ok (.getfield 15, 3) := by decide +kernel
theorem dX4_copy_16 : decode cX4_copy 16 = .ok (.putfield 15, 3) := by decide +kernel
theorem dX4_copy_19 : decode cX4_copy 19 = .ok (.return_, 1) := by decide +kernel
theorem dX4_up_0 : decode cX4_up 0 = .ok (.iload_n 1, 1) := by decide +kernel
theorem dX4_up_1 : decode cX4_up 1 = .ok (.ifCond .lt 17, 3) := by decide +kernel
theorem dX4_up_4 : decode cX4_up 4 = .ok (.iload_n 1, 1) := by decide +kernel
theorem dX4_up_5 : decode cX4_up 5 = .ok (.iconst 5, 1) := by decide +kernel
theorem dX4_up_6 : decode cX4_up 6 = .ok (.if_icmp .ge 12, 3) := by decide +kernel
theorem dX4_up_9 : decode cX4_up 9 = .ok (.iload_n 2, 1) := by decide +kernel
theorem dX4_up_10 : decode cX4_up 10 = .ok (.ifCond .lt 8, 3) := by decide +kernel
theorem dX4_up_13 : decode cX4_up 13 = .ok (.iload_n 2, 1) := by decide +kernel
theorem dX4_up_14 : decode cX4_up 14 = .ok (.iconst 5, 1) := by decide +kernel
theorem dX4_up_15 : decode cX4_up 15 = .ok (.if_icmp .lt 5, 3) := by decide +kernel
theorem dX4_up_18 : decode cX4_up 18 = .ok (.iconst 0, 1) := by decide +kernel
theorem dX4_up_19 : decode cX4_up 19 = .ok (.ireturn, 1) := by decide +kernel
theorem dX4_up_20 : decode cX4_up 20 = .ok (.iload_n 1, 1) := by decide +kernel
theorem dX4_up_21 : decode cX4_up 21 = .ok (.iconst 5, 1) := by decide +kernel
theorem dX4_up_22 : decode cX4_up 22 = .ok (.imul, 1) := by decide +kernel
theorem dX4_up_23 : decode cX4_up 23 = .ok (.iload_n 2, 1) := by decide +kernel
theorem dX4_up_24 : decode cX4_up 24 = .ok (.iadd, 1) := by decide +kernel
theorem dX4_up_25 : decode cX4_up 25 = .ok (.istore_n 3, 1) := by decide +kernel
theorem dX4_up_26 : decode cX4_up 26 = .ok (.iload_n 3, 1) := by decide +kernel
theorem dX4_up_27 : decode cX4_up 27 = .ok (.ifCond .lt 21, 3) := by decide +kernel
theorem dX4_up_30 : decode cX4_up 30 = .ok (.iload_n 3, 1) := by decide +kernel
theorem dX4_up_31 : decode cX4_up 31 = .ok (.aload_n 0, 1) := by decide +kernel
theorem dX4_up_32 : decode cX4_up 32 = .ok (.getfield 9, 3) := by decide +kernel
theorem dX4_up_35 : decode cX4_up 35 = .ok (.arraylength, 1) := by decide +kernel
theorem dX4_up_36 : decode cX4_up 36 = .ok (.if_icmp .ge 12, 3) := by decide +kernel
theorem dX4_up_39 : decode cX4_up 39 = .ok (.aload_n 0, 1) := by decide +kernel
theorem dX4_up_40 : decode cX4_up 40 = .ok (.getfield 9, 3) := by decide +kernel
theorem dX4_up_43 : decode cX4_up 43 = .ok (.iload_n 3, 1) := by decide +kernel
theorem dX4_up_44 : decode cX4_up 44 = .ok (.iaload, 1) := by decide +kernel
theorem dX4_up_45 : decode cX4_up 45 = .ok (.goto 4, 3) := by decide +kernel
theorem dX4_up_48 : decode cX4_up 48 = .ok (.iconst 0, 1) := by decide +kernel
theorem dX4_up_49 : decode cX4_up 49 = .ok (.ireturn, 1) := by decide +kernel
theorem dX4_has_0 : decode cX4_has 0 = .ok (.aload_n 0, 1) := by decide +kernel
theorem dX4_has_1 : decode cX4_has 1 = .ok (.iload_n 1, 1) := by decide +kernel
theorem dX4_has_2 : decode cX4_has 2 = .ok (.iload_n 2, 1) := by decide +kernel
theorem dX4_has_3 : decode cX4_has 3 = .ok (.invokevirtual 23, 3) := by decide +kernel
theorem dX4_has_6 : decode cX4_has 6 = .ok (.ifCond .le 7, 3) := by decide +kernel
theorem dX4_has_9 : decode cX4_has 9 = .ok (.iconst 1, 1) := by decide +kernel
theorem dX4_has_10 : decode cX4_has 10 = .ok (.goto 4, 3) := by decide +kernel
theorem dX4_has_13 : decode cX4_has 13 = .ok (.iconst 0, 1) := by decide +kernel
theorem dX4_has_14 : decode cX4_has 14 = .ok (.ireturn, 1) := by decide +kernel
theorem dX4_size_0 : decode cX4_size 0 = .ok (.aload_n 0, 1) := by decide +kernel
theorem dX4_size_1 : decode cX4_size 1 = .ok (.getfield 15, 3) := by decide +kernel
theorem dX4_size_4 : decode cX4_size 4 = .ok (.invokestatic 27, 3) := by decide +kernel
theorem dX4_size_7 : decode cX4_size 7 = .ok (.ireturn, 1) := by decide +kernel
theorem dX4_lay_0 : decode cX4_lay 0 = .ok (.iload_n 1, 1) := by decide +kernel
theorem dX4_lay_1 : decode cX4_lay 1 = .ok (.invokestatic 33, 3) := by decide +kernel
theorem dX4_lay_4 : decode cX4_lay 4 = .ok (.ifCond .eq 15, 3) := by decide +kernel
theorem dX4_lay_7 : decode cX4_lay 7 = .ok (.iload_n 2, 1) := by decide +kernel
theorem dX4_lay_8 : decode cX4_lay 8 = .ok (.invokestatic 33, 3) := by decide +kernel
theorem dX4_lay_11 : decode cX4_lay 11 = .ok (.ifCond .eq 8, 3) := by decide +kernel
theorem dX4_lay_14 : decode cX4_lay 14 = .ok (.iload_n 1, 1) := by decide +kernel
theorem dX4_lay_15 : decode cX4_lay 15 = .ok (.iload_n 2, 1) := by decide +kernel
theorem dX4_lay_16 : decode cX4_lay 16 = .ok (.if_icmp .ne 4, 3) := by decide +kernel
theorem dX4_lay_19 : decode cX4_lay 19 = .ok (.return_, 1) := by decide +kernel
theorem dX4_lay_20 : decode cX4_lay 20 = .ok (.aload_n 0, 1) := by decide +kernel
theorem dX4_lay_21 : decode cX4_lay 21 = .ok (.getfield 9, 3) := by decide +kernel
theorem dX4_lay_24 : decode cX4_lay 24 = .ok (.iload_n 1, 1) := by decide +kernel
theorem dX4_lay_25 : decode cX4_lay 25 = .ok (.iconst 5, 1) := by decide +kernel
theorem dX4_lay_26 : decode cX4_lay 26 = .ok (.imul, 1) := by decide +kernel
theorem dX4_lay_27 : decode cX4_lay 27 = .ok (.iload_n 2, 1) := by decide +kernel
theorem dX4_lay_28 : decode cX4_lay 28 = .ok (.iadd, 1) := by decide +kernel
theorem dX4_lay_29 : decode cX4_lay 29 = .ok (.iload_n 3, 1) := by decide +kernel
theorem dX4_lay_30 : decode cX4_lay 30 = .ok (.invokestatic 37, 3) := by decide +kernel
theorem dX4_lay_33 : decode cX4_lay 33 = .ok (.aload_n 0, 1) := by decide +kernel
theorem dX4_lay_34 : decode cX4_lay 34 = .ok (.getfield 9, 3) := by decide +kernel
theorem dX4_lay_37 : decode cX4_lay 37 = .ok (.iload_n 2, 1) := by decide +kernel
theorem dX4_lay_38 : decode cX4_lay 38 = .ok (.iconst 5, 1) := by decide +kernel
theorem dX4_lay_39 : decode cX4_lay 39 = .ok (.imul, 1) := by decide +kernel
theorem dX4_lay_40 : decode cX4_lay 40 = .ok (.iload_n 1, 1) := by decide +kernel
theorem dX4_lay_41 : decode cX4_lay 41 = .ok (.iadd, 1) := by decide +kernel
theorem dX4_lay_42 : decode cX4_lay 42 = .ok (.iload 4, 2) := by decide +kernel
theorem dX4_lay_44 : decode cX4_lay 44 = .ok (.invokestatic 37, 3) := by decide +kernel
theorem dX4_lay_47 : decode cX4_lay 47 = .ok (.iload_n 1, 1) := by decide +kernel
theorem dX4_lay_48 : decode cX4_lay 48 = .ok (.iload_n 2, 1) := by decide +kernel
theorem dX4_lay_49 : decode cX4_lay 49 = .ok (.invokestatic 41, 3) := by decide +kernel
theorem dX4_lay_52 : decode cX4_lay 52 = .ok (.istore 5, 2) := by decide +kernel
theorem dX4_lay_54 : decode cX4_lay 54 = .ok (.aload_n 0, 1) := by decide +kernel
theorem dX4_lay_55 : decode cX4_lay 55 = .ok (.iload_n 3, 1) := by decide +kernel
theorem dX4_lay_56 : decode cX4_lay 56 = .ok (.ifCond .le 13, 3) := by decide +kernel
theorem dX4_lay_59 : decode cX4_lay 59 = .ok (.aload_n 0, 1) := by decide +kernel
theorem dX4_lay_60 : decode cX4_lay 60 = .ok (.getfield 15, 3) := by decide +kernel
theorem dX4_lay_63 : decode cX4_lay 63 = .ok (.iload 5, 2) := by decide +kernel
theorem dX4_lay_65 : decode cX4_lay 65 = .ok (.ior, 1) := by decide +kernel
theorem dX4_lay_66 : decode cX4_lay 66 = .ok (.goto 12, 3) := by decide +kernel
theorem dX4_lay_69 : decode cX4_lay 69 = .ok (.aload_n 0, 1) := by decide +kernel
theorem dX4_lay_70 : decode cX4_lay 70 = .ok (.getfield 15, 3) := by decide +kernel
theorem dX4_lay_73 : decode cX4_lay 73 = .ok (.iload 5, 2) := by decide +kernel
theorem dX4_lay_75 : decode cX4_lay 75 = .ok (.iconst (-1), 1) := by decide +kernel
theorem dX4_lay_76 : decode cX4_lay 76 = .ok (.ixor, 1) := by decide +kernel
theorem dX4_lay_77 : decode cX4_lay 77 = .ok (.iand, 1) := by decide +kernel
theorem dX4_lay_78 : decode cX4_lay 78 = .ok (.putfield 15, 3) := by decide +kernel
theorem dX4_lay_81 : decode cX4_lay 81 = .ok (.return_, 1) := by decide +kernel
theorem dX5_init_0 : decode cX5_init 0 = .ok (.aload_n 0, 1) := by decide +kernel
theorem dX5_init_1 : decode cX5_init 1 = .ok (.invokespecial 3, 3) := by decide +kernel
theorem dX5_init_4 : decode cX5_init 4 = .ok (.aload_n 0, 1) := by decide +kernel
theorem dX5_init_5 : decode cX5_init 5 = .ok (.bipush 60, 2) := by decide +kernel
theorem dX5_init_7 : decode cX5_init 7 = .ok (.newarray .int, 2) := by decide +kernel
theorem dX5_init_9 : decode cX5_init 9 = .ok (.putfield 9, 3) := by decide +kernel
theorem dX5_init_12 : decode cX5_init 12 = .ok (.aload_n 0, 1) := by decide +kernel
theorem dX5_init_13 : decode cX5_init 13 = .ok (.iconst 0, 1) := by decide +kernel
theorem dX5_init_14 : decode cX5_init 14 = .ok (.putfield 15, 3) := by decide +kernel
theorem dX5_init_17 : decode cX5_init 17 = .ok (.aload_n 0, 1) := by decide +kernel
theorem dX5_init_18 : decode cX5_init 18 = .ok (.iconst 0, 1) := by decide +kernel
theorem dX5_init_19 : decode cX5_init 19 = .ok (.putfield 19, 3) := by decide +kernel
theorem dX5_init_22 : decode cX5_init 22 = .ok (.return_, 1) := by decide +kernel
theorem dX5_add_0 : decode cX5_add 0 = .ok (.aload_n 0, 1) := by decide +kernel
theorem dX5_add_1 : decode cX5_add 1 = .ok (.getfield 15, 3) := by decide +kernel
theorem dX5_add_4 : decode cX5_add 4 = .ok (.bipush 60, 2) := by decide +kernel
theorem dX5_add_6 : decode cX5_add 6 = .ok (.if_icmp .ge 25, 3) := by decide +kernel
theorem dX5_add_9 : decode cX5_add 9 = .ok (.aload_n 0, 1) := by decide +kernel
theorem dX5_add_10 : decode cX5_add 10 = .ok (.getfield 9, 3) := by decide +kernel
theorem dX5_add_13 : decode cX5_add 13 = .ok (.aload_n 0, 1) := by decide +kernel
theorem dX5_add_14 : decode cX5_add 14 = .ok (.getfield 15, 3) := by decide +kernel
theorem dX5_add_17 : decode cX5_add 17 = .ok (.iload_n 1, 1) := by decide +kernel
theorem dX5_add_18 : decode cX5_add 18 = .ok (.invokestatic 22, 3) := by decide +kernel
theorem dX5_add_21 : decode cX5_add 21 = .ok (.aload_n 0, 1) := by decide +kernel
theorem dX5_add_22 : decode cX5_add 22 = .ok (.dup, 1) := by decide +kernel
theorem dX5_add_23 : decode cX5_add 23 = .ok (.getfield 15, 3) := by decide +kernel
theorem dX5_add_26 : decode cX5_add 26 = .ok (.iconst 1, 1) := by decide +kernel
theorem dX5_add_27 : decode cX5_add 27 = .ok (.iadd, 1) := by decide +kernel
theorem dX5_add_28 : decode cX5_add 28 = .ok (.putfield 15, 3) := by decide +kernel
theorem dX5_add_31 : decode cX5_add 31 = .ok (.return_, 1) := by decide +kernel
theorem dX5_empty_0 : decode cX5_empty 0 = .ok (.aload_n 0, 1) := by decide +kernel
theorem dX5_empty_1 : decode cX5_empty 1 = .ok (.getfield 15, 3) := by decide +kernel
theorem dX5_empty_4 : decode cX5_empty 4 = .ok (.istore_n 1, 1) := by decide +kernel
theorem dX5_empty_5 : decode cX5_empty 5 = .ok (.aload_n 0, 1) := by decide +kernel
theorem dX5_empty_6 : decode cX5_empty 6 = .ok (.iconst 0, 1) := by decide +kernel
theorem dX5_empty_7 : decode cX5_empty 7 = .ok (.putfield 15, 3) := by decide +kernel
theorem dX5_empty_10 : decode cX5_empty 10 = .ok (.iload_n 1, 1) := by decide +kernel
theorem dX5_empty_11 : decode cX5_empty 11 = .ok (.ireturn, 1) := by decide +kernel
theorem dX5_read_0 : decode cX5_read 0 = .ok (.aload_n 0, 1) := by decide +kernel
theorem dX5_read_1 : decode cX5_read 1 = .ok (.iconst 0, 1) := by decide +kernel
theorem dX5_read_2 : decode cX5_read 2 = .ok (.putfield 19, 3) := by decide +kernel
theorem dX5_read_5 : decode cX5_read 5 = .ok (.iconst 0, 1) := by decide +kernel
theorem dX5_read_6 : decode cX5_read 6 = .ok (.istore_n 1, 1) := by decide +kernel
theorem dX5_read_7 : decode cX5_read 7 = .ok (.iload_n 1, 1) := by decide +kernel
theorem dX5_read_8 : decode cX5_read 8 = .ok (.aload_n 0, 1) := by decide +kernel
theorem dX5_read_9 : decode cX5_read 9 = .ok (.getfield 15, 3) := by decide +kernel
theorem dX5_read_12 : decode cX5_read 12 = .ok (.if_icmp .ge 38, 3) := by decide +kernel
theorem dX5_read_15 : decode cX5_read 15 = .ok (.aload_n 0, 1) := by decide +kernel
theorem dX5_read_16 : decode cX5_read 16 = .ok (.aload_n 0, 1) := by decide +kernel
theorem dX5_read_17 : decode cX5_read 17 = .ok (.getfield 19, 3) := by decide +kernel
theorem dX5_read_20 : decode cX5_read 20 = .ok (.aload_n 0, 1) := by decide +kernel
theorem dX5_read_21 : decode cX5_read 21 = .ok (.getfield 9, 3) := by decide +kernel
theorem dX5_read_24 : decode cX5_read 24 = .ok (.iload_n 1, 1) := by decide +kernel
theorem dX5_read_25 : decode cX5_read 25 = .ok (.invokestatic 26, 3) := by decide +kernel
theorem dX5_read_28 : decode cX5_read 28 = .ok (.invokestatic 30, 3) := by decide +kernel
theorem dX5_read_31 : decode cX5_read 31 = .ok (.putfield 19, 3) := by decide +kernel
theorem dX5_read_34 : decode cX5_read 34 = .ok (.aload_n 0, 1) := by decide +kernel
theorem dX5_read_35 : decode cX5_read 35 = .ok (.getfield 19, 3) := by decide +kernel
theorem dX5_read_38 : decode cX5_read 38 = .ok (.iconst (-1), 1) := by decide +kernel
theorem dX5_read_39 : decode cX5_read 39 = .ok (.if_icmp .ne 5, 3) := by decide +kernel
theorem dX5_read_42 : decode cX5_read 42 = .ok (.iload_n 1, 1) := by decide +kernel
theorem dX5_read_43 : decode cX5_read 43 = .ok (.ireturn, 1) := by decide +kernel
theorem dX5_read_44 : decode cX5_read 44 = .ok (.iinc 1 1, 3) := by decide +kernel
theorem dX5_read_47 : decode cX5_read 47 = .ok (.goto (-40), 3) := by decide +kernel
theorem dX5_read_50 : decode cX5_read 50 = .ok (.aload_n 0, 1) := by decide +kernel
theorem dX5_read_51 : decode cX5_read 51 = .ok (.getfield 15, 3) := by decide +kernel
theorem dX5_read_54 : decode cX5_read 54 = .ok (.ireturn, 1) := by decide +kernel
theorem dX5_isComplete_0 : decode cX5_isComplete 0 = .ok (.aload_n 0, 1) := by decide +kernel
theorem dX5_isComplete_1 : decode cX5_isComplete 1 = .ok (.invokevirtual 34, 3) := by decide +kernel
theorem dX5_isComplete_4 : decode cX5_isComplete 4 = .ok (.aload_n 0, 1) := by decide +kernel
theorem dX5_isComplete_5 : decode cX5_isComplete 5 = .ok (.getfield 15, 3) := by decide +kernel
theorem dX5_isComplete_8 : decode cX5_isComplete 8 = .ok (.if_icmp .ne 17, 3) := by decide +kernel
theorem dX5_isComplete_11 : decode cX5_isComplete 11 = .ok (.aload_n 0, 1) := by decide +kernel
theorem dX5_isComplete_12 : decode cX5_isComplete 12 = .ok (.getfield 19, 3) := by decide +kernel
theorem dX5_isComplete_15 : decode cX5_isComplete 15 = .ok (.invokestatic 38, 3) := by decide +kernel
theorem dX5_isComplete_18 : decode cX5_isComplete 18 = .ok (.ifCond .eq 7, 3) := by decide +kernel
theorem dX5_isComplete_21 : decode cX5_isComplete 21 = .ok (.iconst 1, 1) := by decide +kernel
theorem dX5_isComplete_22 : decode cX5_isComplete 22 = .ok (.goto 4, 3) := by decide +kernel
theorem dX5_isComplete_25 : decode cX5_isComplete 25 = .ok (.iconst 0, 1) := by decide +kernel
theorem dX5_isComplete_26 : decode cX5_isComplete 26 = .ok (.ireturn, 1) := by decide +kernel
theorem dX5_mayEnd_0 : decode cX5_mayEnd 0 = .ok (.iload_n 0, 1) := by decide +kernel
theorem dX5_mayEnd_1 : decode cX5_mayEnd 1 = .ok (.tableswitch 65 8 19 #[63, 65, 65, 65, 65, 65, 65, 65, 63, 63, 63, 63], 63) := by decide +kernel
theorem dX5_mayEnd_64 : decode cX5_mayEnd 64 = .ok (.iconst 1, 1) := by decide +kernel
theorem dX5_mayEnd_65 : decode cX5_mayEnd 65 = .ok (.ireturn, 1) := by decide +kernel
theorem dX5_mayEnd_66 : decode cX5_mayEnd 66 = .ok (.iconst 0, 1) := by decide +kernel
theorem dX5_mayEnd_67 : decode cX5_mayEnd 67 = .ok (.ireturn, 1) := by decide +kernel
theorem dX5_next_0 : decode cX5_next 0 = .ok (.iload_n 1, 1) := by decide +kernel
theorem dX5_next_1 : decode cX5_next 1 = .ok (.bipush 59, 2) := by decide +kernel
theorem dX5_next_3 : decode cX5_next 3 = .ok (.if_icmp .ne 16, 3) := by decide +kernel
theorem dX5_next_6 : decode cX5_next 6 = .ok (.iload_n 0, 1) := by decide +kernel
theorem dX5_next_7 : decode cX5_next 7 = .ok (.invokestatic 38, 3) := by decide +kernel
theorem dX5_next_10 : decode cX5_next 10 = .ok (.ifCond .eq 7, 3) := by decide +kernel
theorem dX5_next_13 : decode cX5_next 13 = .ok (.iconst 0, 1) := by decide +kernel
theorem dX5_next_14 : decode cX5_next 14 = .ok (.goto 4, 3) := by decide +kernel
theorem dX5_next_17 : decode cX5_next 17 = .ok (.iconst (-1), 1) := by decide +kernel
theorem dX5_next_18 : decode cX5_next 18 = .ok (.ireturn, 1) := by decide +kernel
theorem dX5_next_19 : decode cX5_next 19 = .ok (.iload_n 0, 1) := by decide +kernel
theorem dX5_next_20 : decode cX5_next 20 = .ok (.tableswitch 276 0 12 #[68, 73, 85, 102, 114, 131, 160, 173, 191, 209, 227, 245, 258], 68) := by decide +kernel
theorem dX5_next_88 : decode cX5_next 88 = .ok (.iload_n 1, 1) := by decide +kernel
theorem dX5_next_89 : decode cX5_next 89 = .ok (.invokestatic 42, 3) := by decide +kernel
theorem dX5_next_92 : decode cX5_next 92 = .ok (.ireturn, 1) := by decide +kernel
theorem dX5_next_93 : decode cX5_next 93 = .ok (.iload_n 1, 1) := by decide +kernel
theorem dX5_next_94 : decode cX5_next 94 = .ok (.bipush 62, 2) := by decide +kernel
theorem dX5_next_96 : decode cX5_next 96 = .ok (.if_icmp .ne 7, 3) := by decide +kernel
theorem dX5_next_99 : decode cX5_next 99 = .ok (.iconst 2, 1) := by decide +kernel
theorem dX5_next_100 : decode cX5_next 100 = .ok (.goto 4, 3) := by decide +kernel
theorem dX5_next_103 : decode cX5_next 103 = .ok (.iconst (-1), 1) := by decide +kernel
theorem dX5_next_104 : decode cX5_next 104 = .ok (.ireturn, 1) := by decide +kernel
theorem dX5_next_105 : decode cX5_next 105 = .ok (.iload_n 1, 1) := by decide +kernel
theorem dX5_next_106 : decode cX5_next 106 = .ok (.bipush 48, 2) := by decide +kernel
theorem dX5_next_108 : decode cX5_next 108 = .ok (.bipush 52, 2) := by decide +kernel
theorem dX5_next_110 : decode cX5_next 110 = .ok (.invokestatic 46, 3) := by decide +kernel
theorem dX5_next_113 : decode cX5_next 113 = .ok (.ifCond .eq 7, 3) := by decide +kernel
theorem dX5_next_116 : decode cX5_next 116 = .ok (.iconst 3, 1) := by decide +kernel
theorem dX5_next_117 : decode cX5_next 117 = .ok (.goto 4, 3) := by decide +kernel
theorem dX5_next_120 : decode cX5_next 120 = .ok (.iconst (-1), 1) := by decide +kernel
theorem dX5_next_121 : decode cX5_next 121 = .ok (.ireturn, 1) := by decide +kernel
theorem dX5_next_122 : decode cX5_next 122 = .ok (.iload_n 1, 1) := by decide +kernel
theorem dX5_next_123 : decode cX5_next 123 = .ok (.bipush 61, 2) := by decide +kernel
theorem dX5_next_125 : decode cX5_next 125 = .ok (.if_icmp .ne 7, 3) := by decide +kernel
theorem dX5_next_128 : decode cX5_next 128 = .ok (.iconst 4, 1) := by decide +kernel
theorem dX5_next_129 : decode cX5_next 129 = .ok (.goto 4, 3) := by decide +kernel
theorem dX5_next_132 : decode cX5_next 132 = .ok (.iconst (-1), 1) := by decide +kernel
theorem dX5_next_133 : decode cX5_next 133 = .ok (.ireturn, 1) := by decide +kernel
theorem dX5_next_134 : decode cX5_next 134 = .ok (.iload_n 1, 1) := by decide +kernel
theorem dX5_next_135 : decode cX5_next 135 = .ok (.bipush 49, 2) := by decide +kernel
theorem dX5_next_137 : decode cX5_next 137 = .ok (.bipush 57, 2) := by decide +kernel
theorem dX5_next_139 : decode cX5_next 139 = .ok (.invokestatic 46, 3) := by decide +kernel
theorem dX5_next_142 : decode cX5_next 142 = .ok (.ifCond .eq 7, 3) := by decide +kernel
theorem dX5_next_145 : decode cX5_next 145 = .ok (.iconst 5, 1) := by decide +kernel
theorem dX5_next_146 : decode cX5_next 146 = .ok (.goto 4, 3) := by decide +kernel
theorem dX5_next_149 : decode cX5_next 149 = .ok (.iconst (-1), 1) := by decide +kernel
theorem dX5_next_150 : decode cX5_next 150 = .ok (.ireturn, 1) := by decide +kernel
theorem dX5_next_151 : decode cX5_next 151 = .ok (.iload_n 1, 1) := by decide +kernel
theorem dX5_next_152 : decode cX5_next 152 = .ok (.bipush 48, 2) := by decide +kernel
theorem dX5_next_154 : decode cX5_next 154 = .ok (.bipush 57, 2) := by decide +kernel
theorem dX5_next_156 : decode cX5_next 156 = .ok (.invokestatic 46, 3) := by decide +kernel
theorem dX5_next_159 : decode cX5_next 159 = .ok (.ifCond .eq 8, 3) := by decide +kernel
theorem dX5_next_162 : decode cX5_next 162 = .ok (.bipush 6, 2) := by decide +kernel
theorem dX5_next_164 : decode cX5_next 164 = .ok (.goto 15, 3) := by decide +kernel
theorem dX5_next_167 : decode cX5_next 167 = .ok (.iload_n 1, 1) := by decide +kernel
theorem dX5_next_168 : decode cX5_next 168 = .ok (.bipush 47, 2) := by decide +kernel
theorem dX5_next_170 : decode cX5_next 170 = .ok (.if_icmp .ne 8, 3) := by decide +kernel
theorem dX5_next_173 : decode cX5_next 173 = .ok (.bipush 7, 2) := by decide +kernel
theorem dX5_next_175 : decode cX5_next 175 = .ok (.goto 4, 3) := by decide +kernel
theorem dX5_next_178 : decode cX5_next 178 = .ok (.iconst (-1), 1) := by decide +kernel
theorem dX5_next_179 : decode cX5_next 179 = .ok (.ireturn, 1) := by decide +kernel
theorem dX5_next_180 : decode cX5_next 180 = .ok (.iload_n 1, 1) := by decide +kernel
theorem dX5_next_181 : decode cX5_next 181 = .ok (.bipush 47, 2) := by decide +kernel
theorem dX5_next_183 : decode cX5_next 183 = .ok (.if_icmp .ne 8, 3) := by decide +kernel
theorem dX5_next_186 : decode cX5_next 186 = .ok (.bipush 7, 2) := by decide +kernel
theorem dX5_next_188 : decode cX5_next 188 = .ok (.goto 4, 3) := by decide +kernel
theorem dX5_next_191 : decode cX5_next 191 = .ok (.iconst (-1), 1) := by decide +kernel
theorem dX5_next_192 : decode cX5_next 192 = .ok (.ireturn, 1) := by decide +kernel
theorem dX5_next_193 : decode cX5_next 193 = .ok (.iload_n 1, 1) := by decide +kernel
theorem dX5_next_194 : decode cX5_next 194 = .ok (.bipush 49, 2) := by decide +kernel
theorem dX5_next_196 : decode cX5_next 196 = .ok (.bipush 57, 2) := by decide +kernel
theorem dX5_next_198 : decode cX5_next 198 = .ok (.invokestatic 46, 3) := by decide +kernel
theorem dX5_next_201 : decode cX5_next 201 = .ok (.ifCond .eq 8, 3) := by decide +kernel
theorem dX5_next_204 : decode cX5_next 204 = .ok (.bipush 8, 2) := by decide +kernel
theorem dX5_next_206 : decode cX5_next 206 = .ok (.goto 4, 3) := by decide +kernel
theorem dX5_next_209 : decode cX5_next 209 = .ok (.iconst (-1), 1) := by decide +kernel
theorem dX5_next_210 : decode cX5_next 210 = .ok (.ireturn, 1) := by decide +kernel
theorem dX5_next_211 : decode cX5_next 211 = .ok (.iload_n 1, 1) := by decide +kernel
theorem dX5_next_212 : decode cX5_next 212 = .ok (.bipush 48, 2) := by decide +kernel
theorem dX5_next_214 : decode cX5_next 214 = .ok (.bipush 57, 2) := by decide +kernel
theorem dX5_next_216 : decode cX5_next 216 = .ok (.invokestatic 46, 3) := by decide +kernel
theorem dX5_next_219 : decode cX5_next 219 = .ok (.ifCond .eq 8, 3) := by decide +kernel
theorem dX5_next_222 : decode cX5_next 222 = .ok (.bipush 19, 2) := by decide +kernel
theorem dX5_next_224 : decode cX5_next 224 = .ok (.goto 4, 3) := by decide +kernel
theorem dX5_next_227 : decode cX5_next 227 = .ok (.iconst (-1), 1) := by decide +kernel
theorem dX5_next_228 : decode cX5_next 228 = .ok (.ireturn, 1) := by decide +kernel
theorem dX5_next_229 : decode cX5_next 229 = .ok (.iload_n 1, 1) := by decide +kernel
theorem dX5_next_230 : decode cX5_next 230 = .ok (.bipush 48, 2) := by decide +kernel
theorem dX5_next_232 : decode cX5_next 232 = .ok (.bipush 52, 2) := by decide +kernel
theorem dX5_next_234 : decode cX5_next 234 = .ok (.invokestatic 46, 3) := by decide +kernel
theorem dX5_next_237 : decode cX5_next 237 = .ok (.ifCond .eq 8, 3) := by decide +kernel
theorem dX5_next_240 : decode cX5_next 240 = .ok (.bipush 11, 2) := by decide +kernel
theorem dX5_next_242 : decode cX5_next 242 = .ok (.goto 4, 3) := by decide +kernel
theorem dX5_next_245 : decode cX5_next 245 = .ok (.iconst (-1), 1) := by decide +kernel
theorem dX5_next_246 : decode cX5_next 246 = .ok (.ireturn, 1) := by decide +kernel
theorem dX5_next_247 : decode cX5_next 247 = .ok (.iload_n 1, 1) := by decide +kernel
theorem dX5_next_248 : decode cX5_next 248 = .ok (.bipush 48, 2) := by decide +kernel
theorem dX5_next_250 : decode cX5_next 250 = .ok (.bipush 55, 2) := by decide +kernel
theorem dX5_next_252 : decode cX5_next 252 = .ok (.invokestatic 46, 3) := by decide +kernel
theorem dX5_next_255 : decode cX5_next 255 = .ok (.ifCond .eq 8, 3) := by decide +kernel
theorem dX5_next_258 : decode cX5_next 258 = .ok (.bipush 11, 2) := by decide +kernel
theorem dX5_next_260 : decode cX5_next 260 = .ok (.goto 4, 3) := by decide +kernel
theorem dX5_next_263 : decode cX5_next 263 = .ok (.iconst (-1), 1) := by decide +kernel
theorem dX5_next_264 : decode cX5_next 264 = .ok (.ireturn, 1) := by decide +kernel
theorem dX5_next_265 : decode cX5_next 265 = .ok (.iload_n 1, 1) := by decide +kernel
theorem dX5_next_266 : decode cX5_next 266 = .ok (.bipush 62, 2) := by decide +kernel
theorem dX5_next_268 : decode cX5_next 268 = .ok (.if_icmp .ne 8, 3) := by decide +kernel
theorem dX5_next_271 : decode cX5_next 271 = .ok (.bipush 12, 2) := by decide +kernel
theorem dX5_next_273 : decode cX5_next 273 = .ok (.goto 4, 3) := by decide +kernel
theorem dX5_next_276 : decode cX5_next 276 = .ok (.iconst (-1), 1) := by decide +kernel
theorem dX5_next_277 : decode cX5_next 277 = .ok (.ireturn, 1) := by decide +kernel
theorem dX5_next_278 : decode cX5_next 278 = .ok (.iload_n 1, 1) := by decide +kernel
theorem dX5_next_279 : decode cX5_next 279 = .ok (.bipush 48, 2) := by decide +kernel
theorem dX5_next_281 : decode cX5_next 281 = .ok (.bipush 52, 2) := by decide +kernel
theorem dX5_next_283 : decode cX5_next 283 = .ok (.invokestatic 46, 3) := by decide +kernel
theorem dX5_next_286 : decode cX5_next 286 = .ok (.ifCond .eq 8, 3) := by decide +kernel
theorem dX5_next_289 : decode cX5_next 289 = .ok (.bipush 19, 2) := by decide +kernel
theorem dX5_next_291 : decode cX5_next 291 = .ok (.goto 4, 3) := by decide +kernel
theorem dX5_next_294 : decode cX5_next 294 = .ok (.iconst (-1), 1) := by decide +kernel
theorem dX5_next_295 : decode cX5_next 295 = .ok (.ireturn, 1) := by decide +kernel
theorem dX5_next_296 : decode cX5_next 296 = .ok (.iload_n 0, 1) := by decide +kernel
theorem dX5_next_297 : decode cX5_next 297 = .ok (.iload_n 1, 1) := by decide +kernel
theorem dX5_next_298 : decode cX5_next 298 = .ok (.invokestatic 50, 3) := by decide +kernel
theorem dX5_next_301 : decode cX5_next 301 = .ok (.ireturn, 1) := by decide +kernel
theorem dX5_nextOfPart_0 : decode cX5_nextOfPart 0 = .ok (.iload_n 0, 1) := by decide +kernel
theorem dX5_nextOfPart_1 : decode cX5_nextOfPart 1 = .ok (.bipush 48, 2) := by decide +kernel
theorem dX5_nextOfPart_3 : decode cX5_nextOfPart 3 = .ok (.bipush 52, 2) := by decide +kernel
theorem dX5_nextOfPart_5 : decode cX5_nextOfPart 5 = .ok (.invokestatic 46, 3) := by decide +kernel
theorem dX5_nextOfPart_8 : decode cX5_nextOfPart 8 = .ok (.ifCond .eq 5, 3) := by decide +kernel
theorem dX5_nextOfPart_11 : decode cX5_nextOfPart 11 = .ok (.iconst 1, 1) := by decide +kernel
theorem dX5_nextOfPart_12 : decode cX5_nextOfPart 12 = .ok (.ireturn, 1) := by decide +kernel
theorem dX5_nextOfPart_13 : decode cX5_nextOfPart 13 = .ok (.iload_n 0, 1) := by decide +kernel
theorem dX5_nextOfPart_14 : decode cX5_nextOfPart 14 = .ok (.lookupswitch 43 #[(45, 34), (98, 37), (115, 40)], 34) := by decide +kernel
theorem dX5_nextOfPart_48 : decode cX5_nextOfPart 48 = .ok (.bipush 9, 2) := by decide +kernel
theorem dX5_nextOfPart_50 : decode cX5_nextOfPart 50 = .ok (.ireturn, 1) := by decide +kernel
theorem dX5_nextOfPart_51 : decode cX5_nextOfPart 51 = .ok (.bipush 13, 2) := by decide +kernel
theorem dX5_nextOfPart_53 : decode cX5_nextOfPart 53 = .ok (.ireturn, 1) := by decide +kernel
theorem dX5_nextOfPart_54 : decode cX5_nextOfPart 54 = .ok (.bipush 10, 2) := by decide +kernel
theorem dX5_nextOfPart_56 : decode cX5_nextOfPart 56 = .ok (.ireturn, 1) := by decide +kernel
theorem dX5_nextOfPart_57 : decode cX5_nextOfPart 57 = .ok (.iconst (-1), 1) := by decide +kernel
theorem dX5_nextOfPart_58 : decode cX5_nextOfPart 58 = .ok (.ireturn, 1) := by decide +kernel
theorem dX5_nextOfBolt_0 : decode cX5_nextOfBolt 0 = .ok (.iload_n 0, 1) := by decide +kernel
theorem dX5_nextOfBolt_1 : decode cX5_nextOfBolt 1 = .ok (.tableswitch 142 13 18 #[39, 57, 70, 88, 106, 124], 39) := by decide +kernel
theorem dX5_nextOfBolt_40 : decode cX5_nextOfBolt 40 = .ok (.iload_n 1, 1) := by decide +kernel
theorem dX5_nextOfBolt_41 : decode cX5_nextOfBolt 41 = .ok (.bipush 48, 2) := by decide +kernel
theorem dX5_nextOfBolt_43 : decode cX5_nextOfBolt 43 = .ok (.bipush 52, 2) := by decide +kernel
theorem dX5_nextOfBolt_45 : decode cX5_nextOfBolt 45 = .ok (.invokestatic 46, 3) := by decide +kernel
theorem dX5_nextOfBolt_48 : decode cX5_nextOfBolt 48 = .ok (.ifCond .eq 8, 3) := by decide +kernel
theorem dX5_nextOfBolt_51 : decode cX5_nextOfBolt 51 = .ok (.bipush 14, 2) := by decide +kernel
theorem dX5_nextOfBolt_53 : decode cX5_nextOfBolt 53 = .ok (.goto 4, 3) := by decide +kernel
theorem dX5_nextOfBolt_56 : decode cX5_nextOfBolt 56 = .ok (.iconst (-1), 1) := by decide +kernel
theorem dX5_nextOfBolt_57 : decode cX5_nextOfBolt 57 = .ok (.ireturn, 1) := by decide +kernel
theorem dX5_nextOfBolt_58 : decode cX5_nextOfBolt 58 = .ok (.iload_n 1, 1) := by decide +kernel
theorem dX5_nextOfBolt_59 : decode cX5_nextOfBolt 59 = .ok (.bipush 61, 2) := by decide +kernel
theorem dX5_nextOfBolt_61 : decode cX5_nextOfBolt 61 = .ok (.if_icmp .ne 8, 3) := by decide +kernel
theorem dX5_nextOfBolt_64 : decode cX5_nextOfBolt 64 = .ok (.bipush 15, 2) := by decide +kernel
theorem dX5_nextOfBolt_66 : decode cX5_nextOfBolt 66 = .ok (.goto 4, 3) := by decide +kernel
theorem dX5_nextOfBolt_69 : decode cX5_nextOfBolt 69 = .ok (.iconst (-1), 1) := by decide +kernel
theorem dX5_nextOfBolt_70 : decode cX5_nextOfBolt 70 = .ok (.ireturn, 1) := by decide +kernel
theorem dX5_nextOfBolt_71 : decode cX5_nextOfBolt 71 = .ok (.iload_n 1, 1) := by decide +kernel
theorem dX5_nextOfBolt_72 : decode cX5_nextOfBolt 72 = .ok (.bipush 49, 2) := by decide +kernel
theorem dX5_nextOfBolt_74 : decode cX5_nextOfBolt 74 = .ok (.bipush 57, 2) := by decide +kernel
theorem dX5_nextOfBolt_76 : decode cX5_nextOfBolt 76 = .ok (.invokestatic 46, 3) := by decide +kernel
theorem dX5_nextOfBolt_79 : decode cX5_nextOfBolt 79 = .ok (.ifCond .eq 8, 3) := by decide +kernel
theorem dX5_nextOfBolt_82 : decode cX5_nextOfBolt 82 = .ok (.bipush 16, 2) := by decide +kernel
theorem dX5_nextOfBolt_84 : decode cX5_nextOfBolt 84 = .ok (.goto 4, 3) := by decide +kernel
theorem dX5_nextOfBolt_87 : decode cX5_nextOfBolt 87 = .ok (.iconst (-1), 1) := by decide +kernel
theorem dX5_nextOfBolt_88 : decode cX5_nextOfBolt 88 = .ok (.ireturn, 1) := by decide +kernel
theorem dX5_nextOfBolt_89 : decode cX5_nextOfBolt 89 = .ok (.iload_n 1, 1) := by decide +kernel
theorem dX5_nextOfBolt_90 : decode cX5_nextOfBolt 90 = .ok (.bipush 48, 2) := by decide +kernel
theorem dX5_nextOfBolt_92 : decode cX5_nextOfBolt 92 = .ok (.bipush 57, 2) := by decide +kernel
theorem dX5_nextOfBolt_94 : decode cX5_nextOfBolt 94 = .ok (.invokestatic 46, 3) := by decide +kernel
theorem dX5_nextOfBolt_97 : decode cX5_nextOfBolt 97 = .ok (.ifCond .eq 8, 3) := by decide +kernel
theorem dX5_nextOfBolt_100 : decode cX5_nextOfBolt 100 = .ok (.bipush 17, 2) := by decide +kernel
theorem dX5_nextOfBolt_102 : decode cX5_nextOfBolt 102 = .ok (.goto 4, 3) := by decide +kernel
theorem dX5_nextOfBolt_105 : decode cX5_nextOfBolt 105 = .ok (.iconst (-1), 1) := by decide +kernel
theorem dX5_nextOfBolt_106 : decode cX5_nextOfBolt 106 = .ok (.ireturn, 1) := by decide +kernel
theorem dX5_nextOfBolt_107 : decode cX5_nextOfBolt 107 = .ok (.iload_n 1, 1) := by decide +kernel
theorem dX5_nextOfBolt_108 : decode cX5_nextOfBolt 108 = .ok (.bipush 48, 2) := by decide +kernel
theorem dX5_nextOfBolt_110 : decode cX5_nextOfBolt 110 = .ok (.bipush 57, 2) := by decide +kernel
theorem dX5_nextOfBolt_112 : decode cX5_nextOfBolt 112 = .ok (.invokestatic 46, 3) := by decide +kernel
theorem dX5_nextOfBolt_115 : decode cX5_nextOfBolt 115 = .ok (.ifCond .eq 8, 3) := by decide +kernel
theorem dX5_nextOfBolt_118 : decode cX5_nextOfBolt 118 = .ok (.bipush 18, 2) := by decide +kernel
theorem dX5_nextOfBolt_120 : decode cX5_nextOfBolt 120 = .ok (.goto 4, 3) := by decide +kernel
theorem dX5_nextOfBolt_123 : decode cX5_nextOfBolt 123 = .ok (.iconst (-1), 1) := by decide +kernel
theorem dX5_nextOfBolt_124 : decode cX5_nextOfBolt 124 = .ok (.ireturn, 1) := by decide +kernel
theorem dX5_nextOfBolt_125 : decode cX5_nextOfBolt 125 = .ok (.iload_n 1, 1) := by decide +kernel
theorem dX5_nextOfBolt_126 : decode cX5_nextOfBolt 126 = .ok (.bipush 48, 2) := by decide +kernel
theorem dX5_nextOfBolt_128 : decode cX5_nextOfBolt 128 = .ok (.bipush 57, 2) := by decide +kernel
theorem dX5_nextOfBolt_130 : decode cX5_nextOfBolt 130 = .ok (.invokestatic 46, 3) := by decide +kernel
theorem dX5_nextOfBolt_133 : decode cX5_nextOfBolt 133 = .ok (.ifCond .eq 8, 3) := by decide +kernel
theorem dX5_nextOfBolt_136 : decode cX5_nextOfBolt 136 = .ok (.bipush 19, 2) := by decide +kernel
theorem dX5_nextOfBolt_138 : decode cX5_nextOfBolt 138 = .ok (.goto 4, 3) := by decide +kernel
theorem dX5_nextOfBolt_141 : decode cX5_nextOfBolt 141 = .ok (.iconst (-1), 1) := by decide +kernel
theorem dX5_nextOfBolt_142 : decode cX5_nextOfBolt 142 = .ok (.ireturn, 1) := by decide +kernel
theorem dX5_nextOfBolt_143 : decode cX5_nextOfBolt 143 = .ok (.iconst (-1), 1) := by decide +kernel
theorem dX5_nextOfBolt_144 : decode cX5_nextOfBolt 144 = .ok (.ireturn, 1) := by decide +kernel
theorem dX5_isDigit_0 : decode cX5_isDigit 0 = .ok (.iload_n 0, 1) := by decide +kernel
theorem dX5_isDigit_1 : decode cX5_isDigit 1 = .ok (.iload_n 1, 1) := by decide +kernel
theorem dX5_isDigit_2 : decode cX5_isDigit 2 = .ok (.if_icmp .lt 12, 3) := by decide +kernel
theorem dX5_isDigit_5 : decode cX5_isDigit 5 = .ok (.iload_n 0, 1) := by decide +kernel
theorem dX5_isDigit_6 : decode cX5_isDigit 6 = .ok (.iload_n 2, 1) := by decide +kernel
theorem dX5_isDigit_7 : decode cX5_isDigit 7 = .ok (.if_icmp .gt 7, 3) := by decide +kernel
theorem dX5_isDigit_10 : decode cX5_isDigit 10 = .ok (.iconst 1, 1) := by decide +kernel
theorem dX5_isDigit_11 : decode cX5_isDigit 11 = .ok (.goto 4, 3) := by decide +kernel
theorem dX5_isDigit_14 : decode cX5_isDigit 14 = .ok (.iconst 0, 1) := by decide +kernel
theorem dX5_isDigit_15 : decode cX5_isDigit 15 = .ok (.ireturn, 1) := by decide +kernel
theorem dX5_readPart_0 : decode cX5_readPart 0 = .ok (.iconst 0, 1) := by decide +kernel
theorem dX5_readPart_1 : decode cX5_readPart 1 = .ok (.istore_n 3, 1) := by decide +kernel
theorem dX5_readPart_2 : decode cX5_readPart 2 = .ok (.iload_n 3, 1) := by decide +kernel
theorem dX5_readPart_3 : decode cX5_readPart 3 = .ok (.iconst 4, 1) := by decide +kernel
theorem dX5_readPart_4 : decode cX5_readPart 4 = .ok (.if_icmp .ge 15, 3) := by decide +kernel
theorem dX5_readPart_7 : decode cX5_readPart 7 = .ok (.aload_n 2, 1) := by decide +kernel
theorem dX5_readPart_8 : decode cX5_readPart 8 = .ok (.iload_n 3, 1) := by decide +kernel
theorem dX5_readPart_9 : decode cX5_readPart 9 = .ok (.iconst 0, 1) := by decide +kernel
theorem dX5_readPart_10 : decode cX5_readPart 10 = .ok (.invokestatic 22, 3) := by decide +kernel
theorem dX5_readPart_13 : decode cX5_readPart 13 = .ok (.iinc 3 1, 3) := by decide +kernel
theorem dX5_readPart_16 : decode cX5_readPart 16 = .ok (.goto (-14), 3) := by decide +kernel
theorem dX5_readPart_19 : decode cX5_readPart 19 = .ok (.iconst 0, 1) := by decide +kernel
theorem dX5_readPart_20 : decode cX5_readPart 20 = .ok (.istore_n 3, 1) := by decide +kernel
theorem dX5_readPart_21 : decode cX5_readPart 21 = .ok (.iload_n 1, 1) := by decide +kernel
theorem dX5_readPart_22 : decode cX5_readPart 22 = .ok (.istore 4, 2) := by decide +kernel
theorem dX5_readPart_24 : decode cX5_readPart 24 = .ok (.iload 4, 2) := by decide +kernel
theorem dX5_readPart_26 : decode cX5_readPart 26 = .ok (.aload_n 0, 1) := by decide +kernel
theorem dX5_readPart_27 : decode cX5_readPart 27 = .ok (.getfield 15, 3) := by decide +kernel
theorem dX5_readPart_30 : decode cX5_readPart 30 = .ok (.if_icmp .ge 77, 3) := by decide +kernel
theorem dX5_readPart_33 : decode cX5_readPart 33 = .ok (.aload_n 0, 1) := by decide +kernel
theorem dX5_readPart_34 : decode cX5_readPart 34 = .ok (.getfield 9, 3) := by decide +kernel
theorem dX5_readPart_37 : decode cX5_readPart 37 = .ok (.iload 4, 2) := by decide +kernel
theorem dX5_readPart_39 : decode cX5_readPart 39 = .ok (.invokestatic 26, 3) := by decide +kernel
theorem dX5_readPart_42 : decode cX5_readPart 42 = .ok (.bipush 59, 2) := by decide +kernel
theorem dX5_readPart_44 : decode cX5_readPart 44 = .ok (.if_icmp .eq 63, 3) := by decide +kernel
theorem dX5_readPart_47 : decode cX5_readPart 47 = .ok (.aload_n 0, 1) := by decide +kernel
theorem dX5_readPart_48 : decode cX5_readPart 48 = .ok (.getfield 9, 3) := by decide +kernel
theorem dX5_readPart_51 : decode cX5_readPart 51 = .ok (.iload 4, 2) := by decide +kernel
theorem dX5_readPart_53 : decode cX5_readPart 53 = .ok (.invokestatic 26, 3) := by decide +kernel
theorem dX5_readPart_56 : decode cX5_readPart 56 = .ok (.istore 5, 2) := by decide +kernel
theorem dX5_readPart_58 : decode cX5_readPart 58 = .ok (.iload 5, 2) := by decide +kernel
theorem dX5_readPart_60 : decode cX5_readPart 60 = .ok (.bipush 48, 2) := by decide +kernel
theorem dX5_readPart_62 : decode cX5_readPart 62 = .ok (.bipush 57, 2) := by decide +kernel
theorem dX5_readPart_64 : decode cX5_readPart 64 = .ok (.invokestatic 46, 3) := by decide +kernel
theorem dX5_readPart_67 : decode cX5_readPart 67 = .ok (.ifCond .eq 25, 3) := by decide +kernel
theorem dX5_readPart_70 : decode cX5_readPart 70 = .ok (.aload_n 2, 1) := by decide +kernel
theorem dX5_readPart_71 : decode cX5_readPart 71 = .ok (.iload_n 3, 1) := by decide +kernel
theorem dX5_readPart_72 : decode cX5_readPart 72 = .ok (.aload_n 2, 1) := by decide +kernel
theorem dX5_readPart_73 : decode cX5_readPart 73 = .ok (.iload_n 3, 1) := by decide +kernel
theorem dX5_readPart_74 : decode cX5_readPart 74 = .ok (.invokestatic 26, 3) := by decide +kernel
theorem dX5_readPart_77 : decode cX5_readPart 77 = .ok (.bipush 10, 2) := by decide +kernel
theorem dX5_readPart_79 : decode cX5_readPart 79 = .ok (.imul, 1) := by decide +kernel
theorem dX5_readPart_80 : decode cX5_readPart 80 = .ok (.iload 5, 2) := by decide +kernel
theorem dX5_readPart_82 : decode cX5_readPart 82 = .ok (.iadd, 1) := by decide +kernel
theorem dX5_readPart_83 : decode cX5_readPart 83 = .ok (.bipush 48, 2) := by decide +kernel
theorem dX5_readPart_85 : decode cX5_readPart 85 = .ok (.isub, 1) := by decide +kernel
theorem dX5_readPart_86 : decode cX5_readPart 86 = .ok (.invokestatic 22, 3) := by decide +kernel
theorem dX5_readPart_89 : decode cX5_readPart 89 = .ok (.goto 12, 3) := by decide +kernel
theorem dX5_readPart_92 : decode cX5_readPart 92 = .ok (.iload 4, 2) := by decide +kernel
theorem dX5_readPart_94 : decode cX5_readPart 94 = .ok (.iload_n 1, 1) := by decide +kernel
theorem dX5_readPart_95 : decode cX5_readPart 95 = .ok (.if_icmp .le 6, 3) := by decide +kernel
theorem dX5_readPart_98 : decode cX5_readPart 98 = .ok (.iinc 3 1, 3) := by decide +kernel
theorem dX5_readPart_101 : decode cX5_readPart 101 = .ok (.iinc 4 1, 3) := by decide +kernel
theorem dX5_readPart_104 : decode cX5_readPart 104 = .ok (.goto (-80), 3) := by decide +kernel
theorem dX5_readPart_107 : decode cX5_readPart 107 = .ok (.iload 4, 2) := by decide +kernel
theorem dX5_readPart_109 : decode cX5_readPart 109 = .ok (.ireturn, 1) := by decide +kernel
theorem dX6_init_0 : decode cX6_init 0 = .ok (.aload_n 0, 1) := by decide +kernel
theorem dX6_init_1 : decode cX6_init 1 = .ok (.invokespecial 3, 3) := by decide +kernel
theorem dX6_init_4 : decode cX6_init 4 = .ok (.aload_n 0, 1) := by decide +kernel
theorem dX6_init_5 : decode cX6_init 5 = .ok (.iconst 5, 1) := by decide +kernel
theorem dX6_init_6 : decode cX6_init 6 = .ok (.newarray .int, 2) := by decide +kernel
theorem dX6_init_8 : decode cX6_init 8 = .ok (.putfield 9, 3) := by decide +kernel
theorem dX6_init_11 : decode cX6_init 11 = .ok (.aload_n 0, 1) := by decide +kernel
theorem dX6_init_12 : decode cX6_init 12 = .ok (.iconst 0, 1) := by decide +kernel
theorem dX6_init_13 : decode cX6_init 13 = .ok (.putfield 15, 3) := by decide +kernel
theorem dX6_init_16 : decode cX6_init 16 = .ok (.return_, 1) := by decide +kernel
theorem dX6_choose_0 : decode cX6_choose 0 = .ok (.getstatic 19, 3) := by decide +kernel
theorem dX6_choose_3 : decode cX6_choose 3 = .ok (.iload_n 3, 1) := by decide +kernel
theorem dX6_choose_4 : decode cX6_choose 4 = .ok (.invokestatic 22, 3) := by decide +kernel
theorem dX6_choose_7 : decode cX6_choose 7 = .ok (.istore 4, 2) := by decide +kernel
theorem dX6_choose_9 : decode cX6_choose 9 = .ok (.aload_n 0, 1) := by decide +kernel
theorem dX6_choose_10 : decode cX6_choose 10 = .ok (.iload 4, 2) := by decide +kernel
theorem dX6_choose_12 : decode cX6_choose 12 = .ok (.invokestatic 26, 3) := by decide +kernel
theorem dX6_choose_15 : decode cX6_choose 15 = .ok (.putfield 15, 3) := by decide +kernel
theorem dX6_choose_18 : decode cX6_choose 18 = .ok (.aload_n 0, 1) := by decide +kernel
theorem dX6_choose_19 : decode cX6_choose 19 = .ok (.getfield 15, 3) := by decide +kernel
theorem dX6_choose_22 : decode cX6_choose 22 = .ok (.iconst 2, 1) := by decide +kernel
theorem dX6_choose_23 : decode cX6_choose 23 = .ok (.isub, 1) := by decide +kernel
theorem dX6_choose_24 : decode cX6_choose 24 = .ok (.istore 5, 2) := by decide +kernel
theorem dX6_choose_26 : decode cX6_choose 26 = .ok (.iload 5, 2) := by decide +kernel
theorem dX6_choose_28 : decode cX6_choose 28 = .ok (.ifCond .le 35, 3) := by decide +kernel
theorem dX6_choose_31 : decode cX6_choose 31 = .ok (.aload_n 0, 1) := by decide +kernel
theorem dX6_choose_32 : decode cX6_choose 32 = .ok (.getfield 9, 3) := by decide +kernel
theorem dX6_choose_35 : decode cX6_choose 35 = .ok (.iload 5, 2) := by decide +kernel
theorem dX6_choose_37 : decode cX6_choose 37 = .ok (.iload_n 1, 1) := by decide +kernel
theorem dX6_choose_38 : decode cX6_choose 38 = .ok (.iload_n 2, 1) := by decide +kernel
theorem dX6_choose_39 : decode cX6_choose 39 = .ok (.iload 4, 2) := by decide +kernel
theorem dX6_choose_41 : decode cX6_choose 41 = .ok (.bipush 10, 2) := by decide +kernel
theorem dX6_choose_43 : decode cX6_choose 43 = .ok (.irem, 1) := by decide +kernel
theorem dX6_choose_44 : decode cX6_choose 44 = .ok (.invokestatic 30, 3) := by decide +kernel
theorem dX6_choose_47 : decode cX6_choose 47 = .ok (.invokestatic 34, 3) := by decide +kernel
theorem dX6_choose_50 : decode cX6_choose 50 = .ok (.iload 4, 2) := by decide +kernel
theorem dX6_choose_52 : decode cX6_choose 52 = .ok (.bipush 10, 2) := by decide +kernel
theorem dX6_choose_54 : decode cX6_choose 54 = .ok (.idiv, 1) := by decide +kernel
theorem dX6_choose_55 : decode cX6_choose 55 = .ok (.istore 4, 2) := by decide +kernel
theorem dX6_choose_57 : decode cX6_choose 57 = .ok (.iinc 5 (-1), 3) := by decide +kernel
theorem dX6_choose_60 : decode cX6_choose 60 = .ok (.goto (-34), 3) := by decide +kernel
theorem dX6_choose_63 : decode cX6_choose 63 = .ok (.aload_n 0, 1) := by decide +kernel
theorem dX6_choose_64 : decode cX6_choose 64 = .ok (.getfield 9, 3) := by decide +kernel
theorem dX6_choose_67 : decode cX6_choose 67 = .ok (.iconst 0, 1) := by decide +kernel
theorem dX6_choose_68 : decode cX6_choose 68 = .ok (.iload_n 1, 1) := by decide +kernel
theorem dX6_choose_69 : decode cX6_choose 69 = .ok (.invokestatic 34, 3) := by decide +kernel
theorem dX6_choose_72 : decode cX6_choose 72 = .ok (.aload_n 0, 1) := by decide +kernel
theorem dX6_choose_73 : decode cX6_choose 73 = .ok (.getfield 9, 3) := by decide +kernel
theorem dX6_choose_76 : decode cX6_choose 76 = .ok (.aload_n 0, 1) := by decide +kernel
theorem dX6_choose_77 : decode cX6_choose 77 = .ok (.getfield 15, 3) := by decide +kernel
theorem dX6_choose_80 : decode cX6_choose 80 = .ok (.iconst 1, 1) := by decide +kernel
theorem dX6_choose_81 : decode cX6_choose 81 = .ok (.isub, 1) := by decide +kernel
theorem dX6_choose_82 : decode cX6_choose 82 = .ok (.iload_n 2, 1) := by decide +kernel
theorem dX6_choose_83 : decode cX6_choose 83 = .ok (.invokestatic 34, 3) := by decide +kernel
theorem dX6_choose_86 : decode cX6_choose 86 = .ok (.return_, 1) := by decide +kernel
theorem dX6_stopsOf_0 : decode cX6_stopsOf 0 = .ok (.iload_n 0, 1) := by decide +kernel
theorem dX6_stopsOf_1 : decode cX6_stopsOf 1 = .ok (.bipush 100, 2) := by decide +kernel
theorem dX6_stopsOf_3 : decode cX6_stopsOf 3 = .ok (.if_icmp .lt 5, 3) := by decide +kernel
theorem dX6_stopsOf_6 : decode cX6_stopsOf 6 = .ok (.iconst 5, 1) := by decide +kernel
theorem dX6_stopsOf_7 : decode cX6_stopsOf 7 = .ok (.ireturn, 1) := by decide +kernel
theorem dX6_stopsOf_8 : decode cX6_stopsOf 8 = .ok (.iload_n 0, 1) := by decide +kernel
theorem dX6_stopsOf_9 : decode cX6_stopsOf 9 = .ok (.bipush 10, 2) := by decide +kernel
theorem dX6_stopsOf_11 : decode cX6_stopsOf 11 = .ok (.if_icmp .lt 5, 3) := by decide +kernel
theorem dX6_stopsOf_14 : decode cX6_stopsOf 14 = .ok (.iconst 4, 1) := by decide +kernel
theorem dX6_stopsOf_15 : decode cX6_stopsOf 15 = .ok (.ireturn, 1) := by decide +kernel
theorem dX6_stopsOf_16 : decode cX6_stopsOf 16 = .ok (.iload_n 0, 1) := by decide +kernel
theorem dX6_stopsOf_17 : decode cX6_stopsOf 17 = .ok (.iconst 1, 1) := by decide +kernel
theorem dX6_stopsOf_18 : decode cX6_stopsOf 18 = .ok (.if_icmp .lt 7, 3) := by decide +kernel
theorem dX6_stopsOf_21 : decode cX6_stopsOf 21 = .ok (.iconst 3, 1) := by decide +kernel
theorem dX6_stopsOf_22 : decode cX6_stopsOf 22 = .ok (.goto 4, 3) := by decide +kernel
theorem dX6_stopsOf_25 : decode cX6_stopsOf 25 = .ok (.iconst 2, 1) := by decide +kernel
theorem dX6_stopsOf_26 : decode cX6_stopsOf 26 = .ok (.ireturn, 1) := by decide +kernel
theorem dX6_otherParish_0 : decode cX6_otherParish 0 = .ok (.iconst 0, 1) := by decide +kernel
theorem dX6_otherParish_1 : decode cX6_otherParish 1 = .ok (.istore_n 3, 1) := by decide +kernel
theorem dX6_otherParish_2 : decode cX6_otherParish 2 = .ok (.iconst 0, 1) := by decide +kernel
theorem dX6_otherParish_3 : decode cX6_otherParish 3 = .ok (.istore 4, 2) := by decide +kernel
theorem dX6_otherParish_5 : decode cX6_otherParish 5 = .ok (.iload 4, 2) := by decide +kernel
theorem dX6_otherParish_7 : decode cX6_otherParish 7 = .ok (.iconst 5, 1) := by decide +kernel
theorem dX6_otherParish_8 : decode cX6_otherParish 8 = .ok (.if_icmp .ge 32, 3) := by decide +kernel
theorem dX6_otherParish_11 : decode cX6_otherParish 11 = .ok (.iload 4, 2) := by decide +kernel
theorem dX6_otherParish_13 : decode cX6_otherParish 13 = .ok (.iload_n 0, 1) := by decide +kernel
theorem dX6_otherParish_14 : decode cX6_otherParish 14 = .ok (.if_icmp .eq 20, 3) := by decide +kernel
theorem dX6_otherParish_17 : decode cX6_otherParish 17 = .ok (.iload 4, 2) := by decide +kernel
theorem dX6_otherParish_19 : decode cX6_otherParish 19 = .ok (.iload_n 1, 1) := by decide +kernel
theorem dX6_otherParish_20 : decode cX6_otherParish 20 = .ok (.if_icmp .eq 14, 3) := by decide +kernel
theorem dX6_otherParish_23 : decode cX6_otherParish 23 = .ok (.iinc 3 1, 3) := by decide +kernel
theorem dX6_otherParish_26 : decode cX6_otherParish 26 = .ok (.iload_n 3, 1) := by decide +kernel
theorem dX6_otherParish_27 : decode cX6_otherParish 27 = .ok (.iload_n 2, 1) := by decide +kernel
theorem dX6_otherParish_28 : decode cX6_otherParish 28 = .ok (.if_icmp .ne 6, 3) := by decide +kernel
theorem dX6_otherParish_31 : decode cX6_otherParish 31 = .ok (.iload 4, 2) := by decide +kernel
theorem dX6_otherParish_33 : decode cX6_otherParish 33 = .ok (.ireturn, 1) := by decide +kernel
theorem dX6_otherParish_34 : decode cX6_otherParish 34 = .ok (.iinc 4 1, 3) := by decide +kernel
theorem dX6_otherParish_37 : decode cX6_otherParish 37 = .ok (.goto (-32), 3) := by decide +kernel
theorem dX6_otherParish_40 : decode cX6_otherParish 40 = .ok (.iload_n 0, 1) := by decide +kernel
theorem dX6_otherParish_41 : decode cX6_otherParish 41 = .ok (.ireturn, 1) := by decide +kernel
theorem dX6_stands_0 : decode cX6_stands 0 = .ok (.iconst 0, 1) := by decide +kernel
theorem dX6_stands_1 : decode cX6_stands 1 = .ok (.istore_n 2, 1) := by decide +kernel
theorem dX6_stands_2 : decode cX6_stands 2 = .ok (.iload_n 2, 1) := by decide +kernel
theorem dX6_stands_3 : decode cX6_stands 3 = .ok (.aload_n 0, 1) := by decide +kernel
theorem dX6_stands_4 : decode cX6_stands 4 = .ok (.getfield 15, 3) := by decide +kernel
theorem dX6_stands_7 : decode cX6_stands 7 = .ok (.iconst 1, 1) := by decide +kernel
theorem dX6_stands_8 : decode cX6_stands 8 = .ok (.isub, 1) := by decide +kernel
theorem dX6_stands_9 : decode cX6_stands 9 = .ok (.if_icmp .ge 36, 3) := by decide +kernel
theorem dX6_stands_12 : decode cX6_stands 12 = .ok (.aload_n 1, 1) := by decide +kernel
theorem dX6_stands_13 : decode cX6_stands 13 = .ok (.aload_n 0, 1) := by decide +kernel
theorem dX6_stands_14 : decode cX6_stands 14 = .ok (.getfield 9, 3) := by decide +kernel
theorem dX6_stands_17 : decode cX6_stands 17 = .ok (.iload_n 2, 1) := by decide +kernel
theorem dX6_stands_18 : decode cX6_stands 18 = .ok (.invokestatic 22, 3) := by decide +kernel
theorem dX6_stands_21 : decode cX6_stands 21 = .ok (.aload_n 0, 1) := by decide +kernel
theorem dX6_stands_22 : decode cX6_stands 22 = .ok (.getfield 9, 3) := by decide +kernel
theorem dX6_stands_25 : decode cX6_stands 25 = .ok (.iload_n 2, 1) := by decide +kernel
theorem dX6_stands_26 : decode cX6_stands 26 = .ok (.iconst 1, 1) := by decide +kernel
theorem dX6_stands_27 : decode cX6_stands 27 = .ok (.iadd, 1) := by decide +kernel
theorem dX6_stands_28 : decode cX6_stands 28 = .ok (.invokestatic 22, 3) := by decide +kernel
theorem dX6_stands_31 : decode cX6_stands 31 = .ok (.invokevirtual 38, 3) := by decide +kernel
theorem dX6_stands_34 : decode cX6_stands 34 = .ok (.ifCond .ne 5, 3) := by decide +kernel
theorem dX6_stands_37 : decode cX6_stands 37 = .ok (.iconst 0, 1) := by decide +kernel
theorem dX6_stands_38 : decode cX6_stands 38 = .ok (.ireturn, 1) := by decide +kernel
theorem dX6_stands_39 : decode cX6_stands 39 = .ok (.iinc 2 1, 3) := by decide +kernel
theorem dX6_stands_42 : decode cX6_stands 42 = .ok (.goto (-40), 3) := by decide +kernel
theorem dX6_stands_45 : decode cX6_stands 45 = .ok (.iconst 1, 1) := by decide +kernel
theorem dX6_stands_46 : decode cX6_stands 46 = .ok (.ireturn, 1) := by decide +kernel
theorem dX6_number_0 : decode cX6_number 0 = .ok (.iconst 0, 1) := by decide +kernel
theorem dX6_number_1 : decode cX6_number 1 = .ok (.istore_n 1, 1) := by decide +kernel
theorem dX6_number_2 : decode cX6_number 2 = .ok (.iconst 0, 1) := by decide +kernel
theorem dX6_number_3 : decode cX6_number 3 = .ok (.istore_n 2, 1) := by decide +kernel
theorem dX6_number_4 : decode cX6_number 4 = .ok (.iload_n 2, 1) := by decide +kernel
theorem dX6_number_5 : decode cX6_number 5 = .ok (.aload_n 0, 1) := by decide +kernel
theorem dX6_number_6 : decode cX6_number 6 = .ok (.getfield 15, 3) := by decide +kernel
theorem dX6_number_9 : decode cX6_number 9 = .ok (.if_icmp .ge 23, 3) := by decide +kernel
theorem dX6_number_12 : decode cX6_number 12 = .ok (.iload_n 1, 1) := by decide +kernel
theorem dX6_number_13 : decode cX6_number 13 = .ok (.bipush 10, 2) := by decide +kernel
theorem dX6_number_15 : decode cX6_number 15 = .ok (.imul, 1) := by decide +kernel
theorem dX6_number_16 : decode cX6_number 16 = .ok (.aload_n 0, 1) := by decide +kernel
theorem dX6_number_17 : decode cX6_number 17 = .ok (.getfield 9, 3) := by decide +kernel
theorem dX6_number_20 : decode cX6_number 20 = .ok (.iload_n 2, 1) := by decide +kernel
theorem dX6_number_21 : decode cX6_number 21 = .ok (.invokestatic 22, 3) := by decide +kernel
theorem dX6_number_24 : decode cX6_number 24 = .ok (.iadd, 1) := by decide +kernel
theorem dX6_number_25 : decode cX6_number 25 = .ok (.istore_n 1, 1) := by decide +kernel
theorem dX6_number_26 : decode cX6_number 26 = .ok (.iinc 2 1, 3) := by decide +kernel
theorem dX6_number_29 : decode cX6_number 29 = .ok (.goto (-25), 3) := by decide +kernel
theorem dX6_number_32 : decode cX6_number 32 = .ok (.iload_n 1, 1) := by decide +kernel
theorem dX6_number_33 : decode cX6_number 33 = .ok (.ireturn, 1) := by decide +kernel
theorem dX6_roundedOff_0 : decode cX6_roundedOff 0 = .ok (.iload_n 2, 1) := by decide +kernel
theorem dX6_roundedOff_1 : decode cX6_roundedOff 1 = .ok (.i2l, 1) := by decide +kernel
theorem dX6_roundedOff_2 : decode cX6_roundedOff 2 = .ok (.lstore 4, 2) := by decide +kernel
theorem dX6_roundedOff_4 : decode cX6_roundedOff 4 = .ok (.lconst 0, 1) := by decide +kernel
theorem dX6_roundedOff_5 : decode cX6_roundedOff 5 = .ok (.lstore 6, 2) := by decide +kernel
theorem dX6_roundedOff_7 : decode cX6_roundedOff 7 = .ok (.iconst 0, 1) := by decide +kernel
theorem dX6_roundedOff_8 : decode cX6_roundedOff 8 = .ok (.istore 8, 2) := by decide +kernel
theorem dX6_roundedOff_10 : decode cX6_roundedOff 10 = .ok (.iload 8, 2) := by decide +kernel
theorem dX6_roundedOff_12 : decode cX6_roundedOff 12 = .ok (.aload_n 0, 1) := by decide +kernel
theorem dX6_roundedOff_13 : decode cX6_roundedOff 13 = .ok (.getfield 15, 3) := by decide +kernel
theorem dX6_roundedOff_16 : decode cX6_roundedOff 16 = .ok (.iconst 1, 1) := by decide +kernel
theorem dX6_roundedOff_17 : decode cX6_roundedOff 17 = .ok (.isub, 1) := by decide +kernel
theorem dX6_roundedOff_18 : decode cX6_roundedOff 18 = .ok (.if_icmp .ge 96, 3) := by decide +kernel
theorem dX6_roundedOff_21 : decode cX6_roundedOff 21 = .ok (.aload_n 1, 1) := by decide +kernel
theorem dX6_roundedOff_22 : decode cX6_roundedOff 22 = .ok (.aload_n 0, 1) := by decide +kernel
theorem dX6_roundedOff_23 : decode cX6_roundedOff 23 = .ok (.getfield 9, 3) := by decide +kernel
theorem dX6_roundedOff_26 : decode cX6_roundedOff 26 = .ok (.iload 8, 2) := by decide +kernel
theorem dX6_roundedOff_28 : decode cX6_roundedOff 28 = .ok (.invokestatic 22, 3) := by decide +kernel
theorem dX6_roundedOff_31 : decode cX6_roundedOff 31 = .ok (.aload_n 0, 1) := by decide +kernel
theorem dX6_roundedOff_32 : decode cX6_roundedOff 32 = .ok (.getfield 9, 3) := by decide +kernel
theorem dX6_roundedOff_35 : decode cX6_roundedOff 35 = .ok (.iload 8, 2) := by decide +kernel
theorem dX6_roundedOff_37 : decode cX6_roundedOff 37 = .ok (.iconst 1, 1) := by decide +kernel
theorem dX6_roundedOff_38 : decode cX6_roundedOff 38 = .ok (.iadd, 1) := by decide +kernel
theorem dX6_roundedOff_39 : decode cX6_roundedOff 39 = .ok (.invokestatic 22, 3) := by decide +kernel
theorem dX6_roundedOff_42 : decode cX6_roundedOff 42 = .ok (.invokevirtual 44, 3) := by decide +kernel
theorem dX6_roundedOff_45 : decode cX6_roundedOff 45 = .ok (.istore 9, 2) := by decide +kernel
theorem dX6_roundedOff_47 : decode cX6_roundedOff 47 = .ok (.aload_n 1, 1) := by decide +kernel
theorem dX6_roundedOff_48 : decode cX6_roundedOff 48 = .ok (.aload_n 0, 1) := by decide +kernel
theorem dX6_roundedOff_49 : decode cX6_roundedOff 49 = .ok (.getfield 9, 3) := by decide +kernel
theorem dX6_roundedOff_52 : decode cX6_roundedOff 52 = .ok (.iload 8, 2) := by decide +kernel
theorem dX6_roundedOff_54 : decode cX6_roundedOff 54 = .ok (.iconst 1, 1) := by decide +kernel
theorem dX6_roundedOff_55 : decode cX6_roundedOff 55 = .ok (.iadd, 1) := by decide +kernel
theorem dX6_roundedOff_56 : decode cX6_roundedOff 56 = .ok (.invokestatic 22, 3) := by decide +kernel
theorem dX6_roundedOff_59 : decode cX6_roundedOff 59 = .ok (.aload_n 0, 1) := by decide +kernel
theorem dX6_roundedOff_60 : decode cX6_roundedOff 60 = .ok (.getfield 9, 3) := by decide +kernel
theorem dX6_roundedOff_63 : decode cX6_roundedOff 63 = .ok (.iload 8, 2) := by decide +kernel
theorem dX6_roundedOff_65 : decode cX6_roundedOff 65 = .ok (.invokestatic 22, 3) := by decide +kernel
theorem dX6_roundedOff_68 : decode cX6_roundedOff 68 = .ok (.invokevirtual 44, 3) := by decide +kernel
theorem dX6_roundedOff_71 : decode cX6_roundedOff 71 = .ok (.istore 10, 2) := by decide +kernel
theorem dX6_roundedOff_73 : decode cX6_roundedOff 73 = .ok (.lload 4, 2) := by decide +kernel
theorem dX6_roundedOff_75 : decode cX6_roundedOff 75 = .ok (.iload 9, 2) := by decide +kernel
theorem dX6_roundedOff_77 : decode cX6_roundedOff 77 = .ok (.iload 10, 2) := by decide +kernel
theorem dX6_roundedOff_79 : decode cX6_roundedOff 79 = .ok (.iload_n 3, 1) := by decide +kernel
theorem dX6_roundedOff_80 : decode cX6_roundedOff 80 = .ok (.invokestatic 48, 3) := by decide +kernel
theorem dX6_roundedOff_83 : decode cX6_roundedOff 83 = .ok (.lstore 11, 2) := by decide +kernel
theorem dX6_roundedOff_85 : decode cX6_roundedOff 85 = .ok (.lload 6, 2) := by decide +kernel
theorem dX6_roundedOff_87 : decode cX6_roundedOff 87 = .ok (.lload 4, 2) := by decide +kernel
theorem dX6_roundedOff_89 : decode cX6_roundedOff 89 = .ok (.lload 11, 2) := by decide +kernel
theorem dX6_roundedOff_91 : decode cX6_roundedOff 91 = .ok (.iload 9, 2) := by decide +kernel
theorem dX6_roundedOff_93 : decode cX6_roundedOff 93 = .ok (.iload 10, 2) := by decide +kernel
theorem dX6_roundedOff_95 : decode cX6_roundedOff 95 = .ok (.invokestatic 52, 3) := by decide +kernel
theorem dX6_roundedOff_98 : decode cX6_roundedOff 98 = .ok (.invokestatic 56, 3) := by decide +kernel
theorem dX6_roundedOff_101 : decode cX6_roundedOff 101 = .ok (.ladd, 1) := by decide +kernel
theorem dX6_roundedOff_102 : decode cX6_roundedOff 102 = .ok (.lstore 6, 2) := by decide +kernel
theorem dX6_roundedOff_104 : decode cX6_roundedOff 104 = .ok (.lload 11, 2) := by decide +kernel
theorem dX6_roundedOff_106 : decode cX6_roundedOff 106 = .ok (.lstore 4, 2) := by decide +kernel
theorem dX6_roundedOff_108 : decode cX6_roundedOff 108 = .ok (.iinc 8 1, 3) := by decide +kernel
theorem dX6_roundedOff_111 : decode cX6_roundedOff 111 = .ok (.goto (-101), 3) := by decide +kernel
theorem dX6_roundedOff_114 : decode cX6_roundedOff 114 = .ok (.lload 6, 2) := by decide +kernel
theorem dX6_roundedOff_116 : decode cX6_roundedOff 116 = .ok (.lreturn, 1) := by decide +kernel
theorem dX6_product_0 : decode cX6_product 0 = .ok (.lconst 1, 1) := by decide +kernel
theorem dX6_product_1 : decode cX6_product 1 = .ok (.lstore_n 3, 1) := by decide +kernel
theorem dX6_product_2 : decode cX6_product 2 = .ok (.iconst 0, 1) := by decide +kernel
theorem dX6_product_3 : decode cX6_product 3 = .ok (.istore 5, 2) := by decide +kernel
theorem dX6_product_5 : decode cX6_product 5 = .ok (.iload 5, 2) := by decide +kernel
theorem dX6_product_7 : decode cX6_product 7 = .ok (.aload_n 0, 1) := by decide +kernel
theorem dX6_product_8 : decode cX6_product 8 = .ok (.getfield 15, 3) := by decide +kernel
theorem dX6_product_11 : decode cX6_product 11 = .ok (.iconst 1, 1) := by decide +kernel
theorem dX6_product_12 : decode cX6_product 12 = .ok (.isub, 1) := by decide +kernel
theorem dX6_product_13 : decode cX6_product 13 = .ok (.if_icmp .ge 61, 3) := by decide +kernel
theorem dX6_product_16 : decode cX6_product 16 = .ok (.aload_n 0, 1) := by decide +kernel
theorem dX6_product_17 : decode cX6_product 17 = .ok (.getfield 9, 3) := by decide +kernel
theorem dX6_product_20 : decode cX6_product 20 = .ok (.iload 5, 2) := by decide +kernel
theorem dX6_product_22 : decode cX6_product 22 = .ok (.invokestatic 22, 3) := by decide +kernel
theorem dX6_product_25 : decode cX6_product 25 = .ok (.istore 6, 2) := by decide +kernel
theorem dX6_product_27 : decode cX6_product 27 = .ok (.aload_n 0, 1) := by decide +kernel
theorem dX6_product_28 : decode cX6_product 28 = .ok (.getfield 9, 3) := by decide +kernel
theorem dX6_product_31 : decode cX6_product 31 = .ok (.iload 5, 2) := by decide +kernel
theorem dX6_product_33 : decode cX6_product 33 = .ok (.iconst 1, 1) := by decide +kernel
theorem dX6_product_34 : decode cX6_product 34 = .ok (.iadd, 1) := by decide +kernel
theorem dX6_product_35 : decode cX6_product 35 = .ok (.invokestatic 22, 3) := by decide +kernel
theorem dX6_product_38 : decode cX6_product 38 = .ok (.istore 7, 2) := by decide +kernel
theorem dX6_product_40 : decode cX6_product 40 = .ok (.lload_n 3, 1) := by decide +kernel
theorem dX6_product_41 : decode cX6_product 41 = .ok (.iload_n 2, 1) := by decide +kernel
theorem dX6_product_42 : decode cX6_product 42 = .ok (.ifCond .eq 15, 3) := by decide +kernel
theorem dX6_product_45 : decode cX6_product 45 = .ok (.aload_n 1, 1) := by decide +kernel
theorem dX6_product_46 : decode cX6_product 46 = .ok (.iload 6, 2) := by decide +kernel
theorem dX6_product_48 : decode cX6_product 48 = .ok (.iload 7, 2) := by decide +kernel
theorem dX6_product_50 : decode cX6_product 50 = .ok (.invokevirtual 44, 3) := by decide +kernel
theorem dX6_product_53 : decode cX6_product 53 = .ok (.i2l, 1) := by decide +kernel
theorem dX6_product_54 : decode cX6_product 54 = .ok (.goto 12, 3) := by decide +kernel
theorem dX6_product_57 : decode cX6_product 57 = .ok (.aload_n 1, 1) := by decide +kernel
theorem dX6_product_58 : decode cX6_product 58 = .ok (.iload 7, 2) := by decide +kernel
theorem dX6_product_60 : decode cX6_product 60 = .ok (.iload 6, 2) := by decide +kernel
theorem dX6_product_62 : decode cX6_product 62 = .ok (.invokevirtual 44, 3) := by decide +kernel
theorem dX6_product_65 : decode cX6_product 65 = .ok (.i2l, 1) := by decide +kernel
theorem dX6_product_66 : decode cX6_product 66 = .ok (.lmul, 1) := by decide +kernel
theorem dX6_product_67 : decode cX6_product 67 = .ok (.lstore_n 3, 1) := by decide +kernel
theorem dX6_product_68 : decode cX6_product 68 = .ok (.iinc 5 1, 3) := by decide +kernel
theorem dX6_product_71 : decode cX6_product 71 = .ok (.goto (-66), 3) := by decide +kernel
theorem dX6_product_74 : decode cX6_product 74 = .ok (.lload_n 3, 1) := by decide +kernel
theorem dX6_product_75 : decode cX6_product 75 = .ok (.lreturn, 1) := by decide +kernel
theorem dX7_init_0 : decode cX7_init 0 = .ok (.aload_n 0, 1) := by decide +kernel
theorem dX7_init_1 : decode cX7_init 1 = .ok (.invokespecial 3, 3) := by decide +kernel
theorem dX7_init_4 : decode cX7_init 4 = .ok (.aload_n 0, 1) := by decide +kernel
theorem dX7_init_5 : decode cX7_init 5 = .ok (.iconst 5, 1) := by decide +kernel
theorem dX7_init_6 : decode cX7_init 6 = .ok (.newarray .int, 2) := by decide +kernel
theorem dX7_init_8 : decode cX7_init 8 = .ok (.putfield 9, 3) := by decide +kernel
theorem dX7_init_11 : decode cX7_init 11 = .ok (.iconst 0, 1) := by decide +kernel
theorem dX7_init_12 : decode cX7_init 12 = .ok (.istore_n 1, 1) := by decide +kernel
theorem dX7_init_13 : decode cX7_init 13 = .ok (.iload_n 1, 1) := by decide +kernel
theorem dX7_init_14 : decode cX7_init 14 = .ok (.iconst 5, 1) := by decide +kernel
theorem dX7_init_15 : decode cX7_init 15 = .ok (.if_icmp .ge 19, 3) := by decide +kernel
theorem dX7_init_18 : decode cX7_init 18 = .ok (.aload_n 0, 1) := by decide +kernel
theorem dX7_init_19 : decode cX7_init 19 = .ok (.getfield 9, 3) := by decide +kernel
theorem dX7_init_22 : decode cX7_init 22 = .ok (.iload_n 1, 1) := by decide +kernel
theorem dX7_init_23 : decode cX7_init 23 = .ok (.bipush 36, 2) := by decide +kernel
theorem dX7_init_25 : decode cX7_init 25 = .ok (.invokestatic 15, 3) := by decide +kernel
theorem dX7_init_28 : decode cX7_init 28 = .ok (.iinc 1 1, 3) := by decide +kernel
theorem dX7_init_31 : decode cX7_init 31 = .ok (.goto (-18), 3) := by decide +kernel
theorem dX7_init_34 : decode cX7_init 34 = .ok (.aload_n 0, 1) := by decide +kernel
theorem dX7_init_35 : decode cX7_init 35 = .ok (.iconst 3, 1) := by decide +kernel
theorem dX7_init_36 : decode cX7_init 36 = .ok (.newarray .int, 2) := by decide +kernel
theorem dX7_init_38 : decode cX7_init 38 = .ok (.putfield 19, 3) := by decide +kernel
theorem dX7_init_41 : decode cX7_init 41 = .ok (.aload_n 0, 1) := by decide +kernel
theorem dX7_init_42 : decode cX7_init 42 = .ok (.getfield 19, 3) := by decide +kernel
theorem dX7_init_45 : decode cX7_init 45 = .ok (.iconst 2, 1) := by decide +kernel
theorem dX7_init_46 : decode cX7_init 46 = .ok (.iconst 4, 1) := by decide +kernel
theorem dX7_init_47 : decode cX7_init 47 = .ok (.invokestatic 15, 3) := by decide +kernel
theorem dX7_init_50 : decode cX7_init 50 = .ok (.aload_n 0, 1) := by decide +kernel
theorem dX7_init_51 : decode cX7_init 51 = .ok (.new 22, 3) := by decide +kernel
theorem dX7_init_54 : decode cX7_init 54 = .ok (.dup, 1) := by decide +kernel
theorem dX7_init_55 : decode cX7_init 55 = .ok (.invokespecial 24, 3) := by decide +kernel
theorem dX7_init_58 : decode cX7_init 58 = .ok (.putfield 25, 3) := by decide +kernel
theorem dX7_init_61 : decode cX7_init 61 = .ok (.aload_n 0, 1) := by decide +kernel
theorem dX7_init_62 : decode cX7_init 62 = .ok (.new 29, 3) := by decide +kernel
theorem dX7_init_65 : decode cX7_init 65 = .ok (.dup, 1) := by decide +kernel
theorem dX7_init_66 : decode cX7_init 66 = .ok (.invokespecial 31, 3) := by decide +kernel
theorem dX7_init_69 : decode cX7_init 69 = .ok (.putfield 32, 3) := by decide +kernel
theorem dX7_init_72 : decode cX7_init 72 = .ok (.aload_n 0, 1) := by decide +kernel
theorem dX7_init_73 : decode cX7_init 73 = .ok (.iconst 0, 1) := by decide +kernel
theorem dX7_init_74 : decode cX7_init 74 = .ok (.putfield 36, 3) := by decide +kernel
theorem dX7_init_77 : decode cX7_init 77 = .ok (.aload_n 0, 1) := by decide +kernel
theorem dX7_init_78 : decode cX7_init 78 = .ok (.iconst 0, 1) := by decide +kernel
theorem dX7_init_79 : decode cX7_init 79 = .ok (.putfield 40, 3) := by decide +kernel
theorem dX7_init_82 : decode cX7_init 82 = .ok (.return_, 1) := by decide +kernel
theorem dX7_copy_0 : decode cX7_copy 0 = .ok (.aload_n 1, 1) := by decide +kernel
theorem dX7_copy_1 : decode cX7_copy 1 = .ok (.getfield 9, 3) := by decide +kernel
theorem dX7_copy_4 : decode cX7_copy 4 = .ok (.aload_n 0, 1) := by decide +kernel
theorem dX7_copy_5 : decode cX7_copy 5 = .ok (.getfield 9, 3) := by decide +kernel
theorem dX7_copy_8 : decode cX7_copy 8 = .ok (.invokestatic 43, 3) := by decide +kernel
theorem dX7_copy_11 : decode cX7_copy 11 = .ok (.aload_n 1, 1) := by decide +kernel
theorem dX7_copy_12 : decode cX7_copy 12 = .ok (.getfield 19, 3) := by decide +kernel
theorem dX7_copy_15 : decode cX7_copy 15 = .ok (.aload_n 0, 1) := by decide +kernel
theorem dX7_copy_16 : decode cX7_copy 16 = .ok (.getfield 19, 3) := by decide +kernel
theorem dX7_copy_19 : decode cX7_copy 19 = .ok (.invokestatic 43, 3) := by decide +kernel
theorem dX7_copy_22 : decode cX7_copy 22 = .ok (.aload_n 0, 1) := by decide +kernel
theorem dX7_copy_23 : decode cX7_copy 23 = .ok (.getfield 25, 3) := by decide +kernel
theorem dX7_copy_26 : decode cX7_copy 26 = .ok (.aload_n 1, 1) := by decide +kernel
theorem dX7_copy_27 : decode cX7_copy 27 = .ok (.getfield 25, 3) := by decide +kernel
theorem dX7_copy_30 : decode cX7_copy 30 = .ok (.invokevirtual 47, 3) := by decide +kernel
theorem dX7_copy_33 : decode cX7_copy 33 = .ok (.aload_n 0, 1) := by decide +kernel
theorem dX7_copy_34 : decode cX7_copy 34 = .ok (.getfield 32, 3) := by decide +kernel
theorem dX7_copy_37 : decode cX7_copy 37 = .ok (.aload_n 1, 1) := by decide +kernel
theorem dX7_copy_38 : decode cX7_copy 38 = .ok (.getfield 32, 3) := by decide +kernel
theorem dX7_copy_41 : decode cX7_copy 41 = .ok (.invokevirtual 51, 3) := by decide +kernel
theorem dX7_copy_44 : decode cX7_copy 44 = .ok (.aload_n 0, 1) := by decide +kernel
theorem dX7_copy_45 : decode cX7_copy 45 = .ok (.aload_n 1, 1) := by decide +kernel
theorem dX7_copy_46 : decode cX7_copy 46 = .ok (.getfield 36, 3) := by decide +kernel
theorem dX7_copy_49 : decode cX7_copy 49 = .ok (.putfield 36, 3) := by decide +kernel
theorem dX7_copy_52 : decode cX7_copy 52 = .ok (.aload_n 0, 1) := by decide +kernel
theorem dX7_copy_53 : decode cX7_copy 53 = .ok (.aload_n 1, 1) := by decide +kernel
theorem dX7_copy_54 : decode cX7_copy 54 = .ok (.getfield 40, 3) := by decide +kernel
theorem dX7_copy_57 : decode cX7_copy 57 = .ok (.putfield 40, 3) := by decide +kernel
theorem dX7_copy_60 : decode cX7_copy 60 = .ok (.return_, 1) := by decide +kernel
theorem dJxe99ae_isNaN_b9ae7_0 : decode cJxe99ae_isNaN_b9ae7 0 = .ok (.dload_n 0, 1) := by decide +kernel
theorem dJxe99ae_isNaN_b9ae7_1 : decode cJxe99ae_isNaN_b9ae7 1 = .ok (.dload_n 0, 1) := by decide +kernel
theorem dJxe99ae_isNaN_b9ae7_2 : decode cJxe99ae_isNaN_b9ae7 2 = .ok (.dcmp .l, 1) := by decide +kernel
theorem dJxe99ae_isNaN_b9ae7_3 : decode cJxe99ae_isNaN_b9ae7 3 = .ok (.ifCond .eq 7, 3) := by decide +kernel
theorem dJxe99ae_isNaN_b9ae7_6 : decode cJxe99ae_isNaN_b9ae7 6 = .ok (.iconst 1, 1) := by decide +kernel
theorem dJxe99ae_isNaN_b9ae7_7 : decode cJxe99ae_isNaN_b9ae7 7 = .ok (.goto 4, 3) := by decide +kernel
theorem dJxe99ae_isNaN_b9ae7_10 : decode cJxe99ae_isNaN_b9ae7 10 = .ok (.iconst 0, 1) := by decide +kernel
theorem dJxe99ae_isNaN_b9ae7_11 : decode cJxe99ae_isNaN_b9ae7 11 = .ok (.ireturn, 1) := by decide +kernel
theorem dJxe99ae_doubleToLongBits_ccdee_0 : decode cJxe99ae_doubleToLongBits_ccdee 0 = .ok (.dload_n 0, 1) := by decide +kernel
theorem dJxe99ae_doubleToLongBits_ccdee_1 : decode cJxe99ae_doubleToLongBits_ccdee 1 = .ok (.invokestatic 122, 3) := by decide +kernel
theorem dJxe99ae_doubleToLongBits_ccdee_4 : decode cJxe99ae_doubleToLongBits_ccdee 4 = .ok (.ifCond .ne 8, 3) := by decide +kernel
theorem dJxe99ae_doubleToLongBits_ccdee_7 : decode cJxe99ae_doubleToLongBits_ccdee 7 = .ok (.dload_n 0, 1) := by decide +kernel
theorem dJxe99ae_doubleToLongBits_ccdee_8 : decode cJxe99ae_doubleToLongBits_ccdee 8 = .ok (.invokestatic 134, 3) := by decide +kernel
theorem dJxe99ae_doubleToLongBits_ccdee_11 : decode cJxe99ae_doubleToLongBits_ccdee 11 = .ok (.lreturn, 1) := by decide +kernel
theorem dJxe99ae_doubleToLongBits_ccdee_12 : decode cJxe99ae_doubleToLongBits_ccdee 12 = .ok (.ldc2_w 137, 3) := by decide +kernel
theorem dJxe99ae_doubleToLongBits_ccdee_15 : decode cJxe99ae_doubleToLongBits_ccdee 15 = .ok (.lreturn, 1) := by decide +kernel
theorem dJ6_bitCount_0f7a4_0 : decode cJ6_bitCount_0f7a4 0 = .ok (.iload_n 0, 1) := by decide +kernel
theorem dJ6_bitCount_0f7a4_1 : decode cJ6_bitCount_0f7a4 1 = .ok (.iload_n 0, 1) := by decide +kernel
theorem dJ6_bitCount_0f7a4_2 : decode cJ6_bitCount_0f7a4 2 = .ok (.iconst 1, 1) := by decide +kernel
theorem dJ6_bitCount_0f7a4_3 : decode cJ6_bitCount_0f7a4 3 = .ok (.iushr, 1) := by decide +kernel
theorem dJ6_bitCount_0f7a4_4 : decode cJ6_bitCount_0f7a4 4 = .ok (.ldc_w 265, 3) := by decide +kernel
theorem dJ6_bitCount_0f7a4_7 : decode cJ6_bitCount_0f7a4 7 = .ok (.iand, 1) := by decide +kernel
theorem dJ6_bitCount_0f7a4_8 : decode cJ6_bitCount_0f7a4 8 = .ok (.isub, 1) := by decide +kernel
theorem dJ6_bitCount_0f7a4_9 : decode cJ6_bitCount_0f7a4 9 = .ok (.istore_n 0, 1) := by decide +kernel
theorem dJ6_bitCount_0f7a4_10 : decode cJ6_bitCount_0f7a4 10 = .ok (.iload_n 0, 1) := by decide +kernel
theorem dJ6_bitCount_0f7a4_11 : decode cJ6_bitCount_0f7a4 11 = .ok (.ldc_w 266, 3) := by decide +kernel
theorem dJ6_bitCount_0f7a4_14 : decode cJ6_bitCount_0f7a4 14 = .ok (.iand, 1) := by decide +kernel
theorem dJ6_bitCount_0f7a4_15 : decode cJ6_bitCount_0f7a4 15 = .ok (.iload_n 0, 1) := by decide +kernel
theorem dJ6_bitCount_0f7a4_16 : decode cJ6_bitCount_0f7a4 16 = .ok (.iconst 2, 1) := by decide +kernel
theorem dJ6_bitCount_0f7a4_17 : decode cJ6_bitCount_0f7a4 17 = .ok (.iushr, 1) := by decide +kernel
theorem dJ6_bitCount_0f7a4_18 : decode cJ6_bitCount_0f7a4 18 = .ok (.ldc_w 266, 3) := by decide +kernel
theorem dJ6_bitCount_0f7a4_21 : decode cJ6_bitCount_0f7a4 21 = .ok (.iand, 1) := by decide +kernel
theorem dJ6_bitCount_0f7a4_22 : decode cJ6_bitCount_0f7a4 22 = .ok (.iadd, 1) := by decide +kernel
theorem dJ6_bitCount_0f7a4_23 : decode cJ6_bitCount_0f7a4 23 = .ok (.istore_n 0, 1) := by decide +kernel
theorem dJ6_bitCount_0f7a4_24 : decode cJ6_bitCount_0f7a4 24 = .ok (.iload_n 0, 1) := by decide +kernel
theorem dJ6_bitCount_0f7a4_25 : decode cJ6_bitCount_0f7a4 25 = .ok (.iload_n 0, 1) := by decide +kernel
theorem dJ6_bitCount_0f7a4_26 : decode cJ6_bitCount_0f7a4 26 = .ok (.iconst 4, 1) := by decide +kernel
theorem dJ6_bitCount_0f7a4_27 : decode cJ6_bitCount_0f7a4 27 = .ok (.iushr, 1) := by decide +kernel
theorem dJ6_bitCount_0f7a4_28 : decode cJ6_bitCount_0f7a4 28 = .ok (.iadd, 1) := by decide +kernel
theorem dJ6_bitCount_0f7a4_29 : decode cJ6_bitCount_0f7a4 29 = .ok (.ldc_w 267, 3) := by decide +kernel
theorem dJ6_bitCount_0f7a4_32 : decode cJ6_bitCount_0f7a4 32 = .ok (.iand, 1) := by decide +kernel
theorem dJ6_bitCount_0f7a4_33 : decode cJ6_bitCount_0f7a4 33 = .ok (.istore_n 0, 1) := by decide +kernel
theorem dJ6_bitCount_0f7a4_34 : decode cJ6_bitCount_0f7a4 34 = .ok (.iload_n 0, 1) := by decide +kernel
theorem dJ6_bitCount_0f7a4_35 : decode cJ6_bitCount_0f7a4 35 = .ok (.iload_n 0, 1) := by decide +kernel
theorem dJ6_bitCount_0f7a4_36 : decode cJ6_bitCount_0f7a4 36 = .ok (.bipush 8, 2) := by decide +kernel
theorem dJ6_bitCount_0f7a4_38 : decode cJ6_bitCount_0f7a4 38 = .ok (.iushr, 1) := by decide +kernel
theorem dJ6_bitCount_0f7a4_39 : decode cJ6_bitCount_0f7a4 39 = .ok (.iadd, 1) := by decide +kernel
theorem dJ6_bitCount_0f7a4_40 : decode cJ6_bitCount_0f7a4 40 = .ok (.istore_n 0, 1) := by decide +kernel
theorem dJ6_bitCount_0f7a4_41 : decode cJ6_bitCount_0f7a4 41 = .ok (.iload_n 0, 1) := by decide +kernel
theorem dJ6_bitCount_0f7a4_42 : decode cJ6_bitCount_0f7a4 42 = .ok (.iload_n 0, 1) := by decide +kernel
theorem dJ6_bitCount_0f7a4_43 : decode cJ6_bitCount_0f7a4 43 = .ok (.bipush 16, 2) := by decide +kernel
theorem dJ6_bitCount_0f7a4_45 : decode cJ6_bitCount_0f7a4 45 = .ok (.iushr, 1) := by decide +kernel
theorem dJ6_bitCount_0f7a4_46 : decode cJ6_bitCount_0f7a4 46 = .ok (.iadd, 1) := by decide +kernel
theorem dJ6_bitCount_0f7a4_47 : decode cJ6_bitCount_0f7a4 47 = .ok (.istore_n 0, 1) := by decide +kernel
theorem dJ6_bitCount_0f7a4_48 : decode cJ6_bitCount_0f7a4 48 = .ok (.iload_n 0, 1) := by decide +kernel
theorem dJ6_bitCount_0f7a4_49 : decode cJ6_bitCount_0f7a4 49 = .ok (.bipush 63, 2) := by decide +kernel
theorem dJ6_bitCount_0f7a4_51 : decode cJ6_bitCount_0f7a4 51 = .ok (.iand, 1) := by decide +kernel
theorem dJ6_bitCount_0f7a4_52 : decode cJ6_bitCount_0f7a4 52 = .ok (.ireturn, 1) := by decide +kernel
theorem dJ9_floorDiv_f86c9_0 : decode cJ9_floorDiv_f86c9 0 = .ok (.lload_n 0, 1) := by decide +kernel
theorem dJ9_floorDiv_f86c9_1 : decode cJ9_floorDiv_f86c9 1 = .ok (.lload_n 2, 1) := by decide +kernel
theorem dJ9_floorDiv_f86c9_2 : decode cJ9_floorDiv_f86c9 2 = .ok (.ldiv, 1) := by decide +kernel
theorem dJ9_floorDiv_f86c9_3 : decode cJ9_floorDiv_f86c9 3 = .ok (.lstore 4, 2) := by decide +kernel
theorem dJ9_floorDiv_f86c9_5 : decode cJ9_floorDiv_f86c9 5 = .ok (.lload_n 0, 1) := by decide +kernel
theorem dJ9_floorDiv_f86c9_6 : decode cJ9_floorDiv_f86c9 6 = .ok (.lload_n 2, 1) := by decide +kernel
theorem dJ9_floorDiv_f86c9_7 : decode cJ9_floorDiv_f86c9 7 = .ok (.lxor, 1) := by decide +kernel
theorem dJ9_floorDiv_f86c9_8 : decode cJ9_floorDiv_f86c9 8 = .ok (.lconst 0, 1) := by decide +kernel
theorem dJ9_floorDiv_f86c9_9 : decode cJ9_floorDiv_f86c9 9 = .ok (.lcmp, 1) := by decide +kernel
theorem dJ9_floorDiv_f86c9_10 : decode cJ9_floorDiv_f86c9 10 = .ok (.ifCond .ge 17, 3) := by decide +kernel
theorem dJ9_floorDiv_f86c9_13 : decode cJ9_floorDiv_f86c9 13 = .ok (.lload 4, 2) := by decide +kernel
theorem dJ9_floorDiv_f86c9_15 : decode cJ9_floorDiv_f86c9 15 = .ok (.lload_n 2, 1) := by decide +kernel
theorem dJ9_floorDiv_f86c9_16 : decode cJ9_floorDiv_f86c9 16 = .ok (.lmul, 1) := by decide +kernel
theorem dJ9_floorDiv_f86c9_17 : decode cJ9_floorDiv_f86c9 17 = .ok (.lload_n 0, 1) := by decide +kernel
theorem dJ9_floorDiv_f86c9_18 : decode cJ9_floorDiv_f86c9 18 = .ok (.lcmp, 1) := by decide +kernel
theorem dJ9_floorDiv_f86c9_19 : decode cJ9_floorDiv_f86c9 19 = .ok (.ifCond .eq 8, 3) := by decide +kernel
theorem dJ9_floorDiv_f86c9_22 : decode cJ9_floorDiv_f86c9 22 = .ok (.lload 4, 2) := by decide +kernel
theorem dJ9_floorDiv_f86c9_24 : decode cJ9_floorDiv_f86c9 24 = .ok (.lconst 1, 1) := by decide +kernel
theorem dJ9_floorDiv_f86c9_25 : decode cJ9_floorDiv_f86c9 25 = .ok (.lsub, 1) := by decide +kernel
theorem dJ9_floorDiv_f86c9_26 : decode cJ9_floorDiv_f86c9 26 = .ok (.lreturn, 1) := by decide +kernel
theorem dJ9_floorDiv_f86c9_27 : decode cJ9_floorDiv_f86c9 27 = .ok (.lload 4, 2) := by decide +kernel
theorem dJ9_floorDiv_f86c9_29 : decode cJ9_floorDiv_f86c9 29 = .ok (.lreturn, 1) := by decide +kernel
theorem dJ9_abs_067f4_0 : decode cJ9_abs_067f4 0 = .ok (.lload_n 0, 1) := by decide +kernel
theorem dJ9_abs_067f4_1 : decode cJ9_abs_067f4 1 = .ok (.lconst 0, 1) := by decide +kernel
theorem dJ9_abs_067f4_2 : decode cJ9_abs_067f4 2 = .ok (.lcmp, 1) := by decide +kernel
theorem dJ9_abs_067f4_3 : decode cJ9_abs_067f4 3 = .ok (.ifCond .ge 8, 3) := by decide +kernel
theorem dJ9_abs_067f4_6 : decode cJ9_abs_067f4 6 = .ok (.lload_n 0, 1) := by decide +kernel
theorem dJ9_abs_067f4_7 : decode cJ9_abs_067f4 7 = .ok (.lneg, 1) := by decide +kernel
theorem dJ9_abs_067f4_8 : decode cJ9_abs_067f4 8 = .ok (.goto 4, 3) := by decide +kernel
theorem dJ9_abs_067f4_11 : decode cJ9_abs_067f4 11 = .ok (.lload_n 0, 1) := by decide +kernel
theorem dJ9_abs_067f4_12 : decode cJ9_abs_067f4 12 = .ok (.lreturn, 1) := by decide +kernel
theorem dJ9_max_7cf53_0 : decode cJ9_max_7cf53 0 = .ok (.iload_n 0, 1) := by decide +kernel
theorem dJ9_max_7cf53_1 : decode cJ9_max_7cf53 1 = .ok (.iload_n 1, 1) := by decide +kernel
theorem dJ9_max_7cf53_2 : decode cJ9_max_7cf53 2 = .ok (.if_icmp .lt 7, 3) := by decide +kernel
theorem dJ9_max_7cf53_5 : decode cJ9_max_7cf53 5 = .ok (.iload_n 0, 1) := by decide +kernel
theorem dJ9_max_7cf53_6 : decode cJ9_max_7cf53 6 = .ok (.goto 4, 3) := by decide +kernel
theorem dJ9_max_7cf53_9 : decode cJ9_max_7cf53 9 = .ok (.iload_n 1, 1) := by decide +kernel
theorem dJ9_max_7cf53_10 : decode cJ9_max_7cf53 10 = .ok (.ireturn, 1) := by decide +kernel
theorem dJ9_max_f86c9_0 : decode cJ9_max_f86c9 0 = .ok (.lload_n 0, 1) := by decide +kernel
theorem dJ9_max_f86c9_1 : decode cJ9_max_f86c9 1 = .ok (.lload_n 2, 1) := by decide +kernel
theorem dJ9_max_f86c9_2 : decode cJ9_max_f86c9 2 = .ok (.lcmp, 1) := by decide +kernel
theorem dJ9_max_f86c9_3 : decode cJ9_max_f86c9 3 = .ok (.ifCond .lt 7, 3) := by decide +kernel
theorem dJ9_max_f86c9_6 : decode cJ9_max_f86c9 6 = .ok (.lload_n 0, 1) := by decide +kernel
theorem dJ9_max_f86c9_7 : decode cJ9_max_f86c9 7 = .ok (.goto 4, 3) := by decide +kernel
theorem dJ9_max_f86c9_10 : decode cJ9_max_f86c9 10 = .ok (.lload_n 2, 1) := by decide +kernel
theorem dJ9_max_f86c9_11 : decode cJ9_max_f86c9 11 = .ok (.lreturn, 1) := by decide +kernel
theorem dJ9_min_7cf53_0 : decode cJ9_min_7cf53 0 = .ok (.iload_n 0, 1) := by decide +kernel
theorem dJ9_min_7cf53_1 : decode cJ9_min_7cf53 1 = .ok (.iload_n 1, 1) := by decide +kernel
theorem dJ9_min_7cf53_2 : decode cJ9_min_7cf53 2 = .ok (.if_icmp .gt 7, 3) := by decide +kernel
theorem dJ9_min_7cf53_5 : decode cJ9_min_7cf53 5 = .ok (.iload_n 0, 1) := by decide +kernel
theorem dJ9_min_7cf53_6 : decode cJ9_min_7cf53 6 = .ok (.goto 4, 3) := by decide +kernel
theorem dJ9_min_7cf53_9 : decode cJ9_min_7cf53 9 = .ok (.iload_n 1, 1) := by decide +kernel
theorem dJ9_min_7cf53_10 : decode cJ9_min_7cf53 10 = .ok (.ireturn, 1) := by decide +kernel
theorem dJ9_min_f86c9_0 : decode cJ9_min_f86c9 0 = .ok (.lload_n 0, 1) := by decide +kernel
theorem dJ9_min_f86c9_1 : decode cJ9_min_f86c9 1 = .ok (.lload_n 2, 1) := by decide +kernel
theorem dJ9_min_f86c9_2 : decode cJ9_min_f86c9 2 = .ok (.lcmp, 1) := by decide +kernel
theorem dJ9_min_f86c9_3 : decode cJ9_min_f86c9 3 = .ok (.ifCond .gt 7, 3) := by decide +kernel
theorem dJ9_min_f86c9_6 : decode cJ9_min_f86c9 6 = .ok (.lload_n 0, 1) := by decide +kernel
theorem dJ9_min_f86c9_7 : decode cJ9_min_f86c9 7 = .ok (.goto 4, 3) := by decide +kernel
theorem dJ9_min_f86c9_10 : decode cJ9_min_f86c9 10 = .ok (.lload_n 2, 1) := by decide +kernel
theorem dJ9_min_f86c9_11 : decode cJ9_min_f86c9 11 = .ok (.lreturn, 1) := by decide +kernel
end
section
theorem dX8_init_0 : decode cX8_init 0 = .ok (.aload_n 0, 1) := by decide +kernel
theorem dX8_init_1 : decode cX8_init 1 = .ok (.invokespecial 1, 3) := by decide +kernel
theorem dX8_init_4 : decode cX8_init 4 = .ok (.aload_n 0, 1) := by decide +kernel
theorem dX8_init_5 : decode cX8_init 5 = .ok (.new 7, 3) := by decide +kernel
theorem dX8_init_8 : decode cX8_init 8 = .ok (.dup, 1) := by decide +kernel
theorem dX8_init_9 : decode cX8_init 9 = .ok (.invokespecial 9, 3) := by decide +kernel
theorem dX8_init_12 : decode cX8_init 12 = .ok (.putfield 10, 3) := by decide +kernel
theorem dX8_init_15 : decode cX8_init 15 = .ok (.aload_n 0, 1) := by decide +kernel
theorem dX8_init_16 : decode cX8_init 16 = .ok (.new 7, 3) := by decide +kernel
theorem dX8_init_19 : decode cX8_init 19 = .ok (.dup, 1) := by decide +kernel
theorem dX8_init_20 : decode cX8_init 20 = .ok (.invokespecial 9, 3) := by decide +kernel
theorem dX8_init_23 : decode cX8_init 23 = .ok (.putfield 16, 3) := by decide +kernel
theorem dX8_init_26 : decode cX8_init 26 = .ok (.aload_n 0, 1) := by decide +kernel
theorem dX8_init_27 : decode cX8_init 27 = .ok (.new 19, 3) := by decide +kernel
theorem dX8_init_30 : decode cX8_init 30 = .ok (.dup, 1) := by decide +kernel
theorem dX8_init_31 : decode cX8_init 31 = .ok (.invokespecial 21, 3) := by decide +kernel
theorem dX8_init_34 : decode cX8_init 34 = .ok (.putfield 22, 3) := by decide +kernel
theorem dX8_init_37 : decode cX8_init 37 = .ok (.aload_n 0, 1) := by decide +kernel
theorem dX8_init_38 : decode cX8_init 38 = .ok (.new 26, 3) := by decide +kernel
theorem dX8_init_41 : decode cX8_init 41 = .ok (.dup, 1) := by decide +kernel
theorem dX8_init_42 : decode cX8_init 42 = .ok (.invokespecial 28, 3) := by decide +kernel
theorem dX8_init_45 : decode cX8_init 45 = .ok (.putfield 29, 3) := by decide +kernel
theorem dX8_init_48 : decode cX8_init 48 = .ok (.aload_n 0, 1) := by decide +kernel
theorem dX8_init_49 : decode cX8_init 49 = .ok (.new 33, 3) := by decide +kernel
theorem dX8_init_52 : decode cX8_init 52 = .ok (.dup, 1) := by decide +kernel
theorem dX8_init_53 : decode cX8_init 53 = .ok (.invokespecial 35, 3) := by decide +kernel
theorem dX8_init_56 : decode cX8_init 56 = .ok (.putfield 36, 3) := by decide +kernel
theorem dX8_init_59 : decode cX8_init 59 = .ok (.aload_n 0, 1) := by decide +kernel
theorem dX8_init_60 : decode cX8_init 60 = .ok (.new 40, 3) := by decide +kernel
theorem dX8_init_63 : decode cX8_init 63 = .ok (.dup, 1) := by decide +kernel
theorem dX8_init_64 : decode cX8_init 64 = .ok (.invokespecial 42, 3) := by decide +kernel
theorem dX8_init_67 : decode cX8_init 67 = .ok (.putfield 43, 3) := by decide +kernel
theorem dX8_init_70 : decode cX8_init 70 = .ok (.aload_n 0, 1) := by decide +kernel
theorem dX8_init_71 : decode cX8_init 71 = .ok (.new 47, 3) := by decide +kernel
theorem dX8_init_74 : decode cX8_init 74 = .ok (.dup, 1) := by decide +kernel
theorem dX8_init_75 : decode cX8_init 75 = .ok (.invokespecial 49, 3) := by decide +kernel
theorem dX8_init_78 : decode cX8_init 78 = .ok (.putfield 50, 3) := by decide +kernel
theorem dX8_init_81 : decode cX8_init 81 = .ok (.aload_n 0, 1) := by decide +kernel
theorem dX8_init_82 : decode cX8_init 82 = .ok (.iconst 4, 1) := by decide +kernel
theorem dX8_init_83 : decode cX8_init 83 = .ok (.newarray .int, 2) := by decide +kernel
theorem dX8_init_85 : decode cX8_init 85 = .ok (.putfield 54, 3) := by decide +kernel
theorem dX8_init_88 : decode cX8_init 88 = .ok (.aload_n 0, 1) := by decide +kernel
theorem dX8_init_89 : decode cX8_init 89 = .ok (.iconst 0, 1) := by decide +kernel
theorem dX8_init_90 : decode cX8_init 90 = .ok (.putfield 58, 3) := by decide +kernel
theorem dX8_init_93 : decode cX8_init 93 = .ok (.return_, 1) := by decide +kernel
theorem dX8_stick_0 : decode cX8_stick 0 = .ok (.iload_n 1, 1) := by decide +kernel
theorem dX8_stick_1 : decode cX8_stick 1 = .ok (.invokestatic 62, 3) := by decide +kernel
theorem dX8_stick_4 : decode cX8_stick 4 = .ok (.iload_n 2, 1) := by decide +kernel
theorem dX8_stick_5 : decode cX8_stick 5 = .ok (.bipush 20, 2) := by decide +kernel
theorem dX8_stick_7 : decode cX8_stick 7 = .ok (.bipush 60, 2) := by decide +kernel
theorem dX8_stick_9 : decode cX8_stick 9 = .ok (.invokestatic 66, 3) := by decide +kernel
theorem dX8_stick_12 : decode cX8_stick 12 = .ok (.aload_n 0, 1) := by decide +kernel
theorem dX8_stick_13 : decode cX8_stick 13 = .ok (.getfield 22, 3) := by decide +kernel
theorem dX8_stick_16 : decode cX8_stick 16 = .ok (.aload_n 0, 1) := by decide +kernel
theorem dX8_stick_17 : decode cX8_stick 17 = .ok (.getfield 10, 3) := by decide +kernel
theorem dX8_stick_20 : decode cX8_stick 20 = .ok (.invokevirtual 70, 3) := by decide +kernel
theorem dX8_stick_23 : decode cX8_stick 23 = .ok (.aload_n 0, 1) := by decide +kernel
theorem dX8_stick_24 : decode cX8_stick 24 = .ok (.getfield 10, 3) := by decide +kernel
theorem dX8_stick_27 : decode cX8_stick 27 = .ok (.getfield 74, 3) := by decide +kernel
theorem dX8_stick_30 : decode cX8_stick 30 = .ok (.iload_n 1, 1) := by decide +kernel
theorem dX8_stick_31 : decode cX8_stick 31 = .ok (.invokestatic 77, 3) := by decide +kernel
theorem dX8_stick_34 : decode cX8_stick 34 = .ok (.istore_n 3, 1) := by decide +kernel
theorem dX8_stick_35 : decode cX8_stick 35 = .ok (.aload_n 0, 1) := by decide +kernel
theorem dX8_stick_36 : decode cX8_stick 36 = .ok (.getfield 10, 3) := by decide +kernel
theorem dX8_stick_39 : decode cX8_stick 39 = .ok (.getfield 74, 3) := by decide +kernel
theorem dX8_stick_42 : decode cX8_stick 42 = .ok (.iload_n 1, 1) := by decide +kernel
theorem dX8_stick_43 : decode cX8_stick 43 = .ok (.iload_n 2, 1) := by decide +kernel
theorem dX8_stick_44 : decode cX8_stick 44 = .ok (.invokestatic 81, 3) := by decide +kernel
theorem dX8_stick_47 : decode cX8_stick 47 = .ok (.iload_n 3, 1) := by decide +kernel
theorem dX8_stick_48 : decode cX8_stick 48 = .ok (.ireturn, 1) := by decide +kernel
theorem dX8_table_0 : decode cX8_table 0 = .ok (.iload_n 1, 1) := by decide +kernel
theorem dX8_table_1 : decode cX8_table 1 = .ok (.iload_n 2, 1) := by decide +kernel
theorem dX8_table_2 : decode cX8_table 2 = .ok (.invokestatic 85, 3) := by decide +kernel
theorem dX8_table_5 : decode cX8_table 5 = .ok (.iload_n 3, 1) := by decide +kernel
theorem dX8_table_6 : decode cX8_table 6 = .ok (.iconst 1, 1) := by decide +kernel
theorem dX8_table_7 : decode cX8_table 7 = .ok (.bipush 99, 2) := by decide +kernel
theorem dX8_table_9 : decode cX8_table 9 = .ok (.invokestatic 66, 3) := by decide +kernel
theorem dX8_table_12 : decode cX8_table 12 = .ok (.iload 4, 2) := by decide +kernel
theorem dX8_table_14 : decode cX8_table 14 = .ok (.iconst 1, 1) := by decide +kernel
theorem dX8_table_15 : decode cX8_table 15 = .ok (.bipush 99, 2) := by decide +kernel
theorem dX8_table_17 : decode cX8_table 17 = .ok (.invokestatic 66, 3) := by decide +kernel
theorem dX8_table_20 : decode cX8_table 20 = .ok (.aload_n 0, 1) := by decide +kernel
theorem dX8_table_21 : decode cX8_table 21 = .ok (.getfield 36, 3) := by decide +kernel
theorem dX8_table_24 : decode cX8_table 24 = .ok (.aload_n 0, 1) := by decide +kernel
theorem dX8_table_25 : decode cX8_table 25 = .ok (.getfield 10, 3) := by decide +kernel
theorem dX8_table_28 : decode cX8_table 28 = .ok (.getfield 89, 3) := by decide +kernel
theorem dX8_table_31 : decode cX8_table 31 = .ok (.iload_n 1, 1) := by decide +kernel
theorem dX8_table_32 : decode cX8_table 32 = .ok (.iload_n 2, 1) := by decide +kernel
theorem dX8_table_33 : decode cX8_table 33 = .ok (.iload_n 3, 1) := by decide +kernel
theorem dX8_table_34 : decode cX8_table 34 = .ok (.iload 4, 2) := by decide +kernel
theorem dX8_table_36 : decode cX8_table 36 = .ok (.aload_n 0, 1) := by decide +kernel
theorem dX8_table_37 : decode cX8_table 37 = .ok (.invokevirtual 93, 3) := by decide +kernel
theorem dX8_table_40 : decode cX8_table 40 = .ok (.invokevirtual 97, 3) := by decide +kernel
theorem dX8_table_43 : decode cX8_table 43 = .ok (.ifCond .lt 13, 3) := by decide +kernel
theorem dX8_table_46 : decode cX8_table 46 = .ok (.new 101, 3) := by decide +kernel
theorem dX8_table_49 : decode cX8_table 49 = .ok (.dup, 1) := by decide +kernel
theorem dX8_table_50 : decode cX8_table 50 = .ok (.ldc 103, 2) := by decide +kernel
theorem dX8_table_52 : decode cX8_table 52 = .ok (.invokespecial 105, 3) := by decide +kernel
theorem dX8_table_55 : decode cX8_table 55 = .ok (.athrow, 1) := by decide +kernel
theorem dX8_table_56 : decode cX8_table 56 = .ok (.aload_n 0, 1) := by decide +kernel
theorem dX8_table_57 : decode cX8_table 57 = .ok (.getfield 22, 3) := by decide +kernel
theorem dX8_table_60 : decode cX8_table 60 = .ok (.aload_n 0, 1) := by decide +kernel
theorem dX8_table_61 : decode cX8_table 61 = .ok (.getfield 10, 3) := by decide +kernel
theorem dX8_table_64 : decode cX8_table 64 = .ok (.invokevirtual 70, 3) := by decide +kernel
theorem dX8_table_67 : decode cX8_table 67 = .ok (.aload_n 0, 1) := by decide +kernel
theorem dX8_table_68 : decode cX8_table 68 = .ok (.getfield 10, 3) := by decide +kernel
theorem dX8_table_71 : decode cX8_table 71 = .ok (.getfield 89, 3) := by decide +kernel
theorem dX8_table_74 : decode cX8_table 74 = .ok (.iload_n 1, 1) := by decide +kernel
theorem dX8_table_75 : decode cX8_table 75 = .ok (.iload_n 2, 1) := by decide +kernel
theorem dX8_table_76 : decode cX8_table 76 = .ok (.iload_n 3, 1) := by decide +kernel
theorem dX8_table_77 : decode cX8_table 77 = .ok (.iload 4, 2) := by decide +kernel
theorem dX8_table_79 : decode cX8_table 79 = .ok (.invokevirtual 108, 3) := by decide +kernel
theorem dX8_table_82 : decode cX8_table 82 = .ok (.aload_n 0, 1) := by decide +kernel
theorem dX8_table_83 : decode cX8_table 83 = .ok (.getfield 36, 3) := by decide +kernel
theorem dX8_table_86 : decode cX8_table 86 = .ok (.aload_n 0, 1) := by decide +kernel
theorem dX8_table_87 : decode cX8_table 87 = .ok (.getfield 10, 3) := by decide +kernel
theorem dX8_table_90 : decode cX8_table 90 = .ok (.getfield 89, 3) := by decide +kernel
theorem dX8_table_93 : decode cX8_table 93 = .ok (.invokevirtual 114, 3) := by decide +kernel
theorem dX8_table_96 : decode cX8_table 96 = .ok (.ireturn, 1) := by decide +kernel
theorem dX8_drop_0 : decode cX8_drop 0 = .ok (.iload_n 1, 1) := by decide +kernel
theorem dX8_drop_1 : decode cX8_drop 1 = .ok (.invokestatic 62, 3) := by decide +kernel
theorem dX8_drop_4 : decode cX8_drop 4 = .ok (.iload_n 2, 1) := by decide +kernel
theorem dX8_drop_5 : decode cX8_drop 5 = .ok (.invokestatic 62, 3) := by decide +kernel
theorem dX8_drop_8 : decode cX8_drop 8 = .ok (.aload_n 0, 1) := by decide +kernel
theorem dX8_drop_9 : decode cX8_drop 9 = .ok (.getfield 10, 3) := by decide +kernel
theorem dX8_drop_12 : decode cX8_drop 12 = .ok (.getfield 89, 3) := by decide +kernel
theorem dX8_drop_15 : decode cX8_drop 15 = .ok (.iload_n 1, 1) := by decide +kernel
theorem dX8_drop_16 : decode cX8_drop 16 = .ok (.iload_n 2, 1) := by decide +kernel
theorem dX8_drop_17 : decode cX8_drop 17 = .ok (.invokevirtual 118, 3) := by decide +kernel
theorem dX8_drop_20 : decode cX8_drop 20 = .ok (.ifCond .ne 13, 3) := by decide +kernel
theorem dX8_drop_23 : decode cX8_drop 23 = .ok (.new 101, 3) := by decide +kernel
theorem dX8_drop_26 : decode cX8_drop 26 = .ok (.dup, 1) := by decide +kernel
theorem dX8_drop_27 : decode cX8_drop 27 = .ok (.ldc 122, 2) := by decide +kernel
theorem dX8_drop_29 : decode cX8_drop 29 = .ok (.invokespecial 105, 3) := by decide +kernel
theorem dX8_drop_32 : decode cX8_drop 32 = .ok (.athrow, 1) := by decide +kernel
theorem dX8_drop_33 : decode cX8_drop 33 = .ok (.aload_n 0, 1) := by decide +kernel
theorem dX8_drop_34 : decode cX8_drop 34 = .ok (.getfield 22, 3) := by decide +kernel
theorem dX8_drop_37 : decode cX8_drop 37 = .ok (.aload_n 0, 1) := by decide +kernel
theorem dX8_drop_38 : decode cX8_drop 38 = .ok (.getfield 10, 3) := by decide +kernel
theorem dX8_drop_41 : decode cX8_drop 41 = .ok (.invokevirtual 70, 3) := by decide +kernel
theorem dX8_drop_44 : decode cX8_drop 44 = .ok (.aload_n 0, 1) := by decide +kernel
theorem dX8_drop_45 : decode cX8_drop 45 = .ok (.getfield 10, 3) := by decide +kernel
theorem dX8_drop_48 : decode cX8_drop 48 = .ok (.getfield 89, 3) := by decide +kernel
theorem dX8_drop_51 : decode cX8_drop 51 = .ok (.iload_n 1, 1) := by decide +kernel
theorem dX8_drop_52 : decode cX8_drop 52 = .ok (.iload_n 2, 1) := by decide +kernel
theorem dX8_drop_53 : decode cX8_drop 53 = .ok (.iconst 0, 1) := by decide +kernel
theorem dX8_drop_54 : decode cX8_drop 54 = .ok (.iconst 0, 1) := by decide +kernel
theorem dX8_drop_55 : decode cX8_drop 55 = .ok (.invokevirtual 108, 3) := by decide +kernel
theorem dX8_drop_58 : decode cX8_drop 58 = .ok (.aload_n 0, 1) := by decide +kernel
theorem dX8_drop_59 : decode cX8_drop 59 = .ok (.getfield 36, 3) := by decide +kernel
theorem dX8_drop_62 : decode cX8_drop 62 = .ok (.aload_n 0, 1) := by decide +kernel
theorem dX8_drop_63 : decode cX8_drop 63 = .ok (.getfield 10, 3) := by decide +kernel
theorem dX8_drop_66 : decode cX8_drop 66 = .ok (.getfield 89, 3) := by decide +kernel
theorem dX8_drop_69 : decode cX8_drop 69 = .ok (.invokevirtual 114, 3) := by decide +kernel
theorem dX8_drop_72 : decode cX8_drop 72 = .ok (.ireturn, 1) := by decide +kernel
theorem dX8_set_0 : decode cX8_set 0 = .ok (.iload_n 1, 1) := by decide +kernel
theorem dX8_set_1 : decode cX8_set 1 = .ok (.ifCond .lt 8, 3) := by decide +kernel
theorem dX8_set_4 : decode cX8_set 4 = .ok (.iload_n 1, 1) := by decide +kernel
theorem dX8_set_5 : decode cX8_set 5 = .ok (.iconst 3, 1) := by decide +kernel
theorem dX8_set_6 : decode cX8_set 6 = .ok (.if_icmp .lt 13, 3) := by decide +kernel
theorem dX8_set_9 : decode cX8_set 9 = .ok (.new 124, 3) := by decide +kernel
theorem dX8_set_12 : decode cX8_set 12 = .ok (.dup, 1) := by decide +kernel
theorem dX8_set_13 : decode cX8_set 13 = .ok (.ldc 126, 2) := by decide +kernel
theorem dX8_set_15 : decode cX8_set 15 = .ok (.invokespecial 128, 3) := by decide +kernel
theorem dX8_set_18 : decode cX8_set 18 = .ok (.athrow, 1) := by decide +kernel
theorem dX8_set_19 : decode cX8_set 19 = .ok (.iload_n 2, 1) := by decide +kernel
theorem dX8_set_20 : decode cX8_set 20 = .ok (.iload_n 1, 1) := by decide +kernel
theorem dX8_set_21 : decode cX8_set 21 = .ok (.invokestatic 129, 3) := by decide +kernel
theorem dX8_set_24 : decode cX8_set 24 = .ok (.iload_n 1, 1) := by decide +kernel
theorem dX8_set_25 : decode cX8_set 25 = .ok (.invokestatic 133, 3) := by decide +kernel
theorem dX8_set_28 : decode cX8_set 28 = .ok (.invokestatic 66, 3) := by decide +kernel
theorem dX8_set_31 : decode cX8_set 31 = .ok (.aload_n 0, 1) := by decide +kernel
theorem dX8_set_32 : decode cX8_set 32 = .ok (.getfield 22, 3) := by decide +kernel
theorem dX8_set_35 : decode cX8_set 35 = .ok (.aload_n 0, 1) := by decide +kernel
theorem dX8_set_36 : decode cX8_set 36 = .ok (.getfield 10, 3) := by decide +kernel
theorem dX8_set_39 : decode cX8_set 39 = .ok (.invokevirtual 70, 3) := by decide +kernel
theorem dX8_set_42 : decode cX8_set 42 = .ok (.aload_n 0, 1) := by decide +kernel
theorem dX8_set_43 : decode cX8_set 43 = .ok (.getfield 10, 3) := by decide +kernel
theorem dX8_set_46 : decode cX8_set 46 = .ok (.getfield 136, 3) := by decide +kernel
theorem dX8_set_49 : decode cX8_set 49 = .ok (.iload_n 1, 1) := by decide +kernel
theorem dX8_set_50 : decode cX8_set 50 = .ok (.invokestatic 77, 3) := by decide +kernel
theorem dX8_set_53 : decode cX8_set 53 = .ok (.istore_n 3, 1) := by decide +kernel
theorem dX8_set_54 : decode cX8_set 54 = .ok (.aload_n 0, 1) := by decide +kernel
theorem dX8_set_55 : decode cX8_set 55 = .ok (.getfield 10, 3) := by decide +kernel
theorem dX8_set_58 : decode cX8_set 58 = .ok (.getfield 136, 3) := by decide +kernel
theorem dX8_set_61 : decode cX8_set 61 = .ok (.iload_n 1, 1) := by decide +kernel
theorem dX8_set_62 : decode cX8_set 62 = .ok (.iload_n 2, 1) := by decide +kernel
theorem dX8_set_63 : decode cX8_set 63 = .ok (.invokestatic 81, 3) := by decide +kernel
theorem dX8_set_66 : decode cX8_set 66 = .ok (.iload_n 3, 1) := by decide +kernel
theorem dX8_set_67 : decode cX8_set 67 = .ok (.ireturn, 1) := by decide +kernel
theorem dX8_bolt_0 : decode cX8_bolt 0 = .ok (.iload_n 1, 1) := by decide +kernel
theorem dX8_bolt_1 : decode cX8_bolt 1 = .ok (.invokestatic 62, 3) := by decide +kernel
theorem dX8_bolt_4 : decode cX8_bolt 4 = .ok (.iload_n 2, 1) := by decide +kernel
theorem dX8_bolt_5 : decode cX8_bolt 5 = .ok (.iconst 1, 1) := by decide +kernel
theorem dX8_bolt_6 : decode cX8_bolt 6 = .ok (.sipush 9999, 3) := by decide +kernel
theorem dX8_bolt_9 : decode cX8_bolt 9 = .ok (.invokestatic 66, 3) := by decide +kernel
theorem dX8_bolt_12 : decode cX8_bolt 12 = .ok (.aload_n 0, 1) := by decide +kernel
theorem dX8_bolt_13 : decode cX8_bolt 13 = .ok (.getfield 10, 3) := by decide +kernel
theorem dX8_bolt_16 : decode cX8_bolt 16 = .ok (.getfield 139, 3) := by decide +kernel
theorem dX8_bolt_19 : decode cX8_bolt 19 = .ok (.getfield 143, 3) := by decide +kernel
theorem dX8_bolt_22 : decode cX8_bolt 22 = .ok (.bipush 8, 2) := by decide +kernel
theorem dX8_bolt_24 : decode cX8_bolt 24 = .ok (.if_icmp .lt 13, 3) := by decide +kernel
theorem dX8_bolt_27 : decode cX8_bolt 27 = .ok (.new 101, 3) := by decide +kernel
theorem dX8_bolt_30 : decode cX8_bolt 30 = .ok (.dup, 1) := by decide +kernel
theorem dX8_bolt_31 : decode cX8_bolt 31 = .ok (.ldc 149, 2) := by decide +kernel
theorem dX8_bolt_33 : decode cX8_bolt 33 = .ok (.invokespecial 105, 3) := by decide +kernel
theorem dX8_bolt_36 : decode cX8_bolt 36 = .ok (.athrow, 1) := by decide +kernel
theorem dX8_bolt_37 : decode cX8_bolt 37 = .ok (.aload_n 0, 1) := by decide +kernel
theorem dX8_bolt_38 : decode cX8_bolt 38 = .ok (.getfield 22, 3) := by decide +kernel
theorem dX8_bolt_41 : decode cX8_bolt 41 = .ok (.aload_n 0, 1) := by decide +kernel
theorem dX8_bolt_42 : decode cX8_bolt 42 = .ok (.getfield 10, 3) := by decide +kernel
theorem dX8_bolt_45 : decode cX8_bolt 45 = .ok (.invokevirtual 70, 3) := by decide +kernel
theorem dX8_bolt_48 : decode cX8_bolt 48 = .ok (.aload_n 0, 1) := by decide +kernel
theorem dX8_bolt_49 : decode cX8_bolt 49 = .ok (.getfield 10, 3) := by decide +kernel
theorem dX8_bolt_52 : decode cX8_bolt 52 = .ok (.getfield 139, 3) := by decide +kernel
theorem dX8_bolt_55 : decode cX8_bolt 55 = .ok (.iload_n 1, 1) := by decide +kernel
theorem dX8_bolt_56 : decode cX8_bolt 56 = .ok (.iload_n 2, 1) := by decide +kernel
theorem dX8_bolt_57 : decode cX8_bolt 57 = .ok (.invokevirtual 151, 3) := by decide +kernel
theorem dX8_bolt_60 : decode cX8_bolt 60 = .ok (.aload_n 0, 1) := by decide +kernel
theorem dX8_bolt_61 : decode cX8_bolt 61 = .ok (.getfield 10, 3) := by decide +kernel
theorem dX8_bolt_64 : decode cX8_bolt 64 = .ok (.getfield 139, 3) := by decide +kernel
theorem dX8_bolt_67 : decode cX8_bolt 67 = .ok (.getfield 143, 3) := by decide +kernel
theorem dX8_bolt_70 : decode cX8_bolt 70 = .ok (.iconst 1, 1) := by decide +kernel
theorem dX8_bolt_71 : decode cX8_bolt 71 = .ok (.isub, 1) := by decide +kernel
theorem dX8_bolt_72 : decode cX8_bolt 72 = .ok (.ireturn, 1) := by decide +kernel
theorem dX8_send_0 : decode cX8_send 0 = .ok (.aload_n 0, 1) := by decide +kernel
theorem dX8_send_1 : decode cX8_send 1 = .ok (.iload_n 1, 1) := by decide +kernel
theorem dX8_send_2 : decode cX8_send 2 = .ok (.invokevirtual 154, 3) := by decide +kernel
theorem dX8_send_5 : decode cX8_send 5 = .ok (.iload_n 2, 1) := by decide +kernel
theorem dX8_send_6 : decode cX8_send 6 = .ok (.invokestatic 62, 3) := by decide +kernel
theorem dX8_send_9 : decode cX8_send 9 = .ok (.aload_n 0, 1) := by decide +kernel
theorem dX8_send_10 : decode cX8_send 10 = .ok (.iload_n 1, 1) := by decide +kernel
theorem dX8_send_11 : decode cX8_send 11 = .ok (.iload_n 2, 1) := by decide +kernel
theorem dX8_send_12 : decode cX8_send 12 = .ok (.invokevirtual 157, 3) := by decide +kernel
theorem dX8_send_15 : decode cX8_send 15 = .ok (.ifCond .eq 13, 3) := by decide +kernel
theorem dX8_send_18 : decode cX8_send 18 = .ok (.new 101, 3) := by decide +kernel
theorem dX8_send_21 : decode cX8_send 21 = .ok (.dup, 1) := by decide +kernel
theorem dX8_send_22 : decode cX8_send 22 = .ok (.ldc 161, 2) := by decide +kernel
theorem dX8_send_24 : decode cX8_send 24 = .ok (.invokespecial 105, 3) := by decide +kernel
theorem dX8_send_27 : decode cX8_send 27 = .ok (.athrow, 1) := by decide +kernel
theorem dX8_send_28 : decode cX8_send 28 = .ok (.aload_n 0, 1) := by decide +kernel
theorem dX8_send_29 : decode cX8_send 29 = .ok (.getfield 22, 3) := by decide +kernel
theorem dX8_send_32 : decode cX8_send 32 = .ok (.aload_n 0, 1) := by decide +kernel
theorem dX8_send_33 : decode cX8_send 33 = .ok (.getfield 10, 3) := by decide +kernel
theorem dX8_send_36 : decode cX8_send 36 = .ok (.invokevirtual 70, 3) := by decide +kernel
theorem dX8_send_39 : decode cX8_send 39 = .ok (.aload_n 0, 1) := by decide +kernel
theorem dX8_send_40 : decode cX8_send 40 = .ok (.iload_n 1, 1) := by decide +kernel
theorem dX8_send_41 : decode cX8_send 41 = .ok (.iload_n 2, 1) := by decide +kernel
theorem dX8_send_42 : decode cX8_send 42 = .ok (.invokevirtual 163, 3) := by decide +kernel
theorem dX8_send_45 : decode cX8_send 45 = .ok (.aload_n 0, 1) := by decide +kernel
theorem dX8_send_46 : decode cX8_send 46 = .ok (.getfield 10, 3) := by decide +kernel
theorem dX8_send_49 : decode cX8_send 49 = .ok (.getfield 139, 3) := by decide +kernel
theorem dX8_send_52 : decode cX8_send 52 = .ok (.getfield 166, 3) := by decide +kernel
theorem dX8_send_55 : decode cX8_send 55 = .ok (.iload_n 1, 1) := by decide +kernel
theorem dX8_send_56 : decode cX8_send 56 = .ok (.invokestatic 77, 3) := by decide +kernel
theorem dX8_send_59 : decode cX8_send 59 = .ok (.ireturn, 1) := by decide +kernel
theorem dX8_sell_0 : decode cX8_sell 0 = .ok (.aload_n 0, 1) := by decide +kernel
theorem dX8_sell_1 : decode cX8_sell 1 = .ok (.iload_n 1, 1) := by decide +kernel
theorem dX8_sell_2 : decode cX8_sell 2 = .ok (.invokevirtual 154, 3) := by decide +kernel
theorem dX8_sell_5 : decode cX8_sell 5 = .ok (.aload_n 0, 1) := by decide +kernel
theorem dX8_sell_6 : decode cX8_sell 6 = .ok (.getfield 22, 3) := by decide +kernel
theorem dX8_sell_9 : decode cX8_sell 9 = .ok (.aload_n 0, 1) := by decide +kernel
theorem dX8_sell_10 : decode cX8_sell 10 = .ok (.getfield 10, 3) := by decide +kernel
theorem dX8_sell_13 : decode cX8_sell 13 = .ok (.invokevirtual 70, 3) := by decide +kernel
theorem dX8_sell_16 : decode cX8_sell 16 = .ok (.aload_n 0, 1) := by decide +kernel
theorem dX8_sell_17 : decode cX8_sell 17 = .ok (.getfield 10, 3) := by decide +kernel
theorem dX8_sell_20 : decode cX8_sell 20 = .ok (.getfield 74, 3) := by decide +kernel
theorem dX8_sell_23 : decode cX8_sell 23 = .ok (.aload_n 0, 1) := by decide +kernel
theorem dX8_sell_24 : decode cX8_sell 24 = .ok (.getfield 10, 3) := by decide +kernel
theorem dX8_sell_27 : decode cX8_sell 27 = .ok (.getfield 139, 3) := by decide +kernel
theorem dX8_sell_30 : decode cX8_sell 30 = .ok (.getfield 169, 3) := by decide +kernel
theorem dX8_sell_33 : decode cX8_sell 33 = .ok (.iload_n 1, 1) := by decide +kernel
theorem dX8_sell_34 : decode cX8_sell 34 = .ok (.invokestatic 77, 3) := by decide +kernel
theorem dX8_sell_37 : decode cX8_sell 37 = .ok (.invokestatic 77, 3) := by decide +kernel
theorem dX8_sell_40 : decode cX8_sell 40 = .ok (.istore_n 2, 1) := by decide +kernel
theorem dX8_sell_41 : decode cX8_sell 41 = .ok (.aload_n 0, 1) := by decide +kernel
theorem dX8_sell_42 : decode cX8_sell 42 = .ok (.getfield 10, 3) := by decide +kernel
theorem dX8_sell_45 : decode cX8_sell 45 = .ok (.getfield 139, 3) := by decide +kernel
theorem dX8_sell_48 : decode cX8_sell 48 = .ok (.getfield 166, 3) := by decide +kernel
theorem dX8_sell_51 : decode cX8_sell 51 = .ok (.iload_n 1, 1) := by decide +kernel
theorem dX8_sell_52 : decode cX8_sell 52 = .ok (.invokestatic 77, 3) := by decide +kernel
theorem dX8_sell_55 : decode cX8_sell 55 = .ok (.istore_n 3, 1) := by decide +kernel
theorem dX8_sell_56 : decode cX8_sell 56 = .ok (.aload_n 0, 1) := by decide +kernel
theorem dX8_sell_57 : decode cX8_sell 57 = .ok (.getfield 10, 3) := by decide +kernel
theorem dX8_sell_60 : decode cX8_sell 60 = .ok (.getfield 139, 3) := by decide +kernel
theorem dX8_sell_63 : decode cX8_sell 63 = .ok (.iload_n 1, 1) := by decide +kernel
theorem dX8_sell_64 : decode cX8_sell 64 = .ok (.invokevirtual 172, 3) := by decide +kernel
theorem dX8_sell_67 : decode cX8_sell 67 = .ok (.iload_n 2, 1) := by decide +kernel
theorem dX8_sell_68 : decode cX8_sell 68 = .ok (.ifCond .le 9, 3) := by decide +kernel
theorem dX8_sell_71 : decode cX8_sell 71 = .ok (.iload_n 3, 1) := by decide +kernel
theorem dX8_sell_72 : decode cX8_sell 72 = .ok (.iload_n 2, 1) := by decide +kernel
theorem dX8_sell_73 : decode cX8_sell 73 = .ok (.idiv, 1) := by decide +kernel
theorem dX8_sell_74 : decode cX8_sell 74 = .ok (.goto 4, 3) := by decide +kernel
theorem dX8_sell_77 : decode cX8_sell 77 = .ok (.iconst 0, 1) := by decide +kernel
theorem dX8_sell_78 : decode cX8_sell 78 = .ok (.ireturn, 1) := by decide +kernel
theorem dX8_append_0 : decode cX8_append 0 = .ok (.iload_n 1, 1) := by decide +kernel
theorem dX8_append_1 : decode cX8_append 1 = .ok (.bipush 33, 2) := by decide +kernel
theorem dX8_append_3 : decode cX8_append 3 = .ok (.bipush 126, 2) := by decide +kernel
theorem dX8_append_5 : decode cX8_append 5 = .ok (.invokestatic 66, 3) := by decide +kernel
theorem dX8_append_8 : decode cX8_append 8 = .ok (.aload_n 0, 1) := by decide +kernel
theorem dX8_append_9 : decode cX8_append 9 = .ok (.getfield 29, 3) := by decide +kernel
theorem dX8_append_12 : decode cX8_append 12 = .ok (.getfield 175, 3) := by decide +kernel
theorem dX8_append_15 : decode cX8_append 15 = .ok (.bipush 60, 2) := by decide +kernel
theorem dX8_append_17 : decode cX8_append 17 = .ok (.if_icmp .lt 13, 3) := by decide +kernel
theorem dX8_append_20 : decode cX8_append 20 = .ok (.new 101, 3) := by decide +kernel
theorem dX8_append_23 : decode cX8_append 23 = .ok (.dup, 1) := by decide +kernel
theorem dX8_append_24 : decode cX8_append 24 = .ok (.ldc 178, 2) := by decide +kernel
theorem dX8_append_26 : decode cX8_append 26 = .ok (.invokespecial 105, 3) := by decide +kernel
theorem dX8_append_29 : decode cX8_append 29 = .ok (.athrow, 1) := by decide +kernel
theorem dX8_append_30 : decode cX8_append 30 = .ok (.aload_n 0, 1) := by decide +kernel
theorem dX8_append_31 : decode cX8_append 31 = .ok (.getfield 29, 3) := by decide +kernel
theorem dX8_append_34 : decode cX8_append 34 = .ok (.iload_n 1, 1) := by decide +kernel
theorem dX8_append_35 : decode cX8_append 35 = .ok (.invokevirtual 180, 3) := by decide +kernel
theorem dX8_append_38 : decode cX8_append 38 = .ok (.aload_n 0, 1) := by decide +kernel
theorem dX8_append_39 : decode cX8_append 39 = .ok (.getfield 29, 3) := by decide +kernel
theorem dX8_append_42 : decode cX8_append 42 = .ok (.getfield 175, 3) := by decide +kernel
theorem dX8_append_45 : decode cX8_append 45 = .ok (.ireturn, 1) := by decide +kernel
theorem dX8_clearBuffer_0 : decode cX8_clearBuffer 0 = .ok (.aload_n 0, 1) := by decide +kernel
theorem dX8_clearBuffer_1 : decode cX8_clearBuffer 1 = .ok (.getfield 29, 3) := by decide +kernel
theorem dX8_clearBuffer_4 : decode cX8_clearBuffer 4 = .ok (.invokevirtual 183, 3) := by decide +kernel
theorem dX8_clearBuffer_7 : decode cX8_clearBuffer 7 = .ok (.ireturn, 1) := by decide +kernel
theorem dX8_firstError_0 : decode cX8_firstError 0 = .ok (.aload_n 0, 1) := by decide +kernel
theorem dX8_firstError_1 : decode cX8_firstError 1 = .ok (.getfield 29, 3) := by decide +kernel
theorem dX8_firstError_4 : decode cX8_firstError 4 = .ok (.invokevirtual 186, 3) := by decide +kernel
theorem dX8_firstError_7 : decode cX8_firstError 7 = .ok (.ireturn, 1) := by decide +kernel
theorem dX8_work_0 : decode cX8_work 0 = .ok (.aload_n 0, 1) := by decide +kernel
theorem dX8_work_1 : decode cX8_work 1 = .ok (.getfield 29, 3) := by decide +kernel
theorem dX8_work_4 : decode cX8_work 4 = .ok (.invokevirtual 189, 3) := by decide +kernel
theorem dX8_work_7 : decode cX8_work 7 = .ok (.ifCond .ne 13, 3) := by decide +kernel
theorem dX8_work_10 : decode cX8_work 10 = .ok (.new 193, 3) := by decide +kernel
theorem dX8_work_13 : decode cX8_work 13 = .ok (.dup, 1) := by decide +kernel
theorem dX8_work_14 : decode cX8_work 14 = .ok (.ldc 195, 2) := by decide +kernel
theorem dX8_work_16 : decode cX8_work 16 = .ok (.invokespecial 197, 3) := by decide +kernel
theorem dX8_work_19 : decode cX8_work 19 = .ok (.athrow, 1) := by decide +kernel
theorem dX8_work_20 : decode cX8_work 20 = .ok (.aload_n 0, 1) := by decide +kernel
theorem dX8_work_21 : decode cX8_work 21 = .ok (.getfield 22, 3) := by decide +kernel
theorem dX8_work_24 : decode cX8_work 24 = .ok (.aload_n 0, 1) := by decide +kernel
theorem dX8_work_25 : decode cX8_work 25 = .ok (.getfield 10, 3) := by decide +kernel
theorem dX8_work_28 : decode cX8_work 28 = .ok (.invokevirtual 70, 3) := by decide +kernel
theorem dX8_work_31 : decode cX8_work 31 = .ok (.iconst 0, 1) := by decide +kernel
theorem dX8_work_32 : decode cX8_work 32 = .ok (.istore_n 1, 1) := by decide +kernel
theorem dX8_work_33 : decode cX8_work 33 = .ok (.iconst 0, 1) := by decide +kernel
theorem dX8_work_34 : decode cX8_work 34 = .ok (.istore_n 2, 1) := by decide +kernel
theorem dX8_work_35 : decode cX8_work 35 = .ok (.iconst 0, 1) := by decide +kernel
theorem dX8_work_36 : decode cX8_work 36 = .ok (.istore_n 3, 1) := by decide +kernel
theorem dX8_work_37 : decode cX8_work 37 = .ok (.iload_n 3, 1) := by decide +kernel
theorem dX8_work_38 : decode cX8_work 38 = .ok (.aload_n 0, 1) := by decide +kernel
theorem dX8_work_39 : decode cX8_work 39 = .ok (.getfield 29, 3) := by decide +kernel
theorem dX8_work_42 : decode cX8_work 42 = .ok (.getfield 175, 3) := by decide +kernel
theorem dX8_work_45 : decode cX8_work 45 = .ok (.if_icmp .ge 56, 3) := by decide +kernel
theorem dX8_work_48 : decode cX8_work 48 = .ok (.iload_n 2, 1) := by decide +kernel
theorem dX8_work_49 : decode cX8_work 49 = .ok (.ifCond .ne 52, 3) := by decide +kernel
theorem dX8_work_52 : decode cX8_work 52 = .ok (.aload_n 0, 1) := by decide +kernel
theorem dX8_work_53 : decode cX8_work 53 = .ok (.getfield 29, 3) := by decide +kernel
theorem dX8_work_56 : decode cX8_work 56 = .ok (.iload_n 3, 1) := by decide +kernel
theorem dX8_work_57 : decode cX8_work 57 = .ok (.aload_n 0, 1) := by decide +kernel
theorem dX8_work_58 : decode cX8_work 58 = .ok (.getfield 54, 3) := by decide +kernel
theorem dX8_work_61 : decode cX8_work 61 = .ok (.invokevirtual 198, 3) := by decide +kernel
theorem dX8_work_64 : decode cX8_work 64 = .ok (.istore 4, 2) := by decide +kernel
theorem dX8_work_66 : decode cX8_work 66 = .ok (.aload_n 0, 1) := by decide +kernel
theorem dX8_work_67 : decode cX8_work 67 = .ok (.aload_n 0, 1) := by decide +kernel
theorem dX8_work_68 : decode cX8_work 68 = .ok (.getfield 29, 3) := by decide +kernel
theorem dX8_work_71 : decode cX8_work 71 = .ok (.getfield 202, 3) := by decide +kernel
theorem dX8_work_74 : decode cX8_work 74 = .ok (.iload_n 3, 1) := by decide +kernel
theorem dX8_work_75 : decode cX8_work 75 = .ok (.invokestatic 77, 3) := by decide +kernel
theorem dX8_work_78 : decode cX8_work 78 = .ok (.invokevirtual 205, 3) := by decide +kernel
theorem dX8_work_81 : decode cX8_work 81 = .ok (.istore_n 2, 1) := by decide +kernel
theorem dX8_work_82 : decode cX8_work 82 = .ok (.iload_n 2, 1) := by decide +kernel
theorem dX8_work_83 : decode cX8_work 83 = .ok (.ifCond .ne 6, 3) := by decide +kernel
theorem dX8_work_86 : decode cX8_work 86 = .ok (.iinc 1 1, 3) := by decide +kernel
theorem dX8_work_89 : decode cX8_work 89 = .ok (.iload_n 3, 1) := by decide +kernel
theorem dX8_work_90 : decode cX8_work 90 = .ok (.iload 4, 2) := by decide +kernel
theorem dX8_work_92 : decode cX8_work 92 = .ok (.invokestatic 208, 3) := by decide +kernel
theorem dX8_work_95 : decode cX8_work 95 = .ok (.iconst 1, 1) := by decide +kernel
theorem dX8_work_96 : decode cX8_work 96 = .ok (.iadd, 1) := by decide +kernel
theorem dX8_work_97 : decode cX8_work 97 = .ok (.istore_n 3, 1) := by decide +kernel
theorem dX8_work_98 : decode cX8_work 98 = .ok (.goto (-61), 3) := by decide +kernel
theorem dX8_work_101 : decode cX8_work 101 = .ok (.aload_n 0, 1) := by decide +kernel
theorem dX8_work_102 : decode cX8_work 102 = .ok (.getfield 10, 3) := by decide +kernel
theorem dX8_work_105 : decode cX8_work 105 = .ok (.iload_n 1, 1) := by decide +kernel
theorem dX8_work_106 : decode cX8_work 106 = .ok (.putfield 213, 3) := by decide +kernel
theorem dX8_work_109 : decode cX8_work 109 = .ok (.aload_n 0, 1) := by decide +kernel
theorem dX8_work_110 : decode cX8_work 110 = .ok (.getfield 10, 3) := by decide +kernel
theorem dX8_work_113 : decode cX8_work 113 = .ok (.iload_n 2, 1) := by decide +kernel
theorem dX8_work_114 : decode cX8_work 114 = .ok (.putfield 216, 3) := by decide +kernel
theorem dX8_work_117 : decode cX8_work 117 = .ok (.aload_n 0, 1) := by decide +kernel
theorem dX8_work_118 : decode cX8_work 118 = .ok (.getfield 29, 3) := by decide +kernel
theorem dX8_work_121 : decode cX8_work 121 = .ok (.invokevirtual 183, 3) := by decide +kernel
theorem dX8_work_124 : decode cX8_work 124 = .ok (.pop, 1) := by decide +kernel
theorem dX8_work_125 : decode cX8_work 125 = .ok (.iload_n 1, 1) := by decide +kernel
theorem dX8_work_126 : decode cX8_work 126 = .ok (.ireturn, 1) := by decide +kernel
theorem dX8_stopped_0 : decode cX8_stopped 0 = .ok (.iload_n 1, 1) := by decide +kernel
theorem dX8_stopped_1 : decode cX8_stopped 1 = .ok (.iconst 0, 1) := by decide +kernel
theorem dX8_stopped_2 : decode cX8_stopped 2 = .ok (.iconst 1, 1) := by decide +kernel
theorem dX8_stopped_3 : decode cX8_stopped 3 = .ok (.invokestatic 66, 3) := by decide +kernel
theorem dX8_stopped_6 : decode cX8_stopped 6 = .ok (.aload_n 0, 1) := by decide +kernel
theorem dX8_stopped_7 : decode cX8_stopped 7 = .ok (.getfield 10, 3) := by decide +kernel
theorem dX8_stopped_10 : decode cX8_stopped 10 = .ok (.getfield 216, 3) := by decide +kernel
theorem dX8_stopped_13 : decode cX8_stopped 13 = .ok (.ifCond .ne 5, 3) := by decide +kernel
theorem dX8_stopped_16 : decode cX8_stopped 16 = .ok (.iconst (-1), 1) := by decide +kernel
theorem dX8_stopped_17 : decode cX8_stopped 17 = .ok (.ireturn, 1) := by decide +kernel
theorem dX8_stopped_18 : decode cX8_stopped 18 = .ok (.iload_n 1, 1) := by decide +kernel
theorem dX8_stopped_19 : decode cX8_stopped 19 = .ok (.ifCond .ne 13, 3) := by decide +kernel
theorem dX8_stopped_22 : decode cX8_stopped 22 = .ok (.aload_n 0, 1) := by decide +kernel
theorem dX8_stopped_23 : decode cX8_stopped 23 = .ok (.getfield 10, 3) := by decide +kernel
theorem dX8_stopped_26 : decode cX8_stopped 26 = .ok (.getfield 213, 3) := by decide +kernel
theorem dX8_stopped_29 : decode cX8_stopped 29 = .ok (.goto 10, 3) := by decide +kernel
theorem dX8_stopped_32 : decode cX8_stopped 32 = .ok (.aload_n 0, 1) := by decide +kernel
theorem dX8_stopped_33 : decode cX8_stopped 33 = .ok (.getfield 10, 3) := by decide +kernel
theorem dX8_stopped_36 : decode cX8_stopped 36 = .ok (.getfield 216, 3) := by decide +kernel
theorem dX8_stopped_39 : decode cX8_stopped 39 = .ok (.ireturn, 1) := by decide +kernel
theorem dX8_undo_0 : decode cX8_undo 0 = .ok (.aload_n 0, 1) := by decide +kernel
theorem dX8_undo_1 : decode cX8_undo 1 = .ok (.getfield 22, 3) := by decide +kernel
theorem dX8_undo_4 : decode cX8_undo 4 = .ok (.getfield 219, 3) := by decide +kernel
theorem dX8_undo_7 : decode cX8_undo 7 = .ok (.ifCond .gt 13, 3) := by decide +kernel
theorem dX8_undo_10 : decode cX8_undo 10 = .ok (.new 101, 3) := by decide +kernel
theorem dX8_undo_13 : decode cX8_undo 13 = .ok (.dup, 1) := by decide +kernel
theorem dX8_undo_14 : decode cX8_undo 14 = .ok (.ldc 220, 2) := by decide +kernel
theorem dX8_undo_16 : decode cX8_undo 16 = .ok (.invokespecial 105, 3) := by decide +kernel
theorem dX8_undo_19 : decode cX8_undo 19 = .ok (.athrow, 1) := by decide +kernel
theorem dX8_undo_20 : decode cX8_undo 20 = .ok (.aload_n 0, 1) := by decide +kernel
theorem dX8_undo_21 : decode cX8_undo 21 = .ok (.getfield 22, 3) := by decide +kernel
theorem dX8_undo_24 : decode cX8_undo 24 = .ok (.aload_n 0, 1) := by decide +kernel
theorem dX8_undo_25 : decode cX8_undo 25 = .ok (.getfield 10, 3) := by decide +kernel
theorem dX8_undo_28 : decode cX8_undo 28 = .ok (.invokevirtual 222, 3) := by decide +kernel
theorem dX8_undo_31 : decode cX8_undo 31 = .ok (.aload_n 0, 1) := by decide +kernel
theorem dX8_undo_32 : decode cX8_undo 32 = .ok (.getfield 22, 3) := by decide +kernel
theorem dX8_undo_35 : decode cX8_undo 35 = .ok (.getfield 219, 3) := by decide +kernel
theorem dX8_undo_38 : decode cX8_undo 38 = .ok (.ireturn, 1) := by decide +kernel
theorem dX8_keep_0 : decode cX8_keep 0 = .ok (.aload_n 0, 1) := by decide +kernel
theorem dX8_keep_1 : decode cX8_keep 1 = .ok (.getfield 16, 3) := by decide +kernel
theorem dX8_keep_4 : decode cX8_keep 4 = .ok (.aload_n 0, 1) := by decide +kernel
theorem dX8_keep_5 : decode cX8_keep 5 = .ok (.getfield 10, 3) := by decide +kernel
theorem dX8_keep_8 : decode cX8_keep 8 = .ok (.invokevirtual 225, 3) := by decide +kernel
theorem dX8_keep_11 : decode cX8_keep 11 = .ok (.aload_n 0, 1) := by decide +kernel
theorem dX8_keep_12 : decode cX8_keep 12 = .ok (.iconst 1, 1) := by decide +kernel
theorem dX8_keep_13 : decode cX8_keep 13 = .ok (.putfield 58, 3) := by decide +kernel
theorem dX8_keep_16 : decode cX8_keep 16 = .ok (.aload_n 0, 1) := by decide +kernel
theorem dX8_keep_17 : decode cX8_keep 17 = .ok (.getfield 10, 3) := by decide +kernel
theorem dX8_keep_20 : decode cX8_keep 20 = .ok (.getfield 89, 3) := by decide +kernel
theorem dX8_keep_23 : decode cX8_keep 23 = .ok (.invokevirtual 228, 3) := by decide +kernel
theorem dX8_keep_26 : decode cX8_keep 26 = .ok (.ireturn, 1) := by decide +kernel
theorem dX8_restore_0 : decode cX8_restore 0 = .ok (.aload_n 0, 1) := by decide +kernel
theorem dX8_restore_1 : decode cX8_restore 1 = .ok (.getfield 58, 3) := by decide +kernel
theorem dX8_restore_4 : decode cX8_restore 4 = .ok (.ifCond .ne 13, 3) := by decide +kernel
theorem dX8_restore_7 : decode cX8_restore 7 = .ok (.new 101, 3) := by decide +kernel
theorem dX8_restore_10 : decode cX8_restore 10 = .ok (.dup, 1) := by decide +kernel
theorem dX8_restore_11 : decode cX8_restore 11 = .ok (.ldc 230, 2) := by decide +kernel
theorem dX8_restore_13 : decode cX8_restore 13 = .ok (.invokespecial 105, 3) := by decide +kernel
theorem dX8_restore_16 : decode cX8_restore 16 = .ok (.athrow, 1) := by decide +kernel
theorem dX8_restore_17 : decode cX8_restore 17 = .ok (.aload_n 0, 1) := by decide +kernel
theorem dX8_restore_18 : decode cX8_restore 18 = .ok (.getfield 22, 3) := by decide +kernel
theorem dX8_restore_21 : decode cX8_restore 21 = .ok (.aload_n 0, 1) := by decide +kernel
theorem dX8_restore_22 : decode cX8_restore 22 = .ok (.getfield 10, 3) := by decide +kernel
theorem dX8_restore_25 : decode cX8_restore 25 = .ok (.invokevirtual 70, 3) := by decide +kernel
theorem dX8_restore_28 : decode cX8_restore 28 = .ok (.aload_n 0, 1) := by decide +kernel
theorem dX8_restore_29 : decode cX8_restore 29 = .ok (.getfield 10, 3) := by decide +kernel
theorem dX8_restore_32 : decode cX8_restore 32 = .ok (.aload_n 0, 1) := by decide +kernel
theorem dX8_restore_33 : decode cX8_restore 33 = .ok (.getfield 16, 3) := by decide +kernel
theorem dX8_restore_36 : decode cX8_restore 36 = .ok (.invokevirtual 225, 3) := by decide +kernel
theorem dX8_restore_39 : decode cX8_restore 39 = .ok (.aload_n 0, 1) := by decide +kernel
theorem dX8_restore_40 : decode cX8_restore 40 = .ok (.getfield 10, 3) := by decide +kernel
theorem dX8_restore_43 : decode cX8_restore 43 = .ok (.getfield 89, 3) := by decide +kernel
theorem dX8_restore_46 : decode cX8_restore 46 = .ok (.invokevirtual 228, 3) := by decide +kernel
theorem dX8_restore_49 : decode cX8_restore 49 = .ok (.ireturn, 1) := by decide +kernel
theorem dX8_tableOf_0 : decode cX8_tableOf 0 = .ok (.iload_n 1, 1) := by decide +kernel
theorem dX8_tableOf_1 : decode cX8_tableOf 1 = .ok (.iload_n 2, 1) := by decide +kernel
theorem dX8_tableOf_2 : decode cX8_tableOf 2 = .ok (.invokestatic 85, 3) := by decide +kernel
theorem dX8_tableOf_5 : decode cX8_tableOf 5 = .ok (.iload_n 3, 1) := by decide +kernel
theorem dX8_tableOf_6 : decode cX8_tableOf 6 = .ok (.iconst 0, 1) := by decide +kernel
theorem dX8_tableOf_7 : decode cX8_tableOf 7 = .ok (.iconst 2, 1) := by decide +kernel
theorem dX8_tableOf_8 : decode cX8_tableOf 8 = .ok (.invokestatic 66, 3) := by decide +kernel
theorem dX8_tableOf_11 : decode cX8_tableOf 11 = .ok (.iload_n 3, 1) := by decide +kernel
theorem dX8_tableOf_12 : decode cX8_tableOf 12 = .ok (.iconst 2, 1) := by decide +kernel
theorem dX8_tableOf_13 : decode cX8_tableOf 13 = .ok (.if_icmp .ne 20, 3) := by decide +kernel
theorem dX8_tableOf_16 : decode cX8_tableOf 16 = .ok (.aload_n 0, 1) := by decide +kernel
theorem dX8_tableOf_17 : decode cX8_tableOf 17 = .ok (.getfield 36, 3) := by decide +kernel
theorem dX8_tableOf_20 : decode cX8_tableOf 20 = .ok (.aload_n 0, 1) := by decide +kernel
theorem dX8_tableOf_21 : decode cX8_tableOf 21 = .ok (.getfield 10, 3) := by decide +kernel
theorem dX8_tableOf_24 : decode cX8_tableOf 24 = .ok (.getfield 89, 3) := by decide +kernel
theorem dX8_tableOf_27 : decode cX8_tableOf 27 = .ok (.iload_n 1, 1) := by decide +kernel
theorem dX8_tableOf_28 : decode cX8_tableOf 28 = .ok (.iload_n 2, 1) := by decide +kernel
theorem dX8_tableOf_29 : decode cX8_tableOf 29 = .ok (.invokevirtual 232, 3) := by decide +kernel
theorem dX8_tableOf_32 : decode cX8_tableOf 32 = .ok (.ireturn, 1) := by decide +kernel
theorem dX8_tableOf_33 : decode cX8_tableOf 33 = .ok (.aload_n 0, 1) := by decide +kernel
theorem dX8_tableOf_34 : decode cX8_tableOf 34 = .ok (.getfield 10, 3) := by decide +kernel
theorem dX8_tableOf_37 : decode cX8_tableOf 37 = .ok (.getfield 89, 3) := by decide +kernel
theorem dX8_tableOf_40 : decode cX8_tableOf 40 = .ok (.iload_n 1, 1) := by decide +kernel
theorem dX8_tableOf_41 : decode cX8_tableOf 41 = .ok (.iload_n 2, 1) := by decide +kernel
theorem dX8_tableOf_42 : decode cX8_tableOf 42 = .ok (.invokevirtual 118, 3) := by decide +kernel
theorem dX8_tableOf_45 : decode cX8_tableOf 45 = .ok (.ifCond .ne 5, 3) := by decide +kernel
theorem dX8_tableOf_48 : decode cX8_tableOf 48 = .ok (.iconst (-1), 1) := by decide +kernel
theorem dX8_tableOf_49 : decode cX8_tableOf 49 = .ok (.ireturn, 1) := by decide +kernel
theorem dX8_tableOf_50 : decode cX8_tableOf 50 = .ok (.iload_n 3, 1) := by decide +kernel
theorem dX8_tableOf_51 : decode cX8_tableOf 51 = .ok (.ifCond .ne 18, 3) := by decide +kernel
theorem dX8_tableOf_54 : decode cX8_tableOf 54 = .ok (.aload_n 0, 1) := by decide +kernel
theorem dX8_tableOf_55 : decode cX8_tableOf 55 = .ok (.getfield 10, 3) := by decide +kernel
theorem dX8_tableOf_58 : decode cX8_tableOf 58 = .ok (.getfield 89, 3) := by decide +kernel
theorem dX8_tableOf_61 : decode cX8_tableOf 61 = .ok (.iload_n 1, 1) := by decide +kernel
theorem dX8_tableOf_62 : decode cX8_tableOf 62 = .ok (.iload_n 2, 1) := by decide +kernel
theorem dX8_tableOf_63 : decode cX8_tableOf 63 = .ok (.invokevirtual 236, 3) := by decide +kernel
theorem dX8_tableOf_66 : decode cX8_tableOf 66 = .ok (.goto 15, 3) := by decide +kernel
theorem dX8_tableOf_69 : decode cX8_tableOf 69 = .ok (.aload_n 0, 1) := by decide +kernel
theorem dX8_tableOf_70 : decode cX8_tableOf 70 = .ok (.getfield 10, 3) := by decide +kernel
theorem dX8_tableOf_73 : decode cX8_tableOf 73 = .ok (.getfield 89, 3) := by decide +kernel
theorem dX8_tableOf_76 : decode cX8_tableOf 76 = .ok (.iload_n 2, 1) := by decide +kernel
theorem dX8_tableOf_77 : decode cX8_tableOf 77 = .ok (.iload_n 1, 1) := by decide +kernel
theorem dX8_tableOf_78 : decode cX8_tableOf 78 = .ok (.invokevirtual 236, 3) := by decide +kernel
theorem dX8_tableOf_81 : decode cX8_tableOf 81 = .ok (.ireturn, 1) := by decide +kernel
theorem dX8_ring_0 : decode cX8_ring 0 = .ok (.iload_n 1, 1) := by decide +kernel
theorem dX8_ring_1 : decode cX8_ring 1 = .ok (.ifCond .ge 13, 3) := by decide +kernel
theorem dX8_ring_4 : decode cX8_ring 4 = .ok (.new 193, 3) := by decide +kernel
theorem dX8_ring_7 : decode cX8_ring 7 = .ok (.dup, 1) := by decide +kernel
theorem dX8_ring_8 : decode cX8_ring 8 = .ok (.ldc 239, 2) := by decide +kernel
theorem dX8_ring_10 : decode cX8_ring 10 = .ok (.invokespecial 197, 3) := by decide +kernel
theorem dX8_ring_13 : decode cX8_ring 13 = .ok (.athrow, 1) := by decide +kernel
theorem dX8_ring_14 : decode cX8_ring 14 = .ok (.iload_n 2, 1) := by decide +kernel
theorem dX8_ring_15 : decode cX8_ring 15 = .ok (.iconst 0, 1) := by decide +kernel
theorem dX8_ring_16 : decode cX8_ring 16 = .ok (.iconst 3, 1) := by decide +kernel
theorem dX8_ring_17 : decode cX8_ring 17 = .ok (.invokestatic 66, 3) := by decide +kernel
theorem dX8_ring_20 : decode cX8_ring 20 = .ok (.aload_n 0, 1) := by decide +kernel
theorem dX8_ring_21 : decode cX8_ring 21 = .ok (.getfield 36, 3) := by decide +kernel
theorem dX8_ring_24 : decode cX8_ring 24 = .ok (.aload_n 0, 1) := by decide +kernel
theorem dX8_ring_25 : decode cX8_ring 25 = .ok (.getfield 10, 3) := by decide +kernel
theorem dX8_ring_28 : decode cX8_ring 28 = .ok (.getfield 89, 3) := by decide +kernel
theorem dX8_ring_31 : decode cX8_ring 31 = .ok (.iload_n 1, 1) := by decide +kernel
theorem dX8_ring_32 : decode cX8_ring 32 = .ok (.invokevirtual 241, 3) := by decide +kernel
theorem dX8_ring_35 : decode cX8_ring 35 = .ok (.istore_n 3, 1) := by decide +kernel
theorem dX8_ring_36 : decode cX8_ring 36 = .ok (.iload_n 3, 1) := by decide +kernel
theorem dX8_ring_37 : decode cX8_ring 37 = .ok (.ifCond .ge 5, 3) := by decide +kernel
theorem dX8_ring_40 : decode cX8_ring 40 = .ok (.iconst (-1), 1) := by decide +kernel
theorem dX8_ring_41 : decode cX8_ring 41 = .ok (.ireturn, 1) := by decide +kernel
theorem dX8_ring_42 : decode cX8_ring 42 = .ok (.iload_n 2, 1) := by decide +kernel
theorem dX8_ring_43 : decode cX8_ring 43 = .ok (.tableswitch 69 0 2 #[25, 30, 38], 25) := by decide +kernel
theorem dX8_ring_68 : decode cX8_ring 68 = .ok (.iload_n 3, 1) := by decide +kernel
theorem dX8_ring_69 : decode cX8_ring 69 = .ok (.invokestatic 245, 3) := by decide +kernel
theorem dX8_ring_72 : decode cX8_ring 72 = .ok (.ireturn, 1) := by decide +kernel
theorem dX8_ring_73 : decode cX8_ring 73 = .ok (.getstatic 248, 3) := by decide +kernel
theorem dX8_ring_76 : decode cX8_ring 76 = .ok (.iload_n 3, 1) := by decide +kernel
theorem dX8_ring_77 : decode cX8_ring 77 = .ok (.invokestatic 77, 3) := by decide +kernel
theorem dX8_ring_80 : decode cX8_ring 80 = .ok (.ireturn, 1) := by decide +kernel
theorem dX8_ring_81 : decode cX8_ring 81 = .ok (.lconst 0, 1) := by decide +kernel
theorem dX8_ring_82 : decode cX8_ring 82 = .ok (.ldc2_w 251, 3) := by decide +kernel
theorem dX8_ring_85 : decode cX8_ring 85 = .ok (.aload_n 0, 1) := by decide +kernel
theorem dX8_ring_86 : decode cX8_ring 86 = .ok (.getfield 36, 3) := by decide +kernel
theorem dX8_ring_89 : decode cX8_ring 89 = .ok (.aload_n 0, 1) := by decide +kernel
theorem dX8_ring_90 : decode cX8_ring 90 = .ok (.getfield 10, 3) := by decide +kernel
theorem dX8_ring_93 : decode cX8_ring 93 = .ok (.getfield 89, 3) := by decide +kernel
theorem dX8_ring_96 : decode cX8_ring 96 = .ok (.iload_n 3, 1) := by decide +kernel
theorem dX8_ring_97 : decode cX8_ring 97 = .ok (.invokevirtual 253, 3) := by decide +kernel
theorem dX8_ring_100 : decode cX8_ring 100 = .ok (.ldc2_w 257, 3) := by decide +kernel
theorem dX8_ring_103 : decode cX8_ring 103 = .ok (.ladd, 1) := by decide +kernel
theorem dX8_ring_104 : decode cX8_ring 104 = .ok (.invokestatic 259, 3) := by decide +kernel
theorem dX8_ring_107 : decode cX8_ring 107 = .ok (.invokestatic 263, 3) := by decide +kernel
theorem dX8_ring_110 : decode cX8_ring 110 = .ok (.l2i, 1) := by decide +kernel
theorem dX8_ring_111 : decode cX8_ring 111 = .ok (.ireturn, 1) := by decide +kernel
theorem dX8_ring_112 : decode cX8_ring 112 = .ok (.aload_n 0, 1) := by decide +kernel
theorem dX8_ring_113 : decode cX8_ring 113 = .ok (.getfield 36, 3) := by decide +kernel
theorem dX8_ring_116 : decode cX8_ring 116 = .ok (.aload_n 0, 1) := by decide +kernel
theorem dX8_ring_117 : decode cX8_ring 117 = .ok (.getfield 10, 3) := by decide +kernel
theorem dX8_ring_120 : decode cX8_ring 120 = .ok (.getfield 89, 3) := by decide +kernel
theorem dX8_ring_123 : decode cX8_ring 123 = .ok (.iload_n 3, 1) := by decide +kernel
theorem dX8_ring_124 : decode cX8_ring 124 = .ok (.aload_n 0, 1) := by decide +kernel
theorem dX8_ring_125 : decode cX8_ring 125 = .ok (.invokevirtual 93, 3) := by decide +kernel
theorem dX8_ring_128 : decode cX8_ring 128 = .ok (.invokevirtual 265, 3) := by decide +kernel
theorem dX8_ring_131 : decode cX8_ring 131 = .ok (.ifCond .eq 7, 3) := by decide +kernel
theorem dX8_ring_134 : decode cX8_ring 134 = .ok (.iconst 1, 1) := by decide +kernel
theorem dX8_ring_135 : decode cX8_ring 135 = .ok (.goto 4, 3) := by decide +kernel
theorem dX8_ring_138 : decode cX8_ring 138 = .ok (.iconst 0, 1) := by decide +kernel
theorem dX8_ring_139 : decode cX8_ring 139 = .ok (.ireturn, 1) := by decide +kernel
theorem dX8_boltOf_0 : decode cX8_boltOf 0 = .ok (.aload_n 0, 1) := by decide +kernel
theorem dX8_boltOf_1 : decode cX8_boltOf 1 = .ok (.iload_n 1, 1) := by decide +kernel
theorem dX8_boltOf_2 : decode cX8_boltOf 2 = .ok (.invokevirtual 154, 3) := by decide +kernel
theorem dX8_boltOf_5 : decode cX8_boltOf 5 = .ok (.iload_n 2, 1) := by decide +kernel
theorem dX8_boltOf_6 : decode cX8_boltOf 6 = .ok (.iconst 0, 1) := by decide +kernel
theorem dX8_boltOf_7 : decode cX8_boltOf 7 = .ok (.iconst 3, 1) := by decide +kernel
theorem dX8_boltOf_8 : decode cX8_boltOf 8 = .ok (.invokestatic 66, 3) := by decide +kernel
theorem dX8_boltOf_11 : decode cX8_boltOf 11 = .ok (.iload_n 2, 1) := by decide +kernel
theorem dX8_boltOf_12 : decode cX8_boltOf 12 = .ok (.tableswitch 77 0 2 #[28, 43, 58], 28) := by decide +kernel
theorem dX8_boltOf_40 : decode cX8_boltOf 40 = .ok (.aload_n 0, 1) := by decide +kernel
theorem dX8_boltOf_41 : decode cX8_boltOf 41 = .ok (.getfield 10, 3) := by decide +kernel
theorem dX8_boltOf_44 : decode cX8_boltOf 44 = .ok (.getfield 139, 3) := by decide +kernel
theorem dX8_boltOf_47 : decode cX8_boltOf 47 = .ok (.getfield 169, 3) := by decide +kernel
theorem dX8_boltOf_50 : decode cX8_boltOf 50 = .ok (.iload_n 1, 1) := by decide +kernel
theorem dX8_boltOf_51 : decode cX8_boltOf 51 = .ok (.invokestatic 77, 3) := by decide +kernel
theorem dX8_boltOf_54 : decode cX8_boltOf 54 = .ok (.ireturn, 1) := by decide +kernel
theorem dX8_boltOf_55 : decode cX8_boltOf 55 = .ok (.aload_n 0, 1) := by decide +kernel
theorem dX8_boltOf_56 : decode cX8_boltOf 56 = .ok (.getfield 10, 3) := by decide +kernel
theorem dX8_boltOf_59 : decode cX8_boltOf 59 = .ok (.getfield 139, 3) := by decide +kernel
theorem dX8_boltOf_62 : decode cX8_boltOf 62 = .ok (.getfield 166, 3) := by decide +kernel
theorem dX8_boltOf_65 : decode cX8_boltOf 65 = .ok (.iload_n 1, 1) := by decide +kernel
theorem dX8_boltOf_66 : decode cX8_boltOf 66 = .ok (.invokestatic 77, 3) := by decide +kernel
theorem dX8_boltOf_69 : decode cX8_boltOf 69 = .ok (.ireturn, 1) := by decide +kernel
theorem dX8_boltOf_70 : decode cX8_boltOf 70 = .ok (.aload_n 0, 1) := by decide +kernel
theorem dX8_boltOf_71 : decode cX8_boltOf 71 = .ok (.getfield 10, 3) := by decide +kernel
theorem dX8_boltOf_74 : decode cX8_boltOf 74 = .ok (.getfield 139, 3) := by decide +kernel
theorem dX8_boltOf_77 : decode cX8_boltOf 77 = .ok (.getfield 269, 3) := by decide +kernel
theorem dX8_boltOf_80 : decode cX8_boltOf 80 = .ok (.iload_n 1, 1) := by decide +kernel
theorem dX8_boltOf_81 : decode cX8_boltOf 81 = .ok (.invokestatic 77, 3) := by decide +kernel
theorem dX8_boltOf_84 : decode cX8_boltOf 84 = .ok (.ldc_w 272, 3) := by decide +kernel
theorem dX8_boltOf_87 : decode cX8_boltOf 87 = .ok (.iadd, 1) := by decide +kernel
theorem dX8_boltOf_88 : decode cX8_boltOf 88 = .ok (.ireturn, 1) := by decide +kernel
theorem dX8_boltOf_89 : decode cX8_boltOf 89 = .ok (.aload_n 0, 1) := by decide +kernel
theorem dX8_boltOf_90 : decode cX8_boltOf 90 = .ok (.getfield 10, 3) := by decide +kernel
theorem dX8_boltOf_93 : decode cX8_boltOf 93 = .ok (.getfield 139, 3) := by decide +kernel
theorem dX8_boltOf_96 : decode cX8_boltOf 96 = .ok (.getfield 273, 3) := by decide +kernel
theorem dX8_boltOf_99 : decode cX8_boltOf 99 = .ok (.iload_n 1, 1) := by decide +kernel
theorem dX8_boltOf_100 : decode cX8_boltOf 100 = .ok (.invokestatic 77, 3) := by decide +kernel
theorem dX8_boltOf_103 : decode cX8_boltOf 103 = .ok (.ireturn, 1) := by decide +kernel
theorem dX8_count_0 : decode cX8_count 0 = .ok (.iload_n 1, 1) := by decide +kernel
theorem dX8_count_1 : decode cX8_count 1 = .ok (.iconst 0, 1) := by decide +kernel
theorem dX8_count_2 : decode cX8_count 2 = .ok (.bipush 17, 2) := by decide +kernel
theorem dX8_count_4 : decode cX8_count 4 = .ok (.invokestatic 66, 3) := by decide +kernel
theorem dX8_count_7 : decode cX8_count 7 = .ok (.iload_n 1, 1) := by decide +kernel
theorem dX8_count_8 : decode cX8_count 8 = .ok (.bipush 12, 2) := by decide +kernel
theorem dX8_count_10 : decode cX8_count 10 = .ok (.if_icmp .lt 24, 3) := by decide +kernel
theorem dX8_count_13 : decode cX8_count 13 = .ok (.iload_n 1, 1) := by decide +kernel
theorem dX8_count_14 : decode cX8_count 14 = .ok (.bipush 16, 2) := by decide +kernel
theorem dX8_count_16 : decode cX8_count 16 = .ok (.if_icmp .gt 18, 3) := by decide +kernel
theorem dX8_count_19 : decode cX8_count 19 = .ok (.aload_n 0, 1) := by decide +kernel
theorem dX8_count_20 : decode cX8_count 20 = .ok (.getfield 10, 3) := by decide +kernel
theorem dX8_count_23 : decode cX8_count 23 = .ok (.getfield 74, 3) := by decide +kernel
theorem dX8_count_26 : decode cX8_count 26 = .ok (.iload_n 1, 1) := by decide +kernel
theorem dX8_count_27 : decode cX8_count 27 = .ok (.bipush 12, 2) := by decide +kernel
theorem dX8_count_29 : decode cX8_count 29 = .ok (.isub, 1) := by decide +kernel
theorem dX8_count_30 : decode cX8_count 30 = .ok (.invokestatic 77, 3) := by decide +kernel
theorem dX8_count_33 : decode cX8_count 33 = .ok (.ireturn, 1) := by decide +kernel
theorem dX8_count_34 : decode cX8_count 34 = .ok (.iload_n 1, 1) := by decide +kernel
theorem dX8_count_35 : decode cX8_count 35 = .ok (.bipush 9, 2) := by decide +kernel
theorem dX8_count_37 : decode cX8_count 37 = .ok (.if_icmp .lt 24, 3) := by decide +kernel
theorem dX8_count_40 : decode cX8_count 40 = .ok (.iload_n 1, 1) := by decide +kernel
theorem dX8_count_41 : decode cX8_count 41 = .ok (.bipush 11, 2) := by decide +kernel
theorem dX8_count_43 : decode cX8_count 43 = .ok (.if_icmp .gt 18, 3) := by decide +kernel
theorem dX8_count_46 : decode cX8_count 46 = .ok (.aload_n 0, 1) := by decide +kernel
theorem dX8_count_47 : decode cX8_count 47 = .ok (.getfield 10, 3) := by decide +kernel
theorem dX8_count_50 : decode cX8_count 50 = .ok (.getfield 136, 3) := by decide +kernel
theorem dX8_count_53 : decode cX8_count 53 = .ok (.iload_n 1, 1) := by decide +kernel
theorem dX8_count_54 : decode cX8_count 54 = .ok (.bipush 9, 2) := by decide +kernel
theorem dX8_count_56 : decode cX8_count 56 = .ok (.isub, 1) := by decide +kernel
theorem dX8_count_57 : decode cX8_count 57 = .ok (.invokestatic 77, 3) := by decide +kernel
theorem dX8_count_60 : decode cX8_count 60 = .ok (.ireturn, 1) := by decide +kernel
theorem dX8_count_61 : decode cX8_count 61 = .ok (.iload_n 1, 1) := by decide +kernel
theorem dX8_count_62 : decode cX8_count 62 = .ok (.tableswitch 189 0 8 #[50, 61, 76, 95, 118, 141, 152, 163, 178], 50) := by decide +kernel
theorem dX8_count_112 : decode cX8_count 112 = .ok (.aload_n 0, 1) := by decide +kernel
theorem dX8_count_113 : decode cX8_count 113 = .ok (.getfield 10, 3) := by decide +kernel
theorem dX8_count_116 : decode cX8_count 116 = .ok (.getfield 89, 3) := by decide +kernel
theorem dX8_count_119 : decode cX8_count 119 = .ok (.invokevirtual 228, 3) := by decide +kernel
theorem dX8_count_122 : decode cX8_count 122 = .ok (.ireturn, 1) := by decide +kernel
theorem dX8_count_123 : decode cX8_count 123 = .ok (.aload_n 0, 1) := by decide +kernel
theorem dX8_count_124 : decode cX8_count 124 = .ok (.getfield 36, 3) := by decide +kernel
theorem dX8_count_127 : decode cX8_count 127 = .ok (.aload_n 0, 1) := by decide +kernel
theorem dX8_count_128 : decode cX8_count 128 = .ok (.getfield 10, 3) := by decide +kernel
theorem dX8_count_131 : decode cX8_count 131 = .ok (.getfield 89, 3) := by decide +kernel
theorem dX8_count_134 : decode cX8_count 134 = .ok (.invokevirtual 114, 3) := by decide +kernel
theorem dX8_count_137 : decode cX8_count 137 = .ok (.ireturn, 1) := by decide +kernel
theorem dX8_count_138 : decode cX8_count 138 = .ok (.aload_n 0, 1) := by decide +kernel
theorem dX8_count_139 : decode cX8_count 139 = .ok (.getfield 36, 3) := by decide +kernel
theorem dX8_count_142 : decode cX8_count 142 = .ok (.aload_n 0, 1) := by decide +kernel
theorem dX8_count_143 : decode cX8_count 143 = .ok (.getfield 10, 3) := by decide +kernel
theorem dX8_count_146 : decode cX8_count 146 = .ok (.getfield 89, 3) := by decide +kernel
theorem dX8_count_149 : decode cX8_count 149 = .ok (.aload_n 0, 1) := by decide +kernel
theorem dX8_count_150 : decode cX8_count 150 = .ok (.invokevirtual 93, 3) := by decide +kernel
theorem dX8_count_153 : decode cX8_count 153 = .ok (.invokevirtual 276, 3) := by decide +kernel
theorem dX8_count_156 : decode cX8_count 156 = .ok (.ireturn, 1) := by decide +kernel
theorem dX8_count_157 : decode cX8_count 157 = .ok (.aload_n 0, 1) := by decide +kernel
theorem dX8_count_158 : decode cX8_count 158 = .ok (.getfield 36, 3) := by decide +kernel
theorem dX8_count_161 : decode cX8_count 161 = .ok (.aload_n 0, 1) := by decide +kernel
theorem dX8_count_162 : decode cX8_count 162 = .ok (.getfield 10, 3) := by decide +kernel
theorem dX8_count_165 : decode cX8_count 165 = .ok (.getfield 89, 3) := by decide +kernel
theorem dX8_count_168 : decode cX8_count 168 = .ok (.invokevirtual 279, 3) := by decide +kernel
theorem dX8_count_171 : decode cX8_count 171 = .ok (.ifCond .eq 7, 3) := by decide +kernel
theorem dX8_count_174 : decode cX8_count 174 = .ok (.iconst 1, 1) := by decide +kernel
theorem dX8_count_175 : decode cX8_count 175 = .ok (.goto 4, 3) := by decide +kernel
theorem dX8_count_178 : decode cX8_count 178 = .ok (.iconst 0, 1) := by decide +kernel
theorem dX8_count_179 : decode cX8_count 179 = .ok (.ireturn, 1) := by decide +kernel
theorem dX8_count_180 : decode cX8_count 180 = .ok (.aload_n 0, 1) := by decide +kernel
theorem dX8_count_181 : decode cX8_count 181 = .ok (.getfield 50, 3) := by decide +kernel
theorem dX8_count_184 : decode cX8_count 184 = .ok (.aload_n 0, 1) := by decide +kernel
theorem dX8_count_185 : decode cX8_count 185 = .ok (.getfield 10, 3) := by decide +kernel
theorem dX8_count_188 : decode cX8_count 188 = .ok (.getfield 89, 3) := by decide +kernel
theorem dX8_count_191 : decode cX8_count 191 = .ok (.invokevirtual 283, 3) := by decide +kernel
theorem dX8_count_194 : decode cX8_count 194 = .ok (.ifCond .eq 7, 3) := by decide +kernel
theorem dX8_count_197 : decode cX8_count 197 = .ok (.iconst 1, 1) := by decide +kernel
theorem dX8_count_198 : decode cX8_count 198 = .ok (.goto 4, 3) := by decide +kernel
theorem dX8_count_201 : decode cX8_count 201 = .ok (.iconst 0, 1) := by decide +kernel
theorem dX8_count_202 : decode cX8_count 202 = .ok (.ireturn, 1) := by decide +kernel
theorem dX8_count_203 : decode cX8_count 203 = .ok (.aload_n 0, 1) := by decide +kernel
theorem dX8_count_204 : decode cX8_count 204 = .ok (.getfield 10, 3) := by decide +kernel
theorem dX8_count_207 : decode cX8_count 207 = .ok (.getfield 139, 3) := by decide +kernel
theorem dX8_count_210 : decode cX8_count 210 = .ok (.getfield 143, 3) := by decide +kernel
theorem dX8_count_213 : decode cX8_count 213 = .ok (.ireturn, 1) := by decide +kernel
theorem dX8_count_214 : decode cX8_count 214 = .ok (.aload_n 0, 1) := by decide +kernel
theorem dX8_count_215 : decode cX8_count 215 = .ok (.getfield 10, 3) := by decide +kernel
theorem dX8_count_218 : decode cX8_count 218 = .ok (.getfield 139, 3) := by decide +kernel
theorem dX8_count_221 : decode cX8_count 221 = .ok (.invokevirtual 284, 3) := by decide +kernel
theorem dX8_count_224 : decode cX8_count 224 = .ok (.ireturn, 1) := by decide +kernel
theorem dX8_count_225 : decode cX8_count 225 = .ok (.aload_n 0, 1) := by decide +kernel
theorem dX8_count_226 : decode cX8_count 226 = .ok (.getfield 10, 3) := by decide +kernel
theorem dX8_count_229 : decode cX8_count 229 = .ok (.getfield 139, 3) := by decide +kernel
theorem dX8_count_232 : decode cX8_count 232 = .ok (.getfield 287, 3) := by decide +kernel
theorem dX8_count_235 : decode cX8_count 235 = .ok (.ldc_w 290, 3) := by decide +kernel
theorem dX8_count_238 : decode cX8_count 238 = .ok (.iadd, 1) := by decide +kernel
theorem dX8_count_239 : decode cX8_count 239 = .ok (.ireturn, 1) := by decide +kernel
theorem dX8_count_240 : decode cX8_count 240 = .ok (.aload_n 0, 1) := by decide +kernel
theorem dX8_count_241 : decode cX8_count 241 = .ok (.getfield 10, 3) := by decide +kernel
theorem dX8_count_244 : decode cX8_count 244 = .ok (.getfield 139, 3) := by decide +kernel
theorem dX8_count_247 : decode cX8_count 247 = .ok (.getfield 291, 3) := by decide +kernel
theorem dX8_count_250 : decode cX8_count 250 = .ok (.ireturn, 1) := by decide +kernel
theorem dX8_count_251 : decode cX8_count 251 = .ok (.aload_n 0, 1) := by decide +kernel
theorem dX8_count_252 : decode cX8_count 252 = .ok (.getfield 22, 3) := by decide +kernel
theorem dX8_count_255 : decode cX8_count 255 = .ok (.getfield 219, 3) := by decide +kernel
theorem dX8_count_258 : decode cX8_count 258 = .ok (.ireturn, 1) := by decide +kernel
theorem dX8_offBy_0 : decode cX8_offBy 0 = .ok (.iload_n 1, 1) := by decide +kernel
theorem dX8_offBy_1 : decode cX8_offBy 1 = .ok (.iload_n 2, 1) := by decide +kernel
theorem dX8_offBy_2 : decode cX8_offBy 2 = .ok (.invokestatic 85, 3) := by decide +kernel
theorem dX8_offBy_5 : decode cX8_offBy 5 = .ok (.iload_n 3, 1) := by decide +kernel
theorem dX8_offBy_6 : decode cX8_offBy 6 = .ok (.iconst 1, 1) := by decide +kernel
theorem dX8_offBy_7 : decode cX8_offBy 7 = .ok (.bipush 99, 2) := by decide +kernel
theorem dX8_offBy_9 : decode cX8_offBy 9 = .ok (.invokestatic 66, 3) := by decide +kernel
theorem dX8_offBy_12 : decode cX8_offBy 12 = .ok (.iload 4, 2) := by decide +kernel
theorem dX8_offBy_14 : decode cX8_offBy 14 = .ok (.iconst 1, 1) := by decide +kernel
theorem dX8_offBy_15 : decode cX8_offBy 15 = .ok (.bipush 99, 2) := by decide +kernel
theorem dX8_offBy_17 : decode cX8_offBy 17 = .ok (.invokestatic 66, 3) := by decide +kernel
theorem dX8_offBy_20 : decode cX8_offBy 20 = .ok (.aload_n 0, 1) := by decide +kernel
theorem dX8_offBy_21 : decode cX8_offBy 21 = .ok (.getfield 36, 3) := by decide +kernel
theorem dX8_offBy_24 : decode cX8_offBy 24 = .ok (.aload_n 0, 1) := by decide +kernel
theorem dX8_offBy_25 : decode cX8_offBy 25 = .ok (.getfield 10, 3) := by decide +kernel
theorem dX8_offBy_28 : decode cX8_offBy 28 = .ok (.getfield 89, 3) := by decide +kernel
theorem dX8_offBy_31 : decode cX8_offBy 31 = .ok (.iload_n 1, 1) := by decide +kernel
theorem dX8_offBy_32 : decode cX8_offBy 32 = .ok (.iload_n 2, 1) := by decide +kernel
theorem dX8_offBy_33 : decode cX8_offBy 33 = .ok (.iload_n 3, 1) := by decide +kernel
theorem dX8_offBy_34 : decode cX8_offBy 34 = .ok (.iload 4, 2) := by decide +kernel
theorem dX8_offBy_36 : decode cX8_offBy 36 = .ok (.aload_n 0, 1) := by decide +kernel
theorem dX8_offBy_37 : decode cX8_offBy 37 = .ok (.invokevirtual 93, 3) := by decide +kernel
theorem dX8_offBy_40 : decode cX8_offBy 40 = .ok (.invokevirtual 97, 3) := by decide +kernel
theorem dX8_offBy_43 : decode cX8_offBy 43 = .ok (.istore 5, 2) := by decide +kernel
theorem dX8_offBy_45 : decode cX8_offBy 45 = .ok (.iload 5, 2) := by decide +kernel
theorem dX8_offBy_47 : decode cX8_offBy 47 = .ok (.ifCond .ge 7, 3) := by decide +kernel
theorem dX8_offBy_50 : decode cX8_offBy 50 = .ok (.iconst 0, 1) := by decide +kernel
theorem dX8_offBy_51 : decode cX8_offBy 51 = .ok (.goto 11, 3) := by decide +kernel
theorem dX8_offBy_54 : decode cX8_offBy 54 = .ok (.getstatic 248, 3) := by decide +kernel
theorem dX8_offBy_57 : decode cX8_offBy 57 = .ok (.iload 5, 2) := by decide +kernel
theorem dX8_offBy_59 : decode cX8_offBy 59 = .ok (.invokestatic 77, 3) := by decide +kernel
theorem dX8_offBy_62 : decode cX8_offBy 62 = .ok (.ireturn, 1) := by decide +kernel
theorem dX8_turned_0 : decode cX8_turned 0 = .ok (.iload_n 1, 1) := by decide +kernel
theorem dX8_turned_1 : decode cX8_turned 1 = .ok (.iload_n 2, 1) := by decide +kernel
theorem dX8_turned_2 : decode cX8_turned 2 = .ok (.invokestatic 85, 3) := by decide +kernel
theorem dX8_turned_5 : decode cX8_turned 5 = .ok (.iload_n 3, 1) := by decide +kernel
theorem dX8_turned_6 : decode cX8_turned 6 = .ok (.iconst 0, 1) := by decide +kernel
theorem dX8_turned_7 : decode cX8_turned 7 = .ok (.ldc_w 294, 3) := by decide +kernel
theorem dX8_turned_10 : decode cX8_turned 10 = .ok (.invokestatic 66, 3) := by decide +kernel
theorem dX8_turned_13 : decode cX8_turned 13 = .ok (.aload_n 0, 1) := by decide +kernel
theorem dX8_turned_14 : decode cX8_turned 14 = .ok (.getfield 10, 3) := by decide +kernel
theorem dX8_turned_17 : decode cX8_turned 17 = .ok (.getfield 89, 3) := by decide +kernel
theorem dX8_turned_20 : decode cX8_turned 20 = .ok (.iload_n 1, 1) := by decide +kernel
theorem dX8_turned_21 : decode cX8_turned 21 = .ok (.iload_n 2, 1) := by decide +kernel
theorem dX8_turned_22 : decode cX8_turned 22 = .ok (.invokevirtual 118, 3) := by decide +kernel
theorem dX8_turned_25 : decode cX8_turned 25 = .ok (.ifCond .ne 5, 3) := by decide +kernel
theorem dX8_turned_28 : decode cX8_turned 28 = .ok (.iconst (-1), 1) := by decide +kernel
theorem dX8_turned_29 : decode cX8_turned 29 = .ok (.ireturn, 1) := by decide +kernel
theorem dX8_turned_30 : decode cX8_turned 30 = .ok (.iload_n 3, 1) := by decide +kernel
theorem dX8_turned_31 : decode cX8_turned 31 = .ok (.i2l, 1) := by decide +kernel
theorem dX8_turned_32 : decode cX8_turned 32 = .ok (.aload_n 0, 1) := by decide +kernel
theorem dX8_turned_33 : decode cX8_turned 33 = .ok (.getfield 10, 3) := by decide +kernel
theorem dX8_turned_36 : decode cX8_turned 36 = .ok (.getfield 89, 3) := by decide +kernel
theorem dX8_turned_39 : decode cX8_turned 39 = .ok (.iload_n 1, 1) := by decide +kernel
theorem dX8_turned_40 : decode cX8_turned 40 = .ok (.iload_n 2, 1) := by decide +kernel
theorem dX8_turned_41 : decode cX8_turned 41 = .ok (.invokevirtual 236, 3) := by decide +kernel
theorem dX8_turned_44 : decode cX8_turned 44 = .ok (.aload_n 0, 1) := by decide +kernel
theorem dX8_turned_45 : decode cX8_turned 45 = .ok (.getfield 10, 3) := by decide +kernel
theorem dX8_turned_48 : decode cX8_turned 48 = .ok (.getfield 89, 3) := by decide +kernel
theorem dX8_turned_51 : decode cX8_turned 51 = .ok (.iload_n 2, 1) := by decide +kernel
theorem dX8_turned_52 : decode cX8_turned 52 = .ok (.iload_n 1, 1) := by decide +kernel
theorem dX8_turned_53 : decode cX8_turned 53 = .ok (.invokevirtual 236, 3) := by decide +kernel
theorem dX8_turned_56 : decode cX8_turned 56 = .ok (.aload_n 0, 1) := by decide +kernel
theorem dX8_turned_57 : decode cX8_turned 57 = .ok (.invokevirtual 295, 3) := by decide +kernel
theorem dX8_turned_60 : decode cX8_turned 60 = .ok (.invokestatic 298, 3) := by decide +kernel
theorem dX8_turned_63 : decode cX8_turned 63 = .ok (.l2i, 1) := by decide +kernel
theorem dX8_turned_64 : decode cX8_turned 64 = .ok (.ireturn, 1) := by decide +kernel
theorem dX8_bestWay_0 : decode cX8_bestWay 0 = .ok (.iload_n 1, 1) := by decide +kernel
theorem dX8_bestWay_1 : decode cX8_bestWay 1 = .ok (.iload_n 2, 1) := by decide +kernel
theorem dX8_bestWay_2 : decode cX8_bestWay 2 = .ok (.invokestatic 85, 3) := by decide +kernel
theorem dX8_bestWay_5 : decode cX8_bestWay 5 = .ok (.iload_n 3, 1) := by decide +kernel
theorem dX8_bestWay_6 : decode cX8_bestWay 6 = .ok (.iconst 0, 1) := by decide +kernel
theorem dX8_bestWay_7 : decode cX8_bestWay 7 = .ok (.sipush 9999, 3) := by decide +kernel
theorem dX8_bestWay_10 : decode cX8_bestWay 10 = .ok (.invokestatic 66, 3) := by decide +kernel
theorem dX8_bestWay_13 : decode cX8_bestWay 13 = .ok (.iconst (-1), 1) := by decide +kernel
theorem dX8_bestWay_14 : decode cX8_bestWay 14 = .ok (.istore 4, 2) := by decide +kernel
theorem dX8_bestWay_16 : decode cX8_bestWay 16 = .ok (.lconst 0, 1) := by decide +kernel
theorem dX8_bestWay_17 : decode cX8_bestWay 17 = .ok (.lstore 5, 2) := by decide +kernel
theorem dX8_bestWay_19 : decode cX8_bestWay 19 = .ok (.iconst 0, 1) := by decide +kernel
theorem dX8_bestWay_20 : decode cX8_bestWay 20 = .ok (.istore 7, 2) := by decide +kernel
theorem dX8_bestWay_22 : decode cX8_bestWay 22 = .ok (.iload 7, 2) := by decide +kernel
theorem dX8_bestWay_24 : decode cX8_bestWay 24 = .ok (.bipush 16, 2) := by decide +kernel
theorem dX8_bestWay_26 : decode cX8_bestWay 26 = .ok (.if_icmp .ge 112, 3) := by decide +kernel
theorem dX8_bestWay_29 : decode cX8_bestWay 29 = .ok (.aload_n 0, 1) := by decide +kernel
theorem dX8_bestWay_30 : decode cX8_bestWay 30 = .ok (.getfield 43, 3) := by decide +kernel
theorem dX8_bestWay_33 : decode cX8_bestWay 33 = .ok (.iload_n 1, 1) := by decide +kernel
theorem dX8_bestWay_34 : decode cX8_bestWay 34 = .ok (.iload_n 2, 1) := by decide +kernel
theorem dX8_bestWay_35 : decode cX8_bestWay 35 = .ok (.iload 7, 2) := by decide +kernel
theorem dX8_bestWay_37 : decode cX8_bestWay 37 = .ok (.invokevirtual 302, 3) := by decide +kernel
theorem dX8_bestWay_40 : decode cX8_bestWay 40 = .ok (.aload_n 0, 1) := by decide +kernel
theorem dX8_bestWay_41 : decode cX8_bestWay 41 = .ok (.getfield 43, 3) := by decide +kernel
theorem dX8_bestWay_44 : decode cX8_bestWay 44 = .ok (.getfield 305, 3) := by decide +kernel
theorem dX8_bestWay_47 : decode cX8_bestWay 47 = .ok (.iconst 1, 1) := by decide +kernel
theorem dX8_bestWay_48 : decode cX8_bestWay 48 = .ok (.isub, 1) := by decide +kernel
theorem dX8_bestWay_49 : decode cX8_bestWay 49 = .ok (.aload_n 0, 1) := by decide +kernel
theorem dX8_bestWay_50 : decode cX8_bestWay 50 = .ok (.getfield 10, 3) := by decide +kernel
theorem dX8_bestWay_53 : decode cX8_bestWay 53 = .ok (.getfield 136, 3) := by decide +kernel
theorem dX8_bestWay_56 : decode cX8_bestWay 56 = .ok (.iconst 2, 1) := by decide +kernel
theorem dX8_bestWay_57 : decode cX8_bestWay 57 = .ok (.invokestatic 77, 3) := by decide +kernel
theorem dX8_bestWay_60 : decode cX8_bestWay 60 = .ok (.if_icmp .gt 72, 3) := by decide +kernel
theorem dX8_bestWay_63 : decode cX8_bestWay 63 = .ok (.aload_n 0, 1) := by decide +kernel
theorem dX8_bestWay_64 : decode cX8_bestWay 64 = .ok (.getfield 43, 3) := by decide +kernel
theorem dX8_bestWay_67 : decode cX8_bestWay 67 = .ok (.aload_n 0, 1) := by decide +kernel
theorem dX8_bestWay_68 : decode cX8_bestWay 68 = .ok (.getfield 10, 3) := by decide +kernel
theorem dX8_bestWay_71 : decode cX8_bestWay 71 = .ok (.getfield 89, 3) := by decide +kernel
theorem dX8_bestWay_74 : decode cX8_bestWay 74 = .ok (.invokevirtual 306, 3) := by decide +kernel
theorem dX8_bestWay_77 : decode cX8_bestWay 77 = .ok (.ifCond .eq 55, 3) := by decide +kernel
theorem dX8_bestWay_80 : decode cX8_bestWay 80 = .ok (.aload_n 0, 1) := by decide +kernel
theorem dX8_bestWay_81 : decode cX8_bestWay 81 = .ok (.getfield 43, 3) := by decide +kernel
theorem dX8_bestWay_84 : decode cX8_bestWay 84 = .ok (.aload_n 0, 1) := by decide +kernel
theorem dX8_bestWay_85 : decode cX8_bestWay 85 = .ok (.getfield 10, 3) := by decide +kernel
theorem dX8_bestWay_88 : decode cX8_bestWay 88 = .ok (.getfield 89, 3) := by decide +kernel
theorem dX8_bestWay_91 : decode cX8_bestWay 91 = .ok (.iload_n 3, 1) := by decide +kernel
theorem dX8_bestWay_92 : decode cX8_bestWay 92 = .ok (.aload_n 0, 1) := by decide +kernel
theorem dX8_bestWay_93 : decode cX8_bestWay 93 = .ok (.invokevirtual 295, 3) := by decide +kernel
theorem dX8_bestWay_96 : decode cX8_bestWay 96 = .ok (.invokevirtual 309, 3) := by decide +kernel
theorem dX8_bestWay_99 : decode cX8_bestWay 99 = .ok (.lstore 8, 2) := by decide +kernel
theorem dX8_bestWay_101 : decode cX8_bestWay 101 = .ok (.iload 4, 2) := by decide +kernel
theorem dX8_bestWay_103 : decode cX8_bestWay 103 = .ok (.iconst (-1), 1) := by decide +kernel
theorem dX8_bestWay_104 : decode cX8_bestWay 104 = .ok (.if_icmp .eq 11, 3) := by decide +kernel
theorem dX8_bestWay_107 : decode cX8_bestWay 107 = .ok (.lload 8, 2) := by decide +kernel
theorem dX8_bestWay_109 : decode cX8_bestWay 109 = .ok (.lload 5, 2) := by decide +kernel
theorem dX8_bestWay_111 : decode cX8_bestWay 111 = .ok (.lcmp, 1) := by decide +kernel
theorem dX8_bestWay_112 : decode cX8_bestWay 112 = .ok (.ifCond .ge 20, 3) := by decide +kernel
theorem dX8_bestWay_115 : decode cX8_bestWay 115 = .ok (.aload_n 0, 1) := by decide +kernel
theorem dX8_bestWay_116 : decode cX8_bestWay 116 = .ok (.getfield 43, 3) := by decide +kernel
theorem dX8_bestWay_119 : decode cX8_bestWay 119 = .ok (.invokevirtual 313, 3) := by decide +kernel
theorem dX8_bestWay_122 : decode cX8_bestWay 122 = .ok (.ldc_w 316, 3) := by decide +kernel
theorem dX8_bestWay_125 : decode cX8_bestWay 125 = .ok (.iadd, 1) := by decide +kernel
theorem dX8_bestWay_126 : decode cX8_bestWay 126 = .ok (.istore 4, 2) := by decide +kernel
theorem dX8_bestWay_128 : decode cX8_bestWay 128 = .ok (.lload 8, 2) := by decide +kernel
theorem dX8_bestWay_130 : decode cX8_bestWay 130 = .ok (.lstore 5, 2) := by decide +kernel
theorem dX8_bestWay_132 : decode cX8_bestWay 132 = .ok (.iinc 7 1, 3) := by decide +kernel
theorem dX8_bestWay_135 : decode cX8_bestWay 135 = .ok (.goto (-113), 3) := by decide +kernel
theorem dX8_bestWay_138 : decode cX8_bestWay 138 = .ok (.iload 4, 2) := by decide +kernel
theorem dX8_bestWay_140 : decode cX8_bestWay 140 = .ok (.ireturn, 1) := by decide +kernel
theorem dX8_mends_0 : decode cX8_mends 0 = .ok (.iload_n 1, 1) := by decide +kernel
theorem dX8_mends_1 : decode cX8_mends 1 = .ok (.iload_n 2, 1) := by decide +kernel
theorem dX8_mends_2 : decode cX8_mends 2 = .ok (.invokestatic 85, 3) := by decide +kernel
theorem dX8_mends_5 : decode cX8_mends 5 = .ok (.iload_n 3, 1) := by decide +kernel
theorem dX8_mends_6 : decode cX8_mends 6 = .ok (.iconst 0, 1) := by decide +kernel
theorem dX8_mends_7 : decode cX8_mends 7 = .ok (.iconst 1, 1) := by decide +kernel
theorem dX8_mends_8 : decode cX8_mends 8 = .ok (.invokestatic 66, 3) := by decide +kernel
theorem dX8_mends_11 : decode cX8_mends 11 = .ok (.iconst 1, 1) := by decide +kernel
theorem dX8_mends_12 : decode cX8_mends 12 = .ok (.istore 4, 2) := by decide +kernel
theorem dX8_mends_14 : decode cX8_mends 14 = .ok (.iload 4, 2) := by decide +kernel
theorem dX8_mends_16 : decode cX8_mends 16 = .ok (.bipush 16, 2) := by decide +kernel
theorem dX8_mends_18 : decode cX8_mends 18 = .ok (.if_icmp .ge 72, 3) := by decide +kernel
theorem dX8_mends_21 : decode cX8_mends 21 = .ok (.aload_n 0, 1) := by decide +kernel
theorem dX8_mends_22 : decode cX8_mends 22 = .ok (.getfield 43, 3) := by decide +kernel
theorem dX8_mends_25 : decode cX8_mends 25 = .ok (.iload_n 1, 1) := by decide +kernel
theorem dX8_mends_26 : decode cX8_mends 26 = .ok (.iload_n 2, 1) := by decide +kernel
theorem dX8_mends_27 : decode cX8_mends 27 = .ok (.iload 4, 2) := by decide +kernel
theorem dX8_mends_29 : decode cX8_mends 29 = .ok (.invokevirtual 302, 3) := by decide +kernel
theorem dX8_mends_32 : decode cX8_mends 32 = .ok (.aload_n 0, 1) := by decide +kernel
theorem dX8_mends_33 : decode cX8_mends 33 = .ok (.getfield 43, 3) := by decide +kernel
theorem dX8_mends_36 : decode cX8_mends 36 = .ok (.aload_n 0, 1) := by decide +kernel
theorem dX8_mends_37 : decode cX8_mends 37 = .ok (.getfield 10, 3) := by decide +kernel
theorem dX8_mends_40 : decode cX8_mends 40 = .ok (.getfield 89, 3) := by decide +kernel
theorem dX8_mends_43 : decode cX8_mends 43 = .ok (.invokevirtual 306, 3) := by decide +kernel
theorem dX8_mends_46 : decode cX8_mends 46 = .ok (.ifCond .eq 38, 3) := by decide +kernel
theorem dX8_mends_49 : decode cX8_mends 49 = .ok (.aload_n 0, 1) := by decide +kernel
theorem dX8_mends_50 : decode cX8_mends 50 = .ok (.getfield 43, 3) := by decide +kernel
theorem dX8_mends_53 : decode cX8_mends 53 = .ok (.aload_n 0, 1) := by decide +kernel
theorem dX8_mends_54 : decode cX8_mends 54 = .ok (.getfield 10, 3) := by decide +kernel
theorem dX8_mends_57 : decode cX8_mends 57 = .ok (.getfield 89, 3) := by decide +kernel
theorem dX8_mends_60 : decode cX8_mends 60 = .ok (.iconst 1, 1) := by decide +kernel
theorem dX8_mends_61 : decode cX8_mends 61 = .ok (.invokevirtual 317, 3) := by decide +kernel
theorem dX8_mends_64 : decode cX8_mends 64 = .ok (.aload_n 0, 1) := by decide +kernel
theorem dX8_mends_65 : decode cX8_mends 65 = .ok (.getfield 43, 3) := by decide +kernel
theorem dX8_mends_68 : decode cX8_mends 68 = .ok (.aload_n 0, 1) := by decide +kernel
theorem dX8_mends_69 : decode cX8_mends 69 = .ok (.getfield 10, 3) := by decide +kernel
theorem dX8_mends_72 : decode cX8_mends 72 = .ok (.getfield 89, 3) := by decide +kernel
theorem dX8_mends_75 : decode cX8_mends 75 = .ok (.iconst 0, 1) := by decide +kernel
theorem dX8_mends_76 : decode cX8_mends 76 = .ok (.invokevirtual 317, 3) := by decide +kernel
theorem dX8_mends_79 : decode cX8_mends 79 = .ok (.iload_n 3, 1) := by decide +kernel
theorem dX8_mends_80 : decode cX8_mends 80 = .ok (.invokestatic 321, 3) := by decide +kernel
theorem dX8_mends_83 : decode cX8_mends 83 = .ok (.ireturn, 1) := by decide +kernel
theorem dX8_mends_84 : decode cX8_mends 84 = .ok (.iinc 4 1, 3) := by decide +kernel
theorem dX8_mends_87 : decode cX8_mends 87 = .ok (.goto (-73), 3) := by decide +kernel
theorem dX8_mends_90 : decode cX8_mends 90 = .ok (.iconst (-1), 1) := by decide +kernel
theorem dX8_mends_91 : decode cX8_mends 91 = .ok (.ireturn, 1) := by decide +kernel
theorem dX8_trueShare_0 : decode cX8_trueShare 0 = .ok (.aload_n 0, 1) := by decide +kernel
theorem dX8_trueShare_1 : decode cX8_trueShare 1 = .ok (.getfield 36, 3) := by decide +kernel
theorem dX8_trueShare_4 : decode cX8_trueShare 4 = .ok (.aload_n 0, 1) := by decide +kernel
theorem dX8_trueShare_5 : decode cX8_trueShare 5 = .ok (.getfield 10, 3) := by decide +kernel
theorem dX8_trueShare_8 : decode cX8_trueShare 8 = .ok (.getfield 89, 3) := by decide +kernel
theorem dX8_trueShare_11 : decode cX8_trueShare 11 = .ok (.invokevirtual 114, 3) := by decide +kernel
theorem dX8_trueShare_14 : decode cX8_trueShare 14 = .ok (.istore_n 1, 1) := by decide +kernel
theorem dX8_trueShare_15 : decode cX8_trueShare 15 = .ok (.iload_n 1, 1) := by decide +kernel
theorem dX8_trueShare_16 : decode cX8_trueShare 16 = .ok (.ifCond .gt 5, 3) := by decide +kernel
theorem dX8_trueShare_19 : decode cX8_trueShare 19 = .ok (.dconst 1, 1) := by decide +kernel
theorem dX8_trueShare_20 : decode cX8_trueShare 20 = .ok (.dreturn, 1) := by decide +kernel
theorem dX8_trueShare_21 : decode cX8_trueShare 21 = .ok (.iload_n 1, 1) := by decide +kernel
theorem dX8_trueShare_22 : decode cX8_trueShare 22 = .ok (.aload_n 0, 1) := by decide +kernel
theorem dX8_trueShare_23 : decode cX8_trueShare 23 = .ok (.getfield 36, 3) := by decide +kernel
theorem dX8_trueShare_26 : decode cX8_trueShare 26 = .ok (.aload_n 0, 1) := by decide +kernel
theorem dX8_trueShare_27 : decode cX8_trueShare 27 = .ok (.getfield 10, 3) := by decide +kernel
theorem dX8_trueShare_30 : decode cX8_trueShare 30 = .ok (.getfield 89, 3) := by decide +kernel
theorem dX8_trueShare_33 : decode cX8_trueShare 33 = .ok (.aload_n 0, 1) := by decide +kernel
theorem dX8_trueShare_34 : decode cX8_trueShare 34 = .ok (.invokevirtual 93, 3) := by decide +kernel
theorem dX8_trueShare_37 : decode cX8_trueShare 37 = .ok (.invokevirtual 276, 3) := by decide +kernel
theorem dX8_trueShare_40 : decode cX8_trueShare 40 = .ok (.isub, 1) := by decide +kernel
theorem dX8_trueShare_41 : decode cX8_trueShare 41 = .ok (.i2d, 1) := by decide +kernel
theorem dX8_trueShare_42 : decode cX8_trueShare 42 = .ok (.iload_n 1, 1) := by decide +kernel
theorem dX8_trueShare_43 : decode cX8_trueShare 43 = .ok (.i2d, 1) := by decide +kernel
theorem dX8_trueShare_44 : decode cX8_trueShare 44 = .ok (.ddiv, 1) := by decide +kernel
theorem dX8_trueShare_45 : decode cX8_trueShare 45 = .ok (.dreturn, 1) := by decide +kernel
theorem dX8_digest_0 : decode cX8_digest 0 = .ok (.ldc2_w 325, 3) := by decide +kernel
theorem dX8_digest_3 : decode cX8_digest 3 = .ok (.lstore_n 1, 1) := by decide +kernel
theorem dX8_digest_4 : decode cX8_digest 4 = .ok (.iconst 0, 1) := by decide +kernel
theorem dX8_digest_5 : decode cX8_digest 5 = .ok (.istore_n 3, 1) := by decide +kernel
theorem dX8_digest_6 : decode cX8_digest 6 = .ok (.iload_n 3, 1) := by decide +kernel
theorem dX8_digest_7 : decode cX8_digest 7 = .ok (.bipush 17, 2) := by decide +kernel
theorem dX8_digest_9 : decode cX8_digest 9 = .ok (.if_icmp .gt 22, 3) := by decide +kernel
theorem dX8_digest_12 : decode cX8_digest 12 = .ok (.ldc2_w 327, 3) := by decide +kernel
theorem dX8_digest_15 : decode cX8_digest 15 = .ok (.lload_n 1, 1) := by decide +kernel
theorem dX8_digest_16 : decode cX8_digest 16 = .ok (.lmul, 1) := by decide +kernel
theorem dX8_digest_17 : decode cX8_digest 17 = .ok (.aload_n 0, 1) := by decide +kernel
theorem dX8_digest_18 : decode cX8_digest 18 = .ok (.iload_n 3, 1) := by decide +kernel
theorem dX8_digest_19 : decode cX8_digest 19 = .ok (.invokevirtual 329, 3) := by decide +kernel
theorem dX8_digest_22 : decode cX8_digest 22 = .ok (.i2l, 1) := by decide +kernel
theorem dX8_digest_23 : decode cX8_digest 23 = .ok (.ladd, 1) := by decide +kernel
theorem dX8_digest_24 : decode cX8_digest 24 = .ok (.lstore_n 1, 1) := by decide +kernel
theorem dX8_digest_25 : decode cX8_digest 25 = .ok (.iinc 3 1, 3) := by decide +kernel
theorem dX8_digest_28 : decode cX8_digest 28 = .ok (.goto (-22), 3) := by decide +kernel
theorem dX8_digest_31 : decode cX8_digest 31 = .ok (.aload_n 0, 1) := by decide +kernel
theorem dX8_digest_32 : decode cX8_digest 32 = .ok (.lload_n 1, 1) := by decide +kernel
theorem dX8_digest_33 : decode cX8_digest 33 = .ok (.invokevirtual 332, 3) := by decide +kernel
theorem dX8_digest_36 : decode cX8_digest 36 = .ok (.lstore_n 1, 1) := by decide +kernel
theorem dX8_digest_37 : decode cX8_digest 37 = .ok (.aload_n 0, 1) := by decide +kernel
theorem dX8_digest_38 : decode cX8_digest 38 = .ok (.lload_n 1, 1) := by decide +kernel
theorem dX8_digest_39 : decode cX8_digest 39 = .ok (.invokevirtual 336, 3) := by decide +kernel
theorem dX8_digest_42 : decode cX8_digest 42 = .ok (.lstore_n 1, 1) := by decide +kernel
theorem dX8_digest_43 : decode cX8_digest 43 = .ok (.aload_n 0, 1) := by decide +kernel
theorem dX8_digest_44 : decode cX8_digest 44 = .ok (.lload_n 1, 1) := by decide +kernel
theorem dX8_digest_45 : decode cX8_digest 45 = .ok (.invokevirtual 339, 3) := by decide +kernel
theorem dX8_digest_48 : decode cX8_digest 48 = .ok (.lstore_n 1, 1) := by decide +kernel
theorem dX8_digest_49 : decode cX8_digest 49 = .ok (.ldc2_w 327, 3) := by decide +kernel
theorem dX8_digest_52 : decode cX8_digest 52 = .ok (.lload_n 1, 1) := by decide +kernel
theorem dX8_digest_53 : decode cX8_digest 53 = .ok (.lmul, 1) := by decide +kernel
theorem dX8_digest_54 : decode cX8_digest 54 = .ok (.aload_n 0, 1) := by decide +kernel
theorem dX8_digest_55 : decode cX8_digest 55 = .ok (.iconst 0, 1) := by decide +kernel
theorem dX8_digest_56 : decode cX8_digest 56 = .ok (.invokevirtual 342, 3) := by decide +kernel
theorem dX8_digest_59 : decode cX8_digest 59 = .ok (.i2l, 1) := by decide +kernel
theorem dX8_digest_60 : decode cX8_digest 60 = .ok (.ladd, 1) := by decide +kernel
theorem dX8_digest_61 : decode cX8_digest 61 = .ok (.lstore_n 1, 1) := by decide +kernel
theorem dX8_digest_62 : decode cX8_digest 62 = .ok (.ldc2_w 327, 3) := by decide +kernel
theorem dX8_digest_65 : decode cX8_digest 65 = .ok (.lload_n 1, 1) := by decide +kernel
theorem dX8_digest_66 : decode cX8_digest 66 = .ok (.lmul, 1) := by decide +kernel
theorem dX8_digest_67 : decode cX8_digest 67 = .ok (.aload_n 0, 1) := by decide +kernel
theorem dX8_digest_68 : decode cX8_digest 68 = .ok (.iconst 1, 1) := by decide +kernel
theorem dX8_digest_69 : decode cX8_digest 69 = .ok (.invokevirtual 342, 3) := by decide +kernel
theorem dX8_digest_72 : decode cX8_digest 72 = .ok (.i2l, 1) := by decide +kernel
theorem dX8_digest_73 : decode cX8_digest 73 = .ok (.ladd, 1) := by decide +kernel
theorem dX8_digest_74 : decode cX8_digest 74 = .ok (.lstore_n 1, 1) := by decide +kernel
theorem dX8_digest_75 : decode cX8_digest 75 = .ok (.ldc2_w 327, 3) := by decide +kernel
theorem dX8_digest_78 : decode cX8_digest 78 = .ok (.lload_n 1, 1) := by decide +kernel
theorem dX8_digest_79 : decode cX8_digest 79 = .ok (.lmul, 1) := by decide +kernel
theorem dX8_digest_80 : decode cX8_digest 80 = .ok (.aload_n 0, 1) := by decide +kernel
theorem dX8_digest_81 : decode cX8_digest 81 = .ok (.iconst 0, 1) := by decide +kernel
theorem dX8_digest_82 : decode cX8_digest 82 = .ok (.iconst 1, 1) := by decide +kernel
theorem dX8_digest_83 : decode cX8_digest 83 = .ok (.iconst 3, 1) := by decide +kernel
theorem dX8_digest_84 : decode cX8_digest 84 = .ok (.iconst 2, 1) := by decide +kernel
theorem dX8_digest_85 : decode cX8_digest 85 = .ok (.invokevirtual 345, 3) := by decide +kernel
theorem dX8_digest_88 : decode cX8_digest 88 = .ok (.i2l, 1) := by decide +kernel
theorem dX8_digest_89 : decode cX8_digest 89 = .ok (.ladd, 1) := by decide +kernel
theorem dX8_digest_90 : decode cX8_digest 90 = .ok (.lstore_n 1, 1) := by decide +kernel
theorem dX8_digest_91 : decode cX8_digest 91 = .ok (.ldc2_w 327, 3) := by decide +kernel
theorem dX8_digest_94 : decode cX8_digest 94 = .ok (.lload_n 1, 1) := by decide +kernel
theorem dX8_digest_95 : decode cX8_digest 95 = .ok (.lmul, 1) := by decide +kernel
theorem dX8_digest_96 : decode cX8_digest 96 = .ok (.aload_n 0, 1) := by decide +kernel
theorem dX8_digest_97 : decode cX8_digest 97 = .ok (.iconst 0, 1) := by decide +kernel
theorem dX8_digest_98 : decode cX8_digest 98 = .ok (.iconst 1, 1) := by decide +kernel
theorem dX8_digest_99 : decode cX8_digest 99 = .ok (.sipush 1000, 3) := by decide +kernel
theorem dX8_digest_102 : decode cX8_digest 102 = .ok (.invokevirtual 349, 3) := by decide +kernel
theorem dX8_digest_105 : decode cX8_digest 105 = .ok (.i2l, 1) := by decide +kernel
theorem dX8_digest_106 : decode cX8_digest 106 = .ok (.ladd, 1) := by decide +kernel
theorem dX8_digest_107 : decode cX8_digest 107 = .ok (.lstore_n 1, 1) := by decide +kernel
theorem dX8_digest_108 : decode cX8_digest 108 = .ok (.ldc2_w 327, 3) := by decide +kernel
theorem dX8_digest_111 : decode cX8_digest 111 = .ok (.lload_n 1, 1) := by decide +kernel
theorem dX8_digest_112 : decode cX8_digest 112 = .ok (.lmul, 1) := by decide +kernel
theorem dX8_digest_113 : decode cX8_digest 113 = .ok (.aload_n 0, 1) := by decide +kernel
theorem dX8_digest_114 : decode cX8_digest 114 = .ok (.invokevirtual 353, 3) := by decide +kernel
theorem dX8_digest_117 : decode cX8_digest 117 = .ok (.invokestatic 357, 3) := by decide +kernel
theorem dX8_digest_120 : decode cX8_digest 120 = .ok (.ladd, 1) := by decide +kernel
theorem dX8_digest_121 : decode cX8_digest 121 = .ok (.lstore_n 1, 1) := by decide +kernel
theorem dX8_digest_122 : decode cX8_digest 122 = .ok (.ldc2_w 327, 3) := by decide +kernel
theorem dX8_digest_125 : decode cX8_digest 125 = .ok (.lload_n 1, 1) := by decide +kernel
theorem dX8_digest_126 : decode cX8_digest 126 = .ok (.lmul, 1) := by decide +kernel
theorem dX8_digest_127 : decode cX8_digest 127 = .ok (.aload_n 0, 1) := by decide +kernel
theorem dX8_digest_128 : decode cX8_digest 128 = .ok (.getfield 29, 3) := by decide +kernel
theorem dX8_digest_131 : decode cX8_digest 131 = .ok (.getfield 175, 3) := by decide +kernel
theorem dX8_digest_134 : decode cX8_digest 134 = .ok (.i2l, 1) := by decide +kernel
theorem dX8_digest_135 : decode cX8_digest 135 = .ok (.ladd, 1) := by decide +kernel
theorem dX8_digest_136 : decode cX8_digest 136 = .ok (.lstore_n 1, 1) := by decide +kernel
theorem dX8_digest_137 : decode cX8_digest 137 = .ok (.iconst 0, 1) := by decide +kernel
theorem dX8_digest_138 : decode cX8_digest 138 = .ok (.istore_n 3, 1) := by decide +kernel
theorem dX8_digest_139 : decode cX8_digest 139 = .ok (.iload_n 3, 1) := by decide +kernel
theorem dX8_digest_140 : decode cX8_digest 140 = .ok (.aload_n 0, 1) := by decide +kernel
theorem dX8_digest_141 : decode cX8_digest 141 = .ok (.getfield 29, 3) := by decide +kernel
theorem dX8_digest_144 : decode cX8_digest 144 = .ok (.getfield 175, 3) := by decide +kernel
theorem dX8_digest_147 : decode cX8_digest 147 = .ok (.if_icmp .ge 28, 3) := by decide +kernel
theorem dX8_digest_150 : decode cX8_digest 150 = .ok (.ldc2_w 327, 3) := by decide +kernel
theorem dX8_digest_153 : decode cX8_digest 153 = .ok (.lload_n 1, 1) := by decide +kernel
theorem dX8_digest_154 : decode cX8_digest 154 = .ok (.lmul, 1) := by decide +kernel
theorem dX8_digest_155 : decode cX8_digest 155 = .ok (.aload_n 0, 1) := by decide +kernel
theorem dX8_digest_156 : decode cX8_digest 156 = .ok (.getfield 29, 3) := by decide +kernel
theorem dX8_digest_159 : decode cX8_digest 159 = .ok (.getfield 202, 3) := by decide +kernel
theorem dX8_digest_162 : decode cX8_digest 162 = .ok (.iload_n 3, 1) := by decide +kernel
theorem dX8_digest_163 : decode cX8_digest 163 = .ok (.invokestatic 77, 3) := by decide +kernel
theorem dX8_digest_166 : decode cX8_digest 166 = .ok (.i2l, 1) := by decide +kernel
theorem dX8_digest_167 : decode cX8_digest 167 = .ok (.ladd, 1) := by decide +kernel
theorem dX8_digest_168 : decode cX8_digest 168 = .ok (.lstore_n 1, 1) := by decide +kernel
theorem dX8_digest_169 : decode cX8_digest 169 = .ok (.iinc 3 1, 3) := by decide +kernel
theorem dX8_digest_172 : decode cX8_digest 172 = .ok (.goto (-33), 3) := by decide +kernel
theorem dX8_digest_175 : decode cX8_digest 175 = .ok (.lload_n 1, 1) := by decide +kernel
theorem dX8_digest_176 : decode cX8_digest 176 = .ok (.lreturn, 1) := by decide +kernel
theorem dX8_hashPairs_0 : decode cX8_hashPairs 0 = .ok (.lload_n 1, 1) := by decide +kernel
theorem dX8_hashPairs_1 : decode cX8_hashPairs 1 = .ok (.lstore_n 3, 1) := by decide +kernel
theorem dX8_hashPairs_2 : decode cX8_hashPairs 2 = .ok (.iconst 0, 1) := by decide +kernel
theorem dX8_hashPairs_3 : decode cX8_hashPairs 3 = .ok (.istore 5, 2) := by decide +kernel
theorem dX8_hashPairs_5 : decode cX8_hashPairs 5 = .ok (.iload 5, 2) := by decide +kernel
theorem dX8_hashPairs_7 : decode cX8_hashPairs 7 = .ok (.iconst 5, 1) := by decide +kernel
theorem dX8_hashPairs_8 : decode cX8_hashPairs 8 = .ok (.if_icmp .ge 130, 3) := by decide +kernel
theorem dX8_hashPairs_11 : decode cX8_hashPairs 11 = .ok (.iload 5, 2) := by decide +kernel
theorem dX8_hashPairs_13 : decode cX8_hashPairs 13 = .ok (.iconst 1, 1) := by decide +kernel
theorem dX8_hashPairs_14 : decode cX8_hashPairs 14 = .ok (.iadd, 1) := by decide +kernel
theorem dX8_hashPairs_15 : decode cX8_hashPairs 15 = .ok (.istore 6, 2) := by decide +kernel
theorem dX8_hashPairs_17 : decode cX8_hashPairs 17 = .ok (.iload 6, 2) := by decide +kernel
theorem dX8_hashPairs_19 : decode cX8_hashPairs 19 = .ok (.iconst 5, 1) := by decide +kernel
theorem dX8_hashPairs_20 : decode cX8_hashPairs 20 = .ok (.if_icmp .ge 112, 3) := by decide +kernel
theorem dX8_hashPairs_23 : decode cX8_hashPairs 23 = .ok (.ldc2_w 327, 3) := by decide +kernel
theorem dX8_hashPairs_26 : decode cX8_hashPairs 26 = .ok (.lload_n 3, 1) := by decide +kernel
theorem dX8_hashPairs_27 : decode cX8_hashPairs 27 = .ok (.lmul, 1) := by decide +kernel
theorem dX8_hashPairs_28 : decode cX8_hashPairs 28 = .ok (.aload_n 0, 1) := by decide +kernel
theorem dX8_hashPairs_29 : decode cX8_hashPairs 29 = .ok (.iload 5, 2) := by decide +kernel
theorem dX8_hashPairs_31 : decode cX8_hashPairs 31 = .ok (.iload 6, 2) := by decide +kernel
theorem dX8_hashPairs_33 : decode cX8_hashPairs 33 = .ok (.iconst 0, 1) := by decide +kernel
theorem dX8_hashPairs_34 : decode cX8_hashPairs 34 = .ok (.invokevirtual 361, 3) := by decide +kernel
theorem dX8_hashPairs_37 : decode cX8_hashPairs 37 = .ok (.i2l, 1) := by decide +kernel
theorem dX8_hashPairs_38 : decode cX8_hashPairs 38 = .ok (.ladd, 1) := by decide +kernel
theorem dX8_hashPairs_39 : decode cX8_hashPairs 39 = .ok (.lstore_n 3, 1) := by decide +kernel
theorem dX8_hashPairs_40 : decode cX8_hashPairs 40 = .ok (.ldc2_w 327, 3) := by decide +kernel
theorem dX8_hashPairs_43 : decode cX8_hashPairs 43 = .ok (.lload_n 3, 1) := by decide +kernel
theorem dX8_hashPairs_44 : decode cX8_hashPairs 44 = .ok (.lmul, 1) := by decide +kernel
theorem dX8_hashPairs_45 : decode cX8_hashPairs 45 = .ok (.aload_n 0, 1) := by decide +kernel
theorem dX8_hashPairs_46 : decode cX8_hashPairs 46 = .ok (.iload 5, 2) := by decide +kernel
theorem dX8_hashPairs_48 : decode cX8_hashPairs 48 = .ok (.iload 6, 2) := by decide +kernel
theorem dX8_hashPairs_50 : decode cX8_hashPairs 50 = .ok (.iconst 1, 1) := by decide +kernel
theorem dX8_hashPairs_51 : decode cX8_hashPairs 51 = .ok (.invokevirtual 361, 3) := by decide +kernel
theorem dX8_hashPairs_54 : decode cX8_hashPairs 54 = .ok (.i2l, 1) := by decide +kernel
theorem dX8_hashPairs_55 : decode cX8_hashPairs 55 = .ok (.ladd, 1) := by decide +kernel
theorem dX8_hashPairs_56 : decode cX8_hashPairs 56 = .ok (.lstore_n 3, 1) := by decide +kernel
theorem dX8_hashPairs_57 : decode cX8_hashPairs 57 = .ok (.ldc2_w 327, 3) := by decide +kernel
theorem dX8_hashPairs_60 : decode cX8_hashPairs 60 = .ok (.lload_n 3, 1) := by decide +kernel
theorem dX8_hashPairs_61 : decode cX8_hashPairs 61 = .ok (.lmul, 1) := by decide +kernel
theorem dX8_hashPairs_62 : decode cX8_hashPairs 62 = .ok (.aload_n 0, 1) := by decide +kernel
theorem dX8_hashPairs_63 : decode cX8_hashPairs 63 = .ok (.iload 5, 2) := by decide +kernel
theorem dX8_hashPairs_65 : decode cX8_hashPairs 65 = .ok (.iload 6, 2) := by decide +kernel
theorem dX8_hashPairs_67 : decode cX8_hashPairs 67 = .ok (.iconst 2, 1) := by decide +kernel
theorem dX8_hashPairs_68 : decode cX8_hashPairs 68 = .ok (.invokevirtual 361, 3) := by decide +kernel
theorem dX8_hashPairs_71 : decode cX8_hashPairs 71 = .ok (.i2l, 1) := by decide +kernel
theorem dX8_hashPairs_72 : decode cX8_hashPairs 72 = .ok (.ladd, 1) := by decide +kernel
theorem dX8_hashPairs_73 : decode cX8_hashPairs 73 = .ok (.lstore_n 3, 1) := by decide +kernel
theorem dX8_hashPairs_74 : decode cX8_hashPairs 74 = .ok (.ldc2_w 327, 3) := by decide +kernel
theorem dX8_hashPairs_77 : decode cX8_hashPairs 77 = .ok (.lload_n 3, 1) := by decide +kernel
theorem dX8_hashPairs_78 : decode cX8_hashPairs 78 = .ok (.lmul, 1) := by decide +kernel
theorem dX8_hashPairs_79 : decode cX8_hashPairs 79 = .ok (.aload_n 0, 1) := by decide +kernel
theorem dX8_hashPairs_80 : decode cX8_hashPairs 80 = .ok (.iload 5, 2) := by decide +kernel
theorem dX8_hashPairs_82 : decode cX8_hashPairs 82 = .ok (.iload 6, 2) := by decide +kernel
theorem dX8_hashPairs_84 : decode cX8_hashPairs 84 = .ok (.iconst 0, 1) := by decide +kernel
theorem dX8_hashPairs_85 : decode cX8_hashPairs 85 = .ok (.invokevirtual 364, 3) := by decide +kernel
theorem dX8_hashPairs_88 : decode cX8_hashPairs 88 = .ok (.i2l, 1) := by decide +kernel
theorem dX8_hashPairs_89 : decode cX8_hashPairs 89 = .ok (.ladd, 1) := by decide +kernel
theorem dX8_hashPairs_90 : decode cX8_hashPairs 90 = .ok (.lstore_n 3, 1) := by decide +kernel
theorem dX8_hashPairs_91 : decode cX8_hashPairs 91 = .ok (.ldc2_w 327, 3) := by decide +kernel
theorem dX8_hashPairs_94 : decode cX8_hashPairs 94 = .ok (.lload_n 3, 1) := by decide +kernel
theorem dX8_hashPairs_95 : decode cX8_hashPairs 95 = .ok (.lmul, 1) := by decide +kernel
theorem dX8_hashPairs_96 : decode cX8_hashPairs 96 = .ok (.aload_n 0, 1) := by decide +kernel
theorem dX8_hashPairs_97 : decode cX8_hashPairs 97 = .ok (.iload 5, 2) := by decide +kernel
theorem dX8_hashPairs_99 : decode cX8_hashPairs 99 = .ok (.iload 6, 2) := by decide +kernel
theorem dX8_hashPairs_101 : decode cX8_hashPairs 101 = .ok (.iconst 1, 1) := by decide +kernel
theorem dX8_hashPairs_102 : decode cX8_hashPairs 102 = .ok (.invokevirtual 364, 3) := by decide +kernel
theorem dX8_hashPairs_105 : decode cX8_hashPairs 105 = .ok (.i2l, 1) := by decide +kernel
theorem dX8_hashPairs_106 : decode cX8_hashPairs 106 = .ok (.ladd, 1) := by decide +kernel
theorem dX8_hashPairs_107 : decode cX8_hashPairs 107 = .ok (.lstore_n 3, 1) := by decide +kernel
theorem dX8_hashPairs_108 : decode cX8_hashPairs 108 = .ok (.ldc2_w 327, 3) := by decide +kernel
theorem dX8_hashPairs_111 : decode cX8_hashPairs 111 = .ok (.lload_n 3, 1) := by decide +kernel
theorem dX8_hashPairs_112 : decode cX8_hashPairs 112 = .ok (.lmul, 1) := by decide +kernel
theorem dX8_hashPairs_113 : decode cX8_hashPairs 113 = .ok (.aload_n 0, 1) := by decide +kernel
theorem dX8_hashPairs_114 : decode cX8_hashPairs 114 = .ok (.iload 5, 2) := by decide +kernel
theorem dX8_hashPairs_116 : decode cX8_hashPairs 116 = .ok (.iload 6, 2) := by decide +kernel
theorem dX8_hashPairs_118 : decode cX8_hashPairs 118 = .ok (.bipush 100, 2) := by decide +kernel
theorem dX8_hashPairs_120 : decode cX8_hashPairs 120 = .ok (.invokevirtual 367, 3) := by decide +kernel
theorem dX8_hashPairs_123 : decode cX8_hashPairs 123 = .ok (.i2l, 1) := by decide +kernel
theorem dX8_hashPairs_124 : decode cX8_hashPairs 124 = .ok (.ladd, 1) := by decide +kernel
theorem dX8_hashPairs_125 : decode cX8_hashPairs 125 = .ok (.lstore_n 3, 1) := by decide +kernel
theorem dX8_hashPairs_126 : decode cX8_hashPairs 126 = .ok (.iinc 6 1, 3) := by decide +kernel
theorem dX8_hashPairs_129 : decode cX8_hashPairs 129 = .ok (.goto (-112), 3) := by decide +kernel
theorem dX8_hashPairs_132 : decode cX8_hashPairs 132 = .ok (.iinc 5 1, 3) := by decide +kernel
theorem dX8_hashPairs_135 : decode cX8_hashPairs 135 = .ok (.goto (-130), 3) := by decide +kernel
theorem dX8_hashPairs_138 : decode cX8_hashPairs 138 = .ok (.lload_n 3, 1) := by decide +kernel
theorem dX8_hashPairs_139 : decode cX8_hashPairs 139 = .ok (.lreturn, 1) := by decide +kernel
theorem dX8_hashRings_0 : decode cX8_hashRings 0 = .ok (.lload_n 1, 1) := by decide +kernel
theorem dX8_hashRings_1 : decode cX8_hashRings 1 = .ok (.lstore_n 3, 1) := by decide +kernel
theorem dX8_hashRings_2 : decode cX8_hashRings 2 = .ok (.aload_n 0, 1) := by decide +kernel
theorem dX8_hashRings_3 : decode cX8_hashRings 3 = .ok (.getfield 36, 3) := by decide +kernel
theorem dX8_hashRings_6 : decode cX8_hashRings 6 = .ok (.aload_n 0, 1) := by decide +kernel
theorem dX8_hashRings_7 : decode cX8_hashRings 7 = .ok (.getfield 10, 3) := by decide +kernel
theorem dX8_hashRings_10 : decode cX8_hashRings 10 = .ok (.getfield 89, 3) := by decide +kernel
theorem dX8_hashRings_13 : decode cX8_hashRings 13 = .ok (.invokevirtual 114, 3) := by decide +kernel
theorem dX8_hashRings_16 : decode cX8_hashRings 16 = .ok (.istore 5, 2) := by decide +kernel
theorem dX8_hashRings_18 : decode cX8_hashRings 18 = .ok (.iconst 0, 1) := by decide +kernel
theorem dX8_hashRings_19 : decode cX8_hashRings 19 = .ok (.istore 6, 2) := by decide +kernel
theorem dX8_hashRings_21 : decode cX8_hashRings 21 = .ok (.iload 6, 2) := by decide +kernel
theorem dX8_hashRings_23 : decode cX8_hashRings 23 = .ok (.iload 5, 2) := by decide +kernel
theorem dX8_hashRings_25 : decode cX8_hashRings 25 = .ok (.if_icmp .ge 40, 3) := by decide +kernel
theorem dX8_hashRings_28 : decode cX8_hashRings 28 = .ok (.iconst 0, 1) := by decide +kernel
theorem dX8_hashRings_29 : decode cX8_hashRings 29 = .ok (.istore 7, 2) := by decide +kernel
theorem dX8_hashRings_31 : decode cX8_hashRings 31 = .ok (.iload 7, 2) := by decide +kernel
theorem dX8_hashRings_33 : decode cX8_hashRings 33 = .ok (.iconst 3, 1) := by decide +kernel
theorem dX8_hashRings_34 : decode cX8_hashRings 34 = .ok (.if_icmp .gt 25, 3) := by decide +kernel
theorem dX8_hashRings_37 : decode cX8_hashRings 37 = .ok (.ldc2_w 327, 3) := by decide +kernel
theorem dX8_hashRings_40 : decode cX8_hashRings 40 = .ok (.lload_n 3, 1) := by decide +kernel
theorem dX8_hashRings_41 : decode cX8_hashRings 41 = .ok (.lmul, 1) := by decide +kernel
theorem dX8_hashRings_42 : decode cX8_hashRings 42 = .ok (.aload_n 0, 1) := by decide +kernel
theorem dX8_hashRings_43 : decode cX8_hashRings 43 = .ok (.iload 6, 2) := by decide +kernel
theorem dX8_hashRings_45 : decode cX8_hashRings 45 = .ok (.iload 7, 2) := by decide +kernel
theorem dX8_hashRings_47 : decode cX8_hashRings 47 = .ok (.invokevirtual 370, 3) := by decide +kernel
theorem dX8_hashRings_50 : decode cX8_hashRings 50 = .ok (.i2l, 1) := by decide +kernel
theorem dX8_hashRings_51 : decode cX8_hashRings 51 = .ok (.ladd, 1) := by decide +kernel
theorem dX8_hashRings_52 : decode cX8_hashRings 52 = .ok (.lstore_n 3, 1) := by decide +kernel
theorem dX8_hashRings_53 : decode cX8_hashRings 53 = .ok (.iinc 7 1, 3) := by decide +kernel
theorem dX8_hashRings_56 : decode cX8_hashRings 56 = .ok (.goto (-25), 3) := by decide +kernel
theorem dX8_hashRings_59 : decode cX8_hashRings 59 = .ok (.iinc 6 1, 3) := by decide +kernel
theorem dX8_hashRings_62 : decode cX8_hashRings 62 = .ok (.goto (-41), 3) := by decide +kernel
theorem dX8_hashRings_65 : decode cX8_hashRings 65 = .ok (.lload_n 3, 1) := by decide +kernel
theorem dX8_hashRings_66 : decode cX8_hashRings 66 = .ok (.lreturn, 1) := by decide +kernel
theorem dX8_hashBolts_0 : decode cX8_hashBolts 0 = .ok (.lload_n 1, 1) := by decide +kernel
theorem dX8_hashBolts_1 : decode cX8_hashBolts 1 = .ok (.lstore_n 3, 1) := by decide +kernel
theorem dX8_hashBolts_2 : decode cX8_hashBolts 2 = .ok (.aload_n 0, 1) := by decide +kernel
theorem dX8_hashBolts_3 : decode cX8_hashBolts 3 = .ok (.getfield 10, 3) := by decide +kernel
theorem dX8_hashBolts_6 : decode cX8_hashBolts 6 = .ok (.getfield 139, 3) := by decide +kernel
theorem dX8_hashBolts_9 : decode cX8_hashBolts 9 = .ok (.getfield 143, 3) := by decide +kernel
theorem dX8_hashBolts_12 : decode cX8_hashBolts 12 = .ok (.istore 5, 2) := by decide +kernel
theorem dX8_hashBolts_14 : decode cX8_hashBolts 14 = .ok (.iconst 0, 1) := by decide +kernel
theorem dX8_hashBolts_15 : decode cX8_hashBolts 15 = .ok (.istore 6, 2) := by decide +kernel
theorem dX8_hashBolts_17 : decode cX8_hashBolts 17 = .ok (.iload 6, 2) := by decide +kernel
theorem dX8_hashBolts_19 : decode cX8_hashBolts 19 = .ok (.iload 5, 2) := by decide +kernel
theorem dX8_hashBolts_21 : decode cX8_hashBolts 21 = .ok (.if_icmp .ge 40, 3) := by decide +kernel
theorem dX8_hashBolts_24 : decode cX8_hashBolts 24 = .ok (.iconst 0, 1) := by decide +kernel
theorem dX8_hashBolts_25 : decode cX8_hashBolts 25 = .ok (.istore 7, 2) := by decide +kernel
theorem dX8_hashBolts_27 : decode cX8_hashBolts 27 = .ok (.iload 7, 2) := by decide +kernel
theorem dX8_hashBolts_29 : decode cX8_hashBolts 29 = .ok (.iconst 3, 1) := by decide +kernel
theorem dX8_hashBolts_30 : decode cX8_hashBolts 30 = .ok (.if_icmp .gt 25, 3) := by decide +kernel
theorem dX8_hashBolts_33 : decode cX8_hashBolts 33 = .ok (.ldc2_w 327, 3) := by decide +kernel
theorem dX8_hashBolts_36 : decode cX8_hashBolts 36 = .ok (.lload_n 3, 1) := by decide +kernel
theorem dX8_hashBolts_37 : decode cX8_hashBolts 37 = .ok (.lmul, 1) := by decide +kernel
theorem dX8_hashBolts_38 : decode cX8_hashBolts 38 = .ok (.aload_n 0, 1) := by decide +kernel
theorem dX8_hashBolts_39 : decode cX8_hashBolts 39 = .ok (.iload 6, 2) := by decide +kernel
theorem dX8_hashBolts_41 : decode cX8_hashBolts 41 = .ok (.iload 7, 2) := by decide +kernel
theorem dX8_hashBolts_43 : decode cX8_hashBolts 43 = .ok (.invokevirtual 373, 3) := by decide +kernel
theorem dX8_hashBolts_46 : decode cX8_hashBolts 46 = .ok (.i2l, 1) := by decide +kernel
theorem dX8_hashBolts_47 : decode cX8_hashBolts 47 = .ok (.ladd, 1) := by decide +kernel
theorem dX8_hashBolts_48 : decode cX8_hashBolts 48 = .ok (.lstore_n 3, 1) := by decide +kernel
theorem dX8_hashBolts_49 : decode cX8_hashBolts 49 = .ok (.iinc 7 1, 3) := by decide +kernel
theorem dX8_hashBolts_52 : decode cX8_hashBolts 52 = .ok (.goto (-25), 3) := by decide +kernel
theorem dX8_hashBolts_55 : decode cX8_hashBolts 55 = .ok (.iinc 6 1, 3) := by decide +kernel
theorem dX8_hashBolts_58 : decode cX8_hashBolts 58 = .ok (.goto (-41), 3) := by decide +kernel
theorem dX8_hashBolts_61 : decode cX8_hashBolts 61 = .ok (.lload_n 3, 1) := by decide +kernel
theorem dX8_hashBolts_62 : decode cX8_hashBolts 62 = .ok (.lreturn, 1) := by decide +kernel
theorem dX8_bitsOfShare_0 : decode cX8_bitsOfShare 0 = .ok (.dload_n 0, 1) := by decide +kernel
theorem dX8_bitsOfShare_1 : decode cX8_bitsOfShare 1 = .ok (.dconst 0, 1) := by decide +kernel
theorem dX8_bitsOfShare_2 : decode cX8_bitsOfShare 2 = .ok (.dcmp .l, 1) := by decide +kernel
theorem dX8_bitsOfShare_3 : decode cX8_bitsOfShare 3 = .ok (.ifCond .gt 5, 3) := by decide +kernel
theorem dX8_bitsOfShare_6 : decode cX8_bitsOfShare 6 = .ok (.lconst 0, 1) := by decide +kernel
theorem dX8_bitsOfShare_7 : decode cX8_bitsOfShare 7 = .ok (.lreturn, 1) := by decide +kernel
theorem dX8_bitsOfShare_8 : decode cX8_bitsOfShare 8 = .ok (.dload_n 0, 1) := by decide +kernel
theorem dX8_bitsOfShare_9 : decode cX8_bitsOfShare 9 = .ok (.dstore_n 2, 1) := by decide +kernel
theorem dX8_bitsOfShare_10 : decode cX8_bitsOfShare 10 = .ok (.ldc2_w 376, 3) := by decide +kernel
theorem dX8_bitsOfShare_13 : decode cX8_bitsOfShare 13 = .ok (.lstore 4, 2) := by decide +kernel
theorem dX8_bitsOfShare_15 : decode cX8_bitsOfShare 15 = .ok (.iconst 0, 1) := by decide +kernel
theorem dX8_bitsOfShare_16 : decode cX8_bitsOfShare 16 = .ok (.istore 6, 2) := by decide +kernel
theorem dX8_bitsOfShare_18 : decode cX8_bitsOfShare 18 = .ok (.iload 6, 2) := by decide +kernel
theorem dX8_bitsOfShare_20 : decode cX8_bitsOfShare 20 = .ok (.sipush 1000, 3) := by decide +kernel
theorem dX8_bitsOfShare_23 : decode cX8_bitsOfShare 23 = .ok (.if_icmp .ge 27, 3) := by decide +kernel
theorem dX8_bitsOfShare_26 : decode cX8_bitsOfShare 26 = .ok (.dload_n 2, 1) := by decide +kernel
theorem dX8_bitsOfShare_27 : decode cX8_bitsOfShare 27 = .ok (.dconst 1, 1) := by decide +kernel
theorem dX8_bitsOfShare_28 : decode cX8_bitsOfShare 28 = .ok (.dcmp .g, 1) := by decide +kernel
theorem dX8_bitsOfShare_29 : decode cX8_bitsOfShare 29 = .ok (.ifCond .ge 21, 3) := by decide +kernel
theorem dX8_bitsOfShare_32 : decode cX8_bitsOfShare 32 = .ok (.dload_n 2, 1) := by decide +kernel
theorem dX8_bitsOfShare_33 : decode cX8_bitsOfShare 33 = .ok (.ldc2_w 378, 3) := by decide +kernel
theorem dX8_bitsOfShare_36 : decode cX8_bitsOfShare 36 = .ok (.dmul, 1) := by decide +kernel
theorem dX8_bitsOfShare_37 : decode cX8_bitsOfShare 37 = .ok (.dstore_n 2, 1) := by decide +kernel
theorem dX8_bitsOfShare_38 : decode cX8_bitsOfShare 38 = .ok (.lload 4, 2) := by decide +kernel
theorem dX8_bitsOfShare_40 : decode cX8_bitsOfShare 40 = .ok (.lconst 1, 1) := by decide +kernel
theorem dX8_bitsOfShare_41 : decode cX8_bitsOfShare 41 = .ok (.lsub, 1) := by decide +kernel
theorem dX8_bitsOfShare_42 : decode cX8_bitsOfShare 42 = .ok (.lstore 4, 2) := by decide +kernel
theorem dX8_bitsOfShare_44 : decode cX8_bitsOfShare 44 = .ok (.iinc 6 1, 3) := by decide +kernel
theorem dX8_bitsOfShare_47 : decode cX8_bitsOfShare 47 = .ok (.goto (-29), 3) := by decide +kernel
theorem dX8_bitsOfShare_50 : decode cX8_bitsOfShare 50 = .ok (.dload_n 2, 1) := by decide +kernel
theorem dX8_bitsOfShare_51 : decode cX8_bitsOfShare 51 = .ok (.ldc2_w 380, 3) := by decide +kernel
theorem dX8_bitsOfShare_54 : decode cX8_bitsOfShare 54 = .ok (.dmul, 1) := by decide +kernel
theorem dX8_bitsOfShare_55 : decode cX8_bitsOfShare 55 = .ok (.d2l, 1) := by decide +kernel
theorem dX8_bitsOfShare_56 : decode cX8_bitsOfShare 56 = .ok (.lstore 6, 2) := by decide +kernel
theorem dX8_bitsOfShare_58 : decode cX8_bitsOfShare 58 = .ok (.lload 4, 2) := by decide +kernel
theorem dX8_bitsOfShare_60 : decode cX8_bitsOfShare 60 = .ok (.bipush 52, 2) := by decide +kernel
theorem dX8_bitsOfShare_62 : decode cX8_bitsOfShare 62 = .ok (.lshl, 1) := by decide +kernel
theorem dX8_bitsOfShare_63 : decode cX8_bitsOfShare 63 = .ok (.lload 6, 2) := by decide +kernel
theorem dX8_bitsOfShare_65 : decode cX8_bitsOfShare 65 = .ok (.ldc2_w 382, 3) := by decide +kernel
theorem dX8_bitsOfShare_68 : decode cX8_bitsOfShare 68 = .ok (.lsub, 1) := by decide +kernel
theorem dX8_bitsOfShare_69 : decode cX8_bitsOfShare 69 = .ok (.ladd, 1) := by decide +kernel
theorem dX8_bitsOfShare_70 : decode cX8_bitsOfShare 70 = .ok (.lreturn, 1) := by decide +kernel
theorem dX8_doPart_0 : decode cX8_doPart 0 = .ok (.aload_n 0, 1) := by decide +kernel
theorem dX8_doPart_1 : decode cX8_doPart 1 = .ok (.getfield 54, 3) := by decide +kernel
theorem dX8_doPart_4 : decode cX8_doPart 4 = .ok (.iconst 0, 1) := by decide +kernel
theorem dX8_doPart_5 : decode cX8_doPart 5 = .ok (.invokestatic 77, 3) := by decide +kernel
theorem dX8_doPart_8 : decode cX8_doPart 8 = .ok (.istore_n 2, 1) := by decide +kernel
theorem dX8_doPart_9 : decode cX8_doPart 9 = .ok (.aload_n 0, 1) := by decide +kernel
theorem dX8_doPart_10 : decode cX8_doPart 10 = .ok (.getfield 54, 3) := by decide +kernel
theorem dX8_doPart_13 : decode cX8_doPart 13 = .ok (.iconst 1, 1) := by decide +kernel
theorem dX8_doPart_14 : decode cX8_doPart 14 = .ok (.invokestatic 77, 3) := by decide +kernel
theorem dX8_doPart_17 : decode cX8_doPart 17 = .ok (.istore_n 3, 1) := by decide +kernel
theorem dX8_doPart_18 : decode cX8_doPart 18 = .ok (.iload_n 1, 1) := by decide +kernel
theorem dX8_doPart_19 : decode cX8_doPart 19 = .ok (.lookupswitch 54 #[(45, 33), (98, 40), (115, 47)], 33) := by decide +kernel
theorem dX8_doPart_52 : decode cX8_doPart 52 = .ok (.aload_n 0, 1) := by decide +kernel
theorem dX8_doPart_53 : decode cX8_doPart 53 = .ok (.iload_n 2, 1) := by decide +kernel
theorem dX8_doPart_54 : decode cX8_doPart 54 = .ok (.iload_n 3, 1) := by decide +kernel
theorem dX8_doPart_55 : decode cX8_doPart 55 = .ok (.invokevirtual 384, 3) := by decide +kernel
theorem dX8_doPart_58 : decode cX8_doPart 58 = .ok (.ireturn, 1) := by decide +kernel
theorem dX8_doPart_59 : decode cX8_doPart 59 = .ok (.aload_n 0, 1) := by decide +kernel
theorem dX8_doPart_60 : decode cX8_doPart 60 = .ok (.iload_n 2, 1) := by decide +kernel
theorem dX8_doPart_61 : decode cX8_doPart 61 = .ok (.iload_n 3, 1) := by decide +kernel
theorem dX8_doPart_62 : decode cX8_doPart 62 = .ok (.invokevirtual 387, 3) := by decide +kernel
theorem dX8_doPart_65 : decode cX8_doPart 65 = .ok (.ireturn, 1) := by decide +kernel
theorem dX8_doPart_66 : decode cX8_doPart 66 = .ok (.aload_n 0, 1) := by decide +kernel
theorem dX8_doPart_67 : decode cX8_doPart 67 = .ok (.iload_n 2, 1) := by decide +kernel
theorem dX8_doPart_68 : decode cX8_doPart 68 = .ok (.iload_n 3, 1) := by decide +kernel
theorem dX8_doPart_69 : decode cX8_doPart 69 = .ok (.invokevirtual 390, 3) := by decide +kernel
theorem dX8_doPart_72 : decode cX8_doPart 72 = .ok (.ireturn, 1) := by decide +kernel
theorem dX8_doPart_73 : decode cX8_doPart 73 = .ok (.aload_n 0, 1) := by decide +kernel
theorem dX8_doPart_74 : decode cX8_doPart 74 = .ok (.iload_n 2, 1) := by decide +kernel
theorem dX8_doPart_75 : decode cX8_doPart 75 = .ok (.iload_n 3, 1) := by decide +kernel
theorem dX8_doPart_76 : decode cX8_doPart 76 = .ok (.aload_n 0, 1) := by decide +kernel
theorem dX8_doPart_77 : decode cX8_doPart 77 = .ok (.getfield 54, 3) := by decide +kernel
theorem dX8_doPart_80 : decode cX8_doPart 80 = .ok (.iconst 2, 1) := by decide +kernel
theorem dX8_doPart_81 : decode cX8_doPart 81 = .ok (.invokestatic 77, 3) := by decide +kernel
theorem dX8_doPart_84 : decode cX8_doPart 84 = .ok (.aload_n 0, 1) := by decide +kernel
theorem dX8_doPart_85 : decode cX8_doPart 85 = .ok (.getfield 54, 3) := by decide +kernel
theorem dX8_doPart_88 : decode cX8_doPart 88 = .ok (.iconst 3, 1) := by decide +kernel
theorem dX8_doPart_89 : decode cX8_doPart 89 = .ok (.invokestatic 77, 3) := by decide +kernel
theorem dX8_doPart_92 : decode cX8_doPart 92 = .ok (.invokevirtual 393, 3) := by decide +kernel
theorem dX8_doPart_95 : decode cX8_doPart 95 = .ok (.ireturn, 1) := by decide +kernel
theorem dX8_doTable_0 : decode cX8_doTable 0 = .ok (.iload_n 1, 1) := by decide +kernel
theorem dX8_doTable_1 : decode cX8_doTable 1 = .ok (.iload_n 2, 1) := by decide +kernel
theorem dX8_doTable_2 : decode cX8_doTable 2 = .ok (.if_icmp .ne 5, 3) := by decide +kernel
theorem dX8_doTable_5 : decode cX8_doTable 5 = .ok (.iconst 4, 1) := by decide +kernel
theorem dX8_doTable_6 : decode cX8_doTable 6 = .ok (.ireturn, 1) := by decide +kernel
theorem dX8_doTable_7 : decode cX8_doTable 7 = .ok (.aload_n 0, 1) := by decide +kernel
theorem dX8_doTable_8 : decode cX8_doTable 8 = .ok (.getfield 36, 3) := by decide +kernel
theorem dX8_doTable_11 : decode cX8_doTable 11 = .ok (.aload_n 0, 1) := by decide +kernel
theorem dX8_doTable_12 : decode cX8_doTable 12 = .ok (.getfield 10, 3) := by decide +kernel
theorem dX8_doTable_15 : decode cX8_doTable 15 = .ok (.getfield 89, 3) := by decide +kernel
theorem dX8_doTable_18 : decode cX8_doTable 18 = .ok (.iload_n 1, 1) := by decide +kernel
theorem dX8_doTable_19 : decode cX8_doTable 19 = .ok (.iload_n 2, 1) := by decide +kernel
theorem dX8_doTable_20 : decode cX8_doTable 20 = .ok (.iload_n 3, 1) := by decide +kernel
theorem dX8_doTable_21 : decode cX8_doTable 21 = .ok (.iload 4, 2) := by decide +kernel
theorem dX8_doTable_23 : decode cX8_doTable 23 = .ok (.aload_n 0, 1) := by decide +kernel
theorem dX8_doTable_24 : decode cX8_doTable 24 = .ok (.invokevirtual 93, 3) := by decide +kernel
theorem dX8_doTable_27 : decode cX8_doTable 27 = .ok (.invokevirtual 97, 3) := by decide +kernel
theorem dX8_doTable_30 : decode cX8_doTable 30 = .ok (.ifCond .lt 5, 3) := by decide +kernel
theorem dX8_doTable_33 : decode cX8_doTable 33 = .ok (.iconst 5, 1) := by decide +kernel
theorem dX8_doTable_34 : decode cX8_doTable 34 = .ok (.ireturn, 1) := by decide +kernel
theorem dX8_doTable_35 : decode cX8_doTable 35 = .ok (.aload_n 0, 1) := by decide +kernel
theorem dX8_doTable_36 : decode cX8_doTable 36 = .ok (.getfield 10, 3) := by decide +kernel
theorem dX8_doTable_39 : decode cX8_doTable 39 = .ok (.getfield 89, 3) := by decide +kernel
theorem dX8_doTable_42 : decode cX8_doTable 42 = .ok (.iload_n 1, 1) := by decide +kernel
theorem dX8_doTable_43 : decode cX8_doTable 43 = .ok (.iload_n 2, 1) := by decide +kernel
theorem dX8_doTable_44 : decode cX8_doTable 44 = .ok (.iload_n 3, 1) := by decide +kernel
theorem dX8_doTable_45 : decode cX8_doTable 45 = .ok (.iload 4, 2) := by decide +kernel
theorem dX8_doTable_47 : decode cX8_doTable 47 = .ok (.invokevirtual 108, 3) := by decide +kernel
theorem dX8_doTable_50 : decode cX8_doTable 50 = .ok (.iconst 0, 1) := by decide +kernel
theorem dX8_doTable_51 : decode cX8_doTable 51 = .ok (.ireturn, 1) := by decide +kernel
theorem dX8_doDrop_0 : decode cX8_doDrop 0 = .ok (.iload_n 1, 1) := by decide +kernel
theorem dX8_doDrop_1 : decode cX8_doDrop 1 = .ok (.iload_n 2, 1) := by decide +kernel
theorem dX8_doDrop_2 : decode cX8_doDrop 2 = .ok (.if_icmp .ne 5, 3) := by decide +kernel
theorem dX8_doDrop_5 : decode cX8_doDrop 5 = .ok (.iconst 4, 1) := by decide +kernel
theorem dX8_doDrop_6 : decode cX8_doDrop 6 = .ok (.ireturn, 1) := by decide +kernel
theorem dX8_doDrop_7 : decode cX8_doDrop 7 = .ok (.aload_n 0, 1) := by decide +kernel
theorem dX8_doDrop_8 : decode cX8_doDrop 8 = .ok (.getfield 10, 3) := by decide +kernel
theorem dX8_doDrop_11 : decode cX8_doDrop 11 = .ok (.getfield 89, 3) := by decide +kernel
theorem dX8_doDrop_14 : decode cX8_doDrop 14 = .ok (.iload_n 1, 1) := by decide +kernel
theorem dX8_doDrop_15 : decode cX8_doDrop 15 = .ok (.iload_n 2, 1) := by decide +kernel
theorem dX8_doDrop_16 : decode cX8_doDrop 16 = .ok (.invokevirtual 118, 3) := by decide +kernel
theorem dX8_doDrop_19 : decode cX8_doDrop 19 = .ok (.ifCond .ne 6, 3) := by decide +kernel
theorem dX8_doDrop_22 : decode cX8_doDrop 22 = .ok (.bipush 6, 2) := by decide +kernel
theorem dX8_doDrop_24 : decode cX8_doDrop 24 = .ok (.ireturn, 1) := by decide +kernel
theorem dX8_doDrop_25 : decode cX8_doDrop 25 = .ok (.aload_n 0, 1) := by decide +kernel
theorem dX8_doDrop_26 : decode cX8_doDrop 26 = .ok (.getfield 10, 3) := by decide +kernel
theorem dX8_doDrop_29 : decode cX8_doDrop 29 = .ok (.getfield 89, 3) := by decide +kernel
theorem dX8_doDrop_32 : decode cX8_doDrop 32 = .ok (.iload_n 1, 1) := by decide +kernel
theorem dX8_doDrop_33 : decode cX8_doDrop 33 = .ok (.iload_n 2, 1) := by decide +kernel
theorem dX8_doDrop_34 : decode cX8_doDrop 34 = .ok (.iconst 0, 1) := by decide +kernel
theorem dX8_doDrop_35 : decode cX8_doDrop 35 = .ok (.iconst 0, 1) := by decide +kernel
theorem dX8_doDrop_36 : decode cX8_doDrop 36 = .ok (.invokevirtual 108, 3) := by decide +kernel
theorem dX8_doDrop_39 : decode cX8_doDrop 39 = .ok (.iconst 0, 1) := by decide +kernel
theorem dX8_doDrop_40 : decode cX8_doDrop 40 = .ok (.ireturn, 1) := by decide +kernel
theorem dX8_doBolt_0 : decode cX8_doBolt 0 = .ok (.aload_n 0, 1) := by decide +kernel
theorem dX8_doBolt_1 : decode cX8_doBolt 1 = .ok (.getfield 10, 3) := by decide +kernel
theorem dX8_doBolt_4 : decode cX8_doBolt 4 = .ok (.getfield 139, 3) := by decide +kernel
theorem dX8_doBolt_7 : decode cX8_doBolt 7 = .ok (.getfield 143, 3) := by decide +kernel
theorem dX8_doBolt_10 : decode cX8_doBolt 10 = .ok (.bipush 8, 2) := by decide +kernel
theorem dX8_doBolt_12 : decode cX8_doBolt 12 = .ok (.if_icmp .lt 6, 3) := by decide +kernel
theorem dX8_doBolt_15 : decode cX8_doBolt 15 = .ok (.bipush 8, 2) := by decide +kernel
theorem dX8_doBolt_17 : decode cX8_doBolt 17 = .ok (.ireturn, 1) := by decide +kernel
theorem dX8_doBolt_18 : decode cX8_doBolt 18 = .ok (.aload_n 0, 1) := by decide +kernel
theorem dX8_doBolt_19 : decode cX8_doBolt 19 = .ok (.getfield 10, 3) := by decide +kernel
theorem dX8_doBolt_22 : decode cX8_doBolt 22 = .ok (.getfield 139, 3) := by decide +kernel
theorem dX8_doBolt_25 : decode cX8_doBolt 25 = .ok (.iload_n 1, 1) := by decide +kernel
theorem dX8_doBolt_26 : decode cX8_doBolt 26 = .ok (.iload_n 2, 1) := by decide +kernel
theorem dX8_doBolt_27 : decode cX8_doBolt 27 = .ok (.invokevirtual 151, 3) := by decide +kernel
theorem dX8_doBolt_30 : decode cX8_doBolt 30 = .ok (.iconst 0, 1) := by decide +kernel
theorem dX8_doBolt_31 : decode cX8_doBolt 31 = .ok (.ireturn, 1) := by decide +kernel
theorem dX8_doSend_0 : decode cX8_doSend 0 = .ok (.aload_n 0, 1) := by decide +kernel
theorem dX8_doSend_1 : decode cX8_doSend 1 = .ok (.getfield 10, 3) := by decide +kernel
theorem dX8_doSend_4 : decode cX8_doSend 4 = .ok (.getfield 139, 3) := by decide +kernel
theorem dX8_doSend_7 : decode cX8_doSend 7 = .ok (.iload_n 1, 1) := by decide +kernel
theorem dX8_doSend_8 : decode cX8_doSend 8 = .ok (.invokevirtual 396, 3) := by decide +kernel
theorem dX8_doSend_11 : decode cX8_doSend 11 = .ok (.ifCond .ne 6, 3) := by decide +kernel
theorem dX8_doSend_14 : decode cX8_doSend 14 = .ok (.bipush 7, 2) := by decide +kernel
theorem dX8_doSend_16 : decode cX8_doSend 16 = .ok (.ireturn, 1) := by decide +kernel
theorem dX8_doSend_17 : decode cX8_doSend 17 = .ok (.aload_n 0, 1) := by decide +kernel
theorem dX8_doSend_18 : decode cX8_doSend 18 = .ok (.iload_n 1, 1) := by decide +kernel
theorem dX8_doSend_19 : decode cX8_doSend 19 = .ok (.iload_n 2, 1) := by decide +kernel
theorem dX8_doSend_20 : decode cX8_doSend 20 = .ok (.invokevirtual 157, 3) := by decide +kernel
theorem dX8_doSend_23 : decode cX8_doSend 23 = .ok (.istore_n 3, 1) := by decide +kernel
theorem dX8_doSend_24 : decode cX8_doSend 24 = .ok (.iload_n 3, 1) := by decide +kernel
theorem dX8_doSend_25 : decode cX8_doSend 25 = .ok (.ifCond .ne 9, 3) := by decide +kernel
theorem dX8_doSend_28 : decode cX8_doSend 28 = .ok (.aload_n 0, 1) := by decide +kernel
theorem dX8_doSend_29 : decode cX8_doSend 29 = .ok (.iload_n 1, 1) := by decide +kernel
theorem dX8_doSend_30 : decode cX8_doSend 30 = .ok (.iload_n 2, 1) := by decide +kernel
theorem dX8_doSend_31 : decode cX8_doSend 31 = .ok (.invokevirtual 163, 3) := by decide +kernel
theorem dX8_doSend_34 : decode cX8_doSend 34 = .ok (.iload_n 3, 1) := by decide +kernel
theorem dX8_doSend_35 : decode cX8_doSend 35 = .ok (.ireturn, 1) := by decide +kernel
theorem dX8_whyNoSend_0 : decode cX8_whyNoSend 0 = .ok (.aload_n 0, 1) := by decide +kernel
theorem dX8_whyNoSend_1 : decode cX8_whyNoSend 1 = .ok (.getfield 10, 3) := by decide +kernel
theorem dX8_whyNoSend_4 : decode cX8_whyNoSend 4 = .ok (.getfield 139, 3) := by decide +kernel
theorem dX8_whyNoSend_7 : decode cX8_whyNoSend 7 = .ok (.getfield 169, 3) := by decide +kernel
theorem dX8_whyNoSend_10 : decode cX8_whyNoSend 10 = .ok (.iload_n 1, 1) := by decide +kernel
theorem dX8_whyNoSend_11 : decode cX8_whyNoSend 11 = .ok (.invokestatic 77, 3) := by decide +kernel
theorem dX8_whyNoSend_14 : decode cX8_whyNoSend 14 = .ok (.istore_n 3, 1) := by decide +kernel
theorem dX8_whyNoSend_15 : decode cX8_whyNoSend 15 = .ok (.iload_n 3, 1) := by decide +kernel
theorem dX8_whyNoSend_16 : decode cX8_whyNoSend 16 = .ok (.iload_n 2, 1) := by decide +kernel
theorem dX8_whyNoSend_17 : decode cX8_whyNoSend 17 = .ok (.if_icmp .ne 5, 3) := by decide +kernel
theorem dX8_whyNoSend_20 : decode cX8_whyNoSend 20 = .ok (.iconst 1, 1) := by decide +kernel
theorem dX8_whyNoSend_21 : decode cX8_whyNoSend 21 = .ok (.ireturn, 1) := by decide +kernel
theorem dX8_whyNoSend_22 : decode cX8_whyNoSend 22 = .ok (.aload_n 0, 1) := by decide +kernel
theorem dX8_whyNoSend_23 : decode cX8_whyNoSend 23 = .ok (.getfield 10, 3) := by decide +kernel
theorem dX8_whyNoSend_26 : decode cX8_whyNoSend 26 = .ok (.getfield 89, 3) := by decide +kernel
theorem dX8_whyNoSend_29 : decode cX8_whyNoSend 29 = .ok (.iload_n 3, 1) := by decide +kernel
theorem dX8_whyNoSend_30 : decode cX8_whyNoSend 30 = .ok (.iload_n 2, 1) := by decide +kernel
theorem dX8_whyNoSend_31 : decode cX8_whyNoSend 31 = .ok (.invokevirtual 118, 3) := by decide +kernel
theorem dX8_whyNoSend_34 : decode cX8_whyNoSend 34 = .ok (.ifCond .ne 5, 3) := by decide +kernel
theorem dX8_whyNoSend_37 : decode cX8_whyNoSend 37 = .ok (.iconst 2, 1) := by decide +kernel
theorem dX8_whyNoSend_38 : decode cX8_whyNoSend 38 = .ok (.ireturn, 1) := by decide +kernel
theorem dX8_whyNoSend_39 : decode cX8_whyNoSend 39 = .ok (.aload_n 0, 1) := by decide +kernel
theorem dX8_whyNoSend_40 : decode cX8_whyNoSend 40 = .ok (.iload_n 1, 1) := by decide +kernel
theorem dX8_whyNoSend_41 : decode cX8_whyNoSend 41 = .ok (.iload_n 2, 1) := by decide +kernel
theorem dX8_whyNoSend_42 : decode cX8_whyNoSend 42 = .ok (.invokevirtual 399, 3) := by decide +kernel
theorem dX8_whyNoSend_45 : decode cX8_whyNoSend 45 = .ok (.ldc2_w 403, 3) := by decide +kernel
theorem dX8_whyNoSend_48 : decode cX8_whyNoSend 48 = .ok (.lcmp, 1) := by decide +kernel
theorem dX8_whyNoSend_49 : decode cX8_whyNoSend 49 = .ok (.ifCond .le 7, 3) := by decide +kernel
theorem dX8_whyNoSend_52 : decode cX8_whyNoSend 52 = .ok (.iconst 3, 1) := by decide +kernel
theorem dX8_whyNoSend_53 : decode cX8_whyNoSend 53 = .ok (.goto 4, 3) := by decide +kernel
theorem dX8_whyNoSend_56 : decode cX8_whyNoSend 56 = .ok (.iconst 0, 1) := by decide +kernel
theorem dX8_whyNoSend_57 : decode cX8_whyNoSend 57 = .ok (.ireturn, 1) := by decide +kernel
theorem dX8_lengthSent_0 : decode cX8_lengthSent 0 = .ok (.aload_n 0, 1) := by decide +kernel
theorem dX8_lengthSent_1 : decode cX8_lengthSent 1 = .ok (.getfield 10, 3) := by decide +kernel
theorem dX8_lengthSent_4 : decode cX8_lengthSent 4 = .ok (.getfield 139, 3) := by decide +kernel
theorem dX8_lengthSent_7 : decode cX8_lengthSent 7 = .ok (.getfield 169, 3) := by decide +kernel
theorem dX8_lengthSent_10 : decode cX8_lengthSent 10 = .ok (.iload_n 1, 1) := by decide +kernel
theorem dX8_lengthSent_11 : decode cX8_lengthSent 11 = .ok (.invokestatic 77, 3) := by decide +kernel
theorem dX8_lengthSent_14 : decode cX8_lengthSent 14 = .ok (.istore_n 3, 1) := by decide +kernel
theorem dX8_lengthSent_15 : decode cX8_lengthSent 15 = .ok (.aload_n 0, 1) := by decide +kernel
theorem dX8_lengthSent_16 : decode cX8_lengthSent 16 = .ok (.getfield 10, 3) := by decide +kernel
theorem dX8_lengthSent_19 : decode cX8_lengthSent 19 = .ok (.getfield 139, 3) := by decide +kernel
theorem dX8_lengthSent_22 : decode cX8_lengthSent 22 = .ok (.getfield 166, 3) := by decide +kernel
theorem dX8_lengthSent_25 : decode cX8_lengthSent 25 = .ok (.iload_n 1, 1) := by decide +kernel
theorem dX8_lengthSent_26 : decode cX8_lengthSent 26 = .ok (.invokestatic 77, 3) := by decide +kernel
theorem dX8_lengthSent_29 : decode cX8_lengthSent 29 = .ok (.istore 4, 2) := by decide +kernel
theorem dX8_lengthSent_31 : decode cX8_lengthSent 31 = .ok (.iload 4, 2) := by decide +kernel
theorem dX8_lengthSent_33 : decode cX8_lengthSent 33 = .ok (.i2l, 1) := by decide +kernel
theorem dX8_lengthSent_34 : decode cX8_lengthSent 34 = .ok (.aload_n 0, 1) := by decide +kernel
theorem dX8_lengthSent_35 : decode cX8_lengthSent 35 = .ok (.getfield 10, 3) := by decide +kernel
theorem dX8_lengthSent_38 : decode cX8_lengthSent 38 = .ok (.getfield 89, 3) := by decide +kernel
theorem dX8_lengthSent_41 : decode cX8_lengthSent 41 = .ok (.iload_n 3, 1) := by decide +kernel
theorem dX8_lengthSent_42 : decode cX8_lengthSent 42 = .ok (.iload_n 2, 1) := by decide +kernel
theorem dX8_lengthSent_43 : decode cX8_lengthSent 43 = .ok (.invokevirtual 236, 3) := by decide +kernel
theorem dX8_lengthSent_46 : decode cX8_lengthSent 46 = .ok (.aload_n 0, 1) := by decide +kernel
theorem dX8_lengthSent_47 : decode cX8_lengthSent 47 = .ok (.getfield 10, 3) := by decide +kernel
theorem dX8_lengthSent_50 : decode cX8_lengthSent 50 = .ok (.getfield 89, 3) := by decide +kernel
theorem dX8_lengthSent_53 : decode cX8_lengthSent 53 = .ok (.iload_n 2, 1) := by decide +kernel
theorem dX8_lengthSent_54 : decode cX8_lengthSent 54 = .ok (.iload_n 3, 1) := by decide +kernel
theorem dX8_lengthSent_55 : decode cX8_lengthSent 55 = .ok (.invokevirtual 236, 3) := by decide +kernel
theorem dX8_lengthSent_58 : decode cX8_lengthSent 58 = .ok (.aload_n 0, 1) := by decide +kernel
theorem dX8_lengthSent_59 : decode cX8_lengthSent 59 = .ok (.invokevirtual 295, 3) := by decide +kernel
theorem dX8_lengthSent_62 : decode cX8_lengthSent 62 = .ok (.invokestatic 298, 3) := by decide +kernel
theorem dX8_lengthSent_65 : decode cX8_lengthSent 65 = .ok (.lreturn, 1) := by decide +kernel
theorem dX8_moveBolt_0 : decode cX8_moveBolt 0 = .ok (.aload_n 0, 1) := by decide +kernel
theorem dX8_moveBolt_1 : decode cX8_moveBolt 1 = .ok (.getfield 10, 3) := by decide +kernel
theorem dX8_moveBolt_4 : decode cX8_moveBolt 4 = .ok (.getfield 139, 3) := by decide +kernel
theorem dX8_moveBolt_7 : decode cX8_moveBolt 7 = .ok (.getfield 169, 3) := by decide +kernel
theorem dX8_moveBolt_10 : decode cX8_moveBolt 10 = .ok (.iload_n 1, 1) := by decide +kernel
theorem dX8_moveBolt_11 : decode cX8_moveBolt 11 = .ok (.invokestatic 77, 3) := by decide +kernel
theorem dX8_moveBolt_14 : decode cX8_moveBolt 14 = .ok (.istore_n 3, 1) := by decide +kernel
theorem dX8_moveBolt_15 : decode cX8_moveBolt 15 = .ok (.aload_n 0, 1) := by decide +kernel
theorem dX8_moveBolt_16 : decode cX8_moveBolt 16 = .ok (.getfield 10, 3) := by decide +kernel
theorem dX8_moveBolt_19 : decode cX8_moveBolt 19 = .ok (.getfield 139, 3) := by decide +kernel
theorem dX8_moveBolt_22 : decode cX8_moveBolt 22 = .ok (.getfield 166, 3) := by decide +kernel
theorem dX8_moveBolt_25 : decode cX8_moveBolt 25 = .ok (.iload_n 1, 1) := by decide +kernel
theorem dX8_moveBolt_26 : decode cX8_moveBolt 26 = .ok (.invokestatic 77, 3) := by decide +kernel
theorem dX8_moveBolt_29 : decode cX8_moveBolt 29 = .ok (.istore 4, 2) := by decide +kernel
theorem dX8_moveBolt_31 : decode cX8_moveBolt 31 = .ok (.aload_n 0, 1) := by decide +kernel
theorem dX8_moveBolt_32 : decode cX8_moveBolt 32 = .ok (.iload_n 1, 1) := by decide +kernel
theorem dX8_moveBolt_33 : decode cX8_moveBolt 33 = .ok (.iload_n 2, 1) := by decide +kernel
theorem dX8_moveBolt_34 : decode cX8_moveBolt 34 = .ok (.invokevirtual 399, 3) := by decide +kernel
theorem dX8_moveBolt_37 : decode cX8_moveBolt 37 = .ok (.lstore 5, 2) := by decide +kernel
theorem dX8_moveBolt_39 : decode cX8_moveBolt 39 = .ok (.iload 4, 2) := by decide +kernel
theorem dX8_moveBolt_41 : decode cX8_moveBolt 41 = .ok (.i2l, 1) := by decide +kernel
theorem dX8_moveBolt_42 : decode cX8_moveBolt 42 = .ok (.lload 5, 2) := by decide +kernel
theorem dX8_moveBolt_44 : decode cX8_moveBolt 44 = .ok (.aload_n 0, 1) := by decide +kernel
theorem dX8_moveBolt_45 : decode cX8_moveBolt 45 = .ok (.getfield 10, 3) := by decide +kernel
theorem dX8_moveBolt_48 : decode cX8_moveBolt 48 = .ok (.getfield 89, 3) := by decide +kernel
theorem dX8_moveBolt_51 : decode cX8_moveBolt 51 = .ok (.iload_n 3, 1) := by decide +kernel
theorem dX8_moveBolt_52 : decode cX8_moveBolt 52 = .ok (.iload_n 2, 1) := by decide +kernel
theorem dX8_moveBolt_53 : decode cX8_moveBolt 53 = .ok (.invokevirtual 236, 3) := by decide +kernel
theorem dX8_moveBolt_56 : decode cX8_moveBolt 56 = .ok (.aload_n 0, 1) := by decide +kernel
theorem dX8_moveBolt_57 : decode cX8_moveBolt 57 = .ok (.getfield 10, 3) := by decide +kernel
theorem dX8_moveBolt_60 : decode cX8_moveBolt 60 = .ok (.getfield 89, 3) := by decide +kernel
theorem dX8_moveBolt_63 : decode cX8_moveBolt 63 = .ok (.iload_n 2, 1) := by decide +kernel
theorem dX8_moveBolt_64 : decode cX8_moveBolt 64 = .ok (.iload_n 3, 1) := by decide +kernel
theorem dX8_moveBolt_65 : decode cX8_moveBolt 65 = .ok (.invokevirtual 236, 3) := by decide +kernel
theorem dX8_moveBolt_68 : decode cX8_moveBolt 68 = .ok (.invokestatic 405, 3) := by decide +kernel
theorem dX8_moveBolt_71 : decode cX8_moveBolt 71 = .ok (.lstore 7, 2) := by decide +kernel
theorem dX8_moveBolt_73 : decode cX8_moveBolt 73 = .ok (.aload_n 0, 1) := by decide +kernel
theorem dX8_moveBolt_74 : decode cX8_moveBolt 74 = .ok (.getfield 10, 3) := by decide +kernel
theorem dX8_moveBolt_77 : decode cX8_moveBolt 77 = .ok (.getfield 139, 3) := by decide +kernel
theorem dX8_moveBolt_80 : decode cX8_moveBolt 80 = .ok (.iload_n 1, 1) := by decide +kernel
theorem dX8_moveBolt_81 : decode cX8_moveBolt 81 = .ok (.iload_n 2, 1) := by decide +kernel
theorem dX8_moveBolt_82 : decode cX8_moveBolt 82 = .ok (.lload 5, 2) := by decide +kernel
theorem dX8_moveBolt_84 : decode cX8_moveBolt 84 = .ok (.l2i, 1) := by decide +kernel
theorem dX8_moveBolt_85 : decode cX8_moveBolt 85 = .ok (.lload 7, 2) := by decide +kernel
theorem dX8_moveBolt_87 : decode cX8_moveBolt 87 = .ok (.l2i, 1) := by decide +kernel
theorem dX8_moveBolt_88 : decode cX8_moveBolt 88 = .ok (.invokevirtual 409, 3) := by decide +kernel
theorem dX8_moveBolt_91 : decode cX8_moveBolt 91 = .ok (.return_, 1) := by decide +kernel
theorem dX8_bound_0 : decode cX8_bound 0 = .ok (.aload_n 0, 1) := by decide +kernel
theorem dX8_bound_1 : decode cX8_bound 1 = .ok (.getfield 10, 3) := by decide +kernel
theorem dX8_bound_4 : decode cX8_bound 4 = .ok (.getfield 136, 3) := by decide +kernel
theorem dX8_bound_7 : decode cX8_bound 7 = .ok (.iconst 0, 1) := by decide +kernel
theorem dX8_bound_8 : decode cX8_bound 8 = .ok (.invokestatic 77, 3) := by decide +kernel
theorem dX8_bound_11 : decode cX8_bound 11 = .ok (.ireturn, 1) := by decide +kernel
theorem dX8_rounding_0 : decode cX8_rounding 0 = .ok (.aload_n 0, 1) := by decide +kernel
theorem dX8_rounding_1 : decode cX8_rounding 1 = .ok (.getfield 10, 3) := by decide +kernel
theorem dX8_rounding_4 : decode cX8_rounding 4 = .ok (.getfield 136, 3) := by decide +kernel
theorem dX8_rounding_7 : decode cX8_rounding 7 = .ok (.iconst 1, 1) := by decide +kernel
theorem dX8_rounding_8 : decode cX8_rounding 8 = .ok (.invokestatic 77, 3) := by decide +kernel
theorem dX8_rounding_11 : decode cX8_rounding 11 = .ok (.ireturn, 1) := by decide +kernel
theorem dX8_leastOfSetting_0 : decode cX8_leastOfSetting 0 = .ok (.iload_n 0, 1) := by decide +kernel
theorem dX8_leastOfSetting_1 : decode cX8_leastOfSetting 1 = .ok (.iconst 2, 1) := by decide +kernel
theorem dX8_leastOfSetting_2 : decode cX8_leastOfSetting 2 = .ok (.if_icmp .ne 7, 3) := by decide +kernel
theorem dX8_leastOfSetting_5 : decode cX8_leastOfSetting 5 = .ok (.iconst 1, 1) := by decide +kernel
theorem dX8_leastOfSetting_6 : decode cX8_leastOfSetting 6 = .ok (.goto 4, 3) := by decide +kernel
theorem dX8_leastOfSetting_9 : decode cX8_leastOfSetting 9 = .ok (.iconst 0, 1) := by decide +kernel
theorem dX8_leastOfSetting_10 : decode cX8_leastOfSetting 10 = .ok (.ireturn, 1) := by decide +kernel
theorem dX8_mostOfSetting_0 : decode cX8_mostOfSetting 0 = .ok (.iload_n 0, 1) := by decide +kernel
theorem dX8_mostOfSetting_1 : decode cX8_mostOfSetting 1 = .ok (.ifCond .ne 7, 3) := by decide +kernel
theorem dX8_mostOfSetting_4 : decode cX8_mostOfSetting 4 = .ok (.sipush 500, 3) := by decide +kernel
theorem dX8_mostOfSetting_7 : decode cX8_mostOfSetting 7 = .ok (.ireturn, 1) := by decide +kernel
theorem dX8_mostOfSetting_8 : decode cX8_mostOfSetting 8 = .ok (.iload_n 0, 1) := by decide +kernel
theorem dX8_mostOfSetting_9 : decode cX8_mostOfSetting 9 = .ok (.iconst 1, 1) := by decide +kernel
theorem dX8_mostOfSetting_10 : decode cX8_mostOfSetting 10 = .ok (.if_icmp .ne 7, 3) := by decide +kernel
theorem dX8_mostOfSetting_13 : decode cX8_mostOfSetting 13 = .ok (.iconst 1, 1) := by decide +kernel
theorem dX8_mostOfSetting_14 : decode cX8_mostOfSetting 14 = .ok (.goto 4, 3) := by decide +kernel
theorem dX8_mostOfSetting_17 : decode cX8_mostOfSetting 17 = .ok (.iconst 4, 1) := by decide +kernel
theorem dX8_mostOfSetting_18 : decode cX8_mostOfSetting 18 = .ok (.ireturn, 1) := by decide +kernel
theorem dX8_checkParish_0 : decode cX8_checkParish 0 = .ok (.iload_n 0, 1) := by decide +kernel
theorem dX8_checkParish_1 : decode cX8_checkParish 1 = .ok (.invokestatic 412, 3) := by decide +kernel
theorem dX8_checkParish_4 : decode cX8_checkParish 4 = .ok (.ifCond .ne 14, 3) := by decide +kernel
theorem dX8_checkParish_7 : decode cX8_checkParish 7 = .ok (.new 124, 3) := by decide +kernel
theorem dX8_checkParish_10 : decode cX8_checkParish 10 = .ok (.dup, 1) := by decide +kernel
theorem dX8_checkParish_11 : decode cX8_checkParish 11 = .ok (.ldc_w 415, 3) := by decide +kernel
theorem dX8_checkParish_14 : decode cX8_checkParish 14 = .ok (.invokespecial 128, 3) := by decide +kernel
theorem dX8_checkParish_17 : decode cX8_checkParish 17 = .ok (.athrow, 1) := by decide +kernel
theorem dX8_checkParish_18 : decode cX8_checkParish 18 = .ok (.return_, 1) := by decide +kernel
theorem dX8_checkPair_0 : decode cX8_checkPair 0 = .ok (.iload_n 0, 1) := by decide +kernel
theorem dX8_checkPair_1 : decode cX8_checkPair 1 = .ok (.invokestatic 412, 3) := by decide +kernel
theorem dX8_checkPair_4 : decode cX8_checkPair 4 = .ok (.ifCond .eq 10, 3) := by decide +kernel
theorem dX8_checkPair_7 : decode cX8_checkPair 7 = .ok (.iload_n 1, 1) := by decide +kernel
theorem dX8_checkPair_8 : decode cX8_checkPair 8 = .ok (.invokestatic 412, 3) := by decide +kernel
theorem dX8_checkPair_11 : decode cX8_checkPair 11 = .ok (.ifCond .ne 14, 3) := by decide +kernel
theorem dX8_checkPair_14 : decode cX8_checkPair 14 = .ok (.new 124, 3) := by decide +kernel
theorem dX8_checkPair_17 : decode cX8_checkPair 17 = .ok (.dup, 1) := by decide +kernel
theorem dX8_checkPair_18 : decode cX8_checkPair 18 = .ok (.ldc_w 415, 3) := by decide +kernel
theorem dX8_checkPair_21 : decode cX8_checkPair 21 = .ok (.invokespecial 128, 3) := by decide +kernel
theorem dX8_checkPair_24 : decode cX8_checkPair 24 = .ok (.athrow, 1) := by decide +kernel
theorem dX8_checkPair_25 : decode cX8_checkPair 25 = .ok (.iload_n 0, 1) := by decide +kernel
theorem dX8_checkPair_26 : decode cX8_checkPair 26 = .ok (.iload_n 1, 1) := by decide +kernel
theorem dX8_checkPair_27 : decode cX8_checkPair 27 = .ok (.if_icmp .ne 14, 3) := by decide +kernel
theorem dX8_checkPair_30 : decode cX8_checkPair 30 = .ok (.new 193, 3) := by decide +kernel
theorem dX8_checkPair_33 : decode cX8_checkPair 33 = .ok (.dup, 1) := by decide +kernel
theorem dX8_checkPair_34 : decode cX8_checkPair 34 = .ok (.ldc_w 417, 3) := by decide +kernel
theorem dX8_checkPair_37 : decode cX8_checkPair 37 = .ok (.invokespecial 197, 3) := by decide +kernel
theorem dX8_checkPair_40 : decode cX8_checkPair 40 = .ok (.athrow, 1) := by decide +kernel
theorem dX8_checkPair_41 : decode cX8_checkPair 41 = .ok (.return_, 1) := by decide +kernel
theorem dX8_checkBolt_0 : decode cX8_checkBolt 0 = .ok (.aload_n 0, 1) := by decide +kernel
theorem dX8_checkBolt_1 : decode cX8_checkBolt 1 = .ok (.getfield 10, 3) := by decide +kernel
theorem dX8_checkBolt_4 : decode cX8_checkBolt 4 = .ok (.getfield 139, 3) := by decide +kernel
theorem dX8_checkBolt_7 : decode cX8_checkBolt 7 = .ok (.iload_n 1, 1) := by decide +kernel
theorem dX8_checkBolt_8 : decode cX8_checkBolt 8 = .ok (.invokevirtual 396, 3) := by decide +kernel
theorem dX8_checkBolt_11 : decode cX8_checkBolt 11 = .ok (.ifCond .ne 14, 3) := by decide +kernel
theorem dX8_checkBolt_14 : decode cX8_checkBolt 14 = .ok (.new 124, 3) := by decide +kernel
theorem dX8_checkBolt_17 : decode cX8_checkBolt 17 = .ok (.dup, 1) := by decide +kernel
theorem dX8_checkBolt_18 : decode cX8_checkBolt 18 = .ok (.ldc_w 419, 3) := by decide +kernel
theorem dX8_checkBolt_21 : decode cX8_checkBolt 21 = .ok (.invokespecial 128, 3) := by decide +kernel
theorem dX8_checkBolt_24 : decode cX8_checkBolt 24 = .ok (.athrow, 1) := by decide +kernel
theorem dX8_checkBolt_25 : decode cX8_checkBolt 25 = .ok (.return_, 1) := by decide +kernel
theorem dX8_checkRange_0 : decode cX8_checkRange 0 = .ok (.iload_n 0, 1) := by decide +kernel
theorem dX8_checkRange_1 : decode cX8_checkRange 1 = .ok (.iload_n 1, 1) := by decide +kernel
theorem dX8_checkRange_2 : decode cX8_checkRange 2 = .ok (.if_icmp .lt 8, 3) := by decide +kernel
theorem dX8_checkRange_5 : decode cX8_checkRange 5 = .ok (.iload_n 0, 1) := by decide +kernel
theorem dX8_checkRange_6 : decode cX8_checkRange 6 = .ok (.iload_n 2, 1) := by decide +kernel
theorem dX8_checkRange_7 : decode cX8_checkRange 7 = .ok (.if_icmp .le 14, 3) := by decide +kernel
theorem dX8_checkRange_10 : decode cX8_checkRange 10 = .ok (.new 193, 3) := by decide +kernel
theorem dX8_checkRange_13 : decode cX8_checkRange 13 = .ok (.dup, 1) := by decide +kernel
theorem dX8_checkRange_14 : decode cX8_checkRange 14 = .ok (.ldc_w 421, 3) := by decide +kernel
theorem dX8_checkRange_17 : decode cX8_checkRange 17 = .ok (.invokespecial 197, 3) := by decide +kernel
theorem dX8_checkRange_20 : decode cX8_checkRange 20 = .ok (.athrow, 1) := by decide +kernel
theorem dX8_checkRange_21 : decode cX8_checkRange 21 = .ok (.return_, 1) := by decide +kernel
theorem dX8_isParish_0 : decode cX8_isParish 0 = .ok (.iload_n 0, 1) := by decide +kernel
theorem dX8_isParish_1 : decode cX8_isParish 1 = .ok (.ifCond .lt 12, 3) := by decide +kernel
theorem dX8_isParish_4 : decode cX8_isParish 4 = .ok (.iload_n 0, 1) := by decide +kernel
theorem dX8_isParish_5 : decode cX8_isParish 5 = .ok (.iconst 5, 1) := by decide +kernel
theorem dX8_isParish_6 : decode cX8_isParish 6 = .ok (.if_icmp .ge 7, 3) := by decide +kernel
theorem dX8_isParish_9 : decode cX8_isParish 9 = .ok (.iconst 1, 1) := by decide +kernel
theorem dX8_isParish_10 : decode cX8_isParish 10 = .ok (.goto 4, 3) := by decide +kernel
theorem dX8_isParish_13 : decode cX8_isParish 13 = .ok (.iconst 0, 1) := by decide +kernel
theorem dX8_isParish_14 : decode cX8_isParish 14 = .ok (.ireturn, 1) := by decide +kernel
theorem dX8_at_0 : decode cX8_at 0 = .ok (.aload_n 0, 1) := by decide +kernel
theorem dX8_at_1 : decode cX8_at 1 = .ok (.ifnull 19, 3) := by decide +kernel
theorem dX8_at_4 : decode cX8_at 4 = .ok (.iload_n 1, 1) := by decide +kernel
theorem dX8_at_5 : decode cX8_at 5 = .ok (.ifCond .lt 15, 3) := by decide +kernel
theorem dX8_at_8 : decode cX8_at 8 = .ok (.iload_n 1, 1) := by decide +kernel
theorem dX8_at_9 : decode cX8_at 9 = .ok (.aload_n 0, 1) := by decide +kernel
theorem dX8_at_10 : decode cX8_at 10 = .ok (.arraylength, 1) := by decide +kernel
theorem dX8_at_11 : decode cX8_at 11 = .ok (.if_icmp .ge 9, 3) := by decide +kernel
theorem dX8_at_14 : decode cX8_at 14 = .ok (.aload_n 0, 1) := by decide +kernel
theorem dX8_at_15 : decode cX8_at 15 = .ok (.iload_n 1, 1) := by decide +kernel
theorem dX8_at_16 : decode cX8_at 16 = .ok (.iaload, 1) := by decide +kernel
theorem dX8_at_17 : decode cX8_at 17 = .ok (.goto 4, 3) := by decide +kernel
theorem dX8_at_20 : decode cX8_at 20 = .ok (.iconst 0, 1) := by decide +kernel
theorem dX8_at_21 : decode cX8_at 21 = .ok (.ireturn, 1) := by decide +kernel
theorem dX8_put_0 : decode cX8_put 0 = .ok (.aload_n 0, 1) := by decide +kernel
theorem dX8_put_1 : decode cX8_put 1 = .ok (.ifnull 17, 3) := by decide +kernel
theorem dX8_put_4 : decode cX8_put 4 = .ok (.iload_n 1, 1) := by decide +kernel
theorem dX8_put_5 : decode cX8_put 5 = .ok (.ifCond .lt 13, 3) := by decide +kernel
theorem dX8_put_8 : decode cX8_put 8 = .ok (.iload_n 1, 1) := by decide +kernel
theorem dX8_put_9 : decode cX8_put 9 = .ok (.aload_n 0, 1) := by decide +kernel
theorem dX8_put_10 : decode cX8_put 10 = .ok (.arraylength, 1) := by decide +kernel
theorem dX8_put_11 : decode cX8_put 11 = .ok (.if_icmp .ge 7, 3) := by decide +kernel
theorem dX8_put_14 : decode cX8_put 14 = .ok (.aload_n 0, 1) := by decide +kernel
theorem dX8_put_15 : decode cX8_put 15 = .ok (.iload_n 1, 1) := by decide +kernel
theorem dX8_put_16 : decode cX8_put 16 = .ok (.iload_n 2, 1) := by decide +kernel
theorem dX8_put_17 : decode cX8_put 17 = .ok (.iastore, 1) := by decide +kernel
theorem dX8_put_18 : decode cX8_put 18 = .ok (.return_, 1) := by decide +kernel
theorem dX8_longAt_0 : decode cX8_longAt 0 = .ok (.aload_n 0, 1) := by decide +kernel
theorem dX8_longAt_1 : decode cX8_longAt 1 = .ok (.ifnull 19, 3) := by decide +kernel
theorem dX8_longAt_4 : decode cX8_longAt 4 = .ok (.iload_n 1, 1) := by decide +kernel
theorem dX8_longAt_5 : decode cX8_longAt 5 = .ok (.ifCond .lt 15, 3) := by decide +kernel
theorem dX8_longAt_8 : decode cX8_longAt 8 = .ok (.iload_n 1, 1) := by decide +kernel
theorem dX8_longAt_9 : decode cX8_longAt 9 = .ok (.aload_n 0, 1) := by decide +kernel
theorem dX8_longAt_10 : decode cX8_longAt 10 = .ok (.arraylength, 1) := by decide +kernel
theorem dX8_longAt_11 : decode cX8_longAt 11 = .ok (.if_icmp .ge 9, 3) := by decide +kernel
theorem dX8_longAt_14 : decode cX8_longAt 14 = .ok (.aload_n 0, 1) := by decide +kernel
theorem dX8_longAt_15 : decode cX8_longAt 15 = .ok (.iload_n 1, 1) := by decide +kernel
theorem dX8_longAt_16 : decode cX8_longAt 16 = .ok (.laload, 1) := by decide +kernel
theorem dX8_longAt_17 : decode cX8_longAt 17 = .ok (.goto 4, 3) := by decide +kernel
theorem dX8_longAt_20 : decode cX8_longAt 20 = .ok (.lconst 0, 1) := by decide +kernel
theorem dX8_longAt_21 : decode cX8_longAt 21 = .ok (.lreturn, 1) := by decide +kernel
theorem dX8_putLong_0 : decode cX8_putLong 0 = .ok (.aload_n 0, 1) := by decide +kernel
theorem dX8_putLong_1 : decode cX8_putLong 1 = .ok (.ifnull 17, 3) := by decide +kernel
theorem dX8_putLong_4 : decode cX8_putLong 4 = .ok (.iload_n 1, 1) := by decide +kernel
theorem dX8_putLong_5 : decode cX8_putLong 5 = .ok (.ifCond .lt 13, 3) := by decide +kernel
theorem dX8_putLong_8 : decode cX8_putLong 8 = .ok (.iload_n 1, 1) := by decide +kernel
theorem dX8_putLong_9 : decode cX8_putLong 9 = .ok (.aload_n 0, 1) := by decide +kernel
theorem dX8_putLong_10 : decode cX8_putLong 10 = .ok (.arraylength, 1) := by decide +kernel
theorem dX8_putLong_11 : decode cX8_putLong 11 = .ok (.if_icmp .ge 7, 3) := by decide +kernel
theorem dX8_putLong_14 : decode cX8_putLong 14 = .ok (.aload_n 0, 1) := by decide +kernel
theorem dX8_putLong_15 : decode cX8_putLong 15 = .ok (.iload_n 1, 1) := by decide +kernel
theorem dX8_putLong_16 : decode cX8_putLong 16 = .ok (.lload_n 2, 1) := by decide +kernel
theorem dX8_putLong_17 : decode cX8_putLong 17 = .ok (.lastore, 1) := by decide +kernel
theorem dX8_putLong_18 : decode cX8_putLong 18 = .ok (.return_, 1) := by decide +kernel
theorem dX8_copyRow_0 : decode cX8_copyRow 0 = .ok (.aload_n 0, 1) := by decide +kernel
theorem dX8_copyRow_1 : decode cX8_copyRow 1 = .ok (.ifnull 7, 3) := by decide +kernel
theorem dX8_copyRow_4 : decode cX8_copyRow 4 = .ok (.aload_n 1, 1) := by decide +kernel
theorem dX8_copyRow_5 : decode cX8_copyRow 5 = .ok (.ifnonnull 4, 3) := by decide +kernel
theorem dX8_copyRow_8 : decode cX8_copyRow 8 = .ok (.return_, 1) := by decide +kernel
theorem dX8_copyRow_9 : decode cX8_copyRow 9 = .ok (.iconst 0, 1) := by decide +kernel
theorem dX8_copyRow_10 : decode cX8_copyRow 10 = .ok (.istore_n 2, 1) := by decide +kernel
theorem dX8_copyRow_11 : decode cX8_copyRow 11 = .ok (.iload_n 2, 1) := by decide +kernel
theorem dX8_copyRow_12 : decode cX8_copyRow 12 = .ok (.aload_n 0, 1) := by decide +kernel
theorem dX8_copyRow_13 : decode cX8_copyRow 13 = .ok (.arraylength, 1) := by decide +kernel
theorem dX8_copyRow_14 : decode cX8_copyRow 14 = .ok (.if_icmp .ge 21, 3) := by decide +kernel
theorem dX8_copyRow_17 : decode cX8_copyRow 17 = .ok (.iload_n 2, 1) := by decide +kernel
theorem dX8_copyRow_18 : decode cX8_copyRow 18 = .ok (.aload_n 1, 1) := by decide +kernel
theorem dX8_copyRow_19 : decode cX8_copyRow 19 = .ok (.arraylength, 1) := by decide +kernel
theorem dX8_copyRow_20 : decode cX8_copyRow 20 = .ok (.if_icmp .ge 15, 3) := by decide +kernel
theorem dX8_copyRow_23 : decode cX8_copyRow 23 = .ok (.aload_n 1, 1) := by decide +kernel
theorem dX8_copyRow_24 : decode cX8_copyRow 24 = .ok (.iload_n 2, 1) := by decide +kernel
theorem dX8_copyRow_25 : decode cX8_copyRow 25 = .ok (.aload_n 0, 1) := by decide +kernel
theorem dX8_copyRow_26 : decode cX8_copyRow 26 = .ok (.iload_n 2, 1) := by decide +kernel
theorem dX8_copyRow_27 : decode cX8_copyRow 27 = .ok (.iaload, 1) := by decide +kernel
theorem dX8_copyRow_28 : decode cX8_copyRow 28 = .ok (.iastore, 1) := by decide +kernel
theorem dX8_copyRow_29 : decode cX8_copyRow 29 = .ok (.iinc 2 1, 3) := by decide +kernel
theorem dX8_copyRow_32 : decode cX8_copyRow 32 = .ok (.goto (-21), 3) := by decide +kernel
theorem dX8_copyRow_35 : decode cX8_copyRow 35 = .ok (.return_, 1) := by decide +kernel
theorem dX8_turn_0 : decode cX8_turn 0 = .ok (.iload_n 3, 1) := by decide +kernel
theorem dX8_turn_1 : decode cX8_turn 1 = .ok (.ifCond .gt 5, 3) := by decide +kernel
theorem dX8_turn_4 : decode cX8_turn 4 = .ok (.lconst 0, 1) := by decide +kernel
theorem dX8_turn_5 : decode cX8_turn 5 = .ok (.lreturn, 1) := by decide +kernel
theorem dX8_turn_6 : decode cX8_turn 6 = .ok (.iload 4, 2) := by decide +kernel
theorem dX8_turn_8 : decode cX8_turn 8 = .ok (.iconst 1, 1) := by decide +kernel
theorem dX8_turn_9 : decode cX8_turn 9 = .ok (.if_icmp .ne 11, 3) := by decide +kernel
theorem dX8_turn_12 : decode cX8_turn 12 = .ok (.lload_n 0, 1) := by decide +kernel
theorem dX8_turn_13 : decode cX8_turn 13 = .ok (.iload_n 2, 1) := by decide +kernel
theorem dX8_turn_14 : decode cX8_turn 14 = .ok (.i2l, 1) := by decide +kernel
theorem dX8_turn_15 : decode cX8_turn 15 = .ok (.lmul, 1) := by decide +kernel
theorem dX8_turn_16 : decode cX8_turn 16 = .ok (.iload_n 3, 1) := by decide +kernel
theorem dX8_turn_17 : decode cX8_turn 17 = .ok (.i2l, 1) := by decide +kernel
theorem dX8_turn_18 : decode cX8_turn 18 = .ok (.ldiv, 1) := by decide +kernel
theorem dX8_turn_19 : decode cX8_turn 19 = .ok (.lreturn, 1) := by decide +kernel
theorem dX8_turn_20 : decode cX8_turn 20 = .ok (.ldc2_w 423, 3) := by decide +kernel
theorem dX8_turn_23 : decode cX8_turn 23 = .ok (.lload_n 0, 1) := by decide +kernel
theorem dX8_turn_24 : decode cX8_turn 24 = .ok (.lmul, 1) := by decide +kernel
theorem dX8_turn_25 : decode cX8_turn 25 = .ok (.iload_n 2, 1) := by decide +kernel
theorem dX8_turn_26 : decode cX8_turn 26 = .ok (.i2l, 1) := by decide +kernel
theorem dX8_turn_27 : decode cX8_turn 27 = .ok (.lmul, 1) := by decide +kernel
theorem dX8_turn_28 : decode cX8_turn 28 = .ok (.iload_n 3, 1) := by decide +kernel
theorem dX8_turn_29 : decode cX8_turn 29 = .ok (.i2l, 1) := by decide +kernel
theorem dX8_turn_30 : decode cX8_turn 30 = .ok (.ladd, 1) := by decide +kernel
theorem dX8_turn_31 : decode cX8_turn 31 = .ok (.ldc2_w 423, 3) := by decide +kernel
theorem dX8_turn_34 : decode cX8_turn 34 = .ok (.iload_n 3, 1) := by decide +kernel
theorem dX8_turn_35 : decode cX8_turn 35 = .ok (.i2l, 1) := by decide +kernel
theorem dX8_turn_36 : decode cX8_turn 36 = .ok (.lmul, 1) := by decide +kernel
theorem dX8_turn_37 : decode cX8_turn 37 = .ok (.ldiv, 1) := by decide +kernel
theorem dX8_turn_38 : decode cX8_turn 38 = .ok (.lreturn, 1) := by decide +kernel
theorem dX8_gainOfTurn_0 : decode cX8_gainOfTurn 0 = .ok (.iload 5, 2) := by decide +kernel
theorem dX8_gainOfTurn_2 : decode cX8_gainOfTurn 2 = .ok (.ifCond .le 27, 3) := by decide +kernel
theorem dX8_gainOfTurn_5 : decode cX8_gainOfTurn 5 = .ok (.lload_n 2, 1) := by decide +kernel
theorem dX8_gainOfTurn_6 : decode cX8_gainOfTurn 6 = .ok (.iload 5, 2) := by decide +kernel
theorem dX8_gainOfTurn_8 : decode cX8_gainOfTurn 8 = .ok (.i2l, 1) := by decide +kernel
theorem dX8_gainOfTurn_9 : decode cX8_gainOfTurn 9 = .ok (.lmul, 1) := by decide +kernel
theorem dX8_gainOfTurn_10 : decode cX8_gainOfTurn 10 = .ok (.lload_n 0, 1) := by decide +kernel
theorem dX8_gainOfTurn_11 : decode cX8_gainOfTurn 11 = .ok (.iload 4, 2) := by decide +kernel
theorem dX8_gainOfTurn_13 : decode cX8_gainOfTurn 13 = .ok (.i2l, 1) := by decide +kernel
theorem dX8_gainOfTurn_14 : decode cX8_gainOfTurn 14 = .ok (.lmul, 1) := by decide +kernel
theorem dX8_gainOfTurn_15 : decode cX8_gainOfTurn 15 = .ok (.lsub, 1) := by decide +kernel
theorem dX8_gainOfTurn_16 : decode cX8_gainOfTurn 16 = .ok (.ldc2_w 425, 3) := by decide +kernel
theorem dX8_gainOfTurn_19 : decode cX8_gainOfTurn 19 = .ok (.lmul, 1) := by decide +kernel
theorem dX8_gainOfTurn_20 : decode cX8_gainOfTurn 20 = .ok (.iload 5, 2) := by decide +kernel
theorem dX8_gainOfTurn_22 : decode cX8_gainOfTurn 22 = .ok (.i2l, 1) := by decide +kernel
theorem dX8_gainOfTurn_23 : decode cX8_gainOfTurn 23 = .ok (.invokestatic 427, 3) := by decide +kernel
theorem dX8_gainOfTurn_26 : decode cX8_gainOfTurn 26 = .ok (.goto 4, 3) := by decide +kernel
theorem dX8_gainOfTurn_29 : decode cX8_gainOfTurn 29 = .ok (.lconst 0, 1) := by decide +kernel
theorem dX8_gainOfTurn_30 : decode cX8_gainOfTurn 30 = .ok (.lreturn, 1) := by decide +kernel
theorem dX8_lowestTerm_0 : decode cX8_lowestTerm 0 = .ok (.lload_n 0, 1) := by decide +kernel
theorem dX8_lowestTerm_1 : decode cX8_lowestTerm 1 = .ok (.lload_n 2, 1) := by decide +kernel
theorem dX8_lowestTerm_2 : decode cX8_lowestTerm 2 = .ok (.invokestatic 430, 3) := by decide +kernel
theorem dX8_lowestTerm_5 : decode cX8_lowestTerm 5 = .ok (.lstore 5, 2) := by decide +kernel
theorem dX8_lowestTerm_7 : decode cX8_lowestTerm 7 = .ok (.lload 5, 2) := by decide +kernel
theorem dX8_lowestTerm_9 : decode cX8_lowestTerm 9 = .ok (.lconst 0, 1) := by decide +kernel
theorem dX8_lowestTerm_10 : decode cX8_lowestTerm 10 = .ok (.lcmp, 1) := by decide +kernel
theorem dX8_lowestTerm_11 : decode cX8_lowestTerm 11 = .ok (.ifCond .gt 5, 3) := by decide +kernel
theorem dX8_lowestTerm_14 : decode cX8_lowestTerm 14 = .ok (.iconst (-1), 1) := by decide +kernel
theorem dX8_lowestTerm_15 : decode cX8_lowestTerm 15 = .ok (.ireturn, 1) := by decide +kernel
theorem dX8_lowestTerm_16 : decode cX8_lowestTerm 16 = .ok (.lload_n 0, 1) := by decide +kernel
theorem dX8_lowestTerm_17 : decode cX8_lowestTerm 17 = .ok (.lload 5, 2) := by decide +kernel
theorem dX8_lowestTerm_19 : decode cX8_lowestTerm 19 = .ok (.ldiv, 1) := by decide +kernel
theorem dX8_lowestTerm_20 : decode cX8_lowestTerm 20 = .ok (.lstore 7, 2) := by decide +kernel
theorem dX8_lowestTerm_22 : decode cX8_lowestTerm 22 = .ok (.lload_n 2, 1) := by decide +kernel
theorem dX8_lowestTerm_23 : decode cX8_lowestTerm 23 = .ok (.lload 5, 2) := by decide +kernel
theorem dX8_lowestTerm_25 : decode cX8_lowestTerm 25 = .ok (.ldiv, 1) := by decide +kernel
theorem dX8_lowestTerm_26 : decode cX8_lowestTerm 26 = .ok (.lstore 9, 2) := by decide +kernel
theorem dX8_lowestTerm_28 : decode cX8_lowestTerm 28 = .ok (.lload 7, 2) := by decide +kernel
theorem dX8_lowestTerm_30 : decode cX8_lowestTerm 30 = .ok (.ldc2_w 433, 3) := by decide +kernel
theorem dX8_lowestTerm_33 : decode cX8_lowestTerm 33 = .ok (.lcmp, 1) := by decide +kernel
theorem dX8_lowestTerm_34 : decode cX8_lowestTerm 34 = .ok (.ifCond .gt 12, 3) := by decide +kernel
theorem dX8_lowestTerm_37 : decode cX8_lowestTerm 37 = .ok (.lload 9, 2) := by decide +kernel
theorem dX8_lowestTerm_39 : decode cX8_lowestTerm 39 = .ok (.ldc2_w 433, 3) := by decide +kernel
theorem dX8_lowestTerm_42 : decode cX8_lowestTerm 42 = .ok (.lcmp, 1) := by decide +kernel
theorem dX8_lowestTerm_43 : decode cX8_lowestTerm 43 = .ok (.ifCond .le 5, 3) := by decide +kernel
theorem dX8_lowestTerm_46 : decode cX8_lowestTerm 46 = .ok (.iconst (-1), 1) := by decide +kernel
theorem dX8_lowestTerm_47 : decode cX8_lowestTerm 47 = .ok (.ireturn, 1) := by decide +kernel
theorem dX8_lowestTerm_48 : decode cX8_lowestTerm 48 = .ok (.iload 4, 2) := by decide +kernel
theorem dX8_lowestTerm_50 : decode cX8_lowestTerm 50 = .ok (.ifCond .ne 8, 3) := by decide +kernel
theorem dX8_lowestTerm_53 : decode cX8_lowestTerm 53 = .ok (.lload 7, 2) := by decide +kernel
theorem dX8_lowestTerm_55 : decode cX8_lowestTerm 55 = .ok (.goto 5, 3) := by decide +kernel
theorem dX8_lowestTerm_58 : decode cX8_lowestTerm 58 = .ok (.lload 9, 2) := by decide +kernel
theorem dX8_lowestTerm_60 : decode cX8_lowestTerm 60 = .ok (.l2i, 1) := by decide +kernel
theorem dX8_lowestTerm_61 : decode cX8_lowestTerm 61 = .ok (.ireturn, 1) := by decide +kernel
theorem dX8_commonDivisor_0 : decode cX8_commonDivisor 0 = .ok (.lload_n 0, 1) := by decide +kernel
theorem dX8_commonDivisor_1 : decode cX8_commonDivisor 1 = .ok (.lstore 4, 2) := by decide +kernel
theorem dX8_commonDivisor_3 : decode cX8_commonDivisor 3 = .ok (.lload_n 2, 1) := by decide +kernel
theorem dX8_commonDivisor_4 : decode cX8_commonDivisor 4 = .ok (.lstore 6, 2) := by decide +kernel
theorem dX8_commonDivisor_6 : decode cX8_commonDivisor 6 = .ok (.iconst 0, 1) := by decide +kernel
theorem dX8_commonDivisor_7 : decode cX8_commonDivisor 7 = .ok (.istore 8, 2) := by decide +kernel
theorem dX8_commonDivisor_9 : decode cX8_commonDivisor 9 = .ok (.iload 8, 2) := by decide +kernel
theorem dX8_commonDivisor_11 : decode cX8_commonDivisor 11 = .ok (.sipush 1000, 3) := by decide +kernel
theorem dX8_commonDivisor_14 : decode cX8_commonDivisor 14 = .ok (.if_icmp .ge 31, 3) := by decide +kernel
theorem dX8_commonDivisor_17 : decode cX8_commonDivisor 17 = .ok (.lload 6, 2) := by decide +kernel
theorem dX8_commonDivisor_19 : decode cX8_commonDivisor 19 = .ok (.lconst 0, 1) := by decide +kernel
theorem dX8_commonDivisor_20 : decode cX8_commonDivisor 20 = .ok (.lcmp, 1) := by decide +kernel
theorem dX8_commonDivisor_21 : decode cX8_commonDivisor 21 = .ok (.ifCond .le 24, 3) := by decide +kernel
theorem dX8_commonDivisor_24 : decode cX8_commonDivisor 24 = .ok (.lload 4, 2) := by decide +kernel
theorem dX8_commonDivisor_26 : decode cX8_commonDivisor 26 = .ok (.lload 6, 2) := by decide +kernel
theorem dX8_commonDivisor_28 : decode cX8_commonDivisor 28 = .ok (.lrem, 1) := by decide +kernel
theorem dX8_commonDivisor_29 : decode cX8_commonDivisor 29 = .ok (.lstore 9, 2) := by decide +kernel
theorem dX8_commonDivisor_31 : decode cX8_commonDivisor 31 = .ok (.lload 6, 2) := by decide +kernel
theorem dX8_commonDivisor_33 : decode cX8_commonDivisor 33 = .ok (.lstore 4, 2) := by decide +kernel
theorem dX8_commonDivisor_35 : decode cX8_commonDivisor 35 = .ok (.lload 9, 2) := by decide +kernel
theorem dX8_commonDivisor_37 : decode cX8_commonDivisor 37 = .ok (.lstore 6, 2) := by decide +kernel
theorem dX8_commonDivisor_39 : decode cX8_commonDivisor 39 = .ok (.iinc 8 1, 3) := by decide +kernel
theorem dX8_commonDivisor_42 : decode cX8_commonDivisor 42 = .ok (.goto (-33), 3) := by decide +kernel
theorem dX8_commonDivisor_45 : decode cX8_commonDivisor 45 = .ok (.lload 4, 2) := by decide +kernel
theorem dX8_commonDivisor_47 : decode cX8_commonDivisor 47 = .ok (.lreturn, 1) := by decide +kernel
theorem dX8_bitOf_0 : decode cX8_bitOf 0 = .ok (.iconst 1, 1) := by decide +kernel
theorem dX8_bitOf_1 : decode cX8_bitOf 1 = .ok (.iload_n 0, 1) := by decide +kernel
theorem dX8_bitOf_2 : decode cX8_bitOf 2 = .ok (.iload_n 1, 1) := by decide +kernel
theorem dX8_bitOf_3 : decode cX8_bitOf 3 = .ok (.invokestatic 435, 3) := by decide +kernel
theorem dX8_bitOf_6 : decode cX8_bitOf 6 = .ok (.iconst 5, 1) := by decide +kernel
theorem dX8_bitOf_7 : decode cX8_bitOf 7 = .ok (.imul, 1) := by decide +kernel
theorem dX8_bitOf_8 : decode cX8_bitOf 8 = .ok (.iload_n 0, 1) := by decide +kernel
theorem dX8_bitOf_9 : decode cX8_bitOf 9 = .ok (.iload_n 1, 1) := by decide +kernel
theorem dX8_bitOf_10 : decode cX8_bitOf 10 = .ok (.invokestatic 208, 3) := by decide +kernel
theorem dX8_bitOf_13 : decode cX8_bitOf 13 = .ok (.iadd, 1) := by decide +kernel
theorem dX8_bitOf_14 : decode cX8_bitOf 14 = .ok (.ishl, 1) := by decide +kernel
theorem dX8_bitOf_15 : decode cX8_bitOf 15 = .ok (.ireturn, 1) := by decide +kernel
theorem dX8_ringSize_0 : decode cX8_ringSize 0 = .ok (.iload_n 0, 1) := by decide +kernel
theorem dX8_ringSize_1 : decode cX8_ringSize 1 = .ok (.bipush 10, 2) := by decide +kernel
theorem dX8_ringSize_3 : decode cX8_ringSize 3 = .ok (.if_icmp .ge 5, 3) := by decide +kernel
theorem dX8_ringSize_6 : decode cX8_ringSize 6 = .ok (.iconst 3, 1) := by decide +kernel
theorem dX8_ringSize_7 : decode cX8_ringSize 7 = .ok (.ireturn, 1) := by decide +kernel
theorem dX8_ringSize_8 : decode cX8_ringSize 8 = .ok (.iload_n 0, 1) := by decide +kernel
theorem dX8_ringSize_9 : decode cX8_ringSize 9 = .ok (.bipush 25, 2) := by decide +kernel
theorem dX8_ringSize_11 : decode cX8_ringSize 11 = .ok (.if_icmp .ge 7, 3) := by decide +kernel
theorem dX8_ringSize_14 : decode cX8_ringSize 14 = .ok (.iconst 4, 1) := by decide +kernel
theorem dX8_ringSize_15 : decode cX8_ringSize 15 = .ok (.goto 4, 3) := by decide +kernel
theorem dX8_ringSize_18 : decode cX8_ringSize 18 = .ok (.iconst 5, 1) := by decide +kernel
theorem dX8_ringSize_19 : decode cX8_ringSize 19 = .ok (.ireturn, 1) := by decide +kernel
end
section
theorem dX9_init_0 : decode cX9_init 0 = .ok (.aload_n 0, 1) := by decide +kernel
theorem dX9_init_1 : decode cX9_init 1 = .ok (.invokespecial 1, 3) := by decide +kernel
theorem dX9_init_4 : decode cX9_init 4 = .ok (.aload_n 0, 1) := by decide +kernel
theorem dX9_init_5 : decode cX9_init 5 = .ok (.bipush 65, 2) := by decide +kernel
theorem dX9_init_7 : decode cX9_init 7 = .ok (.newarray .int, 2) := by decide +kernel
theorem dX9_init_9 : decode cX9_init 9 = .ok (.putfield 7, 3) := by decide +kernel
theorem dX9_init_12 : decode cX9_init 12 = .ok (.aload_n 0, 1) := by decide +kernel
theorem dX9_init_13 : decode cX9_init 13 = .ok (.sipush 390, 3) := by decide +kernel
theorem dX9_init_16 : decode cX9_init 16 = .ok (.newarray .int, 2) := by decide +kernel
theorem dX9_init_18 : decode cX9_init 18 = .ok (.putfield 13, 3) := by decide +kernel
theorem dX9_init_21 : decode cX9_init 21 = .ok (.aload_n 0, 1) := by decide +kernel
theorem dX9_init_22 : decode cX9_init 22 = .ok (.bipush 65, 2) := by decide +kernel
theorem dX9_init_24 : decode cX9_init 24 = .ok (.newarray .int, 2) := by decide +kernel
theorem dX9_init_26 : decode cX9_init 26 = .ok (.putfield 16, 3) := by decide +kernel
theorem dX9_init_29 : decode cX9_init 29 = .ok (.aload_n 0, 1) := by decide +kernel
theorem dX9_init_30 : decode cX9_init 30 = .ok (.bipush 60, 2) := by decide +kernel
theorem dX9_init_32 : decode cX9_init 32 = .ok (.newarray .int, 2) := by decide +kernel
theorem dX9_init_34 : decode cX9_init 34 = .ok (.putfield 19, 3) := by decide +kernel
theorem dX9_init_37 : decode cX9_init 37 = .ok (.aload_n 0, 1) := by decide +kernel
theorem dX9_init_38 : decode cX9_init 38 = .ok (.bipush 37, 2) := by decide +kernel
theorem dX9_init_40 : decode cX9_init 40 = .ok (.newarray .int, 2) := by decide +kernel
theorem dX9_init_42 : decode cX9_init 42 = .ok (.putfield 22, 3) := by decide +kernel
theorem dX9_init_45 : decode cX9_init 45 = .ok (.aload_n 0, 1) := by decide +kernel
theorem dX9_init_46 : decode cX9_init 46 = .ok (.bipush 37, 2) := by decide +kernel
theorem dX9_init_48 : decode cX9_init 48 = .ok (.newarray .int, 2) := by decide +kernel
theorem dX9_init_50 : decode cX9_init 50 = .ok (.putfield 25, 3) := by decide +kernel
theorem dX9_init_53 : decode cX9_init 53 = .ok (.aload_n 0, 1) := by decide +kernel
theorem dX9_init_54 : decode cX9_init 54 = .ok (.iconst 5, 1) := by decide +kernel
theorem dX9_init_55 : decode cX9_init 55 = .ok (.newarray .long, 2) := by decide +kernel
theorem dX9_init_57 : decode cX9_init 57 = .ok (.putfield 28, 3) := by decide +kernel
theorem dX9_init_60 : decode cX9_init 60 = .ok (.aload_n 0, 1) := by decide +kernel
theorem dX9_init_61 : decode cX9_init 61 = .ok (.iconst 5, 1) := by decide +kernel
theorem dX9_init_62 : decode cX9_init 62 = .ok (.newarray .long, 2) := by decide +kernel
theorem dX9_init_64 : decode cX9_init 64 = .ok (.putfield 32, 3) := by decide +kernel
theorem dX9_init_67 : decode cX9_init 67 = .ok (.iconst 0, 1) := by decide +kernel
theorem dX9_init_68 : decode cX9_init 68 = .ok (.istore_n 1, 1) := by decide +kernel
theorem dX9_init_69 : decode cX9_init 69 = .ok (.iconst 3, 1) := by decide +kernel
theorem dX9_init_70 : decode cX9_init 70 = .ok (.istore_n 2, 1) := by decide +kernel
theorem dX9_init_71 : decode cX9_init 71 = .ok (.iload_n 2, 1) := by decide +kernel
theorem dX9_init_72 : decode cX9_init 72 = .ok (.bipush 6, 2) := by decide +kernel
theorem dX9_init_74 : decode cX9_init 74 = .ok (.if_icmp .ge 82, 3) := by decide +kernel
theorem dX9_init_77 : decode cX9_init 77 = .ok (.iload_n 2, 1) := by decide +kernel
theorem dX9_init_78 : decode cX9_init 78 = .ok (.iconst 3, 1) := by decide +kernel
theorem dX9_init_79 : decode cX9_init 79 = .ok (.if_icmp .ne 9, 3) := by decide +kernel
theorem dX9_init_82 : decode cX9_init 82 = .ok (.sipush 1000, 3) := by decide +kernel
theorem dX9_init_85 : decode cX9_init 85 = .ok (.goto 16, 3) := by decide +kernel
theorem dX9_init_88 : decode cX9_init 88 = .ok (.iload_n 2, 1) := by decide +kernel
theorem dX9_init_89 : decode cX9_init 89 = .ok (.iconst 4, 1) := by decide +kernel
theorem dX9_init_90 : decode cX9_init 90 = .ok (.if_icmp .ne 9, 3) := by decide +kernel
theorem dX9_init_93 : decode cX9_init 93 = .ok (.sipush 10000, 3) := by decide +kernel
theorem dX9_init_96 : decode cX9_init 96 = .ok (.goto 5, 3) := by decide +kernel
theorem dX9_init_99 : decode cX9_init 99 = .ok (.ldc 35, 2) := by decide +kernel
theorem dX9_init_101 : decode cX9_init 101 = .ok (.istore_n 3, 1) := by decide +kernel
theorem dX9_init_102 : decode cX9_init 102 = .ok (.iconst 0, 1) := by decide +kernel
theorem dX9_init_103 : decode cX9_init 103 = .ok (.istore 4, 2) := by decide +kernel
theorem dX9_init_105 : decode cX9_init 105 = .ok (.iload 4, 2) := by decide +kernel
theorem dX9_init_107 : decode cX9_init 107 = .ok (.iload_n 3, 1) := by decide +kernel
theorem dX9_init_108 : decode cX9_init 108 = .ok (.if_icmp .ge 42, 3) := by decide +kernel
theorem dX9_init_111 : decode cX9_init 111 = .ok (.iload_n 1, 1) := by decide +kernel
theorem dX9_init_112 : decode cX9_init 112 = .ok (.bipush 37, 2) := by decide +kernel
theorem dX9_init_114 : decode cX9_init 114 = .ok (.if_icmp .ge 30, 3) := by decide +kernel
theorem dX9_init_117 : decode cX9_init 117 = .ok (.iload 4, 2) := by decide +kernel
theorem dX9_init_119 : decode cX9_init 119 = .ok (.iload_n 2, 1) := by decide +kernel
theorem dX9_init_120 : decode cX9_init 120 = .ok (.invokestatic 36, 3) := by decide +kernel
theorem dX9_init_123 : decode cX9_init 123 = .ok (.ifCond .eq 21, 3) := by decide +kernel
theorem dX9_init_126 : decode cX9_init 126 = .ok (.aload_n 0, 1) := by decide +kernel
theorem dX9_init_127 : decode cX9_init 127 = .ok (.getfield 22, 3) := by decide +kernel
theorem dX9_init_130 : decode cX9_init 130 = .ok (.iload_n 1, 1) := by decide +kernel
theorem dX9_init_131 : decode cX9_init 131 = .ok (.iload_n 2, 1) := by decide +kernel
theorem dX9_init_132 : decode cX9_init 132 = .ok (.iastore, 1) := by decide +kernel
theorem dX9_init_133 : decode cX9_init 133 = .ok (.aload_n 0, 1) := by decide +kernel
theorem dX9_init_134 : decode cX9_init 134 = .ok (.getfield 25, 3) := by decide +kernel
theorem dX9_init_137 : decode cX9_init 137 = .ok (.iload_n 1, 1) := by decide +kernel
theorem dX9_init_138 : decode cX9_init 138 = .ok (.iload 4, 2) := by decide +kernel
theorem dX9_init_140 : decode cX9_init 140 = .ok (.iastore, 1) := by decide +kernel
theorem dX9_init_141 : decode cX9_init 141 = .ok (.iinc 1 1, 3) := by decide +kernel
theorem dX9_init_144 : decode cX9_init 144 = .ok (.iinc 4 1, 3) := by decide +kernel
theorem dX9_init_147 : decode cX9_init 147 = .ok (.goto (-42), 3) := by decide +kernel
theorem dX9_init_150 : decode cX9_init 150 = .ok (.iinc 2 1, 3) := by decide +kernel
theorem dX9_init_153 : decode cX9_init 153 = .ok (.goto (-82), 3) := by decide +kernel
theorem dX9_init_156 : decode cX9_init 156 = .ok (.iconst 0, 1) := by decide +kernel
theorem dX9_init_157 : decode cX9_init 157 = .ok (.istore_n 2, 1) := by decide +kernel
theorem dX9_init_158 : decode cX9_init 158 = .ok (.iload_n 2, 1) := by decide +kernel
theorem dX9_init_159 : decode cX9_init 159 = .ok (.iconst 5, 1) := by decide +kernel
theorem dX9_init_160 : decode cX9_init 160 = .ok (.if_icmp .ge 20, 3) := by decide +kernel
theorem dX9_init_163 : decode cX9_init 163 = .ok (.aload_n 0, 1) := by decide +kernel
theorem dX9_init_164 : decode cX9_init 164 = .ok (.getfield 7, 3) := by decide +kernel
theorem dX9_init_167 : decode cX9_init 167 = .ok (.bipush 20, 2) := by decide +kernel
theorem dX9_init_169 : decode cX9_init 169 = .ok (.iload_n 2, 1) := by decide +kernel
theorem dX9_init_170 : decode cX9_init 170 = .ok (.iadd, 1) := by decide +kernel
theorem dX9_init_171 : decode cX9_init 171 = .ok (.bipush 36, 2) := by decide +kernel
theorem dX9_init_173 : decode cX9_init 173 = .ok (.iastore, 1) := by decide +kernel
theorem dX9_init_174 : decode cX9_init 174 = .ok (.iinc 2 1, 3) := by decide +kernel
theorem dX9_init_177 : decode cX9_init 177 = .ok (.goto (-19), 3) := by decide +kernel
theorem dX9_init_180 : decode cX9_init 180 = .ok (.aload_n 0, 1) := by decide +kernel
theorem dX9_init_181 : decode cX9_init 181 = .ok (.getfield 7, 3) := by decide +kernel
theorem dX9_init_184 : decode cX9_init 184 = .ok (.bipush 27, 2) := by decide +kernel
theorem dX9_init_186 : decode cX9_init 186 = .ok (.iconst 4, 1) := by decide +kernel
theorem dX9_init_187 : decode cX9_init 187 = .ok (.iastore, 1) := by decide +kernel
theorem dX9_init_188 : decode cX9_init 188 = .ok (.return_, 1) := by decide +kernel
theorem dX9_thrown_0 : decode cX9_thrown 0 = .ok (.aload_n 0, 1) := by decide +kernel
theorem dX9_thrown_1 : decode cX9_thrown 1 = .ok (.getfield 40, 3) := by decide +kernel
theorem dX9_thrown_4 : decode cX9_thrown 4 = .ok (.ireturn, 1) := by decide +kernel
theorem dX9_refused_0 : decode cX9_refused 0 = .ok (.aload_n 0, 1) := by decide +kernel
theorem dX9_refused_1 : decode cX9_refused 1 = .ok (.iload_n 1, 1) := by decide +kernel
theorem dX9_refused_2 : decode cX9_refused 2 = .ok (.putfield 40, 3) := by decide +kernel
theorem dX9_refused_5 : decode cX9_refused 5 = .ok (.iload_n 1, 1) := by decide +kernel
theorem dX9_refused_6 : decode cX9_refused 6 = .ok (.ifCond .le 7, 3) := by decide +kernel
theorem dX9_refused_9 : decode cX9_refused 9 = .ok (.iconst 1, 1) := by decide +kernel
theorem dX9_refused_10 : decode cX9_refused 10 = .ok (.goto 4, 3) := by decide +kernel
theorem dX9_refused_13 : decode cX9_refused 13 = .ok (.iconst 0, 1) := by decide +kernel
theorem dX9_refused_14 : decode cX9_refused 14 = .ok (.ireturn, 1) := by decide +kernel
theorem dX9_in_0 : decode cX9_in 0 = .ok (.iload_n 0, 1) := by decide +kernel
theorem dX9_in_1 : decode cX9_in 1 = .ok (.iload_n 1, 1) := by decide +kernel
theorem dX9_in_2 : decode cX9_in 2 = .ok (.if_icmp .lt 12, 3) := by decide +kernel
theorem dX9_in_5 : decode cX9_in 5 = .ok (.iload_n 0, 1) := by decide +kernel
theorem dX9_in_6 : decode cX9_in 6 = .ok (.iload_n 2, 1) := by decide +kernel
theorem dX9_in_7 : decode cX9_in 7 = .ok (.if_icmp .gt 7, 3) := by decide +kernel
theorem dX9_in_10 : decode cX9_in 10 = .ok (.iconst 1, 1) := by decide +kernel
theorem dX9_in_11 : decode cX9_in 11 = .ok (.goto 4, 3) := by decide +kernel
theorem dX9_in_14 : decode cX9_in 14 = .ok (.iconst 0, 1) := by decide +kernel
theorem dX9_in_15 : decode cX9_in 15 = .ok (.ireturn, 1) := by decide +kernel
theorem dX9_isParish_0 : decode cX9_isParish 0 = .ok (.iload_n 0, 1) := by decide +kernel
theorem dX9_isParish_1 : decode cX9_isParish 1 = .ok (.iconst 0, 1) := by decide +kernel
theorem dX9_isParish_2 : decode cX9_isParish 2 = .ok (.iconst 4, 1) := by decide +kernel
theorem dX9_isParish_3 : decode cX9_isParish 3 = .ok (.invokestatic 44, 3) := by decide +kernel
theorem dX9_isParish_6 : decode cX9_isParish 6 = .ok (.ireturn, 1) := by decide +kernel
theorem dX9_isPart_0 : decode cX9_isPart 0 = .ok (.iload_n 0, 1) := by decide +kernel
theorem dX9_isPart_1 : decode cX9_isPart 1 = .ok (.iconst 1, 1) := by decide +kernel
theorem dX9_isPart_2 : decode cX9_isPart 2 = .ok (.bipush 99, 2) := by decide +kernel
theorem dX9_isPart_4 : decode cX9_isPart 4 = .ok (.invokestatic 44, 3) := by decide +kernel
theorem dX9_isPart_7 : decode cX9_isPart 7 = .ok (.ireturn, 1) := by decide +kernel
theorem dX9_isBolt_0 : decode cX9_isBolt 0 = .ok (.iload_n 1, 1) := by decide +kernel
theorem dX9_isBolt_1 : decode cX9_isBolt 1 = .ok (.iconst 0, 1) := by decide +kernel
theorem dX9_isBolt_2 : decode cX9_isBolt 2 = .ok (.aload_n 0, 1) := by decide +kernel
theorem dX9_isBolt_3 : decode cX9_isBolt 3 = .ok (.getfield 7, 3) := by decide +kernel
theorem dX9_isBolt_6 : decode cX9_isBolt 6 = .ok (.bipush 60, 2) := by decide +kernel
theorem dX9_isBolt_8 : decode cX9_isBolt 8 = .ok (.iaload, 1) := by decide +kernel
theorem dX9_isBolt_9 : decode cX9_isBolt 9 = .ok (.iconst 1, 1) := by decide +kernel
theorem dX9_isBolt_10 : decode cX9_isBolt 10 = .ok (.isub, 1) := by decide +kernel
theorem dX9_isBolt_11 : decode cX9_isBolt 11 = .ok (.invokestatic 44, 3) := by decide +kernel
theorem dX9_isBolt_14 : decode cX9_isBolt 14 = .ok (.ireturn, 1) := by decide +kernel
theorem dX9_saves_0 : decode cX9_saves 0 = .ok (.aload_n 0, 1) := by decide +kernel
theorem dX9_saves_1 : decode cX9_saves 1 = .ok (.getfield 48, 3) := by decide +kernel
theorem dX9_saves_4 : decode cX9_saves 4 = .ok (.bipush 6, 2) := by decide +kernel
theorem dX9_saves_6 : decode cX9_saves 6 = .ok (.if_icmp .ne 43, 3) := by decide +kernel
theorem dX9_saves_9 : decode cX9_saves 9 = .ok (.iconst 0, 1) := by decide +kernel
theorem dX9_saves_10 : decode cX9_saves 10 = .ok (.istore_n 1, 1) := by decide +kernel
theorem dX9_saves_11 : decode cX9_saves 11 = .ok (.iload_n 1, 1) := by decide +kernel
theorem dX9_saves_12 : decode cX9_saves 12 = .ok (.sipush 325, 3) := by decide +kernel
theorem dX9_saves_15 : decode cX9_saves 15 = .ok (.if_icmp .ge 24, 3) := by decide +kernel
theorem dX9_saves_18 : decode cX9_saves 18 = .ok (.aload_n 0, 1) := by decide +kernel
theorem dX9_saves_19 : decode cX9_saves 19 = .ok (.getfield 13, 3) := by decide +kernel
theorem dX9_saves_22 : decode cX9_saves 22 = .ok (.iload_n 1, 1) := by decide +kernel
theorem dX9_saves_23 : decode cX9_saves 23 = .ok (.aload_n 0, 1) := by decide +kernel
theorem dX9_saves_24 : decode cX9_saves 24 = .ok (.getfield 13, 3) := by decide +kernel
theorem dX9_saves_27 : decode cX9_saves 27 = .ok (.bipush 65, 2) := by decide +kernel
theorem dX9_saves_29 : decode cX9_saves 29 = .ok (.iload_n 1, 1) := by decide +kernel
theorem dX9_saves_30 : decode cX9_saves 30 = .ok (.iadd, 1) := by decide +kernel
theorem dX9_saves_31 : decode cX9_saves 31 = .ok (.iaload, 1) := by decide +kernel
theorem dX9_saves_32 : decode cX9_saves 32 = .ok (.iastore, 1) := by decide +kernel
theorem dX9_saves_33 : decode cX9_saves 33 = .ok (.iinc 1 1, 3) := by decide +kernel
theorem dX9_saves_36 : decode cX9_saves 36 = .ok (.goto (-25), 3) := by decide +kernel
theorem dX9_saves_39 : decode cX9_saves 39 = .ok (.aload_n 0, 1) := by decide +kernel
theorem dX9_saves_40 : decode cX9_saves 40 = .ok (.dup, 1) := by decide +kernel
theorem dX9_saves_41 : decode cX9_saves 41 = .ok (.getfield 48, 3) := by decide +kernel
theorem dX9_saves_44 : decode cX9_saves 44 = .ok (.iconst 1, 1) := by decide +kernel
theorem dX9_saves_45 : decode cX9_saves 45 = .ok (.isub, 1) := by decide +kernel
theorem dX9_saves_46 : decode cX9_saves 46 = .ok (.putfield 48, 3) := by decide +kernel
theorem dX9_saves_49 : decode cX9_saves 49 = .ok (.iconst 0, 1) := by decide +kernel
theorem dX9_saves_50 : decode cX9_saves 50 = .ok (.istore_n 1, 1) := by decide +kernel
theorem dX9_saves_51 : decode cX9_saves 51 = .ok (.iload_n 1, 1) := by decide +kernel
theorem dX9_saves_52 : decode cX9_saves 52 = .ok (.bipush 65, 2) := by decide +kernel
theorem dX9_saves_54 : decode cX9_saves 54 = .ok (.if_icmp .ge 29, 3) := by decide +kernel
theorem dX9_saves_57 : decode cX9_saves 57 = .ok (.aload_n 0, 1) := by decide +kernel
theorem dX9_saves_58 : decode cX9_saves 58 = .ok (.getfield 13, 3) := by decide +kernel
theorem dX9_saves_61 : decode cX9_saves 61 = .ok (.bipush 65, 2) := by decide +kernel
theorem dX9_saves_63 : decode cX9_saves 63 = .ok (.aload_n 0, 1) := by decide +kernel
theorem dX9_saves_64 : decode cX9_saves 64 = .ok (.getfield 48, 3) := by decide +kernel
theorem dX9_saves_67 : decode cX9_saves 67 = .ok (.imul, 1) := by decide +kernel
theorem dX9_saves_68 : decode cX9_saves 68 = .ok (.iload_n 1, 1) := by decide +kernel
theorem dX9_saves_69 : decode cX9_saves 69 = .ok (.iadd, 1) := by decide +kernel
theorem dX9_saves_70 : decode cX9_saves 70 = .ok (.aload_n 0, 1) := by decide +kernel
theorem dX9_saves_71 : decode cX9_saves 71 = .ok (.getfield 7, 3) := by decide +kernel
theorem dX9_saves_74 : decode cX9_saves 74 = .ok (.iload_n 1, 1) := by decide +kernel
theorem dX9_saves_75 : decode cX9_saves 75 = .ok (.iaload, 1) := by decide +kernel
theorem dX9_saves_76 : decode cX9_saves 76 = .ok (.iastore, 1) := by decide +kernel
theorem dX9_saves_77 : decode cX9_saves 77 = .ok (.iinc 1 1, 3) := by decide +kernel
theorem dX9_saves_80 : decode cX9_saves 80 = .ok (.goto (-29), 3) := by decide +kernel
theorem dX9_saves_83 : decode cX9_saves 83 = .ok (.aload_n 0, 1) := by decide +kernel
theorem dX9_saves_84 : decode cX9_saves 84 = .ok (.dup, 1) := by decide +kernel
theorem dX9_saves_85 : decode cX9_saves 85 = .ok (.getfield 48, 3) := by decide +kernel
theorem dX9_saves_88 : decode cX9_saves 88 = .ok (.iconst 1, 1) := by decide +kernel
theorem dX9_saves_89 : decode cX9_saves 89 = .ok (.iadd, 1) := by decide +kernel
theorem dX9_saves_90 : decode cX9_saves 90 = .ok (.putfield 48, 3) := by decide +kernel
theorem dX9_saves_93 : decode cX9_saves 93 = .ok (.return_, 1) := by decide +kernel
theorem dX9_at_0 : decode cX9_at 0 = .ok (.iload_n 0, 1) := by decide +kernel
theorem dX9_at_1 : decode cX9_at 1 = .ok (.istore_n 3, 1) := by decide +kernel
theorem dX9_at_2 : decode cX9_at 2 = .ok (.iload_n 1, 1) := by decide +kernel
theorem dX9_at_3 : decode cX9_at 3 = .ok (.iconst 1, 1) := by decide +kernel
theorem dX9_at_4 : decode cX9_at 4 = .ok (.isub, 1) := by decide +kernel
theorem dX9_at_5 : decode cX9_at 5 = .ok (.istore 4, 2) := by decide +kernel
theorem dX9_at_7 : decode cX9_at 7 = .ok (.iload 4, 2) := by decide +kernel
theorem dX9_at_9 : decode cX9_at 9 = .ok (.iload_n 2, 1) := by decide +kernel
theorem dX9_at_10 : decode cX9_at 10 = .ok (.if_icmp .le 14, 3) := by decide +kernel
theorem dX9_at_13 : decode cX9_at 13 = .ok (.iload_n 3, 1) := by decide +kernel
theorem dX9_at_14 : decode cX9_at 14 = .ok (.bipush 10, 2) := by decide +kernel
theorem dX9_at_16 : decode cX9_at 16 = .ok (.idiv, 1) := by decide +kernel
theorem dX9_at_17 : decode cX9_at 17 = .ok (.istore_n 3, 1) := by decide +kernel
theorem dX9_at_18 : decode cX9_at 18 = .ok (.iinc 4 (-1), 3) := by decide +kernel
theorem dX9_at_21 : decode cX9_at 21 = .ok (.goto (-14), 3) := by decide +kernel
theorem dX9_at_24 : decode cX9_at 24 = .ok (.iload_n 3, 1) := by decide +kernel
theorem dX9_at_25 : decode cX9_at 25 = .ok (.bipush 10, 2) := by decide +kernel
theorem dX9_at_27 : decode cX9_at 27 = .ok (.irem, 1) := by decide +kernel
theorem dX9_at_28 : decode cX9_at 28 = .ok (.ireturn, 1) := by decide +kernel
theorem dX9_isWay_0 : decode cX9_isWay 0 = .ok (.iconst 0, 1) := by decide +kernel
theorem dX9_isWay_1 : decode cX9_isWay 1 = .ok (.istore_n 2, 1) := by decide +kernel
theorem dX9_isWay_2 : decode cX9_isWay 2 = .ok (.iconst 0, 1) := by decide +kernel
theorem dX9_isWay_3 : decode cX9_isWay 3 = .ok (.istore_n 3, 1) := by decide +kernel
theorem dX9_isWay_4 : decode cX9_isWay 4 = .ok (.iload_n 3, 1) := by decide +kernel
theorem dX9_isWay_5 : decode cX9_isWay 5 = .ok (.iload_n 1, 1) := by decide +kernel
theorem dX9_isWay_6 : decode cX9_isWay 6 = .ok (.if_icmp .ge 44, 3) := by decide +kernel
theorem dX9_isWay_9 : decode cX9_isWay 9 = .ok (.iload_n 0, 1) := by decide +kernel
theorem dX9_isWay_10 : decode cX9_isWay 10 = .ok (.iload_n 1, 1) := by decide +kernel
theorem dX9_isWay_11 : decode cX9_isWay 11 = .ok (.iload_n 3, 1) := by decide +kernel
theorem dX9_isWay_12 : decode cX9_isWay 12 = .ok (.invokestatic 51, 3) := by decide +kernel
theorem dX9_isWay_15 : decode cX9_isWay 15 = .ok (.istore 4, 2) := by decide +kernel
theorem dX9_isWay_17 : decode cX9_isWay 17 = .ok (.iload 4, 2) := by decide +kernel
theorem dX9_isWay_19 : decode cX9_isWay 19 = .ok (.invokestatic 55, 3) := by decide +kernel
theorem dX9_isWay_22 : decode cX9_isWay 22 = .ok (.ifCond .eq 13, 3) := by decide +kernel
theorem dX9_isWay_25 : decode cX9_isWay 25 = .ok (.iload_n 2, 1) := by decide +kernel
theorem dX9_isWay_26 : decode cX9_isWay 26 = .ok (.iload 4, 2) := by decide +kernel
theorem dX9_isWay_28 : decode cX9_isWay 28 = .ok (.ishr, 1) := by decide +kernel
theorem dX9_isWay_29 : decode cX9_isWay 29 = .ok (.iconst 1, 1) := by decide +kernel
theorem dX9_isWay_30 : decode cX9_isWay 30 = .ok (.iand, 1) := by decide +kernel
theorem dX9_isWay_31 : decode cX9_isWay 31 = .ok (.iconst 1, 1) := by decide +kernel
theorem dX9_isWay_32 : decode cX9_isWay 32 = .ok (.if_icmp .ne 5, 3) := by decide +kernel
theorem dX9_isWay_35 : decode cX9_isWay 35 = .ok (.iconst 0, 1) := by decide +kernel
theorem dX9_isWay_36 : decode cX9_isWay 36 = .ok (.ireturn, 1) := by decide +kernel
theorem dX9_isWay_37 : decode cX9_isWay 37 = .ok (.iload_n 2, 1) := by decide +kernel
theorem dX9_isWay_38 : decode cX9_isWay 38 = .ok (.iconst 1, 1) := by decide +kernel
theorem dX9_isWay_39 : decode cX9_isWay 39 = .ok (.iload 4, 2) := by decide +kernel
theorem dX9_isWay_41 : decode cX9_isWay 41 = .ok (.ishl, 1) := by decide +kernel
theorem dX9_isWay_42 : decode cX9_isWay 42 = .ok (.ior, 1) := by decide +kernel
theorem dX9_isWay_43 : decode cX9_isWay 43 = .ok (.istore_n 2, 1) := by decide +kernel
theorem dX9_isWay_44 : decode cX9_isWay 44 = .ok (.iinc 3 1, 3) := by decide +kernel
theorem dX9_isWay_47 : decode cX9_isWay 47 = .ok (.goto (-43), 3) := by decide +kernel
theorem dX9_isWay_50 : decode cX9_isWay 50 = .ok (.iconst 1, 1) := by decide +kernel
theorem dX9_isWay_51 : decode cX9_isWay 51 = .ok (.ireturn, 1) := by decide +kernel
theorem dX9_isRing_0 : decode cX9_isRing 0 = .ok (.iload_n 0, 1) := by decide +kernel
theorem dX9_isRing_1 : decode cX9_isRing 1 = .ok (.iload_n 1, 1) := by decide +kernel
theorem dX9_isRing_2 : decode cX9_isRing 2 = .ok (.invokestatic 59, 3) := by decide +kernel
theorem dX9_isRing_5 : decode cX9_isRing 5 = .ok (.ifCond .eq 24, 3) := by decide +kernel
theorem dX9_isRing_8 : decode cX9_isRing 8 = .ok (.iload_n 0, 1) := by decide +kernel
theorem dX9_isRing_9 : decode cX9_isRing 9 = .ok (.iload_n 1, 1) := by decide +kernel
theorem dX9_isRing_10 : decode cX9_isRing 10 = .ok (.iconst 1, 1) := by decide +kernel
theorem dX9_isRing_11 : decode cX9_isRing 11 = .ok (.invokestatic 51, 3) := by decide +kernel
theorem dX9_isRing_14 : decode cX9_isRing 14 = .ok (.iload_n 0, 1) := by decide +kernel
theorem dX9_isRing_15 : decode cX9_isRing 15 = .ok (.iload_n 1, 1) := by decide +kernel
theorem dX9_isRing_16 : decode cX9_isRing 16 = .ok (.iload_n 1, 1) := by decide +kernel
theorem dX9_isRing_17 : decode cX9_isRing 17 = .ok (.iconst 1, 1) := by decide +kernel
theorem dX9_isRing_18 : decode cX9_isRing 18 = .ok (.isub, 1) := by decide +kernel
theorem dX9_isRing_19 : decode cX9_isRing 19 = .ok (.invokestatic 51, 3) := by decide +kernel
theorem dX9_isRing_22 : decode cX9_isRing 22 = .ok (.if_icmp .ge 7, 3) := by decide +kernel
theorem dX9_isRing_25 : decode cX9_isRing 25 = .ok (.iconst 1, 1) := by decide +kernel
theorem dX9_isRing_26 : decode cX9_isRing 26 = .ok (.goto 4, 3) := by decide +kernel
theorem dX9_isRing_29 : decode cX9_isRing 29 = .ok (.iconst 0, 1) := by decide +kernel
theorem dX9_isRing_30 : decode cX9_isRing 30 = .ok (.istore_n 2, 1) := by decide +kernel
theorem dX9_isRing_31 : decode cX9_isRing 31 = .ok (.iconst 1, 1) := by decide +kernel
theorem dX9_isRing_32 : decode cX9_isRing 32 = .ok (.istore_n 3, 1) := by decide +kernel
theorem dX9_isRing_33 : decode cX9_isRing 33 = .ok (.iload_n 3, 1) := by decide +kernel
theorem dX9_isRing_34 : decode cX9_isRing 34 = .ok (.iload_n 1, 1) := by decide +kernel
theorem dX9_isRing_35 : decode cX9_isRing 35 = .ok (.if_icmp .ge 34, 3) := by decide +kernel
theorem dX9_isRing_38 : decode cX9_isRing 38 = .ok (.iload_n 2, 1) := by decide +kernel
theorem dX9_isRing_39 : decode cX9_isRing 39 = .ok (.ifCond .eq 30, 3) := by decide +kernel
theorem dX9_isRing_42 : decode cX9_isRing 42 = .ok (.iload_n 0, 1) := by decide +kernel
theorem dX9_isRing_43 : decode cX9_isRing 43 = .ok (.iload_n 1, 1) := by decide +kernel
theorem dX9_isRing_44 : decode cX9_isRing 44 = .ok (.iconst 0, 1) := by decide +kernel
theorem dX9_isRing_45 : decode cX9_isRing 45 = .ok (.invokestatic 51, 3) := by decide +kernel
theorem dX9_isRing_48 : decode cX9_isRing 48 = .ok (.iload_n 0, 1) := by decide +kernel
theorem dX9_isRing_49 : decode cX9_isRing 49 = .ok (.iload_n 1, 1) := by decide +kernel
theorem dX9_isRing_50 : decode cX9_isRing 50 = .ok (.iload_n 3, 1) := by decide +kernel
theorem dX9_isRing_51 : decode cX9_isRing 51 = .ok (.invokestatic 51, 3) := by decide +kernel
theorem dX9_isRing_54 : decode cX9_isRing 54 = .ok (.if_icmp .ge 7, 3) := by decide +kernel
theorem dX9_isRing_57 : decode cX9_isRing 57 = .ok (.iconst 1, 1) := by decide +kernel
theorem dX9_isRing_58 : decode cX9_isRing 58 = .ok (.goto 4, 3) := by decide +kernel
theorem dX9_isRing_61 : decode cX9_isRing 61 = .ok (.iconst 0, 1) := by decide +kernel
theorem dX9_isRing_62 : decode cX9_isRing 62 = .ok (.istore_n 2, 1) := by decide +kernel
theorem dX9_isRing_63 : decode cX9_isRing 63 = .ok (.iinc 3 1, 3) := by decide +kernel
theorem dX9_isRing_66 : decode cX9_isRing 66 = .ok (.goto (-33), 3) := by decide +kernel
theorem dX9_isRing_69 : decode cX9_isRing 69 = .ok (.iload_n 2, 1) := by decide +kernel
theorem dX9_isRing_70 : decode cX9_isRing 70 = .ok (.ireturn, 1) := by decide +kernel
theorem dX9_pair_0 : decode cX9_pair 0 = .ok (.iload_n 0, 1) := by decide +kernel
theorem dX9_pair_1 : decode cX9_pair 1 = .ok (.iload_n 1, 1) := by decide +kernel
theorem dX9_pair_2 : decode cX9_pair 2 = .ok (.if_icmp .ge 7, 3) := by decide +kernel
theorem dX9_pair_5 : decode cX9_pair 5 = .ok (.iload_n 0, 1) := by decide +kernel
theorem dX9_pair_6 : decode cX9_pair 6 = .ok (.goto 4, 3) := by decide +kernel
theorem dX9_pair_9 : decode cX9_pair 9 = .ok (.iload_n 1, 1) := by decide +kernel
theorem dX9_pair_10 : decode cX9_pair 10 = .ok (.istore_n 2, 1) := by decide +kernel
theorem dX9_pair_11 : decode cX9_pair 11 = .ok (.iload_n 0, 1) := by decide +kernel
theorem dX9_pair_12 : decode cX9_pair 12 = .ok (.iload_n 1, 1) := by decide +kernel
theorem dX9_pair_13 : decode cX9_pair 13 = .ok (.if_icmp .ge 7, 3) := by decide +kernel
theorem dX9_pair_16 : decode cX9_pair 16 = .ok (.iload_n 1, 1) := by decide +kernel
theorem dX9_pair_17 : decode cX9_pair 17 = .ok (.goto 4, 3) := by decide +kernel
theorem dX9_pair_20 : decode cX9_pair 20 = .ok (.iload_n 0, 1) := by decide +kernel
theorem dX9_pair_21 : decode cX9_pair 21 = .ok (.istore_n 3, 1) := by decide +kernel
theorem dX9_pair_22 : decode cX9_pair 22 = .ok (.iload_n 2, 1) := by decide +kernel
theorem dX9_pair_23 : decode cX9_pair 23 = .ok (.iconst 4, 1) := by decide +kernel
theorem dX9_pair_24 : decode cX9_pair 24 = .ok (.imul, 1) := by decide +kernel
theorem dX9_pair_25 : decode cX9_pair 25 = .ok (.iload_n 2, 1) := by decide +kernel
theorem dX9_pair_26 : decode cX9_pair 26 = .ok (.iload_n 2, 1) := by decide +kernel
theorem dX9_pair_27 : decode cX9_pair 27 = .ok (.iconst 1, 1) := by decide +kernel
theorem dX9_pair_28 : decode cX9_pair 28 = .ok (.isub, 1) := by decide +kernel
theorem dX9_pair_29 : decode cX9_pair 29 = .ok (.imul, 1) := by decide +kernel
theorem dX9_pair_30 : decode cX9_pair 30 = .ok (.iconst 2, 1) := by decide +kernel
theorem dX9_pair_31 : decode cX9_pair 31 = .ok (.idiv, 1) := by decide +kernel
theorem dX9_pair_32 : decode cX9_pair 32 = .ok (.isub, 1) := by decide +kernel
theorem dX9_pair_33 : decode cX9_pair 33 = .ok (.iload_n 3, 1) := by decide +kernel
theorem dX9_pair_34 : decode cX9_pair 34 = .ok (.iadd, 1) := by decide +kernel
theorem dX9_pair_35 : decode cX9_pair 35 = .ok (.iload_n 2, 1) := by decide +kernel
theorem dX9_pair_36 : decode cX9_pair 36 = .ok (.isub, 1) := by decide +kernel
theorem dX9_pair_37 : decode cX9_pair 37 = .ok (.iconst 1, 1) := by decide +kernel
theorem dX9_pair_38 : decode cX9_pair 38 = .ok (.isub, 1) := by decide +kernel
theorem dX9_pair_39 : decode cX9_pair 39 = .ok (.ireturn, 1) := by decide +kernel
theorem dX9_has_0 : decode cX9_has 0 = .ok (.iload_n 1, 1) := by decide +kernel
theorem dX9_has_1 : decode cX9_has 1 = .ok (.iload_n 2, 1) := by decide +kernel
theorem dX9_has_2 : decode cX9_has 2 = .ok (.if_icmp .eq 22, 3) := by decide +kernel
theorem dX9_has_5 : decode cX9_has 5 = .ok (.aload_n 0, 1) := by decide +kernel
theorem dX9_has_6 : decode cX9_has 6 = .ok (.getfield 7, 3) := by decide +kernel
theorem dX9_has_9 : decode cX9_has 9 = .ok (.iconst 0, 1) := by decide +kernel
theorem dX9_has_10 : decode cX9_has 10 = .ok (.iload_n 1, 1) := by decide +kernel
theorem dX9_has_11 : decode cX9_has 11 = .ok (.iload_n 2, 1) := by decide +kernel
theorem dX9_has_12 : decode cX9_has 12 = .ok (.invokestatic 62, 3) := by decide +kernel
theorem dX9_has_15 : decode cX9_has 15 = .ok (.iadd, 1) := by decide +kernel
theorem dX9_has_16 : decode cX9_has 16 = .ok (.iaload, 1) := by decide +kernel
theorem dX9_has_17 : decode cX9_has 17 = .ok (.ifCond .le 7, 3) := by decide +kernel
theorem dX9_has_20 : decode cX9_has 20 = .ok (.iconst 1, 1) := by decide +kernel
theorem dX9_has_21 : decode cX9_has 21 = .ok (.goto 4, 3) := by decide +kernel
theorem dX9_has_24 : decode cX9_has 24 = .ok (.iconst 0, 1) := by decide +kernel
theorem dX9_has_25 : decode cX9_has 25 = .ok (.ireturn, 1) := by decide +kernel
theorem dX9_up_0 : decode cX9_up 0 = .ok (.aload_n 0, 1) := by decide +kernel
theorem dX9_up_1 : decode cX9_up 1 = .ok (.getfield 7, 3) := by decide +kernel
theorem dX9_up_4 : decode cX9_up 4 = .ok (.iload_n 1, 1) := by decide +kernel
theorem dX9_up_5 : decode cX9_up 5 = .ok (.iload_n 2, 1) := by decide +kernel
theorem dX9_up_6 : decode cX9_up 6 = .ok (.if_icmp .ge 7, 3) := by decide +kernel
theorem dX9_up_9 : decode cX9_up 9 = .ok (.iconst 0, 1) := by decide +kernel
theorem dX9_up_10 : decode cX9_up 10 = .ok (.goto 5, 3) := by decide +kernel
theorem dX9_up_13 : decode cX9_up 13 = .ok (.bipush 10, 2) := by decide +kernel
theorem dX9_up_15 : decode cX9_up 15 = .ok (.iload_n 1, 1) := by decide +kernel
theorem dX9_up_16 : decode cX9_up 16 = .ok (.iload_n 2, 1) := by decide +kernel
theorem dX9_up_17 : decode cX9_up 17 = .ok (.invokestatic 62, 3) := by decide +kernel
theorem dX9_up_20 : decode cX9_up 20 = .ok (.iadd, 1) := by decide +kernel
theorem dX9_up_21 : decode cX9_up 21 = .ok (.iaload, 1) := by decide +kernel
theorem dX9_up_22 : decode cX9_up 22 = .ok (.ireturn, 1) := by decide +kernel
theorem dX9_down_0 : decode cX9_down 0 = .ok (.aload_n 0, 1) := by decide +kernel
theorem dX9_down_1 : decode cX9_down 1 = .ok (.getfield 7, 3) := by decide +kernel
theorem dX9_down_4 : decode cX9_down 4 = .ok (.iload_n 1, 1) := by decide +kernel
theorem dX9_down_5 : decode cX9_down 5 = .ok (.iload_n 2, 1) := by decide +kernel
theorem dX9_down_6 : decode cX9_down 6 = .ok (.if_icmp .ge 8, 3) := by decide +kernel
theorem dX9_down_9 : decode cX9_down 9 = .ok (.bipush 10, 2) := by decide +kernel
theorem dX9_down_11 : decode cX9_down 11 = .ok (.goto 4, 3) := by decide +kernel
theorem dX9_down_14 : decode cX9_down 14 = .ok (.iconst 0, 1) := by decide +kernel
theorem dX9_down_15 : decode cX9_down 15 = .ok (.iload_n 1, 1) := by decide +kernel
theorem dX9_down_16 : decode cX9_down 16 = .ok (.iload_n 2, 1) := by decide +kernel
theorem dX9_down_17 : decode cX9_down 17 = .ok (.invokestatic 62, 3) := by decide +kernel
theorem dX9_down_20 : decode cX9_down 20 = .ok (.iadd, 1) := by decide +kernel
theorem dX9_down_21 : decode cX9_down 21 = .ok (.iaload, 1) := by decide +kernel
theorem dX9_down_22 : decode cX9_down 22 = .ok (.ireturn, 1) := by decide +kernel
theorem dX9_puts_0 : decode cX9_puts 0 = .ok (.aload_n 0, 1) := by decide +kernel
theorem dX9_puts_1 : decode cX9_puts 1 = .ok (.getfield 7, 3) := by decide +kernel
theorem dX9_puts_4 : decode cX9_puts 4 = .ok (.iconst 0, 1) := by decide +kernel
theorem dX9_puts_5 : decode cX9_puts 5 = .ok (.iload_n 1, 1) := by decide +kernel
theorem dX9_puts_6 : decode cX9_puts 6 = .ok (.iload_n 2, 1) := by decide +kernel
theorem dX9_puts_7 : decode cX9_puts 7 = .ok (.invokestatic 62, 3) := by decide +kernel
theorem dX9_puts_10 : decode cX9_puts 10 = .ok (.iadd, 1) := by decide +kernel
theorem dX9_puts_11 : decode cX9_puts 11 = .ok (.iload_n 1, 1) := by decide +kernel
theorem dX9_puts_12 : decode cX9_puts 12 = .ok (.iload_n 2, 1) := by decide +kernel
theorem dX9_puts_13 : decode cX9_puts 13 = .ok (.if_icmp .ge 7, 3) := by decide +kernel
theorem dX9_puts_16 : decode cX9_puts 16 = .ok (.iload_n 3, 1) := by decide +kernel
theorem dX9_puts_17 : decode cX9_puts 17 = .ok (.goto 5, 3) := by decide +kernel
theorem dX9_puts_20 : decode cX9_puts 20 = .ok (.iload 4, 2) := by decide +kernel
theorem dX9_puts_22 : decode cX9_puts 22 = .ok (.iastore, 1) := by decide +kernel
theorem dX9_puts_23 : decode cX9_puts 23 = .ok (.aload_n 0, 1) := by decide +kernel
theorem dX9_puts_24 : decode cX9_puts 24 = .ok (.getfield 7, 3) := by decide +kernel
theorem dX9_puts_27 : decode cX9_puts 27 = .ok (.bipush 10, 2) := by decide +kernel
theorem dX9_puts_29 : decode cX9_puts 29 = .ok (.iload_n 1, 1) := by decide +kernel
theorem dX9_puts_30 : decode cX9_puts 30 = .ok (.iload_n 2, 1) := by decide +kernel
theorem dX9_puts_31 : decode cX9_puts 31 = .ok (.invokestatic 62, 3) := by decide +kernel
theorem dX9_puts_34 : decode cX9_puts 34 = .ok (.iadd, 1) := by decide +kernel
theorem dX9_puts_35 : decode cX9_puts 35 = .ok (.iload_n 1, 1) := by decide +kernel
theorem dX9_puts_36 : decode cX9_puts 36 = .ok (.iload_n 2, 1) := by decide +kernel
theorem dX9_puts_37 : decode cX9_puts 37 = .ok (.if_icmp .ge 8, 3) := by decide +kernel
theorem dX9_puts_40 : decode cX9_puts 40 = .ok (.iload 4, 2) := by decide +kernel
theorem dX9_puts_42 : decode cX9_puts 42 = .ok (.goto 4, 3) := by decide +kernel
theorem dX9_puts_45 : decode cX9_puts 45 = .ok (.iload_n 3, 1) := by decide +kernel
theorem dX9_puts_46 : decode cX9_puts 46 = .ok (.iastore, 1) := by decide +kernel
theorem dX9_puts_47 : decode cX9_puts 47 = .ok (.return_, 1) := by decide +kernel
theorem dX9_isThere_0 : decode cX9_isThere 0 = .ok (.iconst 1, 1) := by decide +kernel
theorem dX9_isThere_1 : decode cX9_isThere 1 = .ok (.istore_n 2, 1) := by decide +kernel
theorem dX9_isThere_2 : decode cX9_isThere 2 = .ok (.iconst 0, 1) := by decide +kernel
theorem dX9_isThere_3 : decode cX9_isThere 3 = .ok (.istore_n 3, 1) := by decide +kernel
theorem dX9_isThere_4 : decode cX9_isThere 4 = .ok (.iload_n 3, 1) := by decide +kernel
theorem dX9_isThere_5 : decode cX9_isThere 5 = .ok (.aload_n 0, 1) := by decide +kernel
theorem dX9_isThere_6 : decode cX9_isThere 6 = .ok (.getfield 22, 3) := by decide +kernel
theorem dX9_isThere_9 : decode cX9_isThere 9 = .ok (.iload_n 1, 1) := by decide +kernel
theorem dX9_isThere_10 : decode cX9_isThere 10 = .ok (.iaload, 1) := by decide +kernel
theorem dX9_isThere_11 : decode cX9_isThere 11 = .ok (.if_icmp .ge 67, 3) := by decide +kernel
theorem dX9_isThere_14 : decode cX9_isThere 14 = .ok (.iload_n 2, 1) := by decide +kernel
theorem dX9_isThere_15 : decode cX9_isThere 15 = .ok (.ifCond .eq 55, 3) := by decide +kernel
theorem dX9_isThere_18 : decode cX9_isThere 18 = .ok (.aload_n 0, 1) := by decide +kernel
theorem dX9_isThere_19 : decode cX9_isThere 19 = .ok (.aload_n 0, 1) := by decide +kernel
theorem dX9_isThere_20 : decode cX9_isThere 20 = .ok (.getfield 25, 3) := by decide +kernel
theorem dX9_isThere_23 : decode cX9_isThere 23 = .ok (.iload_n 1, 1) := by decide +kernel
theorem dX9_isThere_24 : decode cX9_isThere 24 = .ok (.iaload, 1) := by decide +kernel
theorem dX9_isThere_25 : decode cX9_isThere 25 = .ok (.aload_n 0, 1) := by decide +kernel
theorem dX9_isThere_26 : decode cX9_isThere 26 = .ok (.getfield 22, 3) := by decide +kernel
theorem dX9_isThere_29 : decode cX9_isThere 29 = .ok (.iload_n 1, 1) := by decide +kernel
theorem dX9_isThere_30 : decode cX9_isThere 30 = .ok (.iaload, 1) := by decide +kernel
theorem dX9_isThere_31 : decode cX9_isThere 31 = .ok (.iload_n 3, 1) := by decide +kernel
theorem dX9_isThere_32 : decode cX9_isThere 32 = .ok (.invokestatic 51, 3) := by decide +kernel
theorem dX9_isThere_35 : decode cX9_isThere 35 = .ok (.aload_n 0, 1) := by decide +kernel
theorem dX9_isThere_36 : decode cX9_isThere 36 = .ok (.getfield 25, 3) := by decide +kernel
theorem dX9_isThere_39 : decode cX9_isThere 39 = .ok (.iload_n 1, 1) := by decide +kernel
theorem dX9_isThere_40 : decode cX9_isThere 40 = .ok (.iaload, 1) := by decide +kernel
theorem dX9_isThere_41 : decode cX9_isThere 41 = .ok (.aload_n 0, 1) := by decide +kernel
theorem dX9_isThere_42 : decode cX9_isThere 42 = .ok (.getfield 22, 3) := by decide +kernel
theorem dX9_isThere_45 : decode cX9_isThere 45 = .ok (.iload_n 1, 1) := by decide +kernel
theorem dX9_isThere_46 : decode cX9_isThere 46 = .ok (.iaload, 1) := by decide +kernel
theorem dX9_isThere_47 : decode cX9_isThere 47 = .ok (.iload_n 3, 1) := by decide +kernel
theorem dX9_isThere_48 : decode cX9_isThere 48 = .ok (.iconst 1, 1) := by decide +kernel
theorem dX9_isThere_49 : decode cX9_isThere 49 = .ok (.iadd, 1) := by decide +kernel
theorem dX9_isThere_50 : decode cX9_isThere 50 = .ok (.aload_n 0, 1) := by decide +kernel
theorem dX9_isThere_51 : decode cX9_isThere 51 = .ok (.getfield 22, 3) := by decide +kernel
theorem dX9_isThere_54 : decode cX9_isThere 54 = .ok (.iload_n 1, 1) := by decide +kernel
theorem dX9_isThere_55 : decode cX9_isThere 55 = .ok (.iaload, 1) := by decide +kernel
theorem dX9_isThere_56 : decode cX9_isThere 56 = .ok (.irem, 1) := by decide +kernel
theorem dX9_isThere_57 : decode cX9_isThere 57 = .ok (.invokestatic 51, 3) := by decide +kernel
theorem dX9_isThere_60 : decode cX9_isThere 60 = .ok (.invokevirtual 66, 3) := by decide +kernel
theorem dX9_isThere_63 : decode cX9_isThere 63 = .ok (.ifCond .eq 7, 3) := by decide +kernel
theorem dX9_isThere_66 : decode cX9_isThere 66 = .ok (.iconst 1, 1) := by decide +kernel
theorem dX9_isThere_67 : decode cX9_isThere 67 = .ok (.goto 4, 3) := by decide +kernel
theorem dX9_isThere_70 : decode cX9_isThere 70 = .ok (.iconst 0, 1) := by decide +kernel
theorem dX9_isThere_71 : decode cX9_isThere 71 = .ok (.istore_n 2, 1) := by decide +kernel
theorem dX9_isThere_72 : decode cX9_isThere 72 = .ok (.iinc 3 1, 3) := by decide +kernel
theorem dX9_isThere_75 : decode cX9_isThere 75 = .ok (.goto (-71), 3) := by decide +kernel
theorem dX9_isThere_78 : decode cX9_isThere 78 = .ok (.iload_n 2, 1) := by decide +kernel
theorem dX9_isThere_79 : decode cX9_isThere 79 = .ok (.ireturn, 1) := by decide +kernel
theorem dX9_hasTable_0 : decode cX9_hasTable 0 = .ok (.iconst 0, 1) := by decide +kernel
theorem dX9_hasTable_1 : decode cX9_hasTable 1 = .ok (.istore 4, 2) := by decide +kernel
theorem dX9_hasTable_3 : decode cX9_hasTable 3 = .ok (.iconst 0, 1) := by decide +kernel
theorem dX9_hasTable_4 : decode cX9_hasTable 4 = .ok (.istore 5, 2) := by decide +kernel
theorem dX9_hasTable_6 : decode cX9_hasTable 6 = .ok (.iload 5, 2) := by decide +kernel
theorem dX9_hasTable_8 : decode cX9_hasTable 8 = .ok (.aload_n 0, 1) := by decide +kernel
theorem dX9_hasTable_9 : decode cX9_hasTable 9 = .ok (.getfield 22, 3) := by decide +kernel
theorem dX9_hasTable_12 : decode cX9_hasTable 12 = .ok (.iload_n 1, 1) := by decide +kernel
theorem dX9_hasTable_13 : decode cX9_hasTable 13 = .ok (.iaload, 1) := by decide +kernel
theorem dX9_hasTable_14 : decode cX9_hasTable 14 = .ok (.if_icmp .ge 92, 3) := by decide +kernel
theorem dX9_hasTable_17 : decode cX9_hasTable 17 = .ok (.aload_n 0, 1) := by decide +kernel
theorem dX9_hasTable_18 : decode cX9_hasTable 18 = .ok (.getfield 25, 3) := by decide +kernel
theorem dX9_hasTable_21 : decode cX9_hasTable 21 = .ok (.iload_n 1, 1) := by decide +kernel
theorem dX9_hasTable_22 : decode cX9_hasTable 22 = .ok (.iaload, 1) := by decide +kernel
theorem dX9_hasTable_23 : decode cX9_hasTable 23 = .ok (.aload_n 0, 1) := by decide +kernel
theorem dX9_hasTable_24 : decode cX9_hasTable 24 = .ok (.getfield 22, 3) := by decide +kernel
theorem dX9_hasTable_27 : decode cX9_hasTable 27 = .ok (.iload_n 1, 1) := by decide +kernel
theorem dX9_hasTable_28 : decode cX9_hasTable 28 = .ok (.iaload, 1) := by decide +kernel
theorem dX9_hasTable_29 : decode cX9_hasTable 29 = .ok (.iload 5, 2) := by decide +kernel
theorem dX9_hasTable_31 : decode cX9_hasTable 31 = .ok (.invokestatic 51, 3) := by decide +kernel
theorem dX9_hasTable_34 : decode cX9_hasTable 34 = .ok (.istore 6, 2) := by decide +kernel
theorem dX9_hasTable_36 : decode cX9_hasTable 36 = .ok (.aload_n 0, 1) := by decide +kernel
theorem dX9_hasTable_37 : decode cX9_hasTable 37 = .ok (.getfield 25, 3) := by decide +kernel
theorem dX9_hasTable_40 : decode cX9_hasTable 40 = .ok (.iload_n 1, 1) := by decide +kernel
theorem dX9_hasTable_41 : decode cX9_hasTable 41 = .ok (.iaload, 1) := by decide +kernel
theorem dX9_hasTable_42 : decode cX9_hasTable 42 = .ok (.aload_n 0, 1) := by decide +kernel
theorem dX9_hasTable_43 : decode cX9_hasTable 43 = .ok (.getfield 22, 3) := by decide +kernel
theorem dX9_hasTable_46 : decode cX9_hasTable 46 = .ok (.iload_n 1, 1) := by decide +kernel
theorem dX9_hasTable_47 : decode cX9_hasTable 47 = .ok (.iaload, 1) := by decide +kernel
theorem dX9_hasTable_48 : decode cX9_hasTable 48 = .ok (.iload 5, 2) := by decide +kernel
theorem dX9_hasTable_50 : decode cX9_hasTable 50 = .ok (.iconst 1, 1) := by decide +kernel
theorem dX9_hasTable_51 : decode cX9_hasTable 51 = .ok (.iadd, 1) := by decide +kernel
theorem dX9_hasTable_52 : decode cX9_hasTable 52 = .ok (.aload_n 0, 1) := by decide +kernel
theorem dX9_hasTable_53 : decode cX9_hasTable 53 = .ok (.getfield 22, 3) := by decide +kernel
theorem dX9_hasTable_56 : decode cX9_hasTable 56 = .ok (.iload_n 1, 1) := by decide +kernel
theorem dX9_hasTable_57 : decode cX9_hasTable 57 = .ok (.iaload, 1) := by decide +kernel
theorem dX9_hasTable_58 : decode cX9_hasTable 58 = .ok (.irem, 1) := by decide +kernel
theorem dX9_hasTable_59 : decode cX9_hasTable 59 = .ok (.invokestatic 51, 3) := by decide +kernel
theorem dX9_hasTable_62 : decode cX9_hasTable 62 = .ok (.istore 7, 2) := by decide +kernel
theorem dX9_hasTable_64 : decode cX9_hasTable 64 = .ok (.iload 4, 2) := by decide +kernel
theorem dX9_hasTable_66 : decode cX9_hasTable 66 = .ok (.ifCond .ne 27, 3) := by decide +kernel
theorem dX9_hasTable_69 : decode cX9_hasTable 69 = .ok (.iload 6, 2) := by decide +kernel
theorem dX9_hasTable_71 : decode cX9_hasTable 71 = .ok (.iload_n 2, 1) := by decide +kernel
theorem dX9_hasTable_72 : decode cX9_hasTable 72 = .ok (.if_icmp .ne 9, 3) := by decide +kernel
theorem dX9_hasTable_75 : decode cX9_hasTable 75 = .ok (.iload 7, 2) := by decide +kernel
theorem dX9_hasTable_77 : decode cX9_hasTable 77 = .ok (.iload_n 3, 1) := by decide +kernel
theorem dX9_hasTable_78 : decode cX9_hasTable 78 = .ok (.if_icmp .eq 15, 3) := by decide +kernel
theorem dX9_hasTable_81 : decode cX9_hasTable 81 = .ok (.iload 6, 2) := by decide +kernel
theorem dX9_hasTable_83 : decode cX9_hasTable 83 = .ok (.iload_n 3, 1) := by decide +kernel
theorem dX9_hasTable_84 : decode cX9_hasTable 84 = .ok (.if_icmp .ne 13, 3) := by decide +kernel
theorem dX9_hasTable_87 : decode cX9_hasTable 87 = .ok (.iload 7, 2) := by decide +kernel
theorem dX9_hasTable_89 : decode cX9_hasTable 89 = .ok (.iload_n 2, 1) := by decide +kernel
theorem dX9_hasTable_90 : decode cX9_hasTable 90 = .ok (.if_icmp .ne 7, 3) := by decide +kernel
theorem dX9_hasTable_93 : decode cX9_hasTable 93 = .ok (.iconst 1, 1) := by decide +kernel
theorem dX9_hasTable_94 : decode cX9_hasTable 94 = .ok (.goto 4, 3) := by decide +kernel
theorem dX9_hasTable_97 : decode cX9_hasTable 97 = .ok (.iconst 0, 1) := by decide +kernel
theorem dX9_hasTable_98 : decode cX9_hasTable 98 = .ok (.istore 4, 2) := by decide +kernel
theorem dX9_hasTable_100 : decode cX9_hasTable 100 = .ok (.iinc 5 1, 3) := by decide +kernel
theorem dX9_hasTable_103 : decode cX9_hasTable 103 = .ok (.goto (-97), 3) := by decide +kernel
theorem dX9_hasTable_106 : decode cX9_hasTable 106 = .ok (.iload 4, 2) := by decide +kernel
theorem dX9_hasTable_108 : decode cX9_hasTable 108 = .ok (.ireturn, 1) := by decide +kernel
theorem dX9_product_0 : decode cX9_product 0 = .ok (.lconst 1, 1) := by decide +kernel
theorem dX9_product_1 : decode cX9_product 1 = .ok (.lstore_n 3, 1) := by decide +kernel
theorem dX9_product_2 : decode cX9_product 2 = .ok (.iconst 0, 1) := by decide +kernel
theorem dX9_product_3 : decode cX9_product 3 = .ok (.istore 5, 2) := by decide +kernel
theorem dX9_product_5 : decode cX9_product 5 = .ok (.iload 5, 2) := by decide +kernel
theorem dX9_product_7 : decode cX9_product 7 = .ok (.aload_n 0, 1) := by decide +kernel
theorem dX9_product_8 : decode cX9_product 8 = .ok (.getfield 22, 3) := by decide +kernel
theorem dX9_product_11 : decode cX9_product 11 = .ok (.iload_n 1, 1) := by decide +kernel
theorem dX9_product_12 : decode cX9_product 12 = .ok (.iaload, 1) := by decide +kernel
theorem dX9_product_13 : decode cX9_product 13 = .ok (.if_icmp .ge 84, 3) := by decide +kernel
theorem dX9_product_16 : decode cX9_product 16 = .ok (.aload_n 0, 1) := by decide +kernel
theorem dX9_product_17 : decode cX9_product 17 = .ok (.getfield 25, 3) := by decide +kernel
theorem dX9_product_20 : decode cX9_product 20 = .ok (.iload_n 1, 1) := by decide +kernel
theorem dX9_product_21 : decode cX9_product 21 = .ok (.iaload, 1) := by decide +kernel
theorem dX9_product_22 : decode cX9_product 22 = .ok (.aload_n 0, 1) := by decide +kernel
theorem dX9_product_23 : decode cX9_product 23 = .ok (.getfield 22, 3) := by decide +kernel
theorem dX9_product_26 : decode cX9_product 26 = .ok (.iload_n 1, 1) := by decide +kernel
theorem dX9_product_27 : decode cX9_product 27 = .ok (.iaload, 1) := by decide +kernel
theorem dX9_product_28 : decode cX9_product 28 = .ok (.iload 5, 2) := by decide +kernel
theorem dX9_product_30 : decode cX9_product 30 = .ok (.invokestatic 51, 3) := by decide +kernel
theorem dX9_product_33 : decode cX9_product 33 = .ok (.istore 6, 2) := by decide +kernel
theorem dX9_product_35 : decode cX9_product 35 = .ok (.aload_n 0, 1) := by decide +kernel
theorem dX9_product_36 : decode cX9_product 36 = .ok (.getfield 25, 3) := by decide +kernel
theorem dX9_product_39 : decode cX9_product 39 = .ok (.iload_n 1, 1) := by decide +kernel
theorem dX9_product_40 : decode cX9_product 40 = .ok (.iaload, 1) := by decide +kernel
theorem dX9_product_41 : decode cX9_product 41 = .ok (.aload_n 0, 1) := by decide +kernel
theorem dX9_product_42 : decode cX9_product 42 = .ok (.getfield 22, 3) := by decide +kernel
theorem dX9_product_45 : decode cX9_product 45 = .ok (.iload_n 1, 1) := by decide +kernel
theorem dX9_product_46 : decode cX9_product 46 = .ok (.iaload, 1) := by decide +kernel
theorem dX9_product_47 : decode cX9_product 47 = .ok (.iload 5, 2) := by decide +kernel
theorem dX9_product_49 : decode cX9_product 49 = .ok (.iconst 1, 1) := by decide +kernel
theorem dX9_product_50 : decode cX9_product 50 = .ok (.iadd, 1) := by decide +kernel
theorem dX9_product_51 : decode cX9_product 51 = .ok (.aload_n 0, 1) := by decide +kernel
theorem dX9_product_52 : decode cX9_product 52 = .ok (.getfield 22, 3) := by decide +kernel
theorem dX9_product_55 : decode cX9_product 55 = .ok (.iload_n 1, 1) := by decide +kernel
theorem dX9_product_56 : decode cX9_product 56 = .ok (.iaload, 1) := by decide +kernel
theorem dX9_product_57 : decode cX9_product 57 = .ok (.irem, 1) := by decide +kernel
theorem dX9_product_58 : decode cX9_product 58 = .ok (.invokestatic 51, 3) := by decide +kernel
theorem dX9_product_61 : decode cX9_product 61 = .ok (.istore 7, 2) := by decide +kernel
theorem dX9_product_63 : decode cX9_product 63 = .ok (.lload_n 3, 1) := by decide +kernel
theorem dX9_product_64 : decode cX9_product 64 = .ok (.iload_n 2, 1) := by decide +kernel
theorem dX9_product_65 : decode cX9_product 65 = .ok (.ifCond .eq 15, 3) := by decide +kernel
theorem dX9_product_68 : decode cX9_product 68 = .ok (.aload_n 0, 1) := by decide +kernel
theorem dX9_product_69 : decode cX9_product 69 = .ok (.iload 6, 2) := by decide +kernel
theorem dX9_product_71 : decode cX9_product 71 = .ok (.iload 7, 2) := by decide +kernel
theorem dX9_product_73 : decode cX9_product 73 = .ok (.invokevirtual 69, 3) := by decide +kernel
theorem dX9_product_76 : decode cX9_product 76 = .ok (.i2l, 1) := by decide +kernel
theorem dX9_product_77 : decode cX9_product 77 = .ok (.goto 12, 3) := by decide +kernel
theorem dX9_product_80 : decode cX9_product 80 = .ok (.aload_n 0, 1) := by decide +kernel
theorem dX9_product_81 : decode cX9_product 81 = .ok (.iload 6, 2) := by decide +kernel
theorem dX9_product_83 : decode cX9_product 83 = .ok (.iload 7, 2) := by decide +kernel
theorem dX9_product_85 : decode cX9_product 85 = .ok (.invokevirtual 72, 3) := by decide +kernel
theorem dX9_product_88 : decode cX9_product 88 = .ok (.i2l, 1) := by decide +kernel
theorem dX9_product_89 : decode cX9_product 89 = .ok (.lmul, 1) := by decide +kernel
theorem dX9_product_90 : decode cX9_product 90 = .ok (.lstore_n 3, 1) := by decide +kernel
theorem dX9_product_91 : decode cX9_product 91 = .ok (.iinc 5 1, 3) := by decide +kernel
theorem dX9_product_94 : decode cX9_product 94 = .ok (.goto (-89), 3) := by decide +kernel
theorem dX9_product_97 : decode cX9_product 97 = .ok (.lload_n 3, 1) := by decide +kernel
theorem dX9_product_98 : decode cX9_product 98 = .ok (.lreturn, 1) := by decide +kernel
theorem dX9_floored_0 : decode cX9_floored 0 = .ok (.lload_n 0, 1) := by decide +kernel
theorem dX9_floored_1 : decode cX9_floored 1 = .ok (.lload_n 2, 1) := by decide +kernel
theorem dX9_floored_2 : decode cX9_floored 2 = .ok (.ldiv, 1) := by decide +kernel
theorem dX9_floored_3 : decode cX9_floored 3 = .ok (.lstore 4, 2) := by decide +kernel
theorem dX9_floored_5 : decode cX9_floored 5 = .ok (.lload_n 0, 1) := by decide +kernel
theorem dX9_floored_6 : decode cX9_floored 6 = .ok (.lload_n 2, 1) := by decide +kernel
theorem dX9_floored_7 : decode cX9_floored 7 = .ok (.lrem, 1) := by decide +kernel
theorem dX9_floored_8 : decode cX9_floored 8 = .ok (.lconst 0, 1) := by decide +kernel
theorem dX9_floored_9 : decode cX9_floored 9 = .ok (.lcmp, 1) := by decide +kernel
theorem dX9_floored_10 : decode cX9_floored 10 = .ok (.ifCond .ge 10, 3) := by decide +kernel
theorem dX9_floored_13 : decode cX9_floored 13 = .ok (.lload 4, 2) := by decide +kernel
theorem dX9_floored_15 : decode cX9_floored 15 = .ok (.lconst 1, 1) := by decide +kernel
theorem dX9_floored_16 : decode cX9_floored 16 = .ok (.lsub, 1) := by decide +kernel
theorem dX9_floored_17 : decode cX9_floored 17 = .ok (.goto 5, 3) := by decide +kernel
theorem dX9_floored_20 : decode cX9_floored 20 = .ok (.lload 4, 2) := by decide +kernel
theorem dX9_floored_22 : decode cX9_floored 22 = .ok (.lreturn, 1) := by decide +kernel
theorem dX9_gain_0 : decode cX9_gain 0 = .ok (.aload_n 0, 1) := by decide +kernel
theorem dX9_gain_1 : decode cX9_gain 1 = .ok (.iload_n 1, 1) := by decide +kernel
theorem dX9_gain_2 : decode cX9_gain 2 = .ok (.iconst 0, 1) := by decide +kernel
theorem dX9_gain_3 : decode cX9_gain 3 = .ok (.invokevirtual 75, 3) := by decide +kernel
theorem dX9_gain_6 : decode cX9_gain 6 = .ok (.lstore_n 2, 1) := by decide +kernel
theorem dX9_gain_7 : decode cX9_gain 7 = .ok (.aload_n 0, 1) := by decide +kernel
theorem dX9_gain_8 : decode cX9_gain 8 = .ok (.iload_n 1, 1) := by decide +kernel
theorem dX9_gain_9 : decode cX9_gain 9 = .ok (.iconst 1, 1) := by decide +kernel
theorem dX9_gain_10 : decode cX9_gain 10 = .ok (.invokevirtual 75, 3) := by decide +kernel
theorem dX9_gain_13 : decode cX9_gain 13 = .ok (.lload_n 2, 1) := by decide +kernel
theorem dX9_gain_14 : decode cX9_gain 14 = .ok (.lsub, 1) := by decide +kernel
theorem dX9_gain_15 : decode cX9_gain 15 = .ok (.ldc2_w 79, 3) := by decide +kernel
theorem dX9_gain_18 : decode cX9_gain 18 = .ok (.lmul, 1) := by decide +kernel
theorem dX9_gain_19 : decode cX9_gain 19 = .ok (.lload_n 2, 1) := by decide +kernel
theorem dX9_gain_20 : decode cX9_gain 20 = .ok (.invokestatic 81, 3) := by decide +kernel
theorem dX9_gain_23 : decode cX9_gain 23 = .ok (.lreturn, 1) := by decide +kernel
theorem dX9_isOff_0 : decode cX9_isOff 0 = .ok (.aload_n 0, 1) := by decide +kernel
theorem dX9_isOff_1 : decode cX9_isOff 1 = .ok (.iload_n 1, 1) := by decide +kernel
theorem dX9_isOff_2 : decode cX9_isOff 2 = .ok (.invokevirtual 85, 3) := by decide +kernel
theorem dX9_isOff_5 : decode cX9_isOff 5 = .ok (.lstore_n 2, 1) := by decide +kernel
theorem dX9_isOff_6 : decode cX9_isOff 6 = .ok (.lload_n 2, 1) := by decide +kernel
theorem dX9_isOff_7 : decode cX9_isOff 7 = .ok (.lconst 0, 1) := by decide +kernel
theorem dX9_isOff_8 : decode cX9_isOff 8 = .ok (.lcmp, 1) := by decide +kernel
theorem dX9_isOff_9 : decode cX9_isOff 9 = .ok (.ifCond .ge 8, 3) := by decide +kernel
theorem dX9_isOff_12 : decode cX9_isOff 12 = .ok (.lload_n 2, 1) := by decide +kernel
theorem dX9_isOff_13 : decode cX9_isOff 13 = .ok (.lneg, 1) := by decide +kernel
theorem dX9_isOff_14 : decode cX9_isOff 14 = .ok (.goto 4, 3) := by decide +kernel
theorem dX9_isOff_17 : decode cX9_isOff 17 = .ok (.lload_n 2, 1) := by decide +kernel
theorem dX9_isOff_18 : decode cX9_isOff 18 = .ok (.aload_n 0, 1) := by decide +kernel
theorem dX9_isOff_19 : decode cX9_isOff 19 = .ok (.getfield 7, 3) := by decide +kernel
theorem dX9_isOff_22 : decode cX9_isOff 22 = .ok (.bipush 25, 2) := by decide +kernel
theorem dX9_isOff_24 : decode cX9_isOff 24 = .ok (.iaload, 1) := by decide +kernel
theorem dX9_isOff_25 : decode cX9_isOff 25 = .ok (.i2l, 1) := by decide +kernel
theorem dX9_isOff_26 : decode cX9_isOff 26 = .ok (.lcmp, 1) := by decide +kernel
theorem dX9_isOff_27 : decode cX9_isOff 27 = .ok (.ifCond .le 7, 3) := by decide +kernel
theorem dX9_isOff_30 : decode cX9_isOff 30 = .ok (.iconst 1, 1) := by decide +kernel
theorem dX9_isOff_31 : decode cX9_isOff 31 = .ok (.goto 4, 3) := by decide +kernel
theorem dX9_isOff_34 : decode cX9_isOff 34 = .ok (.iconst 0, 1) := by decide +kernel
theorem dX9_isOff_35 : decode cX9_isOff 35 = .ok (.ireturn, 1) := by decide +kernel
theorem dX9_rings_0 : decode cX9_rings 0 = .ok (.iconst 0, 1) := by decide +kernel
theorem dX9_rings_1 : decode cX9_rings 1 = .ok (.istore_n 1, 1) := by decide +kernel
theorem dX9_rings_2 : decode cX9_rings 2 = .ok (.iconst 0, 1) := by decide +kernel
theorem dX9_rings_3 : decode cX9_rings 3 = .ok (.istore_n 2, 1) := by decide +kernel
theorem dX9_rings_4 : decode cX9_rings 4 = .ok (.iload_n 2, 1) := by decide +kernel
theorem dX9_rings_5 : decode cX9_rings 5 = .ok (.bipush 37, 2) := by decide +kernel
theorem dX9_rings_7 : decode cX9_rings 7 = .ok (.if_icmp .ge 25, 3) := by decide +kernel
theorem dX9_rings_10 : decode cX9_rings 10 = .ok (.iload_n 1, 1) := by decide +kernel
theorem dX9_rings_11 : decode cX9_rings 11 = .ok (.aload_n 0, 1) := by decide +kernel
theorem dX9_rings_12 : decode cX9_rings 12 = .ok (.iload_n 2, 1) := by decide +kernel
theorem dX9_rings_13 : decode cX9_rings 13 = .ok (.invokevirtual 89, 3) := by decide +kernel
theorem dX9_rings_16 : decode cX9_rings 16 = .ok (.ifCond .eq 7, 3) := by decide +kernel
theorem dX9_rings_19 : decode cX9_rings 19 = .ok (.iconst 1, 1) := by decide +kernel
theorem dX9_rings_20 : decode cX9_rings 20 = .ok (.goto 4, 3) := by decide +kernel
theorem dX9_rings_23 : decode cX9_rings 23 = .ok (.iconst 0, 1) := by decide +kernel
theorem dX9_rings_24 : decode cX9_rings 24 = .ok (.iadd, 1) := by decide +kernel
theorem dX9_rings_25 : decode cX9_rings 25 = .ok (.istore_n 1, 1) := by decide +kernel
theorem dX9_rings_26 : decode cX9_rings 26 = .ok (.iinc 2 1, 3) := by decide +kernel
theorem dX9_rings_29 : decode cX9_rings 29 = .ok (.goto (-25), 3) := by decide +kernel
theorem dX9_rings_32 : decode cX9_rings 32 = .ok (.iload_n 1, 1) := by decide +kernel
theorem dX9_rings_33 : decode cX9_rings 33 = .ok (.ireturn, 1) := by decide +kernel
theorem dX9_offRings_0 : decode cX9_offRings 0 = .ok (.iconst 0, 1) := by decide +kernel
theorem dX9_offRings_1 : decode cX9_offRings 1 = .ok (.istore_n 1, 1) := by decide +kernel
theorem dX9_offRings_2 : decode cX9_offRings 2 = .ok (.iconst 0, 1) := by decide +kernel
theorem dX9_offRings_3 : decode cX9_offRings 3 = .ok (.istore_n 2, 1) := by decide +kernel
theorem dX9_offRings_4 : decode cX9_offRings 4 = .ok (.iload_n 2, 1) := by decide +kernel
theorem dX9_offRings_5 : decode cX9_offRings 5 = .ok (.bipush 37, 2) := by decide +kernel
theorem dX9_offRings_7 : decode cX9_offRings 7 = .ok (.if_icmp .ge 33, 3) := by decide +kernel
theorem dX9_offRings_10 : decode cX9_offRings 10 = .ok (.iload_n 1, 1) := by decide +kernel
theorem dX9_offRings_11 : decode cX9_offRings 11 = .ok (.aload_n 0, 1) := by decide +kernel
theorem dX9_offRings_12 : decode cX9_offRings 12 = .ok (.iload_n 2, 1) := by decide +kernel
theorem dX9_offRings_13 : decode cX9_offRings 13 = .ok (.invokevirtual 89, 3) := by decide +kernel
theorem dX9_offRings_16 : decode cX9_offRings 16 = .ok (.ifCond .eq 15, 3) := by decide +kernel
theorem dX9_offRings_19 : decode cX9_offRings 19 = .ok (.aload_n 0, 1) := by decide +kernel
theorem dX9_offRings_20 : decode cX9_offRings 20 = .ok (.iload_n 2, 1) := by decide +kernel
theorem dX9_offRings_21 : decode cX9_offRings 21 = .ok (.invokevirtual 92, 3) := by decide +kernel
theorem dX9_offRings_24 : decode cX9_offRings 24 = .ok (.ifCond .eq 7, 3) := by decide +kernel
theorem dX9_offRings_27 : decode cX9_offRings 27 = .ok (.iconst 1, 1) := by decide +kernel
theorem dX9_offRings_28 : decode cX9_offRings 28 = .ok (.goto 4, 3) := by decide +kernel
theorem dX9_offRings_31 : decode cX9_offRings 31 = .ok (.iconst 0, 1) := by decide +kernel
theorem dX9_offRings_32 : decode cX9_offRings 32 = .ok (.iadd, 1) := by decide +kernel
theorem dX9_offRings_33 : decode cX9_offRings 33 = .ok (.istore_n 1, 1) := by decide +kernel
theorem dX9_offRings_34 : decode cX9_offRings 34 = .ok (.iinc 2 1, 3) := by decide +kernel
theorem dX9_offRings_37 : decode cX9_offRings 37 = .ok (.goto (-33), 3) := by decide +kernel
theorem dX9_offRings_40 : decode cX9_offRings 40 = .ok (.iload_n 1, 1) := by decide +kernel
theorem dX9_offRings_41 : decode cX9_offRings 41 = .ok (.ireturn, 1) := by decide +kernel
theorem dX9_withTable_0 : decode cX9_withTable 0 = .ok (.iconst 0, 1) := by decide +kernel
theorem dX9_withTable_1 : decode cX9_withTable 1 = .ok (.istore_n 3, 1) := by decide +kernel
theorem dX9_withTable_2 : decode cX9_withTable 2 = .ok (.iconst 0, 1) := by decide +kernel
theorem dX9_withTable_3 : decode cX9_withTable 3 = .ok (.istore 4, 2) := by decide +kernel
theorem dX9_withTable_5 : decode cX9_withTable 5 = .ok (.iload 4, 2) := by decide +kernel
theorem dX9_withTable_7 : decode cX9_withTable 7 = .ok (.bipush 37, 2) := by decide +kernel
theorem dX9_withTable_9 : decode cX9_withTable 9 = .ok (.if_icmp .ge 37, 3) := by decide +kernel
theorem dX9_withTable_12 : decode cX9_withTable 12 = .ok (.iload_n 3, 1) := by decide +kernel
theorem dX9_withTable_13 : decode cX9_withTable 13 = .ok (.aload_n 0, 1) := by decide +kernel
theorem dX9_withTable_14 : decode cX9_withTable 14 = .ok (.iload 4, 2) := by decide +kernel
theorem dX9_withTable_16 : decode cX9_withTable 16 = .ok (.invokevirtual 89, 3) := by decide +kernel
theorem dX9_withTable_19 : decode cX9_withTable 19 = .ok (.ifCond .eq 18, 3) := by decide +kernel
theorem dX9_withTable_22 : decode cX9_withTable 22 = .ok (.aload_n 0, 1) := by decide +kernel
theorem dX9_withTable_23 : decode cX9_withTable 23 = .ok (.iload 4, 2) := by decide +kernel
theorem dX9_withTable_25 : decode cX9_withTable 25 = .ok (.iload_n 1, 1) := by decide +kernel
theorem dX9_withTable_26 : decode cX9_withTable 26 = .ok (.iload_n 2, 1) := by decide +kernel
theorem dX9_withTable_27 : decode cX9_withTable 27 = .ok (.invokevirtual 95, 3) := by decide +kernel
theorem dX9_withTable_30 : decode cX9_withTable 30 = .ok (.ifCond .eq 7, 3) := by decide +kernel
theorem dX9_withTable_33 : decode cX9_withTable 33 = .ok (.iconst 1, 1) := by decide +kernel
theorem dX9_withTable_34 : decode cX9_withTable 34 = .ok (.goto 4, 3) := by decide +kernel
theorem dX9_withTable_37 : decode cX9_withTable 37 = .ok (.iconst 0, 1) := by decide +kernel
theorem dX9_withTable_38 : decode cX9_withTable 38 = .ok (.iadd, 1) := by decide +kernel
theorem dX9_withTable_39 : decode cX9_withTable 39 = .ok (.istore_n 3, 1) := by decide +kernel
theorem dX9_withTable_40 : decode cX9_withTable 40 = .ok (.iinc 4 1, 3) := by decide +kernel
theorem dX9_withTable_43 : decode cX9_withTable 43 = .ok (.goto (-38), 3) := by decide +kernel
theorem dX9_withTable_46 : decode cX9_withTable 46 = .ok (.iload_n 3, 1) := by decide +kernel
theorem dX9_withTable_47 : decode cX9_withTable 47 = .ok (.ireturn, 1) := by decide +kernel
theorem dX9_isSound_0 : decode cX9_isSound 0 = .ok (.iconst 1, 1) := by decide +kernel
theorem dX9_isSound_1 : decode cX9_isSound 1 = .ok (.istore_n 1, 1) := by decide +kernel
theorem dX9_isSound_2 : decode cX9_isSound 2 = .ok (.iconst 0, 1) := by decide +kernel
theorem dX9_isSound_3 : decode cX9_isSound 3 = .ok (.istore_n 2, 1) := by decide +kernel
theorem dX9_isSound_4 : decode cX9_isSound 4 = .ok (.iload_n 2, 1) := by decide +kernel
theorem dX9_isSound_5 : decode cX9_isSound 5 = .ok (.bipush 37, 2) := by decide +kernel
theorem dX9_isSound_7 : decode cX9_isSound 7 = .ok (.if_icmp .ge 43, 3) := by decide +kernel
theorem dX9_isSound_10 : decode cX9_isSound 10 = .ok (.iload_n 1, 1) := by decide +kernel
theorem dX9_isSound_11 : decode cX9_isSound 11 = .ok (.ifCond .eq 31, 3) := by decide +kernel
theorem dX9_isSound_14 : decode cX9_isSound 14 = .ok (.aload_n 0, 1) := by decide +kernel
theorem dX9_isSound_15 : decode cX9_isSound 15 = .ok (.iload_n 2, 1) := by decide +kernel
theorem dX9_isSound_16 : decode cX9_isSound 16 = .ok (.invokevirtual 89, 3) := by decide +kernel
theorem dX9_isSound_19 : decode cX9_isSound 19 = .ok (.ifCond .eq 19, 3) := by decide +kernel
theorem dX9_isSound_22 : decode cX9_isSound 22 = .ok (.aload_n 0, 1) := by decide +kernel
theorem dX9_isSound_23 : decode cX9_isSound 23 = .ok (.iload_n 2, 1) := by decide +kernel
theorem dX9_isSound_24 : decode cX9_isSound 24 = .ok (.iconst 1, 1) := by decide +kernel
theorem dX9_isSound_25 : decode cX9_isSound 25 = .ok (.invokevirtual 75, 3) := by decide +kernel
theorem dX9_isSound_28 : decode cX9_isSound 28 = .ok (.aload_n 0, 1) := by decide +kernel
theorem dX9_isSound_29 : decode cX9_isSound 29 = .ok (.iload_n 2, 1) := by decide +kernel
theorem dX9_isSound_30 : decode cX9_isSound 30 = .ok (.iconst 0, 1) := by decide +kernel
theorem dX9_isSound_31 : decode cX9_isSound 31 = .ok (.invokevirtual 75, 3) := by decide +kernel
theorem dX9_isSound_34 : decode cX9_isSound 34 = .ok (.lcmp, 1) := by decide +kernel
theorem dX9_isSound_35 : decode cX9_isSound 35 = .ok (.ifCond .ne 7, 3) := by decide +kernel
theorem dX9_isSound_38 : decode cX9_isSound 38 = .ok (.iconst 1, 1) := by decide +kernel
theorem dX9_isSound_39 : decode cX9_isSound 39 = .ok (.goto 4, 3) := by decide +kernel
theorem dX9_isSound_42 : decode cX9_isSound 42 = .ok (.iconst 0, 1) := by decide +kernel
theorem dX9_isSound_43 : decode cX9_isSound 43 = .ok (.istore_n 1, 1) := by decide +kernel
theorem dX9_isSound_44 : decode cX9_isSound 44 = .ok (.iinc 2 1, 3) := by decide +kernel
theorem dX9_isSound_47 : decode cX9_isSound 47 = .ok (.goto (-43), 3) := by decide +kernel
theorem dX9_isSound_50 : decode cX9_isSound 50 = .ok (.iload_n 1, 1) := by decide +kernel
theorem dX9_isSound_51 : decode cX9_isSound 51 = .ok (.ireturn, 1) := by decide +kernel
theorem dX9_isMeasured_0 : decode cX9_isMeasured 0 = .ok (.aload_n 0, 1) := by decide +kernel
theorem dX9_isMeasured_1 : decode cX9_isMeasured 1 = .ok (.invokevirtual 98, 3) := by decide +kernel
theorem dX9_isMeasured_4 : decode cX9_isMeasured 4 = .ok (.iconst 1, 1) := by decide +kernel
theorem dX9_isMeasured_5 : decode cX9_isMeasured 5 = .ok (.istore_n 1, 1) := by decide +kernel
theorem dX9_isMeasured_6 : decode cX9_isMeasured 6 = .ok (.iconst 0, 1) := by decide +kernel
theorem dX9_isMeasured_7 : decode cX9_isMeasured 7 = .ok (.istore_n 2, 1) := by decide +kernel
theorem dX9_isMeasured_8 : decode cX9_isMeasured 8 = .ok (.iload_n 2, 1) := by decide +kernel
theorem dX9_isMeasured_9 : decode cX9_isMeasured 9 = .ok (.iconst 5, 1) := by decide +kernel
theorem dX9_isMeasured_10 : decode cX9_isMeasured 10 = .ok (.if_icmp .ge 89, 3) := by decide +kernel
theorem dX9_isMeasured_13 : decode cX9_isMeasured 13 = .ok (.iload_n 2, 1) := by decide +kernel
theorem dX9_isMeasured_14 : decode cX9_isMeasured 14 = .ok (.iconst 1, 1) := by decide +kernel
theorem dX9_isMeasured_15 : decode cX9_isMeasured 15 = .ok (.iadd, 1) := by decide +kernel
theorem dX9_isMeasured_16 : decode cX9_isMeasured 16 = .ok (.istore_n 3, 1) := by decide +kernel
theorem dX9_isMeasured_17 : decode cX9_isMeasured 17 = .ok (.iload_n 3, 1) := by decide +kernel
theorem dX9_isMeasured_18 : decode cX9_isMeasured 18 = .ok (.iconst 5, 1) := by decide +kernel
theorem dX9_isMeasured_19 : decode cX9_isMeasured 19 = .ok (.if_icmp .ge 74, 3) := by decide +kernel
theorem dX9_isMeasured_22 : decode cX9_isMeasured 22 = .ok (.iload_n 1, 1) := by decide +kernel
theorem dX9_isMeasured_23 : decode cX9_isMeasured 23 = .ok (.ifCond .eq 62, 3) := by decide +kernel
theorem dX9_isMeasured_26 : decode cX9_isMeasured 26 = .ok (.aload_n 0, 1) := by decide +kernel
theorem dX9_isMeasured_27 : decode cX9_isMeasured 27 = .ok (.iload_n 2, 1) := by decide +kernel
theorem dX9_isMeasured_28 : decode cX9_isMeasured 28 = .ok (.iload_n 3, 1) := by decide +kernel
theorem dX9_isMeasured_29 : decode cX9_isMeasured 29 = .ok (.invokevirtual 66, 3) := by decide +kernel
theorem dX9_isMeasured_32 : decode cX9_isMeasured 32 = .ok (.ifCond .eq 49, 3) := by decide +kernel
theorem dX9_isMeasured_35 : decode cX9_isMeasured 35 = .ok (.aload_n 0, 1) := by decide +kernel
theorem dX9_isMeasured_36 : decode cX9_isMeasured 36 = .ok (.getfield 28, 3) := by decide +kernel
theorem dX9_isMeasured_39 : decode cX9_isMeasured 39 = .ok (.iload_n 3, 1) := by decide +kernel
theorem dX9_isMeasured_40 : decode cX9_isMeasured 40 = .ok (.laload, 1) := by decide +kernel
theorem dX9_isMeasured_41 : decode cX9_isMeasured 41 = .ok (.aload_n 0, 1) := by decide +kernel
theorem dX9_isMeasured_42 : decode cX9_isMeasured 42 = .ok (.getfield 32, 3) := by decide +kernel
theorem dX9_isMeasured_45 : decode cX9_isMeasured 45 = .ok (.iload_n 2, 1) := by decide +kernel
theorem dX9_isMeasured_46 : decode cX9_isMeasured 46 = .ok (.laload, 1) := by decide +kernel
theorem dX9_isMeasured_47 : decode cX9_isMeasured 47 = .ok (.lmul, 1) := by decide +kernel
theorem dX9_isMeasured_48 : decode cX9_isMeasured 48 = .ok (.aload_n 0, 1) := by decide +kernel
theorem dX9_isMeasured_49 : decode cX9_isMeasured 49 = .ok (.iload_n 2, 1) := by decide +kernel
theorem dX9_isMeasured_50 : decode cX9_isMeasured 50 = .ok (.iload_n 3, 1) := by decide +kernel
theorem dX9_isMeasured_51 : decode cX9_isMeasured 51 = .ok (.invokevirtual 72, 3) := by decide +kernel
theorem dX9_isMeasured_54 : decode cX9_isMeasured 54 = .ok (.i2l, 1) := by decide +kernel
theorem dX9_isMeasured_55 : decode cX9_isMeasured 55 = .ok (.lmul, 1) := by decide +kernel
theorem dX9_isMeasured_56 : decode cX9_isMeasured 56 = .ok (.aload_n 0, 1) := by decide +kernel
theorem dX9_isMeasured_57 : decode cX9_isMeasured 57 = .ok (.getfield 28, 3) := by decide +kernel
theorem dX9_isMeasured_60 : decode cX9_isMeasured 60 = .ok (.iload_n 2, 1) := by decide +kernel
theorem dX9_isMeasured_61 : decode cX9_isMeasured 61 = .ok (.laload, 1) := by decide +kernel
theorem dX9_isMeasured_62 : decode cX9_isMeasured 62 = .ok (.aload_n 0, 1) := by decide +kernel
theorem dX9_isMeasured_63 : decode cX9_isMeasured 63 = .ok (.iload_n 2, 1) := by decide +kernel
theorem dX9_isMeasured_64 : decode cX9_isMeasured 64 = .ok (.iload_n 3, 1) := by decide +kernel
theorem dX9_isMeasured_65 : decode cX9_isMeasured 65 = .ok (.invokevirtual 69, 3) := by decide +kernel
theorem dX9_isMeasured_68 : decode cX9_isMeasured 68 = .ok (.i2l, 1) := by decide +kernel
theorem dX9_isMeasured_69 : decode cX9_isMeasured 69 = .ok (.lmul, 1) := by decide +kernel
theorem dX9_isMeasured_70 : decode cX9_isMeasured 70 = .ok (.aload_n 0, 1) := by decide +kernel
theorem dX9_isMeasured_71 : decode cX9_isMeasured 71 = .ok (.getfield 32, 3) := by decide +kernel
theorem dX9_isMeasured_74 : decode cX9_isMeasured 74 = .ok (.iload_n 3, 1) := by decide +kernel
theorem dX9_isMeasured_75 : decode cX9_isMeasured 75 = .ok (.laload, 1) := by decide +kernel
theorem dX9_isMeasured_76 : decode cX9_isMeasured 76 = .ok (.lmul, 1) := by decide +kernel
theorem dX9_isMeasured_77 : decode cX9_isMeasured 77 = .ok (.lcmp, 1) := by decide +kernel
theorem dX9_isMeasured_78 : decode cX9_isMeasured 78 = .ok (.ifCond .ne 7, 3) := by decide +kernel
theorem dX9_isMeasured_81 : decode cX9_isMeasured 81 = .ok (.iconst 1, 1) := by decide +kernel
theorem dX9_isMeasured_82 : decode cX9_isMeasured 82 = .ok (.goto 4, 3) := by decide +kernel
theorem dX9_isMeasured_85 : decode cX9_isMeasured 85 = .ok (.iconst 0, 1) := by decide +kernel
theorem dX9_isMeasured_86 : decode cX9_isMeasured 86 = .ok (.istore_n 1, 1) := by decide +kernel
theorem dX9_isMeasured_87 : decode cX9_isMeasured 87 = .ok (.iinc 3 1, 3) := by decide +kernel
theorem dX9_isMeasured_90 : decode cX9_isMeasured 90 = .ok (.goto (-73), 3) := by decide +kernel
theorem dX9_isMeasured_93 : decode cX9_isMeasured 93 = .ok (.iinc 2 1, 3) := by decide +kernel
theorem dX9_isMeasured_96 : decode cX9_isMeasured 96 = .ok (.goto (-88), 3) := by decide +kernel
theorem dX9_isMeasured_99 : decode cX9_isMeasured 99 = .ok (.iload_n 1, 1) := by decide +kernel
theorem dX9_isMeasured_100 : decode cX9_isMeasured 100 = .ok (.ireturn, 1) := by decide +kernel
theorem dX9_measures_0 : decode cX9_measures 0 = .ok (.iconst 0, 1) := by decide +kernel
theorem dX9_measures_1 : decode cX9_measures 1 = .ok (.istore_n 1, 1) := by decide +kernel
theorem dX9_measures_2 : decode cX9_measures 2 = .ok (.iload_n 1, 1) := by decide +kernel
theorem dX9_measures_3 : decode cX9_measures 3 = .ok (.iconst 5, 1) := by decide +kernel
theorem dX9_measures_4 : decode cX9_measures 4 = .ok (.if_icmp .ge 23, 3) := by decide +kernel
theorem dX9_measures_7 : decode cX9_measures 7 = .ok (.aload_n 0, 1) := by decide +kernel
theorem dX9_measures_8 : decode cX9_measures 8 = .ok (.getfield 28, 3) := by decide +kernel
theorem dX9_measures_11 : decode cX9_measures 11 = .ok (.iload_n 1, 1) := by decide +kernel
theorem dX9_measures_12 : decode cX9_measures 12 = .ok (.lconst 0, 1) := by decide +kernel
theorem dX9_measures_13 : decode cX9_measures 13 = .ok (.lastore, 1) := by decide +kernel
theorem dX9_measures_14 : decode cX9_measures 14 = .ok (.aload_n 0, 1) := by decide +kernel
theorem dX9_measures_15 : decode cX9_measures 15 = .ok (.getfield 32, 3) := by decide +kernel
theorem dX9_measures_18 : decode cX9_measures 18 = .ok (.iload_n 1, 1) := by decide +kernel
theorem dX9_measures_19 : decode cX9_measures 19 = .ok (.lconst 0, 1) := by decide +kernel
theorem dX9_measures_20 : decode cX9_measures 20 = .ok (.lastore, 1) := by decide +kernel
theorem dX9_measures_21 : decode cX9_measures 21 = .ok (.iinc 1 1, 3) := by decide +kernel
theorem dX9_measures_24 : decode cX9_measures 24 = .ok (.goto (-22), 3) := by decide +kernel
theorem dX9_measures_27 : decode cX9_measures 27 = .ok (.iconst 0, 1) := by decide +kernel
theorem dX9_measures_28 : decode cX9_measures 28 = .ok (.istore_n 1, 1) := by decide +kernel
theorem dX9_measures_29 : decode cX9_measures 29 = .ok (.iload_n 1, 1) := by decide +kernel
theorem dX9_measures_30 : decode cX9_measures 30 = .ok (.iconst 5, 1) := by decide +kernel
theorem dX9_measures_31 : decode cX9_measures 31 = .ok (.if_icmp .ge 38, 3) := by decide +kernel
theorem dX9_measures_34 : decode cX9_measures 34 = .ok (.aload_n 0, 1) := by decide +kernel
theorem dX9_measures_35 : decode cX9_measures 35 = .ok (.getfield 28, 3) := by decide +kernel
theorem dX9_measures_38 : decode cX9_measures 38 = .ok (.iload_n 1, 1) := by decide +kernel
theorem dX9_measures_39 : decode cX9_measures 39 = .ok (.laload, 1) := by decide +kernel
theorem dX9_measures_40 : decode cX9_measures 40 = .ok (.lconst 0, 1) := by decide +kernel
theorem dX9_measures_41 : decode cX9_measures 41 = .ok (.lcmp, 1) := by decide +kernel
theorem dX9_measures_42 : decode cX9_measures 42 = .ok (.ifCond .ne 21, 3) := by decide +kernel
theorem dX9_measures_45 : decode cX9_measures 45 = .ok (.aload_n 0, 1) := by decide +kernel
theorem dX9_measures_46 : decode cX9_measures 46 = .ok (.getfield 28, 3) := by decide +kernel
theorem dX9_measures_49 : decode cX9_measures 49 = .ok (.iload_n 1, 1) := by decide +kernel
theorem dX9_measures_50 : decode cX9_measures 50 = .ok (.lconst 1, 1) := by decide +kernel
theorem dX9_measures_51 : decode cX9_measures 51 = .ok (.lastore, 1) := by decide +kernel
theorem dX9_measures_52 : decode cX9_measures 52 = .ok (.aload_n 0, 1) := by decide +kernel
theorem dX9_measures_53 : decode cX9_measures 53 = .ok (.getfield 32, 3) := by decide +kernel
theorem dX9_measures_56 : decode cX9_measures 56 = .ok (.iload_n 1, 1) := by decide +kernel
theorem dX9_measures_57 : decode cX9_measures 57 = .ok (.lconst 1, 1) := by decide +kernel
theorem dX9_measures_58 : decode cX9_measures 58 = .ok (.lastore, 1) := by decide +kernel
theorem dX9_measures_59 : decode cX9_measures 59 = .ok (.aload_n 0, 1) := by decide +kernel
theorem dX9_measures_60 : decode cX9_measures 60 = .ok (.invokevirtual 101, 3) := by decide +kernel
theorem dX9_measures_63 : decode cX9_measures 63 = .ok (.iinc 1 1, 3) := by decide +kernel
theorem dX9_measures_66 : decode cX9_measures 66 = .ok (.goto (-37), 3) := by decide +kernel
theorem dX9_measures_69 : decode cX9_measures 69 = .ok (.return_, 1) := by decide +kernel
theorem dX9_spreads_0 : decode cX9_spreads 0 = .ok (.iconst 1, 1) := by decide +kernel
theorem dX9_spreads_1 : decode cX9_spreads 1 = .ok (.istore_n 1, 1) := by decide +kernel
theorem dX9_spreads_2 : decode cX9_spreads 2 = .ok (.iload_n 1, 1) := by decide +kernel
theorem dX9_spreads_3 : decode cX9_spreads 3 = .ok (.ifCond .eq 110, 3) := by decide +kernel
theorem dX9_spreads_6 : decode cX9_spreads 6 = .ok (.iconst 0, 1) := by decide +kernel
theorem dX9_spreads_7 : decode cX9_spreads 7 = .ok (.istore_n 1, 1) := by decide +kernel
theorem dX9_spreads_8 : decode cX9_spreads 8 = .ok (.iconst 0, 1) := by decide +kernel
theorem dX9_spreads_9 : decode cX9_spreads 9 = .ok (.istore_n 2, 1) := by decide +kernel
theorem dX9_spreads_10 : decode cX9_spreads 10 = .ok (.iload_n 2, 1) := by decide +kernel
theorem dX9_spreads_11 : decode cX9_spreads 11 = .ok (.bipush 25, 2) := by decide +kernel
theorem dX9_spreads_13 : decode cX9_spreads 13 = .ok (.if_icmp .ge 97, 3) := by decide +kernel
theorem dX9_spreads_16 : decode cX9_spreads 16 = .ok (.iload_n 2, 1) := by decide +kernel
theorem dX9_spreads_17 : decode cX9_spreads 17 = .ok (.iconst 5, 1) := by decide +kernel
theorem dX9_spreads_18 : decode cX9_spreads 18 = .ok (.idiv, 1) := by decide +kernel
theorem dX9_spreads_19 : decode cX9_spreads 19 = .ok (.istore_n 3, 1) := by decide +kernel
theorem dX9_spreads_20 : decode cX9_spreads 20 = .ok (.iload_n 2, 1) := by decide +kernel
theorem dX9_spreads_21 : decode cX9_spreads 21 = .ok (.iconst 5, 1) := by decide +kernel
theorem dX9_spreads_22 : decode cX9_spreads 22 = .ok (.irem, 1) := by decide +kernel
theorem dX9_spreads_23 : decode cX9_spreads 23 = .ok (.istore 4, 2) := by decide +kernel
theorem dX9_spreads_25 : decode cX9_spreads 25 = .ok (.aload_n 0, 1) := by decide +kernel
theorem dX9_spreads_26 : decode cX9_spreads 26 = .ok (.getfield 28, 3) := by decide +kernel
theorem dX9_spreads_29 : decode cX9_spreads 29 = .ok (.iload_n 3, 1) := by decide +kernel
theorem dX9_spreads_30 : decode cX9_spreads 30 = .ok (.laload, 1) := by decide +kernel
theorem dX9_spreads_31 : decode cX9_spreads 31 = .ok (.lconst 0, 1) := by decide +kernel
theorem dX9_spreads_32 : decode cX9_spreads 32 = .ok (.lcmp, 1) := by decide +kernel
theorem dX9_spreads_33 : decode cX9_spreads 33 = .ok (.ifCond .le 71, 3) := by decide +kernel
theorem dX9_spreads_36 : decode cX9_spreads 36 = .ok (.aload_n 0, 1) := by decide +kernel
theorem dX9_spreads_37 : decode cX9_spreads 37 = .ok (.getfield 28, 3) := by decide +kernel
theorem dX9_spreads_40 : decode cX9_spreads 40 = .ok (.iload 4, 2) := by decide +kernel
theorem dX9_spreads_42 : decode cX9_spreads 42 = .ok (.laload, 1) := by decide +kernel
theorem dX9_spreads_43 : decode cX9_spreads 43 = .ok (.lconst 0, 1) := by decide +kernel
theorem dX9_spreads_44 : decode cX9_spreads 44 = .ok (.lcmp, 1) := by decide +kernel
theorem dX9_spreads_45 : decode cX9_spreads 45 = .ok (.ifCond .ne 59, 3) := by decide +kernel
theorem dX9_spreads_48 : decode cX9_spreads 48 = .ok (.aload_n 0, 1) := by decide +kernel
theorem dX9_spreads_49 : decode cX9_spreads 49 = .ok (.iload_n 3, 1) := by decide +kernel
theorem dX9_spreads_50 : decode cX9_spreads 50 = .ok (.iload 4, 2) := by decide +kernel
theorem dX9_spreads_52 : decode cX9_spreads 52 = .ok (.invokevirtual 66, 3) := by decide +kernel
theorem dX9_spreads_55 : decode cX9_spreads 55 = .ok (.ifCond .eq 49, 3) := by decide +kernel
theorem dX9_spreads_58 : decode cX9_spreads 58 = .ok (.aload_n 0, 1) := by decide +kernel
theorem dX9_spreads_59 : decode cX9_spreads 59 = .ok (.getfield 28, 3) := by decide +kernel
theorem dX9_spreads_62 : decode cX9_spreads 62 = .ok (.iload 4, 2) := by decide +kernel
theorem dX9_spreads_64 : decode cX9_spreads 64 = .ok (.aload_n 0, 1) := by decide +kernel
theorem dX9_spreads_65 : decode cX9_spreads 65 = .ok (.getfield 28, 3) := by decide +kernel
theorem dX9_spreads_68 : decode cX9_spreads 68 = .ok (.iload_n 3, 1) := by decide +kernel
theorem dX9_spreads_69 : decode cX9_spreads 69 = .ok (.laload, 1) := by decide +kernel
theorem dX9_spreads_70 : decode cX9_spreads 70 = .ok (.aload_n 0, 1) := by decide +kernel
theorem dX9_spreads_71 : decode cX9_spreads 71 = .ok (.iload_n 3, 1) := by decide +kernel
theorem dX9_spreads_72 : decode cX9_spreads 72 = .ok (.iload 4, 2) := by decide +kernel
theorem dX9_spreads_74 : decode cX9_spreads 74 = .ok (.invokevirtual 69, 3) := by decide +kernel
theorem dX9_spreads_77 : decode cX9_spreads 77 = .ok (.i2l, 1) := by decide +kernel
theorem dX9_spreads_78 : decode cX9_spreads 78 = .ok (.lmul, 1) := by decide +kernel
theorem dX9_spreads_79 : decode cX9_spreads 79 = .ok (.lastore, 1) := by decide +kernel
theorem dX9_spreads_80 : decode cX9_spreads 80 = .ok (.aload_n 0, 1) := by decide +kernel
theorem dX9_spreads_81 : decode cX9_spreads 81 = .ok (.getfield 32, 3) := by decide +kernel
theorem dX9_spreads_84 : decode cX9_spreads 84 = .ok (.iload 4, 2) := by decide +kernel
theorem dX9_spreads_86 : decode cX9_spreads 86 = .ok (.aload_n 0, 1) := by decide +kernel
theorem dX9_spreads_87 : decode cX9_spreads 87 = .ok (.getfield 32, 3) := by decide +kernel
theorem dX9_spreads_90 : decode cX9_spreads 90 = .ok (.iload_n 3, 1) := by decide +kernel
theorem dX9_spreads_91 : decode cX9_spreads 91 = .ok (.laload, 1) := by decide +kernel
theorem dX9_spreads_92 : decode cX9_spreads 92 = .ok (.aload_n 0, 1) := by decide +kernel
theorem dX9_spreads_93 : decode cX9_spreads 93 = .ok (.iload_n 3, 1) := by decide +kernel
theorem dX9_spreads_94 : decode cX9_spreads 94 = .ok (.iload 4, 2) := by decide +kernel
theorem dX9_spreads_96 : decode cX9_spreads 96 = .ok (.invokevirtual 72, 3) := by decide +kernel
theorem dX9_spreads_99 : decode cX9_spreads 99 = .ok (.i2l, 1) := by decide +kernel
theorem dX9_spreads_100 : decode cX9_spreads 100 = .ok (.lmul, 1) := by decide +kernel
theorem dX9_spreads_101 : decode cX9_spreads 101 = .ok (.lastore, 1) := by decide +kernel
theorem dX9_spreads_102 : decode cX9_spreads 102 = .ok (.iconst 1, 1) := by decide +kernel
theorem dX9_spreads_103 : decode cX9_spreads 103 = .ok (.istore_n 1, 1) := by decide +kernel
theorem dX9_spreads_104 : decode cX9_spreads 104 = .ok (.iinc 2 1, 3) := by decide +kernel
theorem dX9_spreads_107 : decode cX9_spreads 107 = .ok (.goto (-97), 3) := by decide +kernel
theorem dX9_spreads_110 : decode cX9_spreads 110 = .ok (.goto (-108), 3) := by decide +kernel
theorem dX9_spreads_113 : decode cX9_spreads 113 = .ok (.return_, 1) := by decide +kernel
theorem dX9_offWith_0 : decode cX9_offWith 0 = .ok (.iconst 0, 1) := by decide +kernel
theorem dX9_offWith_1 : decode cX9_offWith 1 = .ok (.istore_n 3, 1) := by decide +kernel
theorem dX9_offWith_2 : decode cX9_offWith 2 = .ok (.iload_n 3, 1) := by decide +kernel
theorem dX9_offWith_3 : decode cX9_offWith 3 = .ok (.bipush 37, 2) := by decide +kernel
theorem dX9_offWith_5 : decode cX9_offWith 5 = .ok (.if_icmp .ge 42, 3) := by decide +kernel
theorem dX9_offWith_8 : decode cX9_offWith 8 = .ok (.aload_n 0, 1) := by decide +kernel
theorem dX9_offWith_9 : decode cX9_offWith 9 = .ok (.iload_n 3, 1) := by decide +kernel
theorem dX9_offWith_10 : decode cX9_offWith 10 = .ok (.iload_n 1, 1) := by decide +kernel
theorem dX9_offWith_11 : decode cX9_offWith 11 = .ok (.iload_n 2, 1) := by decide +kernel
theorem dX9_offWith_12 : decode cX9_offWith 12 = .ok (.invokevirtual 95, 3) := by decide +kernel
theorem dX9_offWith_15 : decode cX9_offWith 15 = .ok (.ifCond .eq 26, 3) := by decide +kernel
theorem dX9_offWith_18 : decode cX9_offWith 18 = .ok (.aload_n 0, 1) := by decide +kernel
theorem dX9_offWith_19 : decode cX9_offWith 19 = .ok (.iload_n 3, 1) := by decide +kernel
theorem dX9_offWith_20 : decode cX9_offWith 20 = .ok (.invokevirtual 89, 3) := by decide +kernel
theorem dX9_offWith_23 : decode cX9_offWith 23 = .ok (.ifCond .eq 18, 3) := by decide +kernel
theorem dX9_offWith_26 : decode cX9_offWith 26 = .ok (.aload_n 0, 1) := by decide +kernel
theorem dX9_offWith_27 : decode cX9_offWith 27 = .ok (.iload_n 3, 1) := by decide +kernel
theorem dX9_offWith_28 : decode cX9_offWith 28 = .ok (.invokevirtual 92, 3) := by decide +kernel
theorem dX9_offWith_31 : decode cX9_offWith 31 = .ok (.ifCond .eq 10, 3) := by decide +kernel
theorem dX9_offWith_34 : decode cX9_offWith 34 = .ok (.aload_n 0, 1) := by decide +kernel
theorem dX9_offWith_35 : decode cX9_offWith 35 = .ok (.getfield 25, 3) := by decide +kernel
theorem dX9_offWith_38 : decode cX9_offWith 38 = .ok (.iload_n 3, 1) := by decide +kernel
theorem dX9_offWith_39 : decode cX9_offWith 39 = .ok (.iaload, 1) := by decide +kernel
theorem dX9_offWith_40 : decode cX9_offWith 40 = .ok (.ireturn, 1) := by decide +kernel
theorem dX9_offWith_41 : decode cX9_offWith 41 = .ok (.iinc 3 1, 3) := by decide +kernel
theorem dX9_offWith_44 : decode cX9_offWith 44 = .ok (.goto (-42), 3) := by decide +kernel
theorem dX9_offWith_47 : decode cX9_offWith 47 = .ok (.iconst 0, 1) := by decide +kernel
theorem dX9_offWith_48 : decode cX9_offWith 48 = .ok (.ireturn, 1) := by decide +kernel
theorem dX9_offTried_0 : decode cX9_offTried 0 = .ok (.aload_n 0, 1) := by decide +kernel
theorem dX9_offTried_1 : decode cX9_offTried 1 = .ok (.iload_n 1, 1) := by decide +kernel
theorem dX9_offTried_2 : decode cX9_offTried 2 = .ok (.iload_n 2, 1) := by decide +kernel
theorem dX9_offTried_3 : decode cX9_offTried 3 = .ok (.invokevirtual 69, 3) := by decide +kernel
theorem dX9_offTried_6 : decode cX9_offTried 6 = .ok (.istore 5, 2) := by decide +kernel
theorem dX9_offTried_8 : decode cX9_offTried 8 = .ok (.aload_n 0, 1) := by decide +kernel
theorem dX9_offTried_9 : decode cX9_offTried 9 = .ok (.iload_n 1, 1) := by decide +kernel
theorem dX9_offTried_10 : decode cX9_offTried 10 = .ok (.iload_n 2, 1) := by decide +kernel
theorem dX9_offTried_11 : decode cX9_offTried 11 = .ok (.invokevirtual 72, 3) := by decide +kernel
theorem dX9_offTried_14 : decode cX9_offTried 14 = .ok (.istore 6, 2) := by decide +kernel
theorem dX9_offTried_16 : decode cX9_offTried 16 = .ok (.aload_n 0, 1) := by decide +kernel
theorem dX9_offTried_17 : decode cX9_offTried 17 = .ok (.iload_n 1, 1) := by decide +kernel
theorem dX9_offTried_18 : decode cX9_offTried 18 = .ok (.iload_n 2, 1) := by decide +kernel
theorem dX9_offTried_19 : decode cX9_offTried 19 = .ok (.iload_n 3, 1) := by decide +kernel
theorem dX9_offTried_20 : decode cX9_offTried 20 = .ok (.iload 4, 2) := by decide +kernel
theorem dX9_offTried_22 : decode cX9_offTried 22 = .ok (.invokevirtual 104, 3) := by decide +kernel
theorem dX9_offTried_25 : decode cX9_offTried 25 = .ok (.aload_n 0, 1) := by decide +kernel
theorem dX9_offTried_26 : decode cX9_offTried 26 = .ok (.iload_n 1, 1) := by decide +kernel
theorem dX9_offTried_27 : decode cX9_offTried 27 = .ok (.iload_n 2, 1) := by decide +kernel
theorem dX9_offTried_28 : decode cX9_offTried 28 = .ok (.invokevirtual 108, 3) := by decide +kernel
theorem dX9_offTried_31 : decode cX9_offTried 31 = .ok (.istore 7, 2) := by decide +kernel
theorem dX9_offTried_33 : decode cX9_offTried 33 = .ok (.aload_n 0, 1) := by decide +kernel
theorem dX9_offTried_34 : decode cX9_offTried 34 = .ok (.iload_n 1, 1) := by decide +kernel
theorem dX9_offTried_35 : decode cX9_offTried 35 = .ok (.iload_n 2, 1) := by decide +kernel
theorem dX9_offTried_36 : decode cX9_offTried 36 = .ok (.iload 5, 2) := by decide +kernel
theorem dX9_offTried_38 : decode cX9_offTried 38 = .ok (.iload 6, 2) := by decide +kernel
theorem dX9_offTried_40 : decode cX9_offTried 40 = .ok (.invokevirtual 104, 3) := by decide +kernel
theorem dX9_offTried_43 : decode cX9_offTried 43 = .ok (.iload 7, 2) := by decide +kernel
theorem dX9_offTried_45 : decode cX9_offTried 45 = .ok (.ireturn, 1) := by decide +kernel
theorem dX9_tables_0 : decode cX9_tables 0 = .ok (.iconst 0, 1) := by decide +kernel
theorem dX9_tables_1 : decode cX9_tables 1 = .ok (.istore_n 1, 1) := by decide +kernel
theorem dX9_tables_2 : decode cX9_tables 2 = .ok (.iconst 0, 1) := by decide +kernel
theorem dX9_tables_3 : decode cX9_tables 3 = .ok (.istore_n 2, 1) := by decide +kernel
theorem dX9_tables_4 : decode cX9_tables 4 = .ok (.iload_n 2, 1) := by decide +kernel
theorem dX9_tables_5 : decode cX9_tables 5 = .ok (.bipush 10, 2) := by decide +kernel
theorem dX9_tables_7 : decode cX9_tables 7 = .ok (.if_icmp .ge 28, 3) := by decide +kernel
theorem dX9_tables_10 : decode cX9_tables 10 = .ok (.iload_n 1, 1) := by decide +kernel
theorem dX9_tables_11 : decode cX9_tables 11 = .ok (.aload_n 0, 1) := by decide +kernel
theorem dX9_tables_12 : decode cX9_tables 12 = .ok (.getfield 7, 3) := by decide +kernel
theorem dX9_tables_15 : decode cX9_tables 15 = .ok (.iconst 0, 1) := by decide +kernel
theorem dX9_tables_16 : decode cX9_tables 16 = .ok (.iload_n 2, 1) := by decide +kernel
theorem dX9_tables_17 : decode cX9_tables 17 = .ok (.iadd, 1) := by decide +kernel
theorem dX9_tables_18 : decode cX9_tables 18 = .ok (.iaload, 1) := by decide +kernel
theorem dX9_tables_19 : decode cX9_tables 19 = .ok (.ifCond .le 7, 3) := by decide +kernel
theorem dX9_tables_22 : decode cX9_tables 22 = .ok (.iconst 1, 1) := by decide +kernel
theorem dX9_tables_23 : decode cX9_tables 23 = .ok (.goto 4, 3) := by decide +kernel
theorem dX9_tables_26 : decode cX9_tables 26 = .ok (.iconst 0, 1) := by decide +kernel
theorem dX9_tables_27 : decode cX9_tables 27 = .ok (.iadd, 1) := by decide +kernel
theorem dX9_tables_28 : decode cX9_tables 28 = .ok (.istore_n 1, 1) := by decide +kernel
theorem dX9_tables_29 : decode cX9_tables 29 = .ok (.iinc 2 1, 3) := by decide +kernel
theorem dX9_tables_32 : decode cX9_tables 32 = .ok (.goto (-28), 3) := by decide +kernel
theorem dX9_tables_35 : decode cX9_tables 35 = .ok (.iload_n 1, 1) := by decide +kernel
theorem dX9_tables_36 : decode cX9_tables 36 = .ok (.ireturn, 1) := by decide +kernel
theorem dX9_stick_0 : decode cX9_stick 0 = .ok (.aload_n 0, 1) := by decide +kernel
theorem dX9_stick_1 : decode cX9_stick 1 = .ok (.iload_n 1, 1) := by decide +kernel
theorem dX9_stick_2 : decode cX9_stick 2 = .ok (.invokestatic 55, 3) := by decide +kernel
theorem dX9_stick_5 : decode cX9_stick 5 = .ok (.ifCond .ne 7, 3) := by decide +kernel
theorem dX9_stick_8 : decode cX9_stick 8 = .ok (.iconst 1, 1) := by decide +kernel
theorem dX9_stick_9 : decode cX9_stick 9 = .ok (.goto 19, 3) := by decide +kernel
theorem dX9_stick_12 : decode cX9_stick 12 = .ok (.iload_n 2, 1) := by decide +kernel
theorem dX9_stick_13 : decode cX9_stick 13 = .ok (.bipush 20, 2) := by decide +kernel
theorem dX9_stick_15 : decode cX9_stick 15 = .ok (.bipush 60, 2) := by decide +kernel
theorem dX9_stick_17 : decode cX9_stick 17 = .ok (.invokestatic 44, 3) := by decide +kernel
theorem dX9_stick_20 : decode cX9_stick 20 = .ok (.ifCond .eq 7, 3) := by decide +kernel
theorem dX9_stick_23 : decode cX9_stick 23 = .ok (.iconst 0, 1) := by decide +kernel
theorem dX9_stick_24 : decode cX9_stick 24 = .ok (.goto 4, 3) := by decide +kernel
theorem dX9_stick_27 : decode cX9_stick 27 = .ok (.iconst 2, 1) := by decide +kernel
theorem dX9_stick_28 : decode cX9_stick 28 = .ok (.invokevirtual 111, 3) := by decide +kernel
theorem dX9_stick_31 : decode cX9_stick 31 = .ok (.ifCond .eq 5, 3) := by decide +kernel
theorem dX9_stick_34 : decode cX9_stick 34 = .ok (.iconst 0, 1) := by decide +kernel
theorem dX9_stick_35 : decode cX9_stick 35 = .ok (.ireturn, 1) := by decide +kernel
theorem dX9_stick_36 : decode cX9_stick 36 = .ok (.aload_n 0, 1) := by decide +kernel
theorem dX9_stick_37 : decode cX9_stick 37 = .ok (.invokevirtual 114, 3) := by decide +kernel
theorem dX9_stick_40 : decode cX9_stick 40 = .ok (.aload_n 0, 1) := by decide +kernel
theorem dX9_stick_41 : decode cX9_stick 41 = .ok (.getfield 7, 3) := by decide +kernel
theorem dX9_stick_44 : decode cX9_stick 44 = .ok (.bipush 20, 2) := by decide +kernel
theorem dX9_stick_46 : decode cX9_stick 46 = .ok (.iload_n 1, 1) := by decide +kernel
theorem dX9_stick_47 : decode cX9_stick 47 = .ok (.iadd, 1) := by decide +kernel
theorem dX9_stick_48 : decode cX9_stick 48 = .ok (.iaload, 1) := by decide +kernel
theorem dX9_stick_49 : decode cX9_stick 49 = .ok (.istore_n 3, 1) := by decide +kernel
theorem dX9_stick_50 : decode cX9_stick 50 = .ok (.aload_n 0, 1) := by decide +kernel
theorem dX9_stick_51 : decode cX9_stick 51 = .ok (.getfield 7, 3) := by decide +kernel
theorem dX9_stick_54 : decode cX9_stick 54 = .ok (.bipush 20, 2) := by decide +kernel
theorem dX9_stick_56 : decode cX9_stick 56 = .ok (.iload_n 1, 1) := by decide +kernel
theorem dX9_stick_57 : decode cX9_stick 57 = .ok (.iadd, 1) := by decide +kernel
theorem dX9_stick_58 : decode cX9_stick 58 = .ok (.iload_n 2, 1) := by decide +kernel
theorem dX9_stick_59 : decode cX9_stick 59 = .ok (.iastore, 1) := by decide +kernel
theorem dX9_stick_60 : decode cX9_stick 60 = .ok (.iload_n 3, 1) := by decide +kernel
theorem dX9_stick_61 : decode cX9_stick 61 = .ok (.ireturn, 1) := by decide +kernel
theorem dX9_badTable_0 : decode cX9_badTable 0 = .ok (.iload_n 0, 1) := by decide +kernel
theorem dX9_badTable_1 : decode cX9_badTable 1 = .ok (.invokestatic 55, 3) := by decide +kernel
theorem dX9_badTable_4 : decode cX9_badTable 4 = .ok (.ifCond .eq 10, 3) := by decide +kernel
theorem dX9_badTable_7 : decode cX9_badTable 7 = .ok (.iload_n 1, 1) := by decide +kernel
theorem dX9_badTable_8 : decode cX9_badTable 8 = .ok (.invokestatic 55, 3) := by decide +kernel
theorem dX9_badTable_11 : decode cX9_badTable 11 = .ok (.ifCond .ne 7, 3) := by decide +kernel
theorem dX9_badTable_14 : decode cX9_badTable 14 = .ok (.iconst 1, 1) := by decide +kernel
theorem dX9_badTable_15 : decode cX9_badTable 15 = .ok (.goto 27, 3) := by decide +kernel
theorem dX9_badTable_18 : decode cX9_badTable 18 = .ok (.iload_n 0, 1) := by decide +kernel
theorem dX9_badTable_19 : decode cX9_badTable 19 = .ok (.iload_n 1, 1) := by decide +kernel
theorem dX9_badTable_20 : decode cX9_badTable 20 = .ok (.if_icmp .eq 17, 3) := by decide +kernel
theorem dX9_badTable_23 : decode cX9_badTable 23 = .ok (.iload_n 2, 1) := by decide +kernel
theorem dX9_badTable_24 : decode cX9_badTable 24 = .ok (.invokestatic 117, 3) := by decide +kernel
theorem dX9_badTable_27 : decode cX9_badTable 27 = .ok (.ifCond .eq 10, 3) := by decide +kernel
theorem dX9_badTable_30 : decode cX9_badTable 30 = .ok (.iload_n 3, 1) := by decide +kernel
theorem dX9_badTable_31 : decode cX9_badTable 31 = .ok (.invokestatic 117, 3) := by decide +kernel
theorem dX9_badTable_34 : decode cX9_badTable 34 = .ok (.ifCond .ne 7, 3) := by decide +kernel
theorem dX9_badTable_37 : decode cX9_badTable 37 = .ok (.iconst 2, 1) := by decide +kernel
theorem dX9_badTable_38 : decode cX9_badTable 38 = .ok (.goto 4, 3) := by decide +kernel
theorem dX9_badTable_41 : decode cX9_badTable 41 = .ok (.iconst 0, 1) := by decide +kernel
theorem dX9_badTable_42 : decode cX9_badTable 42 = .ok (.ireturn, 1) := by decide +kernel
theorem dX9_table_0 : decode cX9_table 0 = .ok (.iload_n 1, 1) := by decide +kernel
theorem dX9_table_1 : decode cX9_table 1 = .ok (.iload_n 2, 1) := by decide +kernel
theorem dX9_table_2 : decode cX9_table 2 = .ok (.iload_n 3, 1) := by decide +kernel
theorem dX9_table_3 : decode cX9_table 3 = .ok (.iload 4, 2) := by decide +kernel
theorem dX9_table_5 : decode cX9_table 5 = .ok (.invokestatic 120, 3) := by decide +kernel
theorem dX9_table_8 : decode cX9_table 8 = .ok (.istore 5, 2) := by decide +kernel
theorem dX9_table_10 : decode cX9_table 10 = .ok (.aload_n 0, 1) := by decide +kernel
theorem dX9_table_11 : decode cX9_table 11 = .ok (.iload 5, 2) := by decide +kernel
theorem dX9_table_13 : decode cX9_table 13 = .ok (.ifCond .le 8, 3) := by decide +kernel
theorem dX9_table_16 : decode cX9_table 16 = .ok (.iload 5, 2) := by decide +kernel
theorem dX9_table_18 : decode cX9_table 18 = .ok (.goto 20, 3) := by decide +kernel
theorem dX9_table_21 : decode cX9_table 21 = .ok (.aload_n 0, 1) := by decide +kernel
theorem dX9_table_22 : decode cX9_table 22 = .ok (.iload_n 1, 1) := by decide +kernel
theorem dX9_table_23 : decode cX9_table 23 = .ok (.iload_n 2, 1) := by decide +kernel
theorem dX9_table_24 : decode cX9_table 24 = .ok (.iload_n 3, 1) := by decide +kernel
theorem dX9_table_25 : decode cX9_table 25 = .ok (.iload 4, 2) := by decide +kernel
theorem dX9_table_27 : decode cX9_table 27 = .ok (.invokevirtual 124, 3) := by decide +kernel
theorem dX9_table_30 : decode cX9_table 30 = .ok (.ifCond .le 7, 3) := by decide +kernel
theorem dX9_table_33 : decode cX9_table 33 = .ok (.iconst 3, 1) := by decide +kernel
theorem dX9_table_34 : decode cX9_table 34 = .ok (.goto 4, 3) := by decide +kernel
theorem dX9_table_37 : decode cX9_table 37 = .ok (.iconst 0, 1) := by decide +kernel
theorem dX9_table_38 : decode cX9_table 38 = .ok (.invokevirtual 111, 3) := by decide +kernel
theorem dX9_table_41 : decode cX9_table 41 = .ok (.ifCond .eq 5, 3) := by decide +kernel
theorem dX9_table_44 : decode cX9_table 44 = .ok (.iconst 0, 1) := by decide +kernel
theorem dX9_table_45 : decode cX9_table 45 = .ok (.ireturn, 1) := by decide +kernel
theorem dX9_table_46 : decode cX9_table 46 = .ok (.aload_n 0, 1) := by decide +kernel
theorem dX9_table_47 : decode cX9_table 47 = .ok (.invokevirtual 114, 3) := by decide +kernel
theorem dX9_table_50 : decode cX9_table 50 = .ok (.aload_n 0, 1) := by decide +kernel
theorem dX9_table_51 : decode cX9_table 51 = .ok (.iload_n 1, 1) := by decide +kernel
theorem dX9_table_52 : decode cX9_table 52 = .ok (.iload_n 2, 1) := by decide +kernel
theorem dX9_table_53 : decode cX9_table 53 = .ok (.iload_n 3, 1) := by decide +kernel
theorem dX9_table_54 : decode cX9_table 54 = .ok (.iload 4, 2) := by decide +kernel
theorem dX9_table_56 : decode cX9_table 56 = .ok (.invokevirtual 104, 3) := by decide +kernel
theorem dX9_table_59 : decode cX9_table 59 = .ok (.aload_n 0, 1) := by decide +kernel
theorem dX9_table_60 : decode cX9_table 60 = .ok (.invokevirtual 127, 3) := by decide +kernel
theorem dX9_table_63 : decode cX9_table 63 = .ok (.ireturn, 1) := by decide +kernel
theorem dX9_drop_0 : decode cX9_drop 0 = .ok (.aload_n 0, 1) := by decide +kernel
theorem dX9_drop_1 : decode cX9_drop 1 = .ok (.iload_n 1, 1) := by decide +kernel
theorem dX9_drop_2 : decode cX9_drop 2 = .ok (.invokestatic 55, 3) := by decide +kernel
theorem dX9_drop_5 : decode cX9_drop 5 = .ok (.ifCond .eq 10, 3) := by decide +kernel
theorem dX9_drop_8 : decode cX9_drop 8 = .ok (.iload_n 2, 1) := by decide +kernel
theorem dX9_drop_9 : decode cX9_drop 9 = .ok (.invokestatic 55, 3) := by decide +kernel
theorem dX9_drop_12 : decode cX9_drop 12 = .ok (.ifCond .ne 7, 3) := by decide +kernel
theorem dX9_drop_15 : decode cX9_drop 15 = .ok (.iconst 1, 1) := by decide +kernel
theorem dX9_drop_16 : decode cX9_drop 16 = .ok (.goto 17, 3) := by decide +kernel
theorem dX9_drop_19 : decode cX9_drop 19 = .ok (.aload_n 0, 1) := by decide +kernel
theorem dX9_drop_20 : decode cX9_drop 20 = .ok (.iload_n 1, 1) := by decide +kernel
theorem dX9_drop_21 : decode cX9_drop 21 = .ok (.iload_n 2, 1) := by decide +kernel
theorem dX9_drop_22 : decode cX9_drop 22 = .ok (.invokevirtual 66, 3) := by decide +kernel
theorem dX9_drop_25 : decode cX9_drop 25 = .ok (.ifCond .eq 7, 3) := by decide +kernel
theorem dX9_drop_28 : decode cX9_drop 28 = .ok (.iconst 0, 1) := by decide +kernel
theorem dX9_drop_29 : decode cX9_drop 29 = .ok (.goto 4, 3) := by decide +kernel
theorem dX9_drop_32 : decode cX9_drop 32 = .ok (.iconst 2, 1) := by decide +kernel
theorem dX9_drop_33 : decode cX9_drop 33 = .ok (.invokevirtual 111, 3) := by decide +kernel
theorem dX9_drop_36 : decode cX9_drop 36 = .ok (.ifCond .eq 5, 3) := by decide +kernel
theorem dX9_drop_39 : decode cX9_drop 39 = .ok (.iconst 0, 1) := by decide +kernel
theorem dX9_drop_40 : decode cX9_drop 40 = .ok (.ireturn, 1) := by decide +kernel
theorem dX9_drop_41 : decode cX9_drop 41 = .ok (.aload_n 0, 1) := by decide +kernel
theorem dX9_drop_42 : decode cX9_drop 42 = .ok (.invokevirtual 114, 3) := by decide +kernel
theorem dX9_drop_45 : decode cX9_drop 45 = .ok (.aload_n 0, 1) := by decide +kernel
theorem dX9_drop_46 : decode cX9_drop 46 = .ok (.iload_n 1, 1) := by decide +kernel
theorem dX9_drop_47 : decode cX9_drop 47 = .ok (.iload_n 2, 1) := by decide +kernel
theorem dX9_drop_48 : decode cX9_drop 48 = .ok (.iconst 0, 1) := by decide +kernel
theorem dX9_drop_49 : decode cX9_drop 49 = .ok (.iconst 0, 1) := by decide +kernel
theorem dX9_drop_50 : decode cX9_drop 50 = .ok (.invokevirtual 104, 3) := by decide +kernel
theorem dX9_drop_53 : decode cX9_drop 53 = .ok (.aload_n 0, 1) := by decide +kernel
theorem dX9_drop_54 : decode cX9_drop 54 = .ok (.invokevirtual 127, 3) := by decide +kernel
theorem dX9_drop_57 : decode cX9_drop 57 = .ok (.ireturn, 1) := by decide +kernel
theorem dX9_set_0 : decode cX9_set 0 = .ok (.iload_n 1, 1) := by decide +kernel
theorem dX9_set_1 : decode cX9_set 1 = .ok (.ifCond .ne 14, 3) := by decide +kernel
theorem dX9_set_4 : decode cX9_set 4 = .ok (.iload_n 2, 1) := by decide +kernel
theorem dX9_set_5 : decode cX9_set 5 = .ok (.iconst 0, 1) := by decide +kernel
theorem dX9_set_6 : decode cX9_set 6 = .ok (.sipush 500, 3) := by decide +kernel
theorem dX9_set_9 : decode cX9_set 9 = .ok (.invokestatic 44, 3) := by decide +kernel
theorem dX9_set_12 : decode cX9_set 12 = .ok (.goto 23, 3) := by decide +kernel
theorem dX9_set_15 : decode cX9_set 15 = .ok (.iload_n 1, 1) := by decide +kernel
theorem dX9_set_16 : decode cX9_set 16 = .ok (.iconst 1, 1) := by decide +kernel
theorem dX9_set_17 : decode cX9_set 17 = .ok (.if_icmp .ne 12, 3) := by decide +kernel
theorem dX9_set_20 : decode cX9_set 20 = .ok (.iload_n 2, 1) := by decide +kernel
theorem dX9_set_21 : decode cX9_set 21 = .ok (.iconst 0, 1) := by decide +kernel
theorem dX9_set_22 : decode cX9_set 22 = .ok (.iconst 1, 1) := by decide +kernel
theorem dX9_set_23 : decode cX9_set 23 = .ok (.invokestatic 44, 3) := by decide +kernel
theorem dX9_set_26 : decode cX9_set 26 = .ok (.goto 9, 3) := by decide +kernel
theorem dX9_set_29 : decode cX9_set 29 = .ok (.iload_n 2, 1) := by decide +kernel
theorem dX9_set_30 : decode cX9_set 30 = .ok (.iconst 1, 1) := by decide +kernel
theorem dX9_set_31 : decode cX9_set 31 = .ok (.iconst 4, 1) := by decide +kernel
theorem dX9_set_32 : decode cX9_set 32 = .ok (.invokestatic 44, 3) := by decide +kernel
theorem dX9_set_35 : decode cX9_set 35 = .ok (.istore_n 3, 1) := by decide +kernel
theorem dX9_set_36 : decode cX9_set 36 = .ok (.aload_n 0, 1) := by decide +kernel
theorem dX9_set_37 : decode cX9_set 37 = .ok (.iload_n 1, 1) := by decide +kernel
theorem dX9_set_38 : decode cX9_set 38 = .ok (.iconst 0, 1) := by decide +kernel
theorem dX9_set_39 : decode cX9_set 39 = .ok (.iconst 2, 1) := by decide +kernel
theorem dX9_set_40 : decode cX9_set 40 = .ok (.invokestatic 44, 3) := by decide +kernel
theorem dX9_set_43 : decode cX9_set 43 = .ok (.ifCond .ne 7, 3) := by decide +kernel
theorem dX9_set_46 : decode cX9_set 46 = .ok (.iconst 1, 1) := by decide +kernel
theorem dX9_set_47 : decode cX9_set 47 = .ok (.goto 12, 3) := by decide +kernel
theorem dX9_set_50 : decode cX9_set 50 = .ok (.iload_n 3, 1) := by decide +kernel
theorem dX9_set_51 : decode cX9_set 51 = .ok (.ifCond .eq 7, 3) := by decide +kernel
theorem dX9_set_54 : decode cX9_set 54 = .ok (.iconst 0, 1) := by decide +kernel
theorem dX9_set_55 : decode cX9_set 55 = .ok (.goto 4, 3) := by decide +kernel
theorem dX9_set_58 : decode cX9_set 58 = .ok (.iconst 2, 1) := by decide +kernel
theorem dX9_set_59 : decode cX9_set 59 = .ok (.invokevirtual 111, 3) := by decide +kernel
theorem dX9_set_62 : decode cX9_set 62 = .ok (.ifCond .eq 5, 3) := by decide +kernel
theorem dX9_set_65 : decode cX9_set 65 = .ok (.iconst 0, 1) := by decide +kernel
theorem dX9_set_66 : decode cX9_set 66 = .ok (.ireturn, 1) := by decide +kernel
theorem dX9_set_67 : decode cX9_set 67 = .ok (.aload_n 0, 1) := by decide +kernel
theorem dX9_set_68 : decode cX9_set 68 = .ok (.invokevirtual 114, 3) := by decide +kernel
theorem dX9_set_71 : decode cX9_set 71 = .ok (.aload_n 0, 1) := by decide +kernel
theorem dX9_set_72 : decode cX9_set 72 = .ok (.getfield 7, 3) := by decide +kernel
theorem dX9_set_75 : decode cX9_set 75 = .ok (.bipush 25, 2) := by decide +kernel
theorem dX9_set_77 : decode cX9_set 77 = .ok (.iload_n 1, 1) := by decide +kernel
theorem dX9_set_78 : decode cX9_set 78 = .ok (.iadd, 1) := by decide +kernel
theorem dX9_set_79 : decode cX9_set 79 = .ok (.iaload, 1) := by decide +kernel
theorem dX9_set_80 : decode cX9_set 80 = .ok (.istore 4, 2) := by decide +kernel
theorem dX9_set_82 : decode cX9_set 82 = .ok (.aload_n 0, 1) := by decide +kernel
theorem dX9_set_83 : decode cX9_set 83 = .ok (.getfield 7, 3) := by decide +kernel
theorem dX9_set_86 : decode cX9_set 86 = .ok (.bipush 25, 2) := by decide +kernel
theorem dX9_set_88 : decode cX9_set 88 = .ok (.iload_n 1, 1) := by decide +kernel
theorem dX9_set_89 : decode cX9_set 89 = .ok (.iadd, 1) := by decide +kernel
theorem dX9_set_90 : decode cX9_set 90 = .ok (.iload_n 2, 1) := by decide +kernel
theorem dX9_set_91 : decode cX9_set 91 = .ok (.iastore, 1) := by decide +kernel
theorem dX9_set_92 : decode cX9_set 92 = .ok (.iload 4, 2) := by decide +kernel
theorem dX9_set_94 : decode cX9_set 94 = .ok (.ireturn, 1) := by decide +kernel
theorem dX9_ofBolt_0 : decode cX9_ofBolt 0 = .ok (.aload_n 0, 1) := by decide +kernel
theorem dX9_ofBolt_1 : decode cX9_ofBolt 1 = .ok (.getfield 7, 3) := by decide +kernel
theorem dX9_ofBolt_4 : decode cX9_ofBolt 4 = .ok (.bipush 28, 2) := by decide +kernel
theorem dX9_ofBolt_6 : decode cX9_ofBolt 6 = .ok (.iconst 4, 1) := by decide +kernel
theorem dX9_ofBolt_7 : decode cX9_ofBolt 7 = .ok (.iload_n 1, 1) := by decide +kernel
theorem dX9_ofBolt_8 : decode cX9_ofBolt 8 = .ok (.imul, 1) := by decide +kernel
theorem dX9_ofBolt_9 : decode cX9_ofBolt 9 = .ok (.iadd, 1) := by decide +kernel
theorem dX9_ofBolt_10 : decode cX9_ofBolt 10 = .ok (.iload_n 2, 1) := by decide +kernel
theorem dX9_ofBolt_11 : decode cX9_ofBolt 11 = .ok (.iadd, 1) := by decide +kernel
theorem dX9_ofBolt_12 : decode cX9_ofBolt 12 = .ok (.iaload, 1) := by decide +kernel
theorem dX9_ofBolt_13 : decode cX9_ofBolt 13 = .ok (.ireturn, 1) := by decide +kernel
theorem dX9_turns_0 : decode cX9_turns 0 = .ok (.lload_n 3, 1) := by decide +kernel
theorem dX9_turns_1 : decode cX9_turns 1 = .ok (.aload_n 0, 1) := by decide +kernel
theorem dX9_turns_2 : decode cX9_turns 2 = .ok (.iload_n 1, 1) := by decide +kernel
theorem dX9_turns_3 : decode cX9_turns 3 = .ok (.iload_n 2, 1) := by decide +kernel
theorem dX9_turns_4 : decode cX9_turns 4 = .ok (.invokevirtual 69, 3) := by decide +kernel
theorem dX9_turns_7 : decode cX9_turns 7 = .ok (.i2l, 1) := by decide +kernel
theorem dX9_turns_8 : decode cX9_turns 8 = .ok (.lmul, 1) := by decide +kernel
theorem dX9_turns_9 : decode cX9_turns 9 = .ok (.lstore 5, 2) := by decide +kernel
theorem dX9_turns_11 : decode cX9_turns 11 = .ok (.aload_n 0, 1) := by decide +kernel
theorem dX9_turns_12 : decode cX9_turns 12 = .ok (.iload_n 1, 1) := by decide +kernel
theorem dX9_turns_13 : decode cX9_turns 13 = .ok (.iload_n 2, 1) := by decide +kernel
theorem dX9_turns_14 : decode cX9_turns 14 = .ok (.invokevirtual 72, 3) := by decide +kernel
theorem dX9_turns_17 : decode cX9_turns 17 = .ok (.i2l, 1) := by decide +kernel
theorem dX9_turns_18 : decode cX9_turns 18 = .ok (.lstore 7, 2) := by decide +kernel
theorem dX9_turns_20 : decode cX9_turns 20 = .ok (.aload_n 0, 1) := by decide +kernel
theorem dX9_turns_21 : decode cX9_turns 21 = .ok (.getfield 7, 3) := by decide +kernel
theorem dX9_turns_24 : decode cX9_turns 24 = .ok (.bipush 26, 2) := by decide +kernel
theorem dX9_turns_26 : decode cX9_turns 26 = .ok (.iaload, 1) := by decide +kernel
theorem dX9_turns_27 : decode cX9_turns 27 = .ok (.iconst 1, 1) := by decide +kernel
theorem dX9_turns_28 : decode cX9_turns 28 = .ok (.if_icmp .ne 11, 3) := by decide +kernel
theorem dX9_turns_31 : decode cX9_turns 31 = .ok (.lload 5, 2) := by decide +kernel
theorem dX9_turns_33 : decode cX9_turns 33 = .ok (.lload 7, 2) := by decide +kernel
theorem dX9_turns_35 : decode cX9_turns 35 = .ok (.ldiv, 1) := by decide +kernel
theorem dX9_turns_36 : decode cX9_turns 36 = .ok (.goto 19, 3) := by decide +kernel
theorem dX9_turns_39 : decode cX9_turns 39 = .ok (.ldc2_w 131, 3) := by decide +kernel
theorem dX9_turns_42 : decode cX9_turns 42 = .ok (.lload 5, 2) := by decide +kernel
theorem dX9_turns_44 : decode cX9_turns 44 = .ok (.lmul, 1) := by decide +kernel
theorem dX9_turns_45 : decode cX9_turns 45 = .ok (.lload 7, 2) := by decide +kernel
theorem dX9_turns_47 : decode cX9_turns 47 = .ok (.ladd, 1) := by decide +kernel
theorem dX9_turns_48 : decode cX9_turns 48 = .ok (.ldc2_w 131, 3) := by decide +kernel
theorem dX9_turns_51 : decode cX9_turns 51 = .ok (.lload 7, 2) := by decide +kernel
theorem dX9_turns_53 : decode cX9_turns 53 = .ok (.lmul, 1) := by decide +kernel
theorem dX9_turns_54 : decode cX9_turns 54 = .ok (.ldiv, 1) := by decide +kernel
theorem dX9_turns_55 : decode cX9_turns 55 = .ok (.lreturn, 1) := by decide +kernel
theorem dX9_gains_0 : decode cX9_gains 0 = .ok (.aload_n 0, 1) := by decide +kernel
theorem dX9_gains_1 : decode cX9_gains 1 = .ok (.iload_n 1, 1) := by decide +kernel
theorem dX9_gains_2 : decode cX9_gains 2 = .ok (.iload_n 2, 1) := by decide +kernel
theorem dX9_gains_3 : decode cX9_gains 3 = .ok (.invokevirtual 72, 3) := by decide +kernel
theorem dX9_gains_6 : decode cX9_gains 6 = .ok (.i2l, 1) := by decide +kernel
theorem dX9_gains_7 : decode cX9_gains 7 = .ok (.lstore 5, 2) := by decide +kernel
theorem dX9_gains_9 : decode cX9_gains 9 = .ok (.aload_n 0, 1) := by decide +kernel
theorem dX9_gains_10 : decode cX9_gains 10 = .ok (.iload_n 1, 1) := by decide +kernel
theorem dX9_gains_11 : decode cX9_gains 11 = .ok (.iload_n 2, 1) := by decide +kernel
theorem dX9_gains_12 : decode cX9_gains 12 = .ok (.lload_n 3, 1) := by decide +kernel
theorem dX9_gains_13 : decode cX9_gains 13 = .ok (.invokevirtual 133, 3) := by decide +kernel
theorem dX9_gains_16 : decode cX9_gains 16 = .ok (.lload 5, 2) := by decide +kernel
theorem dX9_gains_18 : decode cX9_gains 18 = .ok (.lmul, 1) := by decide +kernel
theorem dX9_gains_19 : decode cX9_gains 19 = .ok (.lload_n 3, 1) := by decide +kernel
theorem dX9_gains_20 : decode cX9_gains 20 = .ok (.aload_n 0, 1) := by decide +kernel
theorem dX9_gains_21 : decode cX9_gains 21 = .ok (.iload_n 1, 1) := by decide +kernel
theorem dX9_gains_22 : decode cX9_gains 22 = .ok (.iload_n 2, 1) := by decide +kernel
theorem dX9_gains_23 : decode cX9_gains 23 = .ok (.invokevirtual 69, 3) := by decide +kernel
theorem dX9_gains_26 : decode cX9_gains 26 = .ok (.i2l, 1) := by decide +kernel
theorem dX9_gains_27 : decode cX9_gains 27 = .ok (.lmul, 1) := by decide +kernel
theorem dX9_gains_28 : decode cX9_gains 28 = .ok (.lsub, 1) := by decide +kernel
theorem dX9_gains_29 : decode cX9_gains 29 = .ok (.ldc2_w 137, 3) := by decide +kernel
theorem dX9_gains_32 : decode cX9_gains 32 = .ok (.lmul, 1) := by decide +kernel
theorem dX9_gains_33 : decode cX9_gains 33 = .ok (.lload 5, 2) := by decide +kernel
theorem dX9_gains_35 : decode cX9_gains 35 = .ok (.invokestatic 81, 3) := by decide +kernel
theorem dX9_gains_38 : decode cX9_gains 38 = .ok (.lreturn, 1) := by decide +kernel
theorem dX9_comes_0 : decode cX9_comes 0 = .ok (.aload_n 0, 1) := by decide +kernel
theorem dX9_comes_1 : decode cX9_comes 1 = .ok (.getfield 7, 3) := by decide +kernel
theorem dX9_comes_4 : decode cX9_comes 4 = .ok (.bipush 60, 2) := by decide +kernel
theorem dX9_comes_6 : decode cX9_comes 6 = .ok (.iaload, 1) := by decide +kernel
theorem dX9_comes_7 : decode cX9_comes 7 = .ok (.istore_n 3, 1) := by decide +kernel
theorem dX9_comes_8 : decode cX9_comes 8 = .ok (.aload_n 0, 1) := by decide +kernel
theorem dX9_comes_9 : decode cX9_comes 9 = .ok (.getfield 7, 3) := by decide +kernel
theorem dX9_comes_12 : decode cX9_comes 12 = .ok (.bipush 28, 2) := by decide +kernel
theorem dX9_comes_14 : decode cX9_comes 14 = .ok (.iconst 4, 1) := by decide +kernel
theorem dX9_comes_15 : decode cX9_comes 15 = .ok (.iload_n 3, 1) := by decide +kernel
theorem dX9_comes_16 : decode cX9_comes 16 = .ok (.imul, 1) := by decide +kernel
theorem dX9_comes_17 : decode cX9_comes 17 = .ok (.iadd, 1) := by decide +kernel
theorem dX9_comes_18 : decode cX9_comes 18 = .ok (.iload_n 1, 1) := by decide +kernel
theorem dX9_comes_19 : decode cX9_comes 19 = .ok (.iastore, 1) := by decide +kernel
theorem dX9_comes_20 : decode cX9_comes 20 = .ok (.aload_n 0, 1) := by decide +kernel
theorem dX9_comes_21 : decode cX9_comes 21 = .ok (.getfield 7, 3) := by decide +kernel
theorem dX9_comes_24 : decode cX9_comes 24 = .ok (.bipush 28, 2) := by decide +kernel
theorem dX9_comes_26 : decode cX9_comes 26 = .ok (.iconst 4, 1) := by decide +kernel
theorem dX9_comes_27 : decode cX9_comes 27 = .ok (.iload_n 3, 1) := by decide +kernel
theorem dX9_comes_28 : decode cX9_comes 28 = .ok (.imul, 1) := by decide +kernel
theorem dX9_comes_29 : decode cX9_comes 29 = .ok (.iadd, 1) := by decide +kernel
theorem dX9_comes_30 : decode cX9_comes 30 = .ok (.iconst 1, 1) := by decide +kernel
theorem dX9_comes_31 : decode cX9_comes 31 = .ok (.iadd, 1) := by decide +kernel
theorem dX9_comes_32 : decode cX9_comes 32 = .ok (.iload_n 2, 1) := by decide +kernel
theorem dX9_comes_33 : decode cX9_comes 33 = .ok (.iastore, 1) := by decide +kernel
theorem dX9_comes_34 : decode cX9_comes 34 = .ok (.aload_n 0, 1) := by decide +kernel
theorem dX9_comes_35 : decode cX9_comes 35 = .ok (.getfield 7, 3) := by decide +kernel
theorem dX9_comes_38 : decode cX9_comes 38 = .ok (.bipush 28, 2) := by decide +kernel
theorem dX9_comes_40 : decode cX9_comes 40 = .ok (.iconst 4, 1) := by decide +kernel
theorem dX9_comes_41 : decode cX9_comes 41 = .ok (.iload_n 3, 1) := by decide +kernel
theorem dX9_comes_42 : decode cX9_comes 42 = .ok (.imul, 1) := by decide +kernel
theorem dX9_comes_43 : decode cX9_comes 43 = .ok (.iadd, 1) := by decide +kernel
theorem dX9_comes_44 : decode cX9_comes 44 = .ok (.iconst 2, 1) := by decide +kernel
theorem dX9_comes_45 : decode cX9_comes 45 = .ok (.iadd, 1) := by decide +kernel
theorem dX9_comes_46 : decode cX9_comes 46 = .ok (.iconst 0, 1) := by decide +kernel
theorem dX9_comes_47 : decode cX9_comes 47 = .ok (.iastore, 1) := by decide +kernel
theorem dX9_comes_48 : decode cX9_comes 48 = .ok (.aload_n 0, 1) := by decide +kernel
theorem dX9_comes_49 : decode cX9_comes 49 = .ok (.getfield 7, 3) := by decide +kernel
theorem dX9_comes_52 : decode cX9_comes 52 = .ok (.bipush 28, 2) := by decide +kernel
theorem dX9_comes_54 : decode cX9_comes 54 = .ok (.iconst 4, 1) := by decide +kernel
theorem dX9_comes_55 : decode cX9_comes 55 = .ok (.iload_n 3, 1) := by decide +kernel
theorem dX9_comes_56 : decode cX9_comes 56 = .ok (.imul, 1) := by decide +kernel
theorem dX9_comes_57 : decode cX9_comes 57 = .ok (.iadd, 1) := by decide +kernel
theorem dX9_comes_58 : decode cX9_comes 58 = .ok (.iconst 3, 1) := by decide +kernel
theorem dX9_comes_59 : decode cX9_comes 59 = .ok (.iadd, 1) := by decide +kernel
theorem dX9_comes_60 : decode cX9_comes 60 = .ok (.iconst 0, 1) := by decide +kernel
theorem dX9_comes_61 : decode cX9_comes 61 = .ok (.iastore, 1) := by decide +kernel
theorem dX9_comes_62 : decode cX9_comes 62 = .ok (.aload_n 0, 1) := by decide +kernel
theorem dX9_comes_63 : decode cX9_comes 63 = .ok (.getfield 7, 3) := by decide +kernel
theorem dX9_comes_66 : decode cX9_comes 66 = .ok (.bipush 60, 2) := by decide +kernel
theorem dX9_comes_68 : decode cX9_comes 68 = .ok (.dup2, 1) := by decide +kernel
theorem dX9_comes_69 : decode cX9_comes 69 = .ok (.iaload, 1) := by decide +kernel
theorem dX9_comes_70 : decode cX9_comes 70 = .ok (.iconst 1, 1) := by decide +kernel
theorem dX9_comes_71 : decode cX9_comes 71 = .ok (.iadd, 1) := by decide +kernel
theorem dX9_comes_72 : decode cX9_comes 72 = .ok (.iastore, 1) := by decide +kernel
theorem dX9_comes_73 : decode cX9_comes 73 = .ok (.iload_n 3, 1) := by decide +kernel
theorem dX9_comes_74 : decode cX9_comes 74 = .ok (.ireturn, 1) := by decide +kernel
theorem dX9_bolt_0 : decode cX9_bolt 0 = .ok (.aload_n 0, 1) := by decide +kernel
theorem dX9_bolt_1 : decode cX9_bolt 1 = .ok (.iload_n 1, 1) := by decide +kernel
theorem dX9_bolt_2 : decode cX9_bolt 2 = .ok (.invokestatic 55, 3) := by decide +kernel
theorem dX9_bolt_5 : decode cX9_bolt 5 = .ok (.ifCond .ne 7, 3) := by decide +kernel
theorem dX9_bolt_8 : decode cX9_bolt 8 = .ok (.iconst 1, 1) := by decide +kernel
theorem dX9_bolt_9 : decode cX9_bolt 9 = .ok (.goto 35, 3) := by decide +kernel
theorem dX9_bolt_12 : decode cX9_bolt 12 = .ok (.iload_n 2, 1) := by decide +kernel
theorem dX9_bolt_13 : decode cX9_bolt 13 = .ok (.iconst 1, 1) := by decide +kernel
theorem dX9_bolt_14 : decode cX9_bolt 14 = .ok (.sipush 9999, 3) := by decide +kernel
theorem dX9_bolt_17 : decode cX9_bolt 17 = .ok (.invokestatic 44, 3) := by decide +kernel
theorem dX9_bolt_20 : decode cX9_bolt 20 = .ok (.ifCond .ne 7, 3) := by decide +kernel
theorem dX9_bolt_23 : decode cX9_bolt 23 = .ok (.iconst 2, 1) := by decide +kernel
theorem dX9_bolt_24 : decode cX9_bolt 24 = .ok (.goto 20, 3) := by decide +kernel
theorem dX9_bolt_27 : decode cX9_bolt 27 = .ok (.aload_n 0, 1) := by decide +kernel
theorem dX9_bolt_28 : decode cX9_bolt 28 = .ok (.getfield 7, 3) := by decide +kernel
theorem dX9_bolt_31 : decode cX9_bolt 31 = .ok (.bipush 60, 2) := by decide +kernel
theorem dX9_bolt_33 : decode cX9_bolt 33 = .ok (.iaload, 1) := by decide +kernel
theorem dX9_bolt_34 : decode cX9_bolt 34 = .ok (.bipush 8, 2) := by decide +kernel
theorem dX9_bolt_36 : decode cX9_bolt 36 = .ok (.if_icmp .ne 7, 3) := by decide +kernel
theorem dX9_bolt_39 : decode cX9_bolt 39 = .ok (.iconst 3, 1) := by decide +kernel
theorem dX9_bolt_40 : decode cX9_bolt 40 = .ok (.goto 4, 3) := by decide +kernel
theorem dX9_bolt_43 : decode cX9_bolt 43 = .ok (.iconst 0, 1) := by decide +kernel
theorem dX9_bolt_44 : decode cX9_bolt 44 = .ok (.invokevirtual 111, 3) := by decide +kernel
theorem dX9_bolt_47 : decode cX9_bolt 47 = .ok (.ifCond .eq 5, 3) := by decide +kernel
theorem dX9_bolt_50 : decode cX9_bolt 50 = .ok (.iconst 0, 1) := by decide +kernel
theorem dX9_bolt_51 : decode cX9_bolt 51 = .ok (.ireturn, 1) := by decide +kernel
theorem dX9_bolt_52 : decode cX9_bolt 52 = .ok (.aload_n 0, 1) := by decide +kernel
theorem dX9_bolt_53 : decode cX9_bolt 53 = .ok (.invokevirtual 114, 3) := by decide +kernel
theorem dX9_bolt_56 : decode cX9_bolt 56 = .ok (.aload_n 0, 1) := by decide +kernel
theorem dX9_bolt_57 : decode cX9_bolt 57 = .ok (.iload_n 1, 1) := by decide +kernel
theorem dX9_bolt_58 : decode cX9_bolt 58 = .ok (.iload_n 2, 1) := by decide +kernel
theorem dX9_bolt_59 : decode cX9_bolt 59 = .ok (.invokevirtual 139, 3) := by decide +kernel
theorem dX9_bolt_62 : decode cX9_bolt 62 = .ok (.ireturn, 1) := by decide +kernel
theorem dX9_bar_0 : decode cX9_bar 0 = .ok (.aload_n 0, 1) := by decide +kernel
theorem dX9_bar_1 : decode cX9_bar 1 = .ok (.iload_n 1, 1) := by decide +kernel
theorem dX9_bar_2 : decode cX9_bar 2 = .ok (.iconst 0, 1) := by decide +kernel
theorem dX9_bar_3 : decode cX9_bar 3 = .ok (.invokevirtual 142, 3) := by decide +kernel
theorem dX9_bar_6 : decode cX9_bar 6 = .ok (.istore_n 3, 1) := by decide +kernel
theorem dX9_bar_7 : decode cX9_bar 7 = .ok (.iload_n 3, 1) := by decide +kernel
theorem dX9_bar_8 : decode cX9_bar 8 = .ok (.iload_n 2, 1) := by decide +kernel
theorem dX9_bar_9 : decode cX9_bar 9 = .ok (.if_icmp .ne 7, 3) := by decide +kernel
theorem dX9_bar_12 : decode cX9_bar 12 = .ok (.iconst 1, 1) := by decide +kernel
theorem dX9_bar_13 : decode cX9_bar 13 = .ok (.goto 41, 3) := by decide +kernel
theorem dX9_bar_16 : decode cX9_bar 16 = .ok (.aload_n 0, 1) := by decide +kernel
theorem dX9_bar_17 : decode cX9_bar 17 = .ok (.iload_n 3, 1) := by decide +kernel
theorem dX9_bar_18 : decode cX9_bar 18 = .ok (.iload_n 2, 1) := by decide +kernel
theorem dX9_bar_19 : decode cX9_bar 19 = .ok (.invokevirtual 66, 3) := by decide +kernel
theorem dX9_bar_22 : decode cX9_bar 22 = .ok (.ifCond .ne 7, 3) := by decide +kernel
theorem dX9_bar_25 : decode cX9_bar 25 = .ok (.iconst 2, 1) := by decide +kernel
theorem dX9_bar_26 : decode cX9_bar 26 = .ok (.goto 28, 3) := by decide +kernel
theorem dX9_bar_29 : decode cX9_bar 29 = .ok (.aload_n 0, 1) := by decide +kernel
theorem dX9_bar_30 : decode cX9_bar 30 = .ok (.iload_n 3, 1) := by decide +kernel
theorem dX9_bar_31 : decode cX9_bar 31 = .ok (.iload_n 2, 1) := by decide +kernel
theorem dX9_bar_32 : decode cX9_bar 32 = .ok (.aload_n 0, 1) := by decide +kernel
theorem dX9_bar_33 : decode cX9_bar 33 = .ok (.iload_n 1, 1) := by decide +kernel
theorem dX9_bar_34 : decode cX9_bar 34 = .ok (.iconst 1, 1) := by decide +kernel
theorem dX9_bar_35 : decode cX9_bar 35 = .ok (.invokevirtual 142, 3) := by decide +kernel
theorem dX9_bar_38 : decode cX9_bar 38 = .ok (.i2l, 1) := by decide +kernel
theorem dX9_bar_39 : decode cX9_bar 39 = .ok (.invokevirtual 133, 3) := by decide +kernel
theorem dX9_bar_42 : decode cX9_bar 42 = .ok (.ldc2_w 145, 3) := by decide +kernel
theorem dX9_bar_45 : decode cX9_bar 45 = .ok (.lcmp, 1) := by decide +kernel
theorem dX9_bar_46 : decode cX9_bar 46 = .ok (.ifCond .le 7, 3) := by decide +kernel
theorem dX9_bar_49 : decode cX9_bar 49 = .ok (.iconst 3, 1) := by decide +kernel
theorem dX9_bar_50 : decode cX9_bar 50 = .ok (.goto 4, 3) := by decide +kernel
theorem dX9_bar_53 : decode cX9_bar 53 = .ok (.iconst 0, 1) := by decide +kernel
theorem dX9_bar_54 : decode cX9_bar 54 = .ok (.ireturn, 1) := by decide +kernel
theorem dX9_sends_0 : decode cX9_sends 0 = .ok (.aload_n 0, 1) := by decide +kernel
theorem dX9_sends_1 : decode cX9_sends 1 = .ok (.iload_n 1, 1) := by decide +kernel
theorem dX9_sends_2 : decode cX9_sends 2 = .ok (.iconst 0, 1) := by decide +kernel
theorem dX9_sends_3 : decode cX9_sends 3 = .ok (.invokevirtual 142, 3) := by decide +kernel
theorem dX9_sends_6 : decode cX9_sends 6 = .ok (.istore_n 3, 1) := by decide +kernel
theorem dX9_sends_7 : decode cX9_sends 7 = .ok (.aload_n 0, 1) := by decide +kernel
theorem dX9_sends_8 : decode cX9_sends 8 = .ok (.iload_n 1, 1) := by decide +kernel
theorem dX9_sends_9 : decode cX9_sends 9 = .ok (.iconst 1, 1) := by decide +kernel
theorem dX9_sends_10 : decode cX9_sends 10 = .ok (.invokevirtual 142, 3) := by decide +kernel
theorem dX9_sends_13 : decode cX9_sends 13 = .ok (.istore 4, 2) := by decide +kernel
theorem dX9_sends_15 : decode cX9_sends 15 = .ok (.aload_n 0, 1) := by decide +kernel
theorem dX9_sends_16 : decode cX9_sends 16 = .ok (.iload_n 3, 1) := by decide +kernel
theorem dX9_sends_17 : decode cX9_sends 17 = .ok (.iload_n 2, 1) := by decide +kernel
theorem dX9_sends_18 : decode cX9_sends 18 = .ok (.iload 4, 2) := by decide +kernel
theorem dX9_sends_20 : decode cX9_sends 20 = .ok (.i2l, 1) := by decide +kernel
theorem dX9_sends_21 : decode cX9_sends 21 = .ok (.invokevirtual 147, 3) := by decide +kernel
theorem dX9_sends_24 : decode cX9_sends 24 = .ok (.l2i, 1) := by decide +kernel
theorem dX9_sends_25 : decode cX9_sends 25 = .ok (.istore 5, 2) := by decide +kernel
theorem dX9_sends_27 : decode cX9_sends 27 = .ok (.aload_n 0, 1) := by decide +kernel
theorem dX9_sends_28 : decode cX9_sends 28 = .ok (.getfield 7, 3) := by decide +kernel
theorem dX9_sends_31 : decode cX9_sends 31 = .ok (.bipush 28, 2) := by decide +kernel
theorem dX9_sends_33 : decode cX9_sends 33 = .ok (.iconst 4, 1) := by decide +kernel
theorem dX9_sends_34 : decode cX9_sends 34 = .ok (.iload_n 1, 1) := by decide +kernel
theorem dX9_sends_35 : decode cX9_sends 35 = .ok (.imul, 1) := by decide +kernel
theorem dX9_sends_36 : decode cX9_sends 36 = .ok (.iadd, 1) := by decide +kernel
theorem dX9_sends_37 : decode cX9_sends 37 = .ok (.iload_n 2, 1) := by decide +kernel
theorem dX9_sends_38 : decode cX9_sends 38 = .ok (.iastore, 1) := by decide +kernel
theorem dX9_sends_39 : decode cX9_sends 39 = .ok (.aload_n 0, 1) := by decide +kernel
theorem dX9_sends_40 : decode cX9_sends 40 = .ok (.getfield 7, 3) := by decide +kernel
theorem dX9_sends_43 : decode cX9_sends 43 = .ok (.bipush 28, 2) := by decide +kernel
theorem dX9_sends_45 : decode cX9_sends 45 = .ok (.iconst 4, 1) := by decide +kernel
theorem dX9_sends_46 : decode cX9_sends 46 = .ok (.iload_n 1, 1) := by decide +kernel
theorem dX9_sends_47 : decode cX9_sends 47 = .ok (.imul, 1) := by decide +kernel
theorem dX9_sends_48 : decode cX9_sends 48 = .ok (.iadd, 1) := by decide +kernel
theorem dX9_sends_49 : decode cX9_sends 49 = .ok (.iconst 1, 1) := by decide +kernel
theorem dX9_sends_50 : decode cX9_sends 50 = .ok (.iadd, 1) := by decide +kernel
theorem dX9_sends_51 : decode cX9_sends 51 = .ok (.aload_n 0, 1) := by decide +kernel
theorem dX9_sends_52 : decode cX9_sends 52 = .ok (.iload_n 3, 1) := by decide +kernel
theorem dX9_sends_53 : decode cX9_sends 53 = .ok (.iload_n 2, 1) := by decide +kernel
theorem dX9_sends_54 : decode cX9_sends 54 = .ok (.iload 4, 2) := by decide +kernel
theorem dX9_sends_56 : decode cX9_sends 56 = .ok (.i2l, 1) := by decide +kernel
theorem dX9_sends_57 : decode cX9_sends 57 = .ok (.invokevirtual 133, 3) := by decide +kernel
theorem dX9_sends_60 : decode cX9_sends 60 = .ok (.l2i, 1) := by decide +kernel
theorem dX9_sends_61 : decode cX9_sends 61 = .ok (.iastore, 1) := by decide +kernel
theorem dX9_sends_62 : decode cX9_sends 62 = .ok (.aload_n 0, 1) := by decide +kernel
theorem dX9_sends_63 : decode cX9_sends 63 = .ok (.getfield 7, 3) := by decide +kernel
theorem dX9_sends_66 : decode cX9_sends 66 = .ok (.bipush 28, 2) := by decide +kernel
theorem dX9_sends_68 : decode cX9_sends 68 = .ok (.iconst 4, 1) := by decide +kernel
theorem dX9_sends_69 : decode cX9_sends 69 = .ok (.iload_n 1, 1) := by decide +kernel
theorem dX9_sends_70 : decode cX9_sends 70 = .ok (.imul, 1) := by decide +kernel
theorem dX9_sends_71 : decode cX9_sends 71 = .ok (.iadd, 1) := by decide +kernel
theorem dX9_sends_72 : decode cX9_sends 72 = .ok (.iconst 2, 1) := by decide +kernel
theorem dX9_sends_73 : decode cX9_sends 73 = .ok (.iadd, 1) := by decide +kernel
theorem dX9_sends_74 : decode cX9_sends 74 = .ok (.dup2, 1) := by decide +kernel
theorem dX9_sends_75 : decode cX9_sends 75 = .ok (.iaload, 1) := by decide +kernel
theorem dX9_sends_76 : decode cX9_sends 76 = .ok (.iload 5, 2) := by decide +kernel
theorem dX9_sends_78 : decode cX9_sends 78 = .ok (.iadd, 1) := by decide +kernel
theorem dX9_sends_79 : decode cX9_sends 79 = .ok (.iastore, 1) := by decide +kernel
theorem dX9_sends_80 : decode cX9_sends 80 = .ok (.aload_n 0, 1) := by decide +kernel
theorem dX9_sends_81 : decode cX9_sends 81 = .ok (.getfield 7, 3) := by decide +kernel
theorem dX9_sends_84 : decode cX9_sends 84 = .ok (.bipush 28, 2) := by decide +kernel
theorem dX9_sends_86 : decode cX9_sends 86 = .ok (.iconst 4, 1) := by decide +kernel
theorem dX9_sends_87 : decode cX9_sends 87 = .ok (.iload_n 1, 1) := by decide +kernel
theorem dX9_sends_88 : decode cX9_sends 88 = .ok (.imul, 1) := by decide +kernel
theorem dX9_sends_89 : decode cX9_sends 89 = .ok (.iadd, 1) := by decide +kernel
theorem dX9_sends_90 : decode cX9_sends 90 = .ok (.iconst 3, 1) := by decide +kernel
theorem dX9_sends_91 : decode cX9_sends 91 = .ok (.iadd, 1) := by decide +kernel
theorem dX9_sends_92 : decode cX9_sends 92 = .ok (.dup2, 1) := by decide +kernel
theorem dX9_sends_93 : decode cX9_sends 93 = .ok (.iaload, 1) := by decide +kernel
theorem dX9_sends_94 : decode cX9_sends 94 = .ok (.iconst 1, 1) := by decide +kernel
theorem dX9_sends_95 : decode cX9_sends 95 = .ok (.iadd, 1) := by decide +kernel
theorem dX9_sends_96 : decode cX9_sends 96 = .ok (.iastore, 1) := by decide +kernel
theorem dX9_sends_97 : decode cX9_sends 97 = .ok (.aload_n 0, 1) := by decide +kernel
theorem dX9_sends_98 : decode cX9_sends 98 = .ok (.getfield 7, 3) := by decide +kernel
theorem dX9_sends_101 : decode cX9_sends 101 = .ok (.bipush 61, 2) := by decide +kernel
theorem dX9_sends_103 : decode cX9_sends 103 = .ok (.dup2, 1) := by decide +kernel
theorem dX9_sends_104 : decode cX9_sends 104 = .ok (.iaload, 1) := by decide +kernel
theorem dX9_sends_105 : decode cX9_sends 105 = .ok (.iload 5, 2) := by decide +kernel
theorem dX9_sends_107 : decode cX9_sends 107 = .ok (.iadd, 1) := by decide +kernel
theorem dX9_sends_108 : decode cX9_sends 108 = .ok (.iastore, 1) := by decide +kernel
theorem dX9_sends_109 : decode cX9_sends 109 = .ok (.aload_n 0, 1) := by decide +kernel
theorem dX9_sends_110 : decode cX9_sends 110 = .ok (.iload_n 1, 1) := by decide +kernel
theorem dX9_sends_111 : decode cX9_sends 111 = .ok (.iconst 1, 1) := by decide +kernel
theorem dX9_sends_112 : decode cX9_sends 112 = .ok (.invokevirtual 142, 3) := by decide +kernel
theorem dX9_sends_115 : decode cX9_sends 115 = .ok (.ireturn, 1) := by decide +kernel
theorem dX9_send_0 : decode cX9_send 0 = .ok (.aload_n 0, 1) := by decide +kernel
theorem dX9_send_1 : decode cX9_send 1 = .ok (.aload_n 0, 1) := by decide +kernel
theorem dX9_send_2 : decode cX9_send 2 = .ok (.iload_n 1, 1) := by decide +kernel
theorem dX9_send_3 : decode cX9_send 3 = .ok (.invokevirtual 150, 3) := by decide +kernel
theorem dX9_send_6 : decode cX9_send 6 = .ok (.ifCond .eq 10, 3) := by decide +kernel
theorem dX9_send_9 : decode cX9_send 9 = .ok (.iload_n 2, 1) := by decide +kernel
theorem dX9_send_10 : decode cX9_send 10 = .ok (.invokestatic 55, 3) := by decide +kernel
theorem dX9_send_13 : decode cX9_send 13 = .ok (.ifCond .ne 7, 3) := by decide +kernel
theorem dX9_send_16 : decode cX9_send 16 = .ok (.iconst 1, 1) := by decide +kernel
theorem dX9_send_17 : decode cX9_send 17 = .ok (.goto 17, 3) := by decide +kernel
theorem dX9_send_20 : decode cX9_send 20 = .ok (.aload_n 0, 1) := by decide +kernel
theorem dX9_send_21 : decode cX9_send 21 = .ok (.iload_n 1, 1) := by decide +kernel
theorem dX9_send_22 : decode cX9_send 22 = .ok (.iload_n 2, 1) := by decide +kernel
theorem dX9_send_23 : decode cX9_send 23 = .ok (.invokevirtual 153, 3) := by decide +kernel
theorem dX9_send_26 : decode cX9_send 26 = .ok (.ifCond .le 7, 3) := by decide +kernel
theorem dX9_send_29 : decode cX9_send 29 = .ok (.iconst 2, 1) := by decide +kernel
theorem dX9_send_30 : decode cX9_send 30 = .ok (.goto 4, 3) := by decide +kernel
theorem dX9_send_33 : decode cX9_send 33 = .ok (.iconst 0, 1) := by decide +kernel
theorem dX9_send_34 : decode cX9_send 34 = .ok (.invokevirtual 111, 3) := by decide +kernel
theorem dX9_send_37 : decode cX9_send 37 = .ok (.ifCond .eq 5, 3) := by decide +kernel
theorem dX9_send_40 : decode cX9_send 40 = .ok (.iconst 0, 1) := by decide +kernel
theorem dX9_send_41 : decode cX9_send 41 = .ok (.ireturn, 1) := by decide +kernel
theorem dX9_send_42 : decode cX9_send 42 = .ok (.aload_n 0, 1) := by decide +kernel
theorem dX9_send_43 : decode cX9_send 43 = .ok (.invokevirtual 114, 3) := by decide +kernel
theorem dX9_send_46 : decode cX9_send 46 = .ok (.aload_n 0, 1) := by decide +kernel
theorem dX9_send_47 : decode cX9_send 47 = .ok (.iload_n 1, 1) := by decide +kernel
theorem dX9_send_48 : decode cX9_send 48 = .ok (.iload_n 2, 1) := by decide +kernel
theorem dX9_send_49 : decode cX9_send 49 = .ok (.invokevirtual 156, 3) := by decide +kernel
theorem dX9_send_52 : decode cX9_send 52 = .ok (.ireturn, 1) := by decide +kernel
theorem dX9_sell_0 : decode cX9_sell 0 = .ok (.aload_n 0, 1) := by decide +kernel
theorem dX9_sell_1 : decode cX9_sell 1 = .ok (.aload_n 0, 1) := by decide +kernel
theorem dX9_sell_2 : decode cX9_sell 2 = .ok (.iload_n 1, 1) := by decide +kernel
theorem dX9_sell_3 : decode cX9_sell 3 = .ok (.invokevirtual 150, 3) := by decide +kernel
theorem dX9_sell_6 : decode cX9_sell 6 = .ok (.ifCond .eq 7, 3) := by decide +kernel
theorem dX9_sell_9 : decode cX9_sell 9 = .ok (.iconst 0, 1) := by decide +kernel
theorem dX9_sell_10 : decode cX9_sell 10 = .ok (.goto 4, 3) := by decide +kernel
theorem dX9_sell_13 : decode cX9_sell 13 = .ok (.iconst 1, 1) := by decide +kernel
theorem dX9_sell_14 : decode cX9_sell 14 = .ok (.invokevirtual 111, 3) := by decide +kernel
theorem dX9_sell_17 : decode cX9_sell 17 = .ok (.ifCond .eq 5, 3) := by decide +kernel
theorem dX9_sell_20 : decode cX9_sell 20 = .ok (.iconst 0, 1) := by decide +kernel
theorem dX9_sell_21 : decode cX9_sell 21 = .ok (.ireturn, 1) := by decide +kernel
theorem dX9_sell_22 : decode cX9_sell 22 = .ok (.aload_n 0, 1) := by decide +kernel
theorem dX9_sell_23 : decode cX9_sell 23 = .ok (.invokevirtual 114, 3) := by decide +kernel
theorem dX9_sell_26 : decode cX9_sell 26 = .ok (.aload_n 0, 1) := by decide +kernel
theorem dX9_sell_27 : decode cX9_sell 27 = .ok (.iload_n 1, 1) := by decide +kernel
theorem dX9_sell_28 : decode cX9_sell 28 = .ok (.iconst 1, 1) := by decide +kernel
theorem dX9_sell_29 : decode cX9_sell 29 = .ok (.invokevirtual 142, 3) := by decide +kernel
theorem dX9_sell_32 : decode cX9_sell 32 = .ok (.aload_n 0, 1) := by decide +kernel
theorem dX9_sell_33 : decode cX9_sell 33 = .ok (.getfield 7, 3) := by decide +kernel
theorem dX9_sell_36 : decode cX9_sell 36 = .ok (.bipush 20, 2) := by decide +kernel
theorem dX9_sell_38 : decode cX9_sell 38 = .ok (.aload_n 0, 1) := by decide +kernel
theorem dX9_sell_39 : decode cX9_sell 39 = .ok (.iload_n 1, 1) := by decide +kernel
theorem dX9_sell_40 : decode cX9_sell 40 = .ok (.iconst 0, 1) := by decide +kernel
theorem dX9_sell_41 : decode cX9_sell 41 = .ok (.invokevirtual 142, 3) := by decide +kernel
theorem dX9_sell_44 : decode cX9_sell 44 = .ok (.iadd, 1) := by decide +kernel
theorem dX9_sell_45 : decode cX9_sell 45 = .ok (.iaload, 1) := by decide +kernel
theorem dX9_sell_46 : decode cX9_sell 46 = .ok (.idiv, 1) := by decide +kernel
theorem dX9_sell_47 : decode cX9_sell 47 = .ok (.istore_n 2, 1) := by decide +kernel
theorem dX9_sell_48 : decode cX9_sell 48 = .ok (.aload_n 0, 1) := by decide +kernel
theorem dX9_sell_49 : decode cX9_sell 49 = .ok (.getfield 7, 3) := by decide +kernel
theorem dX9_sell_52 : decode cX9_sell 52 = .ok (.bipush 60, 2) := by decide +kernel
theorem dX9_sell_54 : decode cX9_sell 54 = .ok (.dup2, 1) := by decide +kernel
theorem dX9_sell_55 : decode cX9_sell 55 = .ok (.iaload, 1) := by decide +kernel
theorem dX9_sell_56 : decode cX9_sell 56 = .ok (.iconst 1, 1) := by decide +kernel
theorem dX9_sell_57 : decode cX9_sell 57 = .ok (.isub, 1) := by decide +kernel
theorem dX9_sell_58 : decode cX9_sell 58 = .ok (.iastore, 1) := by decide +kernel
theorem dX9_sell_59 : decode cX9_sell 59 = .ok (.aload_n 0, 1) := by decide +kernel
theorem dX9_sell_60 : decode cX9_sell 60 = .ok (.getfield 7, 3) := by decide +kernel
theorem dX9_sell_63 : decode cX9_sell 63 = .ok (.bipush 62, 2) := by decide +kernel
theorem dX9_sell_65 : decode cX9_sell 65 = .ok (.dup2, 1) := by decide +kernel
theorem dX9_sell_66 : decode cX9_sell 66 = .ok (.iaload, 1) := by decide +kernel
theorem dX9_sell_67 : decode cX9_sell 67 = .ok (.iconst 1, 1) := by decide +kernel
theorem dX9_sell_68 : decode cX9_sell 68 = .ok (.iadd, 1) := by decide +kernel
theorem dX9_sell_69 : decode cX9_sell 69 = .ok (.iastore, 1) := by decide +kernel
theorem dX9_sell_70 : decode cX9_sell 70 = .ok (.iconst 4, 1) := by decide +kernel
theorem dX9_sell_71 : decode cX9_sell 71 = .ok (.iload_n 1, 1) := by decide +kernel
theorem dX9_sell_72 : decode cX9_sell 72 = .ok (.imul, 1) := by decide +kernel
theorem dX9_sell_73 : decode cX9_sell 73 = .ok (.istore_n 3, 1) := by decide +kernel
theorem dX9_sell_74 : decode cX9_sell 74 = .ok (.iload_n 3, 1) := by decide +kernel
theorem dX9_sell_75 : decode cX9_sell 75 = .ok (.iconst 4, 1) := by decide +kernel
theorem dX9_sell_76 : decode cX9_sell 76 = .ok (.aload_n 0, 1) := by decide +kernel
theorem dX9_sell_77 : decode cX9_sell 77 = .ok (.getfield 7, 3) := by decide +kernel
theorem dX9_sell_80 : decode cX9_sell 80 = .ok (.bipush 60, 2) := by decide +kernel
theorem dX9_sell_82 : decode cX9_sell 82 = .ok (.iaload, 1) := by decide +kernel
theorem dX9_sell_83 : decode cX9_sell 83 = .ok (.imul, 1) := by decide +kernel
theorem dX9_sell_84 : decode cX9_sell 84 = .ok (.if_icmp .ge 29, 3) := by decide +kernel
theorem dX9_sell_87 : decode cX9_sell 87 = .ok (.aload_n 0, 1) := by decide +kernel
theorem dX9_sell_88 : decode cX9_sell 88 = .ok (.getfield 7, 3) := by decide +kernel
theorem dX9_sell_91 : decode cX9_sell 91 = .ok (.bipush 28, 2) := by decide +kernel
theorem dX9_sell_93 : decode cX9_sell 93 = .ok (.iload_n 3, 1) := by decide +kernel
theorem dX9_sell_94 : decode cX9_sell 94 = .ok (.iadd, 1) := by decide +kernel
theorem dX9_sell_95 : decode cX9_sell 95 = .ok (.aload_n 0, 1) := by decide +kernel
theorem dX9_sell_96 : decode cX9_sell 96 = .ok (.getfield 7, 3) := by decide +kernel
theorem dX9_sell_99 : decode cX9_sell 99 = .ok (.bipush 28, 2) := by decide +kernel
theorem dX9_sell_101 : decode cX9_sell 101 = .ok (.iload_n 3, 1) := by decide +kernel
theorem dX9_sell_102 : decode cX9_sell 102 = .ok (.iadd, 1) := by decide +kernel
theorem dX9_sell_103 : decode cX9_sell 103 = .ok (.iconst 4, 1) := by decide +kernel
theorem dX9_sell_104 : decode cX9_sell 104 = .ok (.iadd, 1) := by decide +kernel
theorem dX9_sell_105 : decode cX9_sell 105 = .ok (.iaload, 1) := by decide +kernel
theorem dX9_sell_106 : decode cX9_sell 106 = .ok (.iastore, 1) := by decide +kernel
theorem dX9_sell_107 : decode cX9_sell 107 = .ok (.iinc 3 1, 3) := by decide +kernel
theorem dX9_sell_110 : decode cX9_sell 110 = .ok (.goto (-36), 3) := by decide +kernel
theorem dX9_sell_113 : decode cX9_sell 113 = .ok (.iload_n 2, 1) := by decide +kernel
theorem dX9_sell_114 : decode cX9_sell 114 = .ok (.ireturn, 1) := by decide +kernel
theorem dX9_append_0 : decode cX9_append 0 = .ok (.aload_n 0, 1) := by decide +kernel
theorem dX9_append_1 : decode cX9_append 1 = .ok (.iload_n 1, 1) := by decide +kernel
theorem dX9_append_2 : decode cX9_append 2 = .ok (.bipush 33, 2) := by decide +kernel
theorem dX9_append_4 : decode cX9_append 4 = .ok (.bipush 126, 2) := by decide +kernel
theorem dX9_append_6 : decode cX9_append 6 = .ok (.invokestatic 44, 3) := by decide +kernel
theorem dX9_append_9 : decode cX9_append 9 = .ok (.ifCond .ne 7, 3) := by decide +kernel
theorem dX9_append_12 : decode cX9_append 12 = .ok (.iconst 1, 1) := by decide +kernel
theorem dX9_append_13 : decode cX9_append 13 = .ok (.goto 17, 3) := by decide +kernel
theorem dX9_append_16 : decode cX9_append 16 = .ok (.aload_n 0, 1) := by decide +kernel
theorem dX9_append_17 : decode cX9_append 17 = .ok (.getfield 159, 3) := by decide +kernel
theorem dX9_append_20 : decode cX9_append 20 = .ok (.bipush 60, 2) := by decide +kernel
theorem dX9_append_22 : decode cX9_append 22 = .ok (.if_icmp .ne 7, 3) := by decide +kernel
theorem dX9_append_25 : decode cX9_append 25 = .ok (.iconst 2, 1) := by decide +kernel
theorem dX9_append_26 : decode cX9_append 26 = .ok (.goto 4, 3) := by decide +kernel
theorem dX9_append_29 : decode cX9_append 29 = .ok (.iconst 0, 1) := by decide +kernel
theorem dX9_append_30 : decode cX9_append 30 = .ok (.invokevirtual 111, 3) := by decide +kernel
theorem dX9_append_33 : decode cX9_append 33 = .ok (.ifCond .eq 5, 3) := by decide +kernel
theorem dX9_append_36 : decode cX9_append 36 = .ok (.iconst 0, 1) := by decide +kernel
theorem dX9_append_37 : decode cX9_append 37 = .ok (.ireturn, 1) := by decide +kernel
theorem dX9_append_38 : decode cX9_append 38 = .ok (.aload_n 0, 1) := by decide +kernel
theorem dX9_append_39 : decode cX9_append 39 = .ok (.getfield 19, 3) := by decide +kernel
theorem dX9_append_42 : decode cX9_append 42 = .ok (.aload_n 0, 1) := by decide +kernel
theorem dX9_append_43 : decode cX9_append 43 = .ok (.getfield 159, 3) := by decide +kernel
theorem dX9_append_46 : decode cX9_append 46 = .ok (.iload_n 1, 1) := by decide +kernel
theorem dX9_append_47 : decode cX9_append 47 = .ok (.iastore, 1) := by decide +kernel
theorem dX9_append_48 : decode cX9_append 48 = .ok (.aload_n 0, 1) := by decide +kernel
theorem dX9_append_49 : decode cX9_append 49 = .ok (.dup, 1) := by decide +kernel
theorem dX9_append_50 : decode cX9_append 50 = .ok (.getfield 159, 3) := by decide +kernel
theorem dX9_append_53 : decode cX9_append 53 = .ok (.iconst 1, 1) := by decide +kernel
theorem dX9_append_54 : decode cX9_append 54 = .ok (.iadd, 1) := by decide +kernel
theorem dX9_append_55 : decode cX9_append 55 = .ok (.putfield 159, 3) := by decide +kernel
theorem dX9_append_58 : decode cX9_append 58 = .ok (.aload_n 0, 1) := by decide +kernel
theorem dX9_append_59 : decode cX9_append 59 = .ok (.getfield 159, 3) := by decide +kernel
theorem dX9_append_62 : decode cX9_append 62 = .ok (.ireturn, 1) := by decide +kernel
theorem dX9_clearBuffer_0 : decode cX9_clearBuffer 0 = .ok (.aload_n 0, 1) := by decide +kernel
theorem dX9_clearBuffer_1 : decode cX9_clearBuffer 1 = .ok (.iconst 0, 1) := by decide +kernel
theorem dX9_clearBuffer_2 : decode cX9_clearBuffer 2 = .ok (.putfield 40, 3) := by decide +kernel
theorem dX9_clearBuffer_5 : decode cX9_clearBuffer 5 = .ok (.aload_n 0, 1) := by decide +kernel
theorem dX9_clearBuffer_6 : decode cX9_clearBuffer 6 = .ok (.getfield 159, 3) := by decide +kernel
theorem dX9_clearBuffer_9 : decode cX9_clearBuffer 9 = .ok (.istore_n 1, 1) := by decide +kernel
theorem dX9_clearBuffer_10 : decode cX9_clearBuffer 10 = .ok (.aload_n 0, 1) := by decide +kernel
theorem dX9_clearBuffer_11 : decode cX9_clearBuffer 11 = .ok (.iconst 0, 1) := by decide +kernel
theorem dX9_clearBuffer_12 : decode cX9_clearBuffer 12 = .ok (.putfield 159, 3) := by decide +kernel
theorem dX9_clearBuffer_15 : decode cX9_clearBuffer 15 = .ok (.iload_n 1, 1) := by decide +kernel
theorem dX9_clearBuffer_16 : decode cX9_clearBuffer 16 = .ok (.ireturn, 1) := by decide +kernel
theorem dX9_next_0 : decode cX9_next 0 = .ok (.aload_n 0, 1) := by decide +kernel
theorem dX9_next_1 : decode cX9_next 1 = .ok (.getfield 162, 3) := by decide +kernel
theorem dX9_next_4 : decode cX9_next 4 = .ok (.aload_n 0, 1) := by decide +kernel
theorem dX9_next_5 : decode cX9_next 5 = .ok (.getfield 159, 3) := by decide +kernel
end
section
theorem dX9_next_8 : decode cX9_next 8 = .ok (.if_icmp .ge 15, 3) := by decide +kernel
theorem dX9_next_11 : decode cX9_next 11 = .ok (.aload_n 0, 1) := by decide +kernel
theorem dX9_next_12 : decode cX9_next 12 = .ok (.getfield 19, 3) := by decide +kernel
theorem dX9_next_15 : decode cX9_next 15 = .ok (.aload_n 0, 1) := by decide +kernel
theorem dX9_next_16 : decode cX9_next 16 = .ok (.getfield 162, 3) := by decide +kernel
theorem dX9_next_19 : decode cX9_next 19 = .ok (.iaload, 1) := by decide +kernel
theorem dX9_next_20 : decode cX9_next 20 = .ok (.goto 4, 3) := by decide +kernel
theorem dX9_next_23 : decode cX9_next 23 = .ok (.iconst 0, 1) := by decide +kernel
theorem dX9_next_24 : decode cX9_next 24 = .ok (.ireturn, 1) := by decide +kernel
theorem dX9_sign_0 : decode cX9_sign 0 = .ok (.aload_n 0, 1) := by decide +kernel
theorem dX9_sign_1 : decode cX9_sign 1 = .ok (.aload_n 0, 1) := by decide +kernel
theorem dX9_sign_2 : decode cX9_sign 2 = .ok (.getfield 165, 3) := by decide +kernel
theorem dX9_sign_5 : decode cX9_sign 5 = .ok (.ifCond .ne 11, 3) := by decide +kernel
theorem dX9_sign_8 : decode cX9_sign 8 = .ok (.aload_n 0, 1) := by decide +kernel
theorem dX9_sign_9 : decode cX9_sign 9 = .ok (.invokevirtual 169, 3) := by decide +kernel
theorem dX9_sign_12 : decode cX9_sign 12 = .ok (.iload_n 1, 1) := by decide +kernel
theorem dX9_sign_13 : decode cX9_sign 13 = .ok (.if_icmp .eq 7, 3) := by decide +kernel
theorem dX9_sign_16 : decode cX9_sign 16 = .ok (.iconst 1, 1) := by decide +kernel
theorem dX9_sign_17 : decode cX9_sign 17 = .ok (.goto 4, 3) := by decide +kernel
theorem dX9_sign_20 : decode cX9_sign 20 = .ok (.iconst 0, 1) := by decide +kernel
theorem dX9_sign_21 : decode cX9_sign 21 = .ok (.putfield 165, 3) := by decide +kernel
theorem dX9_sign_24 : decode cX9_sign 24 = .ok (.aload_n 0, 1) := by decide +kernel
theorem dX9_sign_25 : decode cX9_sign 25 = .ok (.dup, 1) := by decide +kernel
theorem dX9_sign_26 : decode cX9_sign 26 = .ok (.getfield 162, 3) := by decide +kernel
theorem dX9_sign_29 : decode cX9_sign 29 = .ok (.aload_n 0, 1) := by decide +kernel
theorem dX9_sign_30 : decode cX9_sign 30 = .ok (.getfield 165, 3) := by decide +kernel
theorem dX9_sign_33 : decode cX9_sign 33 = .ok (.ifCond .eq 7, 3) := by decide +kernel
theorem dX9_sign_36 : decode cX9_sign 36 = .ok (.iconst 0, 1) := by decide +kernel
theorem dX9_sign_37 : decode cX9_sign 37 = .ok (.goto 4, 3) := by decide +kernel
theorem dX9_sign_40 : decode cX9_sign 40 = .ok (.iconst 1, 1) := by decide +kernel
theorem dX9_sign_41 : decode cX9_sign 41 = .ok (.iadd, 1) := by decide +kernel
theorem dX9_sign_42 : decode cX9_sign 42 = .ok (.putfield 162, 3) := by decide +kernel
theorem dX9_sign_45 : decode cX9_sign 45 = .ok (.return_, 1) := by decide +kernel
theorem dX9_digit_0 : decode cX9_digit 0 = .ok (.aload_n 0, 1) := by decide +kernel
theorem dX9_digit_1 : decode cX9_digit 1 = .ok (.invokevirtual 169, 3) := by decide +kernel
theorem dX9_digit_4 : decode cX9_digit 4 = .ok (.bipush 48, 2) := by decide +kernel
theorem dX9_digit_6 : decode cX9_digit 6 = .ok (.isub, 1) := by decide +kernel
theorem dX9_digit_7 : decode cX9_digit 7 = .ok (.istore_n 3, 1) := by decide +kernel
theorem dX9_digit_8 : decode cX9_digit 8 = .ok (.aload_n 0, 1) := by decide +kernel
theorem dX9_digit_9 : decode cX9_digit 9 = .ok (.aload_n 0, 1) := by decide +kernel
theorem dX9_digit_10 : decode cX9_digit 10 = .ok (.getfield 165, 3) := by decide +kernel
theorem dX9_digit_13 : decode cX9_digit 13 = .ok (.ifCond .ne 12, 3) := by decide +kernel
theorem dX9_digit_16 : decode cX9_digit 16 = .ok (.iload_n 3, 1) := by decide +kernel
theorem dX9_digit_17 : decode cX9_digit 17 = .ok (.iload_n 1, 1) := by decide +kernel
theorem dX9_digit_18 : decode cX9_digit 18 = .ok (.iload_n 2, 1) := by decide +kernel
theorem dX9_digit_19 : decode cX9_digit 19 = .ok (.invokestatic 44, 3) := by decide +kernel
theorem dX9_digit_22 : decode cX9_digit 22 = .ok (.ifCond .ne 7, 3) := by decide +kernel
theorem dX9_digit_25 : decode cX9_digit 25 = .ok (.iconst 1, 1) := by decide +kernel
theorem dX9_digit_26 : decode cX9_digit 26 = .ok (.goto 4, 3) := by decide +kernel
theorem dX9_digit_29 : decode cX9_digit 29 = .ok (.iconst 0, 1) := by decide +kernel
theorem dX9_digit_30 : decode cX9_digit 30 = .ok (.putfield 165, 3) := by decide +kernel
theorem dX9_digit_33 : decode cX9_digit 33 = .ok (.aload_n 0, 1) := by decide +kernel
theorem dX9_digit_34 : decode cX9_digit 34 = .ok (.dup, 1) := by decide +kernel
theorem dX9_digit_35 : decode cX9_digit 35 = .ok (.getfield 162, 3) := by decide +kernel
theorem dX9_digit_38 : decode cX9_digit 38 = .ok (.aload_n 0, 1) := by decide +kernel
theorem dX9_digit_39 : decode cX9_digit 39 = .ok (.getfield 165, 3) := by decide +kernel
theorem dX9_digit_42 : decode cX9_digit 42 = .ok (.ifCond .eq 7, 3) := by decide +kernel
theorem dX9_digit_45 : decode cX9_digit 45 = .ok (.iconst 0, 1) := by decide +kernel
theorem dX9_digit_46 : decode cX9_digit 46 = .ok (.goto 4, 3) := by decide +kernel
theorem dX9_digit_49 : decode cX9_digit 49 = .ok (.iconst 1, 1) := by decide +kernel
theorem dX9_digit_50 : decode cX9_digit 50 = .ok (.iadd, 1) := by decide +kernel
theorem dX9_digit_51 : decode cX9_digit 51 = .ok (.putfield 162, 3) := by decide +kernel
theorem dX9_digit_54 : decode cX9_digit 54 = .ok (.iload_n 3, 1) := by decide +kernel
theorem dX9_digit_55 : decode cX9_digit 55 = .ok (.ireturn, 1) := by decide +kernel
theorem dX9_number_0 : decode cX9_number 0 = .ok (.aload_n 0, 1) := by decide +kernel
theorem dX9_number_1 : decode cX9_number 1 = .ok (.iconst 1, 1) := by decide +kernel
theorem dX9_number_2 : decode cX9_number 2 = .ok (.bipush 9, 2) := by decide +kernel
theorem dX9_number_4 : decode cX9_number 4 = .ok (.invokevirtual 172, 3) := by decide +kernel
theorem dX9_number_7 : decode cX9_number 7 = .ok (.istore_n 2, 1) := by decide +kernel
theorem dX9_number_8 : decode cX9_number 8 = .ok (.aload_n 0, 1) := by decide +kernel
theorem dX9_number_9 : decode cX9_number 9 = .ok (.getfield 165, 3) := by decide +kernel
theorem dX9_number_12 : decode cX9_number 12 = .ok (.ifCond .ne 59, 3) := by decide +kernel
theorem dX9_number_15 : decode cX9_number 15 = .ok (.aload_n 0, 1) := by decide +kernel
theorem dX9_number_16 : decode cX9_number 16 = .ok (.invokevirtual 169, 3) := by decide +kernel
theorem dX9_number_19 : decode cX9_number 19 = .ok (.bipush 48, 2) := by decide +kernel
theorem dX9_number_21 : decode cX9_number 21 = .ok (.bipush 57, 2) := by decide +kernel
theorem dX9_number_23 : decode cX9_number 23 = .ok (.invokestatic 44, 3) := by decide +kernel
theorem dX9_number_26 : decode cX9_number 26 = .ok (.ifCond .eq 45, 3) := by decide +kernel
theorem dX9_number_29 : decode cX9_number 29 = .ok (.bipush 10, 2) := by decide +kernel
theorem dX9_number_31 : decode cX9_number 31 = .ok (.iload_n 2, 1) := by decide +kernel
theorem dX9_number_32 : decode cX9_number 32 = .ok (.imul, 1) := by decide +kernel
theorem dX9_number_33 : decode cX9_number 33 = .ok (.aload_n 0, 1) := by decide +kernel
theorem dX9_number_34 : decode cX9_number 34 = .ok (.invokevirtual 169, 3) := by decide +kernel
theorem dX9_number_37 : decode cX9_number 37 = .ok (.iadd, 1) := by decide +kernel
theorem dX9_number_38 : decode cX9_number 38 = .ok (.bipush 48, 2) := by decide +kernel
theorem dX9_number_40 : decode cX9_number 40 = .ok (.isub, 1) := by decide +kernel
theorem dX9_number_41 : decode cX9_number 41 = .ok (.iload_n 1, 1) := by decide +kernel
theorem dX9_number_42 : decode cX9_number 42 = .ok (.if_icmp .gt 29, 3) := by decide +kernel
theorem dX9_number_45 : decode cX9_number 45 = .ok (.bipush 10, 2) := by decide +kernel
theorem dX9_number_47 : decode cX9_number 47 = .ok (.iload_n 2, 1) := by decide +kernel
theorem dX9_number_48 : decode cX9_number 48 = .ok (.imul, 1) := by decide +kernel
theorem dX9_number_49 : decode cX9_number 49 = .ok (.aload_n 0, 1) := by decide +kernel
theorem dX9_number_50 : decode cX9_number 50 = .ok (.invokevirtual 169, 3) := by decide +kernel
theorem dX9_number_53 : decode cX9_number 53 = .ok (.iadd, 1) := by decide +kernel
theorem dX9_number_54 : decode cX9_number 54 = .ok (.bipush 48, 2) := by decide +kernel
theorem dX9_number_56 : decode cX9_number 56 = .ok (.isub, 1) := by decide +kernel
theorem dX9_number_57 : decode cX9_number 57 = .ok (.istore_n 2, 1) := by decide +kernel
theorem dX9_number_58 : decode cX9_number 58 = .ok (.aload_n 0, 1) := by decide +kernel
theorem dX9_number_59 : decode cX9_number 59 = .ok (.dup, 1) := by decide +kernel
theorem dX9_number_60 : decode cX9_number 60 = .ok (.getfield 162, 3) := by decide +kernel
theorem dX9_number_63 : decode cX9_number 63 = .ok (.iconst 1, 1) := by decide +kernel
theorem dX9_number_64 : decode cX9_number 64 = .ok (.iadd, 1) := by decide +kernel
theorem dX9_number_65 : decode cX9_number 65 = .ok (.putfield 162, 3) := by decide +kernel
theorem dX9_number_68 : decode cX9_number 68 = .ok (.goto (-60), 3) := by decide +kernel
theorem dX9_number_71 : decode cX9_number 71 = .ok (.iload_n 2, 1) := by decide +kernel
theorem dX9_number_72 : decode cX9_number 72 = .ok (.ireturn, 1) := by decide +kernel
theorem dX9_part_0 : decode cX9_part 0 = .ok (.aload_n 0, 1) := by decide +kernel
theorem dX9_part_1 : decode cX9_part 1 = .ok (.getfield 165, 3) := by decide +kernel
theorem dX9_part_4 : decode cX9_part 4 = .ok (.ifCond .eq 7, 3) := by decide +kernel
theorem dX9_part_7 : decode cX9_part 7 = .ok (.iconst 0, 1) := by decide +kernel
theorem dX9_part_8 : decode cX9_part 8 = .ok (.goto 7, 3) := by decide +kernel
theorem dX9_part_11 : decode cX9_part 11 = .ok (.aload_n 0, 1) := by decide +kernel
theorem dX9_part_12 : decode cX9_part 12 = .ok (.invokevirtual 169, 3) := by decide +kernel
theorem dX9_part_15 : decode cX9_part 15 = .ok (.istore_n 1, 1) := by decide +kernel
theorem dX9_part_16 : decode cX9_part 16 = .ok (.iload_n 1, 1) := by decide +kernel
theorem dX9_part_17 : decode cX9_part 17 = .ok (.bipush 45, 2) := by decide +kernel
theorem dX9_part_19 : decode cX9_part 19 = .ok (.if_icmp .eq 15, 3) := by decide +kernel
theorem dX9_part_22 : decode cX9_part 22 = .ok (.iload_n 1, 1) := by decide +kernel
theorem dX9_part_23 : decode cX9_part 23 = .ok (.bipush 98, 2) := by decide +kernel
theorem dX9_part_25 : decode cX9_part 25 = .ok (.if_icmp .eq 9, 3) := by decide +kernel
theorem dX9_part_28 : decode cX9_part 28 = .ok (.iload_n 1, 1) := by decide +kernel
theorem dX9_part_29 : decode cX9_part 29 = .ok (.bipush 115, 2) := by decide +kernel
theorem dX9_part_31 : decode cX9_part 31 = .ok (.if_icmp .ne 21, 3) := by decide +kernel
theorem dX9_part_34 : decode cX9_part 34 = .ok (.aload_n 0, 1) := by decide +kernel
theorem dX9_part_35 : decode cX9_part 35 = .ok (.iload_n 1, 1) := by decide +kernel
theorem dX9_part_36 : decode cX9_part 36 = .ok (.putfield 175, 3) := by decide +kernel
theorem dX9_part_39 : decode cX9_part 39 = .ok (.aload_n 0, 1) := by decide +kernel
theorem dX9_part_40 : decode cX9_part 40 = .ok (.dup, 1) := by decide +kernel
theorem dX9_part_41 : decode cX9_part 41 = .ok (.getfield 162, 3) := by decide +kernel
theorem dX9_part_44 : decode cX9_part 44 = .ok (.iconst 1, 1) := by decide +kernel
theorem dX9_part_45 : decode cX9_part 45 = .ok (.iadd, 1) := by decide +kernel
theorem dX9_part_46 : decode cX9_part 46 = .ok (.putfield 162, 3) := by decide +kernel
theorem dX9_part_49 : decode cX9_part 49 = .ok (.goto 9, 3) := by decide +kernel
theorem dX9_part_52 : decode cX9_part 52 = .ok (.aload_n 0, 1) := by decide +kernel
theorem dX9_part_53 : decode cX9_part 53 = .ok (.bipush 116, 2) := by decide +kernel
theorem dX9_part_55 : decode cX9_part 55 = .ok (.putfield 175, 3) := by decide +kernel
theorem dX9_part_58 : decode cX9_part 58 = .ok (.aload_n 0, 1) := by decide +kernel
theorem dX9_part_59 : decode cX9_part 59 = .ok (.aload_n 0, 1) := by decide +kernel
theorem dX9_part_60 : decode cX9_part 60 = .ok (.iconst 0, 1) := by decide +kernel
theorem dX9_part_61 : decode cX9_part 61 = .ok (.aload_n 0, 1) := by decide +kernel
theorem dX9_part_62 : decode cX9_part 62 = .ok (.getfield 175, 3) := by decide +kernel
theorem dX9_part_65 : decode cX9_part 65 = .ok (.bipush 115, 2) := by decide +kernel
theorem dX9_part_67 : decode cX9_part 67 = .ok (.if_icmp .ne 8, 3) := by decide +kernel
theorem dX9_part_70 : decode cX9_part 70 = .ok (.bipush 7, 2) := by decide +kernel
theorem dX9_part_72 : decode cX9_part 72 = .ok (.goto 4, 3) := by decide +kernel
theorem dX9_part_75 : decode cX9_part 75 = .ok (.iconst 4, 1) := by decide +kernel
theorem dX9_part_76 : decode cX9_part 76 = .ok (.invokevirtual 172, 3) := by decide +kernel
theorem dX9_part_79 : decode cX9_part 79 = .ok (.putfield 178, 3) := by decide +kernel
theorem dX9_part_82 : decode cX9_part 82 = .ok (.aload_n 0, 1) := by decide +kernel
theorem dX9_part_83 : decode cX9_part 83 = .ok (.aload_n 0, 1) := by decide +kernel
theorem dX9_part_84 : decode cX9_part 84 = .ok (.getfield 175, 3) := by decide +kernel
theorem dX9_part_87 : decode cX9_part 87 = .ok (.bipush 98, 2) := by decide +kernel
theorem dX9_part_89 : decode cX9_part 89 = .ok (.if_icmp .ne 8, 3) := by decide +kernel
theorem dX9_part_92 : decode cX9_part 92 = .ok (.bipush 61, 2) := by decide +kernel
theorem dX9_part_94 : decode cX9_part 94 = .ok (.goto 5, 3) := by decide +kernel
theorem dX9_part_97 : decode cX9_part 97 = .ok (.bipush 62, 2) := by decide +kernel
theorem dX9_part_99 : decode cX9_part 99 = .ok (.invokevirtual 181, 3) := by decide +kernel
theorem dX9_part_102 : decode cX9_part 102 = .ok (.aload_n 0, 1) := by decide +kernel
theorem dX9_part_103 : decode cX9_part 103 = .ok (.getfield 175, 3) := by decide +kernel
theorem dX9_part_106 : decode cX9_part 106 = .ok (.bipush 98, 2) := by decide +kernel
theorem dX9_part_108 : decode cX9_part 108 = .ok (.if_icmp .ne 17, 3) := by decide +kernel
theorem dX9_part_111 : decode cX9_part 111 = .ok (.aload_n 0, 1) := by decide +kernel
theorem dX9_part_112 : decode cX9_part 112 = .ok (.aload_n 0, 1) := by decide +kernel
theorem dX9_part_113 : decode cX9_part 113 = .ok (.sipush 9999, 3) := by decide +kernel
theorem dX9_part_116 : decode cX9_part 116 = .ok (.invokevirtual 185, 3) := by decide +kernel
theorem dX9_part_119 : decode cX9_part 119 = .ok (.putfield 189, 3) := by decide +kernel
theorem dX9_part_122 : decode cX9_part 122 = .ok (.goto 13, 3) := by decide +kernel
theorem dX9_part_125 : decode cX9_part 125 = .ok (.aload_n 0, 1) := by decide +kernel
theorem dX9_part_126 : decode cX9_part 126 = .ok (.aload_n 0, 1) := by decide +kernel
theorem dX9_part_127 : decode cX9_part 127 = .ok (.iconst 0, 1) := by decide +kernel
theorem dX9_part_128 : decode cX9_part 128 = .ok (.iconst 4, 1) := by decide +kernel
theorem dX9_part_129 : decode cX9_part 129 = .ok (.invokevirtual 172, 3) := by decide +kernel
theorem dX9_part_132 : decode cX9_part 132 = .ok (.putfield 189, 3) := by decide +kernel
theorem dX9_part_135 : decode cX9_part 135 = .ok (.aload_n 0, 1) := by decide +kernel
theorem dX9_part_136 : decode cX9_part 136 = .ok (.getfield 175, 3) := by decide +kernel
theorem dX9_part_139 : decode cX9_part 139 = .ok (.bipush 116, 2) := by decide +kernel
theorem dX9_part_141 : decode cX9_part 141 = .ok (.if_icmp .ne 35, 3) := by decide +kernel
theorem dX9_part_144 : decode cX9_part 144 = .ok (.aload_n 0, 1) := by decide +kernel
theorem dX9_part_145 : decode cX9_part 145 = .ok (.bipush 61, 2) := by decide +kernel
theorem dX9_part_147 : decode cX9_part 147 = .ok (.invokevirtual 181, 3) := by decide +kernel
theorem dX9_part_150 : decode cX9_part 150 = .ok (.aload_n 0, 1) := by decide +kernel
theorem dX9_part_151 : decode cX9_part 151 = .ok (.aload_n 0, 1) := by decide +kernel
theorem dX9_part_152 : decode cX9_part 152 = .ok (.bipush 99, 2) := by decide +kernel
theorem dX9_part_154 : decode cX9_part 154 = .ok (.invokevirtual 185, 3) := by decide +kernel
theorem dX9_part_157 : decode cX9_part 157 = .ok (.putfield 192, 3) := by decide +kernel
theorem dX9_part_160 : decode cX9_part 160 = .ok (.aload_n 0, 1) := by decide +kernel
theorem dX9_part_161 : decode cX9_part 161 = .ok (.bipush 47, 2) := by decide +kernel
theorem dX9_part_163 : decode cX9_part 163 = .ok (.invokevirtual 181, 3) := by decide +kernel
theorem dX9_part_166 : decode cX9_part 166 = .ok (.aload_n 0, 1) := by decide +kernel
theorem dX9_part_167 : decode cX9_part 167 = .ok (.aload_n 0, 1) := by decide +kernel
theorem dX9_part_168 : decode cX9_part 168 = .ok (.bipush 99, 2) := by decide +kernel
theorem dX9_part_170 : decode cX9_part 170 = .ok (.invokevirtual 185, 3) := by decide +kernel
theorem dX9_part_173 : decode cX9_part 173 = .ok (.putfield 195, 3) := by decide +kernel
theorem dX9_part_176 : decode cX9_part 176 = .ok (.return_, 1) := by decide +kernel
theorem dX9_isWhole_0 : decode cX9_isWhole 0 = .ok (.aload_n 0, 1) := by decide +kernel
theorem dX9_isWhole_1 : decode cX9_isWhole 1 = .ok (.iconst 0, 1) := by decide +kernel
theorem dX9_isWhole_2 : decode cX9_isWhole 2 = .ok (.putfield 162, 3) := by decide +kernel
theorem dX9_isWhole_5 : decode cX9_isWhole 5 = .ok (.aload_n 0, 1) := by decide +kernel
theorem dX9_isWhole_6 : decode cX9_isWhole 6 = .ok (.iconst 0, 1) := by decide +kernel
theorem dX9_isWhole_7 : decode cX9_isWhole 7 = .ok (.putfield 165, 3) := by decide +kernel
theorem dX9_isWhole_10 : decode cX9_isWhole 10 = .ok (.iconst 1, 1) := by decide +kernel
theorem dX9_isWhole_11 : decode cX9_isWhole 11 = .ok (.istore_n 1, 1) := by decide +kernel
theorem dX9_isWhole_12 : decode cX9_isWhole 12 = .ok (.iload_n 1, 1) := by decide +kernel
theorem dX9_isWhole_13 : decode cX9_isWhole 13 = .ok (.ifCond .eq 57, 3) := by decide +kernel
theorem dX9_isWhole_16 : decode cX9_isWhole 16 = .ok (.aload_n 0, 1) := by decide +kernel
theorem dX9_isWhole_17 : decode cX9_isWhole 17 = .ok (.invokevirtual 198, 3) := by decide +kernel
theorem dX9_isWhole_20 : decode cX9_isWhole 20 = .ok (.aload_n 0, 1) := by decide +kernel
theorem dX9_isWhole_21 : decode cX9_isWhole 21 = .ok (.getfield 165, 3) := by decide +kernel
theorem dX9_isWhole_24 : decode cX9_isWhole 24 = .ok (.ifCond .ne 18, 3) := by decide +kernel
theorem dX9_isWhole_27 : decode cX9_isWhole 27 = .ok (.aload_n 0, 1) := by decide +kernel
theorem dX9_isWhole_28 : decode cX9_isWhole 28 = .ok (.getfield 162, 3) := by decide +kernel
theorem dX9_isWhole_31 : decode cX9_isWhole 31 = .ok (.aload_n 0, 1) := by decide +kernel
theorem dX9_isWhole_32 : decode cX9_isWhole 32 = .ok (.getfield 159, 3) := by decide +kernel
theorem dX9_isWhole_35 : decode cX9_isWhole 35 = .ok (.if_icmp .ge 7, 3) := by decide +kernel
theorem dX9_isWhole_38 : decode cX9_isWhole 38 = .ok (.iconst 1, 1) := by decide +kernel
theorem dX9_isWhole_39 : decode cX9_isWhole 39 = .ok (.goto 4, 3) := by decide +kernel
theorem dX9_isWhole_42 : decode cX9_isWhole 42 = .ok (.iconst 0, 1) := by decide +kernel
theorem dX9_isWhole_43 : decode cX9_isWhole 43 = .ok (.istore_n 1, 1) := by decide +kernel
theorem dX9_isWhole_44 : decode cX9_isWhole 44 = .ok (.iload_n 1, 1) := by decide +kernel
theorem dX9_isWhole_45 : decode cX9_isWhole 45 = .ok (.ifCond .eq (-33), 3) := by decide +kernel
theorem dX9_isWhole_48 : decode cX9_isWhole 48 = .ok (.aload_n 0, 1) := by decide +kernel
theorem dX9_isWhole_49 : decode cX9_isWhole 49 = .ok (.bipush 59, 2) := by decide +kernel
theorem dX9_isWhole_51 : decode cX9_isWhole 51 = .ok (.invokevirtual 181, 3) := by decide +kernel
theorem dX9_isWhole_54 : decode cX9_isWhole 54 = .ok (.aload_n 0, 1) := by decide +kernel
theorem dX9_isWhole_55 : decode cX9_isWhole 55 = .ok (.getfield 165, 3) := by decide +kernel
theorem dX9_isWhole_58 : decode cX9_isWhole 58 = .ok (.ifCond .ne 7, 3) := by decide +kernel
theorem dX9_isWhole_61 : decode cX9_isWhole 61 = .ok (.iconst 1, 1) := by decide +kernel
theorem dX9_isWhole_62 : decode cX9_isWhole 62 = .ok (.goto 4, 3) := by decide +kernel
theorem dX9_isWhole_65 : decode cX9_isWhole 65 = .ok (.iconst 0, 1) := by decide +kernel
theorem dX9_isWhole_66 : decode cX9_isWhole 66 = .ok (.istore_n 1, 1) := by decide +kernel
theorem dX9_isWhole_67 : decode cX9_isWhole 67 = .ok (.goto (-55), 3) := by decide +kernel
theorem dX9_isWhole_70 : decode cX9_isWhole 70 = .ok (.aload_n 0, 1) := by decide +kernel
theorem dX9_isWhole_71 : decode cX9_isWhole 71 = .ok (.getfield 165, 3) := by decide +kernel
theorem dX9_isWhole_74 : decode cX9_isWhole 74 = .ok (.ifCond .ne 7, 3) := by decide +kernel
theorem dX9_isWhole_77 : decode cX9_isWhole 77 = .ok (.iconst 1, 1) := by decide +kernel
theorem dX9_isWhole_78 : decode cX9_isWhole 78 = .ok (.goto 4, 3) := by decide +kernel
theorem dX9_isWhole_81 : decode cX9_isWhole 81 = .ok (.iconst 0, 1) := by decide +kernel
theorem dX9_isWhole_82 : decode cX9_isWhole 82 = .ok (.ireturn, 1) := by decide +kernel
theorem dX9_firstError_0 : decode cX9_firstError 0 = .ok (.aload_n 0, 1) := by decide +kernel
theorem dX9_firstError_1 : decode cX9_firstError 1 = .ok (.iconst 0, 1) := by decide +kernel
theorem dX9_firstError_2 : decode cX9_firstError 2 = .ok (.putfield 40, 3) := by decide +kernel
theorem dX9_firstError_5 : decode cX9_firstError 5 = .ok (.aload_n 0, 1) := by decide +kernel
theorem dX9_firstError_6 : decode cX9_firstError 6 = .ok (.invokevirtual 201, 3) := by decide +kernel
theorem dX9_firstError_9 : decode cX9_firstError 9 = .ok (.ifCond .eq 10, 3) := by decide +kernel
theorem dX9_firstError_12 : decode cX9_firstError 12 = .ok (.aload_n 0, 1) := by decide +kernel
theorem dX9_firstError_13 : decode cX9_firstError 13 = .ok (.getfield 159, 3) := by decide +kernel
theorem dX9_firstError_16 : decode cX9_firstError 16 = .ok (.goto 7, 3) := by decide +kernel
theorem dX9_firstError_19 : decode cX9_firstError 19 = .ok (.aload_n 0, 1) := by decide +kernel
theorem dX9_firstError_20 : decode cX9_firstError 20 = .ok (.getfield 162, 3) := by decide +kernel
theorem dX9_firstError_23 : decode cX9_firstError 23 = .ok (.ireturn, 1) := by decide +kernel
theorem dX9_does_0 : decode cX9_does 0 = .ok (.aload_n 0, 1) := by decide +kernel
theorem dX9_does_1 : decode cX9_does 1 = .ok (.getfield 175, 3) := by decide +kernel
theorem dX9_does_4 : decode cX9_does 4 = .ok (.lookupswitch 205 #[(45, 106), (98, 163), (116, 36)], 36) := by decide +kernel
theorem dX9_does_40 : decode cX9_does 40 = .ok (.aload_n 0, 1) := by decide +kernel
theorem dX9_does_41 : decode cX9_does 41 = .ok (.getfield 178, 3) := by decide +kernel
theorem dX9_does_44 : decode cX9_does 44 = .ok (.aload_n 0, 1) := by decide +kernel
theorem dX9_does_45 : decode cX9_does 45 = .ok (.getfield 189, 3) := by decide +kernel
theorem dX9_does_48 : decode cX9_does 48 = .ok (.if_icmp .ne 7, 3) := by decide +kernel
theorem dX9_does_51 : decode cX9_does 51 = .ok (.iconst 4, 1) := by decide +kernel
theorem dX9_does_52 : decode cX9_does 52 = .ok (.goto 31, 3) := by decide +kernel
theorem dX9_does_55 : decode cX9_does 55 = .ok (.aload_n 0, 1) := by decide +kernel
theorem dX9_does_56 : decode cX9_does 56 = .ok (.aload_n 0, 1) := by decide +kernel
theorem dX9_does_57 : decode cX9_does 57 = .ok (.getfield 178, 3) := by decide +kernel
theorem dX9_does_60 : decode cX9_does 60 = .ok (.aload_n 0, 1) := by decide +kernel
theorem dX9_does_61 : decode cX9_does 61 = .ok (.getfield 189, 3) := by decide +kernel
theorem dX9_does_64 : decode cX9_does 64 = .ok (.aload_n 0, 1) := by decide +kernel
theorem dX9_does_65 : decode cX9_does 65 = .ok (.getfield 192, 3) := by decide +kernel
theorem dX9_does_68 : decode cX9_does 68 = .ok (.aload_n 0, 1) := by decide +kernel
theorem dX9_does_69 : decode cX9_does 69 = .ok (.getfield 195, 3) := by decide +kernel
theorem dX9_does_72 : decode cX9_does 72 = .ok (.invokevirtual 124, 3) := by decide +kernel
theorem dX9_does_75 : decode cX9_does 75 = .ok (.ifCond .le 7, 3) := by decide +kernel
theorem dX9_does_78 : decode cX9_does 78 = .ok (.iconst 5, 1) := by decide +kernel
theorem dX9_does_79 : decode cX9_does 79 = .ok (.goto 4, 3) := by decide +kernel
theorem dX9_does_82 : decode cX9_does 82 = .ok (.iconst 0, 1) := by decide +kernel
theorem dX9_does_83 : decode cX9_does 83 = .ok (.istore_n 1, 1) := by decide +kernel
theorem dX9_does_84 : decode cX9_does 84 = .ok (.iload_n 1, 1) := by decide +kernel
theorem dX9_does_85 : decode cX9_does 85 = .ok (.ifCond .ne 23, 3) := by decide +kernel
theorem dX9_does_88 : decode cX9_does 88 = .ok (.aload_n 0, 1) := by decide +kernel
theorem dX9_does_89 : decode cX9_does 89 = .ok (.aload_n 0, 1) := by decide +kernel
theorem dX9_does_90 : decode cX9_does 90 = .ok (.getfield 178, 3) := by decide +kernel
theorem dX9_does_93 : decode cX9_does 93 = .ok (.aload_n 0, 1) := by decide +kernel
theorem dX9_does_94 : decode cX9_does 94 = .ok (.getfield 189, 3) := by decide +kernel
theorem dX9_does_97 : decode cX9_does 97 = .ok (.aload_n 0, 1) := by decide +kernel
theorem dX9_does_98 : decode cX9_does 98 = .ok (.getfield 192, 3) := by decide +kernel
theorem dX9_does_101 : decode cX9_does 101 = .ok (.aload_n 0, 1) := by decide +kernel
theorem dX9_does_102 : decode cX9_does 102 = .ok (.getfield 195, 3) := by decide +kernel
theorem dX9_does_105 : decode cX9_does 105 = .ok (.invokevirtual 104, 3) := by decide +kernel
theorem dX9_does_108 : decode cX9_does 108 = .ok (.iload_n 1, 1) := by decide +kernel
theorem dX9_does_109 : decode cX9_does 109 = .ok (.ireturn, 1) := by decide +kernel
theorem dX9_does_110 : decode cX9_does 110 = .ok (.aload_n 0, 1) := by decide +kernel
theorem dX9_does_111 : decode cX9_does 111 = .ok (.getfield 178, 3) := by decide +kernel
theorem dX9_does_114 : decode cX9_does 114 = .ok (.aload_n 0, 1) := by decide +kernel
theorem dX9_does_115 : decode cX9_does 115 = .ok (.getfield 189, 3) := by decide +kernel
theorem dX9_does_118 : decode cX9_does 118 = .ok (.if_icmp .ne 7, 3) := by decide +kernel
theorem dX9_does_121 : decode cX9_does 121 = .ok (.iconst 4, 1) := by decide +kernel
theorem dX9_does_122 : decode cX9_does 122 = .ok (.goto 24, 3) := by decide +kernel
theorem dX9_does_125 : decode cX9_does 125 = .ok (.aload_n 0, 1) := by decide +kernel
theorem dX9_does_126 : decode cX9_does 126 = .ok (.aload_n 0, 1) := by decide +kernel
theorem dX9_does_127 : decode cX9_does 127 = .ok (.getfield 178, 3) := by decide +kernel
theorem dX9_does_130 : decode cX9_does 130 = .ok (.aload_n 0, 1) := by decide +kernel
theorem dX9_does_131 : decode cX9_does 131 = .ok (.getfield 189, 3) := by decide +kernel
theorem dX9_does_134 : decode cX9_does 134 = .ok (.invokevirtual 66, 3) := by decide +kernel
theorem dX9_does_137 : decode cX9_does 137 = .ok (.ifCond .eq 7, 3) := by decide +kernel
theorem dX9_does_140 : decode cX9_does 140 = .ok (.iconst 0, 1) := by decide +kernel
theorem dX9_does_141 : decode cX9_does 141 = .ok (.goto 5, 3) := by decide +kernel
theorem dX9_does_144 : decode cX9_does 144 = .ok (.bipush 6, 2) := by decide +kernel
theorem dX9_does_146 : decode cX9_does 146 = .ok (.istore_n 1, 1) := by decide +kernel
theorem dX9_does_147 : decode cX9_does 147 = .ok (.iload_n 1, 1) := by decide +kernel
theorem dX9_does_148 : decode cX9_does 148 = .ok (.ifCond .ne 17, 3) := by decide +kernel
theorem dX9_does_151 : decode cX9_does 151 = .ok (.aload_n 0, 1) := by decide +kernel
theorem dX9_does_152 : decode cX9_does 152 = .ok (.aload_n 0, 1) := by decide +kernel
theorem dX9_does_153 : decode cX9_does 153 = .ok (.getfield 178, 3) := by decide +kernel
theorem dX9_does_156 : decode cX9_does 156 = .ok (.aload_n 0, 1) := by decide +kernel
theorem dX9_does_157 : decode cX9_does 157 = .ok (.getfield 189, 3) := by decide +kernel
theorem dX9_does_160 : decode cX9_does 160 = .ok (.iconst 0, 1) := by decide +kernel
theorem dX9_does_161 : decode cX9_does 161 = .ok (.iconst 0, 1) := by decide +kernel
theorem dX9_does_162 : decode cX9_does 162 = .ok (.invokevirtual 104, 3) := by decide +kernel
theorem dX9_does_165 : decode cX9_does 165 = .ok (.iload_n 1, 1) := by decide +kernel
theorem dX9_does_166 : decode cX9_does 166 = .ok (.ireturn, 1) := by decide +kernel
theorem dX9_does_167 : decode cX9_does 167 = .ok (.aload_n 0, 1) := by decide +kernel
theorem dX9_does_168 : decode cX9_does 168 = .ok (.getfield 7, 3) := by decide +kernel
theorem dX9_does_171 : decode cX9_does 171 = .ok (.bipush 60, 2) := by decide +kernel
theorem dX9_does_173 : decode cX9_does 173 = .ok (.iaload, 1) := by decide +kernel
theorem dX9_does_174 : decode cX9_does 174 = .ok (.bipush 8, 2) := by decide +kernel
theorem dX9_does_176 : decode cX9_does 176 = .ok (.if_icmp .ne 8, 3) := by decide +kernel
theorem dX9_does_179 : decode cX9_does 179 = .ok (.bipush 8, 2) := by decide +kernel
theorem dX9_does_181 : decode cX9_does 181 = .ok (.goto 4, 3) := by decide +kernel
theorem dX9_does_184 : decode cX9_does 184 = .ok (.iconst 0, 1) := by decide +kernel
theorem dX9_does_185 : decode cX9_does 185 = .ok (.istore_n 1, 1) := by decide +kernel
theorem dX9_does_186 : decode cX9_does 186 = .ok (.iload_n 1, 1) := by decide +kernel
theorem dX9_does_187 : decode cX9_does 187 = .ok (.ifCond .ne 18, 3) := by decide +kernel
theorem dX9_does_190 : decode cX9_does 190 = .ok (.aload_n 0, 1) := by decide +kernel
theorem dX9_does_191 : decode cX9_does 191 = .ok (.aload_n 0, 1) := by decide +kernel
theorem dX9_does_192 : decode cX9_does 192 = .ok (.getfield 178, 3) := by decide +kernel
theorem dX9_does_195 : decode cX9_does 195 = .ok (.aload_n 0, 1) := by decide +kernel
theorem dX9_does_196 : decode cX9_does 196 = .ok (.getfield 189, 3) := by decide +kernel
theorem dX9_does_199 : decode cX9_does 199 = .ok (.invokevirtual 139, 3) := by decide +kernel
theorem dX9_does_202 : decode cX9_does 202 = .ok (.goto 4, 3) := by decide +kernel
theorem dX9_does_205 : decode cX9_does 205 = .ok (.iconst (-1), 1) := by decide +kernel
theorem dX9_does_206 : decode cX9_does 206 = .ok (.istore_n 2, 1) := by decide +kernel
theorem dX9_does_207 : decode cX9_does 207 = .ok (.iload_n 1, 1) := by decide +kernel
theorem dX9_does_208 : decode cX9_does 208 = .ok (.ireturn, 1) := by decide +kernel
theorem dX9_does_209 : decode cX9_does 209 = .ok (.aload_n 0, 1) := by decide +kernel
theorem dX9_does_210 : decode cX9_does 210 = .ok (.aload_n 0, 1) := by decide +kernel
theorem dX9_does_211 : decode cX9_does 211 = .ok (.getfield 178, 3) := by decide +kernel
theorem dX9_does_214 : decode cX9_does 214 = .ok (.invokevirtual 150, 3) := by decide +kernel
theorem dX9_does_217 : decode cX9_does 217 = .ok (.ifCond .eq 18, 3) := by decide +kernel
theorem dX9_does_220 : decode cX9_does 220 = .ok (.aload_n 0, 1) := by decide +kernel
theorem dX9_does_221 : decode cX9_does 221 = .ok (.aload_n 0, 1) := by decide +kernel
theorem dX9_does_222 : decode cX9_does 222 = .ok (.getfield 178, 3) := by decide +kernel
theorem dX9_does_225 : decode cX9_does 225 = .ok (.aload_n 0, 1) := by decide +kernel
theorem dX9_does_226 : decode cX9_does 226 = .ok (.getfield 189, 3) := by decide +kernel
theorem dX9_does_229 : decode cX9_does 229 = .ok (.invokevirtual 153, 3) := by decide +kernel
theorem dX9_does_232 : decode cX9_does 232 = .ok (.goto 5, 3) := by decide +kernel
theorem dX9_does_235 : decode cX9_does 235 = .ok (.bipush 7, 2) := by decide +kernel
theorem dX9_does_237 : decode cX9_does 237 = .ok (.istore_n 1, 1) := by decide +kernel
theorem dX9_does_238 : decode cX9_does 238 = .ok (.iload_n 1, 1) := by decide +kernel
theorem dX9_does_239 : decode cX9_does 239 = .ok (.ifCond .ne 18, 3) := by decide +kernel
theorem dX9_does_242 : decode cX9_does 242 = .ok (.aload_n 0, 1) := by decide +kernel
theorem dX9_does_243 : decode cX9_does 243 = .ok (.aload_n 0, 1) := by decide +kernel
theorem dX9_does_244 : decode cX9_does 244 = .ok (.getfield 178, 3) := by decide +kernel
theorem dX9_does_247 : decode cX9_does 247 = .ok (.aload_n 0, 1) := by decide +kernel
theorem dX9_does_248 : decode cX9_does 248 = .ok (.getfield 189, 3) := by decide +kernel
theorem dX9_does_251 : decode cX9_does 251 = .ok (.invokevirtual 156, 3) := by decide +kernel
theorem dX9_does_254 : decode cX9_does 254 = .ok (.goto 4, 3) := by decide +kernel
theorem dX9_does_257 : decode cX9_does 257 = .ok (.iconst (-1), 1) := by decide +kernel
theorem dX9_does_258 : decode cX9_does 258 = .ok (.istore_n 3, 1) := by decide +kernel
theorem dX9_does_259 : decode cX9_does 259 = .ok (.iload_n 1, 1) := by decide +kernel
theorem dX9_does_260 : decode cX9_does 260 = .ok (.ireturn, 1) := by decide +kernel
theorem dX9_work_0 : decode cX9_work 0 = .ok (.aload_n 0, 1) := by decide +kernel
theorem dX9_work_1 : decode cX9_work 1 = .ok (.aload_n 0, 1) := by decide +kernel
theorem dX9_work_2 : decode cX9_work 2 = .ok (.invokevirtual 201, 3) := by decide +kernel
theorem dX9_work_5 : decode cX9_work 5 = .ok (.ifCond .eq 7, 3) := by decide +kernel
theorem dX9_work_8 : decode cX9_work 8 = .ok (.iconst 0, 1) := by decide +kernel
theorem dX9_work_9 : decode cX9_work 9 = .ok (.goto 4, 3) := by decide +kernel
theorem dX9_work_12 : decode cX9_work 12 = .ok (.iconst 1, 1) := by decide +kernel
theorem dX9_work_13 : decode cX9_work 13 = .ok (.invokevirtual 111, 3) := by decide +kernel
theorem dX9_work_16 : decode cX9_work 16 = .ok (.ifCond .eq 5, 3) := by decide +kernel
theorem dX9_work_19 : decode cX9_work 19 = .ok (.iconst 0, 1) := by decide +kernel
theorem dX9_work_20 : decode cX9_work 20 = .ok (.ireturn, 1) := by decide +kernel
theorem dX9_work_21 : decode cX9_work 21 = .ok (.aload_n 0, 1) := by decide +kernel
theorem dX9_work_22 : decode cX9_work 22 = .ok (.invokevirtual 114, 3) := by decide +kernel
theorem dX9_work_25 : decode cX9_work 25 = .ok (.iconst 0, 1) := by decide +kernel
theorem dX9_work_26 : decode cX9_work 26 = .ok (.istore_n 1, 1) := by decide +kernel
theorem dX9_work_27 : decode cX9_work 27 = .ok (.iconst 0, 1) := by decide +kernel
theorem dX9_work_28 : decode cX9_work 28 = .ok (.istore_n 2, 1) := by decide +kernel
theorem dX9_work_29 : decode cX9_work 29 = .ok (.aload_n 0, 1) := by decide +kernel
theorem dX9_work_30 : decode cX9_work 30 = .ok (.iconst 0, 1) := by decide +kernel
theorem dX9_work_31 : decode cX9_work 31 = .ok (.putfield 162, 3) := by decide +kernel
theorem dX9_work_34 : decode cX9_work 34 = .ok (.iload_n 2, 1) := by decide +kernel
theorem dX9_work_35 : decode cX9_work 35 = .ok (.ifCond .ne 48, 3) := by decide +kernel
theorem dX9_work_38 : decode cX9_work 38 = .ok (.aload_n 0, 1) := by decide +kernel
theorem dX9_work_39 : decode cX9_work 39 = .ok (.getfield 162, 3) := by decide +kernel
theorem dX9_work_42 : decode cX9_work 42 = .ok (.aload_n 0, 1) := by decide +kernel
theorem dX9_work_43 : decode cX9_work 43 = .ok (.getfield 159, 3) := by decide +kernel
theorem dX9_work_46 : decode cX9_work 46 = .ok (.if_icmp .ge 37, 3) := by decide +kernel
theorem dX9_work_49 : decode cX9_work 49 = .ok (.aload_n 0, 1) := by decide +kernel
theorem dX9_work_50 : decode cX9_work 50 = .ok (.invokevirtual 198, 3) := by decide +kernel
theorem dX9_work_53 : decode cX9_work 53 = .ok (.aload_n 0, 1) := by decide +kernel
theorem dX9_work_54 : decode cX9_work 54 = .ok (.dup, 1) := by decide +kernel
theorem dX9_work_55 : decode cX9_work 55 = .ok (.getfield 162, 3) := by decide +kernel
theorem dX9_work_58 : decode cX9_work 58 = .ok (.iconst 1, 1) := by decide +kernel
theorem dX9_work_59 : decode cX9_work 59 = .ok (.iadd, 1) := by decide +kernel
theorem dX9_work_60 : decode cX9_work 60 = .ok (.putfield 162, 3) := by decide +kernel
theorem dX9_work_63 : decode cX9_work 63 = .ok (.aload_n 0, 1) := by decide +kernel
theorem dX9_work_64 : decode cX9_work 64 = .ok (.invokevirtual 205, 3) := by decide +kernel
theorem dX9_work_67 : decode cX9_work 67 = .ok (.istore_n 2, 1) := by decide +kernel
theorem dX9_work_68 : decode cX9_work 68 = .ok (.iload_n 1, 1) := by decide +kernel
theorem dX9_work_69 : decode cX9_work 69 = .ok (.iload_n 2, 1) := by decide +kernel
theorem dX9_work_70 : decode cX9_work 70 = .ok (.ifCond .ne 7, 3) := by decide +kernel
theorem dX9_work_73 : decode cX9_work 73 = .ok (.iconst 1, 1) := by decide +kernel
theorem dX9_work_74 : decode cX9_work 74 = .ok (.goto 4, 3) := by decide +kernel
theorem dX9_work_77 : decode cX9_work 77 = .ok (.iconst 0, 1) := by decide +kernel
theorem dX9_work_78 : decode cX9_work 78 = .ok (.iadd, 1) := by decide +kernel
theorem dX9_work_79 : decode cX9_work 79 = .ok (.istore_n 1, 1) := by decide +kernel
theorem dX9_work_80 : decode cX9_work 80 = .ok (.goto (-46), 3) := by decide +kernel
theorem dX9_work_83 : decode cX9_work 83 = .ok (.aload_n 0, 1) := by decide +kernel
theorem dX9_work_84 : decode cX9_work 84 = .ok (.getfield 7, 3) := by decide +kernel
theorem dX9_work_87 : decode cX9_work 87 = .ok (.bipush 63, 2) := by decide +kernel
theorem dX9_work_89 : decode cX9_work 89 = .ok (.iload_n 2, 1) := by decide +kernel
theorem dX9_work_90 : decode cX9_work 90 = .ok (.ifCond .ne 7, 3) := by decide +kernel
theorem dX9_work_93 : decode cX9_work 93 = .ok (.iconst 0, 1) := by decide +kernel
theorem dX9_work_94 : decode cX9_work 94 = .ok (.goto 6, 3) := by decide +kernel
theorem dX9_work_97 : decode cX9_work 97 = .ok (.iload_n 1, 1) := by decide +kernel
theorem dX9_work_98 : decode cX9_work 98 = .ok (.iconst 1, 1) := by decide +kernel
theorem dX9_work_99 : decode cX9_work 99 = .ok (.iadd, 1) := by decide +kernel
theorem dX9_work_100 : decode cX9_work 100 = .ok (.iastore, 1) := by decide +kernel
theorem dX9_work_101 : decode cX9_work 101 = .ok (.aload_n 0, 1) := by decide +kernel
theorem dX9_work_102 : decode cX9_work 102 = .ok (.getfield 7, 3) := by decide +kernel
theorem dX9_work_105 : decode cX9_work 105 = .ok (.bipush 64, 2) := by decide +kernel
theorem dX9_work_107 : decode cX9_work 107 = .ok (.iload_n 2, 1) := by decide +kernel
theorem dX9_work_108 : decode cX9_work 108 = .ok (.iastore, 1) := by decide +kernel
theorem dX9_work_109 : decode cX9_work 109 = .ok (.aload_n 0, 1) := by decide +kernel
theorem dX9_work_110 : decode cX9_work 110 = .ok (.iconst 0, 1) := by decide +kernel
theorem dX9_work_111 : decode cX9_work 111 = .ok (.putfield 159, 3) := by decide +kernel
theorem dX9_work_114 : decode cX9_work 114 = .ok (.iload_n 1, 1) := by decide +kernel
theorem dX9_work_115 : decode cX9_work 115 = .ok (.ireturn, 1) := by decide +kernel
theorem dX9_stop_0 : decode cX9_stop 0 = .ok (.aload_n 0, 1) := by decide +kernel
theorem dX9_stop_1 : decode cX9_stop 1 = .ok (.getfield 7, 3) := by decide +kernel
theorem dX9_stop_4 : decode cX9_stop 4 = .ok (.bipush 63, 2) := by decide +kernel
theorem dX9_stop_6 : decode cX9_stop 6 = .ok (.iaload, 1) := by decide +kernel
theorem dX9_stop_7 : decode cX9_stop 7 = .ok (.ifCond .ne 7, 3) := by decide +kernel
theorem dX9_stop_10 : decode cX9_stop 10 = .ok (.iconst (-1), 1) := by decide +kernel
theorem dX9_stop_11 : decode cX9_stop 11 = .ok (.goto 26, 3) := by decide +kernel
theorem dX9_stop_14 : decode cX9_stop 14 = .ok (.iload_n 1, 1) := by decide +kernel
theorem dX9_stop_15 : decode cX9_stop 15 = .ok (.ifCond .ne 15, 3) := by decide +kernel
theorem dX9_stop_18 : decode cX9_stop 18 = .ok (.aload_n 0, 1) := by decide +kernel
theorem dX9_stop_19 : decode cX9_stop 19 = .ok (.getfield 7, 3) := by decide +kernel
theorem dX9_stop_22 : decode cX9_stop 22 = .ok (.bipush 63, 2) := by decide +kernel
theorem dX9_stop_24 : decode cX9_stop 24 = .ok (.iaload, 1) := by decide +kernel
theorem dX9_stop_25 : decode cX9_stop 25 = .ok (.iconst 1, 1) := by decide +kernel
theorem dX9_stop_26 : decode cX9_stop 26 = .ok (.isub, 1) := by decide +kernel
theorem dX9_stop_27 : decode cX9_stop 27 = .ok (.goto 10, 3) := by decide +kernel
theorem dX9_stop_30 : decode cX9_stop 30 = .ok (.aload_n 0, 1) := by decide +kernel
theorem dX9_stop_31 : decode cX9_stop 31 = .ok (.getfield 7, 3) := by decide +kernel
theorem dX9_stop_34 : decode cX9_stop 34 = .ok (.bipush 64, 2) := by decide +kernel
theorem dX9_stop_36 : decode cX9_stop 36 = .ok (.iaload, 1) := by decide +kernel
theorem dX9_stop_37 : decode cX9_stop 37 = .ok (.ireturn, 1) := by decide +kernel
theorem dX9_stopped_0 : decode cX9_stopped 0 = .ok (.aload_n 0, 1) := by decide +kernel
theorem dX9_stopped_1 : decode cX9_stopped 1 = .ok (.iload_n 1, 1) := by decide +kernel
theorem dX9_stopped_2 : decode cX9_stopped 2 = .ok (.iconst 0, 1) := by decide +kernel
theorem dX9_stopped_3 : decode cX9_stopped 3 = .ok (.iconst 1, 1) := by decide +kernel
theorem dX9_stopped_4 : decode cX9_stopped 4 = .ok (.invokestatic 44, 3) := by decide +kernel
theorem dX9_stopped_7 : decode cX9_stopped 7 = .ok (.ifCond .eq 7, 3) := by decide +kernel
theorem dX9_stopped_10 : decode cX9_stopped 10 = .ok (.iconst 0, 1) := by decide +kernel
theorem dX9_stopped_11 : decode cX9_stopped 11 = .ok (.goto 4, 3) := by decide +kernel
theorem dX9_stopped_14 : decode cX9_stopped 14 = .ok (.iconst 1, 1) := by decide +kernel
theorem dX9_stopped_15 : decode cX9_stopped 15 = .ok (.invokevirtual 111, 3) := by decide +kernel
theorem dX9_stopped_18 : decode cX9_stopped 18 = .ok (.ifCond .eq 5, 3) := by decide +kernel
theorem dX9_stopped_21 : decode cX9_stopped 21 = .ok (.iconst 0, 1) := by decide +kernel
theorem dX9_stopped_22 : decode cX9_stopped 22 = .ok (.ireturn, 1) := by decide +kernel
theorem dX9_stopped_23 : decode cX9_stopped 23 = .ok (.aload_n 0, 1) := by decide +kernel
theorem dX9_stopped_24 : decode cX9_stopped 24 = .ok (.iload_n 1, 1) := by decide +kernel
theorem dX9_stopped_25 : decode cX9_stopped 25 = .ok (.invokevirtual 208, 3) := by decide +kernel
theorem dX9_stopped_28 : decode cX9_stopped 28 = .ok (.ireturn, 1) := by decide +kernel
theorem dX9_undo_0 : decode cX9_undo 0 = .ok (.aload_n 0, 1) := by decide +kernel
theorem dX9_undo_1 : decode cX9_undo 1 = .ok (.aload_n 0, 1) := by decide +kernel
theorem dX9_undo_2 : decode cX9_undo 2 = .ok (.getfield 48, 3) := by decide +kernel
theorem dX9_undo_5 : decode cX9_undo 5 = .ok (.ifCond .ne 7, 3) := by decide +kernel
theorem dX9_undo_8 : decode cX9_undo 8 = .ok (.iconst 1, 1) := by decide +kernel
theorem dX9_undo_9 : decode cX9_undo 9 = .ok (.goto 4, 3) := by decide +kernel
theorem dX9_undo_12 : decode cX9_undo 12 = .ok (.iconst 0, 1) := by decide +kernel
theorem dX9_undo_13 : decode cX9_undo 13 = .ok (.invokevirtual 111, 3) := by decide +kernel
theorem dX9_undo_16 : decode cX9_undo 16 = .ok (.ifCond .eq 5, 3) := by decide +kernel
theorem dX9_undo_19 : decode cX9_undo 19 = .ok (.iconst 0, 1) := by decide +kernel
theorem dX9_undo_20 : decode cX9_undo 20 = .ok (.ireturn, 1) := by decide +kernel
theorem dX9_undo_21 : decode cX9_undo 21 = .ok (.aload_n 0, 1) := by decide +kernel
theorem dX9_undo_22 : decode cX9_undo 22 = .ok (.dup, 1) := by decide +kernel
theorem dX9_undo_23 : decode cX9_undo 23 = .ok (.getfield 48, 3) := by decide +kernel
theorem dX9_undo_26 : decode cX9_undo 26 = .ok (.iconst 1, 1) := by decide +kernel
theorem dX9_undo_27 : decode cX9_undo 27 = .ok (.isub, 1) := by decide +kernel
theorem dX9_undo_28 : decode cX9_undo 28 = .ok (.putfield 48, 3) := by decide +kernel
theorem dX9_undo_31 : decode cX9_undo 31 = .ok (.iconst 0, 1) := by decide +kernel
theorem dX9_undo_32 : decode cX9_undo 32 = .ok (.istore_n 1, 1) := by decide +kernel
theorem dX9_undo_33 : decode cX9_undo 33 = .ok (.iload_n 1, 1) := by decide +kernel
theorem dX9_undo_34 : decode cX9_undo 34 = .ok (.bipush 65, 2) := by decide +kernel
theorem dX9_undo_36 : decode cX9_undo 36 = .ok (.if_icmp .ge 29, 3) := by decide +kernel
theorem dX9_undo_39 : decode cX9_undo 39 = .ok (.aload_n 0, 1) := by decide +kernel
theorem dX9_undo_40 : decode cX9_undo 40 = .ok (.getfield 7, 3) := by decide +kernel
theorem dX9_undo_43 : decode cX9_undo 43 = .ok (.iload_n 1, 1) := by decide +kernel
theorem dX9_undo_44 : decode cX9_undo 44 = .ok (.aload_n 0, 1) := by decide +kernel
theorem dX9_undo_45 : decode cX9_undo 45 = .ok (.getfield 13, 3) := by decide +kernel
theorem dX9_undo_48 : decode cX9_undo 48 = .ok (.bipush 65, 2) := by decide +kernel
theorem dX9_undo_50 : decode cX9_undo 50 = .ok (.aload_n 0, 1) := by decide +kernel
theorem dX9_undo_51 : decode cX9_undo 51 = .ok (.getfield 48, 3) := by decide +kernel
theorem dX9_undo_54 : decode cX9_undo 54 = .ok (.imul, 1) := by decide +kernel
theorem dX9_undo_55 : decode cX9_undo 55 = .ok (.iload_n 1, 1) := by decide +kernel
theorem dX9_undo_56 : decode cX9_undo 56 = .ok (.iadd, 1) := by decide +kernel
theorem dX9_undo_57 : decode cX9_undo 57 = .ok (.iaload, 1) := by decide +kernel
theorem dX9_undo_58 : decode cX9_undo 58 = .ok (.iastore, 1) := by decide +kernel
theorem dX9_undo_59 : decode cX9_undo 59 = .ok (.iinc 1 1, 3) := by decide +kernel
theorem dX9_undo_62 : decode cX9_undo 62 = .ok (.goto (-29), 3) := by decide +kernel
theorem dX9_undo_65 : decode cX9_undo 65 = .ok (.aload_n 0, 1) := by decide +kernel
theorem dX9_undo_66 : decode cX9_undo 66 = .ok (.getfield 48, 3) := by decide +kernel
theorem dX9_undo_69 : decode cX9_undo 69 = .ok (.ireturn, 1) := by decide +kernel
theorem dX9_keep_0 : decode cX9_keep 0 = .ok (.aload_n 0, 1) := by decide +kernel
theorem dX9_keep_1 : decode cX9_keep 1 = .ok (.iconst 0, 1) := by decide +kernel
theorem dX9_keep_2 : decode cX9_keep 2 = .ok (.putfield 40, 3) := by decide +kernel
theorem dX9_keep_5 : decode cX9_keep 5 = .ok (.iconst 0, 1) := by decide +kernel
theorem dX9_keep_6 : decode cX9_keep 6 = .ok (.istore_n 1, 1) := by decide +kernel
theorem dX9_keep_7 : decode cX9_keep 7 = .ok (.iload_n 1, 1) := by decide +kernel
theorem dX9_keep_8 : decode cX9_keep 8 = .ok (.bipush 65, 2) := by decide +kernel
theorem dX9_keep_10 : decode cX9_keep 10 = .ok (.if_icmp .ge 21, 3) := by decide +kernel
theorem dX9_keep_13 : decode cX9_keep 13 = .ok (.aload_n 0, 1) := by decide +kernel
theorem dX9_keep_14 : decode cX9_keep 14 = .ok (.getfield 16, 3) := by decide +kernel
theorem dX9_keep_17 : decode cX9_keep 17 = .ok (.iload_n 1, 1) := by decide +kernel
theorem dX9_keep_18 : decode cX9_keep 18 = .ok (.aload_n 0, 1) := by decide +kernel
theorem dX9_keep_19 : decode cX9_keep 19 = .ok (.getfield 7, 3) := by decide +kernel
theorem dX9_keep_22 : decode cX9_keep 22 = .ok (.iload_n 1, 1) := by decide +kernel
theorem dX9_keep_23 : decode cX9_keep 23 = .ok (.iaload, 1) := by decide +kernel
theorem dX9_keep_24 : decode cX9_keep 24 = .ok (.iastore, 1) := by decide +kernel
theorem dX9_keep_25 : decode cX9_keep 25 = .ok (.iinc 1 1, 3) := by decide +kernel
theorem dX9_keep_28 : decode cX9_keep 28 = .ok (.goto (-21), 3) := by decide +kernel
theorem dX9_keep_31 : decode cX9_keep 31 = .ok (.aload_n 0, 1) := by decide +kernel
theorem dX9_keep_32 : decode cX9_keep 32 = .ok (.iconst 1, 1) := by decide +kernel
theorem dX9_keep_33 : decode cX9_keep 33 = .ok (.putfield 211, 3) := by decide +kernel
theorem dX9_keep_36 : decode cX9_keep 36 = .ok (.aload_n 0, 1) := by decide +kernel
theorem dX9_keep_37 : decode cX9_keep 37 = .ok (.invokevirtual 214, 3) := by decide +kernel
theorem dX9_keep_40 : decode cX9_keep 40 = .ok (.ireturn, 1) := by decide +kernel
theorem dX9_restore_0 : decode cX9_restore 0 = .ok (.aload_n 0, 1) := by decide +kernel
theorem dX9_restore_1 : decode cX9_restore 1 = .ok (.aload_n 0, 1) := by decide +kernel
theorem dX9_restore_2 : decode cX9_restore 2 = .ok (.getfield 211, 3) := by decide +kernel
theorem dX9_restore_5 : decode cX9_restore 5 = .ok (.ifCond .eq 7, 3) := by decide +kernel
theorem dX9_restore_8 : decode cX9_restore 8 = .ok (.iconst 0, 1) := by decide +kernel
theorem dX9_restore_9 : decode cX9_restore 9 = .ok (.goto 4, 3) := by decide +kernel
theorem dX9_restore_12 : decode cX9_restore 12 = .ok (.iconst 1, 1) := by decide +kernel
theorem dX9_restore_13 : decode cX9_restore 13 = .ok (.invokevirtual 111, 3) := by decide +kernel
theorem dX9_restore_16 : decode cX9_restore 16 = .ok (.ifCond .eq 5, 3) := by decide +kernel
theorem dX9_restore_19 : decode cX9_restore 19 = .ok (.iconst 0, 1) := by decide +kernel
theorem dX9_restore_20 : decode cX9_restore 20 = .ok (.ireturn, 1) := by decide +kernel
theorem dX9_restore_21 : decode cX9_restore 21 = .ok (.aload_n 0, 1) := by decide +kernel
theorem dX9_restore_22 : decode cX9_restore 22 = .ok (.invokevirtual 114, 3) := by decide +kernel
theorem dX9_restore_25 : decode cX9_restore 25 = .ok (.iconst 0, 1) := by decide +kernel
theorem dX9_restore_26 : decode cX9_restore 26 = .ok (.istore_n 1, 1) := by decide +kernel
theorem dX9_restore_27 : decode cX9_restore 27 = .ok (.iload_n 1, 1) := by decide +kernel
theorem dX9_restore_28 : decode cX9_restore 28 = .ok (.bipush 65, 2) := by decide +kernel
theorem dX9_restore_30 : decode cX9_restore 30 = .ok (.if_icmp .ge 21, 3) := by decide +kernel
theorem dX9_restore_33 : decode cX9_restore 33 = .ok (.aload_n 0, 1) := by decide +kernel
theorem dX9_restore_34 : decode cX9_restore 34 = .ok (.getfield 7, 3) := by decide +kernel
theorem dX9_restore_37 : decode cX9_restore 37 = .ok (.iload_n 1, 1) := by decide +kernel
theorem dX9_restore_38 : decode cX9_restore 38 = .ok (.aload_n 0, 1) := by decide +kernel
theorem dX9_restore_39 : decode cX9_restore 39 = .ok (.getfield 16, 3) := by decide +kernel
theorem dX9_restore_42 : decode cX9_restore 42 = .ok (.iload_n 1, 1) := by decide +kernel
theorem dX9_restore_43 : decode cX9_restore 43 = .ok (.iaload, 1) := by decide +kernel
theorem dX9_restore_44 : decode cX9_restore 44 = .ok (.iastore, 1) := by decide +kernel
theorem dX9_restore_45 : decode cX9_restore 45 = .ok (.iinc 1 1, 3) := by decide +kernel
theorem dX9_restore_48 : decode cX9_restore 48 = .ok (.goto (-21), 3) := by decide +kernel
theorem dX9_restore_51 : decode cX9_restore 51 = .ok (.aload_n 0, 1) := by decide +kernel
theorem dX9_restore_52 : decode cX9_restore 52 = .ok (.invokevirtual 214, 3) := by decide +kernel
theorem dX9_restore_55 : decode cX9_restore 55 = .ok (.ireturn, 1) := by decide +kernel
theorem dX9_ofTable_0 : decode cX9_ofTable 0 = .ok (.iload_n 3, 1) := by decide +kernel
theorem dX9_ofTable_1 : decode cX9_ofTable 1 = .ok (.iconst 2, 1) := by decide +kernel
theorem dX9_ofTable_2 : decode cX9_ofTable 2 = .ok (.if_icmp .ne 12, 3) := by decide +kernel
theorem dX9_ofTable_5 : decode cX9_ofTable 5 = .ok (.aload_n 0, 1) := by decide +kernel
theorem dX9_ofTable_6 : decode cX9_ofTable 6 = .ok (.iload_n 1, 1) := by decide +kernel
theorem dX9_ofTable_7 : decode cX9_ofTable 7 = .ok (.iload_n 2, 1) := by decide +kernel
theorem dX9_ofTable_8 : decode cX9_ofTable 8 = .ok (.invokevirtual 217, 3) := by decide +kernel
theorem dX9_ofTable_11 : decode cX9_ofTable 11 = .ok (.goto 35, 3) := by decide +kernel
theorem dX9_ofTable_14 : decode cX9_ofTable 14 = .ok (.aload_n 0, 1) := by decide +kernel
theorem dX9_ofTable_15 : decode cX9_ofTable 15 = .ok (.iload_n 1, 1) := by decide +kernel
theorem dX9_ofTable_16 : decode cX9_ofTable 16 = .ok (.iload_n 2, 1) := by decide +kernel
theorem dX9_ofTable_17 : decode cX9_ofTable 17 = .ok (.invokevirtual 66, 3) := by decide +kernel
theorem dX9_ofTable_20 : decode cX9_ofTable 20 = .ok (.ifCond .ne 7, 3) := by decide +kernel
theorem dX9_ofTable_23 : decode cX9_ofTable 23 = .ok (.iconst (-1), 1) := by decide +kernel
theorem dX9_ofTable_24 : decode cX9_ofTable 24 = .ok (.goto 22, 3) := by decide +kernel
theorem dX9_ofTable_27 : decode cX9_ofTable 27 = .ok (.iload_n 3, 1) := by decide +kernel
theorem dX9_ofTable_28 : decode cX9_ofTable 28 = .ok (.ifCond .ne 12, 3) := by decide +kernel
theorem dX9_ofTable_31 : decode cX9_ofTable 31 = .ok (.aload_n 0, 1) := by decide +kernel
theorem dX9_ofTable_32 : decode cX9_ofTable 32 = .ok (.iload_n 1, 1) := by decide +kernel
theorem dX9_ofTable_33 : decode cX9_ofTable 33 = .ok (.iload_n 2, 1) := by decide +kernel
theorem dX9_ofTable_34 : decode cX9_ofTable 34 = .ok (.invokevirtual 69, 3) := by decide +kernel
theorem dX9_ofTable_37 : decode cX9_ofTable 37 = .ok (.goto 9, 3) := by decide +kernel
theorem dX9_ofTable_40 : decode cX9_ofTable 40 = .ok (.aload_n 0, 1) := by decide +kernel
theorem dX9_ofTable_41 : decode cX9_ofTable 41 = .ok (.iload_n 1, 1) := by decide +kernel
theorem dX9_ofTable_42 : decode cX9_ofTable 42 = .ok (.iload_n 2, 1) := by decide +kernel
theorem dX9_ofTable_43 : decode cX9_ofTable 43 = .ok (.invokevirtual 72, 3) := by decide +kernel
theorem dX9_ofTable_46 : decode cX9_ofTable 46 = .ok (.ireturn, 1) := by decide +kernel
theorem dX9_badPair_0 : decode cX9_badPair 0 = .ok (.iload_n 0, 1) := by decide +kernel
theorem dX9_badPair_1 : decode cX9_badPair 1 = .ok (.invokestatic 55, 3) := by decide +kernel
theorem dX9_badPair_4 : decode cX9_badPair 4 = .ok (.ifCond .eq 10, 3) := by decide +kernel
theorem dX9_badPair_7 : decode cX9_badPair 7 = .ok (.iload_n 1, 1) := by decide +kernel
theorem dX9_badPair_8 : decode cX9_badPair 8 = .ok (.invokestatic 55, 3) := by decide +kernel
theorem dX9_badPair_11 : decode cX9_badPair 11 = .ok (.ifCond .ne 7, 3) := by decide +kernel
theorem dX9_badPair_14 : decode cX9_badPair 14 = .ok (.iconst 1, 1) := by decide +kernel
theorem dX9_badPair_15 : decode cX9_badPair 15 = .ok (.goto 17, 3) := by decide +kernel
theorem dX9_badPair_18 : decode cX9_badPair 18 = .ok (.iload_n 0, 1) := by decide +kernel
theorem dX9_badPair_19 : decode cX9_badPair 19 = .ok (.iload_n 1, 1) := by decide +kernel
theorem dX9_badPair_20 : decode cX9_badPair 20 = .ok (.if_icmp .eq 11, 3) := by decide +kernel
theorem dX9_badPair_23 : decode cX9_badPair 23 = .ok (.iload_n 2, 1) := by decide +kernel
theorem dX9_badPair_24 : decode cX9_badPair 24 = .ok (.ifCond .eq 7, 3) := by decide +kernel
theorem dX9_badPair_27 : decode cX9_badPair 27 = .ok (.iconst 0, 1) := by decide +kernel
theorem dX9_badPair_28 : decode cX9_badPair 28 = .ok (.goto 4, 3) := by decide +kernel
theorem dX9_badPair_31 : decode cX9_badPair 31 = .ok (.iconst 2, 1) := by decide +kernel
theorem dX9_badPair_32 : decode cX9_badPair 32 = .ok (.ireturn, 1) := by decide +kernel
theorem dX9_tableOf_0 : decode cX9_tableOf 0 = .ok (.aload_n 0, 1) := by decide +kernel
theorem dX9_tableOf_1 : decode cX9_tableOf 1 = .ok (.iload_n 1, 1) := by decide +kernel
theorem dX9_tableOf_2 : decode cX9_tableOf 2 = .ok (.iload_n 2, 1) := by decide +kernel
theorem dX9_tableOf_3 : decode cX9_tableOf 3 = .ok (.iload_n 3, 1) := by decide +kernel
theorem dX9_tableOf_4 : decode cX9_tableOf 4 = .ok (.iconst 0, 1) := by decide +kernel
theorem dX9_tableOf_5 : decode cX9_tableOf 5 = .ok (.iconst 2, 1) := by decide +kernel
theorem dX9_tableOf_6 : decode cX9_tableOf 6 = .ok (.invokestatic 44, 3) := by decide +kernel
theorem dX9_tableOf_9 : decode cX9_tableOf 9 = .ok (.invokestatic 220, 3) := by decide +kernel
theorem dX9_tableOf_12 : decode cX9_tableOf 12 = .ok (.invokevirtual 111, 3) := by decide +kernel
theorem dX9_tableOf_15 : decode cX9_tableOf 15 = .ok (.ifCond .eq 5, 3) := by decide +kernel
theorem dX9_tableOf_18 : decode cX9_tableOf 18 = .ok (.iconst 0, 1) := by decide +kernel
theorem dX9_tableOf_19 : decode cX9_tableOf 19 = .ok (.ireturn, 1) := by decide +kernel
theorem dX9_tableOf_20 : decode cX9_tableOf 20 = .ok (.aload_n 0, 1) := by decide +kernel
theorem dX9_tableOf_21 : decode cX9_tableOf 21 = .ok (.iload_n 1, 1) := by decide +kernel
theorem dX9_tableOf_22 : decode cX9_tableOf 22 = .ok (.iload_n 2, 1) := by decide +kernel
theorem dX9_tableOf_23 : decode cX9_tableOf 23 = .ok (.iload_n 3, 1) := by decide +kernel
theorem dX9_tableOf_24 : decode cX9_tableOf 24 = .ok (.invokevirtual 224, 3) := by decide +kernel
theorem dX9_tableOf_27 : decode cX9_tableOf 27 = .ok (.ireturn, 1) := by decide +kernel
theorem dX9_told_0 : decode cX9_told 0 = .ok (.aload_n 0, 1) := by decide +kernel
theorem dX9_told_1 : decode cX9_told 1 = .ok (.iload_n 1, 1) := by decide +kernel
theorem dX9_told_2 : decode cX9_told 2 = .ok (.invokevirtual 85, 3) := by decide +kernel
theorem dX9_told_5 : decode cX9_told 5 = .ok (.ldc2_w 227, 3) := by decide +kernel
theorem dX9_told_8 : decode cX9_told 8 = .ok (.ladd, 1) := by decide +kernel
theorem dX9_told_9 : decode cX9_told 9 = .ok (.lstore_n 3, 1) := by decide +kernel
theorem dX9_told_10 : decode cX9_told 10 = .ok (.iload_n 2, 1) := by decide +kernel
theorem dX9_told_11 : decode cX9_told 11 = .ok (.ifCond .ne 12, 3) := by decide +kernel
theorem dX9_told_14 : decode cX9_told 14 = .ok (.aload_n 0, 1) := by decide +kernel
theorem dX9_told_15 : decode cX9_told 15 = .ok (.getfield 22, 3) := by decide +kernel
theorem dX9_told_18 : decode cX9_told 18 = .ok (.iload_n 1, 1) := by decide +kernel
theorem dX9_told_19 : decode cX9_told 19 = .ok (.iaload, 1) := by decide +kernel
theorem dX9_told_20 : decode cX9_told 20 = .ok (.goto 63, 3) := by decide +kernel
theorem dX9_told_23 : decode cX9_told 23 = .ok (.iload_n 2, 1) := by decide +kernel
theorem dX9_told_24 : decode cX9_told 24 = .ok (.iconst 1, 1) := by decide +kernel
theorem dX9_told_25 : decode cX9_told 25 = .ok (.if_icmp .ne 12, 3) := by decide +kernel
theorem dX9_told_28 : decode cX9_told 28 = .ok (.aload_n 0, 1) := by decide +kernel
theorem dX9_told_29 : decode cX9_told 29 = .ok (.getfield 25, 3) := by decide +kernel
theorem dX9_told_32 : decode cX9_told 32 = .ok (.iload_n 1, 1) := by decide +kernel
theorem dX9_told_33 : decode cX9_told 33 = .ok (.iaload, 1) := by decide +kernel
theorem dX9_told_34 : decode cX9_told 34 = .ok (.goto 49, 3) := by decide +kernel
theorem dX9_told_37 : decode cX9_told 37 = .ok (.iload_n 2, 1) := by decide +kernel
theorem dX9_told_38 : decode cX9_told 38 = .ok (.iconst 3, 1) := by decide +kernel
theorem dX9_told_39 : decode cX9_told 39 = .ok (.if_icmp .ne 19, 3) := by decide +kernel
theorem dX9_told_42 : decode cX9_told 42 = .ok (.aload_n 0, 1) := by decide +kernel
theorem dX9_told_43 : decode cX9_told 43 = .ok (.iload_n 1, 1) := by decide +kernel
theorem dX9_told_44 : decode cX9_told 44 = .ok (.invokevirtual 92, 3) := by decide +kernel
theorem dX9_told_47 : decode cX9_told 47 = .ok (.ifCond .eq 7, 3) := by decide +kernel
theorem dX9_told_50 : decode cX9_told 50 = .ok (.iconst 1, 1) := by decide +kernel
theorem dX9_told_51 : decode cX9_told 51 = .ok (.goto 32, 3) := by decide +kernel
theorem dX9_told_54 : decode cX9_told 54 = .ok (.iconst 0, 1) := by decide +kernel
theorem dX9_told_55 : decode cX9_told 55 = .ok (.goto 28, 3) := by decide +kernel
theorem dX9_told_58 : decode cX9_told 58 = .ok (.lload_n 3, 1) := by decide +kernel
theorem dX9_told_59 : decode cX9_told 59 = .ok (.lconst 0, 1) := by decide +kernel
theorem dX9_told_60 : decode cX9_told 60 = .ok (.lcmp, 1) := by decide +kernel
theorem dX9_told_61 : decode cX9_told 61 = .ok (.ifCond .ge 7, 3) := by decide +kernel
theorem dX9_told_64 : decode cX9_told 64 = .ok (.iconst 0, 1) := by decide +kernel
theorem dX9_told_65 : decode cX9_told 65 = .ok (.goto 18, 3) := by decide +kernel
theorem dX9_told_68 : decode cX9_told 68 = .ok (.lload_n 3, 1) := by decide +kernel
theorem dX9_told_69 : decode cX9_told 69 = .ok (.ldc2_w 229, 3) := by decide +kernel
theorem dX9_told_72 : decode cX9_told 72 = .ok (.lcmp, 1) := by decide +kernel
theorem dX9_told_73 : decode cX9_told 73 = .ok (.ifCond .le 8, 3) := by decide +kernel
theorem dX9_told_76 : decode cX9_told 76 = .ok (.ldc 231, 2) := by decide +kernel
theorem dX9_told_78 : decode cX9_told 78 = .ok (.goto 5, 3) := by decide +kernel
theorem dX9_told_81 : decode cX9_told 81 = .ok (.lload_n 3, 1) := by decide +kernel
theorem dX9_told_82 : decode cX9_told 82 = .ok (.l2i, 1) := by decide +kernel
theorem dX9_told_83 : decode cX9_told 83 = .ok (.ireturn, 1) := by decide +kernel
theorem dX9_ring_0 : decode cX9_ring 0 = .ok (.aload_n 0, 1) := by decide +kernel
theorem dX9_ring_1 : decode cX9_ring 1 = .ok (.iload_n 1, 1) := by decide +kernel
theorem dX9_ring_2 : decode cX9_ring 2 = .ok (.ifCond .lt 12, 3) := by decide +kernel
theorem dX9_ring_5 : decode cX9_ring 5 = .ok (.iload_n 2, 1) := by decide +kernel
theorem dX9_ring_6 : decode cX9_ring 6 = .ok (.iconst 0, 1) := by decide +kernel
theorem dX9_ring_7 : decode cX9_ring 7 = .ok (.iconst 3, 1) := by decide +kernel
theorem dX9_ring_8 : decode cX9_ring 8 = .ok (.invokestatic 44, 3) := by decide +kernel
theorem dX9_ring_11 : decode cX9_ring 11 = .ok (.ifCond .ne 7, 3) := by decide +kernel
theorem dX9_ring_14 : decode cX9_ring 14 = .ok (.iconst 1, 1) := by decide +kernel
theorem dX9_ring_15 : decode cX9_ring 15 = .ok (.goto 4, 3) := by decide +kernel
theorem dX9_ring_18 : decode cX9_ring 18 = .ok (.iconst 0, 1) := by decide +kernel
theorem dX9_ring_19 : decode cX9_ring 19 = .ok (.invokevirtual 111, 3) := by decide +kernel
theorem dX9_ring_22 : decode cX9_ring 22 = .ok (.ifCond .eq 5, 3) := by decide +kernel
theorem dX9_ring_25 : decode cX9_ring 25 = .ok (.iconst 0, 1) := by decide +kernel
theorem dX9_ring_26 : decode cX9_ring 26 = .ok (.ireturn, 1) := by decide +kernel
theorem dX9_ring_27 : decode cX9_ring 27 = .ok (.iload_n 1, 1) := by decide +kernel
theorem dX9_ring_28 : decode cX9_ring 28 = .ok (.istore_n 3, 1) := by decide +kernel
theorem dX9_ring_29 : decode cX9_ring 29 = .ok (.iconst 0, 1) := by decide +kernel
theorem dX9_ring_30 : decode cX9_ring 30 = .ok (.istore 4, 2) := by decide +kernel
theorem dX9_ring_32 : decode cX9_ring 32 = .ok (.iload 4, 2) := by decide +kernel
theorem dX9_ring_34 : decode cX9_ring 34 = .ok (.bipush 37, 2) := by decide +kernel
theorem dX9_ring_36 : decode cX9_ring 36 = .ok (.if_icmp .ge 33, 3) := by decide +kernel
theorem dX9_ring_39 : decode cX9_ring 39 = .ok (.aload_n 0, 1) := by decide +kernel
theorem dX9_ring_40 : decode cX9_ring 40 = .ok (.iload 4, 2) := by decide +kernel
theorem dX9_ring_42 : decode cX9_ring 42 = .ok (.invokevirtual 89, 3) := by decide +kernel
theorem dX9_ring_45 : decode cX9_ring 45 = .ok (.ifCond .eq 18, 3) := by decide +kernel
theorem dX9_ring_48 : decode cX9_ring 48 = .ok (.iload_n 3, 1) := by decide +kernel
theorem dX9_ring_49 : decode cX9_ring 49 = .ok (.ifCond .ne 11, 3) := by decide +kernel
theorem dX9_ring_52 : decode cX9_ring 52 = .ok (.aload_n 0, 1) := by decide +kernel
theorem dX9_ring_53 : decode cX9_ring 53 = .ok (.iload 4, 2) := by decide +kernel
theorem dX9_ring_55 : decode cX9_ring 55 = .ok (.iload_n 2, 1) := by decide +kernel
theorem dX9_ring_56 : decode cX9_ring 56 = .ok (.invokevirtual 232, 3) := by decide +kernel
theorem dX9_ring_59 : decode cX9_ring 59 = .ok (.ireturn, 1) := by decide +kernel
theorem dX9_ring_60 : decode cX9_ring 60 = .ok (.iinc 3 (-1), 3) := by decide +kernel
theorem dX9_ring_63 : decode cX9_ring 63 = .ok (.iinc 4 1, 3) := by decide +kernel
theorem dX9_ring_66 : decode cX9_ring 66 = .ok (.goto (-34), 3) := by decide +kernel
theorem dX9_ring_69 : decode cX9_ring 69 = .ok (.iconst (-1), 1) := by decide +kernel
theorem dX9_ring_70 : decode cX9_ring 70 = .ok (.ireturn, 1) := by decide +kernel
theorem dX9_bolted_0 : decode cX9_bolted 0 = .ok (.aload_n 0, 1) := by decide +kernel
theorem dX9_bolted_1 : decode cX9_bolted 1 = .ok (.iload_n 1, 1) := by decide +kernel
theorem dX9_bolted_2 : decode cX9_bolted 2 = .ok (.iload_n 2, 1) := by decide +kernel
theorem dX9_bolted_3 : decode cX9_bolted 3 = .ok (.invokevirtual 142, 3) := by decide +kernel
theorem dX9_bolted_6 : decode cX9_bolted 6 = .ok (.iload_n 2, 1) := by decide +kernel
theorem dX9_bolted_7 : decode cX9_bolted 7 = .ok (.iconst 2, 1) := by decide +kernel
theorem dX9_bolted_8 : decode cX9_bolted 8 = .ok (.if_icmp .ne 8, 3) := by decide +kernel
theorem dX9_bolted_11 : decode cX9_bolted 11 = .ok (.ldc 235, 2) := by decide +kernel
theorem dX9_bolted_13 : decode cX9_bolted 13 = .ok (.goto 4, 3) := by decide +kernel
theorem dX9_bolted_16 : decode cX9_bolted 16 = .ok (.iconst 0, 1) := by decide +kernel
theorem dX9_bolted_17 : decode cX9_bolted 17 = .ok (.iadd, 1) := by decide +kernel
theorem dX9_bolted_18 : decode cX9_bolted 18 = .ok (.ireturn, 1) := by decide +kernel
theorem dX9_boltOf_0 : decode cX9_boltOf 0 = .ok (.aload_n 0, 1) := by decide +kernel
theorem dX9_boltOf_1 : decode cX9_boltOf 1 = .ok (.aload_n 0, 1) := by decide +kernel
theorem dX9_boltOf_2 : decode cX9_boltOf 2 = .ok (.iload_n 1, 1) := by decide +kernel
theorem dX9_boltOf_3 : decode cX9_boltOf 3 = .ok (.invokevirtual 150, 3) := by decide +kernel
theorem dX9_boltOf_6 : decode cX9_boltOf 6 = .ok (.ifCond .ne 7, 3) := by decide +kernel
theorem dX9_boltOf_9 : decode cX9_boltOf 9 = .ok (.iconst 1, 1) := by decide +kernel
theorem dX9_boltOf_10 : decode cX9_boltOf 10 = .ok (.goto 17, 3) := by decide +kernel
theorem dX9_boltOf_13 : decode cX9_boltOf 13 = .ok (.iload_n 2, 1) := by decide +kernel
theorem dX9_boltOf_14 : decode cX9_boltOf 14 = .ok (.iconst 0, 1) := by decide +kernel
theorem dX9_boltOf_15 : decode cX9_boltOf 15 = .ok (.iconst 3, 1) := by decide +kernel
theorem dX9_boltOf_16 : decode cX9_boltOf 16 = .ok (.invokestatic 44, 3) := by decide +kernel
theorem dX9_boltOf_19 : decode cX9_boltOf 19 = .ok (.ifCond .eq 7, 3) := by decide +kernel
theorem dX9_boltOf_22 : decode cX9_boltOf 22 = .ok (.iconst 0, 1) := by decide +kernel
theorem dX9_boltOf_23 : decode cX9_boltOf 23 = .ok (.goto 4, 3) := by decide +kernel
theorem dX9_boltOf_26 : decode cX9_boltOf 26 = .ok (.iconst 2, 1) := by decide +kernel
theorem dX9_boltOf_27 : decode cX9_boltOf 27 = .ok (.invokevirtual 111, 3) := by decide +kernel
theorem dX9_boltOf_30 : decode cX9_boltOf 30 = .ok (.ifCond .eq 5, 3) := by decide +kernel
theorem dX9_boltOf_33 : decode cX9_boltOf 33 = .ok (.iconst 0, 1) := by decide +kernel
theorem dX9_boltOf_34 : decode cX9_boltOf 34 = .ok (.ireturn, 1) := by decide +kernel
theorem dX9_boltOf_35 : decode cX9_boltOf 35 = .ok (.aload_n 0, 1) := by decide +kernel
theorem dX9_boltOf_36 : decode cX9_boltOf 36 = .ok (.iload_n 1, 1) := by decide +kernel
theorem dX9_boltOf_37 : decode cX9_boltOf 37 = .ok (.iload_n 2, 1) := by decide +kernel
theorem dX9_boltOf_38 : decode cX9_boltOf 38 = .ok (.invokevirtual 236, 3) := by decide +kernel
theorem dX9_boltOf_41 : decode cX9_boltOf 41 = .ok (.ireturn, 1) := by decide +kernel
theorem dX9_lengths_0 : decode cX9_lengths 0 = .ok (.iconst 0, 1) := by decide +kernel
theorem dX9_lengths_1 : decode cX9_lengths 1 = .ok (.istore_n 1, 1) := by decide +kernel
theorem dX9_lengths_2 : decode cX9_lengths 2 = .ok (.iconst 0, 1) := by decide +kernel
theorem dX9_lengths_3 : decode cX9_lengths 3 = .ok (.istore_n 2, 1) := by decide +kernel
theorem dX9_lengths_4 : decode cX9_lengths 4 = .ok (.iload_n 2, 1) := by decide +kernel
theorem dX9_lengths_5 : decode cX9_lengths 5 = .ok (.aload_n 0, 1) := by decide +kernel
theorem dX9_lengths_6 : decode cX9_lengths 6 = .ok (.getfield 7, 3) := by decide +kernel
theorem dX9_lengths_9 : decode cX9_lengths 9 = .ok (.bipush 60, 2) := by decide +kernel
theorem dX9_lengths_11 : decode cX9_lengths 11 = .ok (.iaload, 1) := by decide +kernel
theorem dX9_lengths_12 : decode cX9_lengths 12 = .ok (.if_icmp .ge 18, 3) := by decide +kernel
theorem dX9_lengths_15 : decode cX9_lengths 15 = .ok (.iload_n 1, 1) := by decide +kernel
theorem dX9_lengths_16 : decode cX9_lengths 16 = .ok (.aload_n 0, 1) := by decide +kernel
theorem dX9_lengths_17 : decode cX9_lengths 17 = .ok (.iload_n 2, 1) := by decide +kernel
theorem dX9_lengths_18 : decode cX9_lengths 18 = .ok (.iconst 1, 1) := by decide +kernel
theorem dX9_lengths_19 : decode cX9_lengths 19 = .ok (.invokevirtual 142, 3) := by decide +kernel
theorem dX9_lengths_22 : decode cX9_lengths 22 = .ok (.iadd, 1) := by decide +kernel
theorem dX9_lengths_23 : decode cX9_lengths 23 = .ok (.istore_n 1, 1) := by decide +kernel
theorem dX9_lengths_24 : decode cX9_lengths 24 = .ok (.iinc 2 1, 3) := by decide +kernel
theorem dX9_lengths_27 : decode cX9_lengths 27 = .ok (.goto (-23), 3) := by decide +kernel
theorem dX9_lengths_30 : decode cX9_lengths 30 = .ok (.iload_n 1, 1) := by decide +kernel
theorem dX9_lengths_31 : decode cX9_lengths 31 = .ok (.ireturn, 1) := by decide +kernel
theorem dX9_counts_0 : decode cX9_counts 0 = .ok (.iload_n 1, 1) := by decide +kernel
theorem dX9_counts_1 : decode cX9_counts 1 = .ok (.tableswitch 178 0 17 #[87, 92, 97, 102, 115, 128, 136, 141, 152, 160, 160, 160, 178, 178, 178, 178, 178, 173], 87) := by decide +kernel
theorem dX9_counts_88 : decode cX9_counts 88 = .ok (.aload_n 0, 1) := by decide +kernel
theorem dX9_counts_89 : decode cX9_counts 89 = .ok (.invokevirtual 214, 3) := by decide +kernel
theorem dX9_counts_92 : decode cX9_counts 92 = .ok (.ireturn, 1) := by decide +kernel
theorem dX9_counts_93 : decode cX9_counts 93 = .ok (.aload_n 0, 1) := by decide +kernel
theorem dX9_counts_94 : decode cX9_counts 94 = .ok (.invokevirtual 127, 3) := by decide +kernel
theorem dX9_counts_97 : decode cX9_counts 97 = .ok (.ireturn, 1) := by decide +kernel
theorem dX9_counts_98 : decode cX9_counts 98 = .ok (.aload_n 0, 1) := by decide +kernel
theorem dX9_counts_99 : decode cX9_counts 99 = .ok (.invokevirtual 239, 3) := by decide +kernel
theorem dX9_counts_102 : decode cX9_counts 102 = .ok (.ireturn, 1) := by decide +kernel
theorem dX9_counts_103 : decode cX9_counts 103 = .ok (.aload_n 0, 1) := by decide +kernel
theorem dX9_counts_104 : decode cX9_counts 104 = .ok (.invokevirtual 242, 3) := by decide +kernel
theorem dX9_counts_107 : decode cX9_counts 107 = .ok (.ifCond .eq 7, 3) := by decide +kernel
theorem dX9_counts_110 : decode cX9_counts 110 = .ok (.iconst 1, 1) := by decide +kernel
theorem dX9_counts_111 : decode cX9_counts 111 = .ok (.goto 4, 3) := by decide +kernel
theorem dX9_counts_114 : decode cX9_counts 114 = .ok (.iconst 0, 1) := by decide +kernel
theorem dX9_counts_115 : decode cX9_counts 115 = .ok (.ireturn, 1) := by decide +kernel
theorem dX9_counts_116 : decode cX9_counts 116 = .ok (.aload_n 0, 1) := by decide +kernel
theorem dX9_counts_117 : decode cX9_counts 117 = .ok (.invokevirtual 245, 3) := by decide +kernel
theorem dX9_counts_120 : decode cX9_counts 120 = .ok (.ifCond .eq 7, 3) := by decide +kernel
theorem dX9_counts_123 : decode cX9_counts 123 = .ok (.iconst 1, 1) := by decide +kernel
theorem dX9_counts_124 : decode cX9_counts 124 = .ok (.goto 4, 3) := by decide +kernel
theorem dX9_counts_127 : decode cX9_counts 127 = .ok (.iconst 0, 1) := by decide +kernel
theorem dX9_counts_128 : decode cX9_counts 128 = .ok (.ireturn, 1) := by decide +kernel
theorem dX9_counts_129 : decode cX9_counts 129 = .ok (.aload_n 0, 1) := by decide +kernel
theorem dX9_counts_130 : decode cX9_counts 130 = .ok (.getfield 7, 3) := by decide +kernel
theorem dX9_counts_133 : decode cX9_counts 133 = .ok (.bipush 60, 2) := by decide +kernel
theorem dX9_counts_135 : decode cX9_counts 135 = .ok (.iaload, 1) := by decide +kernel
theorem dX9_counts_136 : decode cX9_counts 136 = .ok (.ireturn, 1) := by decide +kernel
theorem dX9_counts_137 : decode cX9_counts 137 = .ok (.aload_n 0, 1) := by decide +kernel
theorem dX9_counts_138 : decode cX9_counts 138 = .ok (.invokevirtual 248, 3) := by decide +kernel
theorem dX9_counts_141 : decode cX9_counts 141 = .ok (.ireturn, 1) := by decide +kernel
theorem dX9_counts_142 : decode cX9_counts 142 = .ok (.aload_n 0, 1) := by decide +kernel
theorem dX9_counts_143 : decode cX9_counts 143 = .ok (.getfield 7, 3) := by decide +kernel
theorem dX9_counts_146 : decode cX9_counts 146 = .ok (.bipush 61, 2) := by decide +kernel
theorem dX9_counts_148 : decode cX9_counts 148 = .ok (.iaload, 1) := by decide +kernel
theorem dX9_counts_149 : decode cX9_counts 149 = .ok (.ldc 251, 2) := by decide +kernel
theorem dX9_counts_151 : decode cX9_counts 151 = .ok (.iadd, 1) := by decide +kernel
theorem dX9_counts_152 : decode cX9_counts 152 = .ok (.ireturn, 1) := by decide +kernel
theorem dX9_counts_153 : decode cX9_counts 153 = .ok (.aload_n 0, 1) := by decide +kernel
theorem dX9_counts_154 : decode cX9_counts 154 = .ok (.getfield 7, 3) := by decide +kernel
theorem dX9_counts_157 : decode cX9_counts 157 = .ok (.bipush 62, 2) := by decide +kernel
theorem dX9_counts_159 : decode cX9_counts 159 = .ok (.iaload, 1) := by decide +kernel
theorem dX9_counts_160 : decode cX9_counts 160 = .ok (.ireturn, 1) := by decide +kernel
theorem dX9_counts_161 : decode cX9_counts 161 = .ok (.aload_n 0, 1) := by decide +kernel
theorem dX9_counts_162 : decode cX9_counts 162 = .ok (.getfield 7, 3) := by decide +kernel
theorem dX9_counts_165 : decode cX9_counts 165 = .ok (.bipush 25, 2) := by decide +kernel
theorem dX9_counts_167 : decode cX9_counts 167 = .ok (.iload_n 1, 1) := by decide +kernel
theorem dX9_counts_168 : decode cX9_counts 168 = .ok (.iadd, 1) := by decide +kernel
theorem dX9_counts_169 : decode cX9_counts 169 = .ok (.bipush 9, 2) := by decide +kernel
theorem dX9_counts_171 : decode cX9_counts 171 = .ok (.isub, 1) := by decide +kernel
theorem dX9_counts_172 : decode cX9_counts 172 = .ok (.iaload, 1) := by decide +kernel
theorem dX9_counts_173 : decode cX9_counts 173 = .ok (.ireturn, 1) := by decide +kernel
theorem dX9_counts_174 : decode cX9_counts 174 = .ok (.aload_n 0, 1) := by decide +kernel
theorem dX9_counts_175 : decode cX9_counts 175 = .ok (.getfield 48, 3) := by decide +kernel
theorem dX9_counts_178 : decode cX9_counts 178 = .ok (.ireturn, 1) := by decide +kernel
theorem dX9_counts_179 : decode cX9_counts 179 = .ok (.aload_n 0, 1) := by decide +kernel
theorem dX9_counts_180 : decode cX9_counts 180 = .ok (.getfield 7, 3) := by decide +kernel
theorem dX9_counts_183 : decode cX9_counts 183 = .ok (.bipush 20, 2) := by decide +kernel
theorem dX9_counts_185 : decode cX9_counts 185 = .ok (.iload_n 1, 1) := by decide +kernel
theorem dX9_counts_186 : decode cX9_counts 186 = .ok (.iadd, 1) := by decide +kernel
theorem dX9_counts_187 : decode cX9_counts 187 = .ok (.bipush 12, 2) := by decide +kernel
theorem dX9_counts_189 : decode cX9_counts 189 = .ok (.isub, 1) := by decide +kernel
theorem dX9_counts_190 : decode cX9_counts 190 = .ok (.iaload, 1) := by decide +kernel
theorem dX9_counts_191 : decode cX9_counts 191 = .ok (.ireturn, 1) := by decide +kernel
theorem dX9_count_0 : decode cX9_count 0 = .ok (.aload_n 0, 1) := by decide +kernel
theorem dX9_count_1 : decode cX9_count 1 = .ok (.iload_n 1, 1) := by decide +kernel
theorem dX9_count_2 : decode cX9_count 2 = .ok (.iconst 0, 1) := by decide +kernel
theorem dX9_count_3 : decode cX9_count 3 = .ok (.bipush 17, 2) := by decide +kernel
theorem dX9_count_5 : decode cX9_count 5 = .ok (.invokestatic 44, 3) := by decide +kernel
theorem dX9_count_8 : decode cX9_count 8 = .ok (.ifCond .eq 7, 3) := by decide +kernel
theorem dX9_count_11 : decode cX9_count 11 = .ok (.iconst 0, 1) := by decide +kernel
theorem dX9_count_12 : decode cX9_count 12 = .ok (.goto 4, 3) := by decide +kernel
theorem dX9_count_15 : decode cX9_count 15 = .ok (.iconst 1, 1) := by decide +kernel
theorem dX9_count_16 : decode cX9_count 16 = .ok (.invokevirtual 111, 3) := by decide +kernel
theorem dX9_count_19 : decode cX9_count 19 = .ok (.ifCond .eq 5, 3) := by decide +kernel
theorem dX9_count_22 : decode cX9_count 22 = .ok (.iconst 0, 1) := by decide +kernel
theorem dX9_count_23 : decode cX9_count 23 = .ok (.ireturn, 1) := by decide +kernel
theorem dX9_count_24 : decode cX9_count 24 = .ok (.aload_n 0, 1) := by decide +kernel
theorem dX9_count_25 : decode cX9_count 25 = .ok (.iload_n 1, 1) := by decide +kernel
theorem dX9_count_26 : decode cX9_count 26 = .ok (.invokevirtual 252, 3) := by decide +kernel
theorem dX9_count_29 : decode cX9_count 29 = .ok (.ireturn, 1) := by decide +kernel
theorem dX9_offBy_0 : decode cX9_offBy 0 = .ok (.aload_n 0, 1) := by decide +kernel
theorem dX9_offBy_1 : decode cX9_offBy 1 = .ok (.iload_n 1, 1) := by decide +kernel
theorem dX9_offBy_2 : decode cX9_offBy 2 = .ok (.iload_n 2, 1) := by decide +kernel
theorem dX9_offBy_3 : decode cX9_offBy 3 = .ok (.iload_n 3, 1) := by decide +kernel
theorem dX9_offBy_4 : decode cX9_offBy 4 = .ok (.iload 4, 2) := by decide +kernel
theorem dX9_offBy_6 : decode cX9_offBy 6 = .ok (.invokestatic 120, 3) := by decide +kernel
theorem dX9_offBy_9 : decode cX9_offBy 9 = .ok (.invokevirtual 111, 3) := by decide +kernel
theorem dX9_offBy_12 : decode cX9_offBy 12 = .ok (.ifCond .eq 5, 3) := by decide +kernel
theorem dX9_offBy_15 : decode cX9_offBy 15 = .ok (.iconst 0, 1) := by decide +kernel
theorem dX9_offBy_16 : decode cX9_offBy 16 = .ok (.ireturn, 1) := by decide +kernel
theorem dX9_offBy_17 : decode cX9_offBy 17 = .ok (.aload_n 0, 1) := by decide +kernel
theorem dX9_offBy_18 : decode cX9_offBy 18 = .ok (.iload_n 1, 1) := by decide +kernel
theorem dX9_offBy_19 : decode cX9_offBy 19 = .ok (.iload_n 2, 1) := by decide +kernel
theorem dX9_offBy_20 : decode cX9_offBy 20 = .ok (.iload_n 3, 1) := by decide +kernel
theorem dX9_offBy_21 : decode cX9_offBy 21 = .ok (.iload 4, 2) := by decide +kernel
theorem dX9_offBy_23 : decode cX9_offBy 23 = .ok (.invokevirtual 124, 3) := by decide +kernel
theorem dX9_offBy_26 : decode cX9_offBy 26 = .ok (.ireturn, 1) := by decide +kernel
theorem dX9_turned_0 : decode cX9_turned 0 = .ok (.aload_n 0, 1) := by decide +kernel
theorem dX9_turned_1 : decode cX9_turned 1 = .ok (.iload_n 1, 1) := by decide +kernel
theorem dX9_turned_2 : decode cX9_turned 2 = .ok (.iload_n 2, 1) := by decide +kernel
theorem dX9_turned_3 : decode cX9_turned 3 = .ok (.iload_n 3, 1) := by decide +kernel
theorem dX9_turned_4 : decode cX9_turned 4 = .ok (.iconst 0, 1) := by decide +kernel
theorem dX9_turned_5 : decode cX9_turned 5 = .ok (.ldc 255, 2) := by decide +kernel
theorem dX9_turned_7 : decode cX9_turned 7 = .ok (.invokestatic 44, 3) := by decide +kernel
theorem dX9_turned_10 : decode cX9_turned 10 = .ok (.invokestatic 220, 3) := by decide +kernel
theorem dX9_turned_13 : decode cX9_turned 13 = .ok (.invokevirtual 111, 3) := by decide +kernel
theorem dX9_turned_16 : decode cX9_turned 16 = .ok (.ifCond .eq 5, 3) := by decide +kernel
theorem dX9_turned_19 : decode cX9_turned 19 = .ok (.iconst 0, 1) := by decide +kernel
theorem dX9_turned_20 : decode cX9_turned 20 = .ok (.ireturn, 1) := by decide +kernel
theorem dX9_turned_21 : decode cX9_turned 21 = .ok (.aload_n 0, 1) := by decide +kernel
theorem dX9_turned_22 : decode cX9_turned 22 = .ok (.iload_n 1, 1) := by decide +kernel
theorem dX9_turned_23 : decode cX9_turned 23 = .ok (.iload_n 2, 1) := by decide +kernel
theorem dX9_turned_24 : decode cX9_turned 24 = .ok (.invokevirtual 66, 3) := by decide +kernel
theorem dX9_turned_27 : decode cX9_turned 27 = .ok (.ifCond .eq 15, 3) := by decide +kernel
theorem dX9_turned_30 : decode cX9_turned 30 = .ok (.aload_n 0, 1) := by decide +kernel
theorem dX9_turned_31 : decode cX9_turned 31 = .ok (.iload_n 1, 1) := by decide +kernel
theorem dX9_turned_32 : decode cX9_turned 32 = .ok (.iload_n 2, 1) := by decide +kernel
theorem dX9_turned_33 : decode cX9_turned 33 = .ok (.iload_n 3, 1) := by decide +kernel
theorem dX9_turned_34 : decode cX9_turned 34 = .ok (.i2l, 1) := by decide +kernel
theorem dX9_turned_35 : decode cX9_turned 35 = .ok (.invokevirtual 133, 3) := by decide +kernel
theorem dX9_turned_38 : decode cX9_turned 38 = .ok (.l2i, 1) := by decide +kernel
theorem dX9_turned_39 : decode cX9_turned 39 = .ok (.goto 4, 3) := by decide +kernel
theorem dX9_turned_42 : decode cX9_turned 42 = .ok (.iconst (-1), 1) := by decide +kernel
theorem dX9_turned_43 : decode cX9_turned 43 = .ok (.ireturn, 1) := by decide +kernel
theorem dX9_leads_0 : decode cX9_leads 0 = .ok (.iload_n 1, 1) := by decide +kernel
theorem dX9_leads_1 : decode cX9_leads 1 = .ok (.iload_n 2, 1) := by decide +kernel
theorem dX9_leads_2 : decode cX9_leads 2 = .ok (.invokestatic 59, 3) := by decide +kernel
theorem dX9_leads_5 : decode cX9_leads 5 = .ok (.ifCond .eq 30, 3) := by decide +kernel
theorem dX9_leads_8 : decode cX9_leads 8 = .ok (.iload_n 1, 1) := by decide +kernel
theorem dX9_leads_9 : decode cX9_leads 9 = .ok (.iload_n 2, 1) := by decide +kernel
theorem dX9_leads_10 : decode cX9_leads 10 = .ok (.iconst 0, 1) := by decide +kernel
theorem dX9_leads_11 : decode cX9_leads 11 = .ok (.invokestatic 51, 3) := by decide +kernel
theorem dX9_leads_14 : decode cX9_leads 14 = .ok (.iload_n 3, 1) := by decide +kernel
theorem dX9_leads_15 : decode cX9_leads 15 = .ok (.if_icmp .ne 20, 3) := by decide +kernel
theorem dX9_leads_18 : decode cX9_leads 18 = .ok (.iload_n 1, 1) := by decide +kernel
theorem dX9_leads_19 : decode cX9_leads 19 = .ok (.iload_n 2, 1) := by decide +kernel
theorem dX9_leads_20 : decode cX9_leads 20 = .ok (.iload_n 2, 1) := by decide +kernel
theorem dX9_leads_21 : decode cX9_leads 21 = .ok (.iconst 1, 1) := by decide +kernel
theorem dX9_leads_22 : decode cX9_leads 22 = .ok (.isub, 1) := by decide +kernel
theorem dX9_leads_23 : decode cX9_leads 23 = .ok (.invokestatic 51, 3) := by decide +kernel
theorem dX9_leads_26 : decode cX9_leads 26 = .ok (.iload 4, 2) := by decide +kernel
theorem dX9_leads_28 : decode cX9_leads 28 = .ok (.if_icmp .ne 7, 3) := by decide +kernel
theorem dX9_leads_31 : decode cX9_leads 31 = .ok (.iconst 1, 1) := by decide +kernel
theorem dX9_leads_32 : decode cX9_leads 32 = .ok (.goto 4, 3) := by decide +kernel
theorem dX9_leads_35 : decode cX9_leads 35 = .ok (.iconst 0, 1) := by decide +kernel
theorem dX9_leads_36 : decode cX9_leads 36 = .ok (.istore 5, 2) := by decide +kernel
theorem dX9_leads_38 : decode cX9_leads 38 = .ok (.iconst 1, 1) := by decide +kernel
theorem dX9_leads_39 : decode cX9_leads 39 = .ok (.istore 6, 2) := by decide +kernel
theorem dX9_leads_41 : decode cX9_leads 41 = .ok (.iload 6, 2) := by decide +kernel
theorem dX9_leads_43 : decode cX9_leads 43 = .ok (.iload_n 2, 1) := by decide +kernel
theorem dX9_leads_44 : decode cX9_leads 44 = .ok (.if_icmp .ge 36, 3) := by decide +kernel
theorem dX9_leads_47 : decode cX9_leads 47 = .ok (.iload 5, 2) := by decide +kernel
theorem dX9_leads_49 : decode cX9_leads 49 = .ok (.ifCond .eq 31, 3) := by decide +kernel
theorem dX9_leads_52 : decode cX9_leads 52 = .ok (.aload_n 0, 1) := by decide +kernel
theorem dX9_leads_53 : decode cX9_leads 53 = .ok (.iload_n 1, 1) := by decide +kernel
theorem dX9_leads_54 : decode cX9_leads 54 = .ok (.iload_n 2, 1) := by decide +kernel
theorem dX9_leads_55 : decode cX9_leads 55 = .ok (.iload 6, 2) := by decide +kernel
theorem dX9_leads_57 : decode cX9_leads 57 = .ok (.iconst 1, 1) := by decide +kernel
theorem dX9_leads_58 : decode cX9_leads 58 = .ok (.isub, 1) := by decide +kernel
theorem dX9_leads_59 : decode cX9_leads 59 = .ok (.invokestatic 51, 3) := by decide +kernel
theorem dX9_leads_62 : decode cX9_leads 62 = .ok (.iload_n 1, 1) := by decide +kernel
theorem dX9_leads_63 : decode cX9_leads 63 = .ok (.iload_n 2, 1) := by decide +kernel
theorem dX9_leads_64 : decode cX9_leads 64 = .ok (.iload 6, 2) := by decide +kernel
theorem dX9_leads_66 : decode cX9_leads 66 = .ok (.invokestatic 51, 3) := by decide +kernel
theorem dX9_leads_69 : decode cX9_leads 69 = .ok (.invokevirtual 66, 3) := by decide +kernel
theorem dX9_leads_72 : decode cX9_leads 72 = .ok (.istore 5, 2) := by decide +kernel
theorem dX9_leads_74 : decode cX9_leads 74 = .ok (.iinc 6 1, 3) := by decide +kernel
theorem dX9_leads_77 : decode cX9_leads 77 = .ok (.goto (-36), 3) := by decide +kernel
theorem dX9_leads_80 : decode cX9_leads 80 = .ok (.iload 5, 2) := by decide +kernel
theorem dX9_leads_82 : decode cX9_leads 82 = .ok (.ireturn, 1) := by decide +kernel
theorem dX9_rounding_0 : decode cX9_rounding 0 = .ok (.iload_n 3, 1) := by decide +kernel
theorem dX9_rounding_1 : decode cX9_rounding 1 = .ok (.i2l, 1) := by decide +kernel
theorem dX9_rounding_2 : decode cX9_rounding 2 = .ok (.lstore 4, 2) := by decide +kernel
theorem dX9_rounding_4 : decode cX9_rounding 4 = .ok (.lconst 0, 1) := by decide +kernel
theorem dX9_rounding_5 : decode cX9_rounding 5 = .ok (.lstore 6, 2) := by decide +kernel
theorem dX9_rounding_7 : decode cX9_rounding 7 = .ok (.iconst 1, 1) := by decide +kernel
theorem dX9_rounding_8 : decode cX9_rounding 8 = .ok (.istore 8, 2) := by decide +kernel
theorem dX9_rounding_10 : decode cX9_rounding 10 = .ok (.iload 8, 2) := by decide +kernel
theorem dX9_rounding_12 : decode cX9_rounding 12 = .ok (.iload_n 2, 1) := by decide +kernel
theorem dX9_rounding_13 : decode cX9_rounding 13 = .ok (.if_icmp .ge 77, 3) := by decide +kernel
theorem dX9_rounding_16 : decode cX9_rounding 16 = .ok (.aload_n 0, 1) := by decide +kernel
theorem dX9_rounding_17 : decode cX9_rounding 17 = .ok (.iload_n 1, 1) := by decide +kernel
theorem dX9_rounding_18 : decode cX9_rounding 18 = .ok (.iload_n 2, 1) := by decide +kernel
theorem dX9_rounding_19 : decode cX9_rounding 19 = .ok (.iload 8, 2) := by decide +kernel
theorem dX9_rounding_21 : decode cX9_rounding 21 = .ok (.iconst 1, 1) := by decide +kernel
theorem dX9_rounding_22 : decode cX9_rounding 22 = .ok (.isub, 1) := by decide +kernel
theorem dX9_rounding_23 : decode cX9_rounding 23 = .ok (.invokestatic 51, 3) := by decide +kernel
theorem dX9_rounding_26 : decode cX9_rounding 26 = .ok (.iload_n 1, 1) := by decide +kernel
theorem dX9_rounding_27 : decode cX9_rounding 27 = .ok (.iload_n 2, 1) := by decide +kernel
theorem dX9_rounding_28 : decode cX9_rounding 28 = .ok (.iload 8, 2) := by decide +kernel
theorem dX9_rounding_30 : decode cX9_rounding 30 = .ok (.invokestatic 51, 3) := by decide +kernel
theorem dX9_rounding_33 : decode cX9_rounding 33 = .ok (.lload 4, 2) := by decide +kernel
theorem dX9_rounding_35 : decode cX9_rounding 35 = .ok (.invokevirtual 147, 3) := by decide +kernel
theorem dX9_rounding_38 : decode cX9_rounding 38 = .ok (.lstore 9, 2) := by decide +kernel
theorem dX9_rounding_40 : decode cX9_rounding 40 = .ok (.lload 6, 2) := by decide +kernel
theorem dX9_rounding_42 : decode cX9_rounding 42 = .ok (.lload 9, 2) := by decide +kernel
theorem dX9_rounding_44 : decode cX9_rounding 44 = .ok (.lconst 0, 1) := by decide +kernel
theorem dX9_rounding_45 : decode cX9_rounding 45 = .ok (.lcmp, 1) := by decide +kernel
theorem dX9_rounding_46 : decode cX9_rounding 46 = .ok (.ifCond .ge 9, 3) := by decide +kernel
theorem dX9_rounding_49 : decode cX9_rounding 49 = .ok (.lload 9, 2) := by decide +kernel
theorem dX9_rounding_51 : decode cX9_rounding 51 = .ok (.lneg, 1) := by decide +kernel
theorem dX9_rounding_52 : decode cX9_rounding 52 = .ok (.goto 5, 3) := by decide +kernel
theorem dX9_rounding_55 : decode cX9_rounding 55 = .ok (.lload 9, 2) := by decide +kernel
theorem dX9_rounding_57 : decode cX9_rounding 57 = .ok (.ladd, 1) := by decide +kernel
theorem dX9_rounding_58 : decode cX9_rounding 58 = .ok (.lstore 6, 2) := by decide +kernel
theorem dX9_rounding_60 : decode cX9_rounding 60 = .ok (.aload_n 0, 1) := by decide +kernel
theorem dX9_rounding_61 : decode cX9_rounding 61 = .ok (.iload_n 1, 1) := by decide +kernel
theorem dX9_rounding_62 : decode cX9_rounding 62 = .ok (.iload_n 2, 1) := by decide +kernel
theorem dX9_rounding_63 : decode cX9_rounding 63 = .ok (.iload 8, 2) := by decide +kernel
theorem dX9_rounding_65 : decode cX9_rounding 65 = .ok (.iconst 1, 1) := by decide +kernel
theorem dX9_rounding_66 : decode cX9_rounding 66 = .ok (.isub, 1) := by decide +kernel
theorem dX9_rounding_67 : decode cX9_rounding 67 = .ok (.invokestatic 51, 3) := by decide +kernel
theorem dX9_rounding_70 : decode cX9_rounding 70 = .ok (.iload_n 1, 1) := by decide +kernel
theorem dX9_rounding_71 : decode cX9_rounding 71 = .ok (.iload_n 2, 1) := by decide +kernel
theorem dX9_rounding_72 : decode cX9_rounding 72 = .ok (.iload 8, 2) := by decide +kernel
theorem dX9_rounding_74 : decode cX9_rounding 74 = .ok (.invokestatic 51, 3) := by decide +kernel
theorem dX9_rounding_77 : decode cX9_rounding 77 = .ok (.lload 4, 2) := by decide +kernel
theorem dX9_rounding_79 : decode cX9_rounding 79 = .ok (.invokevirtual 133, 3) := by decide +kernel
theorem dX9_rounding_82 : decode cX9_rounding 82 = .ok (.lstore 4, 2) := by decide +kernel
theorem dX9_rounding_84 : decode cX9_rounding 84 = .ok (.iinc 8 1, 3) := by decide +kernel
theorem dX9_rounding_87 : decode cX9_rounding 87 = .ok (.goto (-77), 3) := by decide +kernel
theorem dX9_rounding_90 : decode cX9_rounding 90 = .ok (.lload 6, 2) := by decide +kernel
theorem dX9_rounding_92 : decode cX9_rounding 92 = .ok (.lreturn, 1) := by decide +kernel
theorem dX9_power_0 : decode cX9_power 0 = .ok (.iload_n 0, 1) := by decide +kernel
theorem dX9_power_1 : decode cX9_power 1 = .ok (.iconst 2, 1) := by decide +kernel
theorem dX9_power_2 : decode cX9_power 2 = .ok (.if_icmp .ne 8, 3) := by decide +kernel
theorem dX9_power_5 : decode cX9_power 5 = .ok (.bipush 10, 2) := by decide +kernel
theorem dX9_power_7 : decode cX9_power 7 = .ok (.goto 27, 3) := by decide +kernel
theorem dX9_power_10 : decode cX9_power 10 = .ok (.iload_n 0, 1) := by decide +kernel
theorem dX9_power_11 : decode cX9_power 11 = .ok (.iconst 3, 1) := by decide +kernel
theorem dX9_power_12 : decode cX9_power 12 = .ok (.if_icmp .ne 8, 3) := by decide +kernel
theorem dX9_power_15 : decode cX9_power 15 = .ok (.bipush 100, 2) := by decide +kernel
theorem dX9_power_17 : decode cX9_power 17 = .ok (.goto 17, 3) := by decide +kernel
theorem dX9_power_20 : decode cX9_power 20 = .ok (.iload_n 0, 1) := by decide +kernel
theorem dX9_power_21 : decode cX9_power 21 = .ok (.iconst 4, 1) := by decide +kernel
theorem dX9_power_22 : decode cX9_power 22 = .ok (.if_icmp .ne 9, 3) := by decide +kernel
theorem dX9_power_25 : decode cX9_power 25 = .ok (.sipush 1000, 3) := by decide +kernel
theorem dX9_power_28 : decode cX9_power 28 = .ok (.goto 6, 3) := by decide +kernel
theorem dX9_power_31 : decode cX9_power 31 = .ok (.sipush 10000, 3) := by decide +kernel
theorem dX9_power_34 : decode cX9_power 34 = .ok (.ireturn, 1) := by decide +kernel
theorem dX9_way_0 : decode cX9_way 0 = .ok (.iconst (-1), 1) := by decide +kernel
theorem dX9_way_1 : decode cX9_way 1 = .ok (.istore 4, 2) := by decide +kernel
theorem dX9_way_3 : decode cX9_way 3 = .ok (.lconst 0, 1) := by decide +kernel
theorem dX9_way_4 : decode cX9_way 4 = .ok (.lstore 5, 2) := by decide +kernel
theorem dX9_way_6 : decode cX9_way 6 = .ok (.iconst 2, 1) := by decide +kernel
theorem dX9_way_7 : decode cX9_way 7 = .ok (.istore 7, 2) := by decide +kernel
theorem dX9_way_9 : decode cX9_way 9 = .ok (.iload 7, 2) := by decide +kernel
theorem dX9_way_11 : decode cX9_way 11 = .ok (.aload_n 0, 1) := by decide +kernel
theorem dX9_way_12 : decode cX9_way 12 = .ok (.getfield 7, 3) := by decide +kernel
theorem dX9_way_15 : decode cX9_way 15 = .ok (.bipush 27, 2) := by decide +kernel
theorem dX9_way_17 : decode cX9_way 17 = .ok (.iaload, 1) := by decide +kernel
theorem dX9_way_18 : decode cX9_way 18 = .ok (.iconst 1, 1) := by decide +kernel
theorem dX9_way_19 : decode cX9_way 19 = .ok (.iadd, 1) := by decide +kernel
theorem dX9_way_20 : decode cX9_way 20 = .ok (.if_icmp .gt 84, 3) := by decide +kernel
theorem dX9_way_23 : decode cX9_way 23 = .ok (.iload_n 1, 1) := by decide +kernel
theorem dX9_way_24 : decode cX9_way 24 = .ok (.iload 7, 2) := by decide +kernel
theorem dX9_way_26 : decode cX9_way 26 = .ok (.invokestatic 256, 3) := by decide +kernel
theorem dX9_way_29 : decode cX9_way 29 = .ok (.imul, 1) := by decide +kernel
theorem dX9_way_30 : decode cX9_way 30 = .ok (.istore 8, 2) := by decide +kernel
theorem dX9_way_32 : decode cX9_way 32 = .ok (.iload 8, 2) := by decide +kernel
theorem dX9_way_34 : decode cX9_way 34 = .ok (.iload_n 1, 1) := by decide +kernel
theorem dX9_way_35 : decode cX9_way 35 = .ok (.iconst 1, 1) := by decide +kernel
theorem dX9_way_36 : decode cX9_way 36 = .ok (.iadd, 1) := by decide +kernel
theorem dX9_way_37 : decode cX9_way 37 = .ok (.iload 7, 2) := by decide +kernel
theorem dX9_way_39 : decode cX9_way 39 = .ok (.invokestatic 256, 3) := by decide +kernel
theorem dX9_way_42 : decode cX9_way 42 = .ok (.imul, 1) := by decide +kernel
theorem dX9_way_43 : decode cX9_way 43 = .ok (.if_icmp .ge 55, 3) := by decide +kernel
theorem dX9_way_46 : decode cX9_way 46 = .ok (.aload_n 0, 1) := by decide +kernel
theorem dX9_way_47 : decode cX9_way 47 = .ok (.iload 8, 2) := by decide +kernel
theorem dX9_way_49 : decode cX9_way 49 = .ok (.iload 7, 2) := by decide +kernel
theorem dX9_way_51 : decode cX9_way 51 = .ok (.iload_n 1, 1) := by decide +kernel
theorem dX9_way_52 : decode cX9_way 52 = .ok (.iload_n 2, 1) := by decide +kernel
theorem dX9_way_53 : decode cX9_way 53 = .ok (.invokevirtual 259, 3) := by decide +kernel
theorem dX9_way_56 : decode cX9_way 56 = .ok (.ifCond .eq 36, 3) := by decide +kernel
theorem dX9_way_59 : decode cX9_way 59 = .ok (.aload_n 0, 1) := by decide +kernel
theorem dX9_way_60 : decode cX9_way 60 = .ok (.iload 8, 2) := by decide +kernel
theorem dX9_way_62 : decode cX9_way 62 = .ok (.iload 7, 2) := by decide +kernel
theorem dX9_way_64 : decode cX9_way 64 = .ok (.iload_n 3, 1) := by decide +kernel
theorem dX9_way_65 : decode cX9_way 65 = .ok (.invokevirtual 263, 3) := by decide +kernel
theorem dX9_way_68 : decode cX9_way 68 = .ok (.lstore 9, 2) := by decide +kernel
theorem dX9_way_70 : decode cX9_way 70 = .ok (.iload 4, 2) := by decide +kernel
theorem dX9_way_72 : decode cX9_way 72 = .ok (.iconst (-1), 1) := by decide +kernel
theorem dX9_way_73 : decode cX9_way 73 = .ok (.if_icmp .eq 11, 3) := by decide +kernel
theorem dX9_way_76 : decode cX9_way 76 = .ok (.lload 9, 2) := by decide +kernel
theorem dX9_way_78 : decode cX9_way 78 = .ok (.lload 5, 2) := by decide +kernel
theorem dX9_way_80 : decode cX9_way 80 = .ok (.lcmp, 1) := by decide +kernel
theorem dX9_way_81 : decode cX9_way 81 = .ok (.ifCond .ge 11, 3) := by decide +kernel
theorem dX9_way_84 : decode cX9_way 84 = .ok (.iload 8, 2) := by decide +kernel
theorem dX9_way_86 : decode cX9_way 86 = .ok (.istore 4, 2) := by decide +kernel
theorem dX9_way_88 : decode cX9_way 88 = .ok (.lload 9, 2) := by decide +kernel
theorem dX9_way_90 : decode cX9_way 90 = .ok (.lstore 5, 2) := by decide +kernel
theorem dX9_way_92 : decode cX9_way 92 = .ok (.iinc 8 1, 3) := by decide +kernel
theorem dX9_way_95 : decode cX9_way 95 = .ok (.goto (-63), 3) := by decide +kernel
theorem dX9_way_98 : decode cX9_way 98 = .ok (.iinc 7 1, 3) := by decide +kernel
theorem dX9_way_101 : decode cX9_way 101 = .ok (.goto (-92), 3) := by decide +kernel
theorem dX9_way_104 : decode cX9_way 104 = .ok (.iload 4, 2) := by decide +kernel
theorem dX9_way_106 : decode cX9_way 106 = .ok (.iconst (-1), 1) := by decide +kernel
theorem dX9_way_107 : decode cX9_way 107 = .ok (.if_icmp .ne 7, 3) := by decide +kernel
theorem dX9_way_110 : decode cX9_way 110 = .ok (.iconst (-1), 1) := by decide +kernel
theorem dX9_way_111 : decode cX9_way 111 = .ok (.goto 8, 3) := by decide +kernel
theorem dX9_way_114 : decode cX9_way 114 = .ok (.iload 4, 2) := by decide +kernel
theorem dX9_way_116 : decode cX9_way 116 = .ok (.ldc 35, 2) := by decide +kernel
theorem dX9_way_118 : decode cX9_way 118 = .ok (.iadd, 1) := by decide +kernel
theorem dX9_way_119 : decode cX9_way 119 = .ok (.ireturn, 1) := by decide +kernel
theorem dX9_bestWay_0 : decode cX9_bestWay 0 = .ok (.aload_n 0, 1) := by decide +kernel
theorem dX9_bestWay_1 : decode cX9_bestWay 1 = .ok (.iload_n 1, 1) := by decide +kernel
theorem dX9_bestWay_2 : decode cX9_bestWay 2 = .ok (.iload_n 2, 1) := by decide +kernel
theorem dX9_bestWay_3 : decode cX9_bestWay 3 = .ok (.iload_n 3, 1) := by decide +kernel
theorem dX9_bestWay_4 : decode cX9_bestWay 4 = .ok (.iconst 0, 1) := by decide +kernel
theorem dX9_bestWay_5 : decode cX9_bestWay 5 = .ok (.sipush 9999, 3) := by decide +kernel
theorem dX9_bestWay_8 : decode cX9_bestWay 8 = .ok (.invokestatic 44, 3) := by decide +kernel
theorem dX9_bestWay_11 : decode cX9_bestWay 11 = .ok (.invokestatic 220, 3) := by decide +kernel
theorem dX9_bestWay_14 : decode cX9_bestWay 14 = .ok (.invokevirtual 111, 3) := by decide +kernel
theorem dX9_bestWay_17 : decode cX9_bestWay 17 = .ok (.ifCond .eq 5, 3) := by decide +kernel
theorem dX9_bestWay_20 : decode cX9_bestWay 20 = .ok (.iconst 0, 1) := by decide +kernel
theorem dX9_bestWay_21 : decode cX9_bestWay 21 = .ok (.ireturn, 1) := by decide +kernel
theorem dX9_bestWay_22 : decode cX9_bestWay 22 = .ok (.aload_n 0, 1) := by decide +kernel
theorem dX9_bestWay_23 : decode cX9_bestWay 23 = .ok (.iload_n 1, 1) := by decide +kernel
theorem dX9_bestWay_24 : decode cX9_bestWay 24 = .ok (.iload_n 2, 1) := by decide +kernel
theorem dX9_bestWay_25 : decode cX9_bestWay 25 = .ok (.iload_n 3, 1) := by decide +kernel
theorem dX9_bestWay_26 : decode cX9_bestWay 26 = .ok (.invokevirtual 267, 3) := by decide +kernel
theorem dX9_bestWay_29 : decode cX9_bestWay 29 = .ok (.ireturn, 1) := by decide +kernel
theorem dX9_divisor_0 : decode cX9_divisor 0 = .ok (.lload_n 0, 1) := by decide +kernel
theorem dX9_divisor_1 : decode cX9_divisor 1 = .ok (.lstore 4, 2) := by decide +kernel
theorem dX9_divisor_3 : decode cX9_divisor 3 = .ok (.lload_n 2, 1) := by decide +kernel
theorem dX9_divisor_4 : decode cX9_divisor 4 = .ok (.lstore 6, 2) := by decide +kernel
theorem dX9_divisor_6 : decode cX9_divisor 6 = .ok (.lload 6, 2) := by decide +kernel
theorem dX9_divisor_8 : decode cX9_divisor 8 = .ok (.lconst 0, 1) := by decide +kernel
theorem dX9_divisor_9 : decode cX9_divisor 9 = .ok (.lcmp, 1) := by decide +kernel
theorem dX9_divisor_10 : decode cX9_divisor 10 = .ok (.ifCond .eq 21, 3) := by decide +kernel
theorem dX9_divisor_13 : decode cX9_divisor 13 = .ok (.lload 4, 2) := by decide +kernel
theorem dX9_divisor_15 : decode cX9_divisor 15 = .ok (.lload 6, 2) := by decide +kernel
theorem dX9_divisor_17 : decode cX9_divisor 17 = .ok (.lrem, 1) := by decide +kernel
theorem dX9_divisor_18 : decode cX9_divisor 18 = .ok (.lstore 8, 2) := by decide +kernel
theorem dX9_divisor_20 : decode cX9_divisor 20 = .ok (.lload 6, 2) := by decide +kernel
theorem dX9_divisor_22 : decode cX9_divisor 22 = .ok (.lstore 4, 2) := by decide +kernel
theorem dX9_divisor_24 : decode cX9_divisor 24 = .ok (.lload 8, 2) := by decide +kernel
theorem dX9_divisor_26 : decode cX9_divisor 26 = .ok (.lstore 6, 2) := by decide +kernel
theorem dX9_divisor_28 : decode cX9_divisor 28 = .ok (.goto (-22), 3) := by decide +kernel
theorem dX9_divisor_31 : decode cX9_divisor 31 = .ok (.lload 4, 2) := by decide +kernel
theorem dX9_divisor_33 : decode cX9_divisor 33 = .ok (.lreturn, 1) := by decide +kernel
theorem dX9_mend_0 : decode cX9_mend 0 = .ok (.iconst 3, 1) := by decide +kernel
theorem dX9_mend_1 : decode cX9_mend 1 = .ok (.istore 4, 2) := by decide +kernel
theorem dX9_mend_3 : decode cX9_mend 3 = .ok (.iload 4, 2) := by decide +kernel
theorem dX9_mend_5 : decode cX9_mend 5 = .ok (.bipush 6, 2) := by decide +kernel
theorem dX9_mend_7 : decode cX9_mend 7 = .ok (.if_icmp .ge 186, 3) := by decide +kernel
theorem dX9_mend_10 : decode cX9_mend 10 = .ok (.iload_n 1, 1) := by decide +kernel
theorem dX9_mend_11 : decode cX9_mend 11 = .ok (.iload 4, 2) := by decide +kernel
theorem dX9_mend_13 : decode cX9_mend 13 = .ok (.invokestatic 256, 3) := by decide +kernel
theorem dX9_mend_16 : decode cX9_mend 16 = .ok (.imul, 1) := by decide +kernel
theorem dX9_mend_17 : decode cX9_mend 17 = .ok (.istore 5, 2) := by decide +kernel
theorem dX9_mend_19 : decode cX9_mend 19 = .ok (.iload 5, 2) := by decide +kernel
theorem dX9_mend_21 : decode cX9_mend 21 = .ok (.iload_n 1, 1) := by decide +kernel
theorem dX9_mend_22 : decode cX9_mend 22 = .ok (.iconst 1, 1) := by decide +kernel
theorem dX9_mend_23 : decode cX9_mend 23 = .ok (.iadd, 1) := by decide +kernel
theorem dX9_mend_24 : decode cX9_mend 24 = .ok (.iload 4, 2) := by decide +kernel
theorem dX9_mend_26 : decode cX9_mend 26 = .ok (.invokestatic 256, 3) := by decide +kernel
theorem dX9_mend_29 : decode cX9_mend 29 = .ok (.imul, 1) := by decide +kernel
theorem dX9_mend_30 : decode cX9_mend 30 = .ok (.if_icmp .ge 157, 3) := by decide +kernel
theorem dX9_mend_33 : decode cX9_mend 33 = .ok (.aload_n 0, 1) := by decide +kernel
theorem dX9_mend_34 : decode cX9_mend 34 = .ok (.iload 5, 2) := by decide +kernel
theorem dX9_mend_36 : decode cX9_mend 36 = .ok (.iload 4, 2) := by decide +kernel
theorem dX9_mend_38 : decode cX9_mend 38 = .ok (.iload_n 1, 1) := by decide +kernel
theorem dX9_mend_39 : decode cX9_mend 39 = .ok (.iload_n 2, 1) := by decide +kernel
theorem dX9_mend_40 : decode cX9_mend 40 = .ok (.invokevirtual 259, 3) := by decide +kernel
theorem dX9_mend_43 : decode cX9_mend 43 = .ok (.ifCond .eq 138, 3) := by decide +kernel
theorem dX9_mend_46 : decode cX9_mend 46 = .ok (.lconst 1, 1) := by decide +kernel
theorem dX9_mend_47 : decode cX9_mend 47 = .ok (.lstore 6, 2) := by decide +kernel
theorem dX9_mend_49 : decode cX9_mend 49 = .ok (.lconst 1, 1) := by decide +kernel
theorem dX9_mend_50 : decode cX9_mend 50 = .ok (.lstore 8, 2) := by decide +kernel
theorem dX9_mend_52 : decode cX9_mend 52 = .ok (.iconst 1, 1) := by decide +kernel
theorem dX9_mend_53 : decode cX9_mend 53 = .ok (.istore 10, 2) := by decide +kernel
theorem dX9_mend_55 : decode cX9_mend 55 = .ok (.iload 10, 2) := by decide +kernel
theorem dX9_mend_57 : decode cX9_mend 57 = .ok (.iload 4, 2) := by decide +kernel
theorem dX9_mend_59 : decode cX9_mend 59 = .ok (.if_icmp .ge 69, 3) := by decide +kernel
theorem dX9_mend_62 : decode cX9_mend 62 = .ok (.lload 6, 2) := by decide +kernel
theorem dX9_mend_64 : decode cX9_mend 64 = .ok (.aload_n 0, 1) := by decide +kernel
theorem dX9_mend_65 : decode cX9_mend 65 = .ok (.iload 5, 2) := by decide +kernel
theorem dX9_mend_67 : decode cX9_mend 67 = .ok (.iload 4, 2) := by decide +kernel
theorem dX9_mend_69 : decode cX9_mend 69 = .ok (.iload 10, 2) := by decide +kernel
theorem dX9_mend_71 : decode cX9_mend 71 = .ok (.iconst 1, 1) := by decide +kernel
theorem dX9_mend_72 : decode cX9_mend 72 = .ok (.isub, 1) := by decide +kernel
theorem dX9_mend_73 : decode cX9_mend 73 = .ok (.invokestatic 51, 3) := by decide +kernel
theorem dX9_mend_76 : decode cX9_mend 76 = .ok (.iload 5, 2) := by decide +kernel
theorem dX9_mend_78 : decode cX9_mend 78 = .ok (.iload 4, 2) := by decide +kernel
theorem dX9_mend_80 : decode cX9_mend 80 = .ok (.iload 10, 2) := by decide +kernel
theorem dX9_mend_82 : decode cX9_mend 82 = .ok (.invokestatic 51, 3) := by decide +kernel
theorem dX9_mend_85 : decode cX9_mend 85 = .ok (.invokevirtual 69, 3) := by decide +kernel
theorem dX9_mend_88 : decode cX9_mend 88 = .ok (.i2l, 1) := by decide +kernel
theorem dX9_mend_89 : decode cX9_mend 89 = .ok (.lmul, 1) := by decide +kernel
theorem dX9_mend_90 : decode cX9_mend 90 = .ok (.lstore 6, 2) := by decide +kernel
theorem dX9_mend_92 : decode cX9_mend 92 = .ok (.lload 8, 2) := by decide +kernel
theorem dX9_mend_94 : decode cX9_mend 94 = .ok (.aload_n 0, 1) := by decide +kernel
theorem dX9_mend_95 : decode cX9_mend 95 = .ok (.iload 5, 2) := by decide +kernel
theorem dX9_mend_97 : decode cX9_mend 97 = .ok (.iload 4, 2) := by decide +kernel
theorem dX9_mend_99 : decode cX9_mend 99 = .ok (.iload 10, 2) := by decide +kernel
theorem dX9_mend_101 : decode cX9_mend 101 = .ok (.iconst 1, 1) := by decide +kernel
theorem dX9_mend_102 : decode cX9_mend 102 = .ok (.isub, 1) := by decide +kernel
theorem dX9_mend_103 : decode cX9_mend 103 = .ok (.invokestatic 51, 3) := by decide +kernel
theorem dX9_mend_106 : decode cX9_mend 106 = .ok (.iload 5, 2) := by decide +kernel
theorem dX9_mend_108 : decode cX9_mend 108 = .ok (.iload 4, 2) := by decide +kernel
theorem dX9_mend_110 : decode cX9_mend 110 = .ok (.iload 10, 2) := by decide +kernel
theorem dX9_mend_112 : decode cX9_mend 112 = .ok (.invokestatic 51, 3) := by decide +kernel
theorem dX9_mend_115 : decode cX9_mend 115 = .ok (.invokevirtual 72, 3) := by decide +kernel
theorem dX9_mend_118 : decode cX9_mend 118 = .ok (.i2l, 1) := by decide +kernel
theorem dX9_mend_119 : decode cX9_mend 119 = .ok (.lmul, 1) := by decide +kernel
theorem dX9_mend_120 : decode cX9_mend 120 = .ok (.lstore 8, 2) := by decide +kernel
theorem dX9_mend_122 : decode cX9_mend 122 = .ok (.iinc 10 1, 3) := by decide +kernel
theorem dX9_mend_125 : decode cX9_mend 125 = .ok (.goto (-70), 3) := by decide +kernel
theorem dX9_mend_128 : decode cX9_mend 128 = .ok (.lload 6, 2) := by decide +kernel
theorem dX9_mend_130 : decode cX9_mend 130 = .ok (.lload 8, 2) := by decide +kernel
theorem dX9_mend_132 : decode cX9_mend 132 = .ok (.invokestatic 270, 3) := by decide +kernel
theorem dX9_mend_135 : decode cX9_mend 135 = .ok (.lstore 10, 2) := by decide +kernel
theorem dX9_mend_137 : decode cX9_mend 137 = .ok (.lload 6, 2) := by decide +kernel
theorem dX9_mend_139 : decode cX9_mend 139 = .ok (.lload 10, 2) := by decide +kernel
theorem dX9_mend_141 : decode cX9_mend 141 = .ok (.ldiv, 1) := by decide +kernel
theorem dX9_mend_142 : decode cX9_mend 142 = .ok (.ldc2_w 273, 3) := by decide +kernel
theorem dX9_mend_145 : decode cX9_mend 145 = .ok (.lcmp, 1) := by decide +kernel
theorem dX9_mend_146 : decode cX9_mend 146 = .ok (.ifCond .gt 15, 3) := by decide +kernel
theorem dX9_mend_149 : decode cX9_mend 149 = .ok (.lload 8, 2) := by decide +kernel
theorem dX9_mend_151 : decode cX9_mend 151 = .ok (.lload 10, 2) := by decide +kernel
theorem dX9_mend_153 : decode cX9_mend 153 = .ok (.ldiv, 1) := by decide +kernel
theorem dX9_mend_154 : decode cX9_mend 154 = .ok (.ldc2_w 273, 3) := by decide +kernel
theorem dX9_mend_157 : decode cX9_mend 157 = .ok (.lcmp, 1) := by decide +kernel
theorem dX9_mend_158 : decode cX9_mend 158 = .ok (.ifCond .le 7, 3) := by decide +kernel
theorem dX9_mend_161 : decode cX9_mend 161 = .ok (.iconst (-1), 1) := by decide +kernel
theorem dX9_mend_162 : decode cX9_mend 162 = .ok (.goto 18, 3) := by decide +kernel
theorem dX9_mend_165 : decode cX9_mend 165 = .ok (.iload_n 3, 1) := by decide +kernel
theorem dX9_mend_166 : decode cX9_mend 166 = .ok (.ifCond .ne 8, 3) := by decide +kernel
theorem dX9_mend_169 : decode cX9_mend 169 = .ok (.lload 6, 2) := by decide +kernel
theorem dX9_mend_171 : decode cX9_mend 171 = .ok (.goto 5, 3) := by decide +kernel
theorem dX9_mend_174 : decode cX9_mend 174 = .ok (.lload 8, 2) := by decide +kernel
theorem dX9_mend_176 : decode cX9_mend 176 = .ok (.lload 10, 2) := by decide +kernel
theorem dX9_mend_178 : decode cX9_mend 178 = .ok (.ldiv, 1) := by decide +kernel
theorem dX9_mend_179 : decode cX9_mend 179 = .ok (.l2i, 1) := by decide +kernel
theorem dX9_mend_180 : decode cX9_mend 180 = .ok (.ireturn, 1) := by decide +kernel
theorem dX9_mend_181 : decode cX9_mend 181 = .ok (.iinc 5 1, 3) := by decide +kernel
theorem dX9_mend_184 : decode cX9_mend 184 = .ok (.goto (-165), 3) := by decide +kernel
theorem dX9_mend_187 : decode cX9_mend 187 = .ok (.iinc 4 1, 3) := by decide +kernel
theorem dX9_mend_190 : decode cX9_mend 190 = .ok (.goto (-187), 3) := by decide +kernel
theorem dX9_mend_193 : decode cX9_mend 193 = .ok (.iconst (-1), 1) := by decide +kernel
theorem dX9_mend_194 : decode cX9_mend 194 = .ok (.ireturn, 1) := by decide +kernel
theorem dX9_mends_0 : decode cX9_mends 0 = .ok (.aload_n 0, 1) := by decide +kernel
theorem dX9_mends_1 : decode cX9_mends 1 = .ok (.iload_n 1, 1) := by decide +kernel
theorem dX9_mends_2 : decode cX9_mends 2 = .ok (.iload_n 2, 1) := by decide +kernel
theorem dX9_mends_3 : decode cX9_mends 3 = .ok (.iload_n 3, 1) := by decide +kernel
theorem dX9_mends_4 : decode cX9_mends 4 = .ok (.iconst 0, 1) := by decide +kernel
theorem dX9_mends_5 : decode cX9_mends 5 = .ok (.iconst 1, 1) := by decide +kernel
theorem dX9_mends_6 : decode cX9_mends 6 = .ok (.invokestatic 44, 3) := by decide +kernel
theorem dX9_mends_9 : decode cX9_mends 9 = .ok (.invokestatic 220, 3) := by decide +kernel
theorem dX9_mends_12 : decode cX9_mends 12 = .ok (.invokevirtual 111, 3) := by decide +kernel
theorem dX9_mends_15 : decode cX9_mends 15 = .ok (.ifCond .eq 5, 3) := by decide +kernel
theorem dX9_mends_18 : decode cX9_mends 18 = .ok (.iconst 0, 1) := by decide +kernel
theorem dX9_mends_19 : decode cX9_mends 19 = .ok (.ireturn, 1) := by decide +kernel
theorem dX9_mends_20 : decode cX9_mends 20 = .ok (.aload_n 0, 1) := by decide +kernel
theorem dX9_mends_21 : decode cX9_mends 21 = .ok (.iload_n 1, 1) := by decide +kernel
theorem dX9_mends_22 : decode cX9_mends 22 = .ok (.iload_n 2, 1) := by decide +kernel
theorem dX9_mends_23 : decode cX9_mends 23 = .ok (.iload_n 3, 1) := by decide +kernel
theorem dX9_mends_24 : decode cX9_mends 24 = .ok (.invokevirtual 275, 3) := by decide +kernel
theorem dX9_mends_27 : decode cX9_mends 27 = .ok (.ireturn, 1) := by decide +kernel
theorem dX9_share_0 : decode cX9_share 0 = .ok (.aload_n 0, 1) := by decide +kernel
theorem dX9_share_1 : decode cX9_share 1 = .ok (.invokevirtual 127, 3) := by decide +kernel
theorem dX9_share_4 : decode cX9_share 4 = .ok (.istore_n 1, 1) := by decide +kernel
theorem dX9_share_5 : decode cX9_share 5 = .ok (.iload_n 1, 1) := by decide +kernel
theorem dX9_share_6 : decode cX9_share 6 = .ok (.ifCond .ne 7, 3) := by decide +kernel
theorem dX9_share_9 : decode cX9_share 9 = .ok (.dconst 1, 1) := by decide +kernel
theorem dX9_share_10 : decode cX9_share 10 = .ok (.goto 13, 3) := by decide +kernel
theorem dX9_share_13 : decode cX9_share 13 = .ok (.iload_n 1, 1) := by decide +kernel
theorem dX9_share_14 : decode cX9_share 14 = .ok (.aload_n 0, 1) := by decide +kernel
theorem dX9_share_15 : decode cX9_share 15 = .ok (.invokevirtual 239, 3) := by decide +kernel
theorem dX9_share_18 : decode cX9_share 18 = .ok (.isub, 1) := by decide +kernel
theorem dX9_share_19 : decode cX9_share 19 = .ok (.i2d, 1) := by decide +kernel
theorem dX9_share_20 : decode cX9_share 20 = .ok (.iload_n 1, 1) := by decide +kernel
theorem dX9_share_21 : decode cX9_share 21 = .ok (.i2d, 1) := by decide +kernel
theorem dX9_share_22 : decode cX9_share 22 = .ok (.ddiv, 1) := by decide +kernel
theorem dX9_share_23 : decode cX9_share 23 = .ok (.dreturn, 1) := by decide +kernel
theorem dX9_trueShare_0 : decode cX9_trueShare 0 = .ok (.aload_n 0, 1) := by decide +kernel
theorem dX9_trueShare_1 : decode cX9_trueShare 1 = .ok (.iconst 0, 1) := by decide +kernel
theorem dX9_trueShare_2 : decode cX9_trueShare 2 = .ok (.putfield 40, 3) := by decide +kernel
theorem dX9_trueShare_5 : decode cX9_trueShare 5 = .ok (.aload_n 0, 1) := by decide +kernel
theorem dX9_trueShare_6 : decode cX9_trueShare 6 = .ok (.invokevirtual 278, 3) := by decide +kernel
theorem dX9_trueShare_9 : decode cX9_trueShare 9 = .ok (.dreturn, 1) := by decide +kernel
theorem dX9_digest_0 : decode cX9_digest 0 = .ok (.aload_n 0, 1) := by decide +kernel
theorem dX9_digest_1 : decode cX9_digest 1 = .ok (.iconst 0, 1) := by decide +kernel
theorem dX9_digest_2 : decode cX9_digest 2 = .ok (.putfield 40, 3) := by decide +kernel
theorem dX9_digest_5 : decode cX9_digest 5 = .ok (.ldc2_w 282, 3) := by decide +kernel
theorem dX9_digest_8 : decode cX9_digest 8 = .ok (.lstore_n 1, 1) := by decide +kernel
theorem dX9_digest_9 : decode cX9_digest 9 = .ok (.iconst 0, 1) := by decide +kernel
theorem dX9_digest_10 : decode cX9_digest 10 = .ok (.istore_n 3, 1) := by decide +kernel
theorem dX9_digest_11 : decode cX9_digest 11 = .ok (.iload_n 3, 1) := by decide +kernel
theorem dX9_digest_12 : decode cX9_digest 12 = .ok (.bipush 18, 2) := by decide +kernel
theorem dX9_digest_14 : decode cX9_digest 14 = .ok (.if_icmp .ge 22, 3) := by decide +kernel
theorem dX9_digest_17 : decode cX9_digest 17 = .ok (.ldc2_w 284, 3) := by decide +kernel
theorem dX9_digest_20 : decode cX9_digest 20 = .ok (.lload_n 1, 1) := by decide +kernel
theorem dX9_digest_21 : decode cX9_digest 21 = .ok (.lmul, 1) := by decide +kernel
theorem dX9_digest_22 : decode cX9_digest 22 = .ok (.aload_n 0, 1) := by decide +kernel
theorem dX9_digest_23 : decode cX9_digest 23 = .ok (.iload_n 3, 1) := by decide +kernel
theorem dX9_digest_24 : decode cX9_digest 24 = .ok (.invokevirtual 252, 3) := by decide +kernel
theorem dX9_digest_27 : decode cX9_digest 27 = .ok (.i2l, 1) := by decide +kernel
theorem dX9_digest_28 : decode cX9_digest 28 = .ok (.ladd, 1) := by decide +kernel
theorem dX9_digest_29 : decode cX9_digest 29 = .ok (.lstore_n 1, 1) := by decide +kernel
theorem dX9_digest_30 : decode cX9_digest 30 = .ok (.iinc 3 1, 3) := by decide +kernel
theorem dX9_digest_33 : decode cX9_digest 33 = .ok (.goto (-22), 3) := by decide +kernel
theorem dX9_digest_36 : decode cX9_digest 36 = .ok (.iconst 0, 1) := by decide +kernel
theorem dX9_digest_37 : decode cX9_digest 37 = .ok (.istore_n 3, 1) := by decide +kernel
theorem dX9_digest_38 : decode cX9_digest 38 = .ok (.iload_n 3, 1) := by decide +kernel
theorem dX9_digest_39 : decode cX9_digest 39 = .ok (.iconst 5, 1) := by decide +kernel
theorem dX9_digest_40 : decode cX9_digest 40 = .ok (.if_icmp .ge 123, 3) := by decide +kernel
theorem dX9_digest_43 : decode cX9_digest 43 = .ok (.iload_n 3, 1) := by decide +kernel
theorem dX9_digest_44 : decode cX9_digest 44 = .ok (.iconst 1, 1) := by decide +kernel
theorem dX9_digest_45 : decode cX9_digest 45 = .ok (.iadd, 1) := by decide +kernel
theorem dX9_digest_46 : decode cX9_digest 46 = .ok (.istore 4, 2) := by decide +kernel
theorem dX9_digest_48 : decode cX9_digest 48 = .ok (.iload 4, 2) := by decide +kernel
theorem dX9_digest_50 : decode cX9_digest 50 = .ok (.iconst 5, 1) := by decide +kernel
theorem dX9_digest_51 : decode cX9_digest 51 = .ok (.if_icmp .ge 106, 3) := by decide +kernel
theorem dX9_digest_54 : decode cX9_digest 54 = .ok (.ldc2_w 284, 3) := by decide +kernel
theorem dX9_digest_57 : decode cX9_digest 57 = .ok (.lload_n 1, 1) := by decide +kernel
theorem dX9_digest_58 : decode cX9_digest 58 = .ok (.lmul, 1) := by decide +kernel
theorem dX9_digest_59 : decode cX9_digest 59 = .ok (.aload_n 0, 1) := by decide +kernel
theorem dX9_digest_60 : decode cX9_digest 60 = .ok (.iload_n 3, 1) := by decide +kernel
theorem dX9_digest_61 : decode cX9_digest 61 = .ok (.iload 4, 2) := by decide +kernel
theorem dX9_digest_63 : decode cX9_digest 63 = .ok (.iconst 0, 1) := by decide +kernel
theorem dX9_digest_64 : decode cX9_digest 64 = .ok (.invokevirtual 224, 3) := by decide +kernel
theorem dX9_digest_67 : decode cX9_digest 67 = .ok (.i2l, 1) := by decide +kernel
theorem dX9_digest_68 : decode cX9_digest 68 = .ok (.ladd, 1) := by decide +kernel
theorem dX9_digest_69 : decode cX9_digest 69 = .ok (.lstore_n 1, 1) := by decide +kernel
theorem dX9_digest_70 : decode cX9_digest 70 = .ok (.ldc2_w 284, 3) := by decide +kernel
theorem dX9_digest_73 : decode cX9_digest 73 = .ok (.lload_n 1, 1) := by decide +kernel
theorem dX9_digest_74 : decode cX9_digest 74 = .ok (.lmul, 1) := by decide +kernel
theorem dX9_digest_75 : decode cX9_digest 75 = .ok (.aload_n 0, 1) := by decide +kernel
theorem dX9_digest_76 : decode cX9_digest 76 = .ok (.iload_n 3, 1) := by decide +kernel
theorem dX9_digest_77 : decode cX9_digest 77 = .ok (.iload 4, 2) := by decide +kernel
theorem dX9_digest_79 : decode cX9_digest 79 = .ok (.iconst 1, 1) := by decide +kernel
theorem dX9_digest_80 : decode cX9_digest 80 = .ok (.invokevirtual 224, 3) := by decide +kernel
theorem dX9_digest_83 : decode cX9_digest 83 = .ok (.i2l, 1) := by decide +kernel
theorem dX9_digest_84 : decode cX9_digest 84 = .ok (.ladd, 1) := by decide +kernel
theorem dX9_digest_85 : decode cX9_digest 85 = .ok (.lstore_n 1, 1) := by decide +kernel
theorem dX9_digest_86 : decode cX9_digest 86 = .ok (.ldc2_w 284, 3) := by decide +kernel
theorem dX9_digest_89 : decode cX9_digest 89 = .ok (.lload_n 1, 1) := by decide +kernel
theorem dX9_digest_90 : decode cX9_digest 90 = .ok (.lmul, 1) := by decide +kernel
theorem dX9_digest_91 : decode cX9_digest 91 = .ok (.aload_n 0, 1) := by decide +kernel
theorem dX9_digest_92 : decode cX9_digest 92 = .ok (.iload_n 3, 1) := by decide +kernel
theorem dX9_digest_93 : decode cX9_digest 93 = .ok (.iload 4, 2) := by decide +kernel
theorem dX9_digest_95 : decode cX9_digest 95 = .ok (.iconst 2, 1) := by decide +kernel
theorem dX9_digest_96 : decode cX9_digest 96 = .ok (.invokevirtual 224, 3) := by decide +kernel
theorem dX9_digest_99 : decode cX9_digest 99 = .ok (.i2l, 1) := by decide +kernel
theorem dX9_digest_100 : decode cX9_digest 100 = .ok (.ladd, 1) := by decide +kernel
theorem dX9_digest_101 : decode cX9_digest 101 = .ok (.lstore_n 1, 1) := by decide +kernel
theorem dX9_digest_102 : decode cX9_digest 102 = .ok (.ldc2_w 284, 3) := by decide +kernel
theorem dX9_digest_105 : decode cX9_digest 105 = .ok (.lload_n 1, 1) := by decide +kernel
theorem dX9_digest_106 : decode cX9_digest 106 = .ok (.lmul, 1) := by decide +kernel
theorem dX9_digest_107 : decode cX9_digest 107 = .ok (.aload_n 0, 1) := by decide +kernel
theorem dX9_digest_108 : decode cX9_digest 108 = .ok (.iload_n 3, 1) := by decide +kernel
theorem dX9_digest_109 : decode cX9_digest 109 = .ok (.iload 4, 2) := by decide +kernel
theorem dX9_digest_111 : decode cX9_digest 111 = .ok (.iconst 0, 1) := by decide +kernel
theorem dX9_digest_112 : decode cX9_digest 112 = .ok (.invokevirtual 275, 3) := by decide +kernel
theorem dX9_digest_115 : decode cX9_digest 115 = .ok (.i2l, 1) := by decide +kernel
theorem dX9_digest_116 : decode cX9_digest 116 = .ok (.ladd, 1) := by decide +kernel
theorem dX9_digest_117 : decode cX9_digest 117 = .ok (.lstore_n 1, 1) := by decide +kernel
theorem dX9_digest_118 : decode cX9_digest 118 = .ok (.ldc2_w 284, 3) := by decide +kernel
theorem dX9_digest_121 : decode cX9_digest 121 = .ok (.lload_n 1, 1) := by decide +kernel
theorem dX9_digest_122 : decode cX9_digest 122 = .ok (.lmul, 1) := by decide +kernel
theorem dX9_digest_123 : decode cX9_digest 123 = .ok (.aload_n 0, 1) := by decide +kernel
theorem dX9_digest_124 : decode cX9_digest 124 = .ok (.iload_n 3, 1) := by decide +kernel
theorem dX9_digest_125 : decode cX9_digest 125 = .ok (.iload 4, 2) := by decide +kernel
theorem dX9_digest_127 : decode cX9_digest 127 = .ok (.iconst 1, 1) := by decide +kernel
theorem dX9_digest_128 : decode cX9_digest 128 = .ok (.invokevirtual 275, 3) := by decide +kernel
theorem dX9_digest_131 : decode cX9_digest 131 = .ok (.i2l, 1) := by decide +kernel
theorem dX9_digest_132 : decode cX9_digest 132 = .ok (.ladd, 1) := by decide +kernel
theorem dX9_digest_133 : decode cX9_digest 133 = .ok (.lstore_n 1, 1) := by decide +kernel
theorem dX9_digest_134 : decode cX9_digest 134 = .ok (.ldc2_w 284, 3) := by decide +kernel
theorem dX9_digest_137 : decode cX9_digest 137 = .ok (.lload_n 1, 1) := by decide +kernel
theorem dX9_digest_138 : decode cX9_digest 138 = .ok (.lmul, 1) := by decide +kernel
theorem dX9_digest_139 : decode cX9_digest 139 = .ok (.aload_n 0, 1) := by decide +kernel
theorem dX9_digest_140 : decode cX9_digest 140 = .ok (.iload_n 3, 1) := by decide +kernel
theorem dX9_digest_141 : decode cX9_digest 141 = .ok (.iload 4, 2) := by decide +kernel
theorem dX9_digest_143 : decode cX9_digest 143 = .ok (.bipush 100, 2) := by decide +kernel
theorem dX9_digest_145 : decode cX9_digest 145 = .ok (.invokevirtual 267, 3) := by decide +kernel
theorem dX9_digest_148 : decode cX9_digest 148 = .ok (.i2l, 1) := by decide +kernel
theorem dX9_digest_149 : decode cX9_digest 149 = .ok (.ladd, 1) := by decide +kernel
theorem dX9_digest_150 : decode cX9_digest 150 = .ok (.lstore_n 1, 1) := by decide +kernel
theorem dX9_digest_151 : decode cX9_digest 151 = .ok (.iinc 4 1, 3) := by decide +kernel
theorem dX9_digest_154 : decode cX9_digest 154 = .ok (.goto (-106), 3) := by decide +kernel
theorem dX9_digest_157 : decode cX9_digest 157 = .ok (.iinc 3 1, 3) := by decide +kernel
theorem dX9_digest_160 : decode cX9_digest 160 = .ok (.goto (-122), 3) := by decide +kernel
theorem dX9_digest_163 : decode cX9_digest 163 = .ok (.iconst 0, 1) := by decide +kernel
theorem dX9_digest_164 : decode cX9_digest 164 = .ok (.istore_n 3, 1) := by decide +kernel
theorem dX9_digest_165 : decode cX9_digest 165 = .ok (.iload_n 3, 1) := by decide +kernel
theorem dX9_digest_166 : decode cX9_digest 166 = .ok (.bipush 37, 2) := by decide +kernel
theorem dX9_digest_168 : decode cX9_digest 168 = .ok (.if_icmp .ge 47, 3) := by decide +kernel
theorem dX9_digest_171 : decode cX9_digest 171 = .ok (.iconst 0, 1) := by decide +kernel
theorem dX9_digest_172 : decode cX9_digest 172 = .ok (.istore 4, 2) := by decide +kernel
theorem dX9_digest_174 : decode cX9_digest 174 = .ok (.iload 4, 2) := by decide +kernel
theorem dX9_digest_176 : decode cX9_digest 176 = .ok (.iconst 4, 1) := by decide +kernel
theorem dX9_digest_177 : decode cX9_digest 177 = .ok (.if_icmp .ge 32, 3) := by decide +kernel
theorem dX9_digest_180 : decode cX9_digest 180 = .ok (.aload_n 0, 1) := by decide +kernel
theorem dX9_digest_181 : decode cX9_digest 181 = .ok (.iload_n 3, 1) := by decide +kernel
theorem dX9_digest_182 : decode cX9_digest 182 = .ok (.invokevirtual 89, 3) := by decide +kernel
theorem dX9_digest_185 : decode cX9_digest 185 = .ok (.ifCond .eq 24, 3) := by decide +kernel
theorem dX9_digest_188 : decode cX9_digest 188 = .ok (.ldc2_w 284, 3) := by decide +kernel
theorem dX9_digest_191 : decode cX9_digest 191 = .ok (.lload_n 1, 1) := by decide +kernel
theorem dX9_digest_192 : decode cX9_digest 192 = .ok (.lmul, 1) := by decide +kernel
theorem dX9_digest_193 : decode cX9_digest 193 = .ok (.aload_n 0, 1) := by decide +kernel
theorem dX9_digest_194 : decode cX9_digest 194 = .ok (.iload_n 3, 1) := by decide +kernel
theorem dX9_digest_195 : decode cX9_digest 195 = .ok (.iload 4, 2) := by decide +kernel
theorem dX9_digest_197 : decode cX9_digest 197 = .ok (.invokevirtual 232, 3) := by decide +kernel
theorem dX9_digest_200 : decode cX9_digest 200 = .ok (.i2l, 1) := by decide +kernel
theorem dX9_digest_201 : decode cX9_digest 201 = .ok (.ladd, 1) := by decide +kernel
theorem dX9_digest_202 : decode cX9_digest 202 = .ok (.lstore_n 1, 1) := by decide +kernel
theorem dX9_digest_203 : decode cX9_digest 203 = .ok (.iinc 4 1, 3) := by decide +kernel
theorem dX9_digest_206 : decode cX9_digest 206 = .ok (.goto (-32), 3) := by decide +kernel
theorem dX9_digest_209 : decode cX9_digest 209 = .ok (.iinc 3 1, 3) := by decide +kernel
theorem dX9_digest_212 : decode cX9_digest 212 = .ok (.goto (-47), 3) := by decide +kernel
theorem dX9_digest_215 : decode cX9_digest 215 = .ok (.iconst 0, 1) := by decide +kernel
theorem dX9_digest_216 : decode cX9_digest 216 = .ok (.istore_n 3, 1) := by decide +kernel
theorem dX9_digest_217 : decode cX9_digest 217 = .ok (.iload_n 3, 1) := by decide +kernel
theorem dX9_digest_218 : decode cX9_digest 218 = .ok (.aload_n 0, 1) := by decide +kernel
theorem dX9_digest_219 : decode cX9_digest 219 = .ok (.getfield 7, 3) := by decide +kernel
theorem dX9_digest_222 : decode cX9_digest 222 = .ok (.bipush 60, 2) := by decide +kernel
theorem dX9_digest_224 : decode cX9_digest 224 = .ok (.iaload, 1) := by decide +kernel
theorem dX9_digest_225 : decode cX9_digest 225 = .ok (.if_icmp .ge 39, 3) := by decide +kernel
theorem dX9_digest_228 : decode cX9_digest 228 = .ok (.iconst 0, 1) := by decide +kernel
theorem dX9_digest_229 : decode cX9_digest 229 = .ok (.istore 4, 2) := by decide +kernel
theorem dX9_digest_231 : decode cX9_digest 231 = .ok (.iload 4, 2) := by decide +kernel
theorem dX9_digest_233 : decode cX9_digest 233 = .ok (.iconst 4, 1) := by decide +kernel
theorem dX9_digest_234 : decode cX9_digest 234 = .ok (.if_icmp .ge 24, 3) := by decide +kernel
theorem dX9_digest_237 : decode cX9_digest 237 = .ok (.ldc2_w 284, 3) := by decide +kernel
theorem dX9_digest_240 : decode cX9_digest 240 = .ok (.lload_n 1, 1) := by decide +kernel
theorem dX9_digest_241 : decode cX9_digest 241 = .ok (.lmul, 1) := by decide +kernel
theorem dX9_digest_242 : decode cX9_digest 242 = .ok (.aload_n 0, 1) := by decide +kernel
theorem dX9_digest_243 : decode cX9_digest 243 = .ok (.iload_n 3, 1) := by decide +kernel
theorem dX9_digest_244 : decode cX9_digest 244 = .ok (.iload 4, 2) := by decide +kernel
theorem dX9_digest_246 : decode cX9_digest 246 = .ok (.invokevirtual 236, 3) := by decide +kernel
theorem dX9_digest_249 : decode cX9_digest 249 = .ok (.i2l, 1) := by decide +kernel
theorem dX9_digest_250 : decode cX9_digest 250 = .ok (.ladd, 1) := by decide +kernel
theorem dX9_digest_251 : decode cX9_digest 251 = .ok (.lstore_n 1, 1) := by decide +kernel
theorem dX9_digest_252 : decode cX9_digest 252 = .ok (.iinc 4 1, 3) := by decide +kernel
theorem dX9_digest_255 : decode cX9_digest 255 = .ok (.goto (-24), 3) := by decide +kernel
theorem dX9_digest_258 : decode cX9_digest 258 = .ok (.iinc 3 1, 3) := by decide +kernel
theorem dX9_digest_261 : decode cX9_digest 261 = .ok (.goto (-44), 3) := by decide +kernel
theorem dX9_digest_264 : decode cX9_digest 264 = .ok (.ldc2_w 284, 3) := by decide +kernel
theorem dX9_digest_267 : decode cX9_digest 267 = .ok (.lload_n 1, 1) := by decide +kernel
theorem dX9_digest_268 : decode cX9_digest 268 = .ok (.lmul, 1) := by decide +kernel
theorem dX9_digest_269 : decode cX9_digest 269 = .ok (.aload_n 0, 1) := by decide +kernel
theorem dX9_digest_270 : decode cX9_digest 270 = .ok (.iconst 0, 1) := by decide +kernel
theorem dX9_digest_271 : decode cX9_digest 271 = .ok (.invokevirtual 208, 3) := by decide +kernel
theorem dX9_digest_274 : decode cX9_digest 274 = .ok (.i2l, 1) := by decide +kernel
theorem dX9_digest_275 : decode cX9_digest 275 = .ok (.ladd, 1) := by decide +kernel
theorem dX9_digest_276 : decode cX9_digest 276 = .ok (.lstore_n 1, 1) := by decide +kernel
theorem dX9_digest_277 : decode cX9_digest 277 = .ok (.ldc2_w 284, 3) := by decide +kernel
theorem dX9_digest_280 : decode cX9_digest 280 = .ok (.lload_n 1, 1) := by decide +kernel
theorem dX9_digest_281 : decode cX9_digest 281 = .ok (.lmul, 1) := by decide +kernel
theorem dX9_digest_282 : decode cX9_digest 282 = .ok (.aload_n 0, 1) := by decide +kernel
theorem dX9_digest_283 : decode cX9_digest 283 = .ok (.iconst 1, 1) := by decide +kernel
theorem dX9_digest_284 : decode cX9_digest 284 = .ok (.invokevirtual 208, 3) := by decide +kernel
theorem dX9_digest_287 : decode cX9_digest 287 = .ok (.i2l, 1) := by decide +kernel
theorem dX9_digest_288 : decode cX9_digest 288 = .ok (.ladd, 1) := by decide +kernel
theorem dX9_digest_289 : decode cX9_digest 289 = .ok (.lstore_n 1, 1) := by decide +kernel
theorem dX9_digest_290 : decode cX9_digest 290 = .ok (.ldc2_w 284, 3) := by decide +kernel
theorem dX9_digest_293 : decode cX9_digest 293 = .ok (.lload_n 1, 1) := by decide +kernel
theorem dX9_digest_294 : decode cX9_digest 294 = .ok (.lmul, 1) := by decide +kernel
theorem dX9_digest_295 : decode cX9_digest 295 = .ok (.aload_n 0, 1) := by decide +kernel
theorem dX9_digest_296 : decode cX9_digest 296 = .ok (.iconst 0, 1) := by decide +kernel
theorem dX9_digest_297 : decode cX9_digest 297 = .ok (.iconst 1, 1) := by decide +kernel
theorem dX9_digest_298 : decode cX9_digest 298 = .ok (.iconst 3, 1) := by decide +kernel
theorem dX9_digest_299 : decode cX9_digest 299 = .ok (.iconst 2, 1) := by decide +kernel
theorem dX9_digest_300 : decode cX9_digest 300 = .ok (.invokevirtual 124, 3) := by decide +kernel
theorem dX9_digest_303 : decode cX9_digest 303 = .ok (.i2l, 1) := by decide +kernel
theorem dX9_digest_304 : decode cX9_digest 304 = .ok (.ladd, 1) := by decide +kernel
theorem dX9_digest_305 : decode cX9_digest 305 = .ok (.lstore_n 1, 1) := by decide +kernel
theorem dX9_digest_306 : decode cX9_digest 306 = .ok (.ldc2_w 284, 3) := by decide +kernel
theorem dX9_digest_309 : decode cX9_digest 309 = .ok (.lload_n 1, 1) := by decide +kernel
theorem dX9_digest_310 : decode cX9_digest 310 = .ok (.lmul, 1) := by decide +kernel
theorem dX9_digest_311 : decode cX9_digest 311 = .ok (.aload_n 0, 1) := by decide +kernel
theorem dX9_digest_312 : decode cX9_digest 312 = .ok (.iconst 0, 1) := by decide +kernel
theorem dX9_digest_313 : decode cX9_digest 313 = .ok (.iconst 1, 1) := by decide +kernel
theorem dX9_digest_314 : decode cX9_digest 314 = .ok (.invokevirtual 66, 3) := by decide +kernel
theorem dX9_digest_317 : decode cX9_digest 317 = .ok (.ifCond .eq 16, 3) := by decide +kernel
theorem dX9_digest_320 : decode cX9_digest 320 = .ok (.aload_n 0, 1) := by decide +kernel
theorem dX9_digest_321 : decode cX9_digest 321 = .ok (.iconst 0, 1) := by decide +kernel
theorem dX9_digest_322 : decode cX9_digest 322 = .ok (.iconst 1, 1) := by decide +kernel
theorem dX9_digest_323 : decode cX9_digest 323 = .ok (.ldc2_w 137, 3) := by decide +kernel
theorem dX9_digest_326 : decode cX9_digest 326 = .ok (.invokevirtual 133, 3) := by decide +kernel
theorem dX9_digest_329 : decode cX9_digest 329 = .ok (.l2i, 1) := by decide +kernel
theorem dX9_digest_330 : decode cX9_digest 330 = .ok (.goto 4, 3) := by decide +kernel
theorem dX9_digest_333 : decode cX9_digest 333 = .ok (.iconst (-1), 1) := by decide +kernel
theorem dX9_digest_334 : decode cX9_digest 334 = .ok (.i2l, 1) := by decide +kernel
theorem dX9_digest_335 : decode cX9_digest 335 = .ok (.ladd, 1) := by decide +kernel
theorem dX9_digest_336 : decode cX9_digest 336 = .ok (.lstore_n 1, 1) := by decide +kernel
theorem dX9_digest_337 : decode cX9_digest 337 = .ok (.ldc2_w 284, 3) := by decide +kernel
theorem dX9_digest_340 : decode cX9_digest 340 = .ok (.lload_n 1, 1) := by decide +kernel
theorem dX9_digest_341 : decode cX9_digest 341 = .ok (.lmul, 1) := by decide +kernel
theorem dX9_digest_342 : decode cX9_digest 342 = .ok (.aload_n 0, 1) := by decide +kernel
theorem dX9_digest_343 : decode cX9_digest 343 = .ok (.invokevirtual 278, 3) := by decide +kernel
theorem dX9_digest_346 : decode cX9_digest 346 = .ok (.invokestatic 286, 3) := by decide +kernel
theorem dX9_digest_349 : decode cX9_digest 349 = .ok (.ladd, 1) := by decide +kernel
theorem dX9_digest_350 : decode cX9_digest 350 = .ok (.lstore_n 1, 1) := by decide +kernel
theorem dX9_digest_351 : decode cX9_digest 351 = .ok (.ldc2_w 284, 3) := by decide +kernel
theorem dX9_digest_354 : decode cX9_digest 354 = .ok (.lload_n 1, 1) := by decide +kernel
theorem dX9_digest_355 : decode cX9_digest 355 = .ok (.lmul, 1) := by decide +kernel
theorem dX9_digest_356 : decode cX9_digest 356 = .ok (.aload_n 0, 1) := by decide +kernel
theorem dX9_digest_357 : decode cX9_digest 357 = .ok (.getfield 159, 3) := by decide +kernel
theorem dX9_digest_360 : decode cX9_digest 360 = .ok (.i2l, 1) := by decide +kernel
theorem dX9_digest_361 : decode cX9_digest 361 = .ok (.ladd, 1) := by decide +kernel
theorem dX9_digest_362 : decode cX9_digest 362 = .ok (.lstore_n 1, 1) := by decide +kernel
theorem dX9_digest_363 : decode cX9_digest 363 = .ok (.iconst 0, 1) := by decide +kernel
theorem dX9_digest_364 : decode cX9_digest 364 = .ok (.istore_n 3, 1) := by decide +kernel
theorem dX9_digest_365 : decode cX9_digest 365 = .ok (.iload_n 3, 1) := by decide +kernel
theorem dX9_digest_366 : decode cX9_digest 366 = .ok (.aload_n 0, 1) := by decide +kernel
theorem dX9_digest_367 : decode cX9_digest 367 = .ok (.getfield 159, 3) := by decide +kernel
theorem dX9_digest_370 : decode cX9_digest 370 = .ok (.if_icmp .ge 23, 3) := by decide +kernel
theorem dX9_digest_373 : decode cX9_digest 373 = .ok (.ldc2_w 284, 3) := by decide +kernel
theorem dX9_digest_376 : decode cX9_digest 376 = .ok (.lload_n 1, 1) := by decide +kernel
theorem dX9_digest_377 : decode cX9_digest 377 = .ok (.lmul, 1) := by decide +kernel
theorem dX9_digest_378 : decode cX9_digest 378 = .ok (.aload_n 0, 1) := by decide +kernel
theorem dX9_digest_379 : decode cX9_digest 379 = .ok (.getfield 19, 3) := by decide +kernel
theorem dX9_digest_382 : decode cX9_digest 382 = .ok (.iload_n 3, 1) := by decide +kernel
theorem dX9_digest_383 : decode cX9_digest 383 = .ok (.iaload, 1) := by decide +kernel
theorem dX9_digest_384 : decode cX9_digest 384 = .ok (.i2l, 1) := by decide +kernel
theorem dX9_digest_385 : decode cX9_digest 385 = .ok (.ladd, 1) := by decide +kernel
theorem dX9_digest_386 : decode cX9_digest 386 = .ok (.lstore_n 1, 1) := by decide +kernel
theorem dX9_digest_387 : decode cX9_digest 387 = .ok (.iinc 3 1, 3) := by decide +kernel
theorem dX9_digest_390 : decode cX9_digest 390 = .ok (.goto (-25), 3) := by decide +kernel
theorem dX9_digest_393 : decode cX9_digest 393 = .ok (.lload_n 1, 1) := by decide +kernel
theorem dX9_digest_394 : decode cX9_digest 394 = .ok (.lreturn, 1) := by decide +kernel
end
section
theorem dL_stick_0 : decode cL_stick 0 = .ok (.aload_n 3, 1) := by decide +kernel
theorem dL_stick_1 : decode cL_stick 1 = .ok (.iconst 0, 1) := by decide +kernel
theorem dL_stick_2 : decode cL_stick 2 = .ok (.aload_n 0, 1) := by decide +kernel
theorem dL_stick_3 : decode cL_stick 3 = .ok (.iload_n 1, 1) := by decide +kernel
theorem dL_stick_4 : decode cL_stick 4 = .ok (.iload_n 2, 1) := by decide +kernel
theorem dL_stick_5 : decode cL_stick 5 = .ok (.invokevirtual 7, 3) := by decide +kernel
theorem dL_stick_8 : decode cL_stick 8 = .ok (.i2l, 1) := by decide +kernel
theorem dL_stick_9 : decode cL_stick 9 = .ok (.lastore, 1) := by decide +kernel
theorem dL_stick_10 : decode cL_stick 10 = .ok (.goto 11, 3) := by decide +kernel
theorem dL_stick_13 : decode cL_stick 13 = .ok (.astore 4, 2) := by decide +kernel
theorem dL_stick_15 : decode cL_stick 15 = .ok (.iconst 1, 1) := by decide +kernel
theorem dL_stick_16 : decode cL_stick 16 = .ok (.ireturn, 1) := by decide +kernel
theorem dL_stick_17 : decode cL_stick 17 = .ok (.astore 4, 2) := by decide +kernel
theorem dL_stick_19 : decode cL_stick 19 = .ok (.iconst 2, 1) := by decide +kernel
theorem dL_stick_20 : decode cL_stick 20 = .ok (.ireturn, 1) := by decide +kernel
theorem dL_stick_21 : decode cL_stick 21 = .ok (.iconst 0, 1) := by decide +kernel
theorem dL_stick_22 : decode cL_stick 22 = .ok (.ireturn, 1) := by decide +kernel
theorem dL_table_0 : decode cL_table 0 = .ok (.aload 5, 2) := by decide +kernel
theorem dL_table_2 : decode cL_table 2 = .ok (.iconst 0, 1) := by decide +kernel
theorem dL_table_3 : decode cL_table 3 = .ok (.aload_n 0, 1) := by decide +kernel
theorem dL_table_4 : decode cL_table 4 = .ok (.iload_n 1, 1) := by decide +kernel
theorem dL_table_5 : decode cL_table 5 = .ok (.iload_n 2, 1) := by decide +kernel
theorem dL_table_6 : decode cL_table 6 = .ok (.iload_n 3, 1) := by decide +kernel
theorem dL_table_7 : decode cL_table 7 = .ok (.iload 4, 2) := by decide +kernel
theorem dL_table_9 : decode cL_table 9 = .ok (.invokevirtual 17, 3) := by decide +kernel
theorem dL_table_12 : decode cL_table 12 = .ok (.i2l, 1) := by decide +kernel
theorem dL_table_13 : decode cL_table 13 = .ok (.lastore, 1) := by decide +kernel
theorem dL_table_14 : decode cL_table 14 = .ok (.goto 15, 3) := by decide +kernel
theorem dL_table_17 : decode cL_table 17 = .ok (.astore 6, 2) := by decide +kernel
theorem dL_table_19 : decode cL_table 19 = .ok (.iconst 1, 1) := by decide +kernel
theorem dL_table_20 : decode cL_table 20 = .ok (.ireturn, 1) := by decide +kernel
theorem dL_table_21 : decode cL_table 21 = .ok (.astore 6, 2) := by decide +kernel
theorem dL_table_23 : decode cL_table 23 = .ok (.iconst 2, 1) := by decide +kernel
theorem dL_table_24 : decode cL_table 24 = .ok (.ireturn, 1) := by decide +kernel
theorem dL_table_25 : decode cL_table 25 = .ok (.astore 6, 2) := by decide +kernel
theorem dL_table_27 : decode cL_table 27 = .ok (.iconst 3, 1) := by decide +kernel
theorem dL_table_28 : decode cL_table 28 = .ok (.ireturn, 1) := by decide +kernel
theorem dL_table_29 : decode cL_table 29 = .ok (.iconst 0, 1) := by decide +kernel
theorem dL_table_30 : decode cL_table 30 = .ok (.ireturn, 1) := by decide +kernel
theorem dL_drop_0 : decode cL_drop 0 = .ok (.aload_n 3, 1) := by decide +kernel
theorem dL_drop_1 : decode cL_drop 1 = .ok (.iconst 0, 1) := by decide +kernel
theorem dL_drop_2 : decode cL_drop 2 = .ok (.aload_n 0, 1) := by decide +kernel
theorem dL_drop_3 : decode cL_drop 3 = .ok (.iload_n 1, 1) := by decide +kernel
theorem dL_drop_4 : decode cL_drop 4 = .ok (.iload_n 2, 1) := by decide +kernel
theorem dL_drop_5 : decode cL_drop 5 = .ok (.invokevirtual 23, 3) := by decide +kernel
theorem dL_drop_8 : decode cL_drop 8 = .ok (.i2l, 1) := by decide +kernel
theorem dL_drop_9 : decode cL_drop 9 = .ok (.lastore, 1) := by decide +kernel
theorem dL_drop_10 : decode cL_drop 10 = .ok (.goto 11, 3) := by decide +kernel
theorem dL_drop_13 : decode cL_drop 13 = .ok (.astore 4, 2) := by decide +kernel
theorem dL_drop_15 : decode cL_drop 15 = .ok (.iconst 1, 1) := by decide +kernel
theorem dL_drop_16 : decode cL_drop 16 = .ok (.ireturn, 1) := by decide +kernel
theorem dL_drop_17 : decode cL_drop 17 = .ok (.astore 4, 2) := by decide +kernel
theorem dL_drop_19 : decode cL_drop 19 = .ok (.iconst 2, 1) := by decide +kernel
theorem dL_drop_20 : decode cL_drop 20 = .ok (.ireturn, 1) := by decide +kernel
theorem dL_drop_21 : decode cL_drop 21 = .ok (.iconst 0, 1) := by decide +kernel
theorem dL_drop_22 : decode cL_drop 22 = .ok (.ireturn, 1) := by decide +kernel
theorem dL_set_0 : decode cL_set 0 = .ok (.aload_n 3, 1) := by decide +kernel
theorem dL_set_1 : decode cL_set 1 = .ok (.iconst 0, 1) := by decide +kernel
theorem dL_set_2 : decode cL_set 2 = .ok (.aload_n 0, 1) := by decide +kernel
theorem dL_set_3 : decode cL_set 3 = .ok (.iload_n 1, 1) := by decide +kernel
theorem dL_set_4 : decode cL_set 4 = .ok (.iload_n 2, 1) := by decide +kernel
theorem dL_set_5 : decode cL_set 5 = .ok (.invokevirtual 26, 3) := by decide +kernel
theorem dL_set_8 : decode cL_set 8 = .ok (.i2l, 1) := by decide +kernel
theorem dL_set_9 : decode cL_set 9 = .ok (.lastore, 1) := by decide +kernel
theorem dL_set_10 : decode cL_set 10 = .ok (.goto 11, 3) := by decide +kernel
theorem dL_set_13 : decode cL_set 13 = .ok (.astore 4, 2) := by decide +kernel
theorem dL_set_15 : decode cL_set 15 = .ok (.iconst 1, 1) := by decide +kernel
theorem dL_set_16 : decode cL_set 16 = .ok (.ireturn, 1) := by decide +kernel
theorem dL_set_17 : decode cL_set 17 = .ok (.astore 4, 2) := by decide +kernel
theorem dL_set_19 : decode cL_set 19 = .ok (.iconst 2, 1) := by decide +kernel
theorem dL_set_20 : decode cL_set 20 = .ok (.ireturn, 1) := by decide +kernel
theorem dL_set_21 : decode cL_set 21 = .ok (.iconst 0, 1) := by decide +kernel
theorem dL_set_22 : decode cL_set 22 = .ok (.ireturn, 1) := by decide +kernel
theorem dL_bolt_0 : decode cL_bolt 0 = .ok (.aload_n 3, 1) := by decide +kernel
theorem dL_bolt_1 : decode cL_bolt 1 = .ok (.iconst 0, 1) := by decide +kernel
theorem dL_bolt_2 : decode cL_bolt 2 = .ok (.aload_n 0, 1) := by decide +kernel
theorem dL_bolt_3 : decode cL_bolt 3 = .ok (.iload_n 1, 1) := by decide +kernel
theorem dL_bolt_4 : decode cL_bolt 4 = .ok (.iload_n 2, 1) := by decide +kernel
theorem dL_bolt_5 : decode cL_bolt 5 = .ok (.invokevirtual 29, 3) := by decide +kernel
theorem dL_bolt_8 : decode cL_bolt 8 = .ok (.i2l, 1) := by decide +kernel
theorem dL_bolt_9 : decode cL_bolt 9 = .ok (.lastore, 1) := by decide +kernel
theorem dL_bolt_10 : decode cL_bolt 10 = .ok (.goto 15, 3) := by decide +kernel
theorem dL_bolt_13 : decode cL_bolt 13 = .ok (.astore 4, 2) := by decide +kernel
theorem dL_bolt_15 : decode cL_bolt 15 = .ok (.iconst 1, 1) := by decide +kernel
theorem dL_bolt_16 : decode cL_bolt 16 = .ok (.ireturn, 1) := by decide +kernel
theorem dL_bolt_17 : decode cL_bolt 17 = .ok (.astore 4, 2) := by decide +kernel
theorem dL_bolt_19 : decode cL_bolt 19 = .ok (.iconst 2, 1) := by decide +kernel
theorem dL_bolt_20 : decode cL_bolt 20 = .ok (.ireturn, 1) := by decide +kernel
theorem dL_bolt_21 : decode cL_bolt 21 = .ok (.astore 4, 2) := by decide +kernel
theorem dL_bolt_23 : decode cL_bolt 23 = .ok (.iconst 3, 1) := by decide +kernel
theorem dL_bolt_24 : decode cL_bolt 24 = .ok (.ireturn, 1) := by decide +kernel
theorem dL_bolt_25 : decode cL_bolt 25 = .ok (.iconst 0, 1) := by decide +kernel
theorem dL_bolt_26 : decode cL_bolt 26 = .ok (.ireturn, 1) := by decide +kernel
theorem dL_send_0 : decode cL_send 0 = .ok (.aload_n 3, 1) := by decide +kernel
theorem dL_send_1 : decode cL_send 1 = .ok (.iconst 0, 1) := by decide +kernel
theorem dL_send_2 : decode cL_send 2 = .ok (.aload_n 0, 1) := by decide +kernel
theorem dL_send_3 : decode cL_send 3 = .ok (.iload_n 1, 1) := by decide +kernel
theorem dL_send_4 : decode cL_send 4 = .ok (.iload_n 2, 1) := by decide +kernel
theorem dL_send_5 : decode cL_send 5 = .ok (.invokevirtual 32, 3) := by decide +kernel
theorem dL_send_8 : decode cL_send 8 = .ok (.i2l, 1) := by decide +kernel
theorem dL_send_9 : decode cL_send 9 = .ok (.lastore, 1) := by decide +kernel
theorem dL_send_10 : decode cL_send 10 = .ok (.goto 11, 3) := by decide +kernel
theorem dL_send_13 : decode cL_send 13 = .ok (.astore 4, 2) := by decide +kernel
theorem dL_send_15 : decode cL_send 15 = .ok (.iconst 1, 1) := by decide +kernel
theorem dL_send_16 : decode cL_send 16 = .ok (.ireturn, 1) := by decide +kernel
theorem dL_send_17 : decode cL_send 17 = .ok (.astore 4, 2) := by decide +kernel
theorem dL_send_19 : decode cL_send 19 = .ok (.iconst 2, 1) := by decide +kernel
theorem dL_send_20 : decode cL_send 20 = .ok (.ireturn, 1) := by decide +kernel
theorem dL_send_21 : decode cL_send 21 = .ok (.iconst 0, 1) := by decide +kernel
theorem dL_send_22 : decode cL_send 22 = .ok (.ireturn, 1) := by decide +kernel
theorem dL_sell_0 : decode cL_sell 0 = .ok (.aload_n 2, 1) := by decide +kernel
theorem dL_sell_1 : decode cL_sell 1 = .ok (.iconst 0, 1) := by decide +kernel
theorem dL_sell_2 : decode cL_sell 2 = .ok (.aload_n 0, 1) := by decide +kernel
theorem dL_sell_3 : decode cL_sell 3 = .ok (.iload_n 1, 1) := by decide +kernel
theorem dL_sell_4 : decode cL_sell 4 = .ok (.invokevirtual 35, 3) := by decide +kernel
theorem dL_sell_7 : decode cL_sell 7 = .ok (.i2l, 1) := by decide +kernel
theorem dL_sell_8 : decode cL_sell 8 = .ok (.lastore, 1) := by decide +kernel
theorem dL_sell_9 : decode cL_sell 9 = .ok (.goto 6, 3) := by decide +kernel
theorem dL_sell_12 : decode cL_sell 12 = .ok (.astore_n 3, 1) := by decide +kernel
theorem dL_sell_13 : decode cL_sell 13 = .ok (.iconst 1, 1) := by decide +kernel
theorem dL_sell_14 : decode cL_sell 14 = .ok (.ireturn, 1) := by decide +kernel
theorem dL_sell_15 : decode cL_sell 15 = .ok (.iconst 0, 1) := by decide +kernel
theorem dL_sell_16 : decode cL_sell 16 = .ok (.ireturn, 1) := by decide +kernel
theorem dL_append_0 : decode cL_append 0 = .ok (.aload_n 2, 1) := by decide +kernel
theorem dL_append_1 : decode cL_append 1 = .ok (.iconst 0, 1) := by decide +kernel
theorem dL_append_2 : decode cL_append 2 = .ok (.aload_n 0, 1) := by decide +kernel
theorem dL_append_3 : decode cL_append 3 = .ok (.iload_n 1, 1) := by decide +kernel
theorem dL_append_4 : decode cL_append 4 = .ok (.invokevirtual 39, 3) := by decide +kernel
theorem dL_append_7 : decode cL_append 7 = .ok (.i2l, 1) := by decide +kernel
theorem dL_append_8 : decode cL_append 8 = .ok (.lastore, 1) := by decide +kernel
theorem dL_append_9 : decode cL_append 9 = .ok (.goto 9, 3) := by decide +kernel
theorem dL_append_12 : decode cL_append 12 = .ok (.astore_n 3, 1) := by decide +kernel
theorem dL_append_13 : decode cL_append 13 = .ok (.iconst 1, 1) := by decide +kernel
theorem dL_append_14 : decode cL_append 14 = .ok (.ireturn, 1) := by decide +kernel
theorem dL_append_15 : decode cL_append 15 = .ok (.astore_n 3, 1) := by decide +kernel
theorem dL_append_16 : decode cL_append 16 = .ok (.iconst 2, 1) := by decide +kernel
theorem dL_append_17 : decode cL_append 17 = .ok (.ireturn, 1) := by decide +kernel
theorem dL_append_18 : decode cL_append 18 = .ok (.iconst 0, 1) := by decide +kernel
theorem dL_append_19 : decode cL_append 19 = .ok (.ireturn, 1) := by decide +kernel
theorem dL_work_0 : decode cL_work 0 = .ok (.aload_n 1, 1) := by decide +kernel
theorem dL_work_1 : decode cL_work 1 = .ok (.iconst 0, 1) := by decide +kernel
theorem dL_work_2 : decode cL_work 2 = .ok (.aload_n 0, 1) := by decide +kernel
theorem dL_work_3 : decode cL_work 3 = .ok (.invokevirtual 42, 3) := by decide +kernel
theorem dL_work_6 : decode cL_work 6 = .ok (.i2l, 1) := by decide +kernel
theorem dL_work_7 : decode cL_work 7 = .ok (.lastore, 1) := by decide +kernel
theorem dL_work_8 : decode cL_work 8 = .ok (.goto 6, 3) := by decide +kernel
theorem dL_work_11 : decode cL_work 11 = .ok (.astore_n 2, 1) := by decide +kernel
theorem dL_work_12 : decode cL_work 12 = .ok (.iconst 1, 1) := by decide +kernel
theorem dL_work_13 : decode cL_work 13 = .ok (.ireturn, 1) := by decide +kernel
theorem dL_work_14 : decode cL_work 14 = .ok (.iconst 0, 1) := by decide +kernel
theorem dL_work_15 : decode cL_work 15 = .ok (.ireturn, 1) := by decide +kernel
theorem dL_stopped_0 : decode cL_stopped 0 = .ok (.aload_n 2, 1) := by decide +kernel
theorem dL_stopped_1 : decode cL_stopped 1 = .ok (.iconst 0, 1) := by decide +kernel
theorem dL_stopped_2 : decode cL_stopped 2 = .ok (.aload_n 0, 1) := by decide +kernel
theorem dL_stopped_3 : decode cL_stopped 3 = .ok (.iload_n 1, 1) := by decide +kernel
theorem dL_stopped_4 : decode cL_stopped 4 = .ok (.invokevirtual 46, 3) := by decide +kernel
theorem dL_stopped_7 : decode cL_stopped 7 = .ok (.i2l, 1) := by decide +kernel
theorem dL_stopped_8 : decode cL_stopped 8 = .ok (.lastore, 1) := by decide +kernel
theorem dL_stopped_9 : decode cL_stopped 9 = .ok (.goto 6, 3) := by decide +kernel
theorem dL_stopped_12 : decode cL_stopped 12 = .ok (.astore_n 3, 1) := by decide +kernel
theorem dL_stopped_13 : decode cL_stopped 13 = .ok (.iconst 1, 1) := by decide +kernel
theorem dL_stopped_14 : decode cL_stopped 14 = .ok (.ireturn, 1) := by decide +kernel
theorem dL_stopped_15 : decode cL_stopped 15 = .ok (.iconst 0, 1) := by decide +kernel
theorem dL_stopped_16 : decode cL_stopped 16 = .ok (.ireturn, 1) := by decide +kernel
theorem dL_undo_0 : decode cL_undo 0 = .ok (.aload_n 1, 1) := by decide +kernel
theorem dL_undo_1 : decode cL_undo 1 = .ok (.iconst 0, 1) := by decide +kernel
theorem dL_undo_2 : decode cL_undo 2 = .ok (.aload_n 0, 1) := by decide +kernel
theorem dL_undo_3 : decode cL_undo 3 = .ok (.invokevirtual 49, 3) := by decide +kernel
theorem dL_undo_6 : decode cL_undo 6 = .ok (.i2l, 1) := by decide +kernel
theorem dL_undo_7 : decode cL_undo 7 = .ok (.lastore, 1) := by decide +kernel
theorem dL_undo_8 : decode cL_undo 8 = .ok (.goto 6, 3) := by decide +kernel
theorem dL_undo_11 : decode cL_undo 11 = .ok (.astore_n 2, 1) := by decide +kernel
theorem dL_undo_12 : decode cL_undo 12 = .ok (.iconst 1, 1) := by decide +kernel
theorem dL_undo_13 : decode cL_undo 13 = .ok (.ireturn, 1) := by decide +kernel
theorem dL_undo_14 : decode cL_undo 14 = .ok (.iconst 0, 1) := by decide +kernel
theorem dL_undo_15 : decode cL_undo 15 = .ok (.ireturn, 1) := by decide +kernel
theorem dL_restore_0 : decode cL_restore 0 = .ok (.aload_n 1, 1) := by decide +kernel
theorem dL_restore_1 : decode cL_restore 1 = .ok (.iconst 0, 1) := by decide +kernel
theorem dL_restore_2 : decode cL_restore 2 = .ok (.aload_n 0, 1) := by decide +kernel
theorem dL_restore_3 : decode cL_restore 3 = .ok (.invokevirtual 52, 3) := by decide +kernel
theorem dL_restore_6 : decode cL_restore 6 = .ok (.i2l, 1) := by decide +kernel
theorem dL_restore_7 : decode cL_restore 7 = .ok (.lastore, 1) := by decide +kernel
theorem dL_restore_8 : decode cL_restore 8 = .ok (.goto 6, 3) := by decide +kernel
theorem dL_restore_11 : decode cL_restore 11 = .ok (.astore_n 2, 1) := by decide +kernel
theorem dL_restore_12 : decode cL_restore 12 = .ok (.iconst 1, 1) := by decide +kernel
theorem dL_restore_13 : decode cL_restore 13 = .ok (.ireturn, 1) := by decide +kernel
theorem dL_restore_14 : decode cL_restore 14 = .ok (.iconst 0, 1) := by decide +kernel
theorem dL_restore_15 : decode cL_restore 15 = .ok (.ireturn, 1) := by decide +kernel
theorem dL_tableOf_0 : decode cL_tableOf 0 = .ok (.aload 4, 2) := by decide +kernel
theorem dL_tableOf_2 : decode cL_tableOf 2 = .ok (.iconst 0, 1) := by decide +kernel
theorem dL_tableOf_3 : decode cL_tableOf 3 = .ok (.aload_n 0, 1) := by decide +kernel
theorem dL_tableOf_4 : decode cL_tableOf 4 = .ok (.iload_n 1, 1) := by decide +kernel
theorem dL_tableOf_5 : decode cL_tableOf 5 = .ok (.iload_n 2, 1) := by decide +kernel
theorem dL_tableOf_6 : decode cL_tableOf 6 = .ok (.iload_n 3, 1) := by decide +kernel
theorem dL_tableOf_7 : decode cL_tableOf 7 = .ok (.invokevirtual 55, 3) := by decide +kernel
theorem dL_tableOf_10 : decode cL_tableOf 10 = .ok (.i2l, 1) := by decide +kernel
theorem dL_tableOf_11 : decode cL_tableOf 11 = .ok (.lastore, 1) := by decide +kernel
theorem dL_tableOf_12 : decode cL_tableOf 12 = .ok (.goto 11, 3) := by decide +kernel
theorem dL_tableOf_15 : decode cL_tableOf 15 = .ok (.astore 5, 2) := by decide +kernel
theorem dL_tableOf_17 : decode cL_tableOf 17 = .ok (.iconst 1, 1) := by decide +kernel
theorem dL_tableOf_18 : decode cL_tableOf 18 = .ok (.ireturn, 1) := by decide +kernel
theorem dL_tableOf_19 : decode cL_tableOf 19 = .ok (.astore 5, 2) := by decide +kernel
theorem dL_tableOf_21 : decode cL_tableOf 21 = .ok (.iconst 2, 1) := by decide +kernel
theorem dL_tableOf_22 : decode cL_tableOf 22 = .ok (.ireturn, 1) := by decide +kernel
theorem dL_tableOf_23 : decode cL_tableOf 23 = .ok (.iconst 0, 1) := by decide +kernel
theorem dL_tableOf_24 : decode cL_tableOf 24 = .ok (.ireturn, 1) := by decide +kernel
theorem dL_ring_0 : decode cL_ring 0 = .ok (.aload_n 3, 1) := by decide +kernel
theorem dL_ring_1 : decode cL_ring 1 = .ok (.iconst 0, 1) := by decide +kernel
theorem dL_ring_2 : decode cL_ring 2 = .ok (.aload_n 0, 1) := by decide +kernel
theorem dL_ring_3 : decode cL_ring 3 = .ok (.iload_n 1, 1) := by decide +kernel
theorem dL_ring_4 : decode cL_ring 4 = .ok (.iload_n 2, 1) := by decide +kernel
theorem dL_ring_5 : decode cL_ring 5 = .ok (.invokevirtual 59, 3) := by decide +kernel
theorem dL_ring_8 : decode cL_ring 8 = .ok (.i2l, 1) := by decide +kernel
theorem dL_ring_9 : decode cL_ring 9 = .ok (.lastore, 1) := by decide +kernel
theorem dL_ring_10 : decode cL_ring 10 = .ok (.goto 7, 3) := by decide +kernel
theorem dL_ring_13 : decode cL_ring 13 = .ok (.astore 4, 2) := by decide +kernel
theorem dL_ring_15 : decode cL_ring 15 = .ok (.iconst 1, 1) := by decide +kernel
theorem dL_ring_16 : decode cL_ring 16 = .ok (.ireturn, 1) := by decide +kernel
theorem dL_ring_17 : decode cL_ring 17 = .ok (.iconst 0, 1) := by decide +kernel
theorem dL_ring_18 : decode cL_ring 18 = .ok (.ireturn, 1) := by decide +kernel
theorem dL_boltOf_0 : decode cL_boltOf 0 = .ok (.aload_n 3, 1) := by decide +kernel
theorem dL_boltOf_1 : decode cL_boltOf 1 = .ok (.iconst 0, 1) := by decide +kernel
theorem dL_boltOf_2 : decode cL_boltOf 2 = .ok (.aload_n 0, 1) := by decide +kernel
theorem dL_boltOf_3 : decode cL_boltOf 3 = .ok (.iload_n 1, 1) := by decide +kernel
theorem dL_boltOf_4 : decode cL_boltOf 4 = .ok (.iload_n 2, 1) := by decide +kernel
theorem dL_boltOf_5 : decode cL_boltOf 5 = .ok (.invokevirtual 62, 3) := by decide +kernel
theorem dL_boltOf_8 : decode cL_boltOf 8 = .ok (.i2l, 1) := by decide +kernel
theorem dL_boltOf_9 : decode cL_boltOf 9 = .ok (.lastore, 1) := by decide +kernel
theorem dL_boltOf_10 : decode cL_boltOf 10 = .ok (.goto 11, 3) := by decide +kernel
theorem dL_boltOf_13 : decode cL_boltOf 13 = .ok (.astore 4, 2) := by decide +kernel
theorem dL_boltOf_15 : decode cL_boltOf 15 = .ok (.iconst 1, 1) := by decide +kernel
theorem dL_boltOf_16 : decode cL_boltOf 16 = .ok (.ireturn, 1) := by decide +kernel
theorem dL_boltOf_17 : decode cL_boltOf 17 = .ok (.astore 4, 2) := by decide +kernel
theorem dL_boltOf_19 : decode cL_boltOf 19 = .ok (.iconst 2, 1) := by decide +kernel
theorem dL_boltOf_20 : decode cL_boltOf 20 = .ok (.ireturn, 1) := by decide +kernel
theorem dL_boltOf_21 : decode cL_boltOf 21 = .ok (.iconst 0, 1) := by decide +kernel
theorem dL_boltOf_22 : decode cL_boltOf 22 = .ok (.ireturn, 1) := by decide +kernel
theorem dL_count_0 : decode cL_count 0 = .ok (.aload_n 2, 1) := by decide +kernel
theorem dL_count_1 : decode cL_count 1 = .ok (.iconst 0, 1) := by decide +kernel
theorem dL_count_2 : decode cL_count 2 = .ok (.aload_n 0, 1) := by decide +kernel
theorem dL_count_3 : decode cL_count 3 = .ok (.iload_n 1, 1) := by decide +kernel
theorem dL_count_4 : decode cL_count 4 = .ok (.invokevirtual 65, 3) := by decide +kernel
theorem dL_count_7 : decode cL_count 7 = .ok (.i2l, 1) := by decide +kernel
theorem dL_count_8 : decode cL_count 8 = .ok (.lastore, 1) := by decide +kernel
theorem dL_count_9 : decode cL_count 9 = .ok (.goto 6, 3) := by decide +kernel
theorem dL_count_12 : decode cL_count 12 = .ok (.astore_n 3, 1) := by decide +kernel
theorem dL_count_13 : decode cL_count 13 = .ok (.iconst 1, 1) := by decide +kernel
theorem dL_count_14 : decode cL_count 14 = .ok (.ireturn, 1) := by decide +kernel
theorem dL_count_15 : decode cL_count 15 = .ok (.iconst 0, 1) := by decide +kernel
theorem dL_count_16 : decode cL_count 16 = .ok (.ireturn, 1) := by decide +kernel
theorem dL_offBy_0 : decode cL_offBy 0 = .ok (.aload 5, 2) := by decide +kernel
theorem dL_offBy_2 : decode cL_offBy 2 = .ok (.iconst 0, 1) := by decide +kernel
theorem dL_offBy_3 : decode cL_offBy 3 = .ok (.aload_n 0, 1) := by decide +kernel
theorem dL_offBy_4 : decode cL_offBy 4 = .ok (.iload_n 1, 1) := by decide +kernel
theorem dL_offBy_5 : decode cL_offBy 5 = .ok (.iload_n 2, 1) := by decide +kernel
theorem dL_offBy_6 : decode cL_offBy 6 = .ok (.iload_n 3, 1) := by decide +kernel
theorem dL_offBy_7 : decode cL_offBy 7 = .ok (.iload 4, 2) := by decide +kernel
theorem dL_offBy_9 : decode cL_offBy 9 = .ok (.invokevirtual 68, 3) := by decide +kernel
theorem dL_offBy_12 : decode cL_offBy 12 = .ok (.i2l, 1) := by decide +kernel
theorem dL_offBy_13 : decode cL_offBy 13 = .ok (.lastore, 1) := by decide +kernel
theorem dL_offBy_14 : decode cL_offBy 14 = .ok (.goto 11, 3) := by decide +kernel
theorem dL_offBy_17 : decode cL_offBy 17 = .ok (.astore 6, 2) := by decide +kernel
theorem dL_offBy_19 : decode cL_offBy 19 = .ok (.iconst 1, 1) := by decide +kernel
theorem dL_offBy_20 : decode cL_offBy 20 = .ok (.ireturn, 1) := by decide +kernel
theorem dL_offBy_21 : decode cL_offBy 21 = .ok (.astore 6, 2) := by decide +kernel
theorem dL_offBy_23 : decode cL_offBy 23 = .ok (.iconst 2, 1) := by decide +kernel
theorem dL_offBy_24 : decode cL_offBy 24 = .ok (.ireturn, 1) := by decide +kernel
theorem dL_offBy_25 : decode cL_offBy 25 = .ok (.iconst 0, 1) := by decide +kernel
theorem dL_offBy_26 : decode cL_offBy 26 = .ok (.ireturn, 1) := by decide +kernel
theorem dL_turned_0 : decode cL_turned 0 = .ok (.aload 4, 2) := by decide +kernel
theorem dL_turned_2 : decode cL_turned 2 = .ok (.iconst 0, 1) := by decide +kernel
theorem dL_turned_3 : decode cL_turned 3 = .ok (.aload_n 0, 1) := by decide +kernel
theorem dL_turned_4 : decode cL_turned 4 = .ok (.iload_n 1, 1) := by decide +kernel
theorem dL_turned_5 : decode cL_turned 5 = .ok (.iload_n 2, 1) := by decide +kernel
theorem dL_turned_6 : decode cL_turned 6 = .ok (.iload_n 3, 1) := by decide +kernel
theorem dL_turned_7 : decode cL_turned 7 = .ok (.invokevirtual 71, 3) := by decide +kernel
theorem dL_turned_10 : decode cL_turned 10 = .ok (.i2l, 1) := by decide +kernel
theorem dL_turned_11 : decode cL_turned 11 = .ok (.lastore, 1) := by decide +kernel
theorem dL_turned_12 : decode cL_turned 12 = .ok (.goto 11, 3) := by decide +kernel
theorem dL_turned_15 : decode cL_turned 15 = .ok (.astore 5, 2) := by decide +kernel
theorem dL_turned_17 : decode cL_turned 17 = .ok (.iconst 1, 1) := by decide +kernel
theorem dL_turned_18 : decode cL_turned 18 = .ok (.ireturn, 1) := by decide +kernel
theorem dL_turned_19 : decode cL_turned 19 = .ok (.astore 5, 2) := by decide +kernel
theorem dL_turned_21 : decode cL_turned 21 = .ok (.iconst 2, 1) := by decide +kernel
theorem dL_turned_22 : decode cL_turned 22 = .ok (.ireturn, 1) := by decide +kernel
theorem dL_turned_23 : decode cL_turned 23 = .ok (.iconst 0, 1) := by decide +kernel
theorem dL_turned_24 : decode cL_turned 24 = .ok (.ireturn, 1) := by decide +kernel
theorem dL_bestWay_0 : decode cL_bestWay 0 = .ok (.aload 4, 2) := by decide +kernel
theorem dL_bestWay_2 : decode cL_bestWay 2 = .ok (.iconst 0, 1) := by decide +kernel
theorem dL_bestWay_3 : decode cL_bestWay 3 = .ok (.aload_n 0, 1) := by decide +kernel
theorem dL_bestWay_4 : decode cL_bestWay 4 = .ok (.iload_n 1, 1) := by decide +kernel
theorem dL_bestWay_5 : decode cL_bestWay 5 = .ok (.iload_n 2, 1) := by decide +kernel
theorem dL_bestWay_6 : decode cL_bestWay 6 = .ok (.iload_n 3, 1) := by decide +kernel
theorem dL_bestWay_7 : decode cL_bestWay 7 = .ok (.invokevirtual 74, 3) := by decide +kernel
theorem dL_bestWay_10 : decode cL_bestWay 10 = .ok (.i2l, 1) := by decide +kernel
theorem dL_bestWay_11 : decode cL_bestWay 11 = .ok (.lastore, 1) := by decide +kernel
theorem dL_bestWay_12 : decode cL_bestWay 12 = .ok (.goto 11, 3) := by decide +kernel
theorem dL_bestWay_15 : decode cL_bestWay 15 = .ok (.astore 5, 2) := by decide +kernel
theorem dL_bestWay_17 : decode cL_bestWay 17 = .ok (.iconst 1, 1) := by decide +kernel
theorem dL_bestWay_18 : decode cL_bestWay 18 = .ok (.ireturn, 1) := by decide +kernel
theorem dL_bestWay_19 : decode cL_bestWay 19 = .ok (.astore 5, 2) := by decide +kernel
theorem dL_bestWay_21 : decode cL_bestWay 21 = .ok (.iconst 2, 1) := by decide +kernel
theorem dL_bestWay_22 : decode cL_bestWay 22 = .ok (.ireturn, 1) := by decide +kernel
theorem dL_bestWay_23 : decode cL_bestWay 23 = .ok (.iconst 0, 1) := by decide +kernel
theorem dL_bestWay_24 : decode cL_bestWay 24 = .ok (.ireturn, 1) := by decide +kernel
theorem dL_mends_0 : decode cL_mends 0 = .ok (.aload 4, 2) := by decide +kernel
theorem dL_mends_2 : decode cL_mends 2 = .ok (.iconst 0, 1) := by decide +kernel
theorem dL_mends_3 : decode cL_mends 3 = .ok (.aload_n 0, 1) := by decide +kernel
theorem dL_mends_4 : decode cL_mends 4 = .ok (.iload_n 1, 1) := by decide +kernel
theorem dL_mends_5 : decode cL_mends 5 = .ok (.iload_n 2, 1) := by decide +kernel
theorem dL_mends_6 : decode cL_mends 6 = .ok (.iload_n 3, 1) := by decide +kernel
theorem dL_mends_7 : decode cL_mends 7 = .ok (.invokevirtual 77, 3) := by decide +kernel
theorem dL_mends_10 : decode cL_mends 10 = .ok (.i2l, 1) := by decide +kernel
theorem dL_mends_11 : decode cL_mends 11 = .ok (.lastore, 1) := by decide +kernel
theorem dL_mends_12 : decode cL_mends 12 = .ok (.goto 11, 3) := by decide +kernel
theorem dL_mends_15 : decode cL_mends 15 = .ok (.astore 5, 2) := by decide +kernel
theorem dL_mends_17 : decode cL_mends 17 = .ok (.iconst 1, 1) := by decide +kernel
theorem dL_mends_18 : decode cL_mends 18 = .ok (.ireturn, 1) := by decide +kernel
theorem dL_mends_19 : decode cL_mends 19 = .ok (.astore 5, 2) := by decide +kernel
theorem dL_mends_21 : decode cL_mends 21 = .ok (.iconst 2, 1) := by decide +kernel
theorem dL_mends_22 : decode cL_mends 22 = .ok (.ireturn, 1) := by decide +kernel
theorem dL_mends_23 : decode cL_mends 23 = .ok (.iconst 0, 1) := by decide +kernel
theorem dL_mends_24 : decode cL_mends 24 = .ok (.ireturn, 1) := by decide +kernel
theorem dL_law_0 : decode cL_law 0 = .ok (.new 8, 3) := by decide +kernel
theorem dL_law_3 : decode cL_law 3 = .ok (.dup, 1) := by decide +kernel
theorem dL_law_4 : decode cL_law 4 = .ok (.invokespecial 80, 3) := by decide +kernel
theorem dL_law_7 : decode cL_law 7 = .ok (.astore_n 1, 1) := by decide +kernel
theorem dL_law_8 : decode cL_law 8 = .ok (.new 81, 3) := by decide +kernel
theorem dL_law_11 : decode cL_law 11 = .ok (.dup, 1) := by decide +kernel
theorem dL_law_12 : decode cL_law 12 = .ok (.invokespecial 83, 3) := by decide +kernel
theorem dL_law_15 : decode cL_law 15 = .ok (.astore_n 2, 1) := by decide +kernel
theorem dL_law_16 : decode cL_law 16 = .ok (.iconst 1, 1) := by decide +kernel
theorem dL_law_17 : decode cL_law 17 = .ok (.newarray .long, 2) := by decide +kernel
theorem dL_law_19 : decode cL_law 19 = .ok (.astore_n 3, 1) := by decide +kernel
theorem dL_law_20 : decode cL_law 20 = .ok (.iconst 0, 1) := by decide +kernel
theorem dL_law_21 : decode cL_law 21 = .ok (.istore 4, 2) := by decide +kernel
theorem dL_law_23 : decode cL_law 23 = .ok (.iload 4, 2) := by decide +kernel
theorem dL_law_25 : decode cL_law 25 = .ok (.aload_n 0, 1) := by decide +kernel
theorem dL_law_26 : decode cL_law 26 = .ok (.arraylength, 1) := by decide +kernel
theorem dL_law_27 : decode cL_law 27 = .ok (.iconst 5, 1) := by decide +kernel
theorem dL_law_28 : decode cL_law 28 = .ok (.isub, 1) := by decide +kernel
theorem dL_law_29 : decode cL_law 29 = .ok (.if_icmp .gt 1559, 3) := by decide +kernel
theorem dL_law_32 : decode cL_law 32 = .ok (.aload_n 0, 1) := by decide +kernel
theorem dL_law_33 : decode cL_law 33 = .ok (.iload 4, 2) := by decide +kernel
theorem dL_law_35 : decode cL_law 35 = .ok (.iaload, 1) := by decide +kernel
theorem dL_law_36 : decode cL_law 36 = .ok (.bipush 31, 2) := by decide +kernel
theorem dL_law_38 : decode cL_law 38 = .ok (.iand, 1) := by decide +kernel
theorem dL_law_39 : decode cL_law 39 = .ok (.tableswitch 1543 0 24 #[113, 181, 273, 341, 409, 477, 545, 601, 657, 670, 683, 727, 783, 827, 840, 884, 964, 1032, 1100, 1156, 1248, 1328, 1408, 1488, 1529], 113) := by decide +kernel
theorem dL_law_152 : decode cL_law 152 = .ok (.aload_n 1, 1) := by decide +kernel
theorem dL_law_153 : decode cL_law 153 = .ok (.aload_n 0, 1) := by decide +kernel
theorem dL_law_154 : decode cL_law 154 = .ok (.iload 4, 2) := by decide +kernel
theorem dL_law_156 : decode cL_law 156 = .ok (.iconst 1, 1) := by decide +kernel
theorem dL_law_157 : decode cL_law 157 = .ok (.iadd, 1) := by decide +kernel
theorem dL_law_158 : decode cL_law 158 = .ok (.iaload, 1) := by decide +kernel
theorem dL_law_159 : decode cL_law 159 = .ok (.aload_n 0, 1) := by decide +kernel
theorem dL_law_160 : decode cL_law 160 = .ok (.iload 4, 2) := by decide +kernel
theorem dL_law_162 : decode cL_law 162 = .ok (.iconst 2, 1) := by decide +kernel
theorem dL_law_163 : decode cL_law 163 = .ok (.iadd, 1) := by decide +kernel
theorem dL_law_164 : decode cL_law 164 = .ok (.iaload, 1) := by decide +kernel
theorem dL_law_165 : decode cL_law 165 = .ok (.aload_n 3, 1) := by decide +kernel
theorem dL_law_166 : decode cL_law 166 = .ok (.invokestatic 84, 3) := by decide +kernel
theorem dL_law_169 : decode cL_law 169 = .ok (.istore 5, 2) := by decide +kernel
theorem dL_law_171 : decode cL_law 171 = .ok (.aload_n 2, 1) := by decide +kernel
theorem dL_law_172 : decode cL_law 172 = .ok (.aload_n 0, 1) := by decide +kernel
theorem dL_law_173 : decode cL_law 173 = .ok (.iload 4, 2) := by decide +kernel
theorem dL_law_175 : decode cL_law 175 = .ok (.iconst 1, 1) := by decide +kernel
theorem dL_law_176 : decode cL_law 176 = .ok (.iadd, 1) := by decide +kernel
theorem dL_law_177 : decode cL_law 177 = .ok (.iaload, 1) := by decide +kernel
theorem dL_law_178 : decode cL_law 178 = .ok (.aload_n 0, 1) := by decide +kernel
theorem dL_law_179 : decode cL_law 179 = .ok (.iload 4, 2) := by decide +kernel
theorem dL_law_181 : decode cL_law 181 = .ok (.iconst 2, 1) := by decide +kernel
theorem dL_law_182 : decode cL_law 182 = .ok (.iadd, 1) := by decide +kernel
theorem dL_law_183 : decode cL_law 183 = .ok (.iaload, 1) := by decide +kernel
theorem dL_law_184 : decode cL_law 184 = .ok (.invokevirtual 89, 3) := by decide +kernel
theorem dL_law_187 : decode cL_law 187 = .ok (.istore 6, 2) := by decide +kernel
theorem dL_law_189 : decode cL_law 189 = .ok (.aload_n 2, 1) := by decide +kernel
theorem dL_law_190 : decode cL_law 190 = .ok (.invokevirtual 90, 3) := by decide +kernel
theorem dL_law_193 : decode cL_law 193 = .ok (.iload 5, 2) := by decide +kernel
theorem dL_law_195 : decode cL_law 195 = .ok (.if_icmp .eq 5, 3) := by decide +kernel
theorem dL_law_198 : decode cL_law 198 = .ok (.iconst 0, 1) := by decide +kernel
theorem dL_law_199 : decode cL_law 199 = .ok (.ireturn, 1) := by decide +kernel
theorem dL_law_200 : decode cL_law 200 = .ok (.iload 5, 2) := by decide +kernel
theorem dL_law_202 : decode cL_law 202 = .ok (.ifCond .ne 15, 3) := by decide +kernel
theorem dL_law_205 : decode cL_law 205 = .ok (.aload_n 3, 1) := by decide +kernel
theorem dL_law_206 : decode cL_law 206 = .ok (.iconst 0, 1) := by decide +kernel
theorem dL_law_207 : decode cL_law 207 = .ok (.laload, 1) := by decide +kernel
theorem dL_law_208 : decode cL_law 208 = .ok (.iload 6, 2) := by decide +kernel
theorem dL_law_210 : decode cL_law 210 = .ok (.i2l, 1) := by decide +kernel
theorem dL_law_211 : decode cL_law 211 = .ok (.lcmp, 1) := by decide +kernel
theorem dL_law_212 : decode cL_law 212 = .ok (.ifCond .eq 5, 3) := by decide +kernel
theorem dL_law_215 : decode cL_law 215 = .ok (.iconst 0, 1) := by decide +kernel
theorem dL_law_216 : decode cL_law 216 = .ok (.ireturn, 1) := by decide +kernel
theorem dL_law_217 : decode cL_law 217 = .ok (.goto 1365, 3) := by decide +kernel
theorem dL_law_220 : decode cL_law 220 = .ok (.aload_n 1, 1) := by decide +kernel
theorem dL_law_221 : decode cL_law 221 = .ok (.aload_n 0, 1) := by decide +kernel
theorem dL_law_222 : decode cL_law 222 = .ok (.iload 4, 2) := by decide +kernel
theorem dL_law_224 : decode cL_law 224 = .ok (.iconst 1, 1) := by decide +kernel
theorem dL_law_225 : decode cL_law 225 = .ok (.iadd, 1) := by decide +kernel
theorem dL_law_226 : decode cL_law 226 = .ok (.iaload, 1) := by decide +kernel
theorem dL_law_227 : decode cL_law 227 = .ok (.aload_n 0, 1) := by decide +kernel
theorem dL_law_228 : decode cL_law 228 = .ok (.iload 4, 2) := by decide +kernel
theorem dL_law_230 : decode cL_law 230 = .ok (.iconst 2, 1) := by decide +kernel
theorem dL_law_231 : decode cL_law 231 = .ok (.iadd, 1) := by decide +kernel
theorem dL_law_232 : decode cL_law 232 = .ok (.iaload, 1) := by decide +kernel
theorem dL_law_233 : decode cL_law 233 = .ok (.aload_n 0, 1) := by decide +kernel
theorem dL_law_234 : decode cL_law 234 = .ok (.iload 4, 2) := by decide +kernel
theorem dL_law_236 : decode cL_law 236 = .ok (.iconst 3, 1) := by decide +kernel
theorem dL_law_237 : decode cL_law 237 = .ok (.iadd, 1) := by decide +kernel
theorem dL_law_238 : decode cL_law 238 = .ok (.iaload, 1) := by decide +kernel
theorem dL_law_239 : decode cL_law 239 = .ok (.aload_n 0, 1) := by decide +kernel
theorem dL_law_240 : decode cL_law 240 = .ok (.iload 4, 2) := by decide +kernel
theorem dL_law_242 : decode cL_law 242 = .ok (.iconst 4, 1) := by decide +kernel
theorem dL_law_243 : decode cL_law 243 = .ok (.iadd, 1) := by decide +kernel
theorem dL_law_244 : decode cL_law 244 = .ok (.iaload, 1) := by decide +kernel
theorem dL_law_245 : decode cL_law 245 = .ok (.aload_n 3, 1) := by decide +kernel
theorem dL_law_246 : decode cL_law 246 = .ok (.invokestatic 93, 3) := by decide +kernel
theorem dL_law_249 : decode cL_law 249 = .ok (.istore 5, 2) := by decide +kernel
theorem dL_law_251 : decode cL_law 251 = .ok (.aload_n 2, 1) := by decide +kernel
theorem dL_law_252 : decode cL_law 252 = .ok (.aload_n 0, 1) := by decide +kernel
theorem dL_law_253 : decode cL_law 253 = .ok (.iload 4, 2) := by decide +kernel
theorem dL_law_255 : decode cL_law 255 = .ok (.iconst 1, 1) := by decide +kernel
theorem dL_law_256 : decode cL_law 256 = .ok (.iadd, 1) := by decide +kernel
theorem dL_law_257 : decode cL_law 257 = .ok (.iaload, 1) := by decide +kernel
theorem dL_law_258 : decode cL_law 258 = .ok (.aload_n 0, 1) := by decide +kernel
theorem dL_law_259 : decode cL_law 259 = .ok (.iload 4, 2) := by decide +kernel
theorem dL_law_261 : decode cL_law 261 = .ok (.iconst 2, 1) := by decide +kernel
theorem dL_law_262 : decode cL_law 262 = .ok (.iadd, 1) := by decide +kernel
theorem dL_law_263 : decode cL_law 263 = .ok (.iaload, 1) := by decide +kernel
theorem dL_law_264 : decode cL_law 264 = .ok (.aload_n 0, 1) := by decide +kernel
theorem dL_law_265 : decode cL_law 265 = .ok (.iload 4, 2) := by decide +kernel
theorem dL_law_267 : decode cL_law 267 = .ok (.iconst 3, 1) := by decide +kernel
theorem dL_law_268 : decode cL_law 268 = .ok (.iadd, 1) := by decide +kernel
theorem dL_law_269 : decode cL_law 269 = .ok (.iaload, 1) := by decide +kernel
theorem dL_law_270 : decode cL_law 270 = .ok (.aload_n 0, 1) := by decide +kernel
theorem dL_law_271 : decode cL_law 271 = .ok (.iload 4, 2) := by decide +kernel
theorem dL_law_273 : decode cL_law 273 = .ok (.iconst 4, 1) := by decide +kernel
theorem dL_law_274 : decode cL_law 274 = .ok (.iadd, 1) := by decide +kernel
theorem dL_law_275 : decode cL_law 275 = .ok (.iaload, 1) := by decide +kernel
theorem dL_law_276 : decode cL_law 276 = .ok (.invokevirtual 96, 3) := by decide +kernel
theorem dL_law_279 : decode cL_law 279 = .ok (.istore 6, 2) := by decide +kernel
theorem dL_law_281 : decode cL_law 281 = .ok (.aload_n 2, 1) := by decide +kernel
theorem dL_law_282 : decode cL_law 282 = .ok (.invokevirtual 90, 3) := by decide +kernel
theorem dL_law_285 : decode cL_law 285 = .ok (.iload 5, 2) := by decide +kernel
theorem dL_law_287 : decode cL_law 287 = .ok (.if_icmp .eq 5, 3) := by decide +kernel
theorem dL_law_290 : decode cL_law 290 = .ok (.iconst 0, 1) := by decide +kernel
theorem dL_law_291 : decode cL_law 291 = .ok (.ireturn, 1) := by decide +kernel
theorem dL_law_292 : decode cL_law 292 = .ok (.iload 5, 2) := by decide +kernel
theorem dL_law_294 : decode cL_law 294 = .ok (.ifCond .ne 15, 3) := by decide +kernel
theorem dL_law_297 : decode cL_law 297 = .ok (.aload_n 3, 1) := by decide +kernel
theorem dL_law_298 : decode cL_law 298 = .ok (.iconst 0, 1) := by decide +kernel
theorem dL_law_299 : decode cL_law 299 = .ok (.laload, 1) := by decide +kernel
theorem dL_law_300 : decode cL_law 300 = .ok (.iload 6, 2) := by decide +kernel
theorem dL_law_302 : decode cL_law 302 = .ok (.i2l, 1) := by decide +kernel
theorem dL_law_303 : decode cL_law 303 = .ok (.lcmp, 1) := by decide +kernel
theorem dL_law_304 : decode cL_law 304 = .ok (.ifCond .eq 5, 3) := by decide +kernel
theorem dL_law_307 : decode cL_law 307 = .ok (.iconst 0, 1) := by decide +kernel
theorem dL_law_308 : decode cL_law 308 = .ok (.ireturn, 1) := by decide +kernel
theorem dL_law_309 : decode cL_law 309 = .ok (.goto 1273, 3) := by decide +kernel
theorem dL_law_312 : decode cL_law 312 = .ok (.aload_n 1, 1) := by decide +kernel
theorem dL_law_313 : decode cL_law 313 = .ok (.aload_n 0, 1) := by decide +kernel
theorem dL_law_314 : decode cL_law 314 = .ok (.iload 4, 2) := by decide +kernel
theorem dL_law_316 : decode cL_law 316 = .ok (.iconst 1, 1) := by decide +kernel
theorem dL_law_317 : decode cL_law 317 = .ok (.iadd, 1) := by decide +kernel
theorem dL_law_318 : decode cL_law 318 = .ok (.iaload, 1) := by decide +kernel
theorem dL_law_319 : decode cL_law 319 = .ok (.aload_n 0, 1) := by decide +kernel
theorem dL_law_320 : decode cL_law 320 = .ok (.iload 4, 2) := by decide +kernel
theorem dL_law_322 : decode cL_law 322 = .ok (.iconst 2, 1) := by decide +kernel
theorem dL_law_323 : decode cL_law 323 = .ok (.iadd, 1) := by decide +kernel
theorem dL_law_324 : decode cL_law 324 = .ok (.iaload, 1) := by decide +kernel
theorem dL_law_325 : decode cL_law 325 = .ok (.aload_n 3, 1) := by decide +kernel
theorem dL_law_326 : decode cL_law 326 = .ok (.invokestatic 97, 3) := by decide +kernel
theorem dL_law_329 : decode cL_law 329 = .ok (.istore 5, 2) := by decide +kernel
theorem dL_law_331 : decode cL_law 331 = .ok (.aload_n 2, 1) := by decide +kernel
theorem dL_law_332 : decode cL_law 332 = .ok (.aload_n 0, 1) := by decide +kernel
theorem dL_law_333 : decode cL_law 333 = .ok (.iload 4, 2) := by decide +kernel
theorem dL_law_335 : decode cL_law 335 = .ok (.iconst 1, 1) := by decide +kernel
theorem dL_law_336 : decode cL_law 336 = .ok (.iadd, 1) := by decide +kernel
theorem dL_law_337 : decode cL_law 337 = .ok (.iaload, 1) := by decide +kernel
theorem dL_law_338 : decode cL_law 338 = .ok (.aload_n 0, 1) := by decide +kernel
theorem dL_law_339 : decode cL_law 339 = .ok (.iload 4, 2) := by decide +kernel
theorem dL_law_341 : decode cL_law 341 = .ok (.iconst 2, 1) := by decide +kernel
theorem dL_law_342 : decode cL_law 342 = .ok (.iadd, 1) := by decide +kernel
theorem dL_law_343 : decode cL_law 343 = .ok (.iaload, 1) := by decide +kernel
theorem dL_law_344 : decode cL_law 344 = .ok (.invokevirtual 99, 3) := by decide +kernel
theorem dL_law_347 : decode cL_law 347 = .ok (.istore 6, 2) := by decide +kernel
theorem dL_law_349 : decode cL_law 349 = .ok (.aload_n 2, 1) := by decide +kernel
theorem dL_law_350 : decode cL_law 350 = .ok (.invokevirtual 90, 3) := by decide +kernel
theorem dL_law_353 : decode cL_law 353 = .ok (.iload 5, 2) := by decide +kernel
theorem dL_law_355 : decode cL_law 355 = .ok (.if_icmp .eq 5, 3) := by decide +kernel
theorem dL_law_358 : decode cL_law 358 = .ok (.iconst 0, 1) := by decide +kernel
theorem dL_law_359 : decode cL_law 359 = .ok (.ireturn, 1) := by decide +kernel
theorem dL_law_360 : decode cL_law 360 = .ok (.iload 5, 2) := by decide +kernel
theorem dL_law_362 : decode cL_law 362 = .ok (.ifCond .ne 15, 3) := by decide +kernel
theorem dL_law_365 : decode cL_law 365 = .ok (.aload_n 3, 1) := by decide +kernel
theorem dL_law_366 : decode cL_law 366 = .ok (.iconst 0, 1) := by decide +kernel
theorem dL_law_367 : decode cL_law 367 = .ok (.laload, 1) := by decide +kernel
theorem dL_law_368 : decode cL_law 368 = .ok (.iload 6, 2) := by decide +kernel
theorem dL_law_370 : decode cL_law 370 = .ok (.i2l, 1) := by decide +kernel
theorem dL_law_371 : decode cL_law 371 = .ok (.lcmp, 1) := by decide +kernel
theorem dL_law_372 : decode cL_law 372 = .ok (.ifCond .eq 5, 3) := by decide +kernel
theorem dL_law_375 : decode cL_law 375 = .ok (.iconst 0, 1) := by decide +kernel
theorem dL_law_376 : decode cL_law 376 = .ok (.ireturn, 1) := by decide +kernel
theorem dL_law_377 : decode cL_law 377 = .ok (.goto 1205, 3) := by decide +kernel
theorem dL_law_380 : decode cL_law 380 = .ok (.aload_n 1, 1) := by decide +kernel
theorem dL_law_381 : decode cL_law 381 = .ok (.aload_n 0, 1) := by decide +kernel
theorem dL_law_382 : decode cL_law 382 = .ok (.iload 4, 2) := by decide +kernel
theorem dL_law_384 : decode cL_law 384 = .ok (.iconst 1, 1) := by decide +kernel
theorem dL_law_385 : decode cL_law 385 = .ok (.iadd, 1) := by decide +kernel
theorem dL_law_386 : decode cL_law 386 = .ok (.iaload, 1) := by decide +kernel
theorem dL_law_387 : decode cL_law 387 = .ok (.aload_n 0, 1) := by decide +kernel
theorem dL_law_388 : decode cL_law 388 = .ok (.iload 4, 2) := by decide +kernel
theorem dL_law_390 : decode cL_law 390 = .ok (.iconst 2, 1) := by decide +kernel
theorem dL_law_391 : decode cL_law 391 = .ok (.iadd, 1) := by decide +kernel
theorem dL_law_392 : decode cL_law 392 = .ok (.iaload, 1) := by decide +kernel
theorem dL_law_393 : decode cL_law 393 = .ok (.aload_n 3, 1) := by decide +kernel
theorem dL_law_394 : decode cL_law 394 = .ok (.invokestatic 100, 3) := by decide +kernel
theorem dL_law_397 : decode cL_law 397 = .ok (.istore 5, 2) := by decide +kernel
theorem dL_law_399 : decode cL_law 399 = .ok (.aload_n 2, 1) := by decide +kernel
theorem dL_law_400 : decode cL_law 400 = .ok (.aload_n 0, 1) := by decide +kernel
theorem dL_law_401 : decode cL_law 401 = .ok (.iload 4, 2) := by decide +kernel
theorem dL_law_403 : decode cL_law 403 = .ok (.iconst 1, 1) := by decide +kernel
theorem dL_law_404 : decode cL_law 404 = .ok (.iadd, 1) := by decide +kernel
theorem dL_law_405 : decode cL_law 405 = .ok (.iaload, 1) := by decide +kernel
theorem dL_law_406 : decode cL_law 406 = .ok (.aload_n 0, 1) := by decide +kernel
theorem dL_law_407 : decode cL_law 407 = .ok (.iload 4, 2) := by decide +kernel
theorem dL_law_409 : decode cL_law 409 = .ok (.iconst 2, 1) := by decide +kernel
theorem dL_law_410 : decode cL_law 410 = .ok (.iadd, 1) := by decide +kernel
theorem dL_law_411 : decode cL_law 411 = .ok (.iaload, 1) := by decide +kernel
theorem dL_law_412 : decode cL_law 412 = .ok (.invokevirtual 102, 3) := by decide +kernel
theorem dL_law_415 : decode cL_law 415 = .ok (.istore 6, 2) := by decide +kernel
theorem dL_law_417 : decode cL_law 417 = .ok (.aload_n 2, 1) := by decide +kernel
theorem dL_law_418 : decode cL_law 418 = .ok (.invokevirtual 90, 3) := by decide +kernel
theorem dL_law_421 : decode cL_law 421 = .ok (.iload 5, 2) := by decide +kernel
theorem dL_law_423 : decode cL_law 423 = .ok (.if_icmp .eq 5, 3) := by decide +kernel
theorem dL_law_426 : decode cL_law 426 = .ok (.iconst 0, 1) := by decide +kernel
theorem dL_law_427 : decode cL_law 427 = .ok (.ireturn, 1) := by decide +kernel
theorem dL_law_428 : decode cL_law 428 = .ok (.iload 5, 2) := by decide +kernel
theorem dL_law_430 : decode cL_law 430 = .ok (.ifCond .ne 15, 3) := by decide +kernel
theorem dL_law_433 : decode cL_law 433 = .ok (.aload_n 3, 1) := by decide +kernel
theorem dL_law_434 : decode cL_law 434 = .ok (.iconst 0, 1) := by decide +kernel
theorem dL_law_435 : decode cL_law 435 = .ok (.laload, 1) := by decide +kernel
theorem dL_law_436 : decode cL_law 436 = .ok (.iload 6, 2) := by decide +kernel
theorem dL_law_438 : decode cL_law 438 = .ok (.i2l, 1) := by decide +kernel
theorem dL_law_439 : decode cL_law 439 = .ok (.lcmp, 1) := by decide +kernel
theorem dL_law_440 : decode cL_law 440 = .ok (.ifCond .eq 5, 3) := by decide +kernel
theorem dL_law_443 : decode cL_law 443 = .ok (.iconst 0, 1) := by decide +kernel
theorem dL_law_444 : decode cL_law 444 = .ok (.ireturn, 1) := by decide +kernel
theorem dL_law_445 : decode cL_law 445 = .ok (.goto 1137, 3) := by decide +kernel
theorem dL_law_448 : decode cL_law 448 = .ok (.aload_n 1, 1) := by decide +kernel
theorem dL_law_449 : decode cL_law 449 = .ok (.aload_n 0, 1) := by decide +kernel
theorem dL_law_450 : decode cL_law 450 = .ok (.iload 4, 2) := by decide +kernel
theorem dL_law_452 : decode cL_law 452 = .ok (.iconst 1, 1) := by decide +kernel
theorem dL_law_453 : decode cL_law 453 = .ok (.iadd, 1) := by decide +kernel
theorem dL_law_454 : decode cL_law 454 = .ok (.iaload, 1) := by decide +kernel
theorem dL_law_455 : decode cL_law 455 = .ok (.aload_n 0, 1) := by decide +kernel
theorem dL_law_456 : decode cL_law 456 = .ok (.iload 4, 2) := by decide +kernel
theorem dL_law_458 : decode cL_law 458 = .ok (.iconst 2, 1) := by decide +kernel
theorem dL_law_459 : decode cL_law 459 = .ok (.iadd, 1) := by decide +kernel
theorem dL_law_460 : decode cL_law 460 = .ok (.iaload, 1) := by decide +kernel
theorem dL_law_461 : decode cL_law 461 = .ok (.aload_n 3, 1) := by decide +kernel
theorem dL_law_462 : decode cL_law 462 = .ok (.invokestatic 103, 3) := by decide +kernel
theorem dL_law_465 : decode cL_law 465 = .ok (.istore 5, 2) := by decide +kernel
theorem dL_law_467 : decode cL_law 467 = .ok (.aload_n 2, 1) := by decide +kernel
theorem dL_law_468 : decode cL_law 468 = .ok (.aload_n 0, 1) := by decide +kernel
theorem dL_law_469 : decode cL_law 469 = .ok (.iload 4, 2) := by decide +kernel
theorem dL_law_471 : decode cL_law 471 = .ok (.iconst 1, 1) := by decide +kernel
theorem dL_law_472 : decode cL_law 472 = .ok (.iadd, 1) := by decide +kernel
theorem dL_law_473 : decode cL_law 473 = .ok (.iaload, 1) := by decide +kernel
theorem dL_law_474 : decode cL_law 474 = .ok (.aload_n 0, 1) := by decide +kernel
theorem dL_law_475 : decode cL_law 475 = .ok (.iload 4, 2) := by decide +kernel
theorem dL_law_477 : decode cL_law 477 = .ok (.iconst 2, 1) := by decide +kernel
theorem dL_law_478 : decode cL_law 478 = .ok (.iadd, 1) := by decide +kernel
theorem dL_law_479 : decode cL_law 479 = .ok (.iaload, 1) := by decide +kernel
theorem dL_law_480 : decode cL_law 480 = .ok (.invokevirtual 105, 3) := by decide +kernel
theorem dL_law_483 : decode cL_law 483 = .ok (.istore 6, 2) := by decide +kernel
theorem dL_law_485 : decode cL_law 485 = .ok (.aload_n 2, 1) := by decide +kernel
theorem dL_law_486 : decode cL_law 486 = .ok (.invokevirtual 90, 3) := by decide +kernel
theorem dL_law_489 : decode cL_law 489 = .ok (.iload 5, 2) := by decide +kernel
theorem dL_law_491 : decode cL_law 491 = .ok (.if_icmp .eq 5, 3) := by decide +kernel
theorem dL_law_494 : decode cL_law 494 = .ok (.iconst 0, 1) := by decide +kernel
theorem dL_law_495 : decode cL_law 495 = .ok (.ireturn, 1) := by decide +kernel
theorem dL_law_496 : decode cL_law 496 = .ok (.iload 5, 2) := by decide +kernel
theorem dL_law_498 : decode cL_law 498 = .ok (.ifCond .ne 15, 3) := by decide +kernel
theorem dL_law_501 : decode cL_law 501 = .ok (.aload_n 3, 1) := by decide +kernel
theorem dL_law_502 : decode cL_law 502 = .ok (.iconst 0, 1) := by decide +kernel
theorem dL_law_503 : decode cL_law 503 = .ok (.laload, 1) := by decide +kernel
theorem dL_law_504 : decode cL_law 504 = .ok (.iload 6, 2) := by decide +kernel
theorem dL_law_506 : decode cL_law 506 = .ok (.i2l, 1) := by decide +kernel
theorem dL_law_507 : decode cL_law 507 = .ok (.lcmp, 1) := by decide +kernel
theorem dL_law_508 : decode cL_law 508 = .ok (.ifCond .eq 5, 3) := by decide +kernel
theorem dL_law_511 : decode cL_law 511 = .ok (.iconst 0, 1) := by decide +kernel
theorem dL_law_512 : decode cL_law 512 = .ok (.ireturn, 1) := by decide +kernel
theorem dL_law_513 : decode cL_law 513 = .ok (.goto 1069, 3) := by decide +kernel
theorem dL_law_516 : decode cL_law 516 = .ok (.aload_n 1, 1) := by decide +kernel
theorem dL_law_517 : decode cL_law 517 = .ok (.aload_n 0, 1) := by decide +kernel
theorem dL_law_518 : decode cL_law 518 = .ok (.iload 4, 2) := by decide +kernel
theorem dL_law_520 : decode cL_law 520 = .ok (.iconst 1, 1) := by decide +kernel
theorem dL_law_521 : decode cL_law 521 = .ok (.iadd, 1) := by decide +kernel
theorem dL_law_522 : decode cL_law 522 = .ok (.iaload, 1) := by decide +kernel
theorem dL_law_523 : decode cL_law 523 = .ok (.aload_n 0, 1) := by decide +kernel
theorem dL_law_524 : decode cL_law 524 = .ok (.iload 4, 2) := by decide +kernel
theorem dL_law_526 : decode cL_law 526 = .ok (.iconst 2, 1) := by decide +kernel
theorem dL_law_527 : decode cL_law 527 = .ok (.iadd, 1) := by decide +kernel
theorem dL_law_528 : decode cL_law 528 = .ok (.iaload, 1) := by decide +kernel
theorem dL_law_529 : decode cL_law 529 = .ok (.aload_n 3, 1) := by decide +kernel
theorem dL_law_530 : decode cL_law 530 = .ok (.invokestatic 106, 3) := by decide +kernel
theorem dL_law_533 : decode cL_law 533 = .ok (.istore 5, 2) := by decide +kernel
theorem dL_law_535 : decode cL_law 535 = .ok (.aload_n 2, 1) := by decide +kernel
theorem dL_law_536 : decode cL_law 536 = .ok (.aload_n 0, 1) := by decide +kernel
theorem dL_law_537 : decode cL_law 537 = .ok (.iload 4, 2) := by decide +kernel
theorem dL_law_539 : decode cL_law 539 = .ok (.iconst 1, 1) := by decide +kernel
theorem dL_law_540 : decode cL_law 540 = .ok (.iadd, 1) := by decide +kernel
theorem dL_law_541 : decode cL_law 541 = .ok (.iaload, 1) := by decide +kernel
theorem dL_law_542 : decode cL_law 542 = .ok (.aload_n 0, 1) := by decide +kernel
theorem dL_law_543 : decode cL_law 543 = .ok (.iload 4, 2) := by decide +kernel
theorem dL_law_545 : decode cL_law 545 = .ok (.iconst 2, 1) := by decide +kernel
theorem dL_law_546 : decode cL_law 546 = .ok (.iadd, 1) := by decide +kernel
theorem dL_law_547 : decode cL_law 547 = .ok (.iaload, 1) := by decide +kernel
theorem dL_law_548 : decode cL_law 548 = .ok (.invokevirtual 108, 3) := by decide +kernel
theorem dL_law_551 : decode cL_law 551 = .ok (.istore 6, 2) := by decide +kernel
theorem dL_law_553 : decode cL_law 553 = .ok (.aload_n 2, 1) := by decide +kernel
theorem dL_law_554 : decode cL_law 554 = .ok (.invokevirtual 90, 3) := by decide +kernel
theorem dL_law_557 : decode cL_law 557 = .ok (.iload 5, 2) := by decide +kernel
theorem dL_law_559 : decode cL_law 559 = .ok (.if_icmp .eq 5, 3) := by decide +kernel
theorem dL_law_562 : decode cL_law 562 = .ok (.iconst 0, 1) := by decide +kernel
theorem dL_law_563 : decode cL_law 563 = .ok (.ireturn, 1) := by decide +kernel
theorem dL_law_564 : decode cL_law 564 = .ok (.iload 5, 2) := by decide +kernel
theorem dL_law_566 : decode cL_law 566 = .ok (.ifCond .ne 15, 3) := by decide +kernel
theorem dL_law_569 : decode cL_law 569 = .ok (.aload_n 3, 1) := by decide +kernel
theorem dL_law_570 : decode cL_law 570 = .ok (.iconst 0, 1) := by decide +kernel
theorem dL_law_571 : decode cL_law 571 = .ok (.laload, 1) := by decide +kernel
theorem dL_law_572 : decode cL_law 572 = .ok (.iload 6, 2) := by decide +kernel
theorem dL_law_574 : decode cL_law 574 = .ok (.i2l, 1) := by decide +kernel
theorem dL_law_575 : decode cL_law 575 = .ok (.lcmp, 1) := by decide +kernel
theorem dL_law_576 : decode cL_law 576 = .ok (.ifCond .eq 5, 3) := by decide +kernel
theorem dL_law_579 : decode cL_law 579 = .ok (.iconst 0, 1) := by decide +kernel
theorem dL_law_580 : decode cL_law 580 = .ok (.ireturn, 1) := by decide +kernel
theorem dL_law_581 : decode cL_law 581 = .ok (.goto 1001, 3) := by decide +kernel
theorem dL_law_584 : decode cL_law 584 = .ok (.aload_n 1, 1) := by decide +kernel
theorem dL_law_585 : decode cL_law 585 = .ok (.aload_n 0, 1) := by decide +kernel
theorem dL_law_586 : decode cL_law 586 = .ok (.iload 4, 2) := by decide +kernel
theorem dL_law_588 : decode cL_law 588 = .ok (.iconst 1, 1) := by decide +kernel
theorem dL_law_589 : decode cL_law 589 = .ok (.iadd, 1) := by decide +kernel
theorem dL_law_590 : decode cL_law 590 = .ok (.iaload, 1) := by decide +kernel
theorem dL_law_591 : decode cL_law 591 = .ok (.aload_n 3, 1) := by decide +kernel
theorem dL_law_592 : decode cL_law 592 = .ok (.invokestatic 109, 3) := by decide +kernel
theorem dL_law_595 : decode cL_law 595 = .ok (.istore 5, 2) := by decide +kernel
theorem dL_law_597 : decode cL_law 597 = .ok (.aload_n 2, 1) := by decide +kernel
theorem dL_law_598 : decode cL_law 598 = .ok (.aload_n 0, 1) := by decide +kernel
theorem dL_law_599 : decode cL_law 599 = .ok (.iload 4, 2) := by decide +kernel
theorem dL_law_601 : decode cL_law 601 = .ok (.iconst 1, 1) := by decide +kernel
theorem dL_law_602 : decode cL_law 602 = .ok (.iadd, 1) := by decide +kernel
theorem dL_law_603 : decode cL_law 603 = .ok (.iaload, 1) := by decide +kernel
theorem dL_law_604 : decode cL_law 604 = .ok (.invokevirtual 112, 3) := by decide +kernel
theorem dL_law_607 : decode cL_law 607 = .ok (.istore 6, 2) := by decide +kernel
theorem dL_law_609 : decode cL_law 609 = .ok (.aload_n 2, 1) := by decide +kernel
theorem dL_law_610 : decode cL_law 610 = .ok (.invokevirtual 90, 3) := by decide +kernel
theorem dL_law_613 : decode cL_law 613 = .ok (.iload 5, 2) := by decide +kernel
theorem dL_law_615 : decode cL_law 615 = .ok (.if_icmp .eq 5, 3) := by decide +kernel
theorem dL_law_618 : decode cL_law 618 = .ok (.iconst 0, 1) := by decide +kernel
theorem dL_law_619 : decode cL_law 619 = .ok (.ireturn, 1) := by decide +kernel
theorem dL_law_620 : decode cL_law 620 = .ok (.iload 5, 2) := by decide +kernel
theorem dL_law_622 : decode cL_law 622 = .ok (.ifCond .ne 15, 3) := by decide +kernel
theorem dL_law_625 : decode cL_law 625 = .ok (.aload_n 3, 1) := by decide +kernel
theorem dL_law_626 : decode cL_law 626 = .ok (.iconst 0, 1) := by decide +kernel
theorem dL_law_627 : decode cL_law 627 = .ok (.laload, 1) := by decide +kernel
theorem dL_law_628 : decode cL_law 628 = .ok (.iload 6, 2) := by decide +kernel
theorem dL_law_630 : decode cL_law 630 = .ok (.i2l, 1) := by decide +kernel
theorem dL_law_631 : decode cL_law 631 = .ok (.lcmp, 1) := by decide +kernel
theorem dL_law_632 : decode cL_law 632 = .ok (.ifCond .eq 5, 3) := by decide +kernel
theorem dL_law_635 : decode cL_law 635 = .ok (.iconst 0, 1) := by decide +kernel
theorem dL_law_636 : decode cL_law 636 = .ok (.ireturn, 1) := by decide +kernel
theorem dL_law_637 : decode cL_law 637 = .ok (.goto 945, 3) := by decide +kernel
theorem dL_law_640 : decode cL_law 640 = .ok (.aload_n 1, 1) := by decide +kernel
theorem dL_law_641 : decode cL_law 641 = .ok (.aload_n 0, 1) := by decide +kernel
theorem dL_law_642 : decode cL_law 642 = .ok (.iload 4, 2) := by decide +kernel
theorem dL_law_644 : decode cL_law 644 = .ok (.iconst 1, 1) := by decide +kernel
theorem dL_law_645 : decode cL_law 645 = .ok (.iadd, 1) := by decide +kernel
theorem dL_law_646 : decode cL_law 646 = .ok (.iaload, 1) := by decide +kernel
theorem dL_law_647 : decode cL_law 647 = .ok (.aload_n 3, 1) := by decide +kernel
theorem dL_law_648 : decode cL_law 648 = .ok (.invokestatic 113, 3) := by decide +kernel
theorem dL_law_651 : decode cL_law 651 = .ok (.istore 5, 2) := by decide +kernel
theorem dL_law_653 : decode cL_law 653 = .ok (.aload_n 2, 1) := by decide +kernel
theorem dL_law_654 : decode cL_law 654 = .ok (.aload_n 0, 1) := by decide +kernel
theorem dL_law_655 : decode cL_law 655 = .ok (.iload 4, 2) := by decide +kernel
theorem dL_law_657 : decode cL_law 657 = .ok (.iconst 1, 1) := by decide +kernel
theorem dL_law_658 : decode cL_law 658 = .ok (.iadd, 1) := by decide +kernel
theorem dL_law_659 : decode cL_law 659 = .ok (.iaload, 1) := by decide +kernel
theorem dL_law_660 : decode cL_law 660 = .ok (.invokevirtual 115, 3) := by decide +kernel
theorem dL_law_663 : decode cL_law 663 = .ok (.istore 6, 2) := by decide +kernel
theorem dL_law_665 : decode cL_law 665 = .ok (.aload_n 2, 1) := by decide +kernel
theorem dL_law_666 : decode cL_law 666 = .ok (.invokevirtual 90, 3) := by decide +kernel
theorem dL_law_669 : decode cL_law 669 = .ok (.iload 5, 2) := by decide +kernel
theorem dL_law_671 : decode cL_law 671 = .ok (.if_icmp .eq 5, 3) := by decide +kernel
theorem dL_law_674 : decode cL_law 674 = .ok (.iconst 0, 1) := by decide +kernel
theorem dL_law_675 : decode cL_law 675 = .ok (.ireturn, 1) := by decide +kernel
theorem dL_law_676 : decode cL_law 676 = .ok (.iload 5, 2) := by decide +kernel
theorem dL_law_678 : decode cL_law 678 = .ok (.ifCond .ne 15, 3) := by decide +kernel
theorem dL_law_681 : decode cL_law 681 = .ok (.aload_n 3, 1) := by decide +kernel
theorem dL_law_682 : decode cL_law 682 = .ok (.iconst 0, 1) := by decide +kernel
theorem dL_law_683 : decode cL_law 683 = .ok (.laload, 1) := by decide +kernel
theorem dL_law_684 : decode cL_law 684 = .ok (.iload 6, 2) := by decide +kernel
theorem dL_law_686 : decode cL_law 686 = .ok (.i2l, 1) := by decide +kernel
theorem dL_law_687 : decode cL_law 687 = .ok (.lcmp, 1) := by decide +kernel
theorem dL_law_688 : decode cL_law 688 = .ok (.ifCond .eq 5, 3) := by decide +kernel
theorem dL_law_691 : decode cL_law 691 = .ok (.iconst 0, 1) := by decide +kernel
theorem dL_law_692 : decode cL_law 692 = .ok (.ireturn, 1) := by decide +kernel
theorem dL_law_693 : decode cL_law 693 = .ok (.goto 889, 3) := by decide +kernel
theorem dL_law_696 : decode cL_law 696 = .ok (.aload_n 1, 1) := by decide +kernel
theorem dL_law_697 : decode cL_law 697 = .ok (.invokevirtual 116, 3) := by decide +kernel
theorem dL_law_700 : decode cL_law 700 = .ok (.aload_n 2, 1) := by decide +kernel
theorem dL_law_701 : decode cL_law 701 = .ok (.invokevirtual 119, 3) := by decide +kernel
theorem dL_law_704 : decode cL_law 704 = .ok (.if_icmp .eq 878, 3) := by decide +kernel
theorem dL_law_707 : decode cL_law 707 = .ok (.iconst 0, 1) := by decide +kernel
theorem dL_law_708 : decode cL_law 708 = .ok (.ireturn, 1) := by decide +kernel
theorem dL_law_709 : decode cL_law 709 = .ok (.aload_n 1, 1) := by decide +kernel
theorem dL_law_710 : decode cL_law 710 = .ok (.invokevirtual 120, 3) := by decide +kernel
theorem dL_law_713 : decode cL_law 713 = .ok (.aload_n 2, 1) := by decide +kernel
theorem dL_law_714 : decode cL_law 714 = .ok (.invokevirtual 123, 3) := by decide +kernel
theorem dL_law_717 : decode cL_law 717 = .ok (.if_icmp .eq 865, 3) := by decide +kernel
theorem dL_law_720 : decode cL_law 720 = .ok (.iconst 0, 1) := by decide +kernel
theorem dL_law_721 : decode cL_law 721 = .ok (.ireturn, 1) := by decide +kernel
theorem dL_law_722 : decode cL_law 722 = .ok (.aload_n 1, 1) := by decide +kernel
theorem dL_law_723 : decode cL_law 723 = .ok (.aload_n 3, 1) := by decide +kernel
theorem dL_law_724 : decode cL_law 724 = .ok (.invokestatic 124, 3) := by decide +kernel
theorem dL_law_727 : decode cL_law 727 = .ok (.istore 5, 2) := by decide +kernel
theorem dL_law_729 : decode cL_law 729 = .ok (.aload_n 2, 1) := by decide +kernel
theorem dL_law_730 : decode cL_law 730 = .ok (.invokevirtual 127, 3) := by decide +kernel
theorem dL_law_733 : decode cL_law 733 = .ok (.istore 6, 2) := by decide +kernel
theorem dL_law_735 : decode cL_law 735 = .ok (.aload_n 2, 1) := by decide +kernel
theorem dL_law_736 : decode cL_law 736 = .ok (.invokevirtual 90, 3) := by decide +kernel
theorem dL_law_739 : decode cL_law 739 = .ok (.iload 5, 2) := by decide +kernel
theorem dL_law_741 : decode cL_law 741 = .ok (.if_icmp .eq 5, 3) := by decide +kernel
theorem dL_law_744 : decode cL_law 744 = .ok (.iconst 0, 1) := by decide +kernel
theorem dL_law_745 : decode cL_law 745 = .ok (.ireturn, 1) := by decide +kernel
theorem dL_law_746 : decode cL_law 746 = .ok (.iload 5, 2) := by decide +kernel
theorem dL_law_748 : decode cL_law 748 = .ok (.ifCond .ne 15, 3) := by decide +kernel
theorem dL_law_751 : decode cL_law 751 = .ok (.aload_n 3, 1) := by decide +kernel
theorem dL_law_752 : decode cL_law 752 = .ok (.iconst 0, 1) := by decide +kernel
theorem dL_law_753 : decode cL_law 753 = .ok (.laload, 1) := by decide +kernel
theorem dL_law_754 : decode cL_law 754 = .ok (.iload 6, 2) := by decide +kernel
theorem dL_law_756 : decode cL_law 756 = .ok (.i2l, 1) := by decide +kernel
theorem dL_law_757 : decode cL_law 757 = .ok (.lcmp, 1) := by decide +kernel
theorem dL_law_758 : decode cL_law 758 = .ok (.ifCond .eq 5, 3) := by decide +kernel
theorem dL_law_761 : decode cL_law 761 = .ok (.iconst 0, 1) := by decide +kernel
theorem dL_law_762 : decode cL_law 762 = .ok (.ireturn, 1) := by decide +kernel
theorem dL_law_763 : decode cL_law 763 = .ok (.goto 819, 3) := by decide +kernel
theorem dL_law_766 : decode cL_law 766 = .ok (.aload_n 1, 1) := by decide +kernel
theorem dL_law_767 : decode cL_law 767 = .ok (.aload_n 0, 1) := by decide +kernel
theorem dL_law_768 : decode cL_law 768 = .ok (.iload 4, 2) := by decide +kernel
theorem dL_law_770 : decode cL_law 770 = .ok (.iconst 1, 1) := by decide +kernel
theorem dL_law_771 : decode cL_law 771 = .ok (.iadd, 1) := by decide +kernel
theorem dL_law_772 : decode cL_law 772 = .ok (.iaload, 1) := by decide +kernel
theorem dL_law_773 : decode cL_law 773 = .ok (.aload_n 3, 1) := by decide +kernel
theorem dL_law_774 : decode cL_law 774 = .ok (.invokestatic 128, 3) := by decide +kernel
theorem dL_law_777 : decode cL_law 777 = .ok (.istore 5, 2) := by decide +kernel
theorem dL_law_779 : decode cL_law 779 = .ok (.aload_n 2, 1) := by decide +kernel
theorem dL_law_780 : decode cL_law 780 = .ok (.aload_n 0, 1) := by decide +kernel
theorem dL_law_781 : decode cL_law 781 = .ok (.iload 4, 2) := by decide +kernel
theorem dL_law_783 : decode cL_law 783 = .ok (.iconst 1, 1) := by decide +kernel
theorem dL_law_784 : decode cL_law 784 = .ok (.iadd, 1) := by decide +kernel
theorem dL_law_785 : decode cL_law 785 = .ok (.iaload, 1) := by decide +kernel
theorem dL_law_786 : decode cL_law 786 = .ok (.invokevirtual 130, 3) := by decide +kernel
theorem dL_law_789 : decode cL_law 789 = .ok (.istore 6, 2) := by decide +kernel
theorem dL_law_791 : decode cL_law 791 = .ok (.aload_n 2, 1) := by decide +kernel
theorem dL_law_792 : decode cL_law 792 = .ok (.invokevirtual 90, 3) := by decide +kernel
theorem dL_law_795 : decode cL_law 795 = .ok (.iload 5, 2) := by decide +kernel
theorem dL_law_797 : decode cL_law 797 = .ok (.if_icmp .eq 5, 3) := by decide +kernel
theorem dL_law_800 : decode cL_law 800 = .ok (.iconst 0, 1) := by decide +kernel
theorem dL_law_801 : decode cL_law 801 = .ok (.ireturn, 1) := by decide +kernel
theorem dL_law_802 : decode cL_law 802 = .ok (.iload 5, 2) := by decide +kernel
theorem dL_law_804 : decode cL_law 804 = .ok (.ifCond .ne 15, 3) := by decide +kernel
theorem dL_law_807 : decode cL_law 807 = .ok (.aload_n 3, 1) := by decide +kernel
theorem dL_law_808 : decode cL_law 808 = .ok (.iconst 0, 1) := by decide +kernel
theorem dL_law_809 : decode cL_law 809 = .ok (.laload, 1) := by decide +kernel
theorem dL_law_810 : decode cL_law 810 = .ok (.iload 6, 2) := by decide +kernel
theorem dL_law_812 : decode cL_law 812 = .ok (.i2l, 1) := by decide +kernel
theorem dL_law_813 : decode cL_law 813 = .ok (.lcmp, 1) := by decide +kernel
theorem dL_law_814 : decode cL_law 814 = .ok (.ifCond .eq 5, 3) := by decide +kernel
theorem dL_law_817 : decode cL_law 817 = .ok (.iconst 0, 1) := by decide +kernel
theorem dL_law_818 : decode cL_law 818 = .ok (.ireturn, 1) := by decide +kernel
theorem dL_law_819 : decode cL_law 819 = .ok (.goto 763, 3) := by decide +kernel
theorem dL_law_822 : decode cL_law 822 = .ok (.aload_n 1, 1) := by decide +kernel
theorem dL_law_823 : decode cL_law 823 = .ok (.aload_n 3, 1) := by decide +kernel
theorem dL_law_824 : decode cL_law 824 = .ok (.invokestatic 131, 3) := by decide +kernel
theorem dL_law_827 : decode cL_law 827 = .ok (.istore 5, 2) := by decide +kernel
theorem dL_law_829 : decode cL_law 829 = .ok (.aload_n 2, 1) := by decide +kernel
theorem dL_law_830 : decode cL_law 830 = .ok (.invokevirtual 133, 3) := by decide +kernel
theorem dL_law_833 : decode cL_law 833 = .ok (.istore 6, 2) := by decide +kernel
theorem dL_law_835 : decode cL_law 835 = .ok (.aload_n 2, 1) := by decide +kernel
theorem dL_law_836 : decode cL_law 836 = .ok (.invokevirtual 90, 3) := by decide +kernel
theorem dL_law_839 : decode cL_law 839 = .ok (.iload 5, 2) := by decide +kernel
theorem dL_law_841 : decode cL_law 841 = .ok (.if_icmp .eq 5, 3) := by decide +kernel
theorem dL_law_844 : decode cL_law 844 = .ok (.iconst 0, 1) := by decide +kernel
theorem dL_law_845 : decode cL_law 845 = .ok (.ireturn, 1) := by decide +kernel
theorem dL_law_846 : decode cL_law 846 = .ok (.iload 5, 2) := by decide +kernel
theorem dL_law_848 : decode cL_law 848 = .ok (.ifCond .ne 15, 3) := by decide +kernel
theorem dL_law_851 : decode cL_law 851 = .ok (.aload_n 3, 1) := by decide +kernel
theorem dL_law_852 : decode cL_law 852 = .ok (.iconst 0, 1) := by decide +kernel
theorem dL_law_853 : decode cL_law 853 = .ok (.laload, 1) := by decide +kernel
theorem dL_law_854 : decode cL_law 854 = .ok (.iload 6, 2) := by decide +kernel
theorem dL_law_856 : decode cL_law 856 = .ok (.i2l, 1) := by decide +kernel
theorem dL_law_857 : decode cL_law 857 = .ok (.lcmp, 1) := by decide +kernel
theorem dL_law_858 : decode cL_law 858 = .ok (.ifCond .eq 5, 3) := by decide +kernel
theorem dL_law_861 : decode cL_law 861 = .ok (.iconst 0, 1) := by decide +kernel
theorem dL_law_862 : decode cL_law 862 = .ok (.ireturn, 1) := by decide +kernel
theorem dL_law_863 : decode cL_law 863 = .ok (.goto 719, 3) := by decide +kernel
theorem dL_law_866 : decode cL_law 866 = .ok (.aload_n 1, 1) := by decide +kernel
theorem dL_law_867 : decode cL_law 867 = .ok (.invokevirtual 134, 3) := by decide +kernel
theorem dL_law_870 : decode cL_law 870 = .ok (.aload_n 2, 1) := by decide +kernel
theorem dL_law_871 : decode cL_law 871 = .ok (.invokevirtual 137, 3) := by decide +kernel
theorem dL_law_874 : decode cL_law 874 = .ok (.if_icmp .eq 708, 3) := by decide +kernel
theorem dL_law_877 : decode cL_law 877 = .ok (.iconst 0, 1) := by decide +kernel
theorem dL_law_878 : decode cL_law 878 = .ok (.ireturn, 1) := by decide +kernel
theorem dL_law_879 : decode cL_law 879 = .ok (.aload_n 1, 1) := by decide +kernel
theorem dL_law_880 : decode cL_law 880 = .ok (.aload_n 3, 1) := by decide +kernel
theorem dL_law_881 : decode cL_law 881 = .ok (.invokestatic 138, 3) := by decide +kernel
theorem dL_law_884 : decode cL_law 884 = .ok (.istore 5, 2) := by decide +kernel
theorem dL_law_886 : decode cL_law 886 = .ok (.aload_n 2, 1) := by decide +kernel
theorem dL_law_887 : decode cL_law 887 = .ok (.invokevirtual 140, 3) := by decide +kernel
theorem dL_law_890 : decode cL_law 890 = .ok (.istore 6, 2) := by decide +kernel
theorem dL_law_892 : decode cL_law 892 = .ok (.aload_n 2, 1) := by decide +kernel
theorem dL_law_893 : decode cL_law 893 = .ok (.invokevirtual 90, 3) := by decide +kernel
theorem dL_law_896 : decode cL_law 896 = .ok (.iload 5, 2) := by decide +kernel
theorem dL_law_898 : decode cL_law 898 = .ok (.if_icmp .eq 5, 3) := by decide +kernel
theorem dL_law_901 : decode cL_law 901 = .ok (.iconst 0, 1) := by decide +kernel
theorem dL_law_902 : decode cL_law 902 = .ok (.ireturn, 1) := by decide +kernel
theorem dL_law_903 : decode cL_law 903 = .ok (.iload 5, 2) := by decide +kernel
theorem dL_law_905 : decode cL_law 905 = .ok (.ifCond .ne 15, 3) := by decide +kernel
theorem dL_law_908 : decode cL_law 908 = .ok (.aload_n 3, 1) := by decide +kernel
theorem dL_law_909 : decode cL_law 909 = .ok (.iconst 0, 1) := by decide +kernel
theorem dL_law_910 : decode cL_law 910 = .ok (.laload, 1) := by decide +kernel
theorem dL_law_911 : decode cL_law 911 = .ok (.iload 6, 2) := by decide +kernel
theorem dL_law_913 : decode cL_law 913 = .ok (.i2l, 1) := by decide +kernel
theorem dL_law_914 : decode cL_law 914 = .ok (.lcmp, 1) := by decide +kernel
theorem dL_law_915 : decode cL_law 915 = .ok (.ifCond .eq 5, 3) := by decide +kernel
theorem dL_law_918 : decode cL_law 918 = .ok (.iconst 0, 1) := by decide +kernel
theorem dL_law_919 : decode cL_law 919 = .ok (.ireturn, 1) := by decide +kernel
theorem dL_law_920 : decode cL_law 920 = .ok (.goto 662, 3) := by decide +kernel
theorem dL_law_923 : decode cL_law 923 = .ok (.aload_n 1, 1) := by decide +kernel
theorem dL_law_924 : decode cL_law 924 = .ok (.aload_n 0, 1) := by decide +kernel
theorem dL_law_925 : decode cL_law 925 = .ok (.iload 4, 2) := by decide +kernel
theorem dL_law_927 : decode cL_law 927 = .ok (.iconst 1, 1) := by decide +kernel
theorem dL_law_928 : decode cL_law 928 = .ok (.iadd, 1) := by decide +kernel
theorem dL_law_929 : decode cL_law 929 = .ok (.iaload, 1) := by decide +kernel
theorem dL_law_930 : decode cL_law 930 = .ok (.aload_n 0, 1) := by decide +kernel
theorem dL_law_931 : decode cL_law 931 = .ok (.iload 4, 2) := by decide +kernel
theorem dL_law_933 : decode cL_law 933 = .ok (.iconst 2, 1) := by decide +kernel
theorem dL_law_934 : decode cL_law 934 = .ok (.iadd, 1) := by decide +kernel
theorem dL_law_935 : decode cL_law 935 = .ok (.iaload, 1) := by decide +kernel
theorem dL_law_936 : decode cL_law 936 = .ok (.aload_n 0, 1) := by decide +kernel
theorem dL_law_937 : decode cL_law 937 = .ok (.iload 4, 2) := by decide +kernel
theorem dL_law_939 : decode cL_law 939 = .ok (.iconst 3, 1) := by decide +kernel
theorem dL_law_940 : decode cL_law 940 = .ok (.iadd, 1) := by decide +kernel
theorem dL_law_941 : decode cL_law 941 = .ok (.iaload, 1) := by decide +kernel
theorem dL_law_942 : decode cL_law 942 = .ok (.aload_n 3, 1) := by decide +kernel
theorem dL_law_943 : decode cL_law 943 = .ok (.invokestatic 141, 3) := by decide +kernel
theorem dL_law_946 : decode cL_law 946 = .ok (.istore 5, 2) := by decide +kernel
theorem dL_law_948 : decode cL_law 948 = .ok (.aload_n 2, 1) := by decide +kernel
theorem dL_law_949 : decode cL_law 949 = .ok (.aload_n 0, 1) := by decide +kernel
theorem dL_law_950 : decode cL_law 950 = .ok (.iload 4, 2) := by decide +kernel
theorem dL_law_952 : decode cL_law 952 = .ok (.iconst 1, 1) := by decide +kernel
theorem dL_law_953 : decode cL_law 953 = .ok (.iadd, 1) := by decide +kernel
theorem dL_law_954 : decode cL_law 954 = .ok (.iaload, 1) := by decide +kernel
theorem dL_law_955 : decode cL_law 955 = .ok (.aload_n 0, 1) := by decide +kernel
theorem dL_law_956 : decode cL_law 956 = .ok (.iload 4, 2) := by decide +kernel
theorem dL_law_958 : decode cL_law 958 = .ok (.iconst 2, 1) := by decide +kernel
theorem dL_law_959 : decode cL_law 959 = .ok (.iadd, 1) := by decide +kernel
theorem dL_law_960 : decode cL_law 960 = .ok (.iaload, 1) := by decide +kernel
theorem dL_law_961 : decode cL_law 961 = .ok (.aload_n 0, 1) := by decide +kernel
theorem dL_law_962 : decode cL_law 962 = .ok (.iload 4, 2) := by decide +kernel
theorem dL_law_964 : decode cL_law 964 = .ok (.iconst 3, 1) := by decide +kernel
theorem dL_law_965 : decode cL_law 965 = .ok (.iadd, 1) := by decide +kernel
theorem dL_law_966 : decode cL_law 966 = .ok (.iaload, 1) := by decide +kernel
theorem dL_law_967 : decode cL_law 967 = .ok (.invokevirtual 144, 3) := by decide +kernel
theorem dL_law_970 : decode cL_law 970 = .ok (.istore 6, 2) := by decide +kernel
theorem dL_law_972 : decode cL_law 972 = .ok (.aload_n 2, 1) := by decide +kernel
theorem dL_law_973 : decode cL_law 973 = .ok (.invokevirtual 90, 3) := by decide +kernel
theorem dL_law_976 : decode cL_law 976 = .ok (.iload 5, 2) := by decide +kernel
theorem dL_law_978 : decode cL_law 978 = .ok (.if_icmp .eq 5, 3) := by decide +kernel
theorem dL_law_981 : decode cL_law 981 = .ok (.iconst 0, 1) := by decide +kernel
theorem dL_law_982 : decode cL_law 982 = .ok (.ireturn, 1) := by decide +kernel
theorem dL_law_983 : decode cL_law 983 = .ok (.iload 5, 2) := by decide +kernel
theorem dL_law_985 : decode cL_law 985 = .ok (.ifCond .ne 15, 3) := by decide +kernel
theorem dL_law_988 : decode cL_law 988 = .ok (.aload_n 3, 1) := by decide +kernel
theorem dL_law_989 : decode cL_law 989 = .ok (.iconst 0, 1) := by decide +kernel
theorem dL_law_990 : decode cL_law 990 = .ok (.laload, 1) := by decide +kernel
theorem dL_law_991 : decode cL_law 991 = .ok (.iload 6, 2) := by decide +kernel
theorem dL_law_993 : decode cL_law 993 = .ok (.i2l, 1) := by decide +kernel
theorem dL_law_994 : decode cL_law 994 = .ok (.lcmp, 1) := by decide +kernel
theorem dL_law_995 : decode cL_law 995 = .ok (.ifCond .eq 5, 3) := by decide +kernel
theorem dL_law_998 : decode cL_law 998 = .ok (.iconst 0, 1) := by decide +kernel
theorem dL_law_999 : decode cL_law 999 = .ok (.ireturn, 1) := by decide +kernel
theorem dL_law_1000 : decode cL_law 1000 = .ok (.goto 582, 3) := by decide +kernel
theorem dL_law_1003 : decode cL_law 1003 = .ok (.aload_n 1, 1) := by decide +kernel
theorem dL_law_1004 : decode cL_law 1004 = .ok (.aload_n 0, 1) := by decide +kernel
theorem dL_law_1005 : decode cL_law 1005 = .ok (.iload 4, 2) := by decide +kernel
theorem dL_law_1007 : decode cL_law 1007 = .ok (.iconst 1, 1) := by decide +kernel
theorem dL_law_1008 : decode cL_law 1008 = .ok (.iadd, 1) := by decide +kernel
theorem dL_law_1009 : decode cL_law 1009 = .ok (.iaload, 1) := by decide +kernel
theorem dL_law_1010 : decode cL_law 1010 = .ok (.aload_n 0, 1) := by decide +kernel
theorem dL_law_1011 : decode cL_law 1011 = .ok (.iload 4, 2) := by decide +kernel
theorem dL_law_1013 : decode cL_law 1013 = .ok (.iconst 2, 1) := by decide +kernel
theorem dL_law_1014 : decode cL_law 1014 = .ok (.iadd, 1) := by decide +kernel
theorem dL_law_1015 : decode cL_law 1015 = .ok (.iaload, 1) := by decide +kernel
theorem dL_law_1016 : decode cL_law 1016 = .ok (.aload_n 3, 1) := by decide +kernel
theorem dL_law_1017 : decode cL_law 1017 = .ok (.invokestatic 145, 3) := by decide +kernel
theorem dL_law_1020 : decode cL_law 1020 = .ok (.istore 5, 2) := by decide +kernel
theorem dL_law_1022 : decode cL_law 1022 = .ok (.aload_n 2, 1) := by decide +kernel
theorem dL_law_1023 : decode cL_law 1023 = .ok (.aload_n 0, 1) := by decide +kernel
theorem dL_law_1024 : decode cL_law 1024 = .ok (.iload 4, 2) := by decide +kernel
theorem dL_law_1026 : decode cL_law 1026 = .ok (.iconst 1, 1) := by decide +kernel
theorem dL_law_1027 : decode cL_law 1027 = .ok (.iadd, 1) := by decide +kernel
theorem dL_law_1028 : decode cL_law 1028 = .ok (.iaload, 1) := by decide +kernel
theorem dL_law_1029 : decode cL_law 1029 = .ok (.aload_n 0, 1) := by decide +kernel
theorem dL_law_1030 : decode cL_law 1030 = .ok (.iload 4, 2) := by decide +kernel
theorem dL_law_1032 : decode cL_law 1032 = .ok (.iconst 2, 1) := by decide +kernel
theorem dL_law_1033 : decode cL_law 1033 = .ok (.iadd, 1) := by decide +kernel
theorem dL_law_1034 : decode cL_law 1034 = .ok (.iaload, 1) := by decide +kernel
theorem dL_law_1035 : decode cL_law 1035 = .ok (.invokevirtual 147, 3) := by decide +kernel
theorem dL_law_1038 : decode cL_law 1038 = .ok (.istore 6, 2) := by decide +kernel
theorem dL_law_1040 : decode cL_law 1040 = .ok (.aload_n 2, 1) := by decide +kernel
theorem dL_law_1041 : decode cL_law 1041 = .ok (.invokevirtual 90, 3) := by decide +kernel
theorem dL_law_1044 : decode cL_law 1044 = .ok (.iload 5, 2) := by decide +kernel
theorem dL_law_1046 : decode cL_law 1046 = .ok (.if_icmp .eq 5, 3) := by decide +kernel
theorem dL_law_1049 : decode cL_law 1049 = .ok (.iconst 0, 1) := by decide +kernel
theorem dL_law_1050 : decode cL_law 1050 = .ok (.ireturn, 1) := by decide +kernel
theorem dL_law_1051 : decode cL_law 1051 = .ok (.iload 5, 2) := by decide +kernel
theorem dL_law_1053 : decode cL_law 1053 = .ok (.ifCond .ne 15, 3) := by decide +kernel
theorem dL_law_1056 : decode cL_law 1056 = .ok (.aload_n 3, 1) := by decide +kernel
theorem dL_law_1057 : decode cL_law 1057 = .ok (.iconst 0, 1) := by decide +kernel
theorem dL_law_1058 : decode cL_law 1058 = .ok (.laload, 1) := by decide +kernel
theorem dL_law_1059 : decode cL_law 1059 = .ok (.iload 6, 2) := by decide +kernel
theorem dL_law_1061 : decode cL_law 1061 = .ok (.i2l, 1) := by decide +kernel
theorem dL_law_1062 : decode cL_law 1062 = .ok (.lcmp, 1) := by decide +kernel
theorem dL_law_1063 : decode cL_law 1063 = .ok (.ifCond .eq 5, 3) := by decide +kernel
theorem dL_law_1066 : decode cL_law 1066 = .ok (.iconst 0, 1) := by decide +kernel
theorem dL_law_1067 : decode cL_law 1067 = .ok (.ireturn, 1) := by decide +kernel
theorem dL_law_1068 : decode cL_law 1068 = .ok (.goto 514, 3) := by decide +kernel
theorem dL_law_1071 : decode cL_law 1071 = .ok (.aload_n 1, 1) := by decide +kernel
theorem dL_law_1072 : decode cL_law 1072 = .ok (.aload_n 0, 1) := by decide +kernel
theorem dL_law_1073 : decode cL_law 1073 = .ok (.iload 4, 2) := by decide +kernel
theorem dL_law_1075 : decode cL_law 1075 = .ok (.iconst 1, 1) := by decide +kernel
theorem dL_law_1076 : decode cL_law 1076 = .ok (.iadd, 1) := by decide +kernel
theorem dL_law_1077 : decode cL_law 1077 = .ok (.iaload, 1) := by decide +kernel
theorem dL_law_1078 : decode cL_law 1078 = .ok (.aload_n 0, 1) := by decide +kernel
theorem dL_law_1079 : decode cL_law 1079 = .ok (.iload 4, 2) := by decide +kernel
theorem dL_law_1081 : decode cL_law 1081 = .ok (.iconst 2, 1) := by decide +kernel
theorem dL_law_1082 : decode cL_law 1082 = .ok (.iadd, 1) := by decide +kernel
theorem dL_law_1083 : decode cL_law 1083 = .ok (.iaload, 1) := by decide +kernel
theorem dL_law_1084 : decode cL_law 1084 = .ok (.aload_n 3, 1) := by decide +kernel
theorem dL_law_1085 : decode cL_law 1085 = .ok (.invokestatic 148, 3) := by decide +kernel
theorem dL_law_1088 : decode cL_law 1088 = .ok (.istore 5, 2) := by decide +kernel
theorem dL_law_1090 : decode cL_law 1090 = .ok (.aload_n 2, 1) := by decide +kernel
theorem dL_law_1091 : decode cL_law 1091 = .ok (.aload_n 0, 1) := by decide +kernel
theorem dL_law_1092 : decode cL_law 1092 = .ok (.iload 4, 2) := by decide +kernel
theorem dL_law_1094 : decode cL_law 1094 = .ok (.iconst 1, 1) := by decide +kernel
theorem dL_law_1095 : decode cL_law 1095 = .ok (.iadd, 1) := by decide +kernel
theorem dL_law_1096 : decode cL_law 1096 = .ok (.iaload, 1) := by decide +kernel
theorem dL_law_1097 : decode cL_law 1097 = .ok (.aload_n 0, 1) := by decide +kernel
theorem dL_law_1098 : decode cL_law 1098 = .ok (.iload 4, 2) := by decide +kernel
theorem dL_law_1100 : decode cL_law 1100 = .ok (.iconst 2, 1) := by decide +kernel
theorem dL_law_1101 : decode cL_law 1101 = .ok (.iadd, 1) := by decide +kernel
theorem dL_law_1102 : decode cL_law 1102 = .ok (.iaload, 1) := by decide +kernel
theorem dL_law_1103 : decode cL_law 1103 = .ok (.invokevirtual 150, 3) := by decide +kernel
theorem dL_law_1106 : decode cL_law 1106 = .ok (.istore 6, 2) := by decide +kernel
theorem dL_law_1108 : decode cL_law 1108 = .ok (.aload_n 2, 1) := by decide +kernel
theorem dL_law_1109 : decode cL_law 1109 = .ok (.invokevirtual 90, 3) := by decide +kernel
theorem dL_law_1112 : decode cL_law 1112 = .ok (.iload 5, 2) := by decide +kernel
theorem dL_law_1114 : decode cL_law 1114 = .ok (.if_icmp .eq 5, 3) := by decide +kernel
theorem dL_law_1117 : decode cL_law 1117 = .ok (.iconst 0, 1) := by decide +kernel
theorem dL_law_1118 : decode cL_law 1118 = .ok (.ireturn, 1) := by decide +kernel
theorem dL_law_1119 : decode cL_law 1119 = .ok (.iload 5, 2) := by decide +kernel
theorem dL_law_1121 : decode cL_law 1121 = .ok (.ifCond .ne 15, 3) := by decide +kernel
theorem dL_law_1124 : decode cL_law 1124 = .ok (.aload_n 3, 1) := by decide +kernel
theorem dL_law_1125 : decode cL_law 1125 = .ok (.iconst 0, 1) := by decide +kernel
theorem dL_law_1126 : decode cL_law 1126 = .ok (.laload, 1) := by decide +kernel
theorem dL_law_1127 : decode cL_law 1127 = .ok (.iload 6, 2) := by decide +kernel
theorem dL_law_1129 : decode cL_law 1129 = .ok (.i2l, 1) := by decide +kernel
theorem dL_law_1130 : decode cL_law 1130 = .ok (.lcmp, 1) := by decide +kernel
theorem dL_law_1131 : decode cL_law 1131 = .ok (.ifCond .eq 5, 3) := by decide +kernel
theorem dL_law_1134 : decode cL_law 1134 = .ok (.iconst 0, 1) := by decide +kernel
theorem dL_law_1135 : decode cL_law 1135 = .ok (.ireturn, 1) := by decide +kernel
theorem dL_law_1136 : decode cL_law 1136 = .ok (.goto 446, 3) := by decide +kernel
theorem dL_law_1139 : decode cL_law 1139 = .ok (.aload_n 1, 1) := by decide +kernel
theorem dL_law_1140 : decode cL_law 1140 = .ok (.aload_n 0, 1) := by decide +kernel
theorem dL_law_1141 : decode cL_law 1141 = .ok (.iload 4, 2) := by decide +kernel
theorem dL_law_1143 : decode cL_law 1143 = .ok (.iconst 1, 1) := by decide +kernel
theorem dL_law_1144 : decode cL_law 1144 = .ok (.iadd, 1) := by decide +kernel
theorem dL_law_1145 : decode cL_law 1145 = .ok (.iaload, 1) := by decide +kernel
theorem dL_law_1146 : decode cL_law 1146 = .ok (.aload_n 3, 1) := by decide +kernel
theorem dL_law_1147 : decode cL_law 1147 = .ok (.invokestatic 151, 3) := by decide +kernel
theorem dL_law_1150 : decode cL_law 1150 = .ok (.istore 5, 2) := by decide +kernel
theorem dL_law_1152 : decode cL_law 1152 = .ok (.aload_n 2, 1) := by decide +kernel
theorem dL_law_1153 : decode cL_law 1153 = .ok (.aload_n 0, 1) := by decide +kernel
theorem dL_law_1154 : decode cL_law 1154 = .ok (.iload 4, 2) := by decide +kernel
theorem dL_law_1156 : decode cL_law 1156 = .ok (.iconst 1, 1) := by decide +kernel
theorem dL_law_1157 : decode cL_law 1157 = .ok (.iadd, 1) := by decide +kernel
theorem dL_law_1158 : decode cL_law 1158 = .ok (.iaload, 1) := by decide +kernel
theorem dL_law_1159 : decode cL_law 1159 = .ok (.invokevirtual 153, 3) := by decide +kernel
theorem dL_law_1162 : decode cL_law 1162 = .ok (.istore 6, 2) := by decide +kernel
theorem dL_law_1164 : decode cL_law 1164 = .ok (.aload_n 2, 1) := by decide +kernel
theorem dL_law_1165 : decode cL_law 1165 = .ok (.invokevirtual 90, 3) := by decide +kernel
theorem dL_law_1168 : decode cL_law 1168 = .ok (.iload 5, 2) := by decide +kernel
theorem dL_law_1170 : decode cL_law 1170 = .ok (.if_icmp .eq 5, 3) := by decide +kernel
theorem dL_law_1173 : decode cL_law 1173 = .ok (.iconst 0, 1) := by decide +kernel
theorem dL_law_1174 : decode cL_law 1174 = .ok (.ireturn, 1) := by decide +kernel
theorem dL_law_1175 : decode cL_law 1175 = .ok (.iload 5, 2) := by decide +kernel
theorem dL_law_1177 : decode cL_law 1177 = .ok (.ifCond .ne 15, 3) := by decide +kernel
theorem dL_law_1180 : decode cL_law 1180 = .ok (.aload_n 3, 1) := by decide +kernel
theorem dL_law_1181 : decode cL_law 1181 = .ok (.iconst 0, 1) := by decide +kernel
theorem dL_law_1182 : decode cL_law 1182 = .ok (.laload, 1) := by decide +kernel
theorem dL_law_1183 : decode cL_law 1183 = .ok (.iload 6, 2) := by decide +kernel
theorem dL_law_1185 : decode cL_law 1185 = .ok (.i2l, 1) := by decide +kernel
theorem dL_law_1186 : decode cL_law 1186 = .ok (.lcmp, 1) := by decide +kernel
theorem dL_law_1187 : decode cL_law 1187 = .ok (.ifCond .eq 5, 3) := by decide +kernel
theorem dL_law_1190 : decode cL_law 1190 = .ok (.iconst 0, 1) := by decide +kernel
theorem dL_law_1191 : decode cL_law 1191 = .ok (.ireturn, 1) := by decide +kernel
theorem dL_law_1192 : decode cL_law 1192 = .ok (.goto 390, 3) := by decide +kernel
theorem dL_law_1195 : decode cL_law 1195 = .ok (.aload_n 1, 1) := by decide +kernel
theorem dL_law_1196 : decode cL_law 1196 = .ok (.aload_n 0, 1) := by decide +kernel
theorem dL_law_1197 : decode cL_law 1197 = .ok (.iload 4, 2) := by decide +kernel
theorem dL_law_1199 : decode cL_law 1199 = .ok (.iconst 1, 1) := by decide +kernel
theorem dL_law_1200 : decode cL_law 1200 = .ok (.iadd, 1) := by decide +kernel
theorem dL_law_1201 : decode cL_law 1201 = .ok (.iaload, 1) := by decide +kernel
theorem dL_law_1202 : decode cL_law 1202 = .ok (.aload_n 0, 1) := by decide +kernel
theorem dL_law_1203 : decode cL_law 1203 = .ok (.iload 4, 2) := by decide +kernel
theorem dL_law_1205 : decode cL_law 1205 = .ok (.iconst 2, 1) := by decide +kernel
theorem dL_law_1206 : decode cL_law 1206 = .ok (.iadd, 1) := by decide +kernel
theorem dL_law_1207 : decode cL_law 1207 = .ok (.iaload, 1) := by decide +kernel
theorem dL_law_1208 : decode cL_law 1208 = .ok (.aload_n 0, 1) := by decide +kernel
theorem dL_law_1209 : decode cL_law 1209 = .ok (.iload 4, 2) := by decide +kernel
theorem dL_law_1211 : decode cL_law 1211 = .ok (.iconst 3, 1) := by decide +kernel
theorem dL_law_1212 : decode cL_law 1212 = .ok (.iadd, 1) := by decide +kernel
theorem dL_law_1213 : decode cL_law 1213 = .ok (.iaload, 1) := by decide +kernel
theorem dL_law_1214 : decode cL_law 1214 = .ok (.aload_n 0, 1) := by decide +kernel
theorem dL_law_1215 : decode cL_law 1215 = .ok (.iload 4, 2) := by decide +kernel
theorem dL_law_1217 : decode cL_law 1217 = .ok (.iconst 4, 1) := by decide +kernel
theorem dL_law_1218 : decode cL_law 1218 = .ok (.iadd, 1) := by decide +kernel
theorem dL_law_1219 : decode cL_law 1219 = .ok (.iaload, 1) := by decide +kernel
theorem dL_law_1220 : decode cL_law 1220 = .ok (.aload_n 3, 1) := by decide +kernel
theorem dL_law_1221 : decode cL_law 1221 = .ok (.invokestatic 154, 3) := by decide +kernel
theorem dL_law_1224 : decode cL_law 1224 = .ok (.istore 5, 2) := by decide +kernel
theorem dL_law_1226 : decode cL_law 1226 = .ok (.aload_n 2, 1) := by decide +kernel
theorem dL_law_1227 : decode cL_law 1227 = .ok (.aload_n 0, 1) := by decide +kernel
theorem dL_law_1228 : decode cL_law 1228 = .ok (.iload 4, 2) := by decide +kernel
theorem dL_law_1230 : decode cL_law 1230 = .ok (.iconst 1, 1) := by decide +kernel
theorem dL_law_1231 : decode cL_law 1231 = .ok (.iadd, 1) := by decide +kernel
theorem dL_law_1232 : decode cL_law 1232 = .ok (.iaload, 1) := by decide +kernel
theorem dL_law_1233 : decode cL_law 1233 = .ok (.aload_n 0, 1) := by decide +kernel
theorem dL_law_1234 : decode cL_law 1234 = .ok (.iload 4, 2) := by decide +kernel
theorem dL_law_1236 : decode cL_law 1236 = .ok (.iconst 2, 1) := by decide +kernel
theorem dL_law_1237 : decode cL_law 1237 = .ok (.iadd, 1) := by decide +kernel
theorem dL_law_1238 : decode cL_law 1238 = .ok (.iaload, 1) := by decide +kernel
theorem dL_law_1239 : decode cL_law 1239 = .ok (.aload_n 0, 1) := by decide +kernel
theorem dL_law_1240 : decode cL_law 1240 = .ok (.iload 4, 2) := by decide +kernel
theorem dL_law_1242 : decode cL_law 1242 = .ok (.iconst 3, 1) := by decide +kernel
theorem dL_law_1243 : decode cL_law 1243 = .ok (.iadd, 1) := by decide +kernel
theorem dL_law_1244 : decode cL_law 1244 = .ok (.iaload, 1) := by decide +kernel
theorem dL_law_1245 : decode cL_law 1245 = .ok (.aload_n 0, 1) := by decide +kernel
theorem dL_law_1246 : decode cL_law 1246 = .ok (.iload 4, 2) := by decide +kernel
theorem dL_law_1248 : decode cL_law 1248 = .ok (.iconst 4, 1) := by decide +kernel
theorem dL_law_1249 : decode cL_law 1249 = .ok (.iadd, 1) := by decide +kernel
theorem dL_law_1250 : decode cL_law 1250 = .ok (.iaload, 1) := by decide +kernel
theorem dL_law_1251 : decode cL_law 1251 = .ok (.invokevirtual 156, 3) := by decide +kernel
theorem dL_law_1254 : decode cL_law 1254 = .ok (.istore 6, 2) := by decide +kernel
theorem dL_law_1256 : decode cL_law 1256 = .ok (.aload_n 2, 1) := by decide +kernel
theorem dL_law_1257 : decode cL_law 1257 = .ok (.invokevirtual 90, 3) := by decide +kernel
theorem dL_law_1260 : decode cL_law 1260 = .ok (.iload 5, 2) := by decide +kernel
theorem dL_law_1262 : decode cL_law 1262 = .ok (.if_icmp .eq 5, 3) := by decide +kernel
theorem dL_law_1265 : decode cL_law 1265 = .ok (.iconst 0, 1) := by decide +kernel
theorem dL_law_1266 : decode cL_law 1266 = .ok (.ireturn, 1) := by decide +kernel
theorem dL_law_1267 : decode cL_law 1267 = .ok (.iload 5, 2) := by decide +kernel
theorem dL_law_1269 : decode cL_law 1269 = .ok (.ifCond .ne 15, 3) := by decide +kernel
theorem dL_law_1272 : decode cL_law 1272 = .ok (.aload_n 3, 1) := by decide +kernel
theorem dL_law_1273 : decode cL_law 1273 = .ok (.iconst 0, 1) := by decide +kernel
theorem dL_law_1274 : decode cL_law 1274 = .ok (.laload, 1) := by decide +kernel
theorem dL_law_1275 : decode cL_law 1275 = .ok (.iload 6, 2) := by decide +kernel
theorem dL_law_1277 : decode cL_law 1277 = .ok (.i2l, 1) := by decide +kernel
theorem dL_law_1278 : decode cL_law 1278 = .ok (.lcmp, 1) := by decide +kernel
theorem dL_law_1279 : decode cL_law 1279 = .ok (.ifCond .eq 5, 3) := by decide +kernel
theorem dL_law_1282 : decode cL_law 1282 = .ok (.iconst 0, 1) := by decide +kernel
theorem dL_law_1283 : decode cL_law 1283 = .ok (.ireturn, 1) := by decide +kernel
theorem dL_law_1284 : decode cL_law 1284 = .ok (.goto 298, 3) := by decide +kernel
theorem dL_law_1287 : decode cL_law 1287 = .ok (.aload_n 1, 1) := by decide +kernel
theorem dL_law_1288 : decode cL_law 1288 = .ok (.aload_n 0, 1) := by decide +kernel
theorem dL_law_1289 : decode cL_law 1289 = .ok (.iload 4, 2) := by decide +kernel
theorem dL_law_1291 : decode cL_law 1291 = .ok (.iconst 1, 1) := by decide +kernel
theorem dL_law_1292 : decode cL_law 1292 = .ok (.iadd, 1) := by decide +kernel
theorem dL_law_1293 : decode cL_law 1293 = .ok (.iaload, 1) := by decide +kernel
theorem dL_law_1294 : decode cL_law 1294 = .ok (.aload_n 0, 1) := by decide +kernel
theorem dL_law_1295 : decode cL_law 1295 = .ok (.iload 4, 2) := by decide +kernel
theorem dL_law_1297 : decode cL_law 1297 = .ok (.iconst 2, 1) := by decide +kernel
theorem dL_law_1298 : decode cL_law 1298 = .ok (.iadd, 1) := by decide +kernel
theorem dL_law_1299 : decode cL_law 1299 = .ok (.iaload, 1) := by decide +kernel
theorem dL_law_1300 : decode cL_law 1300 = .ok (.aload_n 0, 1) := by decide +kernel
theorem dL_law_1301 : decode cL_law 1301 = .ok (.iload 4, 2) := by decide +kernel
theorem dL_law_1303 : decode cL_law 1303 = .ok (.iconst 3, 1) := by decide +kernel
theorem dL_law_1304 : decode cL_law 1304 = .ok (.iadd, 1) := by decide +kernel
theorem dL_law_1305 : decode cL_law 1305 = .ok (.iaload, 1) := by decide +kernel
theorem dL_law_1306 : decode cL_law 1306 = .ok (.aload_n 3, 1) := by decide +kernel
theorem dL_law_1307 : decode cL_law 1307 = .ok (.invokestatic 157, 3) := by decide +kernel
theorem dL_law_1310 : decode cL_law 1310 = .ok (.istore 5, 2) := by decide +kernel
theorem dL_law_1312 : decode cL_law 1312 = .ok (.aload_n 2, 1) := by decide +kernel
theorem dL_law_1313 : decode cL_law 1313 = .ok (.aload_n 0, 1) := by decide +kernel
theorem dL_law_1314 : decode cL_law 1314 = .ok (.iload 4, 2) := by decide +kernel
theorem dL_law_1316 : decode cL_law 1316 = .ok (.iconst 1, 1) := by decide +kernel
theorem dL_law_1317 : decode cL_law 1317 = .ok (.iadd, 1) := by decide +kernel
theorem dL_law_1318 : decode cL_law 1318 = .ok (.iaload, 1) := by decide +kernel
theorem dL_law_1319 : decode cL_law 1319 = .ok (.aload_n 0, 1) := by decide +kernel
theorem dL_law_1320 : decode cL_law 1320 = .ok (.iload 4, 2) := by decide +kernel
theorem dL_law_1322 : decode cL_law 1322 = .ok (.iconst 2, 1) := by decide +kernel
theorem dL_law_1323 : decode cL_law 1323 = .ok (.iadd, 1) := by decide +kernel
theorem dL_law_1324 : decode cL_law 1324 = .ok (.iaload, 1) := by decide +kernel
theorem dL_law_1325 : decode cL_law 1325 = .ok (.aload_n 0, 1) := by decide +kernel
theorem dL_law_1326 : decode cL_law 1326 = .ok (.iload 4, 2) := by decide +kernel
theorem dL_law_1328 : decode cL_law 1328 = .ok (.iconst 3, 1) := by decide +kernel
theorem dL_law_1329 : decode cL_law 1329 = .ok (.iadd, 1) := by decide +kernel
theorem dL_law_1330 : decode cL_law 1330 = .ok (.iaload, 1) := by decide +kernel
theorem dL_law_1331 : decode cL_law 1331 = .ok (.invokevirtual 159, 3) := by decide +kernel
theorem dL_law_1334 : decode cL_law 1334 = .ok (.istore 6, 2) := by decide +kernel
theorem dL_law_1336 : decode cL_law 1336 = .ok (.aload_n 2, 1) := by decide +kernel
theorem dL_law_1337 : decode cL_law 1337 = .ok (.invokevirtual 90, 3) := by decide +kernel
theorem dL_law_1340 : decode cL_law 1340 = .ok (.iload 5, 2) := by decide +kernel
theorem dL_law_1342 : decode cL_law 1342 = .ok (.if_icmp .eq 5, 3) := by decide +kernel
theorem dL_law_1345 : decode cL_law 1345 = .ok (.iconst 0, 1) := by decide +kernel
theorem dL_law_1346 : decode cL_law 1346 = .ok (.ireturn, 1) := by decide +kernel
theorem dL_law_1347 : decode cL_law 1347 = .ok (.iload 5, 2) := by decide +kernel
theorem dL_law_1349 : decode cL_law 1349 = .ok (.ifCond .ne 15, 3) := by decide +kernel
theorem dL_law_1352 : decode cL_law 1352 = .ok (.aload_n 3, 1) := by decide +kernel
theorem dL_law_1353 : decode cL_law 1353 = .ok (.iconst 0, 1) := by decide +kernel
theorem dL_law_1354 : decode cL_law 1354 = .ok (.laload, 1) := by decide +kernel
theorem dL_law_1355 : decode cL_law 1355 = .ok (.iload 6, 2) := by decide +kernel
theorem dL_law_1357 : decode cL_law 1357 = .ok (.i2l, 1) := by decide +kernel
theorem dL_law_1358 : decode cL_law 1358 = .ok (.lcmp, 1) := by decide +kernel
theorem dL_law_1359 : decode cL_law 1359 = .ok (.ifCond .eq 5, 3) := by decide +kernel
theorem dL_law_1362 : decode cL_law 1362 = .ok (.iconst 0, 1) := by decide +kernel
theorem dL_law_1363 : decode cL_law 1363 = .ok (.ireturn, 1) := by decide +kernel
theorem dL_law_1364 : decode cL_law 1364 = .ok (.goto 218, 3) := by decide +kernel
theorem dL_law_1367 : decode cL_law 1367 = .ok (.aload_n 1, 1) := by decide +kernel
theorem dL_law_1368 : decode cL_law 1368 = .ok (.aload_n 0, 1) := by decide +kernel
theorem dL_law_1369 : decode cL_law 1369 = .ok (.iload 4, 2) := by decide +kernel
theorem dL_law_1371 : decode cL_law 1371 = .ok (.iconst 1, 1) := by decide +kernel
theorem dL_law_1372 : decode cL_law 1372 = .ok (.iadd, 1) := by decide +kernel
theorem dL_law_1373 : decode cL_law 1373 = .ok (.iaload, 1) := by decide +kernel
theorem dL_law_1374 : decode cL_law 1374 = .ok (.aload_n 0, 1) := by decide +kernel
theorem dL_law_1375 : decode cL_law 1375 = .ok (.iload 4, 2) := by decide +kernel
theorem dL_law_1377 : decode cL_law 1377 = .ok (.iconst 2, 1) := by decide +kernel
theorem dL_law_1378 : decode cL_law 1378 = .ok (.iadd, 1) := by decide +kernel
theorem dL_law_1379 : decode cL_law 1379 = .ok (.iaload, 1) := by decide +kernel
theorem dL_law_1380 : decode cL_law 1380 = .ok (.aload_n 0, 1) := by decide +kernel
theorem dL_law_1381 : decode cL_law 1381 = .ok (.iload 4, 2) := by decide +kernel
theorem dL_law_1383 : decode cL_law 1383 = .ok (.iconst 3, 1) := by decide +kernel
theorem dL_law_1384 : decode cL_law 1384 = .ok (.iadd, 1) := by decide +kernel
theorem dL_law_1385 : decode cL_law 1385 = .ok (.iaload, 1) := by decide +kernel
theorem dL_law_1386 : decode cL_law 1386 = .ok (.aload_n 3, 1) := by decide +kernel
theorem dL_law_1387 : decode cL_law 1387 = .ok (.invokestatic 160, 3) := by decide +kernel
theorem dL_law_1390 : decode cL_law 1390 = .ok (.istore 5, 2) := by decide +kernel
theorem dL_law_1392 : decode cL_law 1392 = .ok (.aload_n 2, 1) := by decide +kernel
theorem dL_law_1393 : decode cL_law 1393 = .ok (.aload_n 0, 1) := by decide +kernel
theorem dL_law_1394 : decode cL_law 1394 = .ok (.iload 4, 2) := by decide +kernel
theorem dL_law_1396 : decode cL_law 1396 = .ok (.iconst 1, 1) := by decide +kernel
theorem dL_law_1397 : decode cL_law 1397 = .ok (.iadd, 1) := by decide +kernel
theorem dL_law_1398 : decode cL_law 1398 = .ok (.iaload, 1) := by decide +kernel
theorem dL_law_1399 : decode cL_law 1399 = .ok (.aload_n 0, 1) := by decide +kernel
theorem dL_law_1400 : decode cL_law 1400 = .ok (.iload 4, 2) := by decide +kernel
theorem dL_law_1402 : decode cL_law 1402 = .ok (.iconst 2, 1) := by decide +kernel
theorem dL_law_1403 : decode cL_law 1403 = .ok (.iadd, 1) := by decide +kernel
theorem dL_law_1404 : decode cL_law 1404 = .ok (.iaload, 1) := by decide +kernel
theorem dL_law_1405 : decode cL_law 1405 = .ok (.aload_n 0, 1) := by decide +kernel
theorem dL_law_1406 : decode cL_law 1406 = .ok (.iload 4, 2) := by decide +kernel
theorem dL_law_1408 : decode cL_law 1408 = .ok (.iconst 3, 1) := by decide +kernel
theorem dL_law_1409 : decode cL_law 1409 = .ok (.iadd, 1) := by decide +kernel
theorem dL_law_1410 : decode cL_law 1410 = .ok (.iaload, 1) := by decide +kernel
theorem dL_law_1411 : decode cL_law 1411 = .ok (.invokevirtual 162, 3) := by decide +kernel
theorem dL_law_1414 : decode cL_law 1414 = .ok (.istore 6, 2) := by decide +kernel
theorem dL_law_1416 : decode cL_law 1416 = .ok (.aload_n 2, 1) := by decide +kernel
theorem dL_law_1417 : decode cL_law 1417 = .ok (.invokevirtual 90, 3) := by decide +kernel
theorem dL_law_1420 : decode cL_law 1420 = .ok (.iload 5, 2) := by decide +kernel
theorem dL_law_1422 : decode cL_law 1422 = .ok (.if_icmp .eq 5, 3) := by decide +kernel
theorem dL_law_1425 : decode cL_law 1425 = .ok (.iconst 0, 1) := by decide +kernel
theorem dL_law_1426 : decode cL_law 1426 = .ok (.ireturn, 1) := by decide +kernel
theorem dL_law_1427 : decode cL_law 1427 = .ok (.iload 5, 2) := by decide +kernel
theorem dL_law_1429 : decode cL_law 1429 = .ok (.ifCond .ne 15, 3) := by decide +kernel
theorem dL_law_1432 : decode cL_law 1432 = .ok (.aload_n 3, 1) := by decide +kernel
theorem dL_law_1433 : decode cL_law 1433 = .ok (.iconst 0, 1) := by decide +kernel
theorem dL_law_1434 : decode cL_law 1434 = .ok (.laload, 1) := by decide +kernel
theorem dL_law_1435 : decode cL_law 1435 = .ok (.iload 6, 2) := by decide +kernel
theorem dL_law_1437 : decode cL_law 1437 = .ok (.i2l, 1) := by decide +kernel
theorem dL_law_1438 : decode cL_law 1438 = .ok (.lcmp, 1) := by decide +kernel
theorem dL_law_1439 : decode cL_law 1439 = .ok (.ifCond .eq 5, 3) := by decide +kernel
theorem dL_law_1442 : decode cL_law 1442 = .ok (.iconst 0, 1) := by decide +kernel
theorem dL_law_1443 : decode cL_law 1443 = .ok (.ireturn, 1) := by decide +kernel
theorem dL_law_1444 : decode cL_law 1444 = .ok (.goto 138, 3) := by decide +kernel
theorem dL_law_1447 : decode cL_law 1447 = .ok (.aload_n 1, 1) := by decide +kernel
theorem dL_law_1448 : decode cL_law 1448 = .ok (.aload_n 0, 1) := by decide +kernel
theorem dL_law_1449 : decode cL_law 1449 = .ok (.iload 4, 2) := by decide +kernel
theorem dL_law_1451 : decode cL_law 1451 = .ok (.iconst 1, 1) := by decide +kernel
theorem dL_law_1452 : decode cL_law 1452 = .ok (.iadd, 1) := by decide +kernel
theorem dL_law_1453 : decode cL_law 1453 = .ok (.iaload, 1) := by decide +kernel
theorem dL_law_1454 : decode cL_law 1454 = .ok (.aload_n 0, 1) := by decide +kernel
theorem dL_law_1455 : decode cL_law 1455 = .ok (.iload 4, 2) := by decide +kernel
theorem dL_law_1457 : decode cL_law 1457 = .ok (.iconst 2, 1) := by decide +kernel
theorem dL_law_1458 : decode cL_law 1458 = .ok (.iadd, 1) := by decide +kernel
theorem dL_law_1459 : decode cL_law 1459 = .ok (.iaload, 1) := by decide +kernel
theorem dL_law_1460 : decode cL_law 1460 = .ok (.aload_n 0, 1) := by decide +kernel
theorem dL_law_1461 : decode cL_law 1461 = .ok (.iload 4, 2) := by decide +kernel
theorem dL_law_1463 : decode cL_law 1463 = .ok (.iconst 3, 1) := by decide +kernel
theorem dL_law_1464 : decode cL_law 1464 = .ok (.iadd, 1) := by decide +kernel
theorem dL_law_1465 : decode cL_law 1465 = .ok (.iaload, 1) := by decide +kernel
theorem dL_law_1466 : decode cL_law 1466 = .ok (.aload_n 3, 1) := by decide +kernel
theorem dL_law_1467 : decode cL_law 1467 = .ok (.invokestatic 163, 3) := by decide +kernel
theorem dL_law_1470 : decode cL_law 1470 = .ok (.istore 5, 2) := by decide +kernel
theorem dL_law_1472 : decode cL_law 1472 = .ok (.aload_n 2, 1) := by decide +kernel
theorem dL_law_1473 : decode cL_law 1473 = .ok (.aload_n 0, 1) := by decide +kernel
theorem dL_law_1474 : decode cL_law 1474 = .ok (.iload 4, 2) := by decide +kernel
theorem dL_law_1476 : decode cL_law 1476 = .ok (.iconst 1, 1) := by decide +kernel
theorem dL_law_1477 : decode cL_law 1477 = .ok (.iadd, 1) := by decide +kernel
theorem dL_law_1478 : decode cL_law 1478 = .ok (.iaload, 1) := by decide +kernel
theorem dL_law_1479 : decode cL_law 1479 = .ok (.aload_n 0, 1) := by decide +kernel
theorem dL_law_1480 : decode cL_law 1480 = .ok (.iload 4, 2) := by decide +kernel
theorem dL_law_1482 : decode cL_law 1482 = .ok (.iconst 2, 1) := by decide +kernel
theorem dL_law_1483 : decode cL_law 1483 = .ok (.iadd, 1) := by decide +kernel
theorem dL_law_1484 : decode cL_law 1484 = .ok (.iaload, 1) := by decide +kernel
theorem dL_law_1485 : decode cL_law 1485 = .ok (.aload_n 0, 1) := by decide +kernel
theorem dL_law_1486 : decode cL_law 1486 = .ok (.iload 4, 2) := by decide +kernel
theorem dL_law_1488 : decode cL_law 1488 = .ok (.iconst 3, 1) := by decide +kernel
theorem dL_law_1489 : decode cL_law 1489 = .ok (.iadd, 1) := by decide +kernel
theorem dL_law_1490 : decode cL_law 1490 = .ok (.iaload, 1) := by decide +kernel
theorem dL_law_1491 : decode cL_law 1491 = .ok (.invokevirtual 165, 3) := by decide +kernel
theorem dL_law_1494 : decode cL_law 1494 = .ok (.istore 6, 2) := by decide +kernel
theorem dL_law_1496 : decode cL_law 1496 = .ok (.aload_n 2, 1) := by decide +kernel
theorem dL_law_1497 : decode cL_law 1497 = .ok (.invokevirtual 90, 3) := by decide +kernel
theorem dL_law_1500 : decode cL_law 1500 = .ok (.iload 5, 2) := by decide +kernel
theorem dL_law_1502 : decode cL_law 1502 = .ok (.if_icmp .eq 5, 3) := by decide +kernel
theorem dL_law_1505 : decode cL_law 1505 = .ok (.iconst 0, 1) := by decide +kernel
theorem dL_law_1506 : decode cL_law 1506 = .ok (.ireturn, 1) := by decide +kernel
theorem dL_law_1507 : decode cL_law 1507 = .ok (.iload 5, 2) := by decide +kernel
theorem dL_law_1509 : decode cL_law 1509 = .ok (.ifCond .ne 15, 3) := by decide +kernel
theorem dL_law_1512 : decode cL_law 1512 = .ok (.aload_n 3, 1) := by decide +kernel
theorem dL_law_1513 : decode cL_law 1513 = .ok (.iconst 0, 1) := by decide +kernel
theorem dL_law_1514 : decode cL_law 1514 = .ok (.laload, 1) := by decide +kernel
theorem dL_law_1515 : decode cL_law 1515 = .ok (.iload 6, 2) := by decide +kernel
theorem dL_law_1517 : decode cL_law 1517 = .ok (.i2l, 1) := by decide +kernel
theorem dL_law_1518 : decode cL_law 1518 = .ok (.lcmp, 1) := by decide +kernel
theorem dL_law_1519 : decode cL_law 1519 = .ok (.ifCond .eq 5, 3) := by decide +kernel
theorem dL_law_1522 : decode cL_law 1522 = .ok (.iconst 0, 1) := by decide +kernel
theorem dL_law_1523 : decode cL_law 1523 = .ok (.ireturn, 1) := by decide +kernel
theorem dL_law_1524 : decode cL_law 1524 = .ok (.goto 58, 3) := by decide +kernel
theorem dL_law_1527 : decode cL_law 1527 = .ok (.aload_n 1, 1) := by decide +kernel
theorem dL_law_1528 : decode cL_law 1528 = .ok (.invokevirtual 166, 3) := by decide +kernel
theorem dL_law_1531 : decode cL_law 1531 = .ok (.dstore 5, 2) := by decide +kernel
theorem dL_law_1533 : decode cL_law 1533 = .ok (.aload_n 2, 1) := by decide +kernel
theorem dL_law_1534 : decode cL_law 1534 = .ok (.invokevirtual 170, 3) := by decide +kernel
theorem dL_law_1537 : decode cL_law 1537 = .ok (.dstore 7, 2) := by decide +kernel
theorem dL_law_1539 : decode cL_law 1539 = .ok (.dload 5, 2) := by decide +kernel
theorem dL_law_1541 : decode cL_law 1541 = .ok (.dload 7, 2) := by decide +kernel
theorem dL_law_1543 : decode cL_law 1543 = .ok (.dcmp .l, 1) := by decide +kernel
theorem dL_law_1544 : decode cL_law 1544 = .ok (.ifCond .eq 21, 3) := by decide +kernel
theorem dL_law_1547 : decode cL_law 1547 = .ok (.dload 5, 2) := by decide +kernel
theorem dL_law_1549 : decode cL_law 1549 = .ok (.dload 5, 2) := by decide +kernel
theorem dL_law_1551 : decode cL_law 1551 = .ok (.dcmp .l, 1) := by decide +kernel
theorem dL_law_1552 : decode cL_law 1552 = .ok (.ifCond .eq 11, 3) := by decide +kernel
theorem dL_law_1555 : decode cL_law 1555 = .ok (.dload 7, 2) := by decide +kernel
theorem dL_law_1557 : decode cL_law 1557 = .ok (.dload 7, 2) := by decide +kernel
theorem dL_law_1559 : decode cL_law 1559 = .ok (.dcmp .l, 1) := by decide +kernel
theorem dL_law_1560 : decode cL_law 1560 = .ok (.ifCond .ne 5, 3) := by decide +kernel
theorem dL_law_1563 : decode cL_law 1563 = .ok (.iconst 0, 1) := by decide +kernel
theorem dL_law_1564 : decode cL_law 1564 = .ok (.ireturn, 1) := by decide +kernel
theorem dL_law_1565 : decode cL_law 1565 = .ok (.goto 17, 3) := by decide +kernel
theorem dL_law_1568 : decode cL_law 1568 = .ok (.aload_n 1, 1) := by decide +kernel
theorem dL_law_1569 : decode cL_law 1569 = .ok (.invokevirtual 171, 3) := by decide +kernel
theorem dL_law_1572 : decode cL_law 1572 = .ok (.aload_n 2, 1) := by decide +kernel
theorem dL_law_1573 : decode cL_law 1573 = .ok (.invokevirtual 175, 3) := by decide +kernel
theorem dL_law_1576 : decode cL_law 1576 = .ok (.lcmp, 1) := by decide +kernel
theorem dL_law_1577 : decode cL_law 1577 = .ok (.ifCond .eq 5, 3) := by decide +kernel
theorem dL_law_1580 : decode cL_law 1580 = .ok (.iconst 0, 1) := by decide +kernel
theorem dL_law_1581 : decode cL_law 1581 = .ok (.ireturn, 1) := by decide +kernel
theorem dL_law_1582 : decode cL_law 1582 = .ok (.iinc 4 5, 3) := by decide +kernel
theorem dL_law_1585 : decode cL_law 1585 = .ok (.goto (-1562), 3) := by decide +kernel
theorem dL_law_1588 : decode cL_law 1588 = .ok (.iconst 1, 1) := by decide +kernel
theorem dL_law_1589 : decode cL_law 1589 = .ok (.ireturn, 1) := by decide +kernel
end
section
/-! THE LAYER V: what a frame's walk needs, kept in one place. A heap is a partial map from numbers k to things; the thing k lies at the address base + k. -/
abbrev Mem : Type := Nat → Option va_E
def mup (M : Mem) (k : Nat) (e : va_E) : Mem := fun j => if j = k then some e else M j
theorem mup_eq (M : Mem) (k : Nat) (e : va_E) : mup M k e k = some e := if_pos rfl
theorem mup_ne (M : Mem) {k j : Nat} (e : va_E) (h : j ≠ k) : mup M k e j = M j := if_neg h
abbrev Ou : Type := Option Value ⊕ String
/-- fixed over a run: the launch; the classes' numbers and slots; the classes of int[], long[], Yards[]; the base, the cells of RINGS, MIDDLES and the script; the script; the texts' cells -/
abbrev GE : Type := Launch × va_G × (ClassId × ClassId × ClassId) × (Nat × Nat × Nat × Nat) × (Nat × (Nat → Int32)) × (Nat → Nat)
def gl (g : GE) : Launch := g.1
def gD (g : GE) : va_G := g.2.1
def gI (g : GE) : ClassId := g.2.2.1.1
def gJ (g : GE) : ClassId := g.2.2.1.2.1
def gY (g : GE) : ClassId := g.2.2.1.2.2
def gb (g : GE) : Nat := g.2.2.2.1.1
def gR (g : GE) : Nat := g.2.2.2.1.2.1
def gM (g : GE) : Nat := g.2.2.2.1.2.2.1
def gS (g : GE) : Nat := g.2.2.2.1.2.2.2
def gN (g : GE) : Nat := g.2.2.2.2.1.1
def gx (g : GE) : Nat → Int32 := g.2.2.2.2.1.2
def gt (g : GE) : Nat → Nat := g.2.2.2.2.2
def gA (g : GE) : Nat → Prop := fun q => gb g ≤ q
def gT (g : GE) : List (ClassId × FieldType) := [(gI g, .int), (gJ g, .long), (gY g, .object "ParishYards$Yards")]
abbrev rf (g : GE) (k : Nat) : Value := .ref (gb g + k)
abbrev eI (g : GE) (n : Nat) (f : Nat → Int32) : va_E := .inl (gI g, n, .inl f)
abbrev eJ (g : GE) (n : Nat) (f : Nat → Int64) : va_E := .inl (gJ g, n, .inr (.inl f))
abbrev eY (g : GE) (n : Nat) (f : Nat → Option Nat) : va_E := .inl (gY g, n, .inr (.inr (.inr (.inr f))))
abbrev eO (ci : Nat) (fs : List Value) : va_E := .inr (ci, fs)
/-- the heap holds what M says -/
def WO (g : GE) (M : Mem) (H : Heap) : Prop := ∃ ws : va_W, va_P (gD g) vwCl ws H ∧ va_D (gA g) ws ∧ ∀ (k : Nat) (e : va_E), M k = some e ↔ (gb g + k, e) ∈ ws
theorem wo_at {g : GE} {M : Mem} {ws : va_W} (h : ∀ (k : Nat) (e : va_E), M k = some e ↔ (gb g + k, e) ∈ ws) {k : Nat} {e : va_E} (hk : M k = some e) : ∃ q : Nat, ws[q]? = some (gb g + k, e) := List.getElem?_of_mem ((h k e).mp hk)
theorem wo_set {g : GE} {M : Mem} {ws : va_W} (hD : va_D (gA g) ws) (h : ∀ (k : Nat) (e : va_E), M k = some e ↔ (gb g + k, e) ∈ ws) {k q : Nat} {e0 e : va_E} (hq : ws[q]? = some (gb g + k, e0)) :
    ∀ (j : Nat) (x : va_E), mup M k e j = some x ↔ (gb g + j, x) ∈ ws.set q (gb g + k, e) := by
  have hl := (List.getElem?_eq_some_iff.mp hq).1
  intro j x
  by_cases hj : j = k
  · subst hj
    rw [mup_eq]
    constructor
    · intro hx
      cases hx
      exact List.mem_of_getElem? (List.getElem?_set_self hl)
    · intro hx
      obtain ⟨i, hi⟩ := List.getElem?_of_mem hx
      by_cases hiq : i = q
      · subst hiq
        rw [List.getElem?_set_self hl] at hi
        cases hi
        rfl
      · rw [List.getElem?_set_ne (Ne.symm hiq)] at hi
        exact absurd (hD.1 i q _ _ hi hq rfl) hiq
  · rw [mup_ne M e hj, h j x]
    constructor
    · intro hx
      obtain ⟨i, hi⟩ := List.getElem?_of_mem hx
      have hiq : i ≠ q := by
        intro hiq
        subst hiq
        rw [hq] at hi
        have := congrArg Prod.fst (Option.some.inj hi)
        simp only at this
        omega
      exact List.mem_of_getElem? (by rw [List.getElem?_set_ne (Ne.symm hiq)]; exact hi)
    · intro hx
      obtain ⟨i, hi⟩ := List.getElem?_of_mem hx
      have hiq : i ≠ q := by
        intro hiq
        subst hiq
        rw [List.getElem?_set_self hl] at hi
        have := congrArg Prod.fst (Option.some.inj hi)
        simp only at this
        omega
      rw [List.getElem?_set_ne (Ne.symm hiq)] at hi
      exact List.mem_of_getElem? hi
theorem wo_push {g : GE} {M : Mem} {ws : va_W} (hD : va_D (gA g) ws) (h : ∀ (k : Nat) (e : va_E), M k = some e ↔ (gb g + k, e) ∈ ws) {k : Nat} {e : va_E} (hk : M k = none) :
    ∀ (j : Nat) (x : va_E), mup M k e j = some x ↔ (gb g + j, x) ∈ ws ++ [(gb g + k, e)] := by
  intro j x
  rw [List.mem_append, List.mem_singleton]
  by_cases hj : j = k
  · subst hj
    rw [mup_eq]
    constructor
    · intro hx
      cases hx
      exact Or.inr rfl
    · rintro (hx | hx)
      · rw [← h j x, hk] at hx; cases hx
      · cases hx; rfl
  · rw [mup_ne M e hj, h j x]
    constructor
    · exact Or.inl
    · rintro (hx | hx)
      · exact hx
      · have := congrArg Prod.fst hx
        simp only at this
        omega
/-- words of the tables: those that a callee may be handed, and those of nest mates, names and casts -/
def nestWord : Cond → Bool
  | .methodLinkNest .. => true
  | .fieldLinkNest .. => true
  | .declares _ => true
  | .castable .. => true
  | _ => false
def BIG : List Cond := lw_tbl.filter goodWord
def NWL : List Cond := lw_tbl.filter nestWord
theorem inBIG {w : Cond} (i : Nat) (h : (lw_tbl[i]? = some w ∧ goodWord w = true)) : w ∈ BIG := List.mem_filter.mpr ⟨List.mem_of_getElem? h.1, h.2⟩
theorem inNWL {w : Cond} (i : Nat) (h : (lw_tbl[i]? = some w ∧ nestWord w = true)) : w ∈ NWL := List.mem_filter.mpr ⟨List.mem_of_getElem? h.1, h.2⟩
theorem big_good : ∀ w ∈ BIG, goodWord w = true := fun w h => (List.mem_filter.mp h).2
theorem nest_on {w : Cond} (h : nestWord w = true) : w.onTables = true := by cases w <;> first | rfl | cases h
theorem nest_warm {w : Cond} (h : nestWord w = true) {s U : State} (hW : s.WarmedH U.vm) (hw : va_Nw w s) : va_Nw w U := by
  cases w with
  | methodLinkNest a b c d => exact va_Nw.warmM hW hw
  | fieldLinkNest a b c d e f => exact va_Nw.warmF hW hw
  | declares a => exact va_Nw.warmD hW hw
  | castable a b => exact va_Nw.warmC hW hw
  | _ => cases h
/-- the texts of the throws: number, place in the class file, text -/
def txW : Nat → Nat × String := fun k => match k with
  | 0 => (103, "a ring would be off")
  | 1 => (122, "there is no table")
  | 2 => (126, "no such setting")
  | 3 => (149, "there are 8 bolts")
  | 4 => (161, "the bolt cannot be sent")
  | 5 => (178, "the buffer is full")
  | 6 => (195, "the buffer is not complete works")
  | 7 => (220, "there is no saved state")
  | 8 => (230, "there is no snapshot")
  | 9 => (239, "a ring below 0")
  | 10 => (415, "no such parish")
  | 11 => (417, "both parishes are the same")
  | 12 => (419, "no such bolt")
  | _ => (421, "out of range")
def exN : Nat → String := fun k => match k with
  | 0 => "java/lang/IndexOutOfBoundsException"
  | 1 => "java/lang/IllegalArgumentException"
  | _ => "java/lang/IllegalStateException"
/-- the numbers of RINGS and MIDDLES, as the class has them -/
def ringsL : List Int32 := [12, 13, 14, 23, 24, 34, 123, 124, 134, 234, 123, 124, 132, 134, 142, 143, 213, 214, 234, 243, 314, 324, 1234, 1243, 1324, 1234, 1243, 1324, 1342, 1423, 1432, 2134, 2143, 2314, 2413, 3124, 3214]
def middlesL : List Int32 := [0, 1, 2, 3, 12, 13, 21, 23, 31, 32, 123, 132, 213, 231, 312, 321]
def ringsF : Nat → Int32 := fun k => ringsL.getD k 0
def middlesF : Nat → Int32 := fun k => middlesL.getD k 0
/-- what every frame's start bears -/
def EV (g : GE) (U : State) (H : Heap) : Prop :=
  va_K (gD g) vwCl (gT g) U ∧ (∀ w ∈ NWL, va_Nw w U) ∧
  (va_Z "ParishYards" "RINGS" "[I" (.ref (gR g)) (gA g) U H ∧ va_T .int (gR g) 37 (fun k => .int (ringsF k)) (gA g) U H) ∧
  (va_Z "ParishYards" "MIDDLES" "[I" (.ref (gM g)) (gA g) U H ∧ va_T .int (gM g) 16 (fun k => .int (middlesF k)) (gA g) U H) ∧
  (vx_Zq Bundle.tN "UNASSIGNED_STACK" Bundle.steD (gA g) U H ∧ vx_Zq Bundle.tN "SUPPRESSED_SENTINEL" Bundle.listD (gA g) U H) ∧
  (∀ k, k < 14 → vk_R "ParishYards" (txW k).1 (txW k).2 (gt g k) U) ∧
  (∀ i j, i < 3 → j < 3 → i ≠ j → va_Nc (exN i) (exN j) U) ∧
  (va_X (gS g) (gN g) (gx g) U H ∧ gS g < gb g) ∧ va_AO "ParishYards$Yards" U ∧ (gl g).stackTraces = false ∧ gb g ≤ H.size
theorem EV.warm {g : GE} {s U : State} {H H1 : Heap} {locs : List Loc} (hW : s.WarmedH U.vm) (hS : va_S (gA g) H H1 locs) (h : EV g s H) : EV g U H1 := by
  obtain ⟨h1, h2, ⟨h3, h4⟩, ⟨h5, h6⟩, ⟨h7, h8⟩, h9, h10, ⟨h11, h12⟩, h13, h14, h15⟩ := h
  have hv := hW.alike
  have hk : ∀ a : Nat, a < H.size → ¬ gA g a → H1[a]? = H[a]? := hS.2.1
  refine ⟨h1.moved hv, fun w hw => nest_warm (List.mem_filter.mp hw).2 hW (h2 w hw), ⟨(h3.kept hk).moved hv, (h4.kept hk).moved hv⟩, ⟨(h5.kept hk).moved hv, (h6.kept hk).moved hv⟩, ⟨(h7.kept hk).moved hv, (h8.kept hk).moved hv⟩, fun k hk => (h9 k hk).warm hW, fun i j hi hj hij => (h10 i j hi hj hij).moved hv, ⟨?_, h12⟩, h13.moved hv, h14, Nat.le_trans h15 hS.1⟩
  have hb : gS g < H.size := Nat.lt_of_lt_of_le h12 h15
  exact (h11.kept (hk _ hb (Nat.not_le.mpr h12))).moved hv
theorem EV.same {g : GE} {U u : State} {H : Heap} (hv : U.vm = u.vm) (h : EV g u H) : EV g U H := by
  obtain ⟨h1, h2, ⟨h3, h4⟩, ⟨h5, h6⟩, ⟨h7, h8⟩, h9, h10, ⟨h11, h12⟩, h13, h14, h15⟩ := h
  have ha : u.vm.Alike U.vm := by rw [hv]; exact Vm.Alike.refl _
  exact ⟨h1.moved ha, fun w hw => va_Nw.same (nest_on (List.mem_filter.mp hw).2) hv.symm (h2 w hw), ⟨h3.moved ha, h4.moved ha⟩, ⟨h5.moved ha, h6.moved ha⟩, ⟨h7.moved ha, h8.moved ha⟩, fun k hk => (h9 k hk).same hv, fun i j hi hj hij => (h10 i j hi hj hij).moved ha, ⟨h11.moved ha, h12⟩, h13.moved ha, h14, h15⟩
end
section
/-- a method: its name, its bytes, its locals, what it answers, its handlers, its room of frames and of locals -/
abbrev MT : Type := MethodName × ByteArray × Nat × Option FieldType × List (Nat × Nat × Nat × Nat) × Nat × Nat
def mY (m : MT) : MethodName := m.1
def mC (m : MT) : ByteArray := m.2.1
def mL (m : MT) : Nat := m.2.2.1
def mR (m : MT) : Option FieldType := m.2.2.2.1
def mH (m : MT) : List (Nat × Nat × Nat × Nat) := m.2.2.2.2.1
def mF (m : MT) : Nat := m.2.2.2.2.2.1
def mO (m : MT) : Nat := m.2.2.2.2.2.2
def mW (m : MT) : Cond := match mH m with
  | [] => .code (mY m) (mC m) (mL m) (mR m)
  | h :: t => .codeWith (mY m) (mC m) (mL m) (mR m) (h :: t)
def mWs (m : MT) : List Cond := mW m :: BIG
/-- what a frame of the method m stands on -/
def AM (g : GE) (mt : MT) (p : Program) (e : Env) (R : Room) (s : State) (m : MethodId) (args : Array Value) (meth : Method) (c : Code) : Prop :=
  p.tables.exec = Jvm.exec ∧ c.code = mC mt ∧ c.maxLocals = mL mt ∧ s.vm.findClass (mY mt).cls = some m.cls ∧ (∀ w ∈ mWs mt, w.before args s = true) ∧ meth.sig.returnType = mR mt ∧ meth.locks = false ∧ meth.name = (mY mt).name ∧
  (mH mt = [] → ∀ x ∈ c.exceptionTable.toList, False) ∧ (mH mt ≠ [] → c.exceptionTable.toList = tableOf (mH mt)) ∧ mF mt ≤ R.frames ∧ mO mt ≤ R.locals ∧ EV g s s.heap
def QR (g : GE) (Q : Ou → Mem → Prop) : Array Value → State → Outcome → State → Prop := fun _ st o t => (∃ (v : Option Value) (M : Mem), o = .returned v ∧ Q (.inl v) M ∧ WO g M t.heap) ∧ va_F (gA g) st t
def QX (g : GE) (Q : Ou → Mem → Prop) : String → State → State → Prop := fun E st t => (∃ M : Mem, Q (.inr E) M ∧ WO g M t.heap) ∧ va_F (gA g) st t
/-- the walk: from pc, locals lv, stack st, heap M (its size at most base + sz), with kc cells and ks slots left, the method ends with Q -/
def V (g : GE) (mt : MT) (pc : Nat) (lv : List (Nat × Value)) (st : List Value) (M : Mem) (sz kc ks : Nat) (Q : Ou → Mem → Prop) : Prop :=
  ∀ (p : Program) (e : Env) (R : Room) (s : State) (m : MethodId) (args : Array Value) (below : List Frame) (meth : Method) (c : Code) (H : Heap) (locs : List Loc) (cells slots mc ms : Nat) (ls : Array Slot),
    AM g mt p e R s m args meth c → WO g M H → va_S (gA g) s.heap H locs → lv_has ls (mL mt) lv → s.heap.size + cells ≤ gb g + sz → cells + kc ≤ mc → slots + ks ≤ ms → mc ≤ R.cells → ms ≤ R.slots →
    W p (gl g) e R s m args below meth c H locs cells slots (vx_MQ below (QR g Q) (QX g Q) args s mc ms (gA g)) (F0 m pc ls st)
/-- a call: with the arguments As, from the heap M, at the cost of mc cells and ms slots, it ends with Q -/
def Run (g : GE) (mt : MT) (As : List Value) (M : Mem) (sz mc ms : Nat) (Q : Ou → Mem → Prop) : Prop :=
  vx_Met (gl g) (mY mt) (mWs mt) ({ frames := mF mt, cells := mc, slots := ms, locals := mO mt }) (va_Pc As (fun U => WO g M U.heap ∧ EV g U U.heap ∧ U.heap.size ≤ gb g + sz)) (QR g Q) (QX g Q) mc ms (gA g)
theorem vx_Q.mono {Qc Qc' : Array Value → State → Outcome → State → Prop} {XC XC' : String → State → State → Prop} {mc ms : Nat} {free : Addr → Prop} (h1 : ∀ a st o t, Qc a st o t → Qc' a st o t) (h2 : ∀ E st t, XC E st t → XC' E st t) {a : Array Value} {st : State} {o : Outcome} {t : State} (h : vx_Q Qc XC mc ms free a st o t) : vx_Q Qc' XC' mc ms free a st o t := by
  rcases h with ⟨a1, a2⟩ | ⟨q, a1, E, ce, L, b1, b2⟩
  · exact Or.inl ⟨h1 _ _ _ _ a1, a2⟩
  · exact Or.inr ⟨q, a1, E, ce, L, h2 _ _ _ b1, b2⟩
theorem QR.mono {g : GE} {Q Q' : Ou → Mem → Prop} (h : ∀ o M, Q o M → Q' o M) {a : Array Value} {st : State} {o : Outcome} {t : State} (k : QR g Q a st o t) : QR g Q' a st o t := by
  obtain ⟨⟨v, M, e, q, w⟩, f⟩ := k
  exact ⟨⟨v, M, e, h _ _ q, w⟩, f⟩
theorem QX.mono {g : GE} {Q Q' : Ou → Mem → Prop} (h : ∀ o M, Q o M → Q' o M) {E : String} {st t : State} (k : QX g Q E st t) : QX g Q' E st t := by
  obtain ⟨⟨M, q, w⟩, f⟩ := k
  exact ⟨⟨M, h _ _ q, w⟩, f⟩
theorem vx_MQ.mono {below : List Frame} {Qc Qc' : Array Value → State → Outcome → State → Prop} {XC XC' : String → State → State → Prop} {a : Array Value} {s : State} {mc ms : Nat} {free : Addr → Prop} (h1 : ∀ a st o t, Qc a st o t → Qc' a st o t) (h2 : ∀ E st t, XC E st t → XC' E st t) {t : State} (h : vx_MQ below Qc XC a s mc ms free t) : vx_MQ below Qc' XC' a s mc ms free t := by
  obtain ⟨o, e1, e2, e3⟩ := h
  exact ⟨o, e1, e2, e3.mono h1 h2⟩
theorem V.mono {g : GE} {mt : MT} {pc : Nat} {lv : List (Nat × Value)} {st : List Value} {M : Mem} {sz kc ks : Nat} {Q Q' : Ou → Mem → Prop} (k : V g mt pc lv st M sz kc ks Q) (h : ∀ o M, Q o M → Q' o M) : V g mt pc lv st M sz kc ks Q' := by
  intro p e R s m args below meth c H locs cells slots mc ms ls a1 a2 a3 a4 a5 a6 a7 a8 a9 T hT X
  obtain ⟨t, b1, b2⟩ := k p e R s m args below meth c H locs cells slots mc ms ls a1 a2 a3 a4 a5 a6 a7 a8 a9 T hT X
  exact ⟨t, b1, b2.mono (fun _ _ _ _ => QR.mono h) (fun _ _ _ => QX.mono h)⟩
theorem MetFree.mono {l : Launch} {y : MethodName} {S : Spec} {P : Array Value → State → Prop} {K : Program → Env → List Frame → State → Array Value → Prop} {Q Q' : Array Value → State → Outcome → State → Prop} (h : MetFree l y S P K Q) (hq : ∀ a s o t, Q a s o t → Q' a s o t) : MetFree l y S P K Q' := by
  intro p e ha hc hk s m args below hf happ hP hK
  obtain ⟨k, o, h1, h2, h3, h4⟩ := h p e ha hc hk s m args below hf happ hP hK
  exact ⟨k, o, h1, h2, h3, hq _ _ _ _ h4⟩
theorem Run.mono {g : GE} {mt : MT} {As : List Value} {M : Mem} {sz mc ms : Nat} {Q Q' : Ou → Mem → Prop} (k : Run g mt As M sz mc ms Q) (h : ∀ o M, Q o M → Q' o M) : Run g mt As M sz mc ms Q' :=
  MetFree.mono k fun _ _ _ _ q => q.mono (fun _ _ _ _ => QR.mono h) (fun _ _ _ => QX.mono h)
/-- a walk from the entry is a call (methods without handlers) -/
theorem Run.of {g : GE} {mt : MT} {As : List Value} {M : Mem} {sz mc ms : Nat} {Q : Ou → Mem → Prop} (hH : mH mt = []) (hy : plainName (mY mt).cls = true) (hl : (lg_sl As).length ≤ mL mt)
    (k : V g mt 0 (lv_args 0 As) [] M sz mc ms Q) : Run g mt As M sz mc ms Q := by
  have hw : mWs mt = Cond.code (mY mt) (mC mt) (mL mt) (mR mt) :: BIG := by unfold mWs mW; rw [hH]
  refine vx_ofW (cc := mC mt) (maxL := mL mt) (ret := mR mt) hy hw ?_
  intro p e s m args below meth c s₁ B hml ht hv
  obtain ⟨rfl, hP, hE, hz⟩ := hv
  have hts := atoms_spec (ws := mWs mt) B.pre
  have hn := name_of_methodNamed B.named B.method
  rw [lg_entry_eq]
  have hl := lv_entry As (n := mL mt) hl
  exact k p e _ s m As.toArray below meth c s.heap [] 0 0 mc ms _ ⟨B.exec, B.bytes, hml, findClass_of_methodNamed B.named, hts, B.returns, B.notSynchronized, hn.1, fun _ => ht, fun h => absurd hH h, Nat.le_refl _, Nat.le_refl _, hE⟩ hP va_S.rf hl (by omega) (by omega) (by omega) (Nat.le_refl _) (Nat.le_refl _)
/-- .. and of a method with handlers -/
theorem Run.ofH {g : GE} {mt : MT} {As : List Value} {M : Mem} {sz mc ms : Nat} {Q : Ou → Mem → Prop} (hH : mH mt ≠ []) (hy : plainName (mY mt).cls = true) (hl : (lg_sl As).length ≤ mL mt)
    (k : V g mt 0 (lv_args 0 As) [] M sz mc ms Q) : Run g mt As M sz mc ms Q := by
  have hw : mWs mt = Cond.codeWith (mY mt) (mC mt) (mL mt) (mR mt) (mH mt) :: BIG := by
    unfold mWs mW
    cases h : mH mt with
    | nil => exact absurd h hH
    | cons a b => rfl
  refine vx_ofWH (cc := mC mt) (maxL := mL mt) (ret := mR mt) (hh := mH mt) hy hw ?_
  intro p e s m args below meth c s₁ B hml hv
  obtain ⟨rfl, hP, hE, hz⟩ := hv
  have hts := atoms_spec (ws := mWs mt) B.pre
  have hn := name_of_methodNamed B.named B.method
  have htab := vx_table (x := mY mt) (hh := mH mt) B (hts _ (by rw [hw]; exact List.mem_cons_self))
  rw [lg_entry_eq]
  have hl := lv_entry As (n := mL mt) hl
  exact k p e _ s m As.toArray below meth c s.heap [] 0 0 mc ms _ ⟨B.exec, B.bytes, hml, findClass_of_methodNamed B.named, hts, B.returns, B.notSynchronized, hn.1, fun h => absurd h hH, fun _ => htab, Nat.le_refl _, Nat.le_refl _, hE⟩ hP va_S.rf hl (by omega) (by omega) (by omega) (Nat.le_refl _) (Nat.le_refl _)
end
section
theorem V_iconst {g : GE} {mt : MT} {pc : Nat} {lv : List (Nat × Value)} {st : List Value} {M : Mem} {sz kc ks : Nat} {Q : Ou → Mem → Prop} {n : Int} {v : Int32} (d : decode (mC mt) pc = .ok (.iconst n, 1)) (hv : Int32.ofInt n = v) (k : V g mt (pc + 1) lv (.int v :: st) M sz kc ks Q) : V g mt pc lv (st) M sz kc ks Q := by
  intro p e R s m args below meth c H locs cells slots mc ms ls a1 a2 a3 a4 a5 a6 a7 a8 a9
  exact lv_iconst a1.1 a1.2.1 d hv (k p e R s m args below meth c H locs cells slots mc ms ls a1 a2 a3 a4 a5 a6 a7 a8 a9)
theorem V_bipush {g : GE} {mt : MT} {pc : Nat} {lv : List (Nat × Value)} {st : List Value} {M : Mem} {sz kc ks : Nat} {Q : Ou → Mem → Prop} {n : Int} {v : Int32} (d : decode (mC mt) pc = .ok (.bipush n, 2)) (hv : (Int8.ofInt n).toInt32 = v) (k : V g mt (pc + 2) lv (.int v :: st) M sz kc ks Q) : V g mt pc lv (st) M sz kc ks Q := by
  intro p e R s m args below meth c H locs cells slots mc ms ls a1 a2 a3 a4 a5 a6 a7 a8 a9
  exact lv_bipush a1.1 a1.2.1 d hv (k p e R s m args below meth c H locs cells slots mc ms ls a1 a2 a3 a4 a5 a6 a7 a8 a9)
theorem V_sipush {g : GE} {mt : MT} {pc : Nat} {lv : List (Nat × Value)} {st : List Value} {M : Mem} {sz kc ks : Nat} {Q : Ou → Mem → Prop} {n : Int} {v : Int32} (d : decode (mC mt) pc = .ok (.sipush n, 3)) (hv : (Int16.ofInt n).toInt32 = v) (k : V g mt (pc + 3) lv (.int v :: st) M sz kc ks Q) : V g mt pc lv (st) M sz kc ks Q := by
  intro p e R s m args below meth c H locs cells slots mc ms ls a1 a2 a3 a4 a5 a6 a7 a8 a9
  exact lv_sipush a1.1 a1.2.1 d hv (k p e R s m args below meth c H locs cells slots mc ms ls a1 a2 a3 a4 a5 a6 a7 a8 a9)
theorem V_lconst {g : GE} {mt : MT} {pc : Nat} {lv : List (Nat × Value)} {st : List Value} {M : Mem} {sz kc ks : Nat} {Q : Ou → Mem → Prop} {n : Fin 2} {v : Int64} (d : decode (mC mt) pc = .ok (.lconst n, 1)) (hv : Int64.ofNat (n : Nat) = v) (k : V g mt (pc + 1) lv (.long v :: st) M sz kc ks Q) : V g mt pc lv (st) M sz kc ks Q := by
  intro p e R s m args below meth c H locs cells slots mc ms ls a1 a2 a3 a4 a5 a6 a7 a8 a9
  exact lv_lconst a1.1 a1.2.1 d hv (k p e R s m args below meth c H locs cells slots mc ms ls a1 a2 a3 a4 a5 a6 a7 a8 a9)
theorem V_dconst0 {g : GE} {mt : MT} {pc : Nat} {lv : List (Nat × Value)} {st : List Value} {M : Mem} {sz kc ks : Nat} {Q : Ou → Mem → Prop} (d : decode (mC mt) pc = .ok (.dconst 0, 1)) (k : V g mt (pc + 1) lv (.double FP.dconst0 :: st) M sz kc ks Q) : V g mt pc lv (st) M sz kc ks Q := by
  intro p e R s m args below meth c H locs cells slots mc ms ls a1 a2 a3 a4 a5 a6 a7 a8 a9
  exact lv_dconst0 a1.1 a1.2.1 d (k p e R s m args below meth c H locs cells slots mc ms ls a1 a2 a3 a4 a5 a6 a7 a8 a9)
theorem V_dconst1 {g : GE} {mt : MT} {pc : Nat} {lv : List (Nat × Value)} {st : List Value} {M : Mem} {sz kc ks : Nat} {Q : Ou → Mem → Prop} (d : decode (mC mt) pc = .ok (.dconst 1, 1)) (k : V g mt (pc + 1) lv (.double FP.dconst1 :: st) M sz kc ks Q) : V g mt pc lv (st) M sz kc ks Q := by
  intro p e R s m args below meth c H locs cells slots mc ms ls a1 a2 a3 a4 a5 a6 a7 a8 a9
  exact lv_dconst1 a1.1 a1.2.1 d (k p e R s m args below meth c H locs cells slots mc ms ls a1 a2 a3 a4 a5 a6 a7 a8 a9)
theorem V_iload_n {g : GE} {mt : MT} {pc : Nat} {lv : List (Nat × Value)} {st : List Value} {M : Mem} {sz kc ks : Nat} {Q : Ou → Mem → Prop} {i : Fin 4} {x : Int32} (q : Nat) (d : decode (mC mt) pc = .ok (.iload_n i, 1)) (hq : lv[q]? = some ((i : Nat), .int x)) (k : V g mt (pc + 1) lv (.int x :: st) M sz kc ks Q) : V g mt pc lv (st) M sz kc ks Q := by
  intro p e R s m args below meth c H locs cells slots mc ms ls a1 a2 a3 a4 a5 a6 a7 a8 a9
  exact lv_iload_n a1.1 a1.2.1 d rfl (lv_at a4 q hq) (k p e R s m args below meth c H locs cells slots mc ms ls a1 a2 a3 a4 a5 a6 a7 a8 a9)
theorem V_iload {g : GE} {mt : MT} {pc : Nat} {lv : List (Nat × Value)} {st : List Value} {M : Mem} {sz kc ks : Nat} {Q : Ou → Mem → Prop} {i : Nat} {x : Int32} (q : Nat) (d : decode (mC mt) pc = .ok (.iload i, 2)) (hq : lv[q]? = some (i, .int x)) (k : V g mt (pc + 2) lv (.int x :: st) M sz kc ks Q) : V g mt pc lv (st) M sz kc ks Q := by
  intro p e R s m args below meth c H locs cells slots mc ms ls a1 a2 a3 a4 a5 a6 a7 a8 a9
  exact lv_iload a1.1 a1.2.1 d (lv_at a4 q hq) (k p e R s m args below meth c H locs cells slots mc ms ls a1 a2 a3 a4 a5 a6 a7 a8 a9)
theorem V_lload_n {g : GE} {mt : MT} {pc : Nat} {lv : List (Nat × Value)} {st : List Value} {M : Mem} {sz kc ks : Nat} {Q : Ou → Mem → Prop} {i : Fin 4} {x : Int64} (q : Nat) (d : decode (mC mt) pc = .ok (.lload_n i, 1)) (hq : lv[q]? = some ((i : Nat), .long x)) (k : V g mt (pc + 1) lv (.long x :: st) M sz kc ks Q) : V g mt pc lv (st) M sz kc ks Q := by
  intro p e R s m args below meth c H locs cells slots mc ms ls a1 a2 a3 a4 a5 a6 a7 a8 a9
  exact lv_lload_n a1.1 a1.2.1 d rfl (lv_at a4 q hq) (k p e R s m args below meth c H locs cells slots mc ms ls a1 a2 a3 a4 a5 a6 a7 a8 a9)
theorem V_lload {g : GE} {mt : MT} {pc : Nat} {lv : List (Nat × Value)} {st : List Value} {M : Mem} {sz kc ks : Nat} {Q : Ou → Mem → Prop} {i : Nat} {x : Int64} (q : Nat) (d : decode (mC mt) pc = .ok (.lload i, 2)) (hq : lv[q]? = some (i, .long x)) (k : V g mt (pc + 2) lv (.long x :: st) M sz kc ks Q) : V g mt pc lv (st) M sz kc ks Q := by
  intro p e R s m args below meth c H locs cells slots mc ms ls a1 a2 a3 a4 a5 a6 a7 a8 a9
  exact lv_lload a1.1 a1.2.1 d (lv_at a4 q hq) (k p e R s m args below meth c H locs cells slots mc ms ls a1 a2 a3 a4 a5 a6 a7 a8 a9)
theorem V_aload_n {g : GE} {mt : MT} {pc : Nat} {lv : List (Nat × Value)} {st : List Value} {M : Mem} {sz kc ks : Nat} {Q : Ou → Mem → Prop} {i : Fin 4} {x : Nat} (q : Nat) (d : decode (mC mt) pc = .ok (.aload_n i, 1)) (hq : lv[q]? = some ((i : Nat), .ref x)) (k : V g mt (pc + 1) lv (.ref x :: st) M sz kc ks Q) : V g mt pc lv (st) M sz kc ks Q := by
  intro p e R s m args below meth c H locs cells slots mc ms ls a1 a2 a3 a4 a5 a6 a7 a8 a9
  exact lv_aload_n a1.1 a1.2.1 d rfl (lv_at a4 q hq) (k p e R s m args below meth c H locs cells slots mc ms ls a1 a2 a3 a4 a5 a6 a7 a8 a9)
theorem V_aload {g : GE} {mt : MT} {pc : Nat} {lv : List (Nat × Value)} {st : List Value} {M : Mem} {sz kc ks : Nat} {Q : Ou → Mem → Prop} {i : Nat} {x : Nat} (q : Nat) (d : decode (mC mt) pc = .ok (.aload i, 2)) (hq : lv[q]? = some (i, .ref x)) (k : V g mt (pc + 2) lv (.ref x :: st) M sz kc ks Q) : V g mt pc lv (st) M sz kc ks Q := by
  intro p e R s m args below meth c H locs cells slots mc ms ls a1 a2 a3 a4 a5 a6 a7 a8 a9
  exact lv_aload a1.1 a1.2.1 d (lv_at a4 q hq) (k p e R s m args below meth c H locs cells slots mc ms ls a1 a2 a3 a4 a5 a6 a7 a8 a9)
theorem V_dload_n {g : GE} {mt : MT} {pc : Nat} {lv : List (Nat × Value)} {st : List Value} {M : Mem} {sz kc ks : Nat} {Q : Ou → Mem → Prop} {i : Fin 4} {x : UInt64} (q : Nat) (d : decode (mC mt) pc = .ok (.dload_n i, 1)) (hq : lv[q]? = some ((i : Nat), .double x)) (k : V g mt (pc + 1) lv (.double x :: st) M sz kc ks Q) : V g mt pc lv (st) M sz kc ks Q := by
  intro p e R s m args below meth c H locs cells slots mc ms ls a1 a2 a3 a4 a5 a6 a7 a8 a9
  exact lv_dload_n a1.1 a1.2.1 d rfl (lv_at a4 q hq) (k p e R s m args below meth c H locs cells slots mc ms ls a1 a2 a3 a4 a5 a6 a7 a8 a9)
theorem V_dload {g : GE} {mt : MT} {pc : Nat} {lv : List (Nat × Value)} {st : List Value} {M : Mem} {sz kc ks : Nat} {Q : Ou → Mem → Prop} {i : Nat} {x : UInt64} (q : Nat) (d : decode (mC mt) pc = .ok (.dload i, 2)) (hq : lv[q]? = some (i, .double x)) (k : V g mt (pc + 2) lv (.double x :: st) M sz kc ks Q) : V g mt pc lv (st) M sz kc ks Q := by
  intro p e R s m args below meth c H locs cells slots mc ms ls a1 a2 a3 a4 a5 a6 a7 a8 a9
  exact lv_dload a1.1 a1.2.1 d (lv_at a4 q hq) (k p e R s m args below meth c H locs cells slots mc ms ls a1 a2 a3 a4 a5 a6 a7 a8 a9)
theorem V_istore_n {g : GE} {mt : MT} {pc : Nat} {lv : List (Nat × Value)} {st : List Value} {M : Mem} {sz kc ks : Nat} {Q : Ou → Mem → Prop} {i : Fin 4} {x : Int32} {lv2 : List (Nat × Value)} (d : decode (mC mt) pc = .ok (.istore_n i, 1)) (hn : (i : Nat) < mL mt) (hl : ((i : Nat), Value.int x) :: lv.filter (fun q => !(q.1 == (i : Nat)) && !(q.1 + 1 == (i : Nat) && q.2.category == 2)) = lv2) (k : V g mt (pc + 1) lv2 st M sz kc ks Q) : V g mt pc lv (.int x :: st) M sz kc ks Q := by
  intro p e R s m args below meth c H locs cells slots mc ms ls a1 a2 a3 a4 a5 a6 a7 a8 a9
  exact lv_istore_n a1.1 a1.2.1 d rfl a4 hn hl (fun ls a4 => k p e R s m args below meth c H locs cells slots mc ms ls a1 a2 a3 a4 a5 a6 a7 a8 a9)
theorem V_istore {g : GE} {mt : MT} {pc : Nat} {lv : List (Nat × Value)} {st : List Value} {M : Mem} {sz kc ks : Nat} {Q : Ou → Mem → Prop} {i : Nat} {x : Int32} {lv2 : List (Nat × Value)} (d : decode (mC mt) pc = .ok (.istore i, 2)) (hn : i < mL mt) (hl : (i, Value.int x) :: lv.filter (fun q => !(q.1 == i) && !(q.1 + 1 == i && q.2.category == 2)) = lv2) (k : V g mt (pc + 2) lv2 st M sz kc ks Q) : V g mt pc lv (.int x :: st) M sz kc ks Q := by
  intro p e R s m args below meth c H locs cells slots mc ms ls a1 a2 a3 a4 a5 a6 a7 a8 a9
  exact lv_istore a1.1 a1.2.1 d a4 hn hl (fun ls a4 => k p e R s m args below meth c H locs cells slots mc ms ls a1 a2 a3 a4 a5 a6 a7 a8 a9)
theorem V_astore_n {g : GE} {mt : MT} {pc : Nat} {lv : List (Nat × Value)} {st : List Value} {M : Mem} {sz kc ks : Nat} {Q : Ou → Mem → Prop} {i : Fin 4} {x : Nat} {lv2 : List (Nat × Value)} (d : decode (mC mt) pc = .ok (.astore_n i, 1)) (hn : (i : Nat) < mL mt) (hl : ((i : Nat), Value.ref x) :: lv.filter (fun q => !(q.1 == (i : Nat)) && !(q.1 + 1 == (i : Nat) && q.2.category == 2)) = lv2) (k : V g mt (pc + 1) lv2 st M sz kc ks Q) : V g mt pc lv (.ref x :: st) M sz kc ks Q := by
  intro p e R s m args below meth c H locs cells slots mc ms ls a1 a2 a3 a4 a5 a6 a7 a8 a9
  exact lv_astore_n a1.1 a1.2.1 d rfl a4 hn hl (fun ls a4 => k p e R s m args below meth c H locs cells slots mc ms ls a1 a2 a3 a4 a5 a6 a7 a8 a9)
theorem V_astore {g : GE} {mt : MT} {pc : Nat} {lv : List (Nat × Value)} {st : List Value} {M : Mem} {sz kc ks : Nat} {Q : Ou → Mem → Prop} {i : Nat} {x : Nat} {lv2 : List (Nat × Value)} (d : decode (mC mt) pc = .ok (.astore i, 2)) (hn : i < mL mt) (hl : (i, Value.ref x) :: lv.filter (fun q => !(q.1 == i) && !(q.1 + 1 == i && q.2.category == 2)) = lv2) (k : V g mt (pc + 2) lv2 st M sz kc ks Q) : V g mt pc lv (.ref x :: st) M sz kc ks Q := by
  intro p e R s m args below meth c H locs cells slots mc ms ls a1 a2 a3 a4 a5 a6 a7 a8 a9
  exact lv_astore a1.1 a1.2.1 d a4 hn hl (fun ls a4 => k p e R s m args below meth c H locs cells slots mc ms ls a1 a2 a3 a4 a5 a6 a7 a8 a9)
theorem V_lstore_n {g : GE} {mt : MT} {pc : Nat} {lv : List (Nat × Value)} {st : List Value} {M : Mem} {sz kc ks : Nat} {Q : Ou → Mem → Prop} {i : Fin 4} {x : Int64} {lv2 : List (Nat × Value)} (d : decode (mC mt) pc = .ok (.lstore_n i, 1)) (hn : (i : Nat) + 1 < mL mt) (hl : ((i : Nat), Value.long x) :: lv.filter (fun q => !(q.1 == (i : Nat)) && (!(q.1 == (i : Nat) + 1) && !(q.1 + 1 == (i : Nat) && q.2.category == 2))) = lv2) (k : V g mt (pc + 1) lv2 st M sz kc ks Q) : V g mt pc lv (.long x :: st) M sz kc ks Q := by
  intro p e R s m args below meth c H locs cells slots mc ms ls a1 a2 a3 a4 a5 a6 a7 a8 a9
  exact lv_lstore_n a1.1 a1.2.1 d rfl a4 hn hl (fun ls a4 => k p e R s m args below meth c H locs cells slots mc ms ls a1 a2 a3 a4 a5 a6 a7 a8 a9)
theorem V_lstore {g : GE} {mt : MT} {pc : Nat} {lv : List (Nat × Value)} {st : List Value} {M : Mem} {sz kc ks : Nat} {Q : Ou → Mem → Prop} {i : Nat} {x : Int64} {lv2 : List (Nat × Value)} (d : decode (mC mt) pc = .ok (.lstore i, 2)) (hn : i + 1 < mL mt) (hl : (i, Value.long x) :: lv.filter (fun q => !(q.1 == i) && (!(q.1 == i + 1) && !(q.1 + 1 == i && q.2.category == 2))) = lv2) (k : V g mt (pc + 2) lv2 st M sz kc ks Q) : V g mt pc lv (.long x :: st) M sz kc ks Q := by
  intro p e R s m args below meth c H locs cells slots mc ms ls a1 a2 a3 a4 a5 a6 a7 a8 a9
  exact lv_lstore a1.1 a1.2.1 d a4 hn hl (fun ls a4 => k p e R s m args below meth c H locs cells slots mc ms ls a1 a2 a3 a4 a5 a6 a7 a8 a9)
theorem V_dstore_n {g : GE} {mt : MT} {pc : Nat} {lv : List (Nat × Value)} {st : List Value} {M : Mem} {sz kc ks : Nat} {Q : Ou → Mem → Prop} {i : Fin 4} {x : UInt64} {lv2 : List (Nat × Value)} (d : decode (mC mt) pc = .ok (.dstore_n i, 1)) (hn : (i : Nat) + 1 < mL mt) (hl : ((i : Nat), Value.double x) :: lv.filter (fun q => !(q.1 == (i : Nat)) && (!(q.1 == (i : Nat) + 1) && !(q.1 + 1 == (i : Nat) && q.2.category == 2))) = lv2) (k : V g mt (pc + 1) lv2 st M sz kc ks Q) : V g mt pc lv (.double x :: st) M sz kc ks Q := by
  intro p e R s m args below meth c H locs cells slots mc ms ls a1 a2 a3 a4 a5 a6 a7 a8 a9
  exact lv_dstore_n a1.1 a1.2.1 d rfl a4 hn hl (fun ls a4 => k p e R s m args below meth c H locs cells slots mc ms ls a1 a2 a3 a4 a5 a6 a7 a8 a9)
theorem V_dstore {g : GE} {mt : MT} {pc : Nat} {lv : List (Nat × Value)} {st : List Value} {M : Mem} {sz kc ks : Nat} {Q : Ou → Mem → Prop} {i : Nat} {x : UInt64} {lv2 : List (Nat × Value)} (d : decode (mC mt) pc = .ok (.dstore i, 2)) (hn : i + 1 < mL mt) (hl : (i, Value.double x) :: lv.filter (fun q => !(q.1 == i) && (!(q.1 == i + 1) && !(q.1 + 1 == i && q.2.category == 2))) = lv2) (k : V g mt (pc + 2) lv2 st M sz kc ks Q) : V g mt pc lv (.double x :: st) M sz kc ks Q := by
  intro p e R s m args below meth c H locs cells slots mc ms ls a1 a2 a3 a4 a5 a6 a7 a8 a9
  exact lv_dstore a1.1 a1.2.1 d a4 hn hl (fun ls a4 => k p e R s m args below meth c H locs cells slots mc ms ls a1 a2 a3 a4 a5 a6 a7 a8 a9)
theorem V_iinc {g : GE} {mt : MT} {pc : Nat} {lv : List (Nat × Value)} {st : List Value} {M : Mem} {sz kc ks : Nat} {Q : Ou → Mem → Prop} {i : Nat} {n : Int} {x v : Int32} {lv2 : List (Nat × Value)} (q : Nat) (d : decode (mC mt) pc = .ok (.iinc i n, 3)) (hq : lv[q]? = some (i, .int x)) (hv : x + Int32.ofInt n = v) (hn : i < mL mt) (hl : (i, Value.int v) :: lv.filter (fun q => !(q.1 == i) && !(q.1 + 1 == i && q.2.category == 2)) = lv2) (k : V g mt (pc + 3) lv2 st M sz kc ks Q) : V g mt pc lv st M sz kc ks Q := by
  intro p e R s m args below meth c H locs cells slots mc ms ls a1 a2 a3 a4 a5 a6 a7 a8 a9
  exact lv_iinc a1.1 a1.2.1 d a4 hq hv hn hl (fun ls a4 => k p e R s m args below meth c H locs cells slots mc ms ls a1 a2 a3 a4 a5 a6 a7 a8 a9)
theorem V_iadd {g : GE} {mt : MT} {pc : Nat} {lv : List (Nat × Value)} {st : List Value} {M : Mem} {sz kc ks : Nat} {Q : Ou → Mem → Prop} {x y : Int32} (d : decode (mC mt) pc = .ok (.iadd, 1)) (k : V g mt (pc + 1) lv (.int (x + y) :: st) M sz kc ks Q) : V g mt pc lv (.int y :: .int x :: st) M sz kc ks Q := by
  intro p e R s m args below meth c H locs cells slots mc ms ls a1 a2 a3 a4 a5 a6 a7 a8 a9
  exact lv_iadd a1.1 a1.2.1 d (k p e R s m args below meth c H locs cells slots mc ms ls a1 a2 a3 a4 a5 a6 a7 a8 a9)
theorem V_isub {g : GE} {mt : MT} {pc : Nat} {lv : List (Nat × Value)} {st : List Value} {M : Mem} {sz kc ks : Nat} {Q : Ou → Mem → Prop} {x y : Int32} (d : decode (mC mt) pc = .ok (.isub, 1)) (k : V g mt (pc + 1) lv (.int (x - y) :: st) M sz kc ks Q) : V g mt pc lv (.int y :: .int x :: st) M sz kc ks Q := by
  intro p e R s m args below meth c H locs cells slots mc ms ls a1 a2 a3 a4 a5 a6 a7 a8 a9
  exact lv_isub a1.1 a1.2.1 d (k p e R s m args below meth c H locs cells slots mc ms ls a1 a2 a3 a4 a5 a6 a7 a8 a9)
theorem V_imul {g : GE} {mt : MT} {pc : Nat} {lv : List (Nat × Value)} {st : List Value} {M : Mem} {sz kc ks : Nat} {Q : Ou → Mem → Prop} {x y : Int32} (d : decode (mC mt) pc = .ok (.imul, 1)) (k : V g mt (pc + 1) lv (.int (x * y) :: st) M sz kc ks Q) : V g mt pc lv (.int y :: .int x :: st) M sz kc ks Q := by
  intro p e R s m args below meth c H locs cells slots mc ms ls a1 a2 a3 a4 a5 a6 a7 a8 a9
  exact lv_imul a1.1 a1.2.1 d (k p e R s m args below meth c H locs cells slots mc ms ls a1 a2 a3 a4 a5 a6 a7 a8 a9)
theorem V_iand {g : GE} {mt : MT} {pc : Nat} {lv : List (Nat × Value)} {st : List Value} {M : Mem} {sz kc ks : Nat} {Q : Ou → Mem → Prop} {x y : Int32} (d : decode (mC mt) pc = .ok (.iand, 1)) (k : V g mt (pc + 1) lv (.int (x &&& y) :: st) M sz kc ks Q) : V g mt pc lv (.int y :: .int x :: st) M sz kc ks Q := by
  intro p e R s m args below meth c H locs cells slots mc ms ls a1 a2 a3 a4 a5 a6 a7 a8 a9
  exact lv_iand a1.1 a1.2.1 d (k p e R s m args below meth c H locs cells slots mc ms ls a1 a2 a3 a4 a5 a6 a7 a8 a9)
theorem V_ior {g : GE} {mt : MT} {pc : Nat} {lv : List (Nat × Value)} {st : List Value} {M : Mem} {sz kc ks : Nat} {Q : Ou → Mem → Prop} {x y : Int32} (d : decode (mC mt) pc = .ok (.ior, 1)) (k : V g mt (pc + 1) lv (.int (x ||| y) :: st) M sz kc ks Q) : V g mt pc lv (.int y :: .int x :: st) M sz kc ks Q := by
  intro p e R s m args below meth c H locs cells slots mc ms ls a1 a2 a3 a4 a5 a6 a7 a8 a9
  exact lv_ior a1.1 a1.2.1 d (k p e R s m args below meth c H locs cells slots mc ms ls a1 a2 a3 a4 a5 a6 a7 a8 a9)
theorem V_ixor {g : GE} {mt : MT} {pc : Nat} {lv : List (Nat × Value)} {st : List Value} {M : Mem} {sz kc ks : Nat} {Q : Ou → Mem → Prop} {x y : Int32} (d : decode (mC mt) pc = .ok (.ixor, 1)) (k : V g mt (pc + 1) lv (.int (x ^^^ y) :: st) M sz kc ks Q) : V g mt pc lv (.int y :: .int x :: st) M sz kc ks Q := by
  intro p e R s m args below meth c H locs cells slots mc ms ls a1 a2 a3 a4 a5 a6 a7 a8 a9
  exact lv_ixor a1.1 a1.2.1 d (k p e R s m args below meth c H locs cells slots mc ms ls a1 a2 a3 a4 a5 a6 a7 a8 a9)
theorem V_ladd {g : GE} {mt : MT} {pc : Nat} {lv : List (Nat × Value)} {st : List Value} {M : Mem} {sz kc ks : Nat} {Q : Ou → Mem → Prop} {x y : Int64} (d : decode (mC mt) pc = .ok (.ladd, 1)) (k : V g mt (pc + 1) lv (.long (x + y) :: st) M sz kc ks Q) : V g mt pc lv (.long y :: .long x :: st) M sz kc ks Q := by
  intro p e R s m args below meth c H locs cells slots mc ms ls a1 a2 a3 a4 a5 a6 a7 a8 a9
  exact lv_ladd a1.1 a1.2.1 d (k p e R s m args below meth c H locs cells slots mc ms ls a1 a2 a3 a4 a5 a6 a7 a8 a9)
theorem V_lsub {g : GE} {mt : MT} {pc : Nat} {lv : List (Nat × Value)} {st : List Value} {M : Mem} {sz kc ks : Nat} {Q : Ou → Mem → Prop} {x y : Int64} (d : decode (mC mt) pc = .ok (.lsub, 1)) (k : V g mt (pc + 1) lv (.long (x - y) :: st) M sz kc ks Q) : V g mt pc lv (.long y :: .long x :: st) M sz kc ks Q := by
  intro p e R s m args below meth c H locs cells slots mc ms ls a1 a2 a3 a4 a5 a6 a7 a8 a9
  exact lv_lsub a1.1 a1.2.1 d (k p e R s m args below meth c H locs cells slots mc ms ls a1 a2 a3 a4 a5 a6 a7 a8 a9)
theorem V_lmul {g : GE} {mt : MT} {pc : Nat} {lv : List (Nat × Value)} {st : List Value} {M : Mem} {sz kc ks : Nat} {Q : Ou → Mem → Prop} {x y : Int64} (d : decode (mC mt) pc = .ok (.lmul, 1)) (k : V g mt (pc + 1) lv (.long (x * y) :: st) M sz kc ks Q) : V g mt pc lv (.long y :: .long x :: st) M sz kc ks Q := by
  intro p e R s m args below meth c H locs cells slots mc ms ls a1 a2 a3 a4 a5 a6 a7 a8 a9
  exact lv_lmul a1.1 a1.2.1 d (k p e R s m args below meth c H locs cells slots mc ms ls a1 a2 a3 a4 a5 a6 a7 a8 a9)
theorem V_lxor {g : GE} {mt : MT} {pc : Nat} {lv : List (Nat × Value)} {st : List Value} {M : Mem} {sz kc ks : Nat} {Q : Ou → Mem → Prop} {x y : Int64} (d : decode (mC mt) pc = .ok (.lxor, 1)) (k : V g mt (pc + 1) lv (.long (x ^^^ y) :: st) M sz kc ks Q) : V g mt pc lv (.long y :: .long x :: st) M sz kc ks Q := by
  intro p e R s m args below meth c H locs cells slots mc ms ls a1 a2 a3 a4 a5 a6 a7 a8 a9
  exact lv_lxor a1.1 a1.2.1 d (k p e R s m args below meth c H locs cells slots mc ms ls a1 a2 a3 a4 a5 a6 a7 a8 a9)
theorem V_idiv {g : GE} {mt : MT} {pc : Nat} {lv : List (Nat × Value)} {st : List Value} {M : Mem} {sz kc ks : Nat} {Q : Ou → Mem → Prop} {x y : Int32} (d : decode (mC mt) pc = .ok (.idiv, 1)) (h0 : ¬ y = 0) (k : V g mt (pc + 1) lv (.int (x / y) :: st) M sz kc ks Q) : V g mt pc lv (.int y :: .int x :: st) M sz kc ks Q := by
  intro p e R s m args below meth c H locs cells slots mc ms ls a1 a2 a3 a4 a5 a6 a7 a8 a9
  exact lv_idiv a1.1 a1.2.1 d h0 (k p e R s m args below meth c H locs cells slots mc ms ls a1 a2 a3 a4 a5 a6 a7 a8 a9)
theorem V_ldiv {g : GE} {mt : MT} {pc : Nat} {lv : List (Nat × Value)} {st : List Value} {M : Mem} {sz kc ks : Nat} {Q : Ou → Mem → Prop} {x y : Int64} (d : decode (mC mt) pc = .ok (.ldiv, 1)) (h0 : ¬ y = 0) (k : V g mt (pc + 1) lv (.long (x / y) :: st) M sz kc ks Q) : V g mt pc lv (.long y :: .long x :: st) M sz kc ks Q := by
  intro p e R s m args below meth c H locs cells slots mc ms ls a1 a2 a3 a4 a5 a6 a7 a8 a9
  exact lv_ldiv a1.1 a1.2.1 d h0 (k p e R s m args below meth c H locs cells slots mc ms ls a1 a2 a3 a4 a5 a6 a7 a8 a9)
theorem V_irem {g : GE} {mt : MT} {pc : Nat} {lv : List (Nat × Value)} {st : List Value} {M : Mem} {sz kc ks : Nat} {Q : Ou → Mem → Prop} {x y : Int32} (d : decode (mC mt) pc = .ok (.irem, 1)) (h0 : ¬ y = 0) (k : V g mt (pc + 1) lv (.int (x - x / y * y) :: st) M sz kc ks Q) : V g mt pc lv (.int y :: .int x :: st) M sz kc ks Q := by
  intro p e R s m args below meth c H locs cells slots mc ms ls a1 a2 a3 a4 a5 a6 a7 a8 a9
  exact lv_irem a1.1 a1.2.1 d h0 (k p e R s m args below meth c H locs cells slots mc ms ls a1 a2 a3 a4 a5 a6 a7 a8 a9)
theorem V_lrem {g : GE} {mt : MT} {pc : Nat} {lv : List (Nat × Value)} {st : List Value} {M : Mem} {sz kc ks : Nat} {Q : Ou → Mem → Prop} {x y : Int64} (d : decode (mC mt) pc = .ok (.lrem, 1)) (h0 : ¬ y = 0) (k : V g mt (pc + 1) lv (.long (x - x / y * y) :: st) M sz kc ks Q) : V g mt pc lv (.long y :: .long x :: st) M sz kc ks Q := by
  intro p e R s m args below meth c H locs cells slots mc ms ls a1 a2 a3 a4 a5 a6 a7 a8 a9
  exact lv_lrem a1.1 a1.2.1 d h0 (k p e R s m args below meth c H locs cells slots mc ms ls a1 a2 a3 a4 a5 a6 a7 a8 a9)
theorem V_lneg {g : GE} {mt : MT} {pc : Nat} {lv : List (Nat × Value)} {st : List Value} {M : Mem} {sz kc ks : Nat} {Q : Ou → Mem → Prop} {x : Int64} (d : decode (mC mt) pc = .ok (.lneg, 1)) (k : V g mt (pc + 1) lv (.long (-x) :: st) M sz kc ks Q) : V g mt pc lv (.long x :: st) M sz kc ks Q := by
  intro p e R s m args below meth c H locs cells slots mc ms ls a1 a2 a3 a4 a5 a6 a7 a8 a9
  exact lv_lneg a1.1 a1.2.1 d (k p e R s m args below meth c H locs cells slots mc ms ls a1 a2 a3 a4 a5 a6 a7 a8 a9)
theorem V_ishl {g : GE} {mt : MT} {pc : Nat} {lv : List (Nat × Value)} {st : List Value} {M : Mem} {sz kc ks : Nat} {Q : Ou → Mem → Prop} {x y : Int32} (d : decode (mC mt) pc = .ok (.ishl, 1)) (k : V g mt (pc + 1) lv (.int (x <<< (y &&& 31)) :: st) M sz kc ks Q) : V g mt pc lv (.int y :: .int x :: st) M sz kc ks Q := by
  intro p e R s m args below meth c H locs cells slots mc ms ls a1 a2 a3 a4 a5 a6 a7 a8 a9
  exact lv_ishl a1.1 a1.2.1 d (k p e R s m args below meth c H locs cells slots mc ms ls a1 a2 a3 a4 a5 a6 a7 a8 a9)
theorem V_ishr {g : GE} {mt : MT} {pc : Nat} {lv : List (Nat × Value)} {st : List Value} {M : Mem} {sz kc ks : Nat} {Q : Ou → Mem → Prop} {x y : Int32} (d : decode (mC mt) pc = .ok (.ishr, 1)) (k : V g mt (pc + 1) lv (.int (x >>> (y &&& 31)) :: st) M sz kc ks Q) : V g mt pc lv (.int y :: .int x :: st) M sz kc ks Q := by
  intro p e R s m args below meth c H locs cells slots mc ms ls a1 a2 a3 a4 a5 a6 a7 a8 a9
  exact lv_ishr a1.1 a1.2.1 d (k p e R s m args below meth c H locs cells slots mc ms ls a1 a2 a3 a4 a5 a6 a7 a8 a9)
theorem V_iushr {g : GE} {mt : MT} {pc : Nat} {lv : List (Nat × Value)} {st : List Value} {M : Mem} {sz kc ks : Nat} {Q : Ou → Mem → Prop} {x y : Int32} (d : decode (mC mt) pc = .ok (.iushr, 1)) (k : V g mt (pc + 1) lv (.int ((x.toUInt32 >>> (y.toUInt32 &&& Int32.toUInt32 31)).toInt32) :: st) M sz kc ks Q) : V g mt pc lv (.int y :: .int x :: st) M sz kc ks Q := by
  intro p e R s m args below meth c H locs cells slots mc ms ls a1 a2 a3 a4 a5 a6 a7 a8 a9
  exact lv_iushr a1.1 a1.2.1 d rfl (k p e R s m args below meth c H locs cells slots mc ms ls a1 a2 a3 a4 a5 a6 a7 a8 a9)
theorem V_lshl {g : GE} {mt : MT} {pc : Nat} {lv : List (Nat × Value)} {st : List Value} {M : Mem} {sz kc ks : Nat} {Q : Ou → Mem → Prop} {x : Int64} {y : Int32} (d : decode (mC mt) pc = .ok (.lshl, 1)) (k : V g mt (pc + 1) lv (.long (x <<< (y.toInt64 &&& 63)) :: st) M sz kc ks Q) : V g mt pc lv (.int y :: .long x :: st) M sz kc ks Q := by
  intro p e R s m args below meth c H locs cells slots mc ms ls a1 a2 a3 a4 a5 a6 a7 a8 a9
  exact lv_lshl a1.1 a1.2.1 d rfl (k p e R s m args below meth c H locs cells slots mc ms ls a1 a2 a3 a4 a5 a6 a7 a8 a9)
theorem V_i2l {g : GE} {mt : MT} {pc : Nat} {lv : List (Nat × Value)} {st : List Value} {M : Mem} {sz kc ks : Nat} {Q : Ou → Mem → Prop} {x : Int32} (d : decode (mC mt) pc = .ok (.i2l, 1)) (k : V g mt (pc + 1) lv (.long x.toInt64 :: st) M sz kc ks Q) : V g mt pc lv (.int x :: st) M sz kc ks Q := by
  intro p e R s m args below meth c H locs cells slots mc ms ls a1 a2 a3 a4 a5 a6 a7 a8 a9
  exact lv_i2l a1.1 a1.2.1 d rfl (k p e R s m args below meth c H locs cells slots mc ms ls a1 a2 a3 a4 a5 a6 a7 a8 a9)
theorem V_l2i {g : GE} {mt : MT} {pc : Nat} {lv : List (Nat × Value)} {st : List Value} {M : Mem} {sz kc ks : Nat} {Q : Ou → Mem → Prop} {x : Int64} (d : decode (mC mt) pc = .ok (.l2i, 1)) (k : V g mt (pc + 1) lv (.int x.toInt32 :: st) M sz kc ks Q) : V g mt pc lv (.long x :: st) M sz kc ks Q := by
  intro p e R s m args below meth c H locs cells slots mc ms ls a1 a2 a3 a4 a5 a6 a7 a8 a9
  exact lv_l2i a1.1 a1.2.1 d rfl (k p e R s m args below meth c H locs cells slots mc ms ls a1 a2 a3 a4 a5 a6 a7 a8 a9)
theorem V_i2d {g : GE} {mt : MT} {pc : Nat} {lv : List (Nat × Value)} {st : List Value} {M : Mem} {sz kc ks : Nat} {Q : Ou → Mem → Prop} {x : Int32} (d : decode (mC mt) pc = .ok (.i2d, 1)) (k : V g mt (pc + 1) lv (.double (FP.i2d x) :: st) M sz kc ks Q) : V g mt pc lv (.int x :: st) M sz kc ks Q := by
  intro p e R s m args below meth c H locs cells slots mc ms ls a1 a2 a3 a4 a5 a6 a7 a8 a9
  exact lv_i2d a1.1 a1.2.1 d (k p e R s m args below meth c H locs cells slots mc ms ls a1 a2 a3 a4 a5 a6 a7 a8 a9)
theorem V_l2d {g : GE} {mt : MT} {pc : Nat} {lv : List (Nat × Value)} {st : List Value} {M : Mem} {sz kc ks : Nat} {Q : Ou → Mem → Prop} {x : Int64} (d : decode (mC mt) pc = .ok (.l2d, 1)) (k : V g mt (pc + 1) lv (.double (FP.l2d x) :: st) M sz kc ks Q) : V g mt pc lv (.long x :: st) M sz kc ks Q := by
  intro p e R s m args below meth c H locs cells slots mc ms ls a1 a2 a3 a4 a5 a6 a7 a8 a9
  exact lv_l2d a1.1 a1.2.1 d (k p e R s m args below meth c H locs cells slots mc ms ls a1 a2 a3 a4 a5 a6 a7 a8 a9)
theorem V_d2l {g : GE} {mt : MT} {pc : Nat} {lv : List (Nat × Value)} {st : List Value} {M : Mem} {sz kc ks : Nat} {Q : Ou → Mem → Prop} {x : UInt64} (d : decode (mC mt) pc = .ok (.d2l, 1)) (k : V g mt (pc + 1) lv (.long (FP.d2l x) :: st) M sz kc ks Q) : V g mt pc lv (.double x :: st) M sz kc ks Q := by
  intro p e R s m args below meth c H locs cells slots mc ms ls a1 a2 a3 a4 a5 a6 a7 a8 a9
  exact lv_d2l a1.1 a1.2.1 d (k p e R s m args below meth c H locs cells slots mc ms ls a1 a2 a3 a4 a5 a6 a7 a8 a9)
theorem V_dmul {g : GE} {mt : MT} {pc : Nat} {lv : List (Nat × Value)} {st : List Value} {M : Mem} {sz kc ks : Nat} {Q : Ou → Mem → Prop} {x y : UInt64} (d : decode (mC mt) pc = .ok (.dmul, 1)) (h0 : vf_n64 (FP.dmul x y)) (k : V g mt (pc + 1) lv (.double (FP.dmul x y) :: st) M sz kc ks Q) : V g mt pc lv (.double y :: .double x :: st) M sz kc ks Q := by
  intro p e R s m args below meth c H locs cells slots mc ms ls a1 a2 a3 a4 a5 a6 a7 a8 a9
  exact lv_dmul a1.1 a1.2.1 d h0 (k p e R s m args below meth c H locs cells slots mc ms ls a1 a2 a3 a4 a5 a6 a7 a8 a9)
theorem V_ddiv {g : GE} {mt : MT} {pc : Nat} {lv : List (Nat × Value)} {st : List Value} {M : Mem} {sz kc ks : Nat} {Q : Ou → Mem → Prop} {x y : UInt64} (d : decode (mC mt) pc = .ok (.ddiv, 1)) (h0 : vf_n64 (FP.ddiv x y)) (k : V g mt (pc + 1) lv (.double (FP.ddiv x y) :: st) M sz kc ks Q) : V g mt pc lv (.double y :: .double x :: st) M sz kc ks Q := by
  intro p e R s m args below meth c H locs cells slots mc ms ls a1 a2 a3 a4 a5 a6 a7 a8 a9
  exact lv_ddiv a1.1 a1.2.1 d h0 (k p e R s m args below meth c H locs cells slots mc ms ls a1 a2 a3 a4 a5 a6 a7 a8 a9)
theorem V_dcmp {g : GE} {mt : MT} {pc : Nat} {lv : List (Nat × Value)} {st : List Value} {M : Mem} {sz kc ks : Nat} {Q : Ou → Mem → Prop} {x y : UInt64} {op : CmpOp} (d : decode (mC mt) pc = .ok (.dcmp op, 1)) (k : V g mt (pc + 1) lv (.int (Op.cmpValue (FP.dcmp x y) op) :: st) M sz kc ks Q) : V g mt pc lv (.double y :: .double x :: st) M sz kc ks Q := by
  intro p e R s m args below meth c H locs cells slots mc ms ls a1 a2 a3 a4 a5 a6 a7 a8 a9
  exact lv_dcmp a1.1 a1.2.1 d (k p e R s m args below meth c H locs cells slots mc ms ls a1 a2 a3 a4 a5 a6 a7 a8 a9)
theorem V_lcmp {g : GE} {mt : MT} {pc : Nat} {lv : List (Nat × Value)} {st : List Value} {M : Mem} {sz kc ks : Nat} {Q : Ou → Mem → Prop} {x y : Int64} (d : decode (mC mt) pc = .ok (.lcmp, 1)) (k : V g mt (pc + 1) lv (.int (lg_cmp x y) :: st) M sz kc ks Q) : V g mt pc lv (.long y :: .long x :: st) M sz kc ks Q := by
  intro p e R s m args below meth c H locs cells slots mc ms ls a1 a2 a3 a4 a5 a6 a7 a8 a9
  exact W.lcmp a1.1 a1.2.1 d (k p e R s m args below meth c H locs cells slots mc ms ls a1 a2 a3 a4 a5 a6 a7 a8 a9)
theorem V_dup {g : GE} {mt : MT} {pc : Nat} {lv : List (Nat × Value)} {st : List Value} {M : Mem} {sz kc ks : Nat} {Q : Ou → Mem → Prop} {v : Value} (d : decode (mC mt) pc = .ok (.dup, 1)) (hc : v.category = 1) (k : V g mt (pc + 1) lv (v :: v :: st) M sz kc ks Q) : V g mt pc lv (v :: st) M sz kc ks Q := by
  intro p e R s m args below meth c H locs cells slots mc ms ls a1 a2 a3 a4 a5 a6 a7 a8 a9
  exact lv_dup a1.1 a1.2.1 d hc (k p e R s m args below meth c H locs cells slots mc ms ls a1 a2 a3 a4 a5 a6 a7 a8 a9)
theorem V_dup2 {g : GE} {mt : MT} {pc : Nat} {lv : List (Nat × Value)} {st : List Value} {M : Mem} {sz kc ks : Nat} {Q : Ou → Mem → Prop} {v w : Value} (d : decode (mC mt) pc = .ok (.dup2, 1)) (hc : v.category = 1) (hw : w.category = 1) (k : V g mt (pc + 1) lv (v :: w :: v :: w :: st) M sz kc ks Q) : V g mt pc lv (v :: w :: st) M sz kc ks Q := by
  intro p e R s m args below meth c H locs cells slots mc ms ls a1 a2 a3 a4 a5 a6 a7 a8 a9
  exact lv_dup2_11 a1.1 a1.2.1 d hc hw (k p e R s m args below meth c H locs cells slots mc ms ls a1 a2 a3 a4 a5 a6 a7 a8 a9)
theorem V_pop {g : GE} {mt : MT} {pc : Nat} {lv : List (Nat × Value)} {st : List Value} {M : Mem} {sz kc ks : Nat} {Q : Ou → Mem → Prop} {v : Value} (d : decode (mC mt) pc = .ok (.pop, 1)) (hc : v.category = 1) (k : V g mt (pc + 1) lv (st) M sz kc ks Q) : V g mt pc lv (v :: st) M sz kc ks Q := by
  intro p e R s m args below meth c H locs cells slots mc ms ls a1 a2 a3 a4 a5 a6 a7 a8 a9
  exact lv_pop a1.1 a1.2.1 d hc (k p e R s m args below meth c H locs cells slots mc ms ls a1 a2 a3 a4 a5 a6 a7 a8 a9)
theorem V_goto {g : GE} {mt : MT} {pc : Nat} {lv : List (Nat × Value)} {st : List Value} {M : Mem} {sz kc ks : Nat} {Q : Ou → Mem → Prop} {off : Int} {tgt : Nat} (d : decode (mC mt) pc = .ok (.goto off, 3)) (ht : (pc : Int) + off = (tgt : Int)) (k : V g mt (tgt) lv (st) M sz kc ks Q) : V g mt pc lv (st) M sz kc ks Q := by
  intro p e R s m args below meth c H locs cells slots mc ms ls a1 a2 a3 a4 a5 a6 a7 a8 a9
  exact lv_goto a1.1 a1.2.1 d ht (k p e R s m args below meth c H locs cells slots mc ms ls a1 a2 a3 a4 a5 a6 a7 a8 a9)
theorem V_ifnull {g : GE} {mt : MT} {pc : Nat} {lv : List (Nat × Value)} {st : List Value} {M : Mem} {sz kc ks : Nat} {Q : Ou → Mem → Prop} {x : Nat} {off : Int} (d : decode (mC mt) pc = .ok (.ifnull off, 3)) (k : V g mt (pc + 3) lv (st) M sz kc ks Q) : V g mt pc lv (.ref x :: st) M sz kc ks Q := by
  intro p e R s m args below meth c H locs cells slots mc ms ls a1 a2 a3 a4 a5 a6 a7 a8 a9
  exact lv_ifnull a1.1 a1.2.1 d (k p e R s m args below meth c H locs cells slots mc ms ls a1 a2 a3 a4 a5 a6 a7 a8 a9)
theorem V_ifnullN {g : GE} {mt : MT} {pc : Nat} {lv : List (Nat × Value)} {st : List Value} {M : Mem} {sz kc ks : Nat} {Q : Ou → Mem → Prop} {off : Int} {tgt : Nat} (d : decode (mC mt) pc = .ok (.ifnull off, 3)) (ht : (pc : Int) + off = (tgt : Int)) (k : V g mt (tgt) lv (st) M sz kc ks Q) : V g mt pc lv (.null :: st) M sz kc ks Q := by
  intro p e R s m args below meth c H locs cells slots mc ms ls a1 a2 a3 a4 a5 a6 a7 a8 a9
  exact lv_ifnullN a1.1 a1.2.1 d ht (k p e R s m args below meth c H locs cells slots mc ms ls a1 a2 a3 a4 a5 a6 a7 a8 a9)
theorem V_ifnonnull {g : GE} {mt : MT} {pc : Nat} {lv : List (Nat × Value)} {st : List Value} {M : Mem} {sz kc ks : Nat} {Q : Ou → Mem → Prop} {x : Nat} {off : Int} {tgt : Nat} (d : decode (mC mt) pc = .ok (.ifnonnull off, 3)) (ht : (pc : Int) + off = (tgt : Int)) (k : V g mt (tgt) lv (st) M sz kc ks Q) : V g mt pc lv (.ref x :: st) M sz kc ks Q := by
  intro p e R s m args below meth c H locs cells slots mc ms ls a1 a2 a3 a4 a5 a6 a7 a8 a9
  exact lv_ifnonnull a1.1 a1.2.1 d ht (k p e R s m args below meth c H locs cells slots mc ms ls a1 a2 a3 a4 a5 a6 a7 a8 a9)
theorem V_if_eq {g : GE} {mt : MT} {pc : Nat} {lv : List (Nat × Value)} {st : List Value} {M : Mem} {sz kc ks : Nat} {Q : Ou → Mem → Prop} {x : Int32} {off : Int} {tgt : Nat} (d : decode (mC mt) pc = .ok (.ifCond .eq off, 3)) (ht : (pc : Int) + off = (tgt : Int)) (kt : x = 0 → V g mt tgt lv st M sz kc ks Q) (kf : ¬ x = 0 → V g mt (pc + 3) lv st M sz kc ks Q) : V g mt pc lv (.int x :: st) M sz kc ks Q := by
  intro p e R s m args below meth c H locs cells slots mc ms ls a1 a2 a3 a4 a5 a6 a7 a8 a9
  exact lv_if_eq a1.1 a1.2.1 d ht (fun h => kt h p e R s m args below meth c H locs cells slots mc ms ls a1 a2 a3 a4 a5 a6 a7 a8 a9) (fun h => kf h p e R s m args below meth c H locs cells slots mc ms ls a1 a2 a3 a4 a5 a6 a7 a8 a9)
theorem V_if_ne {g : GE} {mt : MT} {pc : Nat} {lv : List (Nat × Value)} {st : List Value} {M : Mem} {sz kc ks : Nat} {Q : Ou → Mem → Prop} {x : Int32} {off : Int} {tgt : Nat} (d : decode (mC mt) pc = .ok (.ifCond .ne off, 3)) (ht : (pc : Int) + off = (tgt : Int)) (kt : ¬ x = 0 → V g mt tgt lv st M sz kc ks Q) (kf : x = 0 → V g mt (pc + 3) lv st M sz kc ks Q) : V g mt pc lv (.int x :: st) M sz kc ks Q := by
  intro p e R s m args below meth c H locs cells slots mc ms ls a1 a2 a3 a4 a5 a6 a7 a8 a9
  exact lv_if_ne a1.1 a1.2.1 d ht (fun h => kt h p e R s m args below meth c H locs cells slots mc ms ls a1 a2 a3 a4 a5 a6 a7 a8 a9) (fun h => kf h p e R s m args below meth c H locs cells slots mc ms ls a1 a2 a3 a4 a5 a6 a7 a8 a9)
theorem V_if_lt {g : GE} {mt : MT} {pc : Nat} {lv : List (Nat × Value)} {st : List Value} {M : Mem} {sz kc ks : Nat} {Q : Ou → Mem → Prop} {x : Int32} {off : Int} {tgt : Nat} (d : decode (mC mt) pc = .ok (.ifCond .lt off, 3)) (ht : (pc : Int) + off = (tgt : Int)) (kt : x < 0 → V g mt tgt lv st M sz kc ks Q) (kf : ¬ x < 0 → V g mt (pc + 3) lv st M sz kc ks Q) : V g mt pc lv (.int x :: st) M sz kc ks Q := by
  intro p e R s m args below meth c H locs cells slots mc ms ls a1 a2 a3 a4 a5 a6 a7 a8 a9
  exact lv_if_lt a1.1 a1.2.1 d ht (fun h => kt h p e R s m args below meth c H locs cells slots mc ms ls a1 a2 a3 a4 a5 a6 a7 a8 a9) (fun h => kf h p e R s m args below meth c H locs cells slots mc ms ls a1 a2 a3 a4 a5 a6 a7 a8 a9)
theorem V_if_ge {g : GE} {mt : MT} {pc : Nat} {lv : List (Nat × Value)} {st : List Value} {M : Mem} {sz kc ks : Nat} {Q : Ou → Mem → Prop} {x : Int32} {off : Int} {tgt : Nat} (d : decode (mC mt) pc = .ok (.ifCond .ge off, 3)) (ht : (pc : Int) + off = (tgt : Int)) (kt : 0 ≤ x → V g mt tgt lv st M sz kc ks Q) (kf : ¬ 0 ≤ x → V g mt (pc + 3) lv st M sz kc ks Q) : V g mt pc lv (.int x :: st) M sz kc ks Q := by
  intro p e R s m args below meth c H locs cells slots mc ms ls a1 a2 a3 a4 a5 a6 a7 a8 a9
  exact lv_if_ge a1.1 a1.2.1 d ht (fun h => kt h p e R s m args below meth c H locs cells slots mc ms ls a1 a2 a3 a4 a5 a6 a7 a8 a9) (fun h => kf h p e R s m args below meth c H locs cells slots mc ms ls a1 a2 a3 a4 a5 a6 a7 a8 a9)
theorem V_if_gt {g : GE} {mt : MT} {pc : Nat} {lv : List (Nat × Value)} {st : List Value} {M : Mem} {sz kc ks : Nat} {Q : Ou → Mem → Prop} {x : Int32} {off : Int} {tgt : Nat} (d : decode (mC mt) pc = .ok (.ifCond .gt off, 3)) (ht : (pc : Int) + off = (tgt : Int)) (kt : 0 < x → V g mt tgt lv st M sz kc ks Q) (kf : ¬ 0 < x → V g mt (pc + 3) lv st M sz kc ks Q) : V g mt pc lv (.int x :: st) M sz kc ks Q := by
  intro p e R s m args below meth c H locs cells slots mc ms ls a1 a2 a3 a4 a5 a6 a7 a8 a9
  exact lv_if_gt a1.1 a1.2.1 d ht (fun h => kt h p e R s m args below meth c H locs cells slots mc ms ls a1 a2 a3 a4 a5 a6 a7 a8 a9) (fun h => kf h p e R s m args below meth c H locs cells slots mc ms ls a1 a2 a3 a4 a5 a6 a7 a8 a9)
theorem V_if_le {g : GE} {mt : MT} {pc : Nat} {lv : List (Nat × Value)} {st : List Value} {M : Mem} {sz kc ks : Nat} {Q : Ou → Mem → Prop} {x : Int32} {off : Int} {tgt : Nat} (d : decode (mC mt) pc = .ok (.ifCond .le off, 3)) (ht : (pc : Int) + off = (tgt : Int)) (kt : x ≤ 0 → V g mt tgt lv st M sz kc ks Q) (kf : ¬ x ≤ 0 → V g mt (pc + 3) lv st M sz kc ks Q) : V g mt pc lv (.int x :: st) M sz kc ks Q := by
  intro p e R s m args below meth c H locs cells slots mc ms ls a1 a2 a3 a4 a5 a6 a7 a8 a9
  exact lv_if_le a1.1 a1.2.1 d ht (fun h => kt h p e R s m args below meth c H locs cells slots mc ms ls a1 a2 a3 a4 a5 a6 a7 a8 a9) (fun h => kf h p e R s m args below meth c H locs cells slots mc ms ls a1 a2 a3 a4 a5 a6 a7 a8 a9)
theorem V_icmp_eq {g : GE} {mt : MT} {pc : Nat} {lv : List (Nat × Value)} {st : List Value} {M : Mem} {sz kc ks : Nat} {Q : Ou → Mem → Prop} {x y : Int32} {off : Int} {tgt : Nat} (d : decode (mC mt) pc = .ok (.if_icmp .eq off, 3)) (ht : (pc : Int) + off = (tgt : Int)) (kt : x = y → V g mt tgt lv st M sz kc ks Q) (kf : ¬ x = y → V g mt (pc + 3) lv st M sz kc ks Q) : V g mt pc lv (.int y :: .int x :: st) M sz kc ks Q := by
  intro p e R s m args below meth c H locs cells slots mc ms ls a1 a2 a3 a4 a5 a6 a7 a8 a9
  exact lv_icmp_eq a1.1 a1.2.1 d ht (fun h => kt h p e R s m args below meth c H locs cells slots mc ms ls a1 a2 a3 a4 a5 a6 a7 a8 a9) (fun h => kf h p e R s m args below meth c H locs cells slots mc ms ls a1 a2 a3 a4 a5 a6 a7 a8 a9)
theorem V_icmp_ne {g : GE} {mt : MT} {pc : Nat} {lv : List (Nat × Value)} {st : List Value} {M : Mem} {sz kc ks : Nat} {Q : Ou → Mem → Prop} {x y : Int32} {off : Int} {tgt : Nat} (d : decode (mC mt) pc = .ok (.if_icmp .ne off, 3)) (ht : (pc : Int) + off = (tgt : Int)) (kt : ¬ x = y → V g mt tgt lv st M sz kc ks Q) (kf : x = y → V g mt (pc + 3) lv st M sz kc ks Q) : V g mt pc lv (.int y :: .int x :: st) M sz kc ks Q := by
  intro p e R s m args below meth c H locs cells slots mc ms ls a1 a2 a3 a4 a5 a6 a7 a8 a9
  exact lv_icmp_ne a1.1 a1.2.1 d ht (fun h => kt h p e R s m args below meth c H locs cells slots mc ms ls a1 a2 a3 a4 a5 a6 a7 a8 a9) (fun h => kf h p e R s m args below meth c H locs cells slots mc ms ls a1 a2 a3 a4 a5 a6 a7 a8 a9)
theorem V_icmp_lt {g : GE} {mt : MT} {pc : Nat} {lv : List (Nat × Value)} {st : List Value} {M : Mem} {sz kc ks : Nat} {Q : Ou → Mem → Prop} {x y : Int32} {off : Int} {tgt : Nat} (d : decode (mC mt) pc = .ok (.if_icmp .lt off, 3)) (ht : (pc : Int) + off = (tgt : Int)) (kt : x < y → V g mt tgt lv st M sz kc ks Q) (kf : ¬ x < y → V g mt (pc + 3) lv st M sz kc ks Q) : V g mt pc lv (.int y :: .int x :: st) M sz kc ks Q := by
  intro p e R s m args below meth c H locs cells slots mc ms ls a1 a2 a3 a4 a5 a6 a7 a8 a9
  exact lv_icmp_lt a1.1 a1.2.1 d ht (fun h => kt h p e R s m args below meth c H locs cells slots mc ms ls a1 a2 a3 a4 a5 a6 a7 a8 a9) (fun h => kf h p e R s m args below meth c H locs cells slots mc ms ls a1 a2 a3 a4 a5 a6 a7 a8 a9)
theorem V_icmp_ge {g : GE} {mt : MT} {pc : Nat} {lv : List (Nat × Value)} {st : List Value} {M : Mem} {sz kc ks : Nat} {Q : Ou → Mem → Prop} {x y : Int32} {off : Int} {tgt : Nat} (d : decode (mC mt) pc = .ok (.if_icmp .ge off, 3)) (ht : (pc : Int) + off = (tgt : Int)) (kt : y ≤ x → V g mt tgt lv st M sz kc ks Q) (kf : ¬ y ≤ x → V g mt (pc + 3) lv st M sz kc ks Q) : V g mt pc lv (.int y :: .int x :: st) M sz kc ks Q := by
  intro p e R s m args below meth c H locs cells slots mc ms ls a1 a2 a3 a4 a5 a6 a7 a8 a9
  exact lv_icmp_ge a1.1 a1.2.1 d ht (fun h => kt h p e R s m args below meth c H locs cells slots mc ms ls a1 a2 a3 a4 a5 a6 a7 a8 a9) (fun h => kf h p e R s m args below meth c H locs cells slots mc ms ls a1 a2 a3 a4 a5 a6 a7 a8 a9)
theorem V_icmp_gt {g : GE} {mt : MT} {pc : Nat} {lv : List (Nat × Value)} {st : List Value} {M : Mem} {sz kc ks : Nat} {Q : Ou → Mem → Prop} {x y : Int32} {off : Int} {tgt : Nat} (d : decode (mC mt) pc = .ok (.if_icmp .gt off, 3)) (ht : (pc : Int) + off = (tgt : Int)) (kt : y < x → V g mt tgt lv st M sz kc ks Q) (kf : ¬ y < x → V g mt (pc + 3) lv st M sz kc ks Q) : V g mt pc lv (.int y :: .int x :: st) M sz kc ks Q := by
  intro p e R s m args below meth c H locs cells slots mc ms ls a1 a2 a3 a4 a5 a6 a7 a8 a9
  exact lv_icmp_gt a1.1 a1.2.1 d ht (fun h => kt h p e R s m args below meth c H locs cells slots mc ms ls a1 a2 a3 a4 a5 a6 a7 a8 a9) (fun h => kf h p e R s m args below meth c H locs cells slots mc ms ls a1 a2 a3 a4 a5 a6 a7 a8 a9)
theorem V_icmp_le {g : GE} {mt : MT} {pc : Nat} {lv : List (Nat × Value)} {st : List Value} {M : Mem} {sz kc ks : Nat} {Q : Ou → Mem → Prop} {x y : Int32} {off : Int} {tgt : Nat} (d : decode (mC mt) pc = .ok (.if_icmp .le off, 3)) (ht : (pc : Int) + off = (tgt : Int)) (kt : x ≤ y → V g mt tgt lv st M sz kc ks Q) (kf : ¬ x ≤ y → V g mt (pc + 3) lv st M sz kc ks Q) : V g mt pc lv (.int y :: .int x :: st) M sz kc ks Q := by
  intro p e R s m args below meth c H locs cells slots mc ms ls a1 a2 a3 a4 a5 a6 a7 a8 a9
  exact lv_icmp_le a1.1 a1.2.1 d ht (fun h => kt h p e R s m args below meth c H locs cells slots mc ms ls a1 a2 a3 a4 a5 a6 a7 a8 a9) (fun h => kf h p e R s m args below meth c H locs cells slots mc ms ls a1 a2 a3 a4 a5 a6 a7 a8 a9)
theorem V_lookup {g : GE} {mt : MT} {pc : Nat} {lv : List (Nat × Value)} {st : List Value} {M : Mem} {sz kc ks : Nat} {Q : Ou → Mem → Prop} {dflt : Int} {ps : Array (Int × Int)} {len : Nat} {x : Int32} {off : Int} {tgt : Nat} (d : decode (mC mt) pc = .ok (.lookupswitch dflt ps, len)) (hp : (ps.toList.zip (ps.toList.drop 1)).all (fun (a, next) => a.1 < next.1) = true) (ho : Op.lookupswitch.offset ps.toList dflt x.toInt = off) (ht : (pc : Int) + off = (tgt : Int)) (k : V g mt (tgt) lv (st) M sz kc ks Q) : V g mt pc lv (.int x :: st) M sz kc ks Q := by
  intro p e R s m args below meth c H locs cells slots mc ms ls a1 a2 a3 a4 a5 a6 a7 a8 a9
  exact lv_lookup a1.1 a1.2.1 d hp ho ht (k p e R s m args below meth c H locs cells slots mc ms ls a1 a2 a3 a4 a5 a6 a7 a8 a9)
theorem V_tableOut {g : GE} {mt : MT} {pc : Nat} {lv : List (Nat × Value)} {st : List Value} {M : Mem} {sz kc ks : Nat} {Q : Ou → Mem → Prop} {dflt lo hi : Int} {offs : Array Int} {len : Nat} {x : Int32} {tgt : Nat} (d : decode (mC mt) pc = .ok (.tableswitch dflt lo hi offs, len)) (h : x.toInt < lo ∨ hi < x.toInt) (ht : (pc : Int) + dflt = (tgt : Int)) (k : V g mt (tgt) lv (st) M sz kc ks Q) : V g mt pc lv (.int x :: st) M sz kc ks Q := by
  intro p e R s m args below meth c H locs cells slots mc ms ls a1 a2 a3 a4 a5 a6 a7 a8 a9
  exact lv_tableOut a1.1 a1.2.1 d h ht (k p e R s m args below meth c H locs cells slots mc ms ls a1 a2 a3 a4 a5 a6 a7 a8 a9)
theorem V_tableIn {g : GE} {mt : MT} {pc : Nat} {lv : List (Nat × Value)} {st : List Value} {M : Mem} {sz kc ks : Nat} {Q : Ou → Mem → Prop} {dflt lo hi : Int} {offs : Array Int} {len : Nat} {x : Int32} {off : Int} {tgt : Nat} (d : decode (mC mt) pc = .ok (.tableswitch dflt lo hi offs, len)) (h1 : ¬ x.toInt < lo) (h2 : ¬ hi < x.toInt) (ho : offs[(x.toInt - lo).toNat]? = some off) (ht : (pc : Int) + off = (tgt : Int)) (k : V g mt (tgt) lv (st) M sz kc ks Q) : V g mt pc lv (.int x :: st) M sz kc ks Q := by
  intro p e R s m args below meth c H locs cells slots mc ms ls a1 a2 a3 a4 a5 a6 a7 a8 a9
  exact lv_tableIn a1.1 a1.2.1 d h1 h2 ho ht (k p e R s m args below meth c H locs cells slots mc ms ls a1 a2 a3 a4 a5 a6 a7 a8 a9)
theorem V_ldc {g : GE} {mt : MT} {pc : Nat} {lv : List (Nat × Value)} {st : List Value} {M : Mem} {sz kc ks : Nat} {Q : Ou → Mem → Prop} {idx : Nat} {v : Int32} (hw : Cond.constant (mY mt).cls idx v ∈ BIG) (d : decode (mC mt) pc = .ok (.ldc idx, 2)) (k : V g mt (pc + 2) lv (.int v :: st) M sz kc ks Q) : V g mt pc lv (st) M sz kc ks Q := by
  intro p e R s m args below meth c H locs cells slots mc ms ls a1 a2 a3 a4 a5 a6 a7 a8 a9
  exact lv_ldc a1.1 a1.2.1 a1.2.2.2.1 (a1.2.2.2.2.1 _ (List.mem_cons_of_mem _ hw)) d (k p e R s m args below meth c H locs cells slots mc ms ls a1 a2 a3 a4 a5 a6 a7 a8 a9)
theorem V_ldcw {g : GE} {mt : MT} {pc : Nat} {lv : List (Nat × Value)} {st : List Value} {M : Mem} {sz kc ks : Nat} {Q : Ou → Mem → Prop} {idx : Nat} {v : Int32} (hw : Cond.constant (mY mt).cls idx v ∈ BIG) (d : decode (mC mt) pc = .ok (.ldc_w idx, 3)) (k : V g mt (pc + 3) lv (.int v :: st) M sz kc ks Q) : V g mt pc lv (st) M sz kc ks Q := by
  intro p e R s m args below meth c H locs cells slots mc ms ls a1 a2 a3 a4 a5 a6 a7 a8 a9
  exact lv_ldcw a1.1 a1.2.1 a1.2.2.2.1 (a1.2.2.2.2.1 _ (List.mem_cons_of_mem _ hw)) d (k p e R s m args below meth c H locs cells slots mc ms ls a1 a2 a3 a4 a5 a6 a7 a8 a9)
theorem V_ldc2 {g : GE} {mt : MT} {pc : Nat} {lv : List (Nat × Value)} {st : List Value} {M : Mem} {sz kc ks : Nat} {Q : Ou → Mem → Prop} {idx : Nat} {v : Int64} (hw : Cond.constantLong (mY mt).cls idx v ∈ BIG) (d : decode (mC mt) pc = .ok (.ldc2_w idx, 3)) (k : V g mt (pc + 3) lv (.long v :: st) M sz kc ks Q) : V g mt pc lv (st) M sz kc ks Q := by
  intro p e R s m args below meth c H locs cells slots mc ms ls a1 a2 a3 a4 a5 a6 a7 a8 a9
  exact lv_ldc2 a1.1 a1.2.1 a1.2.2.2.1 (a1.2.2.2.2.1 _ (List.mem_cons_of_mem _ hw)) d (k p e R s m args below meth c H locs cells slots mc ms ls a1 a2 a3 a4 a5 a6 a7 a8 a9)
theorem V_ldc2d {g : GE} {mt : MT} {pc : Nat} {lv : List (Nat × Value)} {st : List Value} {M : Mem} {sz kc ks : Nat} {Q : Ou → Mem → Prop} {idx : Nat} {v : UInt64} (hw : Cond.constantDouble (mY mt).cls idx v ∈ BIG) (d : decode (mC mt) pc = .ok (.ldc2_w idx, 3)) (k : V g mt (pc + 3) lv (.double v :: st) M sz kc ks Q) : V g mt pc lv (st) M sz kc ks Q := by
  intro p e R s m args below meth c H locs cells slots mc ms ls a1 a2 a3 a4 a5 a6 a7 a8 a9
  exact lv_ldc2d a1.1 a1.2.1 a1.2.2.2.1 (a1.2.2.2.2.1 _ (List.mem_cons_of_mem _ hw)) d (k p e R s m args below meth c H locs cells slots mc ms ls a1 a2 a3 a4 a5 a6 a7 a8 a9)
theorem V_lv {g : GE} {mt : MT} {pc : Nat} {lv : List (Nat × Value)} {st : List Value} {M : Mem} {sz kc ks : Nat} {Q : Ou → Mem → Prop} {lv2 : List (Nat × Value)} (is : List Nat) (hl : is.filterMap (fun k => lv[k]?) = lv2) (k : V g mt pc lv2 st M sz kc ks Q) : V g mt pc lv st M sz kc ks Q := by
  intro p e R s m args below meth c H locs cells slots mc ms ls a1 a2 a3 a4 a5 a6 a7 a8 a9
  exact k p e R s m args below meth c H locs cells slots mc ms ls a1 a2 a3 (lv_sub a4 is hl) a5 a6 a7 a8 a9
theorem V_iret {g : GE} {mt : MT} {pc : Nat} {lv : List (Nat × Value)} {st : List Value} {M : Mem} {sz kc ks : Nat} {Q : Ou → Mem → Prop} {x : Int32} (d : decode (mC mt) pc = .ok (.ireturn, 1)) (hr : mR mt = some .int) (hq : Q (.inl (some (.int x))) M) : V g mt pc lv [.int x] M sz kc ks Q := by
  intro p e R s m args below meth c H locs cells slots mc ms ls a1 a2 a3 a4 a5 a6 a7 a8 a9
  refine W.widen (k := mc) (n := ms) (by omega) (by omega) (vx_ret (W.iret a1.1 a1.2.1 (a1.2.2.2.2.2.1.trans hr) (fun t ht hW => ⟨⟨_, M, rfl, hq, by rw [ht]; exact a2⟩, a3.F ht⟩) a3.2.2 d a1.2.2.2.2.2.2.1))
theorem V_zret {g : GE} {mt : MT} {pc : Nat} {lv : List (Nat × Value)} {st : List Value} {M : Mem} {sz kc ks : Nat} {Q : Ou → Mem → Prop} {x : Int32} (d : decode (mC mt) pc = .ok (.ireturn, 1)) (hr : mR mt = some .boolean) (hx : x = 0 ∨ x = 1) (hq : Q (.inl (some (.int x))) M) : V g mt pc lv [.int x] M sz kc ks Q := by
  intro p e R s m args below meth c H locs cells slots mc ms ls a1 a2 a3 a4 a5 a6 a7 a8 a9
  refine W.widen (k := mc) (n := ms) (by omega) (by omega) (vx_ret (W.zret a1.1 a1.2.1 (a1.2.2.2.2.2.1.trans hr) (by rcases hx with rfl | rfl <;> rfl) (fun t ht hW => ⟨⟨_, M, rfl, hq, by rw [ht]; exact a2⟩, a3.F ht⟩) a3.2.2 d a1.2.2.2.2.2.2.1))
theorem V_lret {g : GE} {mt : MT} {pc : Nat} {lv : List (Nat × Value)} {st : List Value} {M : Mem} {sz kc ks : Nat} {Q : Ou → Mem → Prop} {x : Int64} (d : decode (mC mt) pc = .ok (.lreturn, 1)) (hr : mR mt = some .long) (hq : Q (.inl (some (.long x))) M) : V g mt pc lv [.long x] M sz kc ks Q := by
  intro p e R s m args below meth c H locs cells slots mc ms ls a1 a2 a3 a4 a5 a6 a7 a8 a9
  refine W.widen (k := mc) (n := ms) (by omega) (by omega) (vx_ret (W.lret a1.1 a1.2.1 (a1.2.2.2.2.2.1.trans hr) (fun t ht hW => ⟨⟨_, M, rfl, hq, by rw [ht]; exact a2⟩, a3.F ht⟩) a3.2.2 d a1.2.2.2.2.2.2.1))
theorem V_dret {g : GE} {mt : MT} {pc : Nat} {lv : List (Nat × Value)} {st : List Value} {M : Mem} {sz kc ks : Nat} {Q : Ou → Mem → Prop} {x : UInt64} (d : decode (mC mt) pc = .ok (.dreturn, 1)) (hr : mR mt = some .double) (hq : Q (.inl (some (.double x))) M) : V g mt pc lv [.double x] M sz kc ks Q := by
  intro p e R s m args below meth c H locs cells slots mc ms ls a1 a2 a3 a4 a5 a6 a7 a8 a9
  refine W.widen (k := mc) (n := ms) (by omega) (by omega) (vx_ret (W.dret a1.1 a1.2.1 (a1.2.2.2.2.2.1.trans hr) (fun t ht hW => ⟨⟨_, M, rfl, hq, by rw [ht]; exact a2⟩, a3.F ht⟩) a3.2.2 d a1.2.2.2.2.2.2.1))
theorem V_ret {g : GE} {mt : MT} {pc : Nat} {lv : List (Nat × Value)} {st : List Value} {M : Mem} {sz kc ks : Nat} {Q : Ou → Mem → Prop} (d : decode (mC mt) pc = .ok (.return_, 1)) (hr : mR mt = none) (hq : Q (.inl (none)) M) : V g mt pc lv [] M sz kc ks Q := by
  intro p e R s m args below meth c H locs cells slots mc ms ls a1 a2 a3 a4 a5 a6 a7 a8 a9
  refine W.widen (k := mc) (n := ms) (by omega) (by omega) (vx_ret (W.vret a1.1 a1.2.1 (a1.2.2.2.2.2.1.trans hr) (fun t ht hW => ⟨⟨_, M, rfl, hq, by rw [ht]; exact a2⟩, a3.F ht⟩) a3.2.2 d a1.2.2.2.2.2.2.1))
end
section
/-! heap rows of the layer V -/
set_option maxRecDepth 100000 in
theorem cl_tab : ∀ q ∈ vwCl, ∀ w ∈ u_ws q.1 q.2.1 q.2.2, w ∈ lw_tbl ∧ goodWord w = true := by
  have h : (vwCl.all fun q => (u_ws q.1 q.2.1 q.2.2).all fun w => decide (w ∈ lw_tbl) && goodWord w) = true := by decide +kernel
  intro q hq w hw
  have h1 := List.all_eq_true.mp (List.all_eq_true.mp h q hq) w hw
  simp only [Bool.and_eq_true, decide_eq_true_eq] at h1
  exact h1
theorem cl_big {ci : Nat} {C : String} {T : u_T} {N : Nat} (hc : vwCl[ci]? = some (C, T, N)) : ∀ w ∈ u_ws C T N, w ∈ BIG := fun w hw => List.mem_filter.mpr (cl_tab (C, T, N) (List.mem_of_getElem? hc) w hw)
theorem cl_ws {ci : Nat} {C : String} {T : u_T} {N : Nat} (hc : vwCl[ci]? = some (C, T, N)) (mt : MT) : ∀ w ∈ u_ws C T N, w ∈ mWs mt := fun w hw => List.mem_cons_of_mem _ (cl_big hc w hw)
def clTy : Nat → Nat → FieldType := fun ci => match ci with
  | 0 => tyX0 | 1 => tyX1 | 2 => tyX2 | 3 => tyX3 | 4 => tyX4 | 5 => tyX5 | 6 => tyX6 | 7 => tyX7 | 8 => tyX8 | _ => tyX9
theorem cl_ty {ci : Nat} {C : String} {T : u_T} {N : Nat} (hc : vwCl[ci]? = some (C, T, N)) : (∀ k, k < N → parseFieldDescriptor (T k).2.2.1 = some (clTy ci k)) ∧ (∀ a, a < N → ∀ b, b < N → a ≠ b → (T a).2.1 ≠ (T b).2.1) := by
  match ci, hc with
  | 0, hc => cases hc; exact ⟨tyX0_ok, nmX0⟩
  | 1, hc => cases hc; exact ⟨tyX1_ok, nmX1⟩
  | 2, hc => cases hc; exact ⟨tyX2_ok, nmX2⟩
  | 3, hc => cases hc; exact ⟨tyX3_ok, nmX3⟩
  | 4, hc => cases hc; exact ⟨tyX4_ok, nmX4⟩
  | 5, hc => cases hc; exact ⟨tyX5_ok, nmX5⟩
  | 6, hc => cases hc; exact ⟨tyX6_ok, nmX6⟩
  | 7, hc => cases hc; exact ⟨tyX7_ok, nmX7⟩
  | 8, hc => cases hc; exact ⟨tyX8_ok, nmX8⟩
  | 9, hc => cases hc; exact ⟨tyX9_ok, nmX9⟩
  | n + 10, hc => simp [vwCl] at hc
section VROWS
variable {g : GE} {mt : MT} {pc : Nat} {lv : List (Nat × Value)} {st : List Value} {M : Mem} {sz kc ks : Nat} {Q : Ou → Mem → Prop}
/-- read a field -/
theorem V_get {a ci idx : Nat} {C : String} {T : u_T} {N : Nat} {fs : List Value} {v : Value} (k : Nat) (hM : M a = some (eO ci fs)) (hc : vwCl[ci]? = some (C, T, N)) (hk : k < N) (ho : (T k).1 = C) (hw : Cond.fieldLink (mY mt).cls idx C (T k).2.1 (T k).2.2.1 ∈ BIG) (hv : fs[k]? = some v)
    (d : decode (mC mt) pc = .ok (.getfield idx, 3)) (kk : V g mt (pc + 3) lv (v :: st) M sz kc ks Q) : V g mt pc lv (rf g a :: st) M sz kc ks Q := by
  intro p e R s m args below meth c H locs cells slots mc ms ls a1 a2 a3 a4 a5 a6 a7 a8 a9
  obtain ⟨ws, hP, hD, hM2⟩ := id a2
  obtain ⟨q0, hq⟩ := wo_at hM2 hM
  have hE := a1.2.2.2.2.2.2.2.2.2.2.2.2
  exact va_get a1.1 a1.2.1 a1.2.2.2.2.1 (cl_ws hc mt) a1.2.2.2.1 hE.1 hP q0 hq hc k hk (a1.2.2.2.2.1 _ (List.mem_cons_of_mem _ hw)) (fun _ h => by rw [ho] at h; exact h) hv d (kk p e R s m args below meth c H locs cells slots mc ms ls a1 a2 a3 a4 a5 a6 a7 a8 a9)
/-- .. of a nest mate -/
theorem V_getN {a ci idx : Nat} {C host : String} {T : u_T} {N : Nat} {fs : List Value} {v : Value} (k : Nat) (hM : M a = some (eO ci fs)) (hc : vwCl[ci]? = some (C, T, N)) (hk : k < N) (ho : (T k).1 = C) (hw : Cond.fieldLinkNest (mY mt).cls idx C (T k).2.1 (T k).2.2.1 host ∈ NWL) (hv : fs[k]? = some v)
    (d : decode (mC mt) pc = .ok (.getfield idx, 3)) (kk : V g mt (pc + 3) lv (v :: st) M sz kc ks Q) : V g mt pc lv (rf g a :: st) M sz kc ks Q := by
  intro p e R s m args below meth c H locs cells slots mc ms ls a1 a2 a3 a4 a5 a6 a7 a8 a9
  obtain ⟨ws, hP, hD, hM2⟩ := id a2
  obtain ⟨q0, hq⟩ := wo_at hM2 hM
  have hE := a1.2.2.2.2.2.2.2.2.2.2.2.2
  exact va_getN a1.1 a1.2.1 a1.2.2.2.2.1 (cl_ws hc mt) a1.2.2.2.1 hE.1 hP q0 hq hc k hk (va_Nw.use rfl (hE.2.1 _ hw)) (fun _ h => by rw [ho] at h; exact h) hv d (kk p e R s m args below meth c H locs cells slots mc ms ls a1 a2 a3 a4 a5 a6 a7 a8 a9)
/-- write a field -/
theorem V_put {a ci idx : Nat} {C : String} {T : u_T} {N : Nat} {fs : List Value} {v : Value} (k : Nat) (hM : M a = some (eO ci fs)) (hc : vwCl[ci]? = some (C, T, N)) (hk : k < N) (ho : (T k).1 = C) (hw : Cond.fieldLink (mY mt).cls idx C (T k).2.1 (T k).2.2.1 ∈ BIG) (hf : (T k).2.2.2 = false) (hl : k < fs.length)
    (hn : narrow (clTy ci k) v = v) (hfit : fits (clTy ci k) v = true)
    (d : decode (mC mt) pc = .ok (.putfield idx, 3)) (kk : V g mt (pc + 3) lv st (mup M a (eO ci (fs.set k v))) sz kc ks Q) : V g mt pc lv (v :: rf g a :: st) M sz kc ks Q := by
  intro p e R s m args below meth c H locs cells slots mc ms ls a1 a2 a3 a4 a5 a6 a7 a8 a9
  obtain ⟨ws, hP, hD, hM2⟩ := id a2
  obtain ⟨q0, hq⟩ := wo_at hM2 hM
  have hE := a1.2.2.2.2.2.2.2.2.2.2.2.2
  exact va_put a1.1 a1.2.1 a1.2.2.2.2.1 (cl_ws hc mt) (clTy ci) (cl_ty hc).1 (cl_ty hc).2 a1.2.2.2.1 hE.1 hP hD a3 q0 hq hc k hk (a1.2.2.2.2.1 _ (List.mem_cons_of_mem _ hw)) (fun _ h => by rw [ho] at h; exact h) hf ((cl_ty hc).1 k hk) hn hfit hl d
    (fun H1 locs1 b1 b2 b3 => kk p e R s m args below meth c H1 locs1 cells slots mc ms ls a1 ⟨_, b1, b2, wo_set hD hM2 hq⟩ b3 a4 a5 a6 a7 a8 a9)
theorem V_putN {a ci idx : Nat} {C host : String} {T : u_T} {N : Nat} {fs : List Value} {v : Value} (k : Nat) (hM : M a = some (eO ci fs)) (hc : vwCl[ci]? = some (C, T, N)) (hk : k < N) (ho : (T k).1 = C) (hw : Cond.fieldLinkNest (mY mt).cls idx C (T k).2.1 (T k).2.2.1 host ∈ NWL) (hf : (T k).2.2.2 = false) (hl : k < fs.length)
    (hn : narrow (clTy ci k) v = v) (hfit : fits (clTy ci k) v = true)
    (d : decode (mC mt) pc = .ok (.putfield idx, 3)) (kk : V g mt (pc + 3) lv st (mup M a (eO ci (fs.set k v))) sz kc ks Q) : V g mt pc lv (v :: rf g a :: st) M sz kc ks Q := by
  intro p e R s m args below meth c H locs cells slots mc ms ls a1 a2 a3 a4 a5 a6 a7 a8 a9
  obtain ⟨ws, hP, hD, hM2⟩ := id a2
  obtain ⟨q0, hq⟩ := wo_at hM2 hM
  have hE := a1.2.2.2.2.2.2.2.2.2.2.2.2
  exact va_putN a1.1 a1.2.1 a1.2.2.2.2.1 (cl_ws hc mt) (clTy ci) (cl_ty hc).1 (cl_ty hc).2 a1.2.2.2.1 hE.1 hP hD a3 q0 hq hc k hk (va_Nw.use rfl (hE.2.1 _ hw)) (fun _ h => by rw [ho] at h; exact h) hf ((cl_ty hc).1 k hk) hn hfit hl d
    (fun H1 locs1 b1 b2 b3 => kk p e R s m args below meth c H1 locs1 cells slots mc ms ls a1 ⟨_, b1, b2, wo_set hD hM2 hq⟩ b3 a4 a5 a6 a7 a8 a9)
/-- write a final field, in its class's constructor -/
theorem V_putF {a ci idx : Nat} {C : String} {T : u_T} {N : Nat} {fs : List Value} {v : Value} (k : Nat) (hM : M a = some (eO ci fs)) (hc : vwCl[ci]? = some (C, T, N)) (hk : k < N) (ho : (T k).1 = C) (hw : Cond.fieldLink (mY mt).cls idx C (T k).2.1 (T k).2.2.1 ∈ BIG) (hf : (T k).2.2.2 = true) (hl : k < fs.length)
    (hi : (mY mt).name = "<init>") (hcl : C = (mY mt).cls) (hn : narrow (clTy ci k) v = v) (hfit : fits (clTy ci k) v = true)
    (d : decode (mC mt) pc = .ok (.putfield idx, 3)) (kk : V g mt (pc + 3) lv st (mup M a (eO ci (fs.set k v))) sz kc ks Q) : V g mt pc lv (v :: rf g a :: st) M sz kc ks Q := by
  intro p e R s m args below meth c H locs cells slots mc ms ls a1 a2 a3 a4 a5 a6 a7 a8 a9
  obtain ⟨ws, hP, hD, hM2⟩ := id a2
  obtain ⟨q0, hq⟩ := wo_at hM2 hM
  have hE := a1.2.2.2.2.2.2.2.2.2.2.2.2
  exact va_putF a1.1 a1.2.1 a1.2.2.2.2.1 (cl_ws hc mt) (clTy ci) (cl_ty hc).1 (cl_ty hc).2 a1.2.2.2.1 hE.1 hP hD a3 q0 hq hc k hk (a1.2.2.2.2.1 _ (List.mem_cons_of_mem _ hw)) (fun _ h => by rw [ho] at h; exact h) hf (a1.2.2.2.2.2.2.2.1.trans hi) (ho.trans hcl) ((cl_ty hc).1 k hk) hn hfit hl d
    (fun H1 locs1 b1 b2 b3 => kk p e R s m args below meth c H1 locs1 cells slots mc ms ls a1 ⟨_, b1, b2, wo_set hD hM2 hq⟩ b3 a4 a5 a6 a7 a8 a9)
/-- arrays -/
theorem V_iald {a n : Nat} {f : Nat → Int32} {i : Int32} (hM : M a = some (eI g n f)) (hin : vp_in i n) (d : decode (mC mt) pc = .ok (.iaload, 1)) (kk : V g mt (pc + 1) lv (.int (f i.toNatClampNeg) :: st) M sz kc ks Q) : V g mt pc lv (.int i :: rf g a :: st) M sz kc ks Q := by
  intro p e R s m args below meth c H locs cells slots mc ms ls a1 a2 a3 a4 a5 a6 a7 a8 a9
  obtain ⟨ws, hP, hD, hM2⟩ := id a2
  obtain ⟨q0, hq⟩ := wo_at hM2 hM
  exact va_iald a1.1 a1.2.1 a1.2.2.2.2.2.2.2.2.2.2.2.2.1 hP q0 0 hq rfl hin d (kk p e R s m args below meth c H locs cells slots mc ms ls a1 a2 a3 a4 a5 a6 a7 a8 a9)
theorem V_lald {a n : Nat} {f : Nat → Int64} {i : Int32} (hM : M a = some (eJ g n f)) (hin : vp_in i n) (d : decode (mC mt) pc = .ok (.laload, 1)) (kk : V g mt (pc + 1) lv (.long (f i.toNatClampNeg) :: st) M sz kc ks Q) : V g mt pc lv (.int i :: rf g a :: st) M sz kc ks Q := by
  intro p e R s m args below meth c H locs cells slots mc ms ls a1 a2 a3 a4 a5 a6 a7 a8 a9
  obtain ⟨ws, hP, hD, hM2⟩ := id a2
  obtain ⟨q0, hq⟩ := wo_at hM2 hM
  exact va_lald a1.1 a1.2.1 a1.2.2.2.2.2.2.2.2.2.2.2.2.1 hP q0 1 hq rfl hin d (kk p e R s m args below meth c H locs cells slots mc ms ls a1 a2 a3 a4 a5 a6 a7 a8 a9)
theorem V_aald {a n : Nat} {f : Nat → Option Nat} {i : Int32} (hM : M a = some (eY g n f)) (hin : vp_in i n) (d : decode (mC mt) pc = .ok (.aaload, 1)) (kk : V g mt (pc + 1) lv (va_rf (f i.toNatClampNeg) :: st) M sz kc ks Q) : V g mt pc lv (.int i :: rf g a :: st) M sz kc ks Q := by
  intro p e R s m args below meth c H locs cells slots mc ms ls a1 a2 a3 a4 a5 a6 a7 a8 a9
  obtain ⟨ws, hP, hD, hM2⟩ := id a2
  obtain ⟨q0, hq⟩ := wo_at hM2 hM
  exact va_aldq a1.1 a1.2.1 a1.2.2.2.2.2.2.2.2.2.2.2.2.1 hP q0 2 hq rfl hin d (kk p e R s m args below meth c H locs cells slots mc ms ls a1 a2 a3 a4 a5 a6 a7 a8 a9)
theorem V_iast {a n : Nat} {f : Nat → Int32} {i x : Int32} (hM : M a = some (eI g n f)) (hin : vp_in i n) (d : decode (mC mt) pc = .ok (.iastore, 1)) (kk : V g mt (pc + 1) lv st (mup M a (eI g n (upd f i.toNatClampNeg x))) sz kc ks Q) : V g mt pc lv (.int x :: .int i :: rf g a :: st) M sz kc ks Q := by
  intro p e R s m args below meth c H locs cells slots mc ms ls a1 a2 a3 a4 a5 a6 a7 a8 a9
  obtain ⟨ws, hP, hD, hM2⟩ := id a2
  obtain ⟨q0, hq⟩ := wo_at hM2 hM
  exact va_iast a1.1 a1.2.1 a1.2.2.2.2.2.2.2.2.2.2.2.2.1 hP hD a3 q0 0 hq rfl hin d (fun H1 locs1 b1 b2 b3 => kk p e R s m args below meth c H1 locs1 cells slots mc ms ls a1 ⟨_, b1, b2, wo_set hD hM2 hq⟩ b3 a4 a5 a6 a7 a8 a9)
theorem V_last {a n : Nat} {f : Nat → Int64} {i : Int32} {x : Int64} (hM : M a = some (eJ g n f)) (hin : vp_in i n) (d : decode (mC mt) pc = .ok (.lastore, 1)) (kk : V g mt (pc + 1) lv st (mup M a (eJ g n (vp_updL f i.toNatClampNeg x))) sz kc ks Q) : V g mt pc lv (.long x :: .int i :: rf g a :: st) M sz kc ks Q := by
  intro p e R s m args below meth c H locs cells slots mc ms ls a1 a2 a3 a4 a5 a6 a7 a8 a9
  obtain ⟨ws, hP, hD, hM2⟩ := id a2
  obtain ⟨q0, hq⟩ := wo_at hM2 hM
  exact va_last a1.1 a1.2.1 a1.2.2.2.2.2.2.2.2.2.2.2.2.1 hP hD a3 q0 1 hq rfl hin d (fun H1 locs1 b1 b2 b3 => kk p e R s m args below meth c H1 locs1 cells slots mc ms ls a1 ⟨_, b1, b2, wo_set hD hM2 hq⟩ b3 a4 a5 a6 a7 a8 a9)
theorem V_aast {a n w : Nat} {fs : List Value} {f : Nat → Option Nat} {i : Int32} (hM : M a = some (eY g n f)) (hV : M w = some (eO 7 fs)) (hin : vp_in i n) (d : decode (mC mt) pc = .ok (.aastore, 1)) (kk : V g mt (pc + 1) lv st (mup M a (eY g n (va_up f i.toNatClampNeg (some (gb g + w))))) sz kc ks Q) : V g mt pc lv (rf g w :: .int i :: rf g a :: st) M sz kc ks Q := by
  intro p e R s m args below meth c H locs cells slots mc ms ls a1 a2 a3 a4 a5 a6 a7 a8 a9
  obtain ⟨ws, hP, hD, hM2⟩ := id a2
  obtain ⟨q0, hq⟩ := wo_at hM2 hM
  obtain ⟨q1, hq1⟩ := wo_at hM2 hV
  exact va_astq (r := (RX7, TX7, 6)) a1.1 a1.2.1 a1.2.2.2.2.2.2.2.2.2.2.2.2.1 hP hD a3 q0 2 q1 7 hq rfl hq1 rfl hin d (fun H1 locs1 b1 b2 b3 => kk p e R s m args below meth c H1 locs1 cells slots mc ms ls a1 ⟨_, b1, b2, wo_set hD hM2 hq⟩ b3 a4 a5 a6 a7 a8 a9)
theorem V_alenI {a n : Nat} {f : Nat → Int32} {v : Int32} (hM : M a = some (eI g n f)) (hv : Int32.ofNat n = v) (d : decode (mC mt) pc = .ok (.arraylength, 1)) (kk : V g mt (pc + 1) lv (.int v :: st) M sz kc ks Q) : V g mt pc lv (rf g a :: st) M sz kc ks Q := by
  intro p e R s m args below meth c H locs cells slots mc ms ls a1 a2 a3 a4 a5 a6 a7 a8 a9
  obtain ⟨ws, hP, hD, hM2⟩ := id a2
  obtain ⟨q0, hq⟩ := wo_at hM2 hM
  exact va_alen a1.1 a1.2.1 a1.2.2.2.2.2.2.2.2.2.2.2.2.1 hP q0 0 hq rfl hv d (kk p e R s m args below meth c H locs cells slots mc ms ls a1 a2 a3 a4 a5 a6 a7 a8 a9)
theorem V_alenJ {a n : Nat} {f : Nat → Int64} {v : Int32} (hM : M a = some (eJ g n f)) (hv : Int32.ofNat n = v) (d : decode (mC mt) pc = .ok (.arraylength, 1)) (kk : V g mt (pc + 1) lv (.int v :: st) M sz kc ks Q) : V g mt pc lv (rf g a :: st) M sz kc ks Q := by
  intro p e R s m args below meth c H locs cells slots mc ms ls a1 a2 a3 a4 a5 a6 a7 a8 a9
  obtain ⟨ws, hP, hD, hM2⟩ := id a2
  obtain ⟨q0, hq⟩ := wo_at hM2 hM
  exact va_alen a1.1 a1.2.1 a1.2.2.2.2.2.2.2.2.2.2.2.2.1 hP q0 1 hq rfl hv d (kk p e R s m args below meth c H locs cells slots mc ms ls a1 a2 a3 a4 a5 a6 a7 a8 a9)
theorem V_alenY {a n : Nat} {f : Nat → Option Nat} {v : Int32} (hM : M a = some (eY g n f)) (hv : Int32.ofNat n = v) (d : decode (mC mt) pc = .ok (.arraylength, 1)) (kk : V g mt (pc + 1) lv (.int v :: st) M sz kc ks Q) : V g mt pc lv (rf g a :: st) M sz kc ks Q := by
  intro p e R s m args below meth c H locs cells slots mc ms ls a1 a2 a3 a4 a5 a6 a7 a8 a9
  obtain ⟨ws, hP, hD, hM2⟩ := id a2
  obtain ⟨q0, hq⟩ := wo_at hM2 hM
  exact va_alen a1.1 a1.2.1 a1.2.2.2.2.2.2.2.2.2.2.2.2.1 hP q0 2 hq rfl hv d (kk p e R s m args below meth c H locs cells slots mc ms ls a1 a2 a3 a4 a5 a6 a7 a8 a9)
/-- the class's two tables of numbers, and the script -/
theorem V_getR {idx : Nat} (hw : Cond.fieldLink (mY mt).cls idx "ParishYards" "RINGS" "[I" ∈ BIG) (d : decode (mC mt) pc = .ok (.getstatic idx, 3)) (kk : V g mt (pc + 3) lv (.ref (gR g) :: st) M sz kc ks Q) : V g mt pc lv st M sz kc ks Q := by
  intro p e R s m args below meth c H locs cells slots mc ms ls a1 a2 a3 a4 a5 a6 a7 a8 a9
  have hE := a1.2.2.2.2.2.2.2.2.2.2.2.2
  exact va_gets a1.1 a1.2.1 hE.2.2.1.1 a3 a1.2.2.2.1 (a1.2.2.2.2.1 _ (List.mem_cons_of_mem _ hw)) (fun _ h => h) d (kk p e R s m args below meth c H locs cells slots mc ms ls a1 a2 a3 a4 a5 a6 a7 a8 a9)
theorem V_getRN {idx : Nat} {host : String} (hw : Cond.fieldLinkNest (mY mt).cls idx "ParishYards" "RINGS" "[I" host ∈ NWL) (d : decode (mC mt) pc = .ok (.getstatic idx, 3)) (kk : V g mt (pc + 3) lv (.ref (gR g) :: st) M sz kc ks Q) : V g mt pc lv st M sz kc ks Q := by
  intro p e R s m args below meth c H locs cells slots mc ms ls a1 a2 a3 a4 a5 a6 a7 a8 a9
  have hE := a1.2.2.2.2.2.2.2.2.2.2.2.2
  exact va_getsN a1.1 a1.2.1 hE.2.2.1.1 a3 a1.2.2.2.1 (va_Nw.use rfl (hE.2.1 _ hw)) (fun _ h => h) d (kk p e R s m args below meth c H locs cells slots mc ms ls a1 a2 a3 a4 a5 a6 a7 a8 a9)
theorem V_getMN {idx : Nat} {host : String} (hw : Cond.fieldLinkNest (mY mt).cls idx "ParishYards" "MIDDLES" "[I" host ∈ NWL) (d : decode (mC mt) pc = .ok (.getstatic idx, 3)) (kk : V g mt (pc + 3) lv (.ref (gM g) :: st) M sz kc ks Q) : V g mt pc lv st M sz kc ks Q := by
  intro p e R s m args below meth c H locs cells slots mc ms ls a1 a2 a3 a4 a5 a6 a7 a8 a9
  have hE := a1.2.2.2.2.2.2.2.2.2.2.2.2
  exact va_getsN a1.1 a1.2.1 hE.2.2.2.1.1 a3 a1.2.2.2.1 (va_Nw.use rfl (hE.2.1 _ hw)) (fun _ h => h) d (kk p e R s m args below meth c H locs cells slots mc ms ls a1 a2 a3 a4 a5 a6 a7 a8 a9)
theorem V_taldR {i : Int32} (hin : vp_in i 37) (d : decode (mC mt) pc = .ok (.iaload, 1)) (kk : V g mt (pc + 1) lv (.int (ringsF i.toNatClampNeg) :: st) M sz kc ks Q) : V g mt pc lv (.int i :: .ref (gR g) :: st) M sz kc ks Q := by
  intro p e R s m args below meth c H locs cells slots mc ms ls a1 a2 a3 a4 a5 a6 a7 a8 a9
  exact va_ti a1.1 a1.2.1 a1.2.2.2.2.2.2.2.2.2.2.2.2.2.2.1.2 a3 hin rfl d (kk p e R s m args below meth c H locs cells slots mc ms ls a1 a2 a3 a4 a5 a6 a7 a8 a9)
theorem V_taldM {i : Int32} (hin : vp_in i 16) (d : decode (mC mt) pc = .ok (.iaload, 1)) (kk : V g mt (pc + 1) lv (.int (middlesF i.toNatClampNeg) :: st) M sz kc ks Q) : V g mt pc lv (.int i :: .ref (gM g) :: st) M sz kc ks Q := by
  intro p e R s m args below meth c H locs cells slots mc ms ls a1 a2 a3 a4 a5 a6 a7 a8 a9
  exact va_ti a1.1 a1.2.1 a1.2.2.2.2.2.2.2.2.2.2.2.2.2.2.2.1.2 a3 hin rfl d (kk p e R s m args below meth c H locs cells slots mc ms ls a1 a2 a3 a4 a5 a6 a7 a8 a9)
theorem V_tlenR (d : decode (mC mt) pc = .ok (.arraylength, 1)) (kk : V g mt (pc + 1) lv (.int 37 :: st) M sz kc ks Q) : V g mt pc lv (.ref (gR g) :: st) M sz kc ks Q := by
  intro p e R s m args below meth c H locs cells slots mc ms ls a1 a2 a3 a4 a5 a6 a7 a8 a9
  exact va_tlen a1.1 a1.2.1 a1.2.2.2.2.2.2.2.2.2.2.2.2.2.2.1.2 a3 rfl d (kk p e R s m args below meth c H locs cells slots mc ms ls a1 a2 a3 a4 a5 a6 a7 a8 a9)
theorem V_tlenM (d : decode (mC mt) pc = .ok (.arraylength, 1)) (kk : V g mt (pc + 1) lv (.int 16 :: st) M sz kc ks Q) : V g mt pc lv (.ref (gM g) :: st) M sz kc ks Q := by
  intro p e R s m args below meth c H locs cells slots mc ms ls a1 a2 a3 a4 a5 a6 a7 a8 a9
  exact va_tlen a1.1 a1.2.1 a1.2.2.2.2.2.2.2.2.2.2.2.2.2.2.2.1.2 a3 rfl d (kk p e R s m args below meth c H locs cells slots mc ms ls a1 a2 a3 a4 a5 a6 a7 a8 a9)
theorem V_sld {i : Int32} (hin : vp_in i (gN g)) (d : decode (mC mt) pc = .ok (.iaload, 1)) (kk : V g mt (pc + 1) lv (.int (gx g i.toNatClampNeg) :: st) M sz kc ks Q) : V g mt pc lv (.int i :: .ref (gS g) :: st) M sz kc ks Q := by
  intro p e R s m args below meth c H locs cells slots mc ms ls a1 a2 a3 a4 a5 a6 a7 a8 a9
  have hE := a1.2.2.2.2.2.2.2.2.2.2.2.2.2.2.2.2.2.2.2.1
  have hz := a1.2.2.2.2.2.2.2.2.2.2.2.2.2.2.2.2.2.2.2.2.2.2
  exact va_sld a1.1 a1.2.1 hE.1 (Nat.lt_of_lt_of_le hE.2 hz) (Nat.not_le.mpr hE.2) a3 hin d (kk p e R s m args below meth c H locs cells slots mc ms ls a1 a2 a3 a4 a5 a6 a7 a8 a9)
theorem V_slen (d : decode (mC mt) pc = .ok (.arraylength, 1)) (kk : V g mt (pc + 1) lv (.int (Int32.ofNat (gN g)) :: st) M sz kc ks Q) : V g mt pc lv (.ref (gS g) :: st) M sz kc ks Q := by
  intro p e R s m args below meth c H locs cells slots mc ms ls a1 a2 a3 a4 a5 a6 a7 a8 a9
  have hE := a1.2.2.2.2.2.2.2.2.2.2.2.2.2.2.2.2.2.2.2.1
  have hz := a1.2.2.2.2.2.2.2.2.2.2.2.2.2.2.2.2.2.2.2.2.2.2
  exact va_slen a1.1 a1.2.1 hE.1 (Nat.lt_of_lt_of_le hE.2 hz) (Nat.not_le.mpr hE.2) a3 d (kk p e R s m args below meth c H locs cells slots mc ms ls a1 a2 a3 a4 a5 a6 a7 a8 a9)
end VROWS
end
section
/-! new things, calls, throws -/
section VNEW
variable {g : GE} {mt : MT} {pc : Nat} {lv : List (Nat × Value)} {st : List Value} {M : Mem} {sz kc ks : Nat} {Q : Ou → Mem → Prop}
/-- a new cell behind a full heap lies at base + sz -/
theorem wo_new {ws : va_W} {H H1 : Heap} {q : Nat} {x : va_E} (hP : va_P (gD g) vwCl ws H) (hM2 : ∀ (k : Nat) (e : va_E), M k = some e ↔ (gb g + k, e) ∈ ws) (hfull : ∀ k, k < sz → M k ≠ none)
    (hP1 : va_P (gD g) vwCl (ws ++ [(q, x)]) H1) (hD1 : va_D (gA g) (ws ++ [(q, x)])) (hz : H1.size ≤ gb g + sz + 1) : q = gb g + sz ∧ M sz = none := by
  have hl : (ws ++ [(q, x)])[ws.length]? = some (q, x) := by simp
  have hq1 : q < H1.size := (hP1 _ _ hl).lt
  have hq2 : gb g ≤ q := hD1.2 _ _ hl
  have key : ∀ j e, M j = some e → q ≠ gb g + j := by
    intro j e he hqj
    obtain ⟨i, hi⟩ := List.getElem?_of_mem ((hM2 j e).mp he)
    have hil := (List.getElem?_eq_some_iff.mp hi).1
    have h3 : (ws ++ [(q, x)])[i]? = some (gb g + j, e) := by rw [List.getElem?_append_left hil]; exact hi
    have := hD1.1 i ws.length _ _ h3 hl hqj.symm
    omega
  have hq3 : q = gb g + sz := by
    rcases Nat.lt_or_ge q (gb g + sz) with h | h
    · cases hm : M (q - gb g) with
      | none => exact absurd hm (hfull _ (by omega))
      | some e => exact absurd (by omega) (key _ _ hm)
    · omega
  refine ⟨hq3, ?_⟩
  cases hm : M sz with
  | none => rfl
  | some e => exact absurd hq3 (key _ _ hm)
theorem W.size {p : Program} {l : Launch} {e : Env} {R : Room} {s : State} {m : MethodId} {args : Array Value} {below : List Frame} {meth : Method} {c : Code} {H : Heap} {locs : List Loc} {cells slots : Nat} {Q : State → Prop} {f : JFrame}
    (k : H.size ≤ s.heap.size + cells → W p l e R s m args below meth c H locs cells slots Q f) : W p l e R s m args below meth c H locs cells slots Q f := by
  intro T hT X
  have h := X.same.2.2.1
  have h2 : (T.setVm s.vm).heap.size = H.size := by rw [← hT]; rfl
  exact k (by omega) T hT X
theorem V_newO {ci idx : Nat} {C : String} {T : u_T} {N : Nat} {fs : List Value} (hc : vwCl[ci]? = some (C, T, N)) (hl : Cond.classLink (mY mt).cls idx C ∈ BIG) (hi : Cond.instantiable C N ∈ BIG) (hn : Cond.initialized C ∈ BIG) (hfs : ∀ j, j < N → defaultValue (clTy ci j) = vp_V fs j) (hfull : ∀ k, k < sz → M k ≠ none)
    (d : decode (mC mt) pc = .ok (.new idx, 3)) (kk : M sz = none → V g mt (pc + 3) lv (rf g sz :: st) (mup M sz (eO ci fs)) (sz + 1) kc ks Q) : V g mt pc lv st M sz (kc + 1) (ks + N) Q := by
  intro p e R s m args below meth c H locs cells slots mc ms ls a1 a2 a3 a4 a5 a6 a7 a8 a9
  obtain ⟨ws, hP, hD, hM2⟩ := id a2
  have hE := a1.2.2.2.2.2.2.2.2.2.2.2.2
  have hb : gb g ≤ s.heap.size := hE.2.2.2.2.2.2.2.2.2.2
  refine va_new a1.1 a1.2.1 a1.2.2.2.2.1 (cl_ws hc mt) (clTy ci) (cl_ty hc).1 a1.2.2.2.1 (a1.2.2.2.2.1 _ (List.mem_cons_of_mem _ hl)) (a1.2.2.2.2.1 _ (List.mem_cons_of_mem _ hi)) (a1.2.2.2.2.1 _ (List.mem_cons_of_mem _ hn)) hE.1 hP hD a3 (fun q h => Nat.le_trans hb h) hc hfs (by omega) (by omega) d (fun q H1 hP1 hD1 hS1 => W.size fun hz => ?_)
  obtain ⟨rfl, hM0⟩ := wo_new hP hM2 hfull hP1 hD1 (by omega)
  exact kk hM0 p e R s m args below meth c H1 locs (cells + 1) (slots + N) mc ms ls a1 ⟨_, hP1, hD1, wo_push hD hM2 hM0⟩ hS1 a4 (by omega) (by omega) (by omega) a8 a9
theorem va_RA_one {U : State} {t : FieldType} {a b : ClassId} (ht : t = .int ∨ t = .long) (h1 : va_RA U a t) (h2 : va_RA U b t) : a = b := by
  rcases ht with rfl | rfl <;> exact Option.some.inj (h1.symm.trans h2)
theorem V_newI {n : Int32} (N : Nat) (hw : Cond.arrayClass .int ∈ BIG) (h0 : ¬ n < 0) (hN : n.toNatClampNeg = N) (hb9 : N * componentBytes .int ≤ 536870912) (hfull : ∀ k, k < sz → M k ≠ none)
    (d : decode (mC mt) pc = .ok (.newarray .int, 2)) (kk : M sz = none → V g mt (pc + 2) lv (rf g sz :: st) (mup M sz (eI g N (fun _ => 0))) (sz + 1) kc ks Q) : V g mt pc lv (.int n :: st) M sz (kc + 1) (ks + N) Q := by
  intro p e R s m args below meth c H locs cells slots mc ms ls a1 a2 a3 a4 a5 a6 a7 a8 a9
  obtain ⟨ws, hP, hD, hM2⟩ := id a2
  have hE := a1.2.2.2.2.2.2.2.2.2.2.2.2
  have hb : gb g ≤ s.heap.size := hE.2.2.2.2.2.2.2.2.2.2
  refine va_newa (atype := .int) (ty := .int) (a0 := (N, .inl (fun _ => 0))) a1.1 a1.2.1 (a1.2.2.2.2.1 _ (List.mem_cons_of_mem _ hw)) rfl hE.1 hP hD a3 (fun q h => Nat.le_trans hb h) (fun cA => rfl) h0 hN hb9 (by omega) (by omega) d (fun q cA H1 hK1 hP1 hD1 hS1 => W.size fun hz => ?_)
  obtain ⟨rfl, hM0⟩ := wo_new hP hM2 hfull hP1 hD1 (by omega)
  have hcA : cA = gI g := va_RA_one (Or.inl rfl) (hK1.2 3 _ rfl).2 (hK1.2 0 _ rfl).2
  subst hcA
  exact kk hM0 p e R s m args below meth c H1 locs (cells + 1) (slots + N) mc ms ls a1 ⟨_, hP1, hD1, wo_push hD hM2 hM0⟩ hS1 a4 (by omega) (by omega) (by omega) a8 a9
theorem V_newJ {n : Int32} (N : Nat) (hw : Cond.arrayClass .long ∈ BIG) (h0 : ¬ n < 0) (hN : n.toNatClampNeg = N) (hb9 : N * componentBytes .long ≤ 536870912) (hfull : ∀ k, k < sz → M k ≠ none)
    (d : decode (mC mt) pc = .ok (.newarray .long, 2)) (kk : M sz = none → V g mt (pc + 2) lv (rf g sz :: st) (mup M sz (eJ g N (fun _ => 0))) (sz + 1) kc ks Q) : V g mt pc lv (.int n :: st) M sz (kc + 1) (ks + N) Q := by
  intro p e R s m args below meth c H locs cells slots mc ms ls a1 a2 a3 a4 a5 a6 a7 a8 a9
  obtain ⟨ws, hP, hD, hM2⟩ := id a2
  have hE := a1.2.2.2.2.2.2.2.2.2.2.2.2
  have hb : gb g ≤ s.heap.size := hE.2.2.2.2.2.2.2.2.2.2
  refine va_newa (atype := .long) (ty := .long) (a0 := (N, .inr (.inl (fun _ => 0)))) a1.1 a1.2.1 (a1.2.2.2.2.1 _ (List.mem_cons_of_mem _ hw)) rfl hE.1 hP hD a3 (fun q h => Nat.le_trans hb h) (fun cA => rfl) h0 hN hb9 (by omega) (by omega) d (fun q cA H1 hK1 hP1 hD1 hS1 => W.size fun hz => ?_)
  obtain ⟨rfl, hM0⟩ := wo_new hP hM2 hfull hP1 hD1 (by omega)
  have hcA : cA = gJ g := va_RA_one (Or.inr rfl) (hK1.2 3 _ rfl).2 (hK1.2 1 _ rfl).2
  subst hcA
  exact kk hM0 p e R s m args below meth c H1 locs (cells + 1) (slots + N) mc ms ls a1 ⟨_, hP1, hD1, wo_push hD hM2 hM0⟩ hS1 a4 (by omega) (by omega) (by omega) a8 a9
theorem V_newY {n : Int32} {idx : Nat} (N : Nat) (hl : Cond.classLink (mY mt).cls idx "ParishYards$Yards" ∈ BIG) (h0 : ¬ n < 0) (hN : n.toNatClampNeg = N) (hb9 : N * 4 ≤ 536870912) (hfull : ∀ k, k < sz → M k ≠ none)
    (d : decode (mC mt) pc = .ok (.anewarray idx, 3)) (kk : M sz = none → V g mt (pc + 3) lv (rf g sz :: st) (mup M sz (eY g N (fun _ => none))) (sz + 1) kc ks Q) : V g mt pc lv (.int n :: st) M sz (kc + 1) (ks + N) Q := by
  intro p e R s m args below meth c H locs cells slots mc ms ls a1 a2 a3 a4 a5 a6 a7 a8 a9
  obtain ⟨ws, hP, hD, hM2⟩ := id a2
  have hE := a1.2.2.2.2.2.2.2.2.2.2.2.2
  have hb : gb g ≤ s.heap.size := hE.2.2.2.2.2.2.2.2.2.2
  refine va_newq (C := "ParishYards$Yards") a1.1 a1.2.1 a1.2.2.2.1 (a1.2.2.2.2.1 _ (List.mem_cons_of_mem _ hl)) hE.2.2.2.2.2.2.2.2.1 hE.1 hP hD a3 (fun q h => Nat.le_trans hb h) h0 hN hb9 (by omega) (by omega) d (fun q cA H1 hK1 hP1 hD1 hS1 => W.size fun hz => ?_)
  obtain ⟨rfl, hM0⟩ := wo_new hP hM2 hfull hP1 hD1 (by omega)
  have hcA : cA = gY g := by
    obtain ⟨_, _, _, _, _, x1⟩ := (hK1.2 3 _ rfl).2
    obtain ⟨_, _, _, _, _, x2⟩ := (hK1.2 2 _ rfl).2
    exact Option.some.inj (x1.symm.trans x2)
  subst hcA
  exact kk hM0 p e R s m args below meth c H1 locs (cells + 1) (slots + N) mc ms ls a1 ⟨_, hP1, hD1, wo_push hD hM2 hM0⟩ hS1 a4 (by omega) (by omega) (by omega) a8 a9
/-- Object's constructor -/
theorem V_objInit {a idx : Nat} (hl : Cond.methodLink (mY mt).cls idx Lib.objectInit ∈ BIG) (hF : 1 ≤ mF mt) (hO : (st.map fun v => v.category).sum + 12 ≤ mO mt) (d : decode (mC mt) pc = .ok (.invokespecial idx, 3)) (kk : V g mt (pc + 3) lv st M sz kc ks Q) : V g mt pc lv (.ref a :: st) M sz kc ks Q := by
  intro p e R s m args below meth c H locs cells slots mc ms ls a1 a2 a3 a4 a5 a6 a7 a8 a9
  have hin : (Cond.instanceMethod Lib.objectInit) ∈ mWs mt := List.mem_cons_of_mem _ (inBIG 97 (by decide +kernel))
  have hco : (Cond.code Lib.objectInit ⟨#[0xb1]⟩ 1 none) ∈ mWs mt := List.mem_cons_of_mem _ (inBIG 98 (by decide +kernel))
  have hR := a1.2.2.2.2.2.2.2.2.2.2
  refine W.objInit a1.1 a1.2.1 a1.2.2.2.1 (a1.2.2.2.2.1 _ (List.mem_cons_of_mem _ hl)) (a1.2.2.2.2.1 _ hin) (a1.2.2.2.2.1 _ hco) rfl (a4.1.trans a1.2.2.1.symm) rfl d (Nat.le_trans hF hR.1) ?_ ?_
  · show 2 * 0 + _ + 12 ≤ _
    have := hR.2.1
    omega
  · exact W.eq (g2 := F0 m (pc + 3) ls st) rfl (kk p e R s m args below meth c H locs cells slots mc ms ls a1 a2 a3 a4 a5 a6 a7 a8 a9)
end VNEW
end
section
/-! calls of the layer V -/
section VCALL
variable {g : GE} {mt : MT} {pc : Nat} {lv : List (Nat × Value)} {st : List Value} {M : Mem} {sz kc ks : Nat} {Q : Ou → Mem → Prop}
theorem pc_blind {As : List Value} : FrameBlind (va_Pc As (fun U => WO g M U.heap ∧ EV g U U.heap ∧ U.heap.size ≤ gb g + sz)) := by
  intro a U f mk h
  obtain ⟨h1, h2, h3, h4⟩ := h
  exact ⟨h1, h2, EV.same (U := U.calling f mk a) (u := U) rfl h3, h4⟩
/-- a call's words: the callee may be called so -/
def MK (y : MT) (n : Nat) : Prop := mW y ∈ BIG ∧ Cond.initialized (mY y).cls ∈ BIG ∧ ((mY y).cls ≠ "java/lang/invoke/MethodHandle" ∧ (mY y).cls ≠ "java/lang/invoke/VarHandle" ∧ (parseMethodDescriptor (mY y).desc).map (fun d => d.parameters.length) = some n)
theorem good_ws {mt y : MT} (hy : mW y ∈ BIG) : GoodIn (mWs mt) (mWs y) := by
  intro w hw
  rcases List.mem_cons.mp hw with rfl | h
  · exact ⟨List.mem_cons_of_mem _ hy, good_of_word (big_good _ hy)⟩
  · exact ⟨List.mem_cons_of_mem _ h, good_of_word (big_good _ h)⟩
theorem good_cons {big ws : List Cond} {w : Cond} (hw : w ∈ big) (hg : goodWord w = true) (h : GoodIn big ws) : GoodIn big (w :: ws) := by
  intro v hv
  rcases List.mem_cons.mp hv with rfl | h2
  · exact ⟨hw, good_of_word hg⟩
  · exact h v h2
theorem good_big {mt : MT} {ws : List Cond} {w : Cond} (hw : w ∈ BIG) (h : GoodIn (mWs mt) ws) : GoodIn (mWs mt) (w :: ws) := good_cons (List.mem_cons_of_mem _ hw) (big_good _ hw) h
/-- behind a call that returns or throws -/
theorem v_back {p : Program} {e : Env} {R : Room} {s : State} {m : MethodId} {args : Array Value} {below : List Frame} {meth : Method} {c : Code} {H : Heap} {locs : List Loc} {cells slots mc ms mc1 ms1 : Nat} {ls : Array Slot} {st0 : List Value} {a : Array Value} {Q1 : Ou → Mem → Prop}
    (hr : vx_Run p (gl g) e R s m args below meth c H locs cells slots mc1 ms1 (F0 m pc ls st0) st (QR g Q1 a) (QX g Q1) (gA g))
    (a1 : AM g mt p e R s m args meth c) (a3 : va_S (gA g) s.heap H locs) (a4 : lv_has ls (mL mt) lv) (a5 : s.heap.size + cells ≤ gb g + sz) (a6 : cells + (kc + mc1) ≤ mc) (a7 : slots + (ks + ms1) ≤ ms) (a8 : mc ≤ R.cells) (a9 : ms ≤ R.slots)
    (kk : ∀ (v : Option Value) (M1 : Mem), Q1 (.inl v) M1 → V g mt (pc + 3) lv (v.toList ++ st) M1 (sz + mc1) kc ks Q)
    (kx : ∀ (E : String) (M1 : Mem), Q1 (.inr E) M1 → mH mt = [] ∧ Q (.inr E) M1) :
    W p (gl g) e R s m args below meth c H locs cells slots (vx_MQ below (QR g Q) (QX g Q) args s mc ms (gA g)) (F0 m pc ls st0) := by
  intro T hT X
  rcases hr T hT X with ⟨v, st₀, t, T', L, h0, X', hL, e1, e2, ⟨⟨v9, M1, hv, hq, hw⟩, hF⟩, stp⟩ | ⟨q, st₀, t, T', L, E, ce, h0, X', hL, e1, e2, ⟨⟨M1, hq, hw⟩, hF⟩, hce, hcv, hcl, stp⟩
  · cases hv
    obtain ⟨k1, k2, k3⟩ := vx_keep (A1 := gA g) h0 e1 a3 (fun _ _ h => h) (fun _ h => h) hL hF
    obtain ⟨t2, b1, b2⟩ := kk v M1 hq p e R s m args below meth c T'.heap (locs ++ L) (cells + mc1) (slots + ms1) mc ms ls a1 (by rw [e1]; exact hw) k3 a4 (by omega) (by omega) (by omega) a8 a9 T' rfl X'
    exact ⟨t2, stp t2 b1, b2⟩
  · obtain ⟨k1, k2, k3⟩ := vx_keep (A1 := gA g) h0 e1 a3 (fun _ _ h => h) (fun _ h => h) hL hF
    obtain ⟨hH, hQ⟩ := kx E M1 hq
    have hce9 : T'.heap[q]? = some ce := by rw [e1]; exact hce
    have ho := vx_out (mc := mc) (ms := ms) (XC := QX g Q) (Qc := QR g Q) (free := gA g) (c := c) (pc := pc) (ls := ls) (rest := st) (H := T'.heap) (locs := locs ++ L) (cells := cells + mc1) (slots := slots + ms1) (p := p) (l := gl g) (e := e) (R := R) (s := s) (m := m) (args := args) (below := below) (meth := meth) (fun x hx => absurd hx (fun h => a1.2.2.2.2.2.2.2.2.1 hH x h)) a1.2.2.2.2.2.2.1 hce9 hcv hcl
      (fun t9 ht9 _ => ⟨⟨M1, hQ, by rw [ht9, e1]; exact hw⟩, k3.F ht9⟩) k3.2.2 (by omega) (by omega)
    obtain ⟨t2, b1, b2⟩ := ho T' rfl X'
    exact ⟨t2, stp.trans b1, b2⟩
theorem Run.met {y : MT} {As : List Value} {mc ms : Nat} {Q1 : Ou → Mem → Prop} (h : Run g y As M sz mc ms Q1) (hno : ∀ E M1, ¬ Q1 (.inr E) M1) :
    Met (gl g) (mY y) (mWs y) ({ frames := mF y, cells := mc, slots := ms, locals := mO y }) (va_Pc As (fun U => WO g M U.heap ∧ EV g U U.heap ∧ U.heap.size ≤ gb g + sz)) (QR g Q1) mc ms (gA g) := by
  refine MetFree.mono h fun a s o t q => ?_
  rcases q with q | ⟨x, _, E, ce, L, ⟨⟨M1, hq, _⟩, _⟩, _⟩
  · exact q
  · exact absurd hq (hno E M1)
theorem run_up {p : Program} {e : Env} {R : Room} {s : State} {m : MethodId} {args : Array Value} {below : List Frame} {meth : Method} {c : Code} {H : Heap} {locs : List Loc} {cells slots mc1 ms1 : Nat} {f : JFrame} {rest : List Value} {Qa : State → Outcome → State → Prop} {XC : String → State → State → Prop} {free : Addr → Prop} {l : Launch}
    (h : va_Run p l e R s m args below meth c H locs cells slots mc1 ms1 f rest Qa free) : vx_Run p l e R s m args below meth c H locs cells slots mc1 ms1 f rest Qa XC free := fun T hT X => Or.inl (h T hT X)
theorem mWs_code {y : MT} (h : mH y = []) : mWs y = Cond.code (mY y) (mC y) (mL y) (mR y) :: BIG := by unfold mWs mW; rw [h]
theorem mWs_codeW {y : MT} (h : mH y ≠ []) : mWs y = Cond.codeWith (mY y) (mC y) (mL y) (mR y) (mH y) :: BIG := by
  unfold mWs mW
  cases h2 : mH y with
  | nil => exact absurd h2 h
  | cons a b => rfl
/-- a static call -/
theorem V_callS {y : MT} {As : List Value} {idx n mc1 ms1 : Nat} {Q1 : Ou → Mem → Prop} (hr : Run g y As M sz mc1 ms1 Q1) (hy : mH y = []) (hk : MK y n) (hs : Cond.static (mY y) ∈ BIG) (hl : Cond.methodLink (mY mt).cls idx (mY y) ∈ BIG) (hR : mF y + 1 ≤ mF mt ∧ 8 + (mL y + 11) + mO y ≤ mO mt)
    (hn : As.length = n) (hst : (st.map fun v => v.category).sum ≤ 8) (d : decode (mC mt) pc = .ok (.invokestatic idx, 3))
    (kx : ∀ (E : String) (M1 : Mem), Q1 (.inr E) M1 → mH mt = [] ∧ Q (.inr E) M1) {st0 : List Value} (h0 : st0 = As.reverse ++ st)
    (kk : ∀ (v : Option Value) (M1 : Mem), Q1 (.inl v) M1 → V g mt (pc + 3) lv (v.toList ++ st) M1 (sz + mc1) kc ks Q) : V g mt pc lv st0 M sz (kc + mc1) (ks + ms1) Q := by
  intro p e R s m args below meth c H locs cells slots mc ms ls a1 a2 a3 a4 a5 a6 a7 a8 a9
  subst h0
  have hE := a1.2.2.2.2.2.2.2.2.2.2.2.2
  have hRR := a1.2.2.2.2.2.2.2.2.2.2
  refine W.size fun hz => ?_
  exact v_back (vx_runS (Ts := mWs mt) (own := (mY mt).cls) ⟨a1.1, a1.2.1, a1.2.2.1, a1.2.2.2.1, a1.2.2.2.2.1⟩ hr (va_cwS n a1.2.2.2.2.1 (good_big hl (good_big hs (good_big hk.2.1 (good_ws hk.1)))) (mWs_code hy) rfl rfl hk.2.2 ⟨Nat.le_trans hR.1 hRR.1, Nat.le_trans hR.2 hRR.2.1⟩)
    ⟨pc_blind, fun U hU hW => ⟨rfl, by rw [hU]; exact a2, by rw [hU]; exact hE.warm hW a3, by rw [hU]; omega⟩⟩ rfl hn a4.1 rfl (lv_room hst) d ⟨by omega, by omega⟩) a1 a3 a4 a5 a6 a7 a8 a9 kk kx
/-- a call of an object's method -/
theorem V_callV {y : MT} {As : List Value} {a ci idx n mc1 ms1 : Nat} {T : u_T} {N : Nat} {fs : List Value} {Q1 : Ou → Mem → Prop} (hr : Run g y (rf g a :: As) M sz mc1 ms1 Q1) (hM : M a = some (eO ci fs)) (hc : vwCl[ci]? = some ((mY y).cls, T, N)) (hy : mH y = []) (hk : MK y n) (hs : Cond.instanceMethod (mY y) ∈ BIG ∧ Cond.selects (mY y).cls (mY y) (mY y) ∈ BIG) (hl : Cond.methodLink (mY mt).cls idx (mY y) ∈ BIG) (hR : mF y + 1 ≤ mF mt ∧ 8 + (mL y + 11) + mO y ≤ mO mt)
    (hn : As.length = n) (hst : (st.map fun v => v.category).sum ≤ 8) (d : decode (mC mt) pc = .ok (.invokevirtual idx, 3))
    (kx : ∀ (E : String) (M1 : Mem), Q1 (.inr E) M1 → mH mt = [] ∧ Q (.inr E) M1) {st0 : List Value} (h0 : st0 = As.reverse ++ rf g a :: st)
    (kk : ∀ (v : Option Value) (M1 : Mem), Q1 (.inl v) M1 → V g mt (pc + 3) lv (v.toList ++ st) M1 (sz + mc1) kc ks Q) : V g mt pc lv st0 M sz (kc + mc1) (ks + ms1) Q := by
  intro p e R s m args below meth c H locs cells slots mc ms ls a1 a2 a3 a4 a5 a6 a7 a8 a9
  subst h0
  have hE := a1.2.2.2.2.2.2.2.2.2.2.2.2
  have hRR := a1.2.2.2.2.2.2.2.2.2.2
  obtain ⟨ws, hP, hD, hM2⟩ := id a2
  obtain ⟨q0, hq⟩ := wo_at hM2 hM
  refine W.size fun hz => ?_
  exact v_back (vx_runV (Ts := mWs mt) (own := (mY mt).cls) (C := (mY y).cls) ⟨a1.1, a1.2.1, a1.2.2.1, a1.2.2.2.1, a1.2.2.2.2.1⟩ hr (cwV n a1.2.2.2.2.1 (good_big hl (good_big hs.1 (good_big hs.2 (good_big hk.2.1 (good_ws hk.1))))) (mWs_code hy) rfl rfl ⟨rfl, hk.2.2⟩ ⟨Nat.le_trans hR.1 hRR.1, Nat.le_trans hR.2 hRR.2.1⟩)
    ⟨pc_blind, va_recv hE.1 hP hc hq, fun U hU hW => ⟨rfl, by rw [hU]; exact a2, by rw [hU]; exact hE.warm hW a3, by rw [hU]; omega⟩⟩ rfl hn a4.1 rfl (lv_room hst) d ⟨by omega, by omega⟩) a1 a3 a4 a5 a6 a7 a8 a9 kk kx
/-- a call of a constructor -/
theorem V_callI {y : MT} {As : List Value} {a idx n mc1 ms1 : Nat} {Q1 : Ou → Mem → Prop} (hr : Run g y (rf g a :: As) M sz mc1 ms1 Q1) (hno : ∀ E M1, ¬ Q1 (.inr E) M1) (hy : mH y = []) (hy2 : mR y = none) (hk : MK y n) (hs : Cond.instanceMethod (mY y) ∈ BIG) (hi : (mY y).name = "<init>") (hl : Cond.methodLink (mY mt).cls idx (mY y) ∈ BIG) (hR : mF y + 1 ≤ mF mt ∧ 8 + (mL y + 11) + mO y ≤ mO mt)
    (hn : As.length = n) (hst : (st.map fun v => v.category).sum ≤ 8) (d : decode (mC mt) pc = .ok (.invokespecial idx, 3)) {st0 : List Value} (h0 : st0 = As.reverse ++ rf g a :: st)
    (kk : ∀ (v : Option Value) (M1 : Mem), Q1 (.inl v) M1 → V g mt (pc + 3) lv (v.toList ++ st) M1 (sz + mc1) kc ks Q) : V g mt pc lv st0 M sz (kc + mc1) (ks + ms1) Q := by
  intro p e R s m args below meth c H locs cells slots mc ms ls a1 a2 a3 a4 a5 a6 a7 a8 a9
  subst h0
  have hE := a1.2.2.2.2.2.2.2.2.2.2.2.2
  have hRR := a1.2.2.2.2.2.2.2.2.2.2
  have hw := mWs_code hy
  rw [hy2] at hw
  have ok : ∀ w ∈ BIG, w.before args s = true := fun w h => a1.2.2.2.2.1 w (List.mem_cons_of_mem _ h)
  refine W.size fun hz => ?_
  exact v_back (run_up (va_runI (Ts := mWs mt) (own := (mY mt).cls) ⟨a1.1, a1.2.1, a1.2.2.1, a1.2.2.2.1, a1.2.2.2.2.1⟩ (hr.met hno) (cwI n a1.2.2.2.2.1 (good_ws hk.1) hw rfl rfl (ok _ hk.2.1) (ok _ hl) (ok _ hs) hi hk.2.2 ⟨Nat.le_trans hR.1 hRR.1, Nat.le_trans hR.2 hRR.2.1⟩)
    ⟨pc_blind, fun U hU hW => ⟨rfl, by rw [hU]; exact a2, by rw [hU]; exact hE.warm hW a3, by rw [hU]; omega⟩⟩ rfl hn a4.1 rfl (lv_room hst) d ⟨by omega, by omega⟩)) a1 a3 a4 a5 a6 a7 a8 a9 kk (fun E M1 h => absurd h (hno E M1))
/-- a static call of a nest mate's private method -/
theorem V_callSN {y : MT} {As : List Value} {idx n mc1 ms1 : Nat} {host : String} {Q1 : Ou → Mem → Prop} (hr : Run g y As M sz mc1 ms1 Q1) (hno : ∀ E M1, ¬ Q1 (.inr E) M1) (hy : mH y = []) (hk : MK y n) (hs : Cond.static (mY y) ∈ BIG) (hl : Cond.methodLinkNest (mY mt).cls idx (mY y) host ∈ NWL) (hR : mF y + 1 ≤ mF mt ∧ 8 + (mL y + 11) + mO y ≤ mO mt)
    (hn : As.length = n) (hst : (st.map fun v => v.category).sum ≤ 8) (d : decode (mC mt) pc = .ok (.invokestatic idx, 3)) {st0 : List Value} (h0 : st0 = As.reverse ++ st)
    (kk : ∀ (v : Option Value) (M1 : Mem), Q1 (.inl v) M1 → V g mt (pc + 3) lv (v.toList ++ st) M1 (sz + mc1) kc ks Q) : V g mt pc lv st0 M sz (kc + mc1) (ks + ms1) Q := by
  intro p e R s m args below meth c H locs cells slots mc ms ls a1 a2 a3 a4 a5 a6 a7 a8 a9
  subst h0
  have hE := a1.2.2.2.2.2.2.2.2.2.2.2.2
  have hRR := a1.2.2.2.2.2.2.2.2.2.2
  have ok : ∀ w ∈ BIG, w.before args s = true := fun w h => a1.2.2.2.2.1 w (List.mem_cons_of_mem _ h)
  refine W.size fun hz => ?_
  exact v_back (run_up (va_runSN (Ts := mWs mt) (own := (mY mt).cls) ⟨a1.1, a1.2.1, a1.2.2.1, a1.2.2.2.1, a1.2.2.2.2.1⟩ (hr.met hno) ⟨va_cnB n a1.2.2.2.2.1 (good_ws hk.1) (mWs_code hy) rfl rfl (hE.2.1 _ hl) (ok _ hk.2.1) hk.2.2 ⟨Nat.le_trans hR.1 hRR.1, Nat.le_trans hR.2 hRR.2.1⟩, ok _ hs, trivial⟩
    ⟨pc_blind, fun U hU hW => ⟨rfl, by rw [hU]; exact a2, by rw [hU]; exact hE.warm hW a3, by rw [hU]; omega⟩⟩ rfl hn a4.1 rfl (lv_room hst) d ⟨by omega, by omega⟩)) a1 a3 a4 a5 a6 a7 a8 a9 kk (fun E M1 h => absurd h (hno E M1))
end VCALL
end
section
/-! throws and catches of the layer V -/
def ctorIdx : Nat → Nat := fun k => match k with
  | 0 => 128
  | 1 => 197
  | _ => 105
def newIdx : Nat → Nat := fun k => match k with
  | 0 => 124
  | 1 => 193
  | _ => 101
def upNames : List String := ["java/lang/RuntimeException", "java/lang/Exception"]
def exW (k : Nat) : List Cond := Cond.classLink RX8 (newIdx k) (exN k) :: Cond.initialized (exN k) :: vx_atS RX8 (ctorIdx k) (exN k) upNames
set_option maxRecDepth 100000 in
theorem exW_ok : ∀ k, k < 3 → ∀ w ∈ exW k, w ∈ lw_tbl ∧ (goodWord w || nestWord w) = true ∧ vx_ot w = true := by
  have h : ([0, 1, 2].all fun k => (exW k).all fun w => decide (w ∈ lw_tbl) && ((goodWord w || nestWord w) && vx_ot w)) = true := by decide +kernel
  intro k hk w hw
  have h1 := List.all_eq_true.mp (List.all_eq_true.mp h k (by rcases k with _ | _ | _ | k <;> first | omega | simp)) w hw
  simp only [Bool.and_eq_true, decide_eq_true_eq] at h1
  exact ⟨h1.1, h1.2.1, h1.2.2⟩
theorem exW_at {g : GE} {mt : MT} {s : State} {args : Array Value} {H : Heap} (ht : ∀ w ∈ mWs mt, w.before args s = true) (hE : EV g s H) {k : Nat} (hk : k < 3) : ∀ w ∈ exW k, w.before args s = true := by
  intro w hw
  obtain ⟨h1, h2, -⟩ := exW_ok k hk w hw
  cases hg : goodWord w with
  | true => exact ht w (List.mem_cons_of_mem _ (List.mem_filter.mpr ⟨h1, hg⟩))
  | false =>
    rw [hg, Bool.false_or] at h2
    exact va_Nw.use (nest_on h2) (hE.2.1 w (List.mem_filter.mpr ⟨h1, h2⟩))
section VTHROW
variable {g : GE} {mt : MT} {pc : Nat} {lv : List (Nat × Value)} {st : List Value} {M : Mem} {sz kc ks : Nat} {Q : Ou → Mem → Prop}
theorem V_throwS (k t : Nat) {ik is ic : Nat} (hk : k < 3) (ht : t < 14) (hc : (mY mt).cls = RX8) (hH : mH mt = []) (h1 : newIdx k = ik) (h2 : (txW t).1 = is) (h3 : ctorIdx k = ic) (hF : 6 ≤ mF mt) (hO : (st.map fun v => v.category).sum + 82 ≤ mO mt)
    (d0 : decode (mC mt) pc = .ok (.new ik, 3)) (d3 : decode (mC mt) (pc + 3) = .ok (.dup, 1)) (d4 : decode (mC mt) (pc + 4) = .ok (.ldc is, 2)) (d6 : decode (mC mt) (pc + 6) = .ok (.invokespecial ic, 3)) (d9 : decode (mC mt) (pc + 9) = .ok (.athrow, 1))
    (hq : Q (.inr (exN k)) M) : V g mt pc lv st M sz (kc + 1) (ks + 6) Q := by
  subst h1 h2 h3
  intro p e R s m args below meth c H locs cells slots mc ms ls a1 a2 a3 a4 a5 a6 a7 a8 a9
  have hE := a1.2.2.2.2.2.2.2.2.2.2.2.2
  have hRR := a1.2.2.2.2.2.2.2.2.2.2
  have hw := exW_at a1.2.2.2.2.1 hE hk
  have hown : s.vm.findClass RX8 = some m.cls := by rw [← hc]; exact a1.2.2.2.1
  obtain ⟨ws, hP, hD, hM2⟩ := id a2
  refine vx_throwS (names := upNames) a1.1 a1.2.1 hE.2.2.2.2.2.2.2.2.2.1 hown (by rcases k with _ | _ | _ | k <;> first | decide +kernel | omega) (by decide +kernel) (hw _ List.mem_cons_self) (hw _ (List.mem_cons_of_mem _ List.mem_cons_self)) (hE.2.2.2.2.2.1 t ht) (fun w h => hw w (List.mem_cons_of_mem _ (List.mem_cons_of_mem _ h))) (fun w h => (exW_ok k hk w h).2.2) hE.2.2.2.2.1.1 hE.2.2.2.2.1.2 a3 (a4.1.trans a1.2.2.1.symm) d0 d3 d4 d6 d9 (fun x hx => absurd hx (fun h => a1.2.2.2.2.2.2.2.2.1 hH x h)) ?_ ?_ (by omega) (by omega) a1.2.2.2.2.2.2.1 ?_ a3.2.2 (by omega) (by omega)
  · show 2 + 3 < R.frames
    have := hRR.1
    omega
  · show _ + (13 * (2 + 1) + 43) ≤ R.locals
    have := hRR.2.1
    omega
  · intro t9 _ hz hkp
    exact ⟨⟨M, hq, ⟨ws, hP.kept (fun j x hj => hkp x.1 (hP j x hj).lt), hD, hM2⟩⟩, Nat.le_trans a3.1 hz, fun q h5 h6 => (hkp q (Nat.lt_of_lt_of_le h5 a3.1)).trans (a3.2.1 q h5 h6)⟩
theorem V_throwSW (k t : Nat) {ik is ic : Nat} (hk : k < 3) (ht : t < 14) (hc : (mY mt).cls = RX8) (hH : mH mt = []) (h1 : newIdx k = ik) (h2 : (txW t).1 = is) (h3 : ctorIdx k = ic) (hF : 6 ≤ mF mt) (hO : (st.map fun v => v.category).sum + 82 ≤ mO mt)
    (d0 : decode (mC mt) pc = .ok (.new ik, 3)) (d3 : decode (mC mt) (pc + 3) = .ok (.dup, 1)) (d4 : decode (mC mt) (pc + 4) = .ok (.ldc_w is, 3)) (d7 : decode (mC mt) (pc + 7) = .ok (.invokespecial ic, 3)) (d10 : decode (mC mt) (pc + 10) = .ok (.athrow, 1))
    (hq : Q (.inr (exN k)) M) : V g mt pc lv st M sz (kc + 1) (ks + 6) Q := by
  subst h1 h2 h3
  intro p e R s m args below meth c H locs cells slots mc ms ls a1 a2 a3 a4 a5 a6 a7 a8 a9
  have hE := a1.2.2.2.2.2.2.2.2.2.2.2.2
  have hRR := a1.2.2.2.2.2.2.2.2.2.2
  have hw := exW_at a1.2.2.2.2.1 hE hk
  have hown : s.vm.findClass RX8 = some m.cls := by rw [← hc]; exact a1.2.2.2.1
  obtain ⟨ws, hP, hD, hM2⟩ := id a2
  refine vx_throwSW (names := upNames) a1.1 a1.2.1 hE.2.2.2.2.2.2.2.2.2.1 hown (by rcases k with _ | _ | _ | k <;> first | decide +kernel | omega) (by decide +kernel) (hw _ List.mem_cons_self) (hw _ (List.mem_cons_of_mem _ List.mem_cons_self)) (hE.2.2.2.2.2.1 t ht) (fun w h => hw w (List.mem_cons_of_mem _ (List.mem_cons_of_mem _ h))) (fun w h => (exW_ok k hk w h).2.2) hE.2.2.2.2.1.1 hE.2.2.2.2.1.2 a3 (a4.1.trans a1.2.2.1.symm) d0 d3 d4 d7 d10 (fun x hx => absurd hx (fun h => a1.2.2.2.2.2.2.2.2.1 hH x h)) ?_ ?_ (by omega) (by omega) a1.2.2.2.2.2.2.1 ?_ a3.2.2 (by omega) (by omega)
  · show 2 + 3 < R.frames
    have := hRR.1
    omega
  · show _ + (13 * (2 + 1) + 43) ≤ R.locals
    have := hRR.2.1
    omega
  · intro t9 _ hz hkp
    exact ⟨⟨M, hq, ⟨ws, hP.kept (fun j x hj => hkp x.1 (hP j x hj).lt), hD, hM2⟩⟩, Nat.le_trans a3.1 hz, fun q h5 h6 => (hkp q (Nat.lt_of_lt_of_le h5 a3.1)).trans (a3.2.1 q h5 h6)⟩
/-- E is thrown over the frame -/
def VX (g : GE) (mt : MT) (pc : Nat) (lv : List (Nat × Value)) (M : Mem) (sz kc ks : Nat) (E : String) (Q : Ou → Mem → Prop) : Prop :=
  ∀ (p : Program) (e : Env) (R : Room) (s : State) (m : MethodId) (args : Array Value) (below : List Frame) (meth : Method) (c : Code) (H : Heap) (locs : List Loc) (cells slots mc ms : Nat) (ls : Array Slot) (rest : List Value) (q : Addr) (ce : Cell),
    AM g mt p e R s m args meth c → WO g M H → va_S (gA g) s.heap H locs → lv_has ls (mL mt) lv → s.heap.size + cells ≤ gb g + sz → cells + kc ≤ mc → slots + ks ≤ ms → mc ≤ R.cells → ms ≤ R.slots → H[q]? = some ce → ce.vm = .none → s.vm.findClass E = some ce.cls →
    vx_W p (gl g) e R s m args below meth c H locs cells slots (vx_MQ below (QR g Q) (QX g Q) args s mc ms (gA g)) (F0 m pc ls rest) q
/-- a catch: the rows ahead name other classes -/
theorem VX_catch {k : Nat} (pre : List (Nat × Nat × Nat × Nat)) (x : Nat × Nat × Nat × Nat) (suf : List (Nat × Nat × Nat × Nat)) (hk : k < 3) (hh : mH mt = pre ++ x :: suf)
    (hpre : ∀ z ∈ pre, z.2.2.2 ≠ 0 ∧ ∃ j, j < 3 ∧ k ≠ j ∧ Cond.classLink (mY mt).cls z.2.2.2 (exN j) ∈ BIG)
    (hc : covers ⟨x.1, x.2.1, x.2.2.1, x.2.2.2⟩ pc = true) (h0 : x.2.2.2 ≠ 0) (hl : Cond.classLink (mY mt).cls x.2.2.2 (exN k) ∈ BIG) (hcast : Cond.castable (exN k) (exN k) ∈ NWL)
    (kk : ∀ q, V g mt x.2.2.1 lv [.ref q] M sz kc ks Q) : VX g mt pc lv M sz kc ks (exN k) Q := by
  intro p e R s m args below meth c H locs cells slots mc ms ls rest q ce a1 a2 a3 a4 a5 a6 a7 a8 a9 b1 b2 b3
  have hE := a1.2.2.2.2.2.2.2.2.2.2.2.2
  have hne : mH mt ≠ [] := by rw [hh]; simp
  have htab := a1.2.2.2.2.2.2.2.2.2.1 hne
  have ok : ∀ w ∈ BIG, w.before args s = true := fun w h => a1.2.2.2.2.1 w (List.mem_cons_of_mem _ h)
  refine vx_catch a1.2.2.2.1 (tableOf pre) ⟨x.1, x.2.1, x.2.2.1, x.2.2.2⟩ (tableOf suf) (by rw [htab, hh]; simp [tableOf]) ?_ hc h0 (ok _ hl) (va_Nw.use rfl (hE.2.1 _ hcast)) b1 b2 b3 (kk q p e R s m args below meth c H locs cells slots mc ms ls a1 a2 a3 a4 a5 a6 a7 a8 a9)
  intro z hz
  obtain ⟨y, hy, rfl⟩ := List.mem_map.mp hz
  obtain ⟨c1, j, hj, hkj, c2⟩ := hpre y hy
  exact Or.inr ⟨c1, _, ok _ c2, hE.2.2.2.2.2.2.1 k j hk hj hkj⟩
/-- a call of an object's method from a method with handlers -/
theorem V_callVH {y : MT} {As : List Value} {a ci idx n mc1 ms1 : Nat} {T : u_T} {N : Nat} {fs : List Value} {Q1 : Ou → Mem → Prop} (hr : Run g y (rf g a :: As) M sz mc1 ms1 Q1) (hM : M a = some (eO ci fs)) (hc : vwCl[ci]? = some ((mY y).cls, T, N)) (hy : mH y = []) (hk : MK y n) (hs : Cond.instanceMethod (mY y) ∈ BIG ∧ Cond.selects (mY y).cls (mY y) (mY y) ∈ BIG) (hl : Cond.methodLink (mY mt).cls idx (mY y) ∈ BIG) (hR : mF y + 1 ≤ mF mt ∧ 8 + (mL y + 11) + mO y ≤ mO mt)
    (hn : As.length = n) (hst : (st.map fun v => v.category).sum ≤ 8) (d : decode (mC mt) pc = .ok (.invokevirtual idx, 3))
    {st0 : List Value} (h0 : st0 = As.reverse ++ rf g a :: st)
    (kk : ∀ (v : Option Value) (M1 : Mem), Q1 (.inl v) M1 → V g mt (pc + 3) lv (v.toList ++ st) M1 (sz + mc1) kc ks Q)
    (kx : ∀ (E : String) (M1 : Mem), Q1 (.inr E) M1 → VX g mt pc lv M1 (sz + mc1) kc ks E Q) : V g mt pc lv st0 M sz (kc + mc1) (ks + ms1) Q := by
  intro p e R s m args below meth c H locs cells slots mc ms ls a1 a2 a3 a4 a5 a6 a7 a8 a9
  subst h0
  have hE := a1.2.2.2.2.2.2.2.2.2.2.2.2
  have hRR := a1.2.2.2.2.2.2.2.2.2.2
  obtain ⟨ws, hP, hD, hM2⟩ := id a2
  obtain ⟨q0, hq⟩ := wo_at hM2 hM
  refine W.size fun hz => ?_
  have hrun := vx_runV (Ts := mWs mt) (own := (mY mt).cls) (C := (mY y).cls) (g := F0 m pc ls (As.reverse ++ rf g a :: st)) (cells := cells) (slots := slots) (locs := locs) (below := below) (meth := meth) (e := e) ⟨a1.1, a1.2.1, a1.2.2.1, a1.2.2.2.1, a1.2.2.2.2.1⟩ hr (cwV n a1.2.2.2.2.1 (good_big hl (good_big hs.1 (good_big hs.2 (good_big hk.2.1 (good_ws hk.1))))) (mWs_code hy) rfl rfl ⟨rfl, hk.2.2⟩ ⟨Nat.le_trans hR.1 hRR.1, Nat.le_trans hR.2 hRR.2.1⟩)
    ⟨pc_blind, va_recv hE.1 hP hc hq, fun U hU hW => ⟨rfl, by rw [hU]; exact a2, by rw [hU]; exact hE.warm hW a3, by rw [hU]; omega⟩⟩ rfl hn a4.1 rfl (lv_room hst) d ⟨by omega, by omega⟩
  intro T9 hT X
  rcases hrun T9 hT X with ⟨v, st₀, t, T', L, h0, X', hL, e1, e2, ⟨⟨v9, M1, hv, hq9, hw⟩, hF⟩, stp⟩ | ⟨q, st₀, t, T', L, E, ce, h0, X', hL, e1, e2, ⟨⟨M1, hq9, hw⟩, hF⟩, hce, hcv, hcl, stp⟩
  · cases hv
    obtain ⟨k1, k2, k3⟩ := vx_keep (A1 := gA g) h0 e1 a3 (fun _ _ h => h) (fun _ h => h) hL hF
    obtain ⟨t2, b1, b2⟩ := kk v M1 hq9 p e R s m args below meth c T'.heap (locs ++ L) (cells + mc1) (slots + ms1) mc ms ls a1 (by rw [e1]; exact hw) k3 a4 (by omega) (by omega) (by omega) a8 a9 T' rfl X'
    exact ⟨t2, stp t2 b1, b2⟩
  · obtain ⟨k1, k2, k3⟩ := vx_keep (A1 := gA g) h0 e1 a3 (fun _ _ h => h) (fun _ h => h) hL hF
    obtain ⟨t2, b1, b2⟩ := kx E M1 hq9 p e R s m args below meth c T'.heap (locs ++ L) (cells + mc1) (slots + ms1) mc ms ls st q ce a1 (by rw [e1]; exact hw) k3 a4 (by omega) (by omega) (by omega) a8 a9 (by rw [e1]; exact hce) hcv hcl T' rfl X'
    exact ⟨t2, stp.trans b1, b2⟩
/-- a static call of a method with handlers (of one's own class) -/
theorem V_callSH {y : MT} {As : List Value} {idx n mc1 ms1 : Nat} {Q1 : Ou → Mem → Prop} (hr : Run g y As M sz mc1 ms1 Q1) (hno : ∀ E M1, ¬ Q1 (.inr E) M1) (hy : mH y ≠ []) (hk : MK y n) (hs : Cond.static (mY y) ∈ BIG) (hl : Cond.methodLink (mY mt).cls idx (mY y) ∈ BIG) (hR : mF y + 1 ≤ mF mt ∧ 8 + (mL y + 11) + mO y ≤ mO mt)
    (hn : As.length = n) (hst : (st.map fun v => v.category).sum ≤ 8) (d : decode (mC mt) pc = .ok (.invokestatic idx, 3))
    {st0 : List Value} (h0 : st0 = As.reverse ++ st)
    (kk : ∀ (v : Option Value) (M1 : Mem), Q1 (.inl v) M1 → V g mt (pc + 3) lv (v.toList ++ st) M1 (sz + mc1) kc ks Q) : V g mt pc lv st0 M sz (kc + mc1) (ks + ms1) Q := by
  intro p e R s m args below meth c H locs cells slots mc ms ls a1 a2 a3 a4 a5 a6 a7 a8 a9
  subst h0
  have hE := a1.2.2.2.2.2.2.2.2.2.2.2.2
  have hRR := a1.2.2.2.2.2.2.2.2.2.2
  refine W.size fun hz => ?_
  have cw := vx_cwSW (R := R) (own := (mY mt).cls) (index := idx) (y := mY y) (bytes := mC y) (maxL := mL y) (ret := mR y) (hh := mH y) (Ts := mWs mt) (ws := mWs y) (rm := { frames := mF y, cells := mc1, slots := ms1, locals := mO y }) (mc := mc1) (ms := ms1) n a1.2.2.2.2.1 (good_big hl (good_big hs (good_big hk.2.1 (good_ws hk.1)))) (mWs_codeW hy) rfl rfl hk.2.2 ⟨Nat.le_trans hR.1 hRR.1, Nat.le_trans hR.2 hRR.2.1⟩
  exact v_back (vx_runSX (Ts := mWs mt) (own := (mY mt).cls) ⟨a1.1, a1.2.1, a1.2.2.1, a1.2.2.2.1, a1.2.2.2.2.1⟩ hr cw
    ⟨pc_blind, fun U hU hW => ⟨rfl, by rw [hU]; exact a2, by rw [hU]; exact hE.warm hW a3, by rw [hU]; omega⟩⟩ rfl hn a4.1 rfl (lv_room hst) d ⟨by omega, by omega⟩) a1 a3 a4 a5 a6 a7 a8 a9 kk (fun E M1 h => absurd h (hno E M1))
end VTHROW
end
