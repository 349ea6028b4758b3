-- ===== PART A: goes FIRST, ahead of the names: the tables' words, and 'selects' of the private methods out of them =====
/-- a private method of a class that the tables say can be made, by its rows of tables_1 -/
def lw_okq (q : MethodName × Nat) : Prop := (q.1.cls ≠ "java/lang/invoke/MethodHandle" ∧ q.1.cls ≠ "java/lang/invoke/VarHandle") ∧ Cond.instantiable q.1.cls q.2 ∈ tables_1 ∧ Cond.privateMethod q.1 ∈ tables_1 ∧ Cond.instanceMethod q.1 ∈ tables_1
theorem lw_p0 : lw_okq (⟨"WheelTables", "trayAt", "(I)LWheelTables$Tray;"⟩, 16) := ⟨⟨by decide +kernel, by decide +kernel⟩, List.mem_of_getElem? (i := 22) (by decide +kernel), List.mem_of_getElem? (i := 382) (by decide +kernel), List.mem_of_getElem? (i := 383) (by decide +kernel)⟩
theorem lw_p1 : lw_okq (⟨"WheelTables", "newEngineStatus", "(IILWheelTables$Tray;)I"⟩, 16) := ⟨⟨by decide +kernel, by decide +kernel⟩, List.mem_of_getElem? (i := 22) (by decide +kernel), List.mem_of_getElem? (i := 460) (by decide +kernel), List.mem_of_getElem? (i := 461) (by decide +kernel)⟩
theorem lw_p2 : lw_okq (⟨"WheelTables", "engineAt", "(I)LWheelTables$Engine;"⟩, 16) := ⟨⟨by decide +kernel, by decide +kernel⟩, List.mem_of_getElem? (i := 22) (by decide +kernel), List.mem_of_getElem? (i := 557) (by decide +kernel), List.mem_of_getElem? (i := 558) (by decide +kernel)⟩
theorem lw_p3 : lw_okq (⟨"WheelTables$Engine", "markTrouble", "()V"⟩, 15) := ⟨⟨by decide +kernel, by decide +kernel⟩, List.mem_of_getElem? (i := 477) (by decide +kernel), List.mem_of_getElem? (i := 668) (by decide +kernel), List.mem_of_getElem? (i := 669) (by decide +kernel)⟩
theorem lw_p4 : lw_okq (⟨"WheelTables$Engine", "addNextTo", "(I)V"⟩, 15) := ⟨⟨by decide +kernel, by decide +kernel⟩, List.mem_of_getElem? (i := 477) (by decide +kernel), List.mem_of_getElem? (i := 672) (by decide +kernel), List.mem_of_getElem? (i := 673) (by decide +kernel)⟩
theorem lw_p5 : lw_okq (⟨"WheelTables$Engine", "carryTo", "(II)V"⟩, 15) := ⟨⟨by decide +kernel, by decide +kernel⟩, List.mem_of_getElem? (i := 477) (by decide +kernel), List.mem_of_getElem? (i := 676) (by decide +kernel), List.mem_of_getElem? (i := 677) (by decide +kernel)⟩
theorem lw_p6 : lw_okq (⟨"WheelTables$Engine", "slipAndClear", "()V"⟩, 15) := ⟨⟨by decide +kernel, by decide +kernel⟩, List.mem_of_getElem? (i := 477) (by decide +kernel), List.mem_of_getElem? (i := 680) (by decide +kernel), List.mem_of_getElem? (i := 681) (by decide +kernel)⟩
theorem lw_p7 : lw_okq (⟨"WheelTables$Explanation", "showWithoutMishap", "(LWheelTables$Engine;LWheelTables$Tray;I)I"⟩, 9) := ⟨⟨by decide +kernel, by decide +kernel⟩, List.mem_of_getElem? (i := 34) (by decide +kernel), List.mem_of_getElem? (i := 701) (by decide +kernel), List.mem_of_getElem? (i := 702) (by decide +kernel)⟩
theorem lw_p8 : lw_okq (⟨"WheelTables$Explanation", "seekInTurn", "(LWheelTables$Engine;LWheelTables$Tray;II)Z"⟩, 9) := ⟨⟨by decide +kernel, by decide +kernel⟩, List.mem_of_getElem? (i := 34) (by decide +kernel), List.mem_of_getElem? (i := 719) (by decide +kernel), List.mem_of_getElem? (i := 720) (by decide +kernel)⟩
theorem lw_p9 : lw_okq (⟨"WheelTables$Explanation", "leadAstray", "(LWheelTables$Engine;III)Z"⟩, 9) := ⟨⟨by decide +kernel, by decide +kernel⟩, List.mem_of_getElem? (i := 34) (by decide +kernel), List.mem_of_getElem? (i := 723) (by decide +kernel), List.mem_of_getElem? (i := 724) (by decide +kernel)⟩
theorem lw_p10 : lw_okq (⟨"WheelTables$Explanation", "lostBy", "(LWheelTables$Engine;III)J"⟩, 9) := ⟨⟨by decide +kernel, by decide +kernel⟩, List.mem_of_getElem? (i := 34) (by decide +kernel), List.mem_of_getElem? (i := 727) (by decide +kernel), List.mem_of_getElem? (i := 728) (by decide +kernel)⟩
theorem lw_p11 : lw_okq (⟨"WheelTables$Explanation", "agreesFrom", "(LWheelTables$Engine;LWheelTables$Tray;II)Z"⟩, 9) := ⟨⟨by decide +kernel, by decide +kernel⟩, List.mem_of_getElem? (i := 34) (by decide +kernel), List.mem_of_getElem? (i := 733) (by decide +kernel), List.mem_of_getElem? (i := 734) (by decide +kernel)⟩
theorem lw_p12 : lw_okq (⟨"WheelTables$Explanation", "tellOf", "(IIII)V"⟩, 9) := ⟨⟨by decide +kernel, by decide +kernel⟩, List.mem_of_getElem? (i := 34) (by decide +kernel), List.mem_of_getElem? (i := 738) (by decide +kernel), List.mem_of_getElem? (i := 739) (by decide +kernel)⟩
theorem lw_p13 : lw_okq (⟨"WheelTables$FinerTable", "scaledValue", "(III)J"⟩, 4) := ⟨⟨by decide +kernel, by decide +kernel⟩, List.mem_of_getElem? (i := 69) (by decide +kernel), List.mem_of_getElem? (i := 770) (by decide +kernel), List.mem_of_getElem? (i := 771) (by decide +kernel)⟩
theorem lw_p14 : lw_okq (⟨"WheelTables$FinerTable", "allRight", "(IJJI)Z"⟩, 4) := ⟨⟨by decide +kernel, by decide +kernel⟩, List.mem_of_getElem? (i := 69) (by decide +kernel), List.mem_of_getElem? (i := 775) (by decide +kernel), List.mem_of_getElem? (i := 776) (by decide +kernel)⟩
theorem lw_p15 : lw_okq (⟨"WheelTables", "tapeBytes", "(I)V"⟩, 16) := ⟨⟨by decide +kernel, by decide +kernel⟩, List.mem_of_getElem? (i := 22) (by decide +kernel), List.mem_of_getElem? (i := 792) (by decide +kernel), List.mem_of_getElem? (i := 793) (by decide +kernel)⟩
def lw_privs_1 : List (MethodName × Nat) := [(⟨"WheelTables", "trayAt", "(I)LWheelTables$Tray;"⟩, 16), (⟨"WheelTables", "newEngineStatus", "(IILWheelTables$Tray;)I"⟩, 16), (⟨"WheelTables", "engineAt", "(I)LWheelTables$Engine;"⟩, 16), (⟨"WheelTables$Engine", "markTrouble", "()V"⟩, 15), (⟨"WheelTables$Engine", "addNextTo", "(I)V"⟩, 15), (⟨"WheelTables$Engine", "carryTo", "(II)V"⟩, 15), (⟨"WheelTables$Engine", "slipAndClear", "()V"⟩, 15), (⟨"WheelTables$Explanation", "showWithoutMishap", "(LWheelTables$Engine;LWheelTables$Tray;I)I"⟩, 9), (⟨"WheelTables$Explanation", "seekInTurn", "(LWheelTables$Engine;LWheelTables$Tray;II)Z"⟩, 9), (⟨"WheelTables$Explanation", "leadAstray", "(LWheelTables$Engine;III)Z"⟩, 9), (⟨"WheelTables$Explanation", "lostBy", "(LWheelTables$Engine;III)J"⟩, 9), (⟨"WheelTables$Explanation", "agreesFrom", "(LWheelTables$Engine;LWheelTables$Tray;II)Z"⟩, 9), (⟨"WheelTables$Explanation", "tellOf", "(IIII)V"⟩, 9), (⟨"WheelTables$FinerTable", "scaledValue", "(III)J"⟩, 4), (⟨"WheelTables$FinerTable", "allRight", "(IJJI)Z"⟩, 4), (⟨"WheelTables", "tapeBytes", "(I)V"⟩, 16)]
theorem lw_r1 : ∀ q ∈ lw_privs_1, lw_okq q := List.forall_mem_cons.mpr ⟨lw_p0, List.forall_mem_cons.mpr ⟨lw_p1, List.forall_mem_cons.mpr ⟨lw_p2, List.forall_mem_cons.mpr ⟨lw_p3, List.forall_mem_cons.mpr ⟨lw_p4, List.forall_mem_cons.mpr ⟨lw_p5, List.forall_mem_cons.mpr ⟨lw_p6, List.forall_mem_cons.mpr ⟨lw_p7, List.forall_mem_cons.mpr ⟨lw_p8, List.forall_mem_cons.mpr ⟨lw_p9, List.forall_mem_cons.mpr ⟨lw_p10, List.forall_mem_cons.mpr ⟨lw_p11, List.forall_mem_cons.mpr ⟨lw_p12, List.forall_mem_cons.mpr ⟨lw_p13, List.forall_mem_cons.mpr ⟨lw_p14, List.forall_mem_cons.mpr ⟨lw_p15, fun _ h => absurd h List.not_mem_nil⟩⟩⟩⟩⟩⟩⟩⟩⟩⟩⟩⟩⟩⟩⟩⟩
theorem lw_p16 : lw_okq (⟨"WheelTables$CardReader", "nextToken", "()V"⟩, 8) := ⟨⟨by decide +kernel, by decide +kernel⟩, List.mem_of_getElem? (i := 88) (by decide +kernel), List.mem_of_getElem? (i := 805) (by decide +kernel), List.mem_of_getElem? (i := 806) (by decide +kernel)⟩
theorem lw_p17 : lw_okq (⟨"WheelTables$CardReader", "signAt", "(I)I"⟩, 8) := ⟨⟨by decide +kernel, by decide +kernel⟩, List.mem_of_getElem? (i := 88) (by decide +kernel), List.mem_of_getElem? (i := 809) (by decide +kernel), List.mem_of_getElem? (i := 810) (by decide +kernel)⟩
theorem lw_p18 : lw_okq (⟨"WheelTables$CardReader", "tokenAt", "(I)I"⟩, 8) := ⟨⟨by decide +kernel, by decide +kernel⟩, List.mem_of_getElem? (i := 88) (by decide +kernel), List.mem_of_getElem? (i := 813) (by decide +kernel), List.mem_of_getElem? (i := 814) (by decide +kernel)⟩
theorem lw_p19 : lw_okq (⟨"WheelTables$CardReader", "valueOf", "(II)J"⟩, 8) := ⟨⟨by decide +kernel, by decide +kernel⟩, List.mem_of_getElem? (i := 88) (by decide +kernel), List.mem_of_getElem? (i := 817) (by decide +kernel), List.mem_of_getElem? (i := 818) (by decide +kernel)⟩
theorem lw_p20 : lw_okq (⟨"WheelTables$CardReader", "readCard", "(LWheelTables$Deck;)V"⟩, 8) := ⟨⟨by decide +kernel, by decide +kernel⟩, List.mem_of_getElem? (i := 88) (by decide +kernel), List.mem_of_getElem? (i := 823) (by decide +kernel), List.mem_of_getElem? (i := 824) (by decide +kernel)⟩
theorem lw_p21 : lw_okq (⟨"WheelTables$CardReader", "cardKind", "()I"⟩, 8) := ⟨⟨by decide +kernel, by decide +kernel⟩, List.mem_of_getElem? (i := 88) (by decide +kernel), List.mem_of_getElem? (i := 827) (by decide +kernel), List.mem_of_getElem? (i := 828) (by decide +kernel)⟩
theorem lw_p22 : lw_okq (⟨"WheelTables$CardReader", "wordIs", "(Ljava/lang/String;)Z"⟩, 8) := ⟨⟨by decide +kernel, by decide +kernel⟩, List.mem_of_getElem? (i := 88) (by decide +kernel), List.mem_of_getElem? (i := 832) (by decide +kernel), List.mem_of_getElem? (i := 833) (by decide +kernel)⟩
theorem lw_p23 : lw_okq (⟨"WheelTables$CardReader", "refuse", "(I)V"⟩, 8) := ⟨⟨by decide +kernel, by decide +kernel⟩, List.mem_of_getElem? (i := 88) (by decide +kernel), List.mem_of_getElem? (i := 891) (by decide +kernel), List.mem_of_getElem? (i := 892) (by decide +kernel)⟩
theorem lw_p24 : lw_okq (⟨"WheelTables$CardReader", "readNumber", "(II)I"⟩, 8) := ⟨⟨by decide +kernel, by decide +kernel⟩, List.mem_of_getElem? (i := 88) (by decide +kernel), List.mem_of_getElem? (i := 902) (by decide +kernel), List.mem_of_getElem? (i := 903) (by decide +kernel)⟩
theorem lw_p25 : lw_okq (⟨"WheelTables$CardReader", "readWhole", "()J"⟩, 8) := ⟨⟨by decide +kernel, by decide +kernel⟩, List.mem_of_getElem? (i := 88) (by decide +kernel), List.mem_of_getElem? (i := 911) (by decide +kernel), List.mem_of_getElem? (i := 912) (by decide +kernel)⟩
theorem lw_p26 : lw_okq (⟨"WheelTables$CardReader", "take", "(I)V"⟩, 8) := ⟨⟨by decide +kernel, by decide +kernel⟩, List.mem_of_getElem? (i := 88) (by decide +kernel), List.mem_of_getElem? (i := 915) (by decide +kernel), List.mem_of_getElem? (i := 916) (by decide +kernel)⟩
theorem lw_p27 : lw_okq (⟨"WheelTables$CardReader", "readLead", "(LWheelTables$Deck;)V"⟩, 8) := ⟨⟨by decide +kernel, by decide +kernel⟩, List.mem_of_getElem? (i := 88) (by decide +kernel), List.mem_of_getElem? (i := 919) (by decide +kernel), List.mem_of_getElem? (i := 920) (by decide +kernel)⟩
theorem lw_p28 : lw_okq (⟨"WheelTables$CardReader", "readWhen", "()I"⟩, 8) := ⟨⟨by decide +kernel, by decide +kernel⟩, List.mem_of_getElem? (i := 88) (by decide +kernel), List.mem_of_getElem? (i := 923) (by decide +kernel), List.mem_of_getElem? (i := 924) (by decide +kernel)⟩
theorem lw_p29 : lw_okq (⟨"WheelTables$CardReader", "checkLeads", "(LWheelTables$Deck;)V"⟩, 8) := ⟨⟨by decide +kernel, by decide +kernel⟩, List.mem_of_getElem? (i := 88) (by decide +kernel), List.mem_of_getElem? (i := 930) (by decide +kernel), List.mem_of_getElem? (i := 931) (by decide +kernel)⟩
theorem lw_p30 : lw_okq (⟨"WheelTables$Mill", "begin", "()V"⟩, 10) := ⟨⟨by decide +kernel, by decide +kernel⟩, List.mem_of_getElem? (i := 122) (by decide +kernel), List.mem_of_getElem? (i := 966) (by decide +kernel), List.mem_of_getElem? (i := 967) (by decide +kernel)⟩
theorem lw_p31 : lw_okq (⟨"WheelTables$Mill", "doCard", "(LWheelTables$Deck;)V"⟩, 10) := ⟨⟨by decide +kernel, by decide +kernel⟩, List.mem_of_getElem? (i := 122) (by decide +kernel), List.mem_of_getElem? (i := 972) (by decide +kernel), List.mem_of_getElem? (i := 973) (by decide +kernel)⟩
def lw_privs_2 : List (MethodName × Nat) := [(⟨"WheelTables$CardReader", "nextToken", "()V"⟩, 8), (⟨"WheelTables$CardReader", "signAt", "(I)I"⟩, 8), (⟨"WheelTables$CardReader", "tokenAt", "(I)I"⟩, 8), (⟨"WheelTables$CardReader", "valueOf", "(II)J"⟩, 8), (⟨"WheelTables$CardReader", "readCard", "(LWheelTables$Deck;)V"⟩, 8), (⟨"WheelTables$CardReader", "cardKind", "()I"⟩, 8), (⟨"WheelTables$CardReader", "wordIs", "(Ljava/lang/String;)Z"⟩, 8), (⟨"WheelTables$CardReader", "refuse", "(I)V"⟩, 8), (⟨"WheelTables$CardReader", "readNumber", "(II)I"⟩, 8), (⟨"WheelTables$CardReader", "readWhole", "()J"⟩, 8), (⟨"WheelTables$CardReader", "take", "(I)V"⟩, 8), (⟨"WheelTables$CardReader", "readLead", "(LWheelTables$Deck;)V"⟩, 8), (⟨"WheelTables$CardReader", "readWhen", "()I"⟩, 8), (⟨"WheelTables$CardReader", "checkLeads", "(LWheelTables$Deck;)V"⟩, 8), (⟨"WheelTables$Mill", "begin", "()V"⟩, 10), (⟨"WheelTables$Mill", "doCard", "(LWheelTables$Deck;)V"⟩, 10)]
theorem lw_r2 : ∀ q ∈ lw_privs_2, lw_okq q := List.forall_mem_cons.mpr ⟨lw_p16, List.forall_mem_cons.mpr ⟨lw_p17, List.forall_mem_cons.mpr ⟨lw_p18, List.forall_mem_cons.mpr ⟨lw_p19, List.forall_mem_cons.mpr ⟨lw_p20, List.forall_mem_cons.mpr ⟨lw_p21, List.forall_mem_cons.mpr ⟨lw_p22, List.forall_mem_cons.mpr ⟨lw_p23, List.forall_mem_cons.mpr ⟨lw_p24, List.forall_mem_cons.mpr ⟨lw_p25, List.forall_mem_cons.mpr ⟨lw_p26, List.forall_mem_cons.mpr ⟨lw_p27, List.forall_mem_cons.mpr ⟨lw_p28, List.forall_mem_cons.mpr ⟨lw_p29, List.forall_mem_cons.mpr ⟨lw_p30, List.forall_mem_cons.mpr ⟨lw_p31, fun _ h => absurd h List.not_mem_nil⟩⟩⟩⟩⟩⟩⟩⟩⟩⟩⟩⟩⟩⟩⟩⟩
theorem lw_p32 : lw_okq (⟨"WheelTables$Mill", "lay", "(IJ)V"⟩, 10) := ⟨⟨by decide +kernel, by decide +kernel⟩, List.mem_of_getElem? (i := 122) (by decide +kernel), List.mem_of_getElem? (i := 986) (by decide +kernel), List.mem_of_getElem? (i := 987) (by decide +kernel)⟩
theorem lw_p33 : lw_okq (⟨"WheelTables$Mill", "goOn", "(I)V"⟩, 10) := ⟨⟨by decide +kernel, by decide +kernel⟩, List.mem_of_getElem? (i := 122) (by decide +kernel), List.mem_of_getElem? (i := 990) (by decide +kernel), List.mem_of_getElem? (i := 991) (by decide +kernel)⟩
theorem lw_p34 : lw_okq (⟨"WheelTables$Mill", "conclude", "(LWheelTables$Deck;JI)V"⟩, 10) := ⟨⟨by decide +kernel, by decide +kernel⟩, List.mem_of_getElem? (i := 122) (by decide +kernel), List.mem_of_getElem? (i := 994) (by decide +kernel), List.mem_of_getElem? (i := 995) (by decide +kernel)⟩
theorem lw_p35 : lw_okq (⟨"WheelTables$Mill", "multiply", "(LWheelTables$Deck;JJ)V"⟩, 10) := ⟨⟨by decide +kernel, by decide +kernel⟩, List.mem_of_getElem? (i := 122) (by decide +kernel), List.mem_of_getElem? (i := 1000) (by decide +kernel), List.mem_of_getElem? (i := 1001) (by decide +kernel)⟩
theorem lw_p36 : lw_okq (⟨"WheelTables$Mill", "divide", "(LWheelTables$Deck;JJ)V"⟩, 10) := ⟨⟨by decide +kernel, by decide +kernel⟩, List.mem_of_getElem? (i := 122) (by decide +kernel), List.mem_of_getElem? (i := 1012) (by decide +kernel), List.mem_of_getElem? (i := 1013) (by decide +kernel)⟩
theorem lw_p37 : lw_okq (⟨"WheelTables$Mill", "printNumber", "(J)V"⟩, 10) := ⟨⟨by decide +kernel, by decide +kernel⟩, List.mem_of_getElem? (i := 122) (by decide +kernel), List.mem_of_getElem? (i := 1016) (by decide +kernel), List.mem_of_getElem? (i := 1017) (by decide +kernel)⟩
theorem lw_p38 : lw_okq (⟨"WheelTables$Mill", "lead", "(LWheelTables$Deck;)V"⟩, 10) := ⟨⟨by decide +kernel, by decide +kernel⟩, List.mem_of_getElem? (i := 122) (by decide +kernel), List.mem_of_getElem? (i := 1020) (by decide +kernel), List.mem_of_getElem? (i := 1021) (by decide +kernel)⟩
theorem lw_p39 : lw_okq (⟨"WheelTables$Errata", "findDifferences", "()V"⟩, 12) := ⟨⟨by decide +kernel, by decide +kernel⟩, List.mem_of_getElem? (i := 159) (by decide +kernel), List.mem_of_getElem? (i := 1090) (by decide +kernel), List.mem_of_getElem? (i := 1091) (by decide +kernel)⟩
theorem lw_p40 : lw_okq (⟨"WheelTables$Errata", "factor", "(I)J"⟩, 12) := ⟨⟨by decide +kernel, by decide +kernel⟩, List.mem_of_getElem? (i := 159) (by decide +kernel), List.mem_of_getElem? (i := 1094) (by decide +kernel), List.mem_of_getElem? (i := 1095) (by decide +kernel)⟩
theorem lw_p41 : lw_okq (⟨"WheelTables$Errata", "isRoughBeside", "(II)Z"⟩, 12) := ⟨⟨by decide +kernel, by decide +kernel⟩, List.mem_of_getElem? (i := 159) (by decide +kernel), List.mem_of_getElem? (i := 1100) (by decide +kernel), List.mem_of_getElem? (i := 1101) (by decide +kernel)⟩
theorem lw_p42 : lw_okq (⟨"WheelTables$Errata", "listOptions", "(I)V"⟩, 12) := ⟨⟨by decide +kernel, by decide +kernel⟩, List.mem_of_getElem? (i := 159) (by decide +kernel), List.mem_of_getElem? (i := 1104) (by decide +kernel), List.mem_of_getElem? (i := 1105) (by decide +kernel)⟩
theorem lw_p43 : lw_okq (⟨"WheelTables$Errata", "figureOf", "(II)I"⟩, 12) := ⟨⟨by decide +kernel, by decide +kernel⟩, List.mem_of_getElem? (i := 159) (by decide +kernel), List.mem_of_getElem? (i := 1108) (by decide +kernel), List.mem_of_getElem? (i := 1109) (by decide +kernel)⟩
theorem lw_p44 : lw_okq (⟨"WheelTables$Errata", "addOption", "(II)V"⟩, 12) := ⟨⟨by decide +kernel, by decide +kernel⟩, List.mem_of_getElem? (i := 159) (by decide +kernel), List.mem_of_getElem? (i := 1114) (by decide +kernel), List.mem_of_getElem? (i := 1115) (by decide +kernel)⟩
theorem lw_p45 : lw_okq (⟨"WheelTables$Errata", "putOneRight", "()Z"⟩, 12) := ⟨⟨by decide +kernel, by decide +kernel⟩, List.mem_of_getElem? (i := 159) (by decide +kernel), List.mem_of_getElem? (i := 1118) (by decide +kernel), List.mem_of_getElem? (i := 1119) (by decide +kernel)⟩
theorem lw_p46 : lw_okq (⟨"WheelTables$Errata", "leastOption", "(IIJ)I"⟩, 12) := ⟨⟨by decide +kernel, by decide +kernel⟩, List.mem_of_getElem? (i := 159) (by decide +kernel), List.mem_of_getElem? (i := 1122) (by decide +kernel), List.mem_of_getElem? (i := 1123) (by decide +kernel)⟩
theorem lw_p47 : lw_okq (⟨"WheelTables$Errata", "widen", "()V"⟩, 12) := ⟨⟨by decide +kernel, by decide +kernel⟩, List.mem_of_getElem? (i := 159) (by decide +kernel), List.mem_of_getElem? (i := 1126) (by decide +kernel), List.mem_of_getElem? (i := 1127) (by decide +kernel)⟩
def lw_privs_3 : List (MethodName × Nat) := [(⟨"WheelTables$Mill", "lay", "(IJ)V"⟩, 10), (⟨"WheelTables$Mill", "goOn", "(I)V"⟩, 10), (⟨"WheelTables$Mill", "conclude", "(LWheelTables$Deck;JI)V"⟩, 10), (⟨"WheelTables$Mill", "multiply", "(LWheelTables$Deck;JJ)V"⟩, 10), (⟨"WheelTables$Mill", "divide", "(LWheelTables$Deck;JJ)V"⟩, 10), (⟨"WheelTables$Mill", "printNumber", "(J)V"⟩, 10), (⟨"WheelTables$Mill", "lead", "(LWheelTables$Deck;)V"⟩, 10), (⟨"WheelTables$Errata", "findDifferences", "()V"⟩, 12), (⟨"WheelTables$Errata", "factor", "(I)J"⟩, 12), (⟨"WheelTables$Errata", "isRoughBeside", "(II)Z"⟩, 12), (⟨"WheelTables$Errata", "listOptions", "(I)V"⟩, 12), (⟨"WheelTables$Errata", "figureOf", "(II)I"⟩, 12), (⟨"WheelTables$Errata", "addOption", "(II)V"⟩, 12), (⟨"WheelTables$Errata", "putOneRight", "()Z"⟩, 12), (⟨"WheelTables$Errata", "leastOption", "(IIJ)I"⟩, 12), (⟨"WheelTables$Errata", "widen", "()V"⟩, 12)]
theorem lw_r3 : ∀ q ∈ lw_privs_3, lw_okq q := List.forall_mem_cons.mpr ⟨lw_p32, List.forall_mem_cons.mpr ⟨lw_p33, List.forall_mem_cons.mpr ⟨lw_p34, List.forall_mem_cons.mpr ⟨lw_p35, List.forall_mem_cons.mpr ⟨lw_p36, List.forall_mem_cons.mpr ⟨lw_p37, List.forall_mem_cons.mpr ⟨lw_p38, List.forall_mem_cons.mpr ⟨lw_p39, List.forall_mem_cons.mpr ⟨lw_p40, List.forall_mem_cons.mpr ⟨lw_p41, List.forall_mem_cons.mpr ⟨lw_p42, List.forall_mem_cons.mpr ⟨lw_p43, List.forall_mem_cons.mpr ⟨lw_p44, List.forall_mem_cons.mpr ⟨lw_p45, List.forall_mem_cons.mpr ⟨lw_p46, List.forall_mem_cons.mpr ⟨lw_p47, fun _ h => absurd h List.not_mem_nil⟩⟩⟩⟩⟩⟩⟩⟩⟩⟩⟩⟩⟩⟩⟩⟩
theorem lw_p48 : lw_okq (⟨"WheelTables$Errata", "firstWith", "(I)I"⟩, 12) := ⟨⟨by decide +kernel, by decide +kernel⟩, List.mem_of_getElem? (i := 159) (by decide +kernel), List.mem_of_getElem? (i := 1132) (by decide +kernel), List.mem_of_getElem? (i := 1133) (by decide +kernel)⟩
theorem lw_p49 : lw_okq (⟨"WheelTables$Errata", "lastWith", "(I)I"⟩, 12) := ⟨⟨by decide +kernel, by decide +kernel⟩, List.mem_of_getElem? (i := 159) (by decide +kernel), List.mem_of_getElem? (i := 1136) (by decide +kernel), List.mem_of_getElem? (i := 1137) (by decide +kernel)⟩
theorem lw_p50 : lw_okq (⟨"WheelTables$Errata", "narrow", "(JJ)V"⟩, 12) := ⟨⟨by decide +kernel, by decide +kernel⟩, List.mem_of_getElem? (i := 159) (by decide +kernel), List.mem_of_getElem? (i := 1140) (by decide +kernel), List.mem_of_getElem? (i := 1141) (by decide +kernel)⟩
theorem lw_p51 : lw_okq (⟨"WheelTables$Errata", "keep", "(III)V"⟩, 12) := ⟨⟨by decide +kernel, by decide +kernel⟩, List.mem_of_getElem? (i := 159) (by decide +kernel), List.mem_of_getElem? (i := 1150) (by decide +kernel), List.mem_of_getElem? (i := 1151) (by decide +kernel)⟩
theorem lw_p52 : lw_okq (⟨"WheelTables$Errata", "putTwoRight", "()Z"⟩, 12) := ⟨⟨by decide +kernel, by decide +kernel⟩, List.mem_of_getElem? (i := 159) (by decide +kernel), List.mem_of_getElem? (i := 1154) (by decide +kernel), List.mem_of_getElem? (i := 1155) (by decide +kernel)⟩
theorem lw_p53 : lw_okq (⟨"WheelTables$Errata", "putPairRight", "(II)Z"⟩, 12) := ⟨⟨by decide +kernel, by decide +kernel⟩, List.mem_of_getElem? (i := 159) (by decide +kernel), List.mem_of_getElem? (i := 1158) (by decide +kernel), List.mem_of_getElem? (i := 1159) (by decide +kernel)⟩
theorem lw_p54 : lw_okq (⟨"WheelTables$Plates", "copiesBefore", "(I)I"⟩, 11) := ⟨⟨by decide +kernel, by decide +kernel⟩, List.mem_of_getElem? (i := 205) (by decide +kernel), List.mem_of_getElem? (i := 1214) (by decide +kernel), List.mem_of_getElem? (i := 1215) (by decide +kernel)⟩
theorem lw_p55 : lw_okq (⟨"WheelTables$Plates", "latestTell", "(II)I"⟩, 11) := ⟨⟨by decide +kernel, by decide +kernel⟩, List.mem_of_getElem? (i := 205) (by decide +kernel), List.mem_of_getElem? (i := 1253) (by decide +kernel), List.mem_of_getElem? (i := 1254) (by decide +kernel)⟩
theorem lw_p56 : lw_okq (⟨"WheelTablesModel", "no", "(I)Z"⟩, 99) := ⟨⟨by decide +kernel, by decide +kernel⟩, List.mem_of_getElem? (i := 1320) (by decide +kernel), List.mem_of_getElem? (i := 1632) (by decide +kernel), List.mem_of_getElem? (i := 1633) (by decide +kernel)⟩
theorem lw_p57 : lw_okq (⟨"WheelTablesModel", "placed", "(II)I"⟩, 99) := ⟨⟨by decide +kernel, by decide +kernel⟩, List.mem_of_getElem? (i := 1320) (by decide +kernel), List.mem_of_getElem? (i := 1640) (by decide +kernel), List.mem_of_getElem? (i := 1641) (by decide +kernel)⟩
theorem lw_p58 : lw_okq (⟨"WheelTablesModel", "trayed", "(I)I"⟩, 99) := ⟨⟨by decide +kernel, by decide +kernel⟩, List.mem_of_getElem? (i := 1320) (by decide +kernel), List.mem_of_getElem? (i := 1644) (by decide +kernel), List.mem_of_getElem? (i := 1645) (by decide +kernel)⟩
theorem lw_p59 : lw_okq (⟨"WheelTablesModel", "refuse", "(I)I"⟩, 99) := ⟨⟨by decide +kernel, by decide +kernel⟩, List.mem_of_getElem? (i := 1320) (by decide +kernel), List.mem_of_getElem? (i := 1670) (by decide +kernel), List.mem_of_getElem? (i := 1671) (by decide +kernel)⟩
theorem lw_p60 : lw_okq (⟨"WheelTablesModel", "numberOf", "(II)J"⟩, 99) := ⟨⟨by decide +kernel, by decide +kernel⟩, List.mem_of_getElem? (i := 1320) (by decide +kernel), List.mem_of_getElem? (i := 1674) (by decide +kernel), List.mem_of_getElem? (i := 1675) (by decide +kernel)⟩
theorem lw_p61 : lw_okq (⟨"WheelTablesModel", "isWheel", "(III)Z"⟩, 99) := ⟨⟨by decide +kernel, by decide +kernel⟩, List.mem_of_getElem? (i := 1320) (by decide +kernel), List.mem_of_getElem? (i := 1682) (by decide +kernel), List.mem_of_getElem? (i := 1683) (by decide +kernel)⟩
theorem lw_p62 : lw_okq (⟨"WheelTablesModel", "isEngine", "(I)Z"⟩, 99) := ⟨⟨by decide +kernel, by decide +kernel⟩, List.mem_of_getElem? (i := 1320) (by decide +kernel), List.mem_of_getElem? (i := 1686) (by decide +kernel), List.mem_of_getElem? (i := 1687) (by decide +kernel)⟩
theorem lw_p63 : lw_okq (⟨"WheelTablesModel", "onAxis", "(II)J"⟩, 99) := ⟨⟨by decide +kernel, by decide +kernel⟩, List.mem_of_getElem? (i := 1320) (by decide +kernel), List.mem_of_getElem? (i := 1701) (by decide +kernel), List.mem_of_getElem? (i := 1702) (by decide +kernel)⟩
def lw_privs_4 : List (MethodName × Nat) := [(⟨"WheelTables$Errata", "firstWith", "(I)I"⟩, 12), (⟨"WheelTables$Errata", "lastWith", "(I)I"⟩, 12), (⟨"WheelTables$Errata", "narrow", "(JJ)V"⟩, 12), (⟨"WheelTables$Errata", "keep", "(III)V"⟩, 12), (⟨"WheelTables$Errata", "putTwoRight", "()Z"⟩, 12), (⟨"WheelTables$Errata", "putPairRight", "(II)Z"⟩, 12), (⟨"WheelTables$Plates", "copiesBefore", "(I)I"⟩, 11), (⟨"WheelTables$Plates", "latestTell", "(II)I"⟩, 11), (⟨"WheelTablesModel", "no", "(I)Z"⟩, 99), (⟨"WheelTablesModel", "placed", "(II)I"⟩, 99), (⟨"WheelTablesModel", "trayed", "(I)I"⟩, 99), (⟨"WheelTablesModel", "refuse", "(I)I"⟩, 99), (⟨"WheelTablesModel", "numberOf", "(II)J"⟩, 99), (⟨"WheelTablesModel", "isWheel", "(III)Z"⟩, 99), (⟨"WheelTablesModel", "isEngine", "(I)Z"⟩, 99), (⟨"WheelTablesModel", "onAxis", "(II)J"⟩, 99)]
theorem lw_r4 : ∀ q ∈ lw_privs_4, lw_okq q := List.forall_mem_cons.mpr ⟨lw_p48, List.forall_mem_cons.mpr ⟨lw_p49, List.forall_mem_cons.mpr ⟨lw_p50, List.forall_mem_cons.mpr ⟨lw_p51, List.forall_mem_cons.mpr ⟨lw_p52, List.forall_mem_cons.mpr ⟨lw_p53, List.forall_mem_cons.mpr ⟨lw_p54, List.forall_mem_cons.mpr ⟨lw_p55, List.forall_mem_cons.mpr ⟨lw_p56, List.forall_mem_cons.mpr ⟨lw_p57, List.forall_mem_cons.mpr ⟨lw_p58, List.forall_mem_cons.mpr ⟨lw_p59, List.forall_mem_cons.mpr ⟨lw_p60, List.forall_mem_cons.mpr ⟨lw_p61, List.forall_mem_cons.mpr ⟨lw_p62, List.forall_mem_cons.mpr ⟨lw_p63, fun _ h => absurd h List.not_mem_nil⟩⟩⟩⟩⟩⟩⟩⟩⟩⟩⟩⟩⟩⟩⟩⟩
theorem lw_p64 : lw_okq (⟨"WheelTablesModel", "back", "(I)V"⟩, 99) := ⟨⟨by decide +kernel, by decide +kernel⟩, List.mem_of_getElem? (i := 1320) (by decide +kernel), List.mem_of_getElem? (i := 1711) (by decide +kernel), List.mem_of_getElem? (i := 1712) (by decide +kernel)⟩
theorem lw_p65 : lw_okq (⟨"WheelTablesModel", "ahead", "(II)V"⟩, 99) := ⟨⟨by decide +kernel, by decide +kernel⟩, List.mem_of_getElem? (i := 1320) (by decide +kernel), List.mem_of_getElem? (i := 1715) (by decide +kernel), List.mem_of_getElem? (i := 1716) (by decide +kernel)⟩
theorem lw_p66 : lw_okq (⟨"WheelTablesModel", "turnOne", "(IIZ)V"⟩, 99) := ⟨⟨by decide +kernel, by decide +kernel⟩, List.mem_of_getElem? (i := 1320) (by decide +kernel), List.mem_of_getElem? (i := 1734) (by decide +kernel), List.mem_of_getElem? (i := 1735) (by decide +kernel)⟩
theorem lw_p67 : lw_okq (⟨"WheelTablesModel", "adds", "(IIIZ)V"⟩, 99) := ⟨⟨by decide +kernel, by decide +kernel⟩, List.mem_of_getElem? (i := 1320) (by decide +kernel), List.mem_of_getElem? (i := 1738) (by decide +kernel), List.mem_of_getElem? (i := 1739) (by decide +kernel)⟩
theorem lw_p68 : lw_okq (⟨"WheelTablesModel", "mishapped", "(IIIIIZ)I"⟩, 99) := ⟨⟨by decide +kernel, by decide +kernel⟩, List.mem_of_getElem? (i := 1320) (by decide +kernel), List.mem_of_getElem? (i := 1742) (by decide +kernel), List.mem_of_getElem? (i := 1743) (by decide +kernel)⟩
theorem lw_p69 : lw_okq (⟨"WheelTablesModel", "asksSheet", "(III)I"⟩, 99) := ⟨⟨by decide +kernel, by decide +kernel⟩, List.mem_of_getElem? (i := 1320) (by decide +kernel), List.mem_of_getElem? (i := 1750) (by decide +kernel), List.mem_of_getElem? (i := 1751) (by decide +kernel)⟩
theorem lw_p70 : lw_okq (⟨"WheelTablesModel", "shows", "(III)Z"⟩, 99) := ⟨⟨by decide +kernel, by decide +kernel⟩, List.mem_of_getElem? (i := 1320) (by decide +kernel), List.mem_of_getElem? (i := 1762) (by decide +kernel), List.mem_of_getElem? (i := 1763) (by decide +kernel)⟩
theorem lw_p71 : lw_okq (⟨"WheelTablesModel", "isEnough", "(IIIJI)Z"⟩, 99) := ⟨⟨by decide +kernel, by decide +kernel⟩, List.mem_of_getElem? (i := 1320) (by decide +kernel), List.mem_of_getElem? (i := 1779) (by decide +kernel), List.mem_of_getElem? (i := 1780) (by decide +kernel)⟩
theorem lw_p72 : lw_okq (⟨"WheelTablesModel", "atPart", "(III)J"⟩, 99) := ⟨⟨by decide +kernel, by decide +kernel⟩, List.mem_of_getElem? (i := 1320) (by decide +kernel), List.mem_of_getElem? (i := 1787) (by decide +kernel), List.mem_of_getElem? (i := 1788) (by decide +kernel)⟩
theorem lw_p73 : lw_okq (⟨"WheelTablesModel", "lay", "(I)V"⟩, 99) := ⟨⟨by decide +kernel, by decide +kernel⟩, List.mem_of_getElem? (i := 1320) (by decide +kernel), List.mem_of_getElem? (i := 1799) (by decide +kernel), List.mem_of_getElem? (i := 1800) (by decide +kernel)⟩
theorem lw_p74 : lw_okq (⟨"WheelTablesModel", "next", "()V"⟩, 99) := ⟨⟨by decide +kernel, by decide +kernel⟩, List.mem_of_getElem? (i := 1320) (by decide +kernel), List.mem_of_getElem? (i := 1807) (by decide +kernel), List.mem_of_getElem? (i := 1808) (by decide +kernel)⟩
theorem lw_p75 : lw_okq (⟨"WheelTablesModel", "look", "(I)I"⟩, 99) := ⟨⟨by decide +kernel, by decide +kernel⟩, List.mem_of_getElem? (i := 1320) (by decide +kernel), List.mem_of_getElem? (i := 1811) (by decide +kernel), List.mem_of_getElem? (i := 1812) (by decide +kernel)⟩
theorem lw_p76 : lw_okq (⟨"WheelTablesModel", "readCard", "()V"⟩, 99) := ⟨⟨by decide +kernel, by decide +kernel⟩, List.mem_of_getElem? (i := 1320) (by decide +kernel), List.mem_of_getElem? (i := 1824) (by decide +kernel), List.mem_of_getElem? (i := 1825) (by decide +kernel)⟩
theorem lw_p77 : lw_okq (⟨"WheelTablesModel", "cardKind", "()I"⟩, 99) := ⟨⟨by decide +kernel, by decide +kernel⟩, List.mem_of_getElem? (i := 1320) (by decide +kernel), List.mem_of_getElem? (i := 1828) (by decide +kernel), List.mem_of_getElem? (i := 1829) (by decide +kernel)⟩
theorem lw_p78 : lw_okq (⟨"WheelTablesModel", "isWord", "(J)Z"⟩, 99) := ⟨⟨by decide +kernel, by decide +kernel⟩, List.mem_of_getElem? (i := 1320) (by decide +kernel), List.mem_of_getElem? (i := 1835) (by decide +kernel), List.mem_of_getElem? (i := 1836) (by decide +kernel)⟩
theorem lw_p79 : lw_okq (⟨"WheelTablesModel", "wrong", "()V"⟩, 99) := ⟨⟨by decide +kernel, by decide +kernel⟩, List.mem_of_getElem? (i := 1320) (by decide +kernel), List.mem_of_getElem? (i := 1839) (by decide +kernel), List.mem_of_getElem? (i := 1840) (by decide +kernel)⟩
def lw_privs_5 : List (MethodName × Nat) := [(⟨"WheelTablesModel", "back", "(I)V"⟩, 99), (⟨"WheelTablesModel", "ahead", "(II)V"⟩, 99), (⟨"WheelTablesModel", "turnOne", "(IIZ)V"⟩, 99), (⟨"WheelTablesModel", "adds", "(IIIZ)V"⟩, 99), (⟨"WheelTablesModel", "mishapped", "(IIIIIZ)I"⟩, 99), (⟨"WheelTablesModel", "asksSheet", "(III)I"⟩, 99), (⟨"WheelTablesModel", "shows", "(III)Z"⟩, 99), (⟨"WheelTablesModel", "isEnough", "(IIIJI)Z"⟩, 99), (⟨"WheelTablesModel", "atPart", "(III)J"⟩, 99), (⟨"WheelTablesModel", "lay", "(I)V"⟩, 99), (⟨"WheelTablesModel", "next", "()V"⟩, 99), (⟨"WheelTablesModel", "look", "(I)I"⟩, 99), (⟨"WheelTablesModel", "readCard", "()V"⟩, 99), (⟨"WheelTablesModel", "cardKind", "()I"⟩, 99), (⟨"WheelTablesModel", "isWord", "(J)Z"⟩, 99), (⟨"WheelTablesModel", "wrong", "()V"⟩, 99)]
theorem lw_r5 : ∀ q ∈ lw_privs_5, lw_okq q := List.forall_mem_cons.mpr ⟨lw_p64, List.forall_mem_cons.mpr ⟨lw_p65, List.forall_mem_cons.mpr ⟨lw_p66, List.forall_mem_cons.mpr ⟨lw_p67, List.forall_mem_cons.mpr ⟨lw_p68, List.forall_mem_cons.mpr ⟨lw_p69, List.forall_mem_cons.mpr ⟨lw_p70, List.forall_mem_cons.mpr ⟨lw_p71, List.forall_mem_cons.mpr ⟨lw_p72, List.forall_mem_cons.mpr ⟨lw_p73, List.forall_mem_cons.mpr ⟨lw_p74, List.forall_mem_cons.mpr ⟨lw_p75, List.forall_mem_cons.mpr ⟨lw_p76, List.forall_mem_cons.mpr ⟨lw_p77, List.forall_mem_cons.mpr ⟨lw_p78, List.forall_mem_cons.mpr ⟨lw_p79, fun _ h => absurd h List.not_mem_nil⟩⟩⟩⟩⟩⟩⟩⟩⟩⟩⟩⟩⟩⟩⟩⟩
theorem lw_p80 : lw_okq (⟨"WheelTablesModel", "fail", "(II)V"⟩, 99) := ⟨⟨by decide +kernel, by decide +kernel⟩, List.mem_of_getElem? (i := 1320) (by decide +kernel), List.mem_of_getElem? (i := 1843) (by decide +kernel), List.mem_of_getElem? (i := 1844) (by decide +kernel)⟩
theorem lw_p81 : lw_okq (⟨"WheelTablesModel", "readJump", "(I)V"⟩, 99) := ⟨⟨by decide +kernel, by decide +kernel⟩, List.mem_of_getElem? (i := 1320) (by decide +kernel), List.mem_of_getElem? (i := 1847) (by decide +kernel), List.mem_of_getElem? (i := 1848) (by decide +kernel)⟩
theorem lw_p82 : lw_okq (⟨"WheelTablesModel", "count", "(II)I"⟩, 99) := ⟨⟨by decide +kernel, by decide +kernel⟩, List.mem_of_getElem? (i := 1320) (by decide +kernel), List.mem_of_getElem? (i := 1851) (by decide +kernel), List.mem_of_getElem? (i := 1852) (by decide +kernel)⟩
theorem lw_p83 : lw_okq (⟨"WheelTablesModel", "readWhole", "(I)V"⟩, 99) := ⟨⟨by decide +kernel, by decide +kernel⟩, List.mem_of_getElem? (i := 1320) (by decide +kernel), List.mem_of_getElem? (i := 1855) (by decide +kernel), List.mem_of_getElem? (i := 1856) (by decide +kernel)⟩
theorem lw_p84 : lw_okq (⟨"WheelTablesModel", "isSign", "(I)Z"⟩, 99) := ⟨⟨by decide +kernel, by decide +kernel⟩, List.mem_of_getElem? (i := 1320) (by decide +kernel), List.mem_of_getElem? (i := 1859) (by decide +kernel), List.mem_of_getElem? (i := 1860) (by decide +kernel)⟩
theorem lw_p85 : lw_okq (⟨"WheelTablesModel", "alarms", "(I)I"⟩, 99) := ⟨⟨by decide +kernel, by decide +kernel⟩, List.mem_of_getElem? (i := 1320) (by decide +kernel), List.mem_of_getElem? (i := 1871) (by decide +kernel), List.mem_of_getElem? (i := 1872) (by decide +kernel)⟩
theorem lw_p86 : lw_okq (⟨"WheelTablesModel", "does", "(I)I"⟩, 99) := ⟨⟨by decide +kernel, by decide +kernel⟩, List.mem_of_getElem? (i := 1320) (by decide +kernel), List.mem_of_getElem? (i := 1880) (by decide +kernel), List.mem_of_getElem? (i := 1881) (by decide +kernel)⟩
theorem lw_p87 : lw_okq (⟨"WheelTablesModel", "comes", "(IJ)V"⟩, 99) := ⟨⟨by decide +kernel, by decide +kernel⟩, List.mem_of_getElem? (i := 1320) (by decide +kernel), List.mem_of_getElem? (i := 1884) (by decide +kernel), List.mem_of_getElem? (i := 1885) (by decide +kernel)⟩
theorem lw_p88 : lw_okq (⟨"WheelTablesModel", "fewest", "(J)I"⟩, 99) := ⟨⟨by decide +kernel, by decide +kernel⟩, List.mem_of_getElem? (i := 1320) (by decide +kernel), List.mem_of_getElem? (i := 1888) (by decide +kernel), List.mem_of_getElem? (i := 1889) (by decide +kernel)⟩
theorem lw_p89 : lw_okq (⟨"WheelTablesModel", "corrects", "(I)V"⟩, 99) := ⟨⟨by decide +kernel, by decide +kernel⟩, List.mem_of_getElem? (i := 1320) (by decide +kernel), List.mem_of_getElem? (i := 1919) (by decide +kernel), List.mem_of_getElem? (i := 1920) (by decide +kernel)⟩
theorem lw_p90 : lw_okq (⟨"WheelTablesModel", "varies", "(II)V"⟩, 99) := ⟨⟨by decide +kernel, by decide +kernel⟩, List.mem_of_getElem? (i := 1320) (by decide +kernel), List.mem_of_getElem? (i := 1923) (by decide +kernel), List.mem_of_getElem? (i := 1924) (by decide +kernel)⟩
theorem lw_p91 : lw_okq (⟨"WheelTablesModel", "isSmooth", "(III)Z"⟩, 99) := ⟨⟨by decide +kernel, by decide +kernel⟩, List.mem_of_getElem? (i := 1320) (by decide +kernel), List.mem_of_getElem? (i := 1927) (by decide +kernel), List.mem_of_getElem? (i := 1928) (by decide +kernel)⟩
theorem lw_p92 : lw_okq (⟨"WheelTablesModel", "corrected", "(IIIII)Z"⟩, 99) := ⟨⟨by decide +kernel, by decide +kernel⟩, List.mem_of_getElem? (i := 1320) (by decide +kernel), List.mem_of_getElem? (i := 1931) (by decide +kernel), List.mem_of_getElem? (i := 1932) (by decide +kernel)⟩
theorem lw_p93 : lw_okq (⟨"WheelTablesModel", "isElsewhere", "(IIIII)Z"⟩, 99) := ⟨⟨by decide +kernel, by decide +kernel⟩, List.mem_of_getElem? (i := 1320) (by decide +kernel), List.mem_of_getElem? (i := 1935) (by decide +kernel), List.mem_of_getElem? (i := 1936) (by decide +kernel)⟩
theorem lw_p94 : lw_okq (⟨"WheelTablesModel", "isCopy", "(I)Z"⟩, 99) := ⟨⟨by decide +kernel, by decide +kernel⟩, List.mem_of_getElem? (i := 1320) (by decide +kernel), List.mem_of_getElem? (i := 1967) (by decide +kernel), List.mem_of_getElem? (i := 1968) (by decide +kernel)⟩
theorem lw_p95 : lw_okq (⟨"WheelTablesModel", "printingOf", "(I)I"⟩, 99) := ⟨⟨by decide +kernel, by decide +kernel⟩, List.mem_of_getElem? (i := 1320) (by decide +kernel), List.mem_of_getElem? (i := 1971) (by decide +kernel), List.mem_of_getElem? (i := 1972) (by decide +kernel)⟩
def lw_privs_6 : List (MethodName × Nat) := [(⟨"WheelTablesModel", "fail", "(II)V"⟩, 99), (⟨"WheelTablesModel", "readJump", "(I)V"⟩, 99), (⟨"WheelTablesModel", "count", "(II)I"⟩, 99), (⟨"WheelTablesModel", "readWhole", "(I)V"⟩, 99), (⟨"WheelTablesModel", "isSign", "(I)Z"⟩, 99), (⟨"WheelTablesModel", "alarms", "(I)I"⟩, 99), (⟨"WheelTablesModel", "does", "(I)I"⟩, 99), (⟨"WheelTablesModel", "comes", "(IJ)V"⟩, 99), (⟨"WheelTablesModel", "fewest", "(J)I"⟩, 99), (⟨"WheelTablesModel", "corrects", "(I)V"⟩, 99), (⟨"WheelTablesModel", "varies", "(II)V"⟩, 99), (⟨"WheelTablesModel", "isSmooth", "(III)Z"⟩, 99), (⟨"WheelTablesModel", "corrected", "(IIIII)Z"⟩, 99), (⟨"WheelTablesModel", "isElsewhere", "(IIIII)Z"⟩, 99), (⟨"WheelTablesModel", "isCopy", "(I)Z"⟩, 99), (⟨"WheelTablesModel", "printingOf", "(I)I"⟩, 99)]
theorem lw_r6 : ∀ q ∈ lw_privs_6, lw_okq q := List.forall_mem_cons.mpr ⟨lw_p80, List.forall_mem_cons.mpr ⟨lw_p81, List.forall_mem_cons.mpr ⟨lw_p82, List.forall_mem_cons.mpr ⟨lw_p83, List.forall_mem_cons.mpr ⟨lw_p84, List.forall_mem_cons.mpr ⟨lw_p85, List.forall_mem_cons.mpr ⟨lw_p86, List.forall_mem_cons.mpr ⟨lw_p87, List.forall_mem_cons.mpr ⟨lw_p88, List.forall_mem_cons.mpr ⟨lw_p89, List.forall_mem_cons.mpr ⟨lw_p90, List.forall_mem_cons.mpr ⟨lw_p91, List.forall_mem_cons.mpr ⟨lw_p92, List.forall_mem_cons.mpr ⟨lw_p93, List.forall_mem_cons.mpr ⟨lw_p94, List.forall_mem_cons.mpr ⟨lw_p95, fun _ h => absurd h List.not_mem_nil⟩⟩⟩⟩⟩⟩⟩⟩⟩⟩⟩⟩⟩⟩⟩⟩
theorem lw_p96 : lw_okq (⟨"WheelTablesModel", "saysOf", "(II)I"⟩, 99) := ⟨⟨by decide +kernel, by decide +kernel⟩, List.mem_of_getElem? (i := 1320) (by decide +kernel), List.mem_of_getElem? (i := 1975) (by decide +kernel), List.mem_of_getElem? (i := 1976) (by decide +kernel)⟩
theorem lw_p97 : lw_okq (⟨"WheelTablesModel", "wrongOf", "(II)I"⟩, 99) := ⟨⟨by decide +kernel, by decide +kernel⟩, List.mem_of_getElem? (i := 1320) (by decide +kernel), List.mem_of_getElem? (i := 1983) (by decide +kernel), List.mem_of_getElem? (i := 1984) (by decide +kernel)⟩
theorem lw_p98 : lw_okq (⟨"WheelTablesModel", "parts", "()I"⟩, 99) := ⟨⟨by decide +kernel, by decide +kernel⟩, List.mem_of_getElem? (i := 1320) (by decide +kernel), List.mem_of_getElem? (i := 1999) (by decide +kernel), List.mem_of_getElem? (i := 2000) (by decide +kernel)⟩
theorem lw_p99 : lw_okq (⟨"WheelTablesModel", "mostOf", "()I"⟩, 99) := ⟨⟨by decide +kernel, by decide +kernel⟩, List.mem_of_getElem? (i := 1320) (by decide +kernel), List.mem_of_getElem? (i := 2003) (by decide +kernel), List.mem_of_getElem? (i := 2004) (by decide +kernel)⟩
def lw_privs_7 : List (MethodName × Nat) := [(⟨"WheelTablesModel", "saysOf", "(II)I"⟩, 99), (⟨"WheelTablesModel", "wrongOf", "(II)I"⟩, 99), (⟨"WheelTablesModel", "parts", "()I"⟩, 99), (⟨"WheelTablesModel", "mostOf", "()I"⟩, 99)]
theorem lw_r7 : ∀ q ∈ lw_privs_7, lw_okq q := List.forall_mem_cons.mpr ⟨lw_p96, List.forall_mem_cons.mpr ⟨lw_p97, List.forall_mem_cons.mpr ⟨lw_p98, List.forall_mem_cons.mpr ⟨lw_p99, fun _ h => absurd h List.not_mem_nil⟩⟩⟩⟩
def lw_privs : List (MethodName × Nat) := lw_privs_1 ++ (lw_privs_2 ++ (lw_privs_3 ++ (lw_privs_4 ++ (lw_privs_5 ++ (lw_privs_6 ++ (lw_privs_7))))))
def lw_tbl : List Cond := k2_sels lw_privs ++ tables_1
theorem lw_privs_ok : ∀ q ∈ lw_privs, lw_okq q := by
  show ∀ q ∈ lw_privs_1 ++ (lw_privs_2 ++ (lw_privs_3 ++ (lw_privs_4 ++ (lw_privs_5 ++ (lw_privs_6 ++ (lw_privs_7)))))), lw_okq q
  exact List.forall_mem_append.mpr ⟨lw_r1, List.forall_mem_append.mpr ⟨lw_r2, List.forall_mem_append.mpr ⟨lw_r3, List.forall_mem_append.mpr ⟨lw_r4, List.forall_mem_append.mpr ⟨lw_r5, List.forall_mem_append.mpr ⟨lw_r6, lw_r7⟩⟩⟩⟩⟩⟩
def RX0 : String := "WheelTables$CardReader"
def TX0 : u_T := fun k => match k with
  | 0 => ("WheelTables$CardReader", "bytes", "[B", false)
  | 1 => ("WheelTables$CardReader", "length", "I", false)
  | 2 => ("WheelTables$CardReader", "at", "I", false)
  | 3 => ("WheelTables$CardReader", "token", "I", false)
  | 4 => ("WheelTables$CardReader", "start", "I", false)
  | 5 => ("WheelTables$CardReader", "value", "J", false)
  | 6 => ("WheelTables$CardReader", "fault", "I", false)
  | _ => ("WheelTables$CardReader", "faultPlace", "I", false)
def tyX0 : Nat → FieldType := fun k => match k with
  | 0 => .array .byte
  | 1 => .int
  | 2 => .int
  | 3 => .int
  | 4 => .int
  | 5 => .long
  | 6 => .int
  | _ => .int
theorem nmX0 : ∀ a, a < 8 → ∀ b, b < 8 → a ≠ b → (TX0 a).2.1 ≠ (TX0 b).2.1 := by decide +kernel
theorem tyX0_ok : ∀ k, k < 8 → parseFieldDescriptor (TX0 k).2.2.1 = some (tyX0 k) := by decide +kernel
def RX1 : String := "WheelTables$Deck"
def TX1 : u_T := fun k => match k with
  | 0 => ("WheelTables$Deck", "kind", "[I", true)
  | 1 => ("WheelTables$Deck", "when", "[I", true)
  | 2 => ("WheelTables$Deck", "numbers", "[I", true)
  | 3 => ("WheelTables$Deck", "leadStart", "[I", true)
  | 4 => ("WheelTables$Deck", "whole", "[J", true)
  | _ => ("WheelTables$Deck", "count", "I", false)
def tyX1 : Nat → FieldType := fun k => match k with
  | 0 => .array .int
  | 1 => .array .int
  | 2 => .array .int
  | 3 => .array .int
  | 4 => .array .long
  | _ => .int
theorem nmX1 : ∀ a, a < 6 → ∀ b, b < 6 → a ≠ b → (TX1 a).2.1 ≠ (TX1 b).2.1 := by decide +kernel
theorem tyX1_ok : ∀ k, k < 6 → parseFieldDescriptor (TX1 k).2.2.1 = some (tyX1 k) := by decide +kernel
def RX2 : String := "WheelTables$Differences"
def TX2 : u_T := fun k => match k with
  | _ => ("", "", "", false)
def tyX2 : Nat → FieldType := fun k => match k with
  | _ => .int
theorem nmX2 : ∀ a, a < 0 → ∀ b, b < 0 → a ≠ b → (TX2 a).2.1 ≠ (TX2 b).2.1 := by decide +kernel
theorem tyX2_ok : ∀ k, k < 0 → parseFieldDescriptor (TX2 k).2.2.1 = some (tyX2 k) := by decide +kernel
def RX3 : String := "WheelTables$Engine"
def TX3 : u_T := fun k => match k with
  | 0 => ("WheelTables$Engine", "axes", "I", true)
  | 1 => ("WheelTables$Engine", "wheels", "I", true)
  | 2 => ("WheelTables$Engine", "radix", "[I", true)
  | 3 => ("WheelTables$Engine", "weight", "[J", true)
  | 4 => ("WheelTables$Engine", "all", "J", true)
  | 5 => ("WheelTables$Engine", "figures", "[I", true)
  | 6 => ("WheelTables$Engine", "trouble", "[I", true)
  | 7 => ("WheelTables$Engine", "warned", "[Z", true)
  | 8 => ("WheelTables$Engine", "axisNumbers", "[J", true)
  | 9 => ("WheelTables$Engine", "mishapTurn", "[I", true)
  | 10 => ("WheelTables$Engine", "mishapAxis", "[I", true)
  | 11 => ("WheelTables$Engine", "mishapWheel", "[I", true)
  | 12 => ("WheelTables$Engine", "mishapKind", "[I", true)
  | 13 => ("WheelTables$Engine", "mishaps", "I", false)
  | _ => ("WheelTables$Engine", "turn", "I", false)
def tyX3 : Nat → FieldType := fun k => match k with
  | 0 => .int
  | 1 => .int
  | 2 => .array .int
  | 3 => .array .long
  | 4 => .long
  | 5 => .array .int
  | 6 => .array .int
  | 7 => .array .boolean
  | 8 => .array .long
  | 9 => .array .int
  | 10 => .array .int
  | 11 => .array .int
  | 12 => .array .int
  | 13 => .int
  | _ => .int
theorem nmX3 : ∀ a, a < 15 → ∀ b, b < 15 → a ≠ b → (TX3 a).2.1 ≠ (TX3 b).2.1 := by decide +kernel
theorem tyX3_ok : ∀ k, k < 15 → parseFieldDescriptor (TX3 k).2.2.1 = some (tyX3 k) := by decide +kernel
def RX4 : String := "WheelTables$Errata"
def TX4 : u_T := fun k => match k with
  | 0 => ("WheelTables$Errata", "values", "[I", true)
  | 1 => ("WheelTables$Errata", "differences", "[J", true)
  | 2 => ("WheelTables$Errata", "options", "[[I", true)
  | 3 => ("WheelTables$Errata", "optionCount", "[I", true)
  | 4 => ("WheelTables$Errata", "which", "[I", true)
  | 5 => ("WheelTables$Errata", "should", "[I", true)
  | 6 => ("WheelTables$Errata", "found", "I", false)
  | 7 => ("WheelTables$Errata", "many", "I", false)
  | 8 => ("WheelTables$Errata", "order", "I", false)
  | 9 => ("WheelTables$Errata", "bound", "I", false)
  | 10 => ("WheelTables$Errata", "low", "J", false)
  | _ => ("WheelTables$Errata", "high", "J", false)
def tyX4 : Nat → FieldType := fun k => match k with
  | 0 => .array .int
  | 1 => .array .long
  | 2 => .array (.array .int)
  | 3 => .array .int
  | 4 => .array .int
  | 5 => .array .int
  | 6 => .int
  | 7 => .int
  | 8 => .int
  | 9 => .int
  | 10 => .long
  | _ => .long
theorem nmX4 : ∀ a, a < 12 → ∀ b, b < 12 → a ≠ b → (TX4 a).2.1 ≠ (TX4 b).2.1 := by decide +kernel
theorem tyX4_ok : ∀ k, k < 12 → parseFieldDescriptor (TX4 k).2.2.1 = some (tyX4 k) := by decide +kernel
def RX5 : String := "WheelTables$Explanation"
def TX5 : u_T := fun k => match k with
  | 0 => ("WheelTables$Explanation", "before", "[J", true)
  | 1 => ("WheelTables$Explanation", "after", "[J", true)
  | 2 => ("WheelTables$Explanation", "astray", "[J", true)
  | 3 => ("WheelTables$Explanation", "shown", "[J", true)
  | 4 => ("WheelTables$Explanation", "told", "Z", false)
  | 5 => ("WheelTables$Explanation", "turn", "I", false)
  | 6 => ("WheelTables$Explanation", "axis", "I", false)
  | 7 => ("WheelTables$Explanation", "wheel", "I", false)
  | _ => ("WheelTables$Explanation", "kind", "I", false)
def tyX5 : Nat → FieldType := fun k => match k with
  | 0 => .array .long
  | 1 => .array .long
  | 2 => .array .long
  | 3 => .array .long
  | 4 => .boolean
  | 5 => .int
  | 6 => .int
  | 7 => .int
  | _ => .int
theorem nmX5 : ∀ a, a < 9 → ∀ b, b < 9 → a ≠ b → (TX5 a).2.1 ≠ (TX5 b).2.1 := by decide +kernel
theorem tyX5_ok : ∀ k, k < 9 → parseFieldDescriptor (TX5 k).2.2.1 = some (tyX5 k) := by decide +kernel
def RX6 : String := "WheelTables$FinerTable"
def TX6 : u_T := fun k => match k with
  | 0 => ("WheelTables$FinerTable", "differences", "[J", true)
  | 1 => ("WheelTables$FinerTable", "exactStart", "[J", true)
  | 2 => ("WheelTables$FinerTable", "exact", "[J", true)
  | _ => ("WheelTables$FinerTable", "rounded", "[J", true)
def tyX6 : Nat → FieldType := fun k => match k with
  | 0 => .array .long
  | 1 => .array .long
  | 2 => .array .long
  | _ => .array .long
theorem nmX6 : ∀ a, a < 4 → ∀ b, b < 4 → a ≠ b → (TX6 a).2.1 ≠ (TX6 b).2.1 := by decide +kernel
theorem tyX6_ok : ∀ k, k < 4 → parseFieldDescriptor (TX6 k).2.2.1 = some (tyX6 k) := by decide +kernel
def RX7 : String := "WheelTables$Jobs"
def TX7 : u_T := fun k => match k with
  | 0 => ("WheelTables$Jobs", "axes", "[I", true)
  | 1 => ("WheelTables$Jobs", "wheels", "[I", true)
  | 2 => ("WheelTables$Jobs", "turns", "[I", true)
  | 3 => ("WheelTables$Jobs", "tried", "[I", true)
  | 4 => ("WheelTables$Jobs", "chosen", "[I", true)
  | 5 => ("WheelTables$Jobs", "loads", "[I", true)
  | 6 => ("WheelTables$Jobs", "count", "I", false)
  | 7 => ("WheelTables$Jobs", "least", "I", false)
  | _ => ("WheelTables$Jobs", "isParted", "Z", false)
def tyX7 : Nat → FieldType := fun k => match k with
  | 0 => .array .int
  | 1 => .array .int
  | 2 => .array .int
  | 3 => .array .int
  | 4 => .array .int
  | 5 => .array .int
  | 6 => .int
  | 7 => .int
  | _ => .boolean
theorem nmX7 : ∀ a, a < 9 → ∀ b, b < 9 → a ≠ b → (TX7 a).2.1 ≠ (TX7 b).2.1 := by decide +kernel
theorem tyX7_ok : ∀ k, k < 9 → parseFieldDescriptor (TX7 k).2.2.1 = some (tyX7 k) := by decide +kernel
def RX8 : String := "WheelTables$Mill"
def TX8 : u_T := fun k => match k with
  | 0 => ("WheelTables$Mill", "places", "[J", true)
  | 1 => ("WheelTables$Mill", "prints", "[J", true)
  | 2 => ("WheelTables$Mill", "printed", "I", false)
  | 3 => ("WheelTables$Mill", "hasRun", "Z", false)
  | 4 => ("WheelTables$Mill", "leverUp", "Z", false)
  | 5 => ("WheelTables$Mill", "at", "I", false)
  | 6 => ("WheelTables$Mill", "cranks", "I", false)
  | 7 => ("WheelTables$Mill", "alarm", "I", false)
  | 8 => ("WheelTables$Mill", "alarmCard", "I", false)
  | _ => ("WheelTables$Mill", "done", "I", false)
def tyX8 : Nat → FieldType := fun k => match k with
  | 0 => .array .long
  | 1 => .array .long
  | 2 => .int
  | 3 => .boolean
  | 4 => .boolean
  | 5 => .int
  | 6 => .int
  | 7 => .int
  | 8 => .int
  | _ => .int
theorem nmX8 : ∀ a, a < 10 → ∀ b, b < 10 → a ≠ b → (TX8 a).2.1 ≠ (TX8 b).2.1 := by decide +kernel
theorem tyX8_ok : ∀ k, k < 10 → parseFieldDescriptor (TX8 k).2.2.1 = some (tyX8 k) := by decide +kernel
def RX9 : String := "WheelTables$Plates"
def TX9 : u_T := fun k => match k with
  | 0 => ("WheelTables$Plates", "castRow", "[I", true)
  | 1 => ("WheelTables$Plates", "castNumber", "[I", true)
  | 2 => ("WheelTables$Plates", "lastCopy", "[I", true)
  | 3 => ("WheelTables$Plates", "castsAhead", "[I", true)
  | 4 => ("WheelTables$Plates", "tellDay", "[I", true)
  | 5 => ("WheelTables$Plates", "tellRow", "[I", true)
  | 6 => ("WheelTables$Plates", "tellNumber", "[I", true)
  | 7 => ("WheelTables$Plates", "casts", "I", false)
  | 8 => ("WheelTables$Plates", "printings", "I", false)
  | 9 => ("WheelTables$Plates", "tells", "I", false)
  | _ => ("WheelTables$Plates", "today", "I", false)
def tyX9 : Nat → FieldType := fun k => match k with
  | 0 => .array .int
  | 1 => .array .int
  | 2 => .array .int
  | 3 => .array .int
  | 4 => .array .int
  | 5 => .array .int
  | 6 => .array .int
  | 7 => .int
  | 8 => .int
  | 9 => .int
  | _ => .int
theorem nmX9 : ∀ a, a < 11 → ∀ b, b < 11 → a ≠ b → (TX9 a).2.1 ≠ (TX9 b).2.1 := by decide +kernel
theorem tyX9_ok : ∀ k, k < 11 → parseFieldDescriptor (TX9 k).2.2.1 = some (tyX9 k) := by decide +kernel
def RX10 : String := "WheelTables$Tray"
def TX10 : u_T := fun k => match k with
  | 0 => ("WheelTables$Tray", "numbers", "[J", true)
  | 1 => ("WheelTables$Tray", "sort", "I", false)
  | _ => ("WheelTables$Tray", "many", "I", false)
def tyX10 : Nat → FieldType := fun k => match k with
  | 0 => .array .long
  | 1 => .int
  | _ => .int
theorem nmX10 : ∀ a, a < 3 → ∀ b, b < 3 → a ≠ b → (TX10 a).2.1 ≠ (TX10 b).2.1 := by decide +kernel
theorem tyX10_ok : ∀ k, k < 3 → parseFieldDescriptor (TX10 k).2.2.1 = some (tyX10 k) := by decide +kernel
def RX11 : String := "WheelTables"
def TX11 : u_T := fun k => match k with
  | 0 => ("WheelTables", "trays", "[LWheelTables$Tray;", true)
  | 1 => ("WheelTables", "engines", "[LWheelTables$Engine;", true)
  | 2 => ("WheelTables", "explanation", "LWheelTables$Explanation;", true)
  | 3 => ("WheelTables", "finerTable", "LWheelTables$FinerTable;", true)
  | 4 => ("WheelTables", "tape", "[B", true)
  | 5 => ("WheelTables", "reader", "LWheelTables$CardReader;", true)
  | 6 => ("WheelTables", "mill", "LWheelTables$Mill;", true)
  | 7 => ("WheelTables", "corrections", "LWheelTables$Errata;", true)
  | 8 => ("WheelTables", "plates", "LWheelTables$Plates;", true)
  | 9 => ("WheelTables", "jobs", "LWheelTables$Jobs;", true)
  | 10 => ("WheelTables", "text", "LWheelTables$Deck;", false)
  | 11 => ("WheelTables", "spare", "LWheelTables$Deck;", false)
  | 12 => ("WheelTables", "hasText", "Z", false)
  | 13 => ("WheelTables", "engineCount", "I", false)
  | 14 => ("WheelTables", "tapeLength", "I", false)
  | _ => ("WheelTables", "status", "I", false)
def tyX11 : Nat → FieldType := fun k => match k with
  | 0 => .array (.object "WheelTables$Tray")
  | 1 => .array (.object "WheelTables$Engine")
  | 2 => .object "WheelTables$Explanation"
  | 3 => .object "WheelTables$FinerTable"
  | 4 => .array .byte
  | 5 => .object "WheelTables$CardReader"
  | 6 => .object "WheelTables$Mill"
  | 7 => .object "WheelTables$Errata"
  | 8 => .object "WheelTables$Plates"
  | 9 => .object "WheelTables$Jobs"
  | 10 => .object "WheelTables$Deck"
  | 11 => .object "WheelTables$Deck"
  | 12 => .boolean
  | 13 => .int
  | 14 => .int
  | _ => .int
theorem nmX11 : ∀ a, a < 16 → ∀ b, b < 16 → a ≠ b → (TX11 a).2.1 ≠ (TX11 b).2.1 := by decide +kernel
theorem tyX11_ok : ∀ k, k < 16 → parseFieldDescriptor (TX11 k).2.2.1 = some (tyX11 k) := by decide +kernel
def RX12 : String := "WheelTablesModel"
def TX12 : u_T := fun k => match k with
  | 0 => ("WheelTablesModel", "status", "I", false)
  | 1 => ("WheelTablesModel", "thrown", "I", false)
  | 2 => ("WheelTablesModel", "traySort", "[I", true)
  | 3 => ("WheelTablesModel", "trayMany", "[I", true)
  | 4 => ("WheelTablesModel", "numbers", "[J", true)
  | 5 => ("WheelTablesModel", "engines", "I", false)
  | 6 => ("WheelTablesModel", "axes", "[I", true)
  | 7 => ("WheelTablesModel", "wheels", "[I", true)
  | 8 => ("WheelTablesModel", "turned", "[I", true)
  | 9 => ("WheelTablesModel", "radix", "[I", true)
  | 10 => ("WheelTablesModel", "figure", "[I", true)
  | 11 => ("WheelTablesModel", "copy", "[I", true)
  | 12 => ("WheelTablesModel", "mishaps", "[I", true)
  | 13 => ("WheelTablesModel", "mishapTurn", "[I", true)
  | 14 => ("WheelTablesModel", "mishapAxis", "[I", true)
  | 15 => ("WheelTablesModel", "mishapWheel", "[I", true)
  | 16 => ("WheelTablesModel", "mishapKind", "[I", true)
  | 17 => ("WheelTablesModel", "isWarned", "[Z", true)
  | 18 => ("WheelTablesModel", "tryTurn", "I", false)
  | 19 => ("WheelTablesModel", "tryAxis", "I", false)
  | 20 => ("WheelTablesModel", "tryWheel", "I", false)
  | 21 => ("WheelTablesModel", "tryKind", "I", false)
  | 22 => ("WheelTablesModel", "causeTurn", "I", false)
  | 23 => ("WheelTablesModel", "causeAxis", "I", false)
  | 24 => ("WheelTablesModel", "causeWheel", "I", false)
  | 25 => ("WheelTablesModel", "causeKind", "I", false)
  | 26 => ("WheelTablesModel", "differences", "[J", true)
  | 27 => ("WheelTablesModel", "shown", "[J", true)
  | 28 => ("WheelTablesModel", "tape", "[B", true)
  | 29 => ("WheelTablesModel", "taped", "I", false)
  | 30 => ("WheelTablesModel", "textEnd", "I", false)
  | 31 => ("WheelTablesModel", "faultKind", "I", false)
  | 32 => ("WheelTablesModel", "faultAt", "I", false)
  | 33 => ("WheelTablesModel", "bad", "I", false)
  | 34 => ("WheelTablesModel", "badAt", "I", false)
  | 35 => ("WheelTablesModel", "sort", "I", false)
  | 36 => ("WheelTablesModel", "at", "I", false)
  | 37 => ("WheelTablesModel", "behind", "I", false)
  | 38 => ("WheelTablesModel", "letters", "I", false)
  | 39 => ("WheelTablesModel", "word", "J", false)
  | 40 => ("WheelTablesModel", "number", "J", false)
  | 41 => ("WheelTablesModel", "cardMany", "I", false)
  | 42 => ("WheelTablesModel", "newMany", "I", false)
  | 43 => ("WheelTablesModel", "kind", "[I", true)
  | 44 => ("WheelTablesModel", "a", "[I", true)
  | 45 => ("WheelTablesModel", "b", "[I", true)
  | 46 => ("WheelTablesModel", "c", "[I", true)
  | 47 => ("WheelTablesModel", "d", "[I", true)
  | 48 => ("WheelTablesModel", "when", "[I", true)
  | 49 => ("WheelTablesModel", "newKind", "[I", true)
  | 50 => ("WheelTablesModel", "newA", "[I", true)
  | 51 => ("WheelTablesModel", "newB", "[I", true)
  | 52 => ("WheelTablesModel", "newC", "[I", true)
  | 53 => ("WheelTablesModel", "newD", "[I", true)
  | 54 => ("WheelTablesModel", "newWhen", "[I", true)
  | 55 => ("WheelTablesModel", "jumpAt", "[I", true)
  | 56 => ("WheelTablesModel", "whole", "[J", true)
  | 57 => ("WheelTablesModel", "newWhole", "[J", true)
  | 58 => ("WheelTablesModel", "places", "[J", true)
  | 59 => ("WheelTablesModel", "prints", "[J", true)
  | 60 => ("WheelTablesModel", "hasRun", "Z", false)
  | 61 => ("WheelTablesModel", "isUp", "Z", false)
  | 62 => ("WheelTablesModel", "printMany", "I", false)
  | 63 => ("WheelTablesModel", "cranks", "I", false)
  | 64 => ("WheelTablesModel", "alarm", "I", false)
  | 65 => ("WheelTablesModel", "alarmAt", "I", false)
  | 66 => ("WheelTablesModel", "cardsDone", "I", false)
  | 67 => ("WheelTablesModel", "least", "[I", true)
  | 68 => ("WheelTablesModel", "figureOf", "[I", true)
  | 69 => ("WheelTablesModel", "digitsOf", "[I", true)
  | 70 => ("WheelTablesModel", "table", "[J", true)
  | 71 => ("WheelTablesModel", "left", "[J", true)
  | 72 => ("WheelTablesModel", "variants", "[J", true)
  | 73 => ("WheelTablesModel", "variantMany", "[I", true)
  | 74 => ("WheelTablesModel", "rightMany", "I", false)
  | 75 => ("WheelTablesModel", "rightAt", "[I", true)
  | 76 => ("WheelTablesModel", "rightNumber", "[I", true)
  | 77 => ("WheelTablesModel", "day", "I", false)
  | 78 => ("WheelTablesModel", "casts", "I", false)
  | 79 => ("WheelTablesModel", "printings", "I", false)
  | 80 => ("WheelTablesModel", "copies", "I", false)
  | 81 => ("WheelTablesModel", "tells", "I", false)
  | 82 => ("WheelTablesModel", "jobs", "I", false)
  | 83 => ("WheelTablesModel", "castRow", "[I", true)
  | 84 => ("WheelTablesModel", "castNumber", "[I", true)
  | 85 => ("WheelTablesModel", "printFrom", "[I", true)
  | 86 => ("WheelTablesModel", "printCasts", "[I", true)
  | 87 => ("WheelTablesModel", "toldDay", "[I", true)
  | 88 => ("WheelTablesModel", "toldRow", "[I", true)
  | 89 => ("WheelTablesModel", "toldNumber", "[I", true)
  | 90 => ("WheelTablesModel", "jobAxes", "[I", true)
  | 91 => ("WheelTablesModel", "jobWheels", "[I", true)
  | 92 => ("WheelTablesModel", "jobTurns", "[I", true)
  | 93 => ("WheelTablesModel", "parted", "[I", true)
  | 94 => ("WheelTablesModel", "tried", "[I", true)
  | 95 => ("WheelTablesModel", "load", "[I", true)
  | 96 => ("WheelTablesModel", "steps", "[J", true)
  | 97 => ("WheelTablesModel", "foundAt", "[I", true)
  | _ => ("WheelTablesModel", "foundNumber", "[I", true)
def tyX12 : Nat → FieldType := fun k => match k with
  | 0 => .int
  | 1 => .int
  | 2 => .array .int
  | 3 => .array .int
  | 4 => .array .long
  | 5 => .int
  | 6 => .array .int
  | 7 => .array .int
  | 8 => .array .int
  | 9 => .array .int
  | 10 => .array .int
  | 11 => .array .int
  | 12 => .array .int
  | 13 => .array .int
  | 14 => .array .int
  | 15 => .array .int
  | 16 => .array .int
  | 17 => .array .boolean
  | 18 => .int
  | 19 => .int
  | 20 => .int
  | 21 => .int
  | 22 => .int
  | 23 => .int
  | 24 => .int
  | 25 => .int
  | 26 => .array .long
  | 27 => .array .long
  | 28 => .array .byte
  | 29 => .int
  | 30 => .int
  | 31 => .int
  | 32 => .int
  | 33 => .int
  | 34 => .int
  | 35 => .int
  | 36 => .int
  | 37 => .int
  | 38 => .int
  | 39 => .long
  | 40 => .long
  | 41 => .int
  | 42 => .int
  | 43 => .array .int
  | 44 => .array .int
  | 45 => .array .int
  | 46 => .array .int
  | 47 => .array .int
  | 48 => .array .int
  | 49 => .array .int
  | 50 => .array .int
  | 51 => .array .int
  | 52 => .array .int
  | 53 => .array .int
  | 54 => .array .int
  | 55 => .array .int
  | 56 => .array .long
  | 57 => .array .long
  | 58 => .array .long
  | 59 => .array .long
  | 60 => .boolean
  | 61 => .boolean
  | 62 => .int
  | 63 => .int
  | 64 => .int
  | 65 => .int
  | 66 => .int
  | 67 => .array .int
  | 68 => .array .int
  | 69 => .array .int
  | 70 => .array .long
  | 71 => .array .long
  | 72 => .array .long
  | 73 => .array .int
  | 74 => .int
  | 75 => .array .int
  | 76 => .array .int
  | 77 => .int
  | 78 => .int
  | 79 => .int
  | 80 => .int
  | 81 => .int
  | 82 => .int
  | 83 => .array .int
  | 84 => .array .int
  | 85 => .array .int
  | 86 => .array .int
  | 87 => .array .int
  | 88 => .array .int
  | 89 => .array .int
  | 90 => .array .int
  | 91 => .array .int
  | 92 => .array .int
  | 93 => .array .int
  | 94 => .array .int
  | 95 => .array .int
  | 96 => .array .long
  | 97 => .array .int
  | _ => .array .int
theorem nmX12 : ∀ a, a < 99 → ∀ b, b < 99 → a ≠ b → (TX12 a).2.1 ≠ (TX12 b).2.1 := by decide +kernel
theorem tyX12_ok : ∀ k, k < 99 → parseFieldDescriptor (TX12 k).2.2.1 = some (tyX12 k) := by decide +kernel
def RJ9 : String := "java/lang/Math"
def RJ0 : String := "java/lang/String"
def RJ1 : String := "java/lang/StringLatin1"
def RJ2 : String := "java/lang/StringUTF16"
def RJ10 : String := "java/lang/System"
def RJ7 : String := "java/util/Arrays"
def RJ3 : String := "jdk/internal/util/Preconditions"
def RL : String := "WheelTablesLaw"
abbrev wsX00 : List Cond := u_ws RX0 TX0 8
abbrev wsX10 : List Cond := u_ws RX1 TX1 6
abbrev wsX20 : List Cond := u_ws RX2 TX2 0
abbrev wsX30 : List Cond := u_ws RX3 TX3 15
abbrev wsX40 : List Cond := u_ws RX4 TX4 12
abbrev wsX50 : List Cond := u_ws RX5 TX5 9
abbrev wsX60 : List Cond := u_ws RX6 TX6 4
abbrev wsX70 : List Cond := u_ws RX7 TX7 9
abbrev wsX80 : List Cond := u_ws RX8 TX8 10
abbrev wsX90 : List Cond := u_ws RX9 TX9 11
abbrev wsX100 : List Cond := u_ws RX10 TX10 3
abbrev wsX110 : List Cond := u_ws RX11 TX11 16
abbrev wsX120 : List Cond := u_ws RX12 TX12 99
abbrev vwCl : List vw_C := [(RX0, TX0, 8), (RX1, TX1, 6), (RX3, TX3, 15), (RX4, TX4, 12), (RX5, TX5, 9), (RX6, TX6, 4), (RX7, TX7, 9), (RX8, TX8, 10), (RX9, TX9, 11), (RX10, TX10, 3), (RX11, TX11, 16), (RX12, TX12, 99)]
