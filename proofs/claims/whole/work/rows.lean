section
-- ===== PART A: goes FIRST, ahead of the names: the tables' words, and 'selects' of the private methods out of them =====
/-- a private method of a class that the tables say can be made, by its rows of tables_1 -/
def lw_okq (q : MethodName × Nat) : Prop := (q.1.cls ≠ "java/lang/invoke/MethodHandle" ∧ q.1.cls ≠ "java/lang/invoke/VarHandle") ∧ Cond.instantiable q.1.cls q.2 ∈ tables_1 ∧ Cond.privateMethod q.1 ∈ tables_1 ∧ Cond.instanceMethod q.1 ∈ tables_1
theorem lw_p0 : lw_okq (⟨"SnailLaws", "tell", "(I)I"⟩, 8) := ⟨⟨by decide +kernel, by decide +kernel⟩, List.mem_of_getElem? (i := 16) (by decide +kernel), List.mem_of_getElem? (i := 246) (by decide +kernel), List.mem_of_getElem? (i := 247) (by decide +kernel)⟩
theorem lw_p1 : lw_okq (⟨"SnailLaws$Ways", "spreadFrom", "(II)I"⟩, 5) := ⟨⟨by decide +kernel, by decide +kernel⟩, List.mem_of_getElem? (i := 128) (by decide +kernel), List.mem_of_getElem? (i := 271) (by decide +kernel), List.mem_of_getElem? (i := 272) (by decide +kernel)⟩
theorem lw_p2 : lw_okq (⟨"SnailLaws", "isSnail", "(I)Z"⟩, 8) := ⟨⟨by decide +kernel, by decide +kernel⟩, List.mem_of_getElem? (i := 16) (by decide +kernel), List.mem_of_getElem? (i := 291) (by decide +kernel), List.mem_of_getElem? (i := 292) (by decide +kernel)⟩
theorem lw_p3 : lw_okq (⟨"SnailLaws$Ways", "nearerThan", "(I)I"⟩, 5) := ⟨⟨by decide +kernel, by decide +kernel⟩, List.mem_of_getElem? (i := 128) (by decide +kernel), List.mem_of_getElem? (i := 332) (by decide +kernel), List.mem_of_getElem? (i := 333) (by decide +kernel)⟩
theorem lw_p4 : lw_okq (⟨"SnailLaws$Republic", "passDayOf", "(ILSnailLaws$Ways;)V"⟩, 17) := ⟨⟨by decide +kernel, by decide +kernel⟩, List.mem_of_getElem? (i := 24) (by decide +kernel), List.mem_of_getElem? (i := 340) (by decide +kernel), List.mem_of_getElem? (i := 341) (by decide +kernel)⟩
theorem lw_p5 : lw_okq (⟨"SnailLaws$Republic", "comeUnder", "(II)V"⟩, 17) := ⟨⟨by decide +kernel, by decide +kernel⟩, List.mem_of_getElem? (i := 24) (by decide +kernel), List.mem_of_getElem? (i := 345) (by decide +kernel), List.mem_of_getElem? (i := 346) (by decide +kernel)⟩
theorem lw_p6 : lw_okq (⟨"SnailLaws$Forecast", "passDay", "()V"⟩, 2) := ⟨⟨by decide +kernel, by decide +kernel⟩, List.mem_of_getElem? (i := 120) (by decide +kernel), List.mem_of_getElem? (i := 466) (by decide +kernel), List.mem_of_getElem? (i := 467) (by decide +kernel)⟩
theorem lw_p7 : lw_okq (⟨"SnailLaws$Forecast", "isNearer", "(II)Z"⟩, 2) := ⟨⟨by decide +kernel, by decide +kernel⟩, List.mem_of_getElem? (i := 120) (by decide +kernel), List.mem_of_getElem? (i := 494) (by decide +kernel), List.mem_of_getElem? (i := 495) (by decide +kernel)⟩
theorem lw_p8 : lw_okq (⟨"SnailLaws$Forecast", "bringsLaw", "(LSnailLaws$Republic;IIII)Z"⟩, 2) := ⟨⟨by decide +kernel, by decide +kernel⟩, List.mem_of_getElem? (i := 120) (by decide +kernel), List.mem_of_getElem? (i := 529) (by decide +kernel), List.mem_of_getElem? (i := 530) (by decide +kernel)⟩
theorem lw_p9 : lw_okq (⟨"SnailLaws$Forecast", "bearsLaw", "(LSnailLaws$Republic;II)Z"⟩, 2) := ⟨⟨by decide +kernel, by decide +kernel⟩, List.mem_of_getElem? (i := 120) (by decide +kernel), List.mem_of_getElem? (i := 533) (by decide +kernel), List.mem_of_getElem? (i := 534) (by decide +kernel)⟩
theorem lw_p10 : lw_okq (⟨"SnailLaws$Forecast", "arrivesFrom", "(LSnailLaws$Republic;III)Z"⟩, 2) := ⟨⟨by decide +kernel, by decide +kernel⟩, List.mem_of_getElem? (i := 120) (by decide +kernel), List.mem_of_getElem? (i := 550) (by decide +kernel), List.mem_of_getElem? (i := 551) (by decide +kernel)⟩
theorem lw_p11 : lw_okq (⟨"SnailLaws", "trailFlaw", "(II)I"⟩, 8) := ⟨⟨by decide +kernel, by decide +kernel⟩, List.mem_of_getElem? (i := 16) (by decide +kernel), List.mem_of_getElem? (i := 558) (by decide +kernel), List.mem_of_getElem? (i := 559) (by decide +kernel)⟩
theorem lw_p12 : lw_okq (⟨"SnailLaws", "sheetFlaw", "(I)I"⟩, 8) := ⟨⟨by decide +kernel, by decide +kernel⟩, List.mem_of_getElem? (i := 16) (by decide +kernel), List.mem_of_getElem? (i := 562) (by decide +kernel), List.mem_of_getElem? (i := 563) (by decide +kernel)⟩
theorem lw_p13 : lw_okq (⟨"SnailLaws$Tape", "cutTokens", "()V"⟩, 7) := ⟨⟨by decide +kernel, by decide +kernel⟩, List.mem_of_getElem? (i := 162) (by decide +kernel), List.mem_of_getElem? (i := 631) (by decide +kernel), List.mem_of_getElem? (i := 632) (by decide +kernel)⟩
theorem lw_p14 : lw_okq (⟨"SnailLaws$Tape", "cutToken", "(II)I"⟩, 7) := ⟨⟨by decide +kernel, by decide +kernel⟩, List.mem_of_getElem? (i := 162) (by decide +kernel), List.mem_of_getElem? (i := 635) (by decide +kernel), List.mem_of_getElem? (i := 636) (by decide +kernel)⟩
theorem lw_p15 : lw_okq (⟨"SnailLaws$Tape", "valueOf", "(II)I"⟩, 7) := ⟨⟨by decide +kernel, by decide +kernel⟩, List.mem_of_getElem? (i := 162) (by decide +kernel), List.mem_of_getElem? (i := 642) (by decide +kernel), List.mem_of_getElem? (i := 643) (by decide +kernel)⟩
def lw_privs_1 : List (MethodName × Nat) := [(⟨"SnailLaws", "tell", "(I)I"⟩, 8), (⟨"SnailLaws$Ways", "spreadFrom", "(II)I"⟩, 5), (⟨"SnailLaws", "isSnail", "(I)Z"⟩, 8), (⟨"SnailLaws$Ways", "nearerThan", "(I)I"⟩, 5), (⟨"SnailLaws$Republic", "passDayOf", "(ILSnailLaws$Ways;)V"⟩, 17), (⟨"SnailLaws$Republic", "comeUnder", "(II)V"⟩, 17), (⟨"SnailLaws$Forecast", "passDay", "()V"⟩, 2), (⟨"SnailLaws$Forecast", "isNearer", "(II)Z"⟩, 2), (⟨"SnailLaws$Forecast", "bringsLaw", "(LSnailLaws$Republic;IIII)Z"⟩, 2), (⟨"SnailLaws$Forecast", "bearsLaw", "(LSnailLaws$Republic;II)Z"⟩, 2), (⟨"SnailLaws$Forecast", "arrivesFrom", "(LSnailLaws$Republic;III)Z"⟩, 2), (⟨"SnailLaws", "trailFlaw", "(II)I"⟩, 8), (⟨"SnailLaws", "sheetFlaw", "(I)I"⟩, 8), (⟨"SnailLaws$Tape", "cutTokens", "()V"⟩, 7), (⟨"SnailLaws$Tape", "cutToken", "(II)I"⟩, 7), (⟨"SnailLaws$Tape", "valueOf", "(II)I"⟩, 7)]
theorem lw_r1 : ∀ q ∈ lw_privs_1, lw_okq q := List.forall_mem_cons.mpr ⟨lw_p0, List.forall_mem_cons.mpr ⟨lw_p1, List.forall_mem_cons.mpr ⟨lw_p2, List.forall_mem_cons.mpr ⟨lw_p3, List.forall_mem_cons.mpr ⟨lw_p4, List.forall_mem_cons.mpr ⟨lw_p5, List.forall_mem_cons.mpr ⟨lw_p6, List.forall_mem_cons.mpr ⟨lw_p7, List.forall_mem_cons.mpr ⟨lw_p8, List.forall_mem_cons.mpr ⟨lw_p9, List.forall_mem_cons.mpr ⟨lw_p10, List.forall_mem_cons.mpr ⟨lw_p11, List.forall_mem_cons.mpr ⟨lw_p12, List.forall_mem_cons.mpr ⟨lw_p13, List.forall_mem_cons.mpr ⟨lw_p14, List.forall_mem_cons.mpr ⟨lw_p15, fun _ h => absurd h List.not_mem_nil⟩⟩⟩⟩⟩⟩⟩⟩⟩⟩⟩⟩⟩⟩⟩⟩
theorem lw_p16 : lw_okq (⟨"SnailLaws$Tape", "readItem", "(LSnailLaws$Republic;)Z"⟩, 7) := ⟨⟨by decide +kernel, by decide +kernel⟩, List.mem_of_getElem? (i := 162) (by decide +kernel), List.mem_of_getElem? (i := 647) (by decide +kernel), List.mem_of_getElem? (i := 648) (by decide +kernel)⟩
theorem lw_p17 : lw_okq (⟨"SnailLaws$Tape", "kindNamed", "()I"⟩, 7) := ⟨⟨by decide +kernel, by decide +kernel⟩, List.mem_of_getElem? (i := 162) (by decide +kernel), List.mem_of_getElem? (i := 651) (by decide +kernel), List.mem_of_getElem? (i := 652) (by decide +kernel)⟩
theorem lw_p18 : lw_okq (⟨"SnailLaws$Tape", "isWord", "(Ljava/lang/String;)Z"⟩, 7) := ⟨⟨by decide +kernel, by decide +kernel⟩, List.mem_of_getElem? (i := 162) (by decide +kernel), List.mem_of_getElem? (i := 656) (by decide +kernel), List.mem_of_getElem? (i := 657) (by decide +kernel)⟩
theorem lw_p19 : lw_okq (⟨"SnailLaws$Tape", "readSnail", "(LSnailLaws$Republic;I)Z"⟩, 7) := ⟨⟨by decide +kernel, by decide +kernel⟩, List.mem_of_getElem? (i := 162) (by decide +kernel), List.mem_of_getElem? (i := 714) (by decide +kernel), List.mem_of_getElem? (i := 715) (by decide +kernel)⟩
theorem lw_p20 : lw_okq (⟨"SnailLaws$Tape", "takePart", "(Ljava/lang/String;II)I"⟩, 7) := ⟨⟨by decide +kernel, by decide +kernel⟩, List.mem_of_getElem? (i := 162) (by decide +kernel), List.mem_of_getElem? (i := 720) (by decide +kernel), List.mem_of_getElem? (i := 721) (by decide +kernel)⟩
theorem lw_p21 : lw_okq (⟨"SnailLaws$Tape", "skipWord", "(Ljava/lang/String;)Z"⟩, 7) := ⟨⟨by decide +kernel, by decide +kernel⟩, List.mem_of_getElem? (i := 162) (by decide +kernel), List.mem_of_getElem? (i := 724) (by decide +kernel), List.mem_of_getElem? (i := 725) (by decide +kernel)⟩
theorem lw_p22 : lw_okq (⟨"SnailLaws$Tape", "takeNumber", "(I)I"⟩, 7) := ⟨⟨by decide +kernel, by decide +kernel⟩, List.mem_of_getElem? (i := 162) (by decide +kernel), List.mem_of_getElem? (i := 728) (by decide +kernel), List.mem_of_getElem? (i := 729) (by decide +kernel)⟩
theorem lw_p23 : lw_okq (⟨"SnailLaws$Tape", "readHedge", "(LSnailLaws$Republic;)Z"⟩, 7) := ⟨⟨by decide +kernel, by decide +kernel⟩, List.mem_of_getElem? (i := 162) (by decide +kernel), List.mem_of_getElem? (i := 736) (by decide +kernel), List.mem_of_getElem? (i := 737) (by decide +kernel)⟩
theorem lw_p24 : lw_okq (⟨"SnailLaws$Tape", "readGreens", "(LSnailLaws$Republic;)Z"⟩, 7) := ⟨⟨by decide +kernel, by decide +kernel⟩, List.mem_of_getElem? (i := 162) (by decide +kernel), List.mem_of_getElem? (i := 741) (by decide +kernel), List.mem_of_getElem? (i := 742) (by decide +kernel)⟩
theorem lw_p25 : lw_okq (⟨"SnailLaws$Tape", "readBans", "(LSnailLaws$Republic;)Z"⟩, 7) := ⟨⟨by decide +kernel, by decide +kernel⟩, List.mem_of_getElem? (i := 162) (by decide +kernel), List.mem_of_getElem? (i := 746) (by decide +kernel), List.mem_of_getElem? (i := 747) (by decide +kernel)⟩
theorem lw_p26 : lw_okq (⟨"SnailLaws$Tape", "readWet", "(LSnailLaws$Republic;)Z"⟩, 7) := ⟨⟨by decide +kernel, by decide +kernel⟩, List.mem_of_getElem? (i := 162) (by decide +kernel), List.mem_of_getElem? (i := 751) (by decide +kernel), List.mem_of_getElem? (i := 752) (by decide +kernel)⟩
theorem lw_p27 : lw_okq (⟨"SnailLaws$Tape", "readThrush", "(LSnailLaws$Republic;)Z"⟩, 7) := ⟨⟨by decide +kernel, by decide +kernel⟩, List.mem_of_getElem? (i := 162) (by decide +kernel), List.mem_of_getElem? (i := 756) (by decide +kernel), List.mem_of_getElem? (i := 757) (by decide +kernel)⟩
theorem lw_p28 : lw_okq (⟨"SnailLawsModel", "no", "(I)I"⟩, 22) := ⟨⟨by decide +kernel, by decide +kernel⟩, List.mem_of_getElem? (i := 842) (by decide +kernel), List.mem_of_getElem? (i := 926) (by decide +kernel), List.mem_of_getElem? (i := 927) (by decide +kernel)⟩
theorem lw_p29 : lw_okq (⟨"SnailLawsModel", "barsHedges", "()V"⟩, 22) := ⟨⟨by decide +kernel, by decide +kernel⟩, List.mem_of_getElem? (i := 842) (by decide +kernel), List.mem_of_getElem? (i := 943) (by decide +kernel), List.mem_of_getElem? (i := 944) (by decide +kernel)⟩
theorem lw_p30 : lw_okq (⟨"SnailLawsModel", "isHedge", "(I)Z"⟩, 22) := ⟨⟨by decide +kernel, by decide +kernel⟩, List.mem_of_getElem? (i := 842) (by decide +kernel), List.mem_of_getElem? (i := 947) (by decide +kernel), List.mem_of_getElem? (i := 948) (by decide +kernel)⟩
theorem lw_p31 : lw_okq (⟨"SnailLawsModel", "spreads", "(II)V"⟩, 22) := ⟨⟨by decide +kernel, by decide +kernel⟩, List.mem_of_getElem? (i := 842) (by decide +kernel), List.mem_of_getElem? (i := 951) (by decide +kernel), List.mem_of_getElem? (i := 952) (by decide +kernel)⟩
def lw_privs_2 : List (MethodName × Nat) := [(⟨"SnailLaws$Tape", "readItem", "(LSnailLaws$Republic;)Z"⟩, 7), (⟨"SnailLaws$Tape", "kindNamed", "()I"⟩, 7), (⟨"SnailLaws$Tape", "isWord", "(Ljava/lang/String;)Z"⟩, 7), (⟨"SnailLaws$Tape", "readSnail", "(LSnailLaws$Republic;I)Z"⟩, 7), (⟨"SnailLaws$Tape", "takePart", "(Ljava/lang/String;II)I"⟩, 7), (⟨"SnailLaws$Tape", "skipWord", "(Ljava/lang/String;)Z"⟩, 7), (⟨"SnailLaws$Tape", "takeNumber", "(I)I"⟩, 7), (⟨"SnailLaws$Tape", "readHedge", "(LSnailLaws$Republic;)Z"⟩, 7), (⟨"SnailLaws$Tape", "readGreens", "(LSnailLaws$Republic;)Z"⟩, 7), (⟨"SnailLaws$Tape", "readBans", "(LSnailLaws$Republic;)Z"⟩, 7), (⟨"SnailLaws$Tape", "readWet", "(LSnailLaws$Republic;)Z"⟩, 7), (⟨"SnailLaws$Tape", "readThrush", "(LSnailLaws$Republic;)Z"⟩, 7), (⟨"SnailLawsModel", "no", "(I)I"⟩, 22), (⟨"SnailLawsModel", "barsHedges", "()V"⟩, 22), (⟨"SnailLawsModel", "isHedge", "(I)Z"⟩, 22), (⟨"SnailLawsModel", "spreads", "(II)V"⟩, 22)]
theorem lw_r2 : ∀ q ∈ lw_privs_2, lw_okq q := List.forall_mem_cons.mpr ⟨lw_p16, List.forall_mem_cons.mpr ⟨lw_p17, List.forall_mem_cons.mpr ⟨lw_p18, List.forall_mem_cons.mpr ⟨lw_p19, List.forall_mem_cons.mpr ⟨lw_p20, List.forall_mem_cons.mpr ⟨lw_p21, List.forall_mem_cons.mpr ⟨lw_p22, List.forall_mem_cons.mpr ⟨lw_p23, List.forall_mem_cons.mpr ⟨lw_p24, List.forall_mem_cons.mpr ⟨lw_p25, List.forall_mem_cons.mpr ⟨lw_p26, List.forall_mem_cons.mpr ⟨lw_p27, List.forall_mem_cons.mpr ⟨lw_p28, List.forall_mem_cons.mpr ⟨lw_p29, List.forall_mem_cons.mpr ⟨lw_p30, List.forall_mem_cons.mpr ⟨lw_p31, fun _ h => absurd h List.not_mem_nil⟩⟩⟩⟩⟩⟩⟩⟩⟩⟩⟩⟩⟩⟩⟩⟩
theorem lw_p32 : lw_okq (⟨"SnailLawsModel", "addsSnail", "(II)V"⟩, 22) := ⟨⟨by decide +kernel, by decide +kernel⟩, List.mem_of_getElem? (i := 842) (by decide +kernel), List.mem_of_getElem? (i := 962) (by decide +kernel), List.mem_of_getElem? (i := 963) (by decide +kernel)⟩
theorem lw_p33 : lw_okq (⟨"SnailLawsModel", "puts", "(III)V"⟩, 22) := ⟨⟨by decide +kernel, by decide +kernel⟩, List.mem_of_getElem? (i := 842) (by decide +kernel), List.mem_of_getElem? (i := 966) (by decide +kernel), List.mem_of_getElem? (i := 967) (by decide +kernel)⟩
theorem lw_p34 : lw_okq (⟨"SnailLawsModel", "isSnail", "(I)Z"⟩, 22) := ⟨⟨by decide +kernel, by decide +kernel⟩, List.mem_of_getElem? (i := 842) (by decide +kernel), List.mem_of_getElem? (i := 974) (by decide +kernel), List.mem_of_getElem? (i := 975) (by decide +kernel)⟩
theorem lw_p35 : lw_okq (⟨"SnailLawsModel", "findsFars", "()V"⟩, 22) := ⟨⟨by decide +kernel, by decide +kernel⟩, List.mem_of_getElem? (i := 842) (by decide +kernel), List.mem_of_getElem? (i := 978) (by decide +kernel), List.mem_of_getElem? (i := 979) (by decide +kernel)⟩
theorem lw_p36 : lw_okq (⟨"SnailLawsModel", "get", "(II)I"⟩, 22) := ⟨⟨by decide +kernel, by decide +kernel⟩, List.mem_of_getElem? (i := 842) (by decide +kernel), List.mem_of_getElem? (i := 982) (by decide +kernel), List.mem_of_getElem? (i := 983) (by decide +kernel)⟩
theorem lw_p37 : lw_okq (⟨"SnailLawsModel", "movesOf", "(I)I"⟩, 22) := ⟨⟨by decide +kernel, by decide +kernel⟩, List.mem_of_getElem? (i := 842) (by decide +kernel), List.mem_of_getElem? (i := 986) (by decide +kernel), List.mem_of_getElem? (i := 987) (by decide +kernel)⟩
theorem lw_p38 : lw_okq (⟨"SnailLawsModel", "farBy", "(II)I"⟩, 22) := ⟨⟨by decide +kernel, by decide +kernel⟩, List.mem_of_getElem? (i := 842) (by decide +kernel), List.mem_of_getElem? (i := 990) (by decide +kernel), List.mem_of_getElem? (i := 991) (by decide +kernel)⟩
theorem lw_p39 : lw_okq (⟨"SnailLawsModel", "days", "(I)V"⟩, 22) := ⟨⟨by decide +kernel, by decide +kernel⟩, List.mem_of_getElem? (i := 842) (by decide +kernel), List.mem_of_getElem? (i := 1014) (by decide +kernel), List.mem_of_getElem? (i := 1015) (by decide +kernel)⟩
theorem lw_p40 : lw_okq (⟨"SnailLawsModel", "allSnails", "()I"⟩, 22) := ⟨⟨by decide +kernel, by decide +kernel⟩, List.mem_of_getElem? (i := 842) (by decide +kernel), List.mem_of_getElem? (i := 1018) (by decide +kernel), List.mem_of_getElem? (i := 1019) (by decide +kernel)⟩
theorem lw_p41 : lw_okq (⟨"SnailLawsModel", "day", "(I)V"⟩, 22) := ⟨⟨by decide +kernel, by decide +kernel⟩, List.mem_of_getElem? (i := 842) (by decide +kernel), List.mem_of_getElem? (i := 1022) (by decide +kernel), List.mem_of_getElem? (i := 1023) (by decide +kernel)⟩
theorem lw_p42 : lw_okq (⟨"SnailLawsModel", "crawls", "(I)V"⟩, 22) := ⟨⟨by decide +kernel, by decide +kernel⟩, List.mem_of_getElem? (i := 842) (by decide +kernel), List.mem_of_getElem? (i := 1029) (by decide +kernel), List.mem_of_getElem? (i := 1030) (by decide +kernel)⟩
theorem lw_p43 : lw_okq (⟨"SnailLawsModel", "comesUnder", "(II)V"⟩, 22) := ⟨⟨by decide +kernel, by decide +kernel⟩, List.mem_of_getElem? (i := 842) (by decide +kernel), List.mem_of_getElem? (i := 1033) (by decide +kernel), List.mem_of_getElem? (i := 1034) (by decide +kernel)⟩
theorem lw_p44 : lw_okq (⟨"SnailLawsModel", "nextOf", "(I)I"⟩, 22) := ⟨⟨by decide +kernel, by decide +kernel⟩, List.mem_of_getElem? (i := 842) (by decide +kernel), List.mem_of_getElem? (i := 1037) (by decide +kernel), List.mem_of_getElem? (i := 1038) (by decide +kernel)⟩
theorem lw_p45 : lw_okq (⟨"SnailLawsModel", "isGreedy", "(I)Z"⟩, 22) := ⟨⟨by decide +kernel, by decide +kernel⟩, List.mem_of_getElem? (i := 842) (by decide +kernel), List.mem_of_getElem? (i := 1041) (by decide +kernel), List.mem_of_getElem? (i := 1042) (by decide +kernel)⟩
theorem lw_p46 : lw_okq (⟨"SnailLawsModel", "underLaw", "()I"⟩, 22) := ⟨⟨by decide +kernel, by decide +kernel⟩, List.mem_of_getElem? (i := 842) (by decide +kernel), List.mem_of_getElem? (i := 1049) (by decide +kernel), List.mem_of_getElem? (i := 1050) (by decide +kernel)⟩
theorem lw_p47 : lw_okq (⟨"SnailLawsModel", "isThere", "(I)Z"⟩, 22) := ⟨⟨by decide +kernel, by decide +kernel⟩, List.mem_of_getElem? (i := 842) (by decide +kernel), List.mem_of_getElem? (i := 1053) (by decide +kernel), List.mem_of_getElem? (i := 1054) (by decide +kernel)⟩
def lw_privs_3 : List (MethodName × Nat) := [(⟨"SnailLawsModel", "addsSnail", "(II)V"⟩, 22), (⟨"SnailLawsModel", "puts", "(III)V"⟩, 22), (⟨"SnailLawsModel", "isSnail", "(I)Z"⟩, 22), (⟨"SnailLawsModel", "findsFars", "()V"⟩, 22), (⟨"SnailLawsModel", "get", "(II)I"⟩, 22), (⟨"SnailLawsModel", "movesOf", "(I)I"⟩, 22), (⟨"SnailLawsModel", "farBy", "(II)I"⟩, 22), (⟨"SnailLawsModel", "days", "(I)V"⟩, 22), (⟨"SnailLawsModel", "allSnails", "()I"⟩, 22), (⟨"SnailLawsModel", "day", "(I)V"⟩, 22), (⟨"SnailLawsModel", "crawls", "(I)V"⟩, 22), (⟨"SnailLawsModel", "comesUnder", "(II)V"⟩, 22), (⟨"SnailLawsModel", "nextOf", "(I)I"⟩, 22), (⟨"SnailLawsModel", "isGreedy", "(I)Z"⟩, 22), (⟨"SnailLawsModel", "underLaw", "()I"⟩, 22), (⟨"SnailLawsModel", "isThere", "(I)Z"⟩, 22)]
theorem lw_r3 : ∀ q ∈ lw_privs_3, lw_okq q := List.forall_mem_cons.mpr ⟨lw_p32, List.forall_mem_cons.mpr ⟨lw_p33, List.forall_mem_cons.mpr ⟨lw_p34, List.forall_mem_cons.mpr ⟨lw_p35, List.forall_mem_cons.mpr ⟨lw_p36, List.forall_mem_cons.mpr ⟨lw_p37, List.forall_mem_cons.mpr ⟨lw_p38, List.forall_mem_cons.mpr ⟨lw_p39, List.forall_mem_cons.mpr ⟨lw_p40, List.forall_mem_cons.mpr ⟨lw_p41, List.forall_mem_cons.mpr ⟨lw_p42, List.forall_mem_cons.mpr ⟨lw_p43, List.forall_mem_cons.mpr ⟨lw_p44, List.forall_mem_cons.mpr ⟨lw_p45, List.forall_mem_cons.mpr ⟨lw_p46, List.forall_mem_cons.mpr ⟨lw_p47, fun _ h => absurd h List.not_mem_nil⟩⟩⟩⟩⟩⟩⟩⟩⟩⟩⟩⟩⟩⟩⟩⟩
theorem lw_p48 : lw_okq (⟨"SnailLawsModel", "isLawful", "(II)Z"⟩, 22) := ⟨⟨by decide +kernel, by decide +kernel⟩, List.mem_of_getElem? (i := 842) (by decide +kernel), List.mem_of_getElem? (i := 1072) (by decide +kernel), List.mem_of_getElem? (i := 1073) (by decide +kernel)⟩
theorem lw_p49 : lw_okq (⟨"SnailLawsModel", "lawfulCells", "(I)I"⟩, 22) := ⟨⟨by decide +kernel, by decide +kernel⟩, List.mem_of_getElem? (i := 842) (by decide +kernel), List.mem_of_getElem? (i := 1080) (by decide +kernel), List.mem_of_getElem? (i := 1081) (by decide +kernel)⟩
theorem lw_p50 : lw_okq (⟨"SnailLawsModel", "setsAside", "()V"⟩, 22) := ⟨⟨by decide +kernel, by decide +kernel⟩, List.mem_of_getElem? (i := 842) (by decide +kernel), List.mem_of_getElem? (i := 1096) (by decide +kernel), List.mem_of_getElem? (i := 1097) (by decide +kernel)⟩
theorem lw_p51 : lw_okq (⟨"SnailLawsModel", "laysBack", "()V"⟩, 22) := ⟨⟨by decide +kernel, by decide +kernel⟩, List.mem_of_getElem? (i := 842) (by decide +kernel), List.mem_of_getElem? (i := 1100) (by decide +kernel), List.mem_of_getElem? (i := 1101) (by decide +kernel)⟩
theorem lw_p52 : lw_okq (⟨"SnailLawsModel", "reachedBy", "(II)I"⟩, 22) := ⟨⟨by decide +kernel, by decide +kernel⟩, List.mem_of_getElem? (i := 842) (by decide +kernel), List.mem_of_getElem? (i := 1112) (by decide +kernel), List.mem_of_getElem? (i := 1113) (by decide +kernel)⟩
theorem lw_p53 : lw_okq (⟨"SnailLawsModel", "thereBy", "(II)I"⟩, 22) := ⟨⟨by decide +kernel, by decide +kernel⟩, List.mem_of_getElem? (i := 842) (by decide +kernel), List.mem_of_getElem? (i := 1124) (by decide +kernel), List.mem_of_getElem? (i := 1125) (by decide +kernel)⟩
theorem lw_p54 : lw_okq (⟨"SnailLawsModel", "bestRelease", "(III)I"⟩, 22) := ⟨⟨by decide +kernel, by decide +kernel⟩, List.mem_of_getElem? (i := 842) (by decide +kernel), List.mem_of_getElem? (i := 1151) (by decide +kernel), List.mem_of_getElem? (i := 1152) (by decide +kernel)⟩
theorem lw_p55 : lw_okq (⟨"SnailLawsModel", "priceOf", "(I)I"⟩, 22) := ⟨⟨by decide +kernel, by decide +kernel⟩, List.mem_of_getElem? (i := 842) (by decide +kernel), List.mem_of_getElem? (i := 1155) (by decide +kernel), List.mem_of_getElem? (i := 1156) (by decide +kernel)⟩
theorem lw_p56 : lw_okq (⟨"SnailLawsModel", "wrongTrail", "(II)I"⟩, 22) := ⟨⟨by decide +kernel, by decide +kernel⟩, List.mem_of_getElem? (i := 842) (by decide +kernel), List.mem_of_getElem? (i := 1171) (by decide +kernel), List.mem_of_getElem? (i := 1172) (by decide +kernel)⟩
theorem lw_p57 : lw_okq (⟨"SnailLawsModel", "wrongSheet", "(I)I"⟩, 22) := ⟨⟨by decide +kernel, by decide +kernel⟩, List.mem_of_getElem? (i := 842) (by decide +kernel), List.mem_of_getElem? (i := 1175) (by decide +kernel), List.mem_of_getElem? (i := 1176) (by decide +kernel)⟩
theorem lw_p58 : lw_okq (⟨"SnailLawsModel", "fitsFrom", "(III)Z"⟩, 22) := ⟨⟨by decide +kernel, by decide +kernel⟩, List.mem_of_getElem? (i := 842) (by decide +kernel), List.mem_of_getElem? (i := 1182) (by decide +kernel), List.mem_of_getElem? (i := 1183) (by decide +kernel)⟩
theorem lw_p59 : lw_okq (⟨"SnailLawsModel", "draw", "()I"⟩, 22) := ⟨⟨by decide +kernel, by decide +kernel⟩, List.mem_of_getElem? (i := 842) (by decide +kernel), List.mem_of_getElem? (i := 1194) (by decide +kernel), List.mem_of_getElem? (i := 1195) (by decide +kernel)⟩
theorem lw_p60 : lw_okq (⟨"SnailLawsModel", "nextToken", "()V"⟩, 22) := ⟨⟨by decide +kernel, by decide +kernel⟩, List.mem_of_getElem? (i := 842) (by decide +kernel), List.mem_of_getElem? (i := 1220) (by decide +kernel), List.mem_of_getElem? (i := 1221) (by decide +kernel)⟩
theorem lw_p61 : lw_okq (⟨"SnailLawsModel", "readsItem", "()Z"⟩, 22) := ⟨⟨by decide +kernel, by decide +kernel⟩, List.mem_of_getElem? (i := 842) (by decide +kernel), List.mem_of_getElem? (i := 1236) (by decide +kernel), List.mem_of_getElem? (i := 1237) (by decide +kernel)⟩
theorem lw_p62 : lw_okq (⟨"SnailLawsModel", "wordOf", "([C)I"⟩, 22) := ⟨⟨by decide +kernel, by decide +kernel⟩, List.mem_of_getElem? (i := 842) (by decide +kernel), List.mem_of_getElem? (i := 1240) (by decide +kernel), List.mem_of_getElem? (i := 1241) (by decide +kernel)⟩
theorem lw_p63 : lw_okq (⟨"SnailLawsModel", "readsSnail", "(I)Z"⟩, 22) := ⟨⟨by decide +kernel, by decide +kernel⟩, List.mem_of_getElem? (i := 842) (by decide +kernel), List.mem_of_getElem? (i := 1244) (by decide +kernel), List.mem_of_getElem? (i := 1245) (by decide +kernel)⟩
def lw_privs_4 : List (MethodName × Nat) := [(⟨"SnailLawsModel", "isLawful", "(II)Z"⟩, 22), (⟨"SnailLawsModel", "lawfulCells", "(I)I"⟩, 22), (⟨"SnailLawsModel", "setsAside", "()V"⟩, 22), (⟨"SnailLawsModel", "laysBack", "()V"⟩, 22), (⟨"SnailLawsModel", "reachedBy", "(II)I"⟩, 22), (⟨"SnailLawsModel", "thereBy", "(II)I"⟩, 22), (⟨"SnailLawsModel", "bestRelease", "(III)I"⟩, 22), (⟨"SnailLawsModel", "priceOf", "(I)I"⟩, 22), (⟨"SnailLawsModel", "wrongTrail", "(II)I"⟩, 22), (⟨"SnailLawsModel", "wrongSheet", "(I)I"⟩, 22), (⟨"SnailLawsModel", "fitsFrom", "(III)Z"⟩, 22), (⟨"SnailLawsModel", "draw", "()I"⟩, 22), (⟨"SnailLawsModel", "nextToken", "()V"⟩, 22), (⟨"SnailLawsModel", "readsItem", "()Z"⟩, 22), (⟨"SnailLawsModel", "wordOf", "([C)I"⟩, 22), (⟨"SnailLawsModel", "readsSnail", "(I)Z"⟩, 22)]
theorem lw_r4 : ∀ q ∈ lw_privs_4, lw_okq q := List.forall_mem_cons.mpr ⟨lw_p48, List.forall_mem_cons.mpr ⟨lw_p49, List.forall_mem_cons.mpr ⟨lw_p50, List.forall_mem_cons.mpr ⟨lw_p51, List.forall_mem_cons.mpr ⟨lw_p52, List.forall_mem_cons.mpr ⟨lw_p53, List.forall_mem_cons.mpr ⟨lw_p54, List.forall_mem_cons.mpr ⟨lw_p55, List.forall_mem_cons.mpr ⟨lw_p56, List.forall_mem_cons.mpr ⟨lw_p57, List.forall_mem_cons.mpr ⟨lw_p58, List.forall_mem_cons.mpr ⟨lw_p59, List.forall_mem_cons.mpr ⟨lw_p60, List.forall_mem_cons.mpr ⟨lw_p61, List.forall_mem_cons.mpr ⟨lw_p62, List.forall_mem_cons.mpr ⟨lw_p63, fun _ h => absurd h List.not_mem_nil⟩⟩⟩⟩⟩⟩⟩⟩⟩⟩⟩⟩⟩⟩⟩⟩
theorem lw_p64 : lw_okq (⟨"SnailLawsModel", "takesNumber", "(II)I"⟩, 22) := ⟨⟨by decide +kernel, by decide +kernel⟩, List.mem_of_getElem? (i := 842) (by decide +kernel), List.mem_of_getElem? (i := 1248) (by decide +kernel), List.mem_of_getElem? (i := 1249) (by decide +kernel)⟩
def lw_privs_5 : List (MethodName × Nat) := [(⟨"SnailLawsModel", "takesNumber", "(II)I"⟩, 22)]
theorem lw_r5 : ∀ q ∈ lw_privs_5, lw_okq q := List.forall_mem_cons.mpr ⟨lw_p64, fun _ h => absurd h List.not_mem_nil⟩
def lw_privs : List (MethodName × Nat) := lw_privs_1 ++ (lw_privs_2 ++ (lw_privs_3 ++ (lw_privs_4 ++ (lw_privs_5))))
def lw_tbl : List Cond := k2_sels lw_privs ++ tables_1
theorem lw_privs_ok : ∀ q ∈ lw_privs, lw_okq q := by
  show ∀ q ∈ lw_privs_1 ++ (lw_privs_2 ++ (lw_privs_3 ++ (lw_privs_4 ++ (lw_privs_5)))), lw_okq q
  exact List.forall_mem_append.mpr ⟨lw_r1, List.forall_mem_append.mpr ⟨lw_r2, List.forall_mem_append.mpr ⟨lw_r3, List.forall_mem_append.mpr ⟨lw_r4, lw_r5⟩⟩⟩⟩
-- ===== end of PART A; then your names; then what follows =====
end
section
/-! names, by program (wip/whole/gen_names.py) out of the claim's own printed texts -/
def RX0 : String := "SnailLaws$Forecast"
def TX0 : u_T := fun k => match k with
  | 0 => ("SnailLaws$Forecast", "draft", "LSnailLaws$Republic;", true)
  | _ => ("SnailLaws$Forecast", "ways", "LSnailLaws$Ways;", true)
def tyX0 : Nat → FieldType := fun k => match k with
  | 0 => .object "SnailLaws$Republic"
  | _ => .object "SnailLaws$Ways"
theorem nmX0 : ∀ a, a < 2 → ∀ b, b < 2 → a ≠ b → (TX0 a).2.1 ≠ (TX0 b).2.1 := by decide +kernel
theorem tyX0_ok : ∀ k, k < 2 → parseFieldDescriptor (TX0 k).2.2.1 = some (tyX0 k) := by decide +kernel
abbrev cX0_init : ByteArray := prog_2_method_1_code
def yX0_init : MethodName := ⟨RX0, "<init>", "()V"⟩
abbrev cX0_draftOf : ByteArray := prog_2_method_2_code
def yX0_draftOf : MethodName := ⟨RX0, "draftOf", "(LSnailLaws$Republic;)LSnailLaws$Republic;"⟩
abbrev cX0_survey : ByteArray := prog_2_method_3_code
def yX0_survey : MethodName := ⟨RX0, "survey", "(LSnailLaws$Republic;)V"⟩
abbrev cX0_behind : ByteArray := prog_2_method_4_code
def yX0_behind : MethodName := ⟨RX0, "behind", "(LSnailLaws$Republic;I)LSnailLaws$Republic;"⟩
abbrev cX0_passDay : ByteArray := prog_2_method_5_code
def yX0_passDay : MethodName := ⟨RX0, "passDay", "()V"⟩
abbrev cX0_daysToLaw : ByteArray := prog_2_method_6_code
def yX0_daysToLaw : MethodName := ⟨RX0, "daysToLaw", "(LSnailLaws$Republic;III)I"⟩
abbrev cX0_daysToGate : ByteArray := prog_2_method_7_code
def yX0_daysToGate : MethodName := ⟨RX0, "daysToGate", "(LSnailLaws$Republic;II)I"⟩
abbrev cX0_daysToOvertake : ByteArray := prog_2_method_8_code
def yX0_daysToOvertake : MethodName := ⟨RX0, "daysToOvertake", "(LSnailLaws$Republic;II)I"⟩
abbrev cX0_isNearer : ByteArray := prog_2_method_9_code
def yX0_isNearer : MethodName := ⟨RX0, "isNearer", "(II)Z"⟩
abbrev cX0_cellOfMostClashes : ByteArray := prog_2_method_10_code
def yX0_cellOfMostClashes : MethodName := ⟨RX0, "cellOfMostClashes", "(LSnailLaws$Republic;I)I"⟩
abbrev cX0_cheapestSet : ByteArray := prog_2_method_11_code
def yX0_cheapestSet : MethodName := ⟨RX0, "cheapestSet", "(LSnailLaws$Republic;III)I"⟩
abbrev cX0_bringsLaw : ByteArray := prog_2_method_12_code
def yX0_bringsLaw : MethodName := ⟨RX0, "bringsLaw", "(LSnailLaws$Republic;IIII)Z"⟩
abbrev cX0_bearsLaw : ByteArray := prog_2_method_13_code
def yX0_bearsLaw : MethodName := ⟨RX0, "bearsLaw", "(LSnailLaws$Republic;II)Z"⟩
abbrev cX0_farthestStart : ByteArray := prog_2_method_14_code
def yX0_farthestStart : MethodName := ⟨RX0, "farthestStart", "(LSnailLaws$Republic;II)I"⟩
abbrev cX0_arrivesFrom : ByteArray := prog_2_method_15_code
def yX0_arrivesFrom : MethodName := ⟨RX0, "arrivesFrom", "(LSnailLaws$Republic;III)Z"⟩
abbrev cX0_leavesTrail : ByteArray := prog_2_method_16_code
def yX0_leavesTrail : MethodName := ⟨RX0, "leavesTrail", "(LSnailLaws$Republic;IILSnailLaws$Sheets;I)Z"⟩
def RX1 : String := "SnailLaws$Republic"
def TX1 : u_T := fun k => match k with
  | 0 => ("SnailLaws$Republic", "hedges", "[I", true)
  | 1 => ("SnailLaws$Republic", "leaves", "[I", true)
  | 2 => ("SnailLaws$Republic", "laws", "[I", true)
  | 3 => ("SnailLaws$Republic", "met", "[I", true)
  | 4 => ("SnailLaws$Republic", "banned", "[I", true)
  | 5 => ("SnailLaws$Republic", "kinds", "[I", true)
  | 6 => ("SnailLaws$Republic", "ats", "[I", true)
  | 7 => ("SnailLaws$Republic", "edicts", "[I", true)
  | 8 => ("SnailLaws$Republic", "gates", "[I", true)
  | 9 => ("SnailLaws$Republic", "prices", "[I", true)
  | 10 => ("SnailLaws$Republic", "spots", "[I", true)
  | 11 => ("SnailLaws$Republic", "snails", "I", false)
  | 12 => ("SnailLaws$Republic", "wet", "I", false)
  | 13 => ("SnailLaws$Republic", "thrush", "I", false)
  | 14 => ("SnailLaws$Republic", "day", "I", false)
  | 15 => ("SnailLaws$Republic", "clashes", "I", false)
  | _ => ("SnailLaws$Republic", "z", "I", false)
def tyX1 : Nat → FieldType := fun k => match k with
  | 0 => .array .int
  | 1 => .array .int
  | 2 => .array .int
  | 3 => .array .int
  | 4 => .array .int
  | 5 => .array .int
  | 6 => .array .int
  | 7 => .array .int
  | 8 => .array .int
  | 9 => .array .int
  | 10 => .array .int
  | 11 => .int
  | 12 => .int
  | 13 => .int
  | 14 => .int
  | 15 => .int
  | _ => .int
theorem nmX1 : ∀ a, a < 17 → ∀ b, b < 17 → a ≠ b → (TX1 a).2.1 ≠ (TX1 b).2.1 := by decide +kernel
theorem tyX1_ok : ∀ k, k < 17 → parseFieldDescriptor (TX1 k).2.2.1 = some (tyX1 k) := by decide +kernel
abbrev cX1_init : ByteArray := prog_3_method_1_code
def yX1_init : MethodName := ⟨RX1, "<init>", "()V"⟩
abbrev cX1_become : ByteArray := prog_3_method_2_code
def yX1_become : MethodName := ⟨RX1, "become", "(LSnailLaws$Republic;)V"⟩
abbrev cX1_addSnail : ByteArray := prog_3_method_3_code
def yX1_addSnail : MethodName := ⟨RX1, "addSnail", "(II)I"⟩
abbrev cX1_traitRow : ByteArray := prog_3_method_4_code
def yX1_traitRow : MethodName := ⟨RX1, "traitRow", "(I)[I"⟩
abbrev cX1_movesOf : ByteArray := prog_3_method_5_code
def yX1_movesOf : MethodName := ⟨RX1, "movesOf", "(I)I"⟩
abbrev cX1_passDays : ByteArray := prog_3_method_6_code
def yX1_passDays : MethodName := ⟨RX1, "passDays", "(LSnailLaws$Ways;II)V"⟩
abbrev cX1_passDayOf : ByteArray := prog_3_method_7_code
def yX1_passDayOf : MethodName := ⟨RX1, "passDayOf", "(ILSnailLaws$Ways;)V"⟩
abbrev cX1_comeUnder : ByteArray := prog_3_method_8_code
def yX1_comeUnder : MethodName := ⟨RX1, "comeUnder", "(II)V"⟩
abbrev cX1_drawThrushes : ByteArray := prog_3_method_9_code
def yX1_drawThrushes : MethodName := ⟨RX1, "drawThrushes", "()I"⟩
abbrev cX1_isLawful : ByteArray := prog_3_method_10_code
def yX1_isLawful : MethodName := ⟨RX1, "isLawful", "(II)Z"⟩
abbrev cX1_openCellsFor : ByteArray := prog_3_method_11_code
def yX1_openCellsFor : MethodName := ⟨RX1, "openCellsFor", "(I)I"⟩
abbrev cX1_freeDeeds : ByteArray := prog_3_method_12_code
def yX1_freeDeeds : MethodName := ⟨RX1, "freeDeeds", "()I"⟩
abbrev cX1_cellsUnder : ByteArray := prog_3_method_13_code
def yX1_cellsUnder : MethodName := ⟨RX1, "cellsUnder", "(I)I"⟩
abbrev cX1_lawfulCells : ByteArray := prog_3_method_14_code
def yX1_lawfulCells : MethodName := ⟨RX1, "lawfulCells", "()I"⟩
abbrev cX1_allLeaves : ByteArray := prog_3_method_15_code
def yX1_allLeaves : MethodName := ⟨RX1, "allLeaves", "()I"⟩
abbrev cX1_allHedges : ByteArray := prog_3_method_16_code
def yX1_allHedges : MethodName := ⟨RX1, "allHedges", "()I"⟩
abbrev cX1_sumOf : ByteArray := prog_3_method_17_code
def yX1_sumOf : MethodName := ⟨RX1, "sumOf", "([I)I"⟩
abbrev cX1_arrivedSnails : ByteArray := prog_3_method_18_code
def yX1_arrivedSnails : MethodName := ⟨RX1, "arrivedSnails", "()I"⟩
abbrev cX1_heldSpots : ByteArray := prog_3_method_19_code
def yX1_heldSpots : MethodName := ⟨RX1, "heldSpots", "()I"⟩
abbrev cX1_priceOf : ByteArray := prog_3_method_20_code
def yX1_priceOf : MethodName := ⟨RX1, "priceOf", "(I)I"⟩
def RX2 : String := "SnailLaws$Sheets"
def TX2 : u_T := fun k => match k with
  | 0 => ("SnailLaws$Sheets", "bits", "[I", true)
  | 1 => ("SnailLaws$Sheets", "sizes", "[I", true)
  | _ => ("SnailLaws$Sheets", "numbers", "[I", true)
def tyX2 : Nat → FieldType := fun k => match k with
  | 0 => .array .int
  | 1 => .array .int
  | _ => .array .int
theorem nmX2 : ∀ a, a < 3 → ∀ b, b < 3 → a ≠ b → (TX2 a).2.1 ≠ (TX2 b).2.1 := by decide +kernel
theorem tyX2_ok : ∀ k, k < 3 → parseFieldDescriptor (TX2 k).2.2.1 = some (tyX2 k) := by decide +kernel
abbrev cX2_init : ByteArray := prog_4_method_1_code
def yX2_init : MethodName := ⟨RX2, "<init>", "()V"⟩
abbrev cX2_isMissing : ByteArray := prog_4_method_2_code
def yX2_isMissing : MethodName := ⟨RX2, "isMissing", "(I)Z"⟩
abbrev cX2_lay : ByteArray := prog_4_method_3_code
def yX2_lay : MethodName := ⟨RX2, "lay", "(III)V"⟩
abbrev cX2_numberAt : ByteArray := prog_4_method_4_code
def yX2_numberAt : MethodName := ⟨RX2, "numberAt", "(II)I"⟩
abbrev cX2_put : ByteArray := prog_4_method_5_code
def yX2_put : MethodName := ⟨RX2, "put", "(III)V"⟩
abbrev cX2_hasRun : ByteArray := prog_4_method_6_code
def yX2_hasRun : MethodName := ⟨RX2, "hasRun", "(III)Z"⟩
abbrev cX2_carry : ByteArray := prog_4_method_7_code
def yX2_carry : MethodName := ⟨RX2, "carry", "(IIIII)V"⟩
def RX3 : String := "SnailLaws$Tape"
def TX3 : u_T := fun k => match k with
  | 0 => ("SnailLaws$Tape", "size", "I", false)
  | 1 => ("SnailLaws$Tape", "bytes", "[I", true)
  | 2 => ("SnailLaws$Tape", "sorts", "[I", true)
  | 3 => ("SnailLaws$Tape", "starts", "[I", true)
  | 4 => ("SnailLaws$Tape", "ends", "[I", true)
  | 5 => ("SnailLaws$Tape", "values", "[I", true)
  | _ => ("SnailLaws$Tape", "at", "I", false)
def tyX3 : Nat → FieldType := fun k => match k with
  | 0 => .int
  | 1 => .array .int
  | 2 => .array .int
  | 3 => .array .int
  | 4 => .array .int
  | 5 => .array .int
  | _ => .int
theorem nmX3 : ∀ a, a < 7 → ∀ b, b < 7 → a ≠ b → (TX3 a).2.1 ≠ (TX3 b).2.1 := by decide +kernel
theorem tyX3_ok : ∀ k, k < 7 → parseFieldDescriptor (TX3 k).2.2.1 = some (tyX3 k) := by decide +kernel
abbrev cX3_init : ByteArray := prog_5_method_1_code
def yX3_init : MethodName := ⟨RX3, "<init>", "()V"⟩
abbrev cX3_append : ByteArray := prog_5_method_2_code
def yX3_append : MethodName := ⟨RX3, "append", "(II)Z"⟩
abbrev cX3_readInto : ByteArray := prog_5_method_3_code
def yX3_readInto : MethodName := ⟨RX3, "readInto", "(LSnailLaws$Republic;)I"⟩
abbrev cX3_cutTokens : ByteArray := prog_5_method_4_code
def yX3_cutTokens : MethodName := ⟨RX3, "cutTokens", "()V"⟩
abbrev cX3_cutToken : ByteArray := prog_5_method_5_code
def yX3_cutToken : MethodName := ⟨RX3, "cutToken", "(II)I"⟩
abbrev cX3_sortOf : ByteArray := prog_5_method_6_code
def yX3_sortOf : MethodName := ⟨RX3, "sortOf", "(I)I"⟩
abbrev cX3_valueOf : ByteArray := prog_5_method_7_code
def yX3_valueOf : MethodName := ⟨RX3, "valueOf", "(II)I"⟩
abbrev cX3_readItem : ByteArray := prog_5_method_8_code
def yX3_readItem : MethodName := ⟨RX3, "readItem", "(LSnailLaws$Republic;)Z"⟩
abbrev cX3_kindNamed : ByteArray := prog_5_method_9_code
def yX3_kindNamed : MethodName := ⟨RX3, "kindNamed", "()I"⟩
abbrev cX3_readSnail : ByteArray := prog_5_method_10_code
def yX3_readSnail : MethodName := ⟨RX3, "readSnail", "(LSnailLaws$Republic;I)Z"⟩
abbrev cX3_readHedge : ByteArray := prog_5_method_11_code
def yX3_readHedge : MethodName := ⟨RX3, "readHedge", "(LSnailLaws$Republic;)Z"⟩
abbrev cX3_readGreens : ByteArray := prog_5_method_12_code
def yX3_readGreens : MethodName := ⟨RX3, "readGreens", "(LSnailLaws$Republic;)Z"⟩
abbrev cX3_readBans : ByteArray := prog_5_method_13_code
def yX3_readBans : MethodName := ⟨RX3, "readBans", "(LSnailLaws$Republic;)Z"⟩
abbrev cX3_readWet : ByteArray := prog_5_method_14_code
def yX3_readWet : MethodName := ⟨RX3, "readWet", "(LSnailLaws$Republic;)Z"⟩
abbrev cX3_readThrush : ByteArray := prog_5_method_15_code
def yX3_readThrush : MethodName := ⟨RX3, "readThrush", "(LSnailLaws$Republic;)Z"⟩
abbrev cX3_isWord : ByteArray := prog_5_method_16_code
def yX3_isWord : MethodName := ⟨RX3, "isWord", "(Ljava/lang/String;)Z"⟩
abbrev cX3_skipWord : ByteArray := prog_5_method_17_code
def yX3_skipWord : MethodName := ⟨RX3, "skipWord", "(Ljava/lang/String;)Z"⟩
abbrev cX3_takeNumber : ByteArray := prog_5_method_18_code
def yX3_takeNumber : MethodName := ⟨RX3, "takeNumber", "(I)I"⟩
abbrev cX3_takePart : ByteArray := prog_5_method_19_code
def yX3_takePart : MethodName := ⟨RX3, "takePart", "(Ljava/lang/String;II)I"⟩
def RX4 : String := "SnailLaws$Ways"
def TX4 : u_T := fun k => match k with
  | 0 => ("SnailLaws$Ways", "steps", "[I", true)
  | 1 => ("SnailLaws$Ways", "open", "[Z", true)
  | 2 => ("SnailLaws$Ways", "queue", "[I", true)
  | 3 => ("SnailLaws$Ways", "gateSteps", "[I", true)
  | _ => ("SnailLaws$Ways", "nextCells", "[I", true)
def tyX4 : Nat → FieldType := fun k => match k with
  | 0 => .array .int
  | 1 => .array .boolean
  | 2 => .array .int
  | 3 => .array .int
  | _ => .array .int
theorem nmX4 : ∀ a, a < 5 → ∀ b, b < 5 → a ≠ b → (TX4 a).2.1 ≠ (TX4 b).2.1 := by decide +kernel
theorem tyX4_ok : ∀ k, k < 5 → parseFieldDescriptor (TX4 k).2.2.1 = some (tyX4 k) := by decide +kernel
abbrev cX4_init : ByteArray := prog_6_method_1_code
def yX4_init : MethodName := ⟨RX4, "<init>", "()V"⟩
abbrev cX4_openLand : ByteArray := prog_6_method_2_code
def yX4_openLand : MethodName := ⟨RX4, "openLand", "(LSnailLaws$Republic;)V"⟩
abbrev cX4_openFor : ByteArray := prog_6_method_3_code
def yX4_openFor : MethodName := ⟨RX4, "openFor", "(LSnailLaws$Republic;I)V"⟩
abbrev cX4_measure : ByteArray := prog_6_method_4_code
def yX4_measure : MethodName := ⟨RX4, "measure", "(I)V"⟩
abbrev cX4_spreadFrom : ByteArray := prog_6_method_5_code
def yX4_spreadFrom : MethodName := ⟨RX4, "spreadFrom", "(II)I"⟩
abbrev cX4_survey : ByteArray := prog_6_method_6_code
def yX4_survey : MethodName := ⟨RX4, "survey", "(LSnailLaws$Republic;)V"⟩
abbrev cX4_nearerThan : ByteArray := prog_6_method_7_code
def yX4_nearerThan : MethodName := ⟨RX4, "nearerThan", "(I)I"⟩
abbrev cX4_gateStepsOf : ByteArray := prog_6_method_8_code
def yX4_gateStepsOf : MethodName := ⟨RX4, "gateStepsOf", "(II)I"⟩
abbrev cX4_nextOf : ByteArray := prog_6_method_9_code
def yX4_nextOf : MethodName := ⟨RX4, "nextOf", "(II)I"⟩
def RX5 : String := "SnailLaws"
def TX5 : u_T := fun k => match k with
  | 0 => ("SnailLaws", "real", "LSnailLaws$Republic;", true)
  | 1 => ("SnailLaws", "kept", "LSnailLaws$Republic;", true)
  | 2 => ("SnailLaws", "forecast", "LSnailLaws$Forecast;", true)
  | 3 => ("SnailLaws", "ways", "LSnailLaws$Ways;", true)
  | 4 => ("SnailLaws", "tape", "LSnailLaws$Tape;", true)
  | 5 => ("SnailLaws", "sheets", "LSnailLaws$Sheets;", true)
  | 6 => ("SnailLaws", "told", "[I", true)
  | _ => ("SnailLaws", "isKept", "Z", false)
def tyX5 : Nat → FieldType := fun k => match k with
  | 0 => .object "SnailLaws$Republic"
  | 1 => .object "SnailLaws$Republic"
  | 2 => .object "SnailLaws$Forecast"
  | 3 => .object "SnailLaws$Ways"
  | 4 => .object "SnailLaws$Tape"
  | 5 => .object "SnailLaws$Sheets"
  | 6 => .array .int
  | _ => .boolean
theorem nmX5 : ∀ a, a < 8 → ∀ b, b < 8 → a ≠ b → (TX5 a).2.1 ≠ (TX5 b).2.1 := by decide +kernel
theorem tyX5_ok : ∀ k, k < 8 → parseFieldDescriptor (TX5 k).2.2.1 = some (tyX5 k) := by decide +kernel
abbrev cX5_init : ByteArray := prog_1_method_1_code
def yX5_init : MethodName := ⟨RX5, "<init>", "()V"⟩
abbrev cX5_hedge : ByteArray := prog_1_method_2_code
def yX5_hedge : MethodName := ⟨RX5, "hedge", "(II)I"⟩
abbrev cX5_greens : ByteArray := prog_1_method_3_code
def yX5_greens : MethodName := ⟨RX5, "greens", "(II)I"⟩
abbrev cX5_land : ByteArray := prog_1_method_4_code
def yX5_land : MethodName := ⟨RX5, "land", "(II)I"⟩
abbrev cX5_far : ByteArray := prog_1_method_5_code
def yX5_far : MethodName := ⟨RX5, "far", "(II)I"⟩
abbrev cX5_snail : ByteArray := prog_1_method_6_code
def yX5_snail : MethodName := ⟨RX5, "snail", "(II)I"⟩
abbrev cX5_of : ByteArray := prog_1_method_7_code
def yX5_of : MethodName := ⟨RX5, "of", "(II)I"⟩
abbrev cX5_change : ByteArray := prog_1_method_8_code
def yX5_change : MethodName := ⟨RX5, "change", "(III)I"⟩
abbrev cX5_bans : ByteArray := prog_1_method_9_code
def yX5_bans : MethodName := ⟨RX5, "bans", "(II)I"⟩
abbrev cX5_set : ByteArray := prog_1_method_10_code
def yX5_set : MethodName := ⟨RX5, "set", "(II)I"⟩
abbrev cX5_go : ByteArray := prog_1_method_11_code
def yX5_go : MethodName := ⟨RX5, "go", "(I)I"⟩
abbrev cX5_now : ByteArray := prog_1_method_12_code
def yX5_now : MethodName := ⟨RX5, "now", "(I)I"⟩
abbrev cX5_realm : ByteArray := prog_1_method_13_code
def yX5_realm : MethodName := ⟨RX5, "realm", "(I)I"⟩
abbrev cX5_repeals : ByteArray := prog_1_method_14_code
def yX5_repeals : MethodName := ⟨RX5, "repeals", "()I"⟩
abbrev cX5_may : ByteArray := prog_1_method_15_code
def yX5_may : MethodName := ⟨RX5, "may", "(II)I"⟩
abbrev cX5_where : ByteArray := prog_1_method_16_code
def yX5_where : MethodName := ⟨RX5, "where", "(I)I"⟩
abbrev cX5_route : ByteArray := prog_1_method_17_code
def yX5_route : MethodName := ⟨RX5, "route", "(III)I"⟩
abbrev cX5_free : ByteArray := prog_1_method_18_code
def yX5_free : MethodName := ⟨RX5, "free", "()I"⟩
abbrev cX5_ahead : ByteArray := prog_1_method_19_code
def yX5_ahead : MethodName := ⟨RX5, "ahead", "(II)I"⟩
abbrev cX5_lawAt : ByteArray := prog_1_method_20_code
def yX5_lawAt : MethodName := ⟨RX5, "lawAt", "(II)I"⟩
abbrev cX5_reaches : ByteArray := prog_1_method_21_code
def yX5_reaches : MethodName := ⟨RX5, "reaches", "(II)I"⟩
abbrev cX5_wetFor : ByteArray := prog_1_method_22_code
def yX5_wetFor : MethodName := ⟨RX5, "wetFor", "(II)I"⟩
abbrev cX5_comes : ByteArray := prog_1_method_23_code
def yX5_comes : MethodName := ⟨RX5, "comes", "(I)I"⟩
abbrev cX5_kindFor : ByteArray := prog_1_method_24_code
def yX5_kindFor : MethodName := ⟨RX5, "kindFor", "(I)I"⟩
abbrev cX5_overtakes : ByteArray := prog_1_method_25_code
def yX5_overtakes : MethodName := ⟨RX5, "overtakes", "(II)I"⟩
abbrev cX5_lag : ByteArray := prog_1_method_26_code
def yX5_lag : MethodName := ⟨RX5, "lag", "(III)I"⟩
abbrev cX5_clash : ByteArray := prog_1_method_27_code
def yX5_clash : MethodName := ⟨RX5, "clash", "(I)I"⟩
abbrev cX5_release : ByteArray := prog_1_method_28_code
def yX5_release : MethodName := ⟨RX5, "release", "(III)I"⟩
abbrev cX5_costs : ByteArray := prog_1_method_29_code
def yX5_costs : MethodName := ⟨RX5, "costs", "(III)I"⟩
abbrev cX5_farthest : ByteArray := prog_1_method_30_code
def yX5_farthest : MethodName := ⟨RX5, "farthest", "(II)I"⟩
abbrev cX5_fits : ByteArray := prog_1_method_31_code
def yX5_fits : MethodName := ⟨RX5, "fits", "(II)I"⟩
abbrev cX5_began : ByteArray := prog_1_method_32_code
def yX5_began : MethodName := ⟨RX5, "began", "(II)I"⟩
abbrev cX5_thrushes : ByteArray := prog_1_method_33_code
def yX5_thrushes : MethodName := ⟨RX5, "thrushes", "(I)I"⟩
abbrev cX5_alone : ByteArray := prog_1_method_34_code
def yX5_alone : MethodName := ⟨RX5, "alone", "(II)J"⟩
abbrev cX5_seed : ByteArray := prog_1_method_35_code
def yX5_seed : MethodName := ⟨RX5, "seed", "(I)I"⟩
abbrev cX5_feed : ByteArray := prog_1_method_36_code
def yX5_feed : MethodName := ⟨RX5, "feed", "(II)I"⟩
abbrev cX5_wipe : ByteArray := prog_1_method_37_code
def yX5_wipe : MethodName := ⟨RX5, "wipe", "()I"⟩
abbrev cX5_text : ByteArray := prog_1_method_38_code
def yX5_text : MethodName := ⟨RX5, "text", "()I"⟩
abbrev cX5_hold : ByteArray := prog_1_method_39_code
def yX5_hold : MethodName := ⟨RX5, "hold", "(II)I"⟩
abbrev cX5_as : ByteArray := prog_1_method_40_code
def yX5_as : MethodName := ⟨RX5, "as", "(II)I"⟩
abbrev cX5_sheet : ByteArray := prog_1_method_41_code
def yX5_sheet : MethodName := ⟨RX5, "sheet", "(III)I"⟩
abbrev cX5_write : ByteArray := prog_1_method_42_code
def yX5_write : MethodName := ⟨RX5, "write", "(III)I"⟩
abbrev cX5_copy : ByteArray := prog_1_method_43_code
def yX5_copy : MethodName := ⟨RX5, "copy", "(IIIII)I"⟩
abbrev cX5_load : ByteArray := prog_1_method_44_code
def yX5_load : MethodName := ⟨RX5, "load", "(I)I"⟩
abbrev cX5_judge : ByteArray := prog_1_method_45_code
def yX5_judge : MethodName := ⟨RX5, "judge", "(I)I"⟩
abbrev cX5_image : ByteArray := prog_1_method_46_code
def yX5_image : MethodName := ⟨RX5, "image", "()I"⟩
abbrev cX5_undo : ByteArray := prog_1_method_47_code
def yX5_undo : MethodName := ⟨RX5, "undo", "()I"⟩
abbrev cX5_tear : ByteArray := prog_1_method_48_code
def yX5_tear : MethodName := ⟨RX5, "tear", "()I"⟩
abbrev cX5_count : ByteArray := prog_1_method_49_code
def yX5_count : MethodName := ⟨RX5, "count", "(I)I"⟩
abbrev cX5_status : ByteArray := prog_1_method_50_code
def yX5_status : MethodName := ⟨RX5, "status", "(I)I"⟩
abbrev cX5_tell : ByteArray := prog_1_method_51_code
def yX5_tell : MethodName := ⟨RX5, "tell", "(I)I"⟩
abbrev cX5_sheetFlaw : ByteArray := prog_1_method_52_code
def yX5_sheetFlaw : MethodName := ⟨RX5, "sheetFlaw", "(I)I"⟩
abbrev cX5_trailFlaw : ByteArray := prog_1_method_53_code
def yX5_trailFlaw : MethodName := ⟨RX5, "trailFlaw", "(II)I"⟩
abbrev cX5_isSnail : ByteArray := prog_1_method_54_code
def yX5_isSnail : MethodName := ⟨RX5, "isSnail", "(I)Z"⟩
abbrev cX5_isWithin : ByteArray := prog_1_method_55_code
def yX5_isWithin : MethodName := ⟨RX5, "isWithin", "(II)Z"⟩
abbrev cX5_isCell : ByteArray := prog_1_method_56_code
def yX5_isCell : MethodName := ⟨RX5, "isCell", "(I)Z"⟩
abbrev cX5_isLaw : ByteArray := prog_1_method_57_code
def yX5_isLaw : MethodName := ⟨RX5, "isLaw", "(I)Z"⟩
abbrev cX5_isDeed : ByteArray := prog_1_method_58_code
def yX5_isDeed : MethodName := ⟨RX5, "isDeed", "(I)Z"⟩
abbrev cX5_isSheet : ByteArray := prog_1_method_59_code
def yX5_isSheet : MethodName := ⟨RX5, "isSheet", "(I)Z"⟩
abbrev cX5_isBits : ByteArray := prog_1_method_60_code
def yX5_isBits : MethodName := ⟨RX5, "isBits", "(I)Z"⟩
abbrev cX5_isOfKind : ByteArray := prog_1_method_61_code
def yX5_isOfKind : MethodName := ⟨RX5, "isOfKind", "(II)Z"⟩
abbrev cX5_commonDivisor : ByteArray := prog_1_method_62_code
def yX5_commonDivisor : MethodName := ⟨RX5, "commonDivisor", "(I)I"⟩
abbrev cX5_beside : ByteArray := prog_1_method_63_code
def yX5_beside : MethodName := ⟨RX5, "beside", "(II)I"⟩
def RX6 : String := "SnailLawsModel"
def TX6 : u_T := fun k => match k with
  | 0 => ("SnailLawsModel", "s", "[I", true)
  | 1 => ("SnailLawsModel", "kept", "[I", true)
  | 2 => ("SnailLawsModel", "aside", "[I", true)
  | 3 => ("SnailLawsModel", "isKept", "Z", false)
  | 4 => ("SnailLawsModel", "found", "[I", true)
  | 5 => ("SnailLawsModel", "fars", "[I", true)
  | 6 => ("SnailLawsModel", "order", "[I", true)
  | 7 => ("SnailLawsModel", "isBarred", "[Z", true)
  | 8 => ("SnailLawsModel", "clashedAt", "[I", true)
  | 9 => ("SnailLawsModel", "tape", "[I", true)
  | 10 => ("SnailLawsModel", "taped", "I", false)
  | 11 => ("SnailLawsModel", "token", "I", false)
  | 12 => ("SnailLawsModel", "begun", "I", false)
  | 13 => ("SnailLawsModel", "ended", "I", false)
  | 14 => ("SnailLawsModel", "value", "J", false)
  | 15 => ("SnailLawsModel", "letters", "[C", true)
  | 16 => ("SnailLawsModel", "more", "[C", true)
  | 17 => ("SnailLawsModel", "others", "[C", true)
  | 18 => ("SnailLawsModel", "widths", "[I", true)
  | 19 => ("SnailLawsModel", "sizes", "[I", true)
  | 20 => ("SnailLawsModel", "cells", "[I", true)
  | _ => ("SnailLawsModel", "carried", "[I", true)
def tyX6 : Nat → FieldType := fun k => match k with
  | 0 => .array .int
  | 1 => .array .int
  | 2 => .array .int
  | 3 => .boolean
  | 4 => .array .int
  | 5 => .array .int
  | 6 => .array .int
  | 7 => .array .boolean
  | 8 => .array .int
  | 9 => .array .int
  | 10 => .int
  | 11 => .int
  | 12 => .int
  | 13 => .int
  | 14 => .long
  | 15 => .array .char
  | 16 => .array .char
  | 17 => .array .char
  | 18 => .array .int
  | 19 => .array .int
  | 20 => .array .int
  | _ => .array .int
theorem nmX6 : ∀ a, a < 22 → ∀ b, b < 22 → a ≠ b → (TX6 a).2.1 ≠ (TX6 b).2.1 := by decide +kernel
theorem tyX6_ok : ∀ k, k < 22 → parseFieldDescriptor (TX6 k).2.2.1 = some (tyX6 k) := by decide +kernel
abbrev cX6_init : ByteArray := prog_8_method_1_code
def yX6_init : MethodName := ⟨RX6, "<init>", "()V"⟩
abbrev cX6_no : ByteArray := prog_8_method_2_code
def yX6_no : MethodName := ⟨RX6, "no", "(I)I"⟩
abbrev cX6_in1 : ByteArray := prog_8_method_3_code
def yX6_in1 : MethodName := ⟨RX6, "in1", "(III)Z"⟩
abbrev cX6_isIn : ByteArray := prog_8_method_4_code
def yX6_isIn : MethodName := ⟨RX6, "isIn", "(II)Z"⟩
abbrev cX6_isCell : ByteArray := prog_8_method_5_code
def yX6_isCell : MethodName := ⟨RX6, "isCell", "(I)Z"⟩
abbrev cX6_isLaw : ByteArray := prog_8_method_6_code
def yX6_isLaw : MethodName := ⟨RX6, "isLaw", "(I)Z"⟩
abbrev cX6_isDeed : ByteArray := prog_8_method_7_code
def yX6_isDeed : MethodName := ⟨RX6, "isDeed", "(I)Z"⟩
abbrev cX6_isSnail : ByteArray := prog_8_method_8_code
def yX6_isSnail : MethodName := ⟨RX6, "isSnail", "(I)Z"⟩
abbrev cX6_get : ByteArray := prog_8_method_9_code
def yX6_get : MethodName := ⟨RX6, "get", "(II)I"⟩
abbrev cX6_puts : ByteArray := prog_8_method_10_code
def yX6_puts : MethodName := ⟨RX6, "puts", "(III)V"⟩
abbrev cX6_setsAside : ByteArray := prog_8_method_11_code
def yX6_setsAside : MethodName := ⟨RX6, "setsAside", "()V"⟩
abbrev cX6_laysBack : ByteArray := prog_8_method_12_code
def yX6_laysBack : MethodName := ⟨RX6, "laysBack", "()V"⟩
abbrev cX6_beside : ByteArray := prog_8_method_13_code
def yX6_beside : MethodName := ⟨RX6, "beside", "(II)I"⟩
abbrev cX6_isHedge : ByteArray := prog_8_method_14_code
def yX6_isHedge : MethodName := ⟨RX6, "isHedge", "(I)Z"⟩
abbrev cX6_spreads : ByteArray := prog_8_method_15_code
def yX6_spreads : MethodName := ⟨RX6, "spreads", "(II)V"⟩
abbrev cX6_barsHedges : ByteArray := prog_8_method_16_code
def yX6_barsHedges : MethodName := ⟨RX6, "barsHedges", "()V"⟩
abbrev cX6_findsFars : ByteArray := prog_8_method_17_code
def yX6_findsFars : MethodName := ⟨RX6, "findsFars", "()V"⟩
abbrev cX6_farBy : ByteArray := prog_8_method_18_code
def yX6_farBy : MethodName := ⟨RX6, "farBy", "(II)I"⟩
abbrev cX6_isGreedy : ByteArray := prog_8_method_19_code
def yX6_isGreedy : MethodName := ⟨RX6, "isGreedy", "(I)Z"⟩
abbrev cX6_movesOf : ByteArray := prog_8_method_20_code
def yX6_movesOf : MethodName := ⟨RX6, "movesOf", "(I)I"⟩
abbrev cX6_comesUnder : ByteArray := prog_8_method_21_code
def yX6_comesUnder : MethodName := ⟨RX6, "comesUnder", "(II)V"⟩
abbrev cX6_nextOf : ByteArray := prog_8_method_22_code
def yX6_nextOf : MethodName := ⟨RX6, "nextOf", "(I)I"⟩
abbrev cX6_crawls : ByteArray := prog_8_method_23_code
def yX6_crawls : MethodName := ⟨RX6, "crawls", "(I)V"⟩
abbrev cX6_day : ByteArray := prog_8_method_24_code
def yX6_day : MethodName := ⟨RX6, "day", "(I)V"⟩
abbrev cX6_allSnails : ByteArray := prog_8_method_25_code
def yX6_allSnails : MethodName := ⟨RX6, "allSnails", "()I"⟩
abbrev cX6_days : ByteArray := prog_8_method_26_code
def yX6_days : MethodName := ⟨RX6, "days", "(I)V"⟩
abbrev cX6_hedge : ByteArray := prog_8_method_27_code
def yX6_hedge : MethodName := ⟨RX6, "hedge", "(II)I"⟩
abbrev cX6_greens : ByteArray := prog_8_method_28_code
def yX6_greens : MethodName := ⟨RX6, "greens", "(II)I"⟩
abbrev cX6_land : ByteArray := prog_8_method_29_code
def yX6_land : MethodName := ⟨RX6, "land", "(II)I"⟩
abbrev cX6_far : ByteArray := prog_8_method_30_code
def yX6_far : MethodName := ⟨RX6, "far", "(II)I"⟩
abbrev cX6_addsSnail : ByteArray := prog_8_method_31_code
def yX6_addsSnail : MethodName := ⟨RX6, "addsSnail", "(II)V"⟩
abbrev cX6_snail : ByteArray := prog_8_method_32_code
def yX6_snail : MethodName := ⟨RX6, "snail", "(II)I"⟩
abbrev cX6_of : ByteArray := prog_8_method_33_code
def yX6_of : MethodName := ⟨RX6, "of", "(II)I"⟩
abbrev cX6_change : ByteArray := prog_8_method_34_code
def yX6_change : MethodName := ⟨RX6, "change", "(III)I"⟩
abbrev cX6_bans : ByteArray := prog_8_method_35_code
def yX6_bans : MethodName := ⟨RX6, "bans", "(II)I"⟩
abbrev cX6_set : ByteArray := prog_8_method_36_code
def yX6_set : MethodName := ⟨RX6, "set", "(II)I"⟩
abbrev cX6_go : ByteArray := prog_8_method_37_code
def yX6_go : MethodName := ⟨RX6, "go", "(I)I"⟩
abbrev cX6_underLaw : ByteArray := prog_8_method_38_code
def yX6_underLaw : MethodName := ⟨RX6, "underLaw", "()I"⟩
abbrev cX6_isThere : ByteArray := prog_8_method_39_code
def yX6_isThere : MethodName := ⟨RX6, "isThere", "(I)Z"⟩
abbrev cX6_now : ByteArray := prog_8_method_40_code
def yX6_now : MethodName := ⟨RX6, "now", "(I)I"⟩
abbrev cX6_realm : ByteArray := prog_8_method_41_code
def yX6_realm : MethodName := ⟨RX6, "realm", "(I)I"⟩
abbrev cX6_repeals : ByteArray := prog_8_method_42_code
def yX6_repeals : MethodName := ⟨RX6, "repeals", "()I"⟩
abbrev cX6_isLawful : ByteArray := prog_8_method_43_code
def yX6_isLawful : MethodName := ⟨RX6, "isLawful", "(II)Z"⟩
abbrev cX6_may : ByteArray := prog_8_method_44_code
def yX6_may : MethodName := ⟨RX6, "may", "(II)I"⟩
abbrev cX6_lawfulCells : ByteArray := prog_8_method_45_code
def yX6_lawfulCells : MethodName := ⟨RX6, "lawfulCells", "(I)I"⟩
abbrev cX6_where : ByteArray := prog_8_method_46_code
def yX6_where : MethodName := ⟨RX6, "where", "(I)I"⟩
abbrev cX6_route : ByteArray := prog_8_method_47_code
def yX6_route : MethodName := ⟨RX6, "route", "(III)I"⟩
abbrev cX6_free : ByteArray := prog_8_method_48_code
def yX6_free : MethodName := ⟨RX6, "free", "()I"⟩
abbrev cX6_ahead : ByteArray := prog_8_method_49_code
def yX6_ahead : MethodName := ⟨RX6, "ahead", "(II)I"⟩
abbrev cX6_lawAt : ByteArray := prog_8_method_50_code
def yX6_lawAt : MethodName := ⟨RX6, "lawAt", "(II)I"⟩
abbrev cX6_reachedBy : ByteArray := prog_8_method_51_code
def yX6_reachedBy : MethodName := ⟨RX6, "reachedBy", "(II)I"⟩
abbrev cX6_reaches : ByteArray := prog_8_method_52_code
def yX6_reaches : MethodName := ⟨RX6, "reaches", "(II)I"⟩
abbrev cX6_wetFor : ByteArray := prog_8_method_53_code
def yX6_wetFor : MethodName := ⟨RX6, "wetFor", "(II)I"⟩
abbrev cX6_thereBy : ByteArray := prog_8_method_54_code
def yX6_thereBy : MethodName := ⟨RX6, "thereBy", "(II)I"⟩
abbrev cX6_comes : ByteArray := prog_8_method_55_code
def yX6_comes : MethodName := ⟨RX6, "comes", "(I)I"⟩
abbrev cX6_kindFor : ByteArray := prog_8_method_56_code
def yX6_kindFor : MethodName := ⟨RX6, "kindFor", "(I)I"⟩
abbrev cX6_overtakes : ByteArray := prog_8_method_57_code
def yX6_overtakes : MethodName := ⟨RX6, "overtakes", "(II)I"⟩
abbrev cX6_lag : ByteArray := prog_8_method_58_code
def yX6_lag : MethodName := ⟨RX6, "lag", "(III)I"⟩
abbrev cX6_clash : ByteArray := prog_8_method_59_code
def yX6_clash : MethodName := ⟨RX6, "clash", "(I)I"⟩
abbrev cX6_priceOf : ByteArray := prog_8_method_60_code
def yX6_priceOf : MethodName := ⟨RX6, "priceOf", "(I)I"⟩
abbrev cX6_bestRelease : ByteArray := prog_8_method_61_code
def yX6_bestRelease : MethodName := ⟨RX6, "bestRelease", "(III)I"⟩
abbrev cX6_isRelease : ByteArray := prog_8_method_62_code
def yX6_isRelease : MethodName := ⟨RX6, "isRelease", "(III)Z"⟩
abbrev cX6_release : ByteArray := prog_8_method_63_code
def yX6_release : MethodName := ⟨RX6, "release", "(III)I"⟩
abbrev cX6_costs : ByteArray := prog_8_method_64_code
def yX6_costs : MethodName := ⟨RX6, "costs", "(III)I"⟩
abbrev cX6_farthest : ByteArray := prog_8_method_65_code
def yX6_farthest : MethodName := ⟨RX6, "farthest", "(II)I"⟩
abbrev cX6_isSheet : ByteArray := prog_8_method_66_code
def yX6_isSheet : MethodName := ⟨RX6, "isSheet", "(I)Z"⟩
abbrev cX6_wrongSheet : ByteArray := prog_8_method_67_code
def yX6_wrongSheet : MethodName := ⟨RX6, "wrongSheet", "(I)I"⟩
abbrev cX6_fitsFrom : ByteArray := prog_8_method_68_code
def yX6_fitsFrom : MethodName := ⟨RX6, "fitsFrom", "(III)Z"⟩
abbrev cX6_wrongTrail : ByteArray := prog_8_method_69_code
def yX6_wrongTrail : MethodName := ⟨RX6, "wrongTrail", "(II)I"⟩
abbrev cX6_fits : ByteArray := prog_8_method_70_code
def yX6_fits : MethodName := ⟨RX6, "fits", "(II)I"⟩
abbrev cX6_began : ByteArray := prog_8_method_71_code
def yX6_began : MethodName := ⟨RX6, "began", "(II)I"⟩
abbrev cX6_draw : ByteArray := prog_8_method_72_code
def yX6_draw : MethodName := ⟨RX6, "draw", "()I"⟩
abbrev cX6_thrushes : ByteArray := prog_8_method_73_code
def yX6_thrushes : MethodName := ⟨RX6, "thrushes", "(I)I"⟩
abbrev cX6_alone : ByteArray := prog_8_method_74_code
def yX6_alone : MethodName := ⟨RX6, "alone", "(II)J"⟩
abbrev cX6_seed : ByteArray := prog_8_method_75_code
def yX6_seed : MethodName := ⟨RX6, "seed", "(I)I"⟩
abbrev cX6_feed : ByteArray := prog_8_method_76_code
def yX6_feed : MethodName := ⟨RX6, "feed", "(II)I"⟩
abbrev cX6_wipe : ByteArray := prog_8_method_77_code
def yX6_wipe : MethodName := ⟨RX6, "wipe", "()I"⟩
abbrev cX6_isLetter : ByteArray := prog_8_method_78_code
def yX6_isLetter : MethodName := ⟨RX6, "isLetter", "(I)Z"⟩
abbrev cX6_isDigit : ByteArray := prog_8_method_79_code
def yX6_isDigit : MethodName := ⟨RX6, "isDigit", "(I)Z"⟩
abbrev cX6_nextToken : ByteArray := prog_8_method_80_code
def yX6_nextToken : MethodName := ⟨RX6, "nextToken", "()V"⟩
abbrev cX6_wordOf : ByteArray := prog_8_method_81_code
def yX6_wordOf : MethodName := ⟨RX6, "wordOf", "([C)I"⟩
abbrev cX6_takesNumber : ByteArray := prog_8_method_82_code
def yX6_takesNumber : MethodName := ⟨RX6, "takesNumber", "(II)I"⟩
abbrev cX6_readsSnail : ByteArray := prog_8_method_83_code
def yX6_readsSnail : MethodName := ⟨RX6, "readsSnail", "(I)Z"⟩
abbrev cX6_readsItem : ByteArray := prog_8_method_84_code
def yX6_readsItem : MethodName := ⟨RX6, "readsItem", "()Z"⟩
abbrev cX6_text : ByteArray := prog_8_method_85_code
def yX6_text : MethodName := ⟨RX6, "text", "()I"⟩
abbrev cX6_isSpot : ByteArray := prog_8_method_86_code
def yX6_isSpot : MethodName := ⟨RX6, "isSpot", "(I)Z"⟩
abbrev cX6_hold : ByteArray := prog_8_method_87_code
def yX6_hold : MethodName := ⟨RX6, "hold", "(II)I"⟩
abbrev cX6_above : ByteArray := prog_8_method_88_code
def yX6_above : MethodName := ⟨RX6, "above", "(I)I"⟩
abbrev cX6_as : ByteArray := prog_8_method_89_code
def yX6_as : MethodName := ⟨RX6, "as", "(II)I"⟩
abbrev cX6_sheet : ByteArray := prog_8_method_90_code
def yX6_sheet : MethodName := ⟨RX6, "sheet", "(III)I"⟩
abbrev cX6_write : ByteArray := prog_8_method_91_code
def yX6_write : MethodName := ⟨RX6, "write", "(III)I"⟩
abbrev cX6_copy : ByteArray := prog_8_method_92_code
def yX6_copy : MethodName := ⟨RX6, "copy", "(IIIII)I"⟩
abbrev cX6_load : ByteArray := prog_8_method_93_code
def yX6_load : MethodName := ⟨RX6, "load", "(I)I"⟩
abbrev cX6_judge : ByteArray := prog_8_method_94_code
def yX6_judge : MethodName := ⟨RX6, "judge", "(I)I"⟩
abbrev cX6_image : ByteArray := prog_8_method_95_code
def yX6_image : MethodName := ⟨RX6, "image", "()I"⟩
abbrev cX6_undo : ByteArray := prog_8_method_96_code
def yX6_undo : MethodName := ⟨RX6, "undo", "()I"⟩
abbrev cX6_tear : ByteArray := prog_8_method_97_code
def yX6_tear : MethodName := ⟨RX6, "tear", "()I"⟩
abbrev cX6_count : ByteArray := prog_8_method_98_code
def yX6_count : MethodName := ⟨RX6, "count", "(I)I"⟩
abbrev cX6_status : ByteArray := prog_8_method_99_code
def yX6_status : MethodName := ⟨RX6, "status", "(I)I"⟩
def RJx145de : String := "java/io/Serializable"
def TJx145de : u_T := fun k => match k with
  | _ => ("", "", "", false)
def tyJx145de : Nat → FieldType := fun k => match k with
  | _ => .int
theorem nmJx145de : ∀ a, a < 0 → ∀ b, b < 0 → a ≠ b → (TJx145de a).2.1 ≠ (TJx145de b).2.1 := by decide +kernel
theorem tyJx145de_ok : ∀ k, k < 0 → parseFieldDescriptor (TJx145de k).2.2.1 = some (tyJx145de k) := by decide +kernel
def RJx9f9b0 : String := "java/lang/CharSequence"
def TJx9f9b0 : u_T := fun k => match k with
  | _ => ("", "", "", false)
def tyJx9f9b0 : Nat → FieldType := fun k => match k with
  | _ => .int
theorem nmJx9f9b0 : ∀ a, a < 0 → ∀ b, b < 0 → a ≠ b → (TJx9f9b0 a).2.1 ≠ (TJx9f9b0 b).2.1 := by decide +kernel
theorem tyJx9f9b0_ok : ∀ k, k < 0 → parseFieldDescriptor (TJx9f9b0 k).2.2.1 = some (tyJx9f9b0 k) := by decide +kernel
def RJxb160c : String := "java/lang/Comparable"
def TJxb160c : u_T := fun k => match k with
  | _ => ("", "", "", false)
def tyJxb160c : Nat → FieldType := fun k => match k with
  | _ => .int
theorem nmJxb160c : ∀ a, a < 0 → ∀ b, b < 0 → a ≠ b → (TJxb160c a).2.1 ≠ (TJxb160c b).2.1 := by decide +kernel
theorem tyJxb160c_ok : ∀ k, k < 0 → parseFieldDescriptor (TJxb160c k).2.2.1 = some (tyJxb160c k) := by decide +kernel
def RJ9 : String := "java/lang/Math"
def TJ9 : u_T := fun k => match k with
  | _ => ("", "", "", false)
def tyJ9 : Nat → FieldType := fun k => match k with
  | _ => .int
theorem nmJ9 : ∀ a, a < 0 → ∀ b, b < 0 → a ≠ b → (TJ9 a).2.1 ≠ (TJ9 b).2.1 := by decide +kernel
theorem tyJ9_ok : ∀ k, k < 0 → parseFieldDescriptor (TJ9 k).2.2.1 = some (tyJ9 k) := by decide +kernel
abbrev cJ9_min_7cf53 : ByteArray := prog_9_method_69_code
def yJ9_min_7cf53 : MethodName := ⟨RJ9, "min", "(II)I"⟩
def RJ0 : String := "java/lang/String"
def TJ0 : u_T := fun k => match k with
  | _ => ("", "", "", false)
def tyJ0 : Nat → FieldType := fun k => match k with
  | _ => .int
theorem nmJ0 : ∀ a, a < 0 → ∀ b, b < 0 → a ≠ b → (TJ0 a).2.1 ≠ (TJ0 b).2.1 := by decide +kernel
theorem tyJ0_ok : ∀ k, k < 0 → parseFieldDescriptor (TJ0 k).2.2.1 = some (tyJ0 k) := by decide +kernel
abbrev cJ0_length_8abf5 : ByteArray := prog_10_method_54_code
def yJ0_length_8abf5 : MethodName := ⟨RJ0, "length", "()I"⟩
abbrev cJ0_charAt_5068e : ByteArray := prog_10_method_56_code
def yJ0_charAt_5068e : MethodName := ⟨RJ0, "charAt", "(I)C"⟩
abbrev cJ0_coder_7d493 : ByteArray := prog_10_method_152_code
def yJ0_coder_7d493 : MethodName := ⟨RJ0, "coder", "()B"⟩
abbrev cJ0_isLatin1_aae02 : ByteArray := prog_10_method_154_code
def yJ0_isLatin1_aae02 : MethodName := ⟨RJ0, "isLatin1", "()Z"⟩
abbrev cJ0_checkIndex_df160 : ByteArray := prog_10_method_155_code
def yJ0_checkIndex_df160 : MethodName := ⟨RJ0, "checkIndex", "(II)V"⟩
def RJ1 : String := "java/lang/StringLatin1"
def TJ1 : u_T := fun k => match k with
  | _ => ("", "", "", false)
def tyJ1 : Nat → FieldType := fun k => match k with
  | _ => .int
theorem nmJ1 : ∀ a, a < 0 → ∀ b, b < 0 → a ≠ b → (TJ1 a).2.1 ≠ (TJ1 b).2.1 := by decide +kernel
theorem tyJ1_ok : ∀ k, k < 0 → parseFieldDescriptor (TJ1 k).2.2.1 = some (tyJ1 k) := by decide +kernel
abbrev cJ1_charAt_3b067 : ByteArray := prog_11_method_2_code
def yJ1_charAt_3b067 : MethodName := ⟨RJ1, "charAt", "([BI)C"⟩
def RJ2 : String := "java/lang/StringUTF16"
def TJ2 : u_T := fun k => match k with
  | _ => ("", "", "", false)
def tyJ2 : Nat → FieldType := fun k => match k with
  | _ => .int
theorem nmJ2 : ∀ a, a < 0 → ∀ b, b < 0 → a ≠ b → (TJ2 a).2.1 ≠ (TJ2 b).2.1 := by decide +kernel
theorem tyJ2_ok : ∀ k, k < 0 → parseFieldDescriptor (TJ2 k).2.2.1 = some (tyJ2 k) := by decide +kernel
abbrev cJ2_getChar_3b067 : ByteArray := prog_12_method_5_code
def yJ2_getChar_3b067 : MethodName := ⟨RJ2, "getChar", "([BI)C"⟩
abbrev cJ2_length_9d52b : ByteArray := prog_12_method_6_code
def yJ2_length_9d52b : MethodName := ⟨RJ2, "length", "([B)I"⟩
abbrev cJ2_charAt_3b067 : ByteArray := prog_12_method_83_code
def yJ2_charAt_3b067 : MethodName := ⟨RJ2, "charAt", "([BI)C"⟩
abbrev cJ2_checkIndex_2214a : ByteArray := prog_12_method_91_code
def yJ2_checkIndex_2214a : MethodName := ⟨RJ2, "checkIndex", "(I[B)V"⟩
def RJ10 : String := "java/lang/System"
def TJ10 : u_T := fun k => match k with
  | _ => ("", "", "", false)
def tyJ10 : Nat → FieldType := fun k => match k with
  | _ => .int
theorem nmJ10 : ∀ a, a < 0 → ∀ b, b < 0 → a ≠ b → (TJ10 a).2.1 ≠ (TJ10 b).2.1 := by decide +kernel
theorem tyJ10_ok : ∀ k, k < 0 → parseFieldDescriptor (TJ10 k).2.2.1 = some (tyJ10 k) := by decide +kernel
def RJxfd54e : String := "java/lang/constant/Constable"
def TJxfd54e : u_T := fun k => match k with
  | _ => ("", "", "", false)
def tyJxfd54e : Nat → FieldType := fun k => match k with
  | _ => .int
theorem nmJxfd54e : ∀ a, a < 0 → ∀ b, b < 0 → a ≠ b → (TJxfd54e a).2.1 ≠ (TJxfd54e b).2.1 := by decide +kernel
theorem tyJxfd54e_ok : ∀ k, k < 0 → parseFieldDescriptor (TJxfd54e k).2.2.1 = some (tyJxfd54e k) := by decide +kernel
def RJx3cf43 : String := "java/lang/constant/ConstantDesc"
def TJx3cf43 : u_T := fun k => match k with
  | _ => ("", "", "", false)
def tyJx3cf43 : Nat → FieldType := fun k => match k with
  | _ => .int
theorem nmJx3cf43 : ∀ a, a < 0 → ∀ b, b < 0 → a ≠ b → (TJx3cf43 a).2.1 ≠ (TJx3cf43 b).2.1 := by decide +kernel
theorem tyJx3cf43_ok : ∀ k, k < 0 → parseFieldDescriptor (TJx3cf43 k).2.2.1 = some (tyJx3cf43 k) := by decide +kernel
def RJ7 : String := "java/util/Arrays"
def TJ7 : u_T := fun k => match k with
  | _ => ("", "", "", false)
def tyJ7 : Nat → FieldType := fun k => match k with
  | _ => .int
theorem nmJ7 : ∀ a, a < 0 → ∀ b, b < 0 → a ≠ b → (TJ7 a).2.1 ≠ (TJ7 b).2.1 := by decide +kernel
theorem tyJ7_ok : ∀ k, k < 0 → parseFieldDescriptor (TJ7 k).2.2.1 = some (tyJ7 k) := by decide +kernel
abbrev cJ7_fill_53178 : ByteArray := prog_14_method_103_code
def yJ7_fill_53178 : MethodName := ⟨RJ7, "fill", "([II)V"⟩
def RJ3 : String := "jdk/internal/util/Preconditions"
def TJ3 : u_T := fun k => match k with
  | _ => ("", "", "", false)
def tyJ3 : Nat → FieldType := fun k => match k with
  | _ => .int
theorem nmJ3 : ∀ a, a < 0 → ∀ b, b < 0 → a ≠ b → (TJ3 a).2.1 ≠ (TJ3 b).2.1 := by decide +kernel
theorem tyJ3_ok : ∀ k, k < 0 → parseFieldDescriptor (TJ3 k).2.2.1 = some (tyJ3 k) := by decide +kernel
abbrev cJ3_checkIndex_8e157 : ByteArray := prog_15_method_11_code
def yJ3_checkIndex_8e157 : MethodName := ⟨RJ3, "checkIndex", "(IILjava/util/function/BiFunction;)I"⟩
def RL : String := "SnailLawsLaw"
abbrev cL_law : ByteArray := code
def yL_law : MethodName := ⟨RL, "law", "([I)Z"⟩
abbrev vwCl : List vw_C := [(RX0, TX0, 2), (RX1, TX1, 17), (RX2, TX2, 3), (RX3, TX3, 7), (RX4, TX4, 5), (RX5, TX5, 8), (RX6, TX6, 22)]
/-- the words that hold in every later state of the launch -/
def gtb : List Cond := lw_tbl.filter goodWord
theorem gm {w : Cond} (h : w ∈ lw_tbl) (g : goodWord w = true) : w ∈ gtb := List.mem_filter.mpr ⟨h, g⟩
theorem gtb_sub {w : Cond} (h : w ∈ gtb) : w ∈ lw_tbl := (List.mem_filter.mp h).1
theorem gtb_good {w : Cond} (h : w ∈ gtb) : goodWord w = true := (List.mem_filter.mp h).2
theorem tb0 {w : Cond} (h : w ∈ k2_sels lw_privs) : w ∈ lw_tbl := List.mem_append_left _ h
theorem tb1 {w : Cond} (h : w ∈ tables_1_1) : w ∈ lw_tbl := List.mem_append_right _ (List.mem_append_left _ h)
theorem tb2 {w : Cond} (h : w ∈ tables_1_2) : w ∈ lw_tbl := List.mem_append_right _ (List.mem_append_right _ (List.mem_append_left _ h))
theorem tb3 {w : Cond} (h : w ∈ tables_1_3) : w ∈ lw_tbl := List.mem_append_right _ (List.mem_append_right _ (List.mem_append_right _ (List.mem_append_left _ h)))
theorem tb4 {w : Cond} (h : w ∈ tables_1_4) : w ∈ lw_tbl := List.mem_append_right _ (List.mem_append_right _ (List.mem_append_right _ (List.mem_append_right _ (List.mem_append_left _ h))))
theorem tb5 {w : Cond} (h : w ∈ tables_1_5) : w ∈ lw_tbl := List.mem_append_right _ (List.mem_append_right _ (List.mem_append_right _ (List.mem_append_right _ (List.mem_append_right _ (List.mem_append_left _ h)))))
theorem tb6 {w : Cond} (h : w ∈ tables_1_6) : w ∈ lw_tbl := List.mem_append_right _ (List.mem_append_right _ (List.mem_append_right _ (List.mem_append_right _ (List.mem_append_right _ (List.mem_append_right _ (h))))))
theorem kD_L : Cond.initialized RL ∈ gtb := gm (tb1 (List.mem_of_getElem? (i := 0) (by decide +kernel))) rfl
theorem kD_X5 : Cond.initialized RX5 ∈ gtb := gm (tb1 (List.mem_of_getElem? (i := 1) (by decide +kernel))) rfl
theorem kD_X1 : Cond.initialized RX1 ∈ gtb := gm (tb1 (List.mem_of_getElem? (i := 2) (by decide +kernel))) rfl
theorem kD_J7 : Cond.initialized RJ7 ∈ gtb := gm (tb1 (List.mem_of_getElem? (i := 3) (by decide +kernel))) rfl
theorem kD_X0 : Cond.initialized RX0 ∈ gtb := gm (tb1 (List.mem_of_getElem? (i := 4) (by decide +kernel))) rfl
theorem kD_X4 : Cond.initialized RX4 ∈ gtb := gm (tb1 (List.mem_of_getElem? (i := 5) (by decide +kernel))) rfl
theorem kD_X3 : Cond.initialized RX3 ∈ gtb := gm (tb1 (List.mem_of_getElem? (i := 6) (by decide +kernel))) rfl
theorem kD_X2 : Cond.initialized RX2 ∈ gtb := gm (tb1 (List.mem_of_getElem? (i := 7) (by decide +kernel))) rfl
theorem kD_X6 : Cond.initialized RX6 ∈ gtb := gm (tb1 (List.mem_of_getElem? (i := 8) (by decide +kernel))) rfl
theorem kD_J9 : Cond.initialized RJ9 ∈ gtb := gm (tb1 (List.mem_of_getElem? (i := 9) (by decide +kernel))) rfl
theorem kD_J10 : Cond.initialized RJ10 ∈ gtb := gm (tb1 (List.mem_of_getElem? (i := 10) (by decide +kernel))) rfl
theorem kD_J0 : Cond.initialized RJ0 ∈ gtb := gm (tb1 (List.mem_of_getElem? (i := 11) (by decide +kernel))) rfl
theorem kD_J1 : Cond.initialized RJ1 ∈ gtb := gm (tb1 (List.mem_of_getElem? (i := 12) (by decide +kernel))) rfl
theorem kD_J3 : Cond.initialized RJ3 ∈ gtb := gm (tb1 (List.mem_of_getElem? (i := 13) (by decide +kernel))) rfl
theorem kD_J2 : Cond.initialized RJ2 ∈ gtb := gm (tb1 (List.mem_of_getElem? (i := 14) (by decide +kernel))) rfl
theorem kB_L_7 : Cond.classLink RL 7 RX5 ∈ gtb := gm (tb1 (List.mem_of_getElem? (i := 15) (by decide +kernel))) rfl
theorem kO_X5 : Cond.instantiable RX5 8 ∈ gtb := gm (tb1 (List.mem_of_getElem? (i := 16) (by decide +kernel))) rfl
theorem kL_L_9 : Cond.methodLink RL 9 yX5_init ∈ gtb := gm (tb1 (List.mem_of_getElem? (i := 17) (by decide +kernel))) rfl
theorem kI_X5_init : Cond.instanceMethod yX5_init ∈ gtb := gm (tb1 (List.mem_of_getElem? (i := 18) (by decide +kernel))) rfl
theorem kC_X5_init : Cond.code yX5_init cX5_init 1 none ∈ gtb := gm (tb1 (List.mem_of_getElem? (i := 19) rfl)) rfl
theorem kL_X5_3 : Cond.methodLink RX5 3 (⟨"java/lang/Object", "<init>", "()V"⟩ : MethodName) ∈ gtb := gm (tb1 (List.mem_of_getElem? (i := 20) (by decide +kernel))) rfl
theorem kI_oi : Cond.instanceMethod objectInit ∈ gtb := gm (tb1 (List.mem_of_getElem? (i := 21) (by decide +kernel))) rfl
theorem kI_java_lang_Object__init____V : Cond.instanceMethod (⟨"java/lang/Object", "<init>", "()V"⟩ : MethodName) ∈ gtb := gm (tb1 (List.mem_of_getElem? (i := 21) (by decide +kernel))) rfl
theorem kC_oi : Cond.code objectInit object_method_1_code 1 none ∈ gtb := gm (tb1 (List.mem_of_getElem? (i := 22) rfl)) rfl
theorem kB_X5_9 : Cond.classLink RX5 9 RX1 ∈ gtb := gm (tb1 (List.mem_of_getElem? (i := 23) (by decide +kernel))) rfl
theorem kO_X1 : Cond.instantiable RX1 17 ∈ gtb := gm (tb1 (List.mem_of_getElem? (i := 24) (by decide +kernel))) rfl
theorem kL_X5_11 : Cond.methodLink RX5 11 yX1_init ∈ gtb := gm (tb1 (List.mem_of_getElem? (i := 25) (by decide +kernel))) rfl
theorem kI_X1_init : Cond.instanceMethod yX1_init ∈ gtb := gm (tb1 (List.mem_of_getElem? (i := 26) (by decide +kernel))) rfl
theorem kC_X1_init : Cond.code yX1_init cX1_init 1 none ∈ gtb := gm (tb1 (List.mem_of_getElem? (i := 27) rfl)) rfl
theorem kL_X1_3 : Cond.methodLink RX1 3 (⟨"java/lang/Object", "<init>", "()V"⟩ : MethodName) ∈ gtb := gm (tb1 (List.mem_of_getElem? (i := 28) (by decide +kernel))) rfl
theorem kL_X1_64 : Cond.methodLink RX1 64 yJ7_fill_53178 ∈ gtb := gm (tb1 (List.mem_of_getElem? (i := 29) (by decide +kernel))) rfl
theorem kS_J7_fill_53178 : Cond.static yJ7_fill_53178 ∈ gtb := gm (tb1 (List.mem_of_getElem? (i := 30) (by decide +kernel))) rfl
theorem kC_J7_fill_53178 : Cond.code yJ7_fill_53178 cJ7_fill_53178 4 none ∈ gtb := gm (tb1 (List.mem_of_getElem? (i := 31) rfl)) rfl
theorem kF_X1_9 : Cond.fieldLink RX1 9 RX1 "hedges" "[I" ∈ gtb := gm (tb1 (List.mem_of_getElem? (i := 32) (by decide +kernel))) rfl
theorem kF_X4_28 : Cond.fieldLink RX4 28 RX1 "hedges" "[I" ∈ gtb := gm (tb1 (List.mem_of_getElem? (i := 33) (by decide +kernel))) rfl
theorem kF_X5_68 : Cond.fieldLink RX5 68 RX1 "hedges" "[I" ∈ gtb := gm (tb1 (List.mem_of_getElem? (i := 34) (by decide +kernel))) rfl
theorem kF_X3_142 : Cond.fieldLink RX3 142 RX1 "hedges" "[I" ∈ gtb := gm (tb1 (List.mem_of_getElem? (i := 35) (by decide +kernel))) rfl
theorem kF_X1_15 : Cond.fieldLink RX1 15 RX1 "leaves" "[I" ∈ gtb := gm (tb1 (List.mem_of_getElem? (i := 36) (by decide +kernel))) rfl
theorem kF_X5_71 : Cond.fieldLink RX5 71 RX1 "leaves" "[I" ∈ gtb := gm (tb1 (List.mem_of_getElem? (i := 37) (by decide +kernel))) rfl
theorem kF_X3_145 : Cond.fieldLink RX3 145 RX1 "leaves" "[I" ∈ gtb := gm (tb1 (List.mem_of_getElem? (i := 38) (by decide +kernel))) rfl
theorem kF_X1_18 : Cond.fieldLink RX1 18 RX1 "laws" "[I" ∈ gtb := gm (tb1 (List.mem_of_getElem? (i := 39) (by decide +kernel))) rfl
theorem kF_X5_74 : Cond.fieldLink RX5 74 RX1 "laws" "[I" ∈ gtb := gm (tb1 (List.mem_of_getElem? (i := 40) (by decide +kernel))) rfl
theorem kF_X0_41 : Cond.fieldLink RX0 41 RX1 "laws" "[I" ∈ gtb := gm (tb1 (List.mem_of_getElem? (i := 41) (by decide +kernel))) rfl
theorem kF_X1_21 : Cond.fieldLink RX1 21 RX1 "met" "[I" ∈ gtb := gm (tb1 (List.mem_of_getElem? (i := 42) (by decide +kernel))) rfl
theorem kF_X0_65 : Cond.fieldLink RX0 65 RX1 "met" "[I" ∈ gtb := gm (tb1 (List.mem_of_getElem? (i := 43) (by decide +kernel))) rfl
theorem kF_X1_24 : Cond.fieldLink RX1 24 RX1 "banned" "[I" ∈ gtb := gm (tb1 (List.mem_of_getElem? (i := 44) (by decide +kernel))) rfl
theorem kF_X5_115 : Cond.fieldLink RX5 115 RX1 "banned" "[I" ∈ gtb := gm (tb1 (List.mem_of_getElem? (i := 45) (by decide +kernel))) rfl
theorem kF_X3_148 : Cond.fieldLink RX3 148 RX1 "banned" "[I" ∈ gtb := gm (tb1 (List.mem_of_getElem? (i := 46) (by decide +kernel))) rfl
theorem kF_X1_27 : Cond.fieldLink RX1 27 RX1 "kinds" "[I" ∈ gtb := gm (tb1 (List.mem_of_getElem? (i := 47) (by decide +kernel))) rfl
theorem kF_X0_48 : Cond.fieldLink RX0 48 RX1 "kinds" "[I" ∈ gtb := gm (tb1 (List.mem_of_getElem? (i := 48) (by decide +kernel))) rfl
theorem kF_X5_184 : Cond.fieldLink RX5 184 RX1 "kinds" "[I" ∈ gtb := gm (tb1 (List.mem_of_getElem? (i := 49) (by decide +kernel))) rfl
theorem kF_X1_30 : Cond.fieldLink RX1 30 RX1 "ats" "[I" ∈ gtb := gm (tb1 (List.mem_of_getElem? (i := 50) (by decide +kernel))) rfl
theorem kF_X0_51 : Cond.fieldLink RX0 51 RX1 "ats" "[I" ∈ gtb := gm (tb1 (List.mem_of_getElem? (i := 51) (by decide +kernel))) rfl
theorem kF_X5_102 : Cond.fieldLink RX5 102 RX1 "ats" "[I" ∈ gtb := gm (tb1 (List.mem_of_getElem? (i := 52) (by decide +kernel))) rfl
theorem kF_X3_127 : Cond.fieldLink RX3 127 RX1 "ats" "[I" ∈ gtb := gm (tb1 (List.mem_of_getElem? (i := 53) (by decide +kernel))) rfl
theorem kF_X1_33 : Cond.fieldLink RX1 33 RX1 "edicts" "[I" ∈ gtb := gm (tb1 (List.mem_of_getElem? (i := 54) (by decide +kernel))) rfl
theorem kF_X3_130 : Cond.fieldLink RX3 130 RX1 "edicts" "[I" ∈ gtb := gm (tb1 (List.mem_of_getElem? (i := 55) (by decide +kernel))) rfl
theorem kF_X0_94 : Cond.fieldLink RX0 94 RX1 "edicts" "[I" ∈ gtb := gm (tb1 (List.mem_of_getElem? (i := 56) (by decide +kernel))) rfl
theorem kF_X1_36 : Cond.fieldLink RX1 36 RX1 "gates" "[I" ∈ gtb := gm (tb1 (List.mem_of_getElem? (i := 57) (by decide +kernel))) rfl
theorem kF_X4_58 : Cond.fieldLink RX4 58 RX1 "gates" "[I" ∈ gtb := gm (tb1 (List.mem_of_getElem? (i := 58) (by decide +kernel))) rfl
theorem kF_X0_54 : Cond.fieldLink RX0 54 RX1 "gates" "[I" ∈ gtb := gm (tb1 (List.mem_of_getElem? (i := 59) (by decide +kernel))) rfl
theorem kF_X5_99 : Cond.fieldLink RX5 99 RX1 "gates" "[I" ∈ gtb := gm (tb1 (List.mem_of_getElem? (i := 60) (by decide +kernel))) rfl
theorem kF_X3_133 : Cond.fieldLink RX3 133 RX1 "gates" "[I" ∈ gtb := gm (tb1 (List.mem_of_getElem? (i := 61) (by decide +kernel))) rfl
theorem kF_X1_39 : Cond.fieldLink RX1 39 RX1 "prices" "[I" ∈ gtb := gm (tb1 (List.mem_of_getElem? (i := 62) (by decide +kernel))) rfl
theorem kF_X3_136 : Cond.fieldLink RX3 136 RX1 "prices" "[I" ∈ gtb := gm (tb1 (List.mem_of_getElem? (i := 63) (by decide +kernel))) rfl
theorem kF_X1_42 : Cond.fieldLink RX1 42 RX1 "spots" "[I" ∈ gtb := gm (tb1 (List.mem_of_getElem? (i := 64) (by decide +kernel))) rfl
theorem kF_X5_244 : Cond.fieldLink RX5 244 RX1 "spots" "[I" ∈ gtb := gm (tb1 (List.mem_of_getElem? (i := 65) (by decide +kernel))) rfl
theorem kF_X1_45 : Cond.fieldLink RX1 45 RX1 "snails" "I" ∈ gtb := gm (tb1 (List.mem_of_getElem? (i := 66) (by decide +kernel))) rfl
theorem kF_X4_54 : Cond.fieldLink RX4 54 RX1 "snails" "I" ∈ gtb := gm (tb1 (List.mem_of_getElem? (i := 67) (by decide +kernel))) rfl
theorem kF_X0_79 : Cond.fieldLink RX0 79 RX1 "snails" "I" ∈ gtb := gm (tb1 (List.mem_of_getElem? (i := 68) (by decide +kernel))) rfl
theorem kF_X5_289 : Cond.fieldLink RX5 289 RX1 "snails" "I" ∈ gtb := gm (tb1 (List.mem_of_getElem? (i := 69) (by decide +kernel))) rfl
theorem kF_X1_49 : Cond.fieldLink RX1 49 RX1 "wet" "I" ∈ gtb := gm (tb1 (List.mem_of_getElem? (i := 70) (by decide +kernel))) rfl
theorem kF_X0_37 : Cond.fieldLink RX0 37 RX1 "wet" "I" ∈ gtb := gm (tb1 (List.mem_of_getElem? (i := 71) (by decide +kernel))) rfl
theorem kF_X5_118 : Cond.fieldLink RX5 118 RX1 "wet" "I" ∈ gtb := gm (tb1 (List.mem_of_getElem? (i := 72) (by decide +kernel))) rfl
theorem kF_X3_151 : Cond.fieldLink RX3 151 RX1 "wet" "I" ∈ gtb := gm (tb1 (List.mem_of_getElem? (i := 73) (by decide +kernel))) rfl
theorem kF_X1_52 : Cond.fieldLink RX1 52 RX1 "thrush" "I" ∈ gtb := gm (tb1 (List.mem_of_getElem? (i := 74) (by decide +kernel))) rfl
theorem kF_X5_122 : Cond.fieldLink RX5 122 RX1 "thrush" "I" ∈ gtb := gm (tb1 (List.mem_of_getElem? (i := 75) (by decide +kernel))) rfl
theorem kF_X3_153 : Cond.fieldLink RX3 153 RX1 "thrush" "I" ∈ gtb := gm (tb1 (List.mem_of_getElem? (i := 76) (by decide +kernel))) rfl
theorem kF_X1_55 : Cond.fieldLink RX1 55 RX1 "day" "I" ∈ gtb := gm (tb1 (List.mem_of_getElem? (i := 77) (by decide +kernel))) rfl
theorem kF_X5_125 : Cond.fieldLink RX5 125 RX1 "day" "I" ∈ gtb := gm (tb1 (List.mem_of_getElem? (i := 78) (by decide +kernel))) rfl
theorem kF_X1_58 : Cond.fieldLink RX1 58 RX1 "clashes" "I" ∈ gtb := gm (tb1 (List.mem_of_getElem? (i := 79) (by decide +kernel))) rfl
theorem kF_X5_137 : Cond.fieldLink RX5 137 RX1 "clashes" "I" ∈ gtb := gm (tb1 (List.mem_of_getElem? (i := 80) (by decide +kernel))) rfl
theorem kF_X1_61 : Cond.fieldLink RX1 61 RX1 "z" "I" ∈ gtb := gm (tb1 (List.mem_of_getElem? (i := 81) (by decide +kernel))) rfl
theorem kF_X5_221 : Cond.fieldLink RX5 221 RX1 "z" "I" ∈ gtb := gm (tb1 (List.mem_of_getElem? (i := 82) (by decide +kernel))) rfl
theorem kY_X1_hedges : Cond.laysFinal RX1 "SnailLaws$Republic" "hedges" "[I" ∈ gtb := gm (tb1 (List.mem_of_getElem? (i := 83) (by decide +kernel))) rfl
theorem kY_X1_leaves : Cond.laysFinal RX1 "SnailLaws$Republic" "leaves" "[I" ∈ gtb := gm (tb1 (List.mem_of_getElem? (i := 85) (by decide +kernel))) rfl
theorem kY_X1_laws : Cond.laysFinal RX1 "SnailLaws$Republic" "laws" "[I" ∈ gtb := gm (tb1 (List.mem_of_getElem? (i := 87) (by decide +kernel))) rfl
theorem kY_X1_met : Cond.laysFinal RX1 "SnailLaws$Republic" "met" "[I" ∈ gtb := gm (tb1 (List.mem_of_getElem? (i := 89) (by decide +kernel))) rfl
theorem kY_X1_banned : Cond.laysFinal RX1 "SnailLaws$Republic" "banned" "[I" ∈ gtb := gm (tb1 (List.mem_of_getElem? (i := 91) (by decide +kernel))) rfl
theorem kY_X1_kinds : Cond.laysFinal RX1 "SnailLaws$Republic" "kinds" "[I" ∈ gtb := gm (tb1 (List.mem_of_getElem? (i := 93) (by decide +kernel))) rfl
theorem kY_X1_ats : Cond.laysFinal RX1 "SnailLaws$Republic" "ats" "[I" ∈ gtb := gm (tb1 (List.mem_of_getElem? (i := 95) (by decide +kernel))) rfl
theorem kY_X1_edicts : Cond.laysFinal RX1 "SnailLaws$Republic" "edicts" "[I" ∈ gtb := gm (tb1 (List.mem_of_getElem? (i := 97) (by decide +kernel))) rfl
theorem kY_X1_gates : Cond.laysFinal RX1 "SnailLaws$Republic" "gates" "[I" ∈ gtb := gm (tb1 (List.mem_of_getElem? (i := 99) (by decide +kernel))) rfl
theorem kY_X1_prices : Cond.laysFinal RX1 "SnailLaws$Republic" "prices" "[I" ∈ gtb := gm (tb1 (List.mem_of_getElem? (i := 101) (by decide +kernel))) rfl
theorem kY_X1_spots : Cond.laysFinal RX1 "SnailLaws$Republic" "spots" "[I" ∈ gtb := gm (tb1 (List.mem_of_getElem? (i := 103) (by decide +kernel))) rfl
theorem kY_X1_snails : Cond.lays RX1 "SnailLaws$Republic" "snails" "I" ∈ gtb := gm (tb1 (List.mem_of_getElem? (i := 105) (by decide +kernel))) rfl
theorem kY_X1_wet : Cond.lays RX1 "SnailLaws$Republic" "wet" "I" ∈ gtb := gm (tb1 (List.mem_of_getElem? (i := 107) (by decide +kernel))) rfl
theorem kY_X1_thrush : Cond.lays RX1 "SnailLaws$Republic" "thrush" "I" ∈ gtb := gm (tb1 (List.mem_of_getElem? (i := 109) (by decide +kernel))) rfl
theorem kY_X1_day : Cond.lays RX1 "SnailLaws$Republic" "day" "I" ∈ gtb := gm (tb1 (List.mem_of_getElem? (i := 111) (by decide +kernel))) rfl
theorem kY_X1_clashes : Cond.lays RX1 "SnailLaws$Republic" "clashes" "I" ∈ gtb := gm (tb1 (List.mem_of_getElem? (i := 113) (by decide +kernel))) rfl
theorem kY_X1_z : Cond.lays RX1 "SnailLaws$Republic" "z" "I" ∈ gtb := gm (tb1 (List.mem_of_getElem? (i := 115) (by decide +kernel))) rfl
theorem kA_int : Cond.arrayClass .int ∈ gtb := gm (tb1 (List.mem_of_getElem? (i := 118) (by decide +kernel))) rfl
theorem kB_X5_19 : Cond.classLink RX5 19 RX0 ∈ gtb := gm (tb1 (List.mem_of_getElem? (i := 119) (by decide +kernel))) rfl
theorem kO_X0 : Cond.instantiable RX0 2 ∈ gtb := gm (tb1 (List.mem_of_getElem? (i := 120) (by decide +kernel))) rfl
theorem kN_X5_21 : Cond.methodLinkNest RX5 21 yX0_init "SnailLaws" ∈ lw_tbl := tb1 (List.mem_of_getElem? (i := 121) (by decide +kernel))
theorem kI_X0_init : Cond.instanceMethod yX0_init ∈ gtb := gm (tb1 (List.mem_of_getElem? (i := 122) (by decide +kernel))) rfl
theorem kC_X0_init : Cond.code yX0_init cX0_init 1 none ∈ gtb := gm (tb1 (List.mem_of_getElem? (i := 123) rfl)) rfl
theorem kL_X0_3 : Cond.methodLink RX0 3 (⟨"java/lang/Object", "<init>", "()V"⟩ : MethodName) ∈ gtb := gm (tb1 (List.mem_of_getElem? (i := 124) (by decide +kernel))) rfl
theorem kB_X0_9 : Cond.classLink RX0 9 RX1 ∈ gtb := gm (tb1 (List.mem_of_getElem? (i := 125) (by decide +kernel))) rfl
theorem kL_X0_11 : Cond.methodLink RX0 11 yX1_init ∈ gtb := gm (tb1 (List.mem_of_getElem? (i := 126) (by decide +kernel))) rfl
theorem kB_X0_18 : Cond.classLink RX0 18 RX4 ∈ gtb := gm (tb1 (List.mem_of_getElem? (i := 127) (by decide +kernel))) rfl
theorem kO_X4 : Cond.instantiable RX4 5 ∈ gtb := gm (tb1 (List.mem_of_getElem? (i := 128) (by decide +kernel))) rfl
theorem kN_X0_20 : Cond.methodLinkNest RX0 20 yX4_init "SnailLaws" ∈ lw_tbl := tb1 (List.mem_of_getElem? (i := 129) (by decide +kernel))
theorem kI_X4_init : Cond.instanceMethod yX4_init ∈ gtb := gm (tb1 (List.mem_of_getElem? (i := 130) (by decide +kernel))) rfl
theorem kC_X4_init : Cond.code yX4_init cX4_init 1 none ∈ gtb := gm (tb1 (List.mem_of_getElem? (i := 131) rfl)) rfl
theorem kL_X4_3 : Cond.methodLink RX4 3 (⟨"java/lang/Object", "<init>", "()V"⟩ : MethodName) ∈ gtb := gm (tb1 (List.mem_of_getElem? (i := 132) (by decide +kernel))) rfl
theorem kF_X4_9 : Cond.fieldLink RX4 9 RX4 "steps" "[I" ∈ gtb := gm (tb1 (List.mem_of_getElem? (i := 133) (by decide +kernel))) rfl
theorem kF_X5_85 : Cond.fieldLink RX5 85 RX4 "steps" "[I" ∈ gtb := gm (tb1 (List.mem_of_getElem? (i := 134) (by decide +kernel))) rfl
theorem kF_X4_15 : Cond.fieldLink RX4 15 RX4 "open" "[Z" ∈ gtb := gm (tb1 (List.mem_of_getElem? (i := 135) (by decide +kernel))) rfl
theorem kF_X4_19 : Cond.fieldLink RX4 19 RX4 "queue" "[I" ∈ gtb := gm (tb1 (List.mem_of_getElem? (i := 136) (by decide +kernel))) rfl
theorem kF_X4_22 : Cond.fieldLink RX4 22 RX4 "gateSteps" "[I" ∈ gtb := gm (tb1 (List.mem_of_getElem? (i := 137) (by decide +kernel))) rfl
theorem kF_X4_25 : Cond.fieldLink RX4 25 RX4 "nextCells" "[I" ∈ gtb := gm (tb1 (List.mem_of_getElem? (i := 138) (by decide +kernel))) rfl
theorem kY_X4_steps : Cond.laysFinal RX4 "SnailLaws$Ways" "steps" "[I" ∈ gtb := gm (tb1 (List.mem_of_getElem? (i := 139) (by decide +kernel))) rfl
theorem kY_X4_open : Cond.laysFinal RX4 "SnailLaws$Ways" "open" "[Z" ∈ gtb := gm (tb1 (List.mem_of_getElem? (i := 141) (by decide +kernel))) rfl
theorem kY_X4_queue : Cond.laysFinal RX4 "SnailLaws$Ways" "queue" "[I" ∈ gtb := gm (tb1 (List.mem_of_getElem? (i := 143) (by decide +kernel))) rfl
theorem kY_X4_gateSteps : Cond.laysFinal RX4 "SnailLaws$Ways" "gateSteps" "[I" ∈ gtb := gm (tb1 (List.mem_of_getElem? (i := 145) (by decide +kernel))) rfl
theorem kY_X4_nextCells : Cond.laysFinal RX4 "SnailLaws$Ways" "nextCells" "[I" ∈ gtb := gm (tb1 (List.mem_of_getElem? (i := 147) (by decide +kernel))) rfl
theorem kA_boolean : Cond.arrayClass .boolean ∈ gtb := gm (tb1 (List.mem_of_getElem? (i := 150) (by decide +kernel))) rfl
theorem kF_X0_12 : Cond.fieldLink RX0 12 RX0 "draft" "LSnailLaws$Republic;" ∈ gtb := gm (tb1 (List.mem_of_getElem? (i := 151) (by decide +kernel))) rfl
theorem kF_X5_238 : Cond.fieldLink RX5 238 RX0 "draft" "LSnailLaws$Republic;" ∈ gtb := gm (tb1 (List.mem_of_getElem? (i := 152) (by decide +kernel))) rfl
theorem kF_X0_21 : Cond.fieldLink RX0 21 RX0 "ways" "LSnailLaws$Ways;" ∈ gtb := gm (tb1 (List.mem_of_getElem? (i := 153) (by decide +kernel))) rfl
theorem kY_X0_draft : Cond.laysFinal RX0 "SnailLaws$Forecast" "draft" "LSnailLaws$Republic;" ∈ gtb := gm (tb1 (List.mem_of_getElem? (i := 154) (by decide +kernel))) rfl
theorem kY_X0_ways : Cond.laysFinal RX0 "SnailLaws$Forecast" "ways" "LSnailLaws$Ways;" ∈ gtb := gm (tb1 (List.mem_of_getElem? (i := 156) (by decide +kernel))) rfl
theorem kB_X5_26 : Cond.classLink RX5 26 RX4 ∈ gtb := gm (tb1 (List.mem_of_getElem? (i := 159) (by decide +kernel))) rfl
theorem kN_X5_28 : Cond.methodLinkNest RX5 28 yX4_init "SnailLaws" ∈ lw_tbl := tb1 (List.mem_of_getElem? (i := 160) (by decide +kernel))
theorem kB_X5_33 : Cond.classLink RX5 33 RX3 ∈ gtb := gm (tb1 (List.mem_of_getElem? (i := 161) (by decide +kernel))) rfl
theorem kO_X3 : Cond.instantiable RX3 7 ∈ gtb := gm (tb1 (List.mem_of_getElem? (i := 162) (by decide +kernel))) rfl
theorem kN_X5_35 : Cond.methodLinkNest RX5 35 yX3_init "SnailLaws" ∈ lw_tbl := tb1 (List.mem_of_getElem? (i := 163) (by decide +kernel))
theorem kI_X3_init : Cond.instanceMethod yX3_init ∈ gtb := gm (tb1 (List.mem_of_getElem? (i := 164) (by decide +kernel))) rfl
theorem kC_X3_init : Cond.code yX3_init cX3_init 1 none ∈ gtb := gm (tb1 (List.mem_of_getElem? (i := 165) rfl)) rfl
theorem kL_X3_3 : Cond.methodLink RX3 3 (⟨"java/lang/Object", "<init>", "()V"⟩ : MethodName) ∈ gtb := gm (tb1 (List.mem_of_getElem? (i := 166) (by decide +kernel))) rfl
theorem kF_X3_9 : Cond.fieldLink RX3 9 RX3 "size" "I" ∈ gtb := gm (tb1 (List.mem_of_getElem? (i := 167) (by decide +kernel))) rfl
theorem kF_X5_227 : Cond.fieldLink RX5 227 RX3 "size" "I" ∈ gtb := gm (tb1 (List.mem_of_getElem? (i := 168) (by decide +kernel))) rfl
theorem kF_X3_15 : Cond.fieldLink RX3 15 RX3 "bytes" "[I" ∈ gtb := gm (tb1 (List.mem_of_getElem? (i := 169) (by decide +kernel))) rfl
theorem kF_X3_19 : Cond.fieldLink RX3 19 RX3 "sorts" "[I" ∈ gtb := gm (tb1 (List.mem_of_getElem? (i := 170) (by decide +kernel))) rfl
theorem kF_X3_22 : Cond.fieldLink RX3 22 RX3 "starts" "[I" ∈ gtb := gm (tb1 (List.mem_of_getElem? (i := 171) (by decide +kernel))) rfl
theorem kF_X3_25 : Cond.fieldLink RX3 25 RX3 "ends" "[I" ∈ gtb := gm (tb1 (List.mem_of_getElem? (i := 172) (by decide +kernel))) rfl
theorem kF_X3_28 : Cond.fieldLink RX3 28 RX3 "values" "[I" ∈ gtb := gm (tb1 (List.mem_of_getElem? (i := 173) (by decide +kernel))) rfl
theorem kF_X3_31 : Cond.fieldLink RX3 31 RX3 "at" "I" ∈ gtb := gm (tb1 (List.mem_of_getElem? (i := 174) (by decide +kernel))) rfl
theorem kY_X3_size : Cond.lays RX3 "SnailLaws$Tape" "size" "I" ∈ gtb := gm (tb1 (List.mem_of_getElem? (i := 175) (by decide +kernel))) rfl
theorem kY_X3_bytes : Cond.laysFinal RX3 "SnailLaws$Tape" "bytes" "[I" ∈ gtb := gm (tb1 (List.mem_of_getElem? (i := 177) (by decide +kernel))) rfl
theorem kY_X3_sorts : Cond.laysFinal RX3 "SnailLaws$Tape" "sorts" "[I" ∈ gtb := gm (tb1 (List.mem_of_getElem? (i := 179) (by decide +kernel))) rfl
theorem kY_X3_starts : Cond.laysFinal RX3 "SnailLaws$Tape" "starts" "[I" ∈ gtb := gm (tb1 (List.mem_of_getElem? (i := 181) (by decide +kernel))) rfl
theorem kY_X3_ends : Cond.laysFinal RX3 "SnailLaws$Tape" "ends" "[I" ∈ gtb := gm (tb1 (List.mem_of_getElem? (i := 183) (by decide +kernel))) rfl
theorem kY_X3_values : Cond.laysFinal RX3 "SnailLaws$Tape" "values" "[I" ∈ gtb := gm (tb1 (List.mem_of_getElem? (i := 185) (by decide +kernel))) rfl
theorem kY_X3_at : Cond.lays RX3 "SnailLaws$Tape" "at" "I" ∈ gtb := gm (tb1 (List.mem_of_getElem? (i := 187) (by decide +kernel))) rfl
theorem kB_X5_40 : Cond.classLink RX5 40 RX2 ∈ gtb := gm (tb1 (List.mem_of_getElem? (i := 190) (by decide +kernel))) rfl
theorem kO_X2 : Cond.instantiable RX2 3 ∈ gtb := gm (tb1 (List.mem_of_getElem? (i := 191) (by decide +kernel))) rfl
theorem kN_X5_42 : Cond.methodLinkNest RX5 42 yX2_init "SnailLaws" ∈ lw_tbl := tb1 (List.mem_of_getElem? (i := 192) (by decide +kernel))
theorem kI_X2_init : Cond.instanceMethod yX2_init ∈ gtb := gm (tb1 (List.mem_of_getElem? (i := 193) (by decide +kernel))) rfl
theorem kC_X2_init : Cond.code yX2_init cX2_init 1 none ∈ gtb := gm (tb1 (List.mem_of_getElem? (i := 194) rfl)) rfl
theorem kL_X2_3 : Cond.methodLink RX2 3 (⟨"java/lang/Object", "<init>", "()V"⟩ : MethodName) ∈ gtb := gm (tb1 (List.mem_of_getElem? (i := 195) (by decide +kernel))) rfl
theorem kF_X2_9 : Cond.fieldLink RX2 9 RX2 "bits" "[I" ∈ gtb := gm (tb1 (List.mem_of_getElem? (i := 196) (by decide +kernel))) rfl
theorem kF_X5_275 : Cond.fieldLink RX5 275 RX2 "bits" "[I" ∈ gtb := gm (tb1 (List.mem_of_getElem? (i := 197) (by decide +kernel))) rfl
theorem kF_X2_15 : Cond.fieldLink RX2 15 RX2 "sizes" "[I" ∈ gtb := gm (tb1 (List.mem_of_getElem? (i := 198) (by decide +kernel))) rfl
theorem kF_X0_101 : Cond.fieldLink RX0 101 RX2 "sizes" "[I" ∈ gtb := gm (tb1 (List.mem_of_getElem? (i := 199) (by decide +kernel))) rfl
theorem kF_X5_263 : Cond.fieldLink RX5 263 RX2 "sizes" "[I" ∈ gtb := gm (tb1 (List.mem_of_getElem? (i := 200) (by decide +kernel))) rfl
theorem kF_X2_18 : Cond.fieldLink RX2 18 RX2 "numbers" "[I" ∈ gtb := gm (tb1 (List.mem_of_getElem? (i := 201) (by decide +kernel))) rfl
theorem kY_X2_bits : Cond.laysFinal RX2 "SnailLaws$Sheets" "bits" "[I" ∈ gtb := gm (tb1 (List.mem_of_getElem? (i := 202) (by decide +kernel))) rfl
theorem kY_X2_sizes : Cond.laysFinal RX2 "SnailLaws$Sheets" "sizes" "[I" ∈ gtb := gm (tb1 (List.mem_of_getElem? (i := 204) (by decide +kernel))) rfl
theorem kY_X2_numbers : Cond.laysFinal RX2 "SnailLaws$Sheets" "numbers" "[I" ∈ gtb := gm (tb1 (List.mem_of_getElem? (i := 206) (by decide +kernel))) rfl
theorem kF_X5_12 : Cond.fieldLink RX5 12 RX5 "real" "LSnailLaws$Republic;" ∈ gtb := gm (tb1 (List.mem_of_getElem? (i := 209) (by decide +kernel))) rfl
theorem kF_X5_16 : Cond.fieldLink RX5 16 RX5 "kept" "LSnailLaws$Republic;" ∈ gtb := gm (tb1 (List.mem_of_getElem? (i := 210) (by decide +kernel))) rfl
theorem kF_X5_22 : Cond.fieldLink RX5 22 RX5 "forecast" "LSnailLaws$Forecast;" ∈ gtb := gm (tb1 (List.mem_of_getElem? (i := 211) (by decide +kernel))) rfl
theorem kF_X5_29 : Cond.fieldLink RX5 29 RX5 "ways" "LSnailLaws$Ways;" ∈ gtb := gm (tb1 (List.mem_of_getElem? (i := 212) (by decide +kernel))) rfl
theorem kF_X5_36 : Cond.fieldLink RX5 36 RX5 "tape" "LSnailLaws$Tape;" ∈ gtb := gm (tb1 (List.mem_of_getElem? (i := 213) (by decide +kernel))) rfl
theorem kF_X5_43 : Cond.fieldLink RX5 43 RX5 "sheets" "LSnailLaws$Sheets;" ∈ gtb := gm (tb1 (List.mem_of_getElem? (i := 214) (by decide +kernel))) rfl
theorem kF_X5_47 : Cond.fieldLink RX5 47 RX5 "told" "[I" ∈ gtb := gm (tb1 (List.mem_of_getElem? (i := 215) (by decide +kernel))) rfl
theorem kF_X5_51 : Cond.fieldLink RX5 51 RX5 "isKept" "Z" ∈ gtb := gm (tb1 (List.mem_of_getElem? (i := 216) (by decide +kernel))) rfl
theorem kY_X5_real : Cond.laysFinal RX5 "SnailLaws" "real" "LSnailLaws$Republic;" ∈ gtb := gm (tb1 (List.mem_of_getElem? (i := 217) (by decide +kernel))) rfl
theorem kY_X5_kept : Cond.laysFinal RX5 "SnailLaws" "kept" "LSnailLaws$Republic;" ∈ gtb := gm (tb1 (List.mem_of_getElem? (i := 219) (by decide +kernel))) rfl
theorem kY_X5_forecast : Cond.laysFinal RX5 "SnailLaws" "forecast" "LSnailLaws$Forecast;" ∈ gtb := gm (tb1 (List.mem_of_getElem? (i := 221) (by decide +kernel))) rfl
theorem kY_X5_ways : Cond.laysFinal RX5 "SnailLaws" "ways" "LSnailLaws$Ways;" ∈ gtb := gm (tb1 (List.mem_of_getElem? (i := 223) (by decide +kernel))) rfl
theorem kY_X5_tape : Cond.laysFinal RX5 "SnailLaws" "tape" "LSnailLaws$Tape;" ∈ gtb := gm (tb1 (List.mem_of_getElem? (i := 225) (by decide +kernel))) rfl
theorem kY_X5_sheets : Cond.laysFinal RX5 "SnailLaws" "sheets" "LSnailLaws$Sheets;" ∈ gtb := gm (tb1 (List.mem_of_getElem? (i := 227) (by decide +kernel))) rfl
theorem kY_X5_told : Cond.laysFinal RX5 "SnailLaws" "told" "[I" ∈ gtb := gm (tb1 (List.mem_of_getElem? (i := 229) (by decide +kernel))) rfl
theorem kY_X5_isKept : Cond.lays RX5 "SnailLaws" "isKept" "Z" ∈ gtb := gm (tb1 (List.mem_of_getElem? (i := 231) (by decide +kernel))) rfl
theorem kL_L_13 : Cond.methodLink RL 13 yX5_hedge ∈ gtb := gm (tb1 (List.mem_of_getElem? (i := 234) (by decide +kernel))) rfl
theorem kI_X5_hedge : Cond.instanceMethod yX5_hedge ∈ gtb := gm (tb1 (List.mem_of_getElem? (i := 235) (by decide +kernel))) rfl
theorem kV_X5_hedge : Cond.selects RX5 yX5_hedge yX5_hedge ∈ gtb := gm (tb1 (List.mem_of_getElem? (i := 236) (by decide +kernel))) rfl
theorem kC_X5_hedge : Cond.code yX5_hedge cX5_hedge 4 (some FieldType.int) ∈ gtb := gm (tb1 (List.mem_of_getElem? (i := 237) rfl)) rfl
theorem kL_X5_55 : Cond.methodLink RX5 55 yX5_isCell ∈ gtb := gm (tb1 (List.mem_of_getElem? (i := 238) (by decide +kernel))) rfl
theorem kS_X5_isCell : Cond.static yX5_isCell ∈ gtb := gm (tb1 (List.mem_of_getElem? (i := 239) (by decide +kernel))) rfl
theorem kC_X5_isCell : Cond.code yX5_isCell cX5_isCell 1 (some FieldType.boolean) ∈ gtb := gm (tb2 (List.mem_of_getElem? (i := 0) rfl)) rfl
theorem kL_X5_59 : Cond.methodLink RX5 59 yX5_isWithin ∈ gtb := gm (tb2 (List.mem_of_getElem? (i := 1) (by decide +kernel))) rfl
theorem kS_X5_isWithin : Cond.static yX5_isWithin ∈ gtb := gm (tb2 (List.mem_of_getElem? (i := 2) (by decide +kernel))) rfl
theorem kC_X5_isWithin : Cond.code yX5_isWithin cX5_isWithin 2 (some FieldType.boolean) ∈ gtb := gm (tb2 (List.mem_of_getElem? (i := 3) rfl)) rfl
theorem kK_X5_63 : Cond.constant RX5 63 (Int32.ofInt (-1000001)) ∈ gtb := gm (tb2 (List.mem_of_getElem? (i := 4) (by decide +kernel))) rfl
theorem kL_X5_64 : Cond.methodLink RX5 64 yX5_tell ∈ gtb := gm (tb2 (List.mem_of_getElem? (i := 5) (by decide +kernel))) rfl
theorem kI_X5_tell : Cond.instanceMethod yX5_tell ∈ gtb := gm (tb2 (List.mem_of_getElem? (i := 7) (by decide +kernel))) rfl
theorem kC_X5_tell : Cond.code yX5_tell cX5_tell 3 (some FieldType.int) ∈ gtb := gm (tb2 (List.mem_of_getElem? (i := 8) rfl)) rfl
theorem kL_L_18 : Cond.methodLink RL 18 yX5_greens ∈ gtb := gm (tb2 (List.mem_of_getElem? (i := 9) (by decide +kernel))) rfl
theorem kI_X5_greens : Cond.instanceMethod yX5_greens ∈ gtb := gm (tb2 (List.mem_of_getElem? (i := 10) (by decide +kernel))) rfl
theorem kV_X5_greens : Cond.selects RX5 yX5_greens yX5_greens ∈ gtb := gm (tb2 (List.mem_of_getElem? (i := 11) (by decide +kernel))) rfl
theorem kC_X5_greens : Cond.code yX5_greens cX5_greens 4 (some FieldType.int) ∈ gtb := gm (tb2 (List.mem_of_getElem? (i := 12) rfl)) rfl
theorem kL_L_22 : Cond.methodLink RL 22 yX5_land ∈ gtb := gm (tb2 (List.mem_of_getElem? (i := 13) (by decide +kernel))) rfl
theorem kI_X5_land : Cond.instanceMethod yX5_land ∈ gtb := gm (tb2 (List.mem_of_getElem? (i := 14) (by decide +kernel))) rfl
theorem kV_X5_land : Cond.selects RX5 yX5_land yX5_land ∈ gtb := gm (tb2 (List.mem_of_getElem? (i := 15) (by decide +kernel))) rfl
theorem kC_X5_land : Cond.code yX5_land cX5_land 3 (some FieldType.int) ∈ gtb := gm (tb2 (List.mem_of_getElem? (i := 16) rfl)) rfl
theorem kL_L_26 : Cond.methodLink RL 26 yX5_far ∈ gtb := gm (tb2 (List.mem_of_getElem? (i := 17) (by decide +kernel))) rfl
theorem kI_X5_far : Cond.instanceMethod yX5_far ∈ gtb := gm (tb2 (List.mem_of_getElem? (i := 18) (by decide +kernel))) rfl
theorem kV_X5_far : Cond.selects RX5 yX5_far yX5_far ∈ gtb := gm (tb2 (List.mem_of_getElem? (i := 19) (by decide +kernel))) rfl
theorem kC_X5_far : Cond.code yX5_far cX5_far 3 (some FieldType.int) ∈ gtb := gm (tb2 (List.mem_of_getElem? (i := 20) rfl)) rfl
theorem kL_X5_77 : Cond.methodLink RX5 77 yX4_openLand ∈ gtb := gm (tb2 (List.mem_of_getElem? (i := 21) (by decide +kernel))) rfl
theorem kI_X4_openLand : Cond.instanceMethod yX4_openLand ∈ gtb := gm (tb2 (List.mem_of_getElem? (i := 22) (by decide +kernel))) rfl
theorem kV_X4_openLand : Cond.selects RX4 yX4_openLand yX4_openLand ∈ gtb := gm (tb2 (List.mem_of_getElem? (i := 23) (by decide +kernel))) rfl
theorem kC_X4_openLand : Cond.code yX4_openLand cX4_openLand 3 none ∈ gtb := gm (tb2 (List.mem_of_getElem? (i := 24) rfl)) rfl
theorem kL_X5_81 : Cond.methodLink RX5 81 yX4_measure ∈ gtb := gm (tb2 (List.mem_of_getElem? (i := 25) (by decide +kernel))) rfl
theorem kI_X4_measure : Cond.instanceMethod yX4_measure ∈ gtb := gm (tb2 (List.mem_of_getElem? (i := 26) (by decide +kernel))) rfl
theorem kV_X4_measure : Cond.selects RX4 yX4_measure yX4_measure ∈ gtb := gm (tb2 (List.mem_of_getElem? (i := 27) (by decide +kernel))) rfl
theorem kC_X4_measure : Cond.code yX4_measure cX4_measure 4 none ∈ gtb := gm (tb2 (List.mem_of_getElem? (i := 28) rfl)) rfl
theorem kL_X4_37 : Cond.methodLink RX4 37 yJ7_fill_53178 ∈ gtb := gm (tb2 (List.mem_of_getElem? (i := 29) (by decide +kernel))) rfl
theorem kL_X4_43 : Cond.methodLink RX4 43 yX4_spreadFrom ∈ gtb := gm (tb2 (List.mem_of_getElem? (i := 30) (by decide +kernel))) rfl
theorem kI_X4_spreadFrom : Cond.instanceMethod yX4_spreadFrom ∈ gtb := gm (tb2 (List.mem_of_getElem? (i := 32) (by decide +kernel))) rfl
theorem kC_X4_spreadFrom : Cond.code yX4_spreadFrom cX4_spreadFrom 6 (some FieldType.int) ∈ gtb := gm (tb2 (List.mem_of_getElem? (i := 33) rfl)) rfl
theorem kN_X4_47 : Cond.methodLinkNest RX4 47 yX5_beside "SnailLaws" ∈ lw_tbl := tb2 (List.mem_of_getElem? (i := 34) (by decide +kernel))
theorem kS_X5_beside : Cond.static yX5_beside ∈ gtb := gm (tb2 (List.mem_of_getElem? (i := 35) (by decide +kernel))) rfl
theorem kC_X5_beside : Cond.code yX5_beside cX5_beside 2 (some FieldType.int) ∈ gtb := gm (tb2 (List.mem_of_getElem? (i := 36) rfl)) rfl
theorem kL_L_30 : Cond.methodLink RL 30 yX5_snail ∈ gtb := gm (tb2 (List.mem_of_getElem? (i := 37) (by decide +kernel))) rfl
theorem kI_X5_snail : Cond.instanceMethod yX5_snail ∈ gtb := gm (tb2 (List.mem_of_getElem? (i := 38) (by decide +kernel))) rfl
theorem kV_X5_snail : Cond.selects RX5 yX5_snail yX5_snail ∈ gtb := gm (tb2 (List.mem_of_getElem? (i := 39) (by decide +kernel))) rfl
theorem kC_X5_snail : Cond.code yX5_snail cX5_snail 4 (some FieldType.int) ∈ gtb := gm (tb2 (List.mem_of_getElem? (i := 40) rfl)) rfl
theorem kL_X5_88 : Cond.methodLink RX5 88 yX1_addSnail ∈ gtb := gm (tb2 (List.mem_of_getElem? (i := 41) (by decide +kernel))) rfl
theorem kI_X1_addSnail : Cond.instanceMethod yX1_addSnail ∈ gtb := gm (tb2 (List.mem_of_getElem? (i := 42) (by decide +kernel))) rfl
theorem kV_X1_addSnail : Cond.selects RX1 yX1_addSnail yX1_addSnail ∈ gtb := gm (tb2 (List.mem_of_getElem? (i := 43) (by decide +kernel))) rfl
theorem kC_X1_addSnail : Cond.code yX1_addSnail cX1_addSnail 4 (some FieldType.int) ∈ gtb := gm (tb2 (List.mem_of_getElem? (i := 44) rfl)) rfl
theorem kK_X5_92 : Cond.constant RX5 92 (Int32.ofInt (-1000002)) ∈ gtb := gm (tb2 (List.mem_of_getElem? (i := 45) (by decide +kernel))) rfl
theorem kL_L_34 : Cond.methodLink RL 34 yX5_of ∈ gtb := gm (tb2 (List.mem_of_getElem? (i := 46) (by decide +kernel))) rfl
theorem kI_X5_of : Cond.instanceMethod yX5_of ∈ gtb := gm (tb2 (List.mem_of_getElem? (i := 47) (by decide +kernel))) rfl
theorem kV_X5_of : Cond.selects RX5 yX5_of yX5_of ∈ gtb := gm (tb2 (List.mem_of_getElem? (i := 48) (by decide +kernel))) rfl
theorem kC_X5_of : Cond.code yX5_of cX5_of 3 (some FieldType.int) ∈ gtb := gm (tb2 (List.mem_of_getElem? (i := 49) rfl)) rfl
theorem kL_X5_93 : Cond.methodLink RX5 93 yX5_isSnail ∈ gtb := gm (tb2 (List.mem_of_getElem? (i := 50) (by decide +kernel))) rfl
theorem kI_X5_isSnail : Cond.instanceMethod yX5_isSnail ∈ gtb := gm (tb2 (List.mem_of_getElem? (i := 52) (by decide +kernel))) rfl
theorem kC_X5_isSnail : Cond.code yX5_isSnail cX5_isSnail 2 (some FieldType.boolean) ∈ gtb := gm (tb2 (List.mem_of_getElem? (i := 53) rfl)) rfl
theorem kL_X5_96 : Cond.methodLink RX5 96 yX1_movesOf ∈ gtb := gm (tb2 (List.mem_of_getElem? (i := 54) (by decide +kernel))) rfl
theorem kI_X1_movesOf : Cond.instanceMethod yX1_movesOf ∈ gtb := gm (tb2 (List.mem_of_getElem? (i := 55) (by decide +kernel))) rfl
theorem kV_X1_movesOf : Cond.selects RX1 yX1_movesOf yX1_movesOf ∈ gtb := gm (tb2 (List.mem_of_getElem? (i := 56) (by decide +kernel))) rfl
theorem kC_X1_movesOf : Cond.code yX1_movesOf cX1_movesOf 5 (some FieldType.int) ∈ gtb := gm (tb2 (List.mem_of_getElem? (i := 57) rfl)) rfl
theorem kL_X5_105 : Cond.methodLink RX5 105 yX1_traitRow ∈ gtb := gm (tb2 (List.mem_of_getElem? (i := 58) (by decide +kernel))) rfl
theorem kI_X1_traitRow : Cond.instanceMethod yX1_traitRow ∈ gtb := gm (tb2 (List.mem_of_getElem? (i := 59) (by decide +kernel))) rfl
theorem kV_X1_traitRow : Cond.selects RX1 yX1_traitRow yX1_traitRow ∈ gtb := gm (tb2 (List.mem_of_getElem? (i := 60) (by decide +kernel))) rfl
theorem kC_X1_traitRow : Cond.code yX1_traitRow cX1_traitRow 2 (some (FieldType.array FieldType.int)) ∈ gtb := gm (tb2 (List.mem_of_getElem? (i := 61) rfl)) rfl
theorem kL_L_38 : Cond.methodLink RL 38 yX5_change ∈ gtb := gm (tb2 (List.mem_of_getElem? (i := 62) (by decide +kernel))) rfl
theorem kI_X5_change : Cond.instanceMethod yX5_change ∈ gtb := gm (tb2 (List.mem_of_getElem? (i := 63) (by decide +kernel))) rfl
theorem kV_X5_change : Cond.selects RX5 yX5_change yX5_change ∈ gtb := gm (tb2 (List.mem_of_getElem? (i := 64) (by decide +kernel))) rfl
theorem kC_X5_change : Cond.code yX5_change cX5_change 6 (some FieldType.int) ∈ gtb := gm (tb2 (List.mem_of_getElem? (i := 65) rfl)) rfl
theorem kF_X5_109 : Cond.fieldLink RX5 109 RX5 "MOST_OF_TRAIT" "[I" ∈ gtb := gm (tb2 (List.mem_of_getElem? (i := 66) (by decide +kernel))) rfl
theorem kZ_X5_MOST_OF_TRAIT : Cond.laysStatic RX5 "MOST_OF_TRAIT" "[I" ∈ lw_tbl := tb2 (List.mem_of_getElem? (i := 67) (by decide +kernel))
theorem kL_L_43 : Cond.methodLink RL 43 yX5_bans ∈ gtb := gm (tb2 (List.mem_of_getElem? (i := 68) (by decide +kernel))) rfl
theorem kI_X5_bans : Cond.instanceMethod yX5_bans ∈ gtb := gm (tb2 (List.mem_of_getElem? (i := 69) (by decide +kernel))) rfl
theorem kV_X5_bans : Cond.selects RX5 yX5_bans yX5_bans ∈ gtb := gm (tb2 (List.mem_of_getElem? (i := 70) (by decide +kernel))) rfl
theorem kC_X5_bans : Cond.code yX5_bans cX5_bans 4 (some FieldType.int) ∈ gtb := gm (tb2 (List.mem_of_getElem? (i := 71) rfl)) rfl
theorem kL_X5_112 : Cond.methodLink RX5 112 yX5_isLaw ∈ gtb := gm (tb2 (List.mem_of_getElem? (i := 72) (by decide +kernel))) rfl
theorem kS_X5_isLaw : Cond.static yX5_isLaw ∈ gtb := gm (tb2 (List.mem_of_getElem? (i := 73) (by decide +kernel))) rfl
theorem kC_X5_isLaw : Cond.code yX5_isLaw cX5_isLaw 1 (some FieldType.boolean) ∈ gtb := gm (tb2 (List.mem_of_getElem? (i := 74) rfl)) rfl
theorem kL_L_47 : Cond.methodLink RL 47 yX5_set ∈ gtb := gm (tb2 (List.mem_of_getElem? (i := 75) (by decide +kernel))) rfl
theorem kI_X5_set : Cond.instanceMethod yX5_set ∈ gtb := gm (tb2 (List.mem_of_getElem? (i := 76) (by decide +kernel))) rfl
theorem kV_X5_set : Cond.selects RX5 yX5_set yX5_set ∈ gtb := gm (tb2 (List.mem_of_getElem? (i := 77) (by decide +kernel))) rfl
theorem kC_X5_set : Cond.code yX5_set cX5_set 4 (some FieldType.int) ∈ gtb := gm (tb2 (List.mem_of_getElem? (i := 78) rfl)) rfl
theorem kL_L_51 : Cond.methodLink RL 51 yX5_go ∈ gtb := gm (tb2 (List.mem_of_getElem? (i := 79) (by decide +kernel))) rfl
theorem kI_X5_go : Cond.instanceMethod yX5_go ∈ gtb := gm (tb2 (List.mem_of_getElem? (i := 80) (by decide +kernel))) rfl
theorem kV_X5_go : Cond.selects RX5 yX5_go yX5_go ∈ gtb := gm (tb2 (List.mem_of_getElem? (i := 81) (by decide +kernel))) rfl
theorem kC_X5_go : Cond.code yX5_go cX5_go 2 (some FieldType.int) ∈ gtb := gm (tb2 (List.mem_of_getElem? (i := 82) rfl)) rfl
theorem kK_X5_128 : Cond.constant RX5 128 (Int32.ofInt (99999)) ∈ gtb := gm (tb2 (List.mem_of_getElem? (i := 83) (by decide +kernel))) rfl
theorem kK_X5_129 : Cond.constant RX5 129 (Int32.ofInt (-1000005)) ∈ gtb := gm (tb2 (List.mem_of_getElem? (i := 84) (by decide +kernel))) rfl
theorem kL_X5_130 : Cond.methodLink RX5 130 yX4_survey ∈ gtb := gm (tb2 (List.mem_of_getElem? (i := 85) (by decide +kernel))) rfl
theorem kI_X4_survey : Cond.instanceMethod yX4_survey ∈ gtb := gm (tb2 (List.mem_of_getElem? (i := 86) (by decide +kernel))) rfl
theorem kV_X4_survey : Cond.selects RX4 yX4_survey yX4_survey ∈ gtb := gm (tb2 (List.mem_of_getElem? (i := 87) (by decide +kernel))) rfl
theorem kC_X4_survey : Cond.code yX4_survey cX4_survey 4 none ∈ gtb := gm (tb2 (List.mem_of_getElem? (i := 88) rfl)) rfl
theorem kL_X4_50 : Cond.methodLink RX4 50 yX4_openLand ∈ gtb := gm (tb2 (List.mem_of_getElem? (i := 89) (by decide +kernel))) rfl
theorem kL_X4_61 : Cond.methodLink RX4 61 yX4_measure ∈ gtb := gm (tb2 (List.mem_of_getElem? (i := 90) (by decide +kernel))) rfl
theorem kL_X4_65 : Cond.methodLink RX4 65 yX4_nearerThan ∈ gtb := gm (tb2 (List.mem_of_getElem? (i := 91) (by decide +kernel))) rfl
theorem kI_X4_nearerThan : Cond.instanceMethod yX4_nearerThan ∈ gtb := gm (tb2 (List.mem_of_getElem? (i := 93) (by decide +kernel))) rfl
theorem kC_X4_nearerThan : Cond.code yX4_nearerThan cX4_nearerThan 4 (some FieldType.int) ∈ gtb := gm (tb2 (List.mem_of_getElem? (i := 94) rfl)) rfl
theorem kL_X5_133 : Cond.methodLink RX5 133 yX1_passDays ∈ gtb := gm (tb2 (List.mem_of_getElem? (i := 95) (by decide +kernel))) rfl
theorem kI_X1_passDays : Cond.instanceMethod yX1_passDays ∈ gtb := gm (tb2 (List.mem_of_getElem? (i := 96) (by decide +kernel))) rfl
theorem kV_X1_passDays : Cond.selects RX1 yX1_passDays yX1_passDays ∈ gtb := gm (tb2 (List.mem_of_getElem? (i := 97) (by decide +kernel))) rfl
theorem kC_X1_passDays : Cond.code yX1_passDays cX1_passDays 6 none ∈ gtb := gm (tb2 (List.mem_of_getElem? (i := 98) rfl)) rfl
theorem kL_X1_76 : Cond.methodLink RX1 76 yX1_passDayOf ∈ gtb := gm (tb2 (List.mem_of_getElem? (i := 99) (by decide +kernel))) rfl
theorem kI_X1_passDayOf : Cond.instanceMethod yX1_passDayOf ∈ gtb := gm (tb2 (List.mem_of_getElem? (i := 101) (by decide +kernel))) rfl
theorem kC_X1_passDayOf : Cond.code yX1_passDayOf cX1_passDayOf 8 none ∈ gtb := gm (tb2 (List.mem_of_getElem? (i := 102) rfl)) rfl
theorem kL_X1_80 : Cond.methodLink RX1 80 yX1_movesOf ∈ gtb := gm (tb2 (List.mem_of_getElem? (i := 103) (by decide +kernel))) rfl
theorem kL_X1_84 : Cond.methodLink RX1 84 yX1_comeUnder ∈ gtb := gm (tb2 (List.mem_of_getElem? (i := 104) (by decide +kernel))) rfl
theorem kI_X1_comeUnder : Cond.instanceMethod yX1_comeUnder ∈ gtb := gm (tb2 (List.mem_of_getElem? (i := 106) (by decide +kernel))) rfl
theorem kC_X1_comeUnder : Cond.code yX1_comeUnder cX1_comeUnder 3 none ∈ gtb := gm (tb2 (List.mem_of_getElem? (i := 107) rfl)) rfl
theorem kK_X1_98 : Cond.constant RX1 98 (Int32.ofInt (99999)) ∈ gtb := gm (tb2 (List.mem_of_getElem? (i := 108) (by decide +kernel))) rfl
theorem kL_X1_99 : Cond.methodLink RX1 99 yJ9_min_7cf53 ∈ gtb := gm (tb2 (List.mem_of_getElem? (i := 109) (by decide +kernel))) rfl
theorem kS_J9_min_7cf53 : Cond.static yJ9_min_7cf53 ∈ gtb := gm (tb2 (List.mem_of_getElem? (i := 110) (by decide +kernel))) rfl
theorem kC_J9_min_7cf53 : Cond.code yJ9_min_7cf53 cJ9_min_7cf53 2 (some FieldType.int) ∈ gtb := gm (tb2 (List.mem_of_getElem? (i := 111) rfl)) rfl
theorem kL_X1_88 : Cond.methodLink RX1 88 yX4_nextOf ∈ gtb := gm (tb2 (List.mem_of_getElem? (i := 112) (by decide +kernel))) rfl
theorem kI_X4_nextOf : Cond.instanceMethod yX4_nextOf ∈ gtb := gm (tb2 (List.mem_of_getElem? (i := 113) (by decide +kernel))) rfl
theorem kV_X4_nextOf : Cond.selects RX4 yX4_nextOf yX4_nextOf ∈ gtb := gm (tb2 (List.mem_of_getElem? (i := 114) (by decide +kernel))) rfl
theorem kC_X4_nextOf : Cond.code yX4_nextOf cX4_nextOf 3 (some FieldType.int) ∈ gtb := gm (tb2 (List.mem_of_getElem? (i := 115) rfl)) rfl
theorem kN_X1_94 : Cond.methodLinkNest RX1 94 yX5_isOfKind "SnailLaws" ∈ lw_tbl := tb2 (List.mem_of_getElem? (i := 116) (by decide +kernel))
theorem kS_X5_isOfKind : Cond.static yX5_isOfKind ∈ gtb := gm (tb2 (List.mem_of_getElem? (i := 117) (by decide +kernel))) rfl
theorem kC_X5_isOfKind : Cond.code yX5_isOfKind cX5_isOfKind 4 (some FieldType.boolean) ∈ gtb := gm (tb2 (List.mem_of_getElem? (i := 118) rfl)) rfl
theorem kF_X5_298 : Cond.fieldLink RX5 298 RX5 "KIND_ABOVE" "[I" ∈ gtb := gm (tb2 (List.mem_of_getElem? (i := 119) (by decide +kernel))) rfl
theorem kZ_X5_KIND_ABOVE : Cond.laysStatic RX5 "KIND_ABOVE" "[I" ∈ lw_tbl := tb2 (List.mem_of_getElem? (i := 120) (by decide +kernel))
theorem kL_L_56 : Cond.methodLink RL 56 yX5_now ∈ gtb := gm (tb2 (List.mem_of_getElem? (i := 121) (by decide +kernel))) rfl
theorem kI_X5_now : Cond.instanceMethod yX5_now ∈ gtb := gm (tb2 (List.mem_of_getElem? (i := 122) (by decide +kernel))) rfl
theorem kV_X5_now : Cond.selects RX5 yX5_now yX5_now ∈ gtb := gm (tb2 (List.mem_of_getElem? (i := 123) (by decide +kernel))) rfl
theorem kC_X5_now : Cond.code yX5_now cX5_now 2 (some FieldType.int) ∈ gtb := gm (tb2 (List.mem_of_getElem? (i := 124) rfl)) rfl
theorem kL_X5_140 : Cond.methodLink RX5 140 yX1_lawfulCells ∈ gtb := gm (tb2 (List.mem_of_getElem? (i := 125) (by decide +kernel))) rfl
theorem kI_X1_lawfulCells : Cond.instanceMethod yX1_lawfulCells ∈ gtb := gm (tb2 (List.mem_of_getElem? (i := 126) (by decide +kernel))) rfl
theorem kV_X1_lawfulCells : Cond.selects RX1 yX1_lawfulCells yX1_lawfulCells ∈ gtb := gm (tb2 (List.mem_of_getElem? (i := 127) (by decide +kernel))) rfl
theorem kC_X1_lawfulCells : Cond.code yX1_lawfulCells cX1_lawfulCells 1 (some FieldType.int) ∈ gtb := gm (tb2 (List.mem_of_getElem? (i := 128) rfl)) rfl
theorem kL_X1_108 : Cond.methodLink RX1 108 yX1_cellsUnder ∈ gtb := gm (tb2 (List.mem_of_getElem? (i := 129) (by decide +kernel))) rfl
theorem kI_X1_cellsUnder : Cond.instanceMethod yX1_cellsUnder ∈ gtb := gm (tb2 (List.mem_of_getElem? (i := 130) (by decide +kernel))) rfl
theorem kV_X1_cellsUnder : Cond.selects RX1 yX1_cellsUnder yX1_cellsUnder ∈ gtb := gm (tb2 (List.mem_of_getElem? (i := 131) (by decide +kernel))) rfl
theorem kC_X1_cellsUnder : Cond.code yX1_cellsUnder cX1_cellsUnder 4 (some FieldType.int) ∈ gtb := gm (tb2 (List.mem_of_getElem? (i := 132) rfl)) rfl
theorem kL_X5_144 : Cond.methodLink RX5 144 yX1_allLeaves ∈ gtb := gm (tb2 (List.mem_of_getElem? (i := 133) (by decide +kernel))) rfl
theorem kI_X1_allLeaves : Cond.instanceMethod yX1_allLeaves ∈ gtb := gm (tb2 (List.mem_of_getElem? (i := 134) (by decide +kernel))) rfl
theorem kV_X1_allLeaves : Cond.selects RX1 yX1_allLeaves yX1_allLeaves ∈ gtb := gm (tb2 (List.mem_of_getElem? (i := 135) (by decide +kernel))) rfl
theorem kC_X1_allLeaves : Cond.code yX1_allLeaves cX1_allLeaves 1 (some FieldType.int) ∈ gtb := gm (tb2 (List.mem_of_getElem? (i := 136) rfl)) rfl
theorem kL_X1_111 : Cond.methodLink RX1 111 yX1_sumOf ∈ gtb := gm (tb2 (List.mem_of_getElem? (i := 137) (by decide +kernel))) rfl
theorem kS_X1_sumOf : Cond.static yX1_sumOf ∈ gtb := gm (tb2 (List.mem_of_getElem? (i := 138) (by decide +kernel))) rfl
theorem kC_X1_sumOf : Cond.code yX1_sumOf cX1_sumOf 6 (some FieldType.int) ∈ gtb := gm (tb2 (List.mem_of_getElem? (i := 139) rfl)) rfl
theorem kL_X5_147 : Cond.methodLink RX5 147 yX1_arrivedSnails ∈ gtb := gm (tb2 (List.mem_of_getElem? (i := 140) (by decide +kernel))) rfl
theorem kI_X1_arrivedSnails : Cond.instanceMethod yX1_arrivedSnails ∈ gtb := gm (tb2 (List.mem_of_getElem? (i := 141) (by decide +kernel))) rfl
theorem kV_X1_arrivedSnails : Cond.selects RX1 yX1_arrivedSnails yX1_arrivedSnails ∈ gtb := gm (tb2 (List.mem_of_getElem? (i := 142) (by decide +kernel))) rfl
theorem kC_X1_arrivedSnails : Cond.code yX1_arrivedSnails cX1_arrivedSnails 3 (some FieldType.int) ∈ gtb := gm (tb2 (List.mem_of_getElem? (i := 143) rfl)) rfl
theorem kL_L_60 : Cond.methodLink RL 60 yX5_realm ∈ gtb := gm (tb2 (List.mem_of_getElem? (i := 144) (by decide +kernel))) rfl
theorem kI_X5_realm : Cond.instanceMethod yX5_realm ∈ gtb := gm (tb2 (List.mem_of_getElem? (i := 145) (by decide +kernel))) rfl
theorem kV_X5_realm : Cond.selects RX5 yX5_realm yX5_realm ∈ gtb := gm (tb2 (List.mem_of_getElem? (i := 146) (by decide +kernel))) rfl
theorem kC_X5_realm : Cond.code yX5_realm cX5_realm 2 (some FieldType.int) ∈ gtb := gm (tb2 (List.mem_of_getElem? (i := 147) rfl)) rfl
theorem kL_X5_150 : Cond.methodLink RX5 150 yX1_cellsUnder ∈ gtb := gm (tb2 (List.mem_of_getElem? (i := 148) (by decide +kernel))) rfl
theorem kL_L_64 : Cond.methodLink RL 64 yX5_repeals ∈ gtb := gm (tb2 (List.mem_of_getElem? (i := 149) (by decide +kernel))) rfl
theorem kI_X5_repeals : Cond.instanceMethod yX5_repeals ∈ gtb := gm (tb2 (List.mem_of_getElem? (i := 150) (by decide +kernel))) rfl
theorem kV_X5_repeals : Cond.selects RX5 yX5_repeals yX5_repeals ∈ gtb := gm (tb2 (List.mem_of_getElem? (i := 151) (by decide +kernel))) rfl
theorem kC_X5_repeals : Cond.code yX5_repeals cX5_repeals 2 (some FieldType.int) ∈ gtb := gm (tb2 (List.mem_of_getElem? (i := 152) rfl)) rfl
theorem kL_X5_153 : Cond.methodLink RX5 153 yJ7_fill_53178 ∈ gtb := gm (tb2 (List.mem_of_getElem? (i := 153) (by decide +kernel))) rfl
theorem kL_L_69 : Cond.methodLink RL 69 yX5_may ∈ gtb := gm (tb2 (List.mem_of_getElem? (i := 154) (by decide +kernel))) rfl
theorem kI_X5_may : Cond.instanceMethod yX5_may ∈ gtb := gm (tb2 (List.mem_of_getElem? (i := 155) (by decide +kernel))) rfl
theorem kV_X5_may : Cond.selects RX5 yX5_may yX5_may ∈ gtb := gm (tb2 (List.mem_of_getElem? (i := 156) (by decide +kernel))) rfl
theorem kC_X5_may : Cond.code yX5_may cX5_may 3 (some FieldType.int) ∈ gtb := gm (tb2 (List.mem_of_getElem? (i := 157) rfl)) rfl
theorem kL_X5_159 : Cond.methodLink RX5 159 yX5_isDeed ∈ gtb := gm (tb2 (List.mem_of_getElem? (i := 158) (by decide +kernel))) rfl
theorem kS_X5_isDeed : Cond.static yX5_isDeed ∈ gtb := gm (tb2 (List.mem_of_getElem? (i := 159) (by decide +kernel))) rfl
theorem kC_X5_isDeed : Cond.code yX5_isDeed cX5_isDeed 1 (some FieldType.boolean) ∈ gtb := gm (tb2 (List.mem_of_getElem? (i := 160) rfl)) rfl
theorem kL_X5_162 : Cond.methodLink RX5 162 yX1_isLawful ∈ gtb := gm (tb2 (List.mem_of_getElem? (i := 161) (by decide +kernel))) rfl
theorem kI_X1_isLawful : Cond.instanceMethod yX1_isLawful ∈ gtb := gm (tb2 (List.mem_of_getElem? (i := 162) (by decide +kernel))) rfl
theorem kV_X1_isLawful : Cond.selects RX1 yX1_isLawful yX1_isLawful ∈ gtb := gm (tb2 (List.mem_of_getElem? (i := 163) (by decide +kernel))) rfl
theorem kC_X1_isLawful : Cond.code yX1_isLawful cX1_isLawful 4 (some FieldType.boolean) ∈ gtb := gm (tb2 (List.mem_of_getElem? (i := 164) rfl)) rfl
theorem kL_L_73 : Cond.methodLink RL 73 yX5_where ∈ gtb := gm (tb2 (List.mem_of_getElem? (i := 165) (by decide +kernel))) rfl
theorem kI_X5_where : Cond.instanceMethod yX5_where ∈ gtb := gm (tb2 (List.mem_of_getElem? (i := 166) (by decide +kernel))) rfl
theorem kV_X5_where : Cond.selects RX5 yX5_where yX5_where ∈ gtb := gm (tb2 (List.mem_of_getElem? (i := 167) (by decide +kernel))) rfl
theorem kC_X5_where : Cond.code yX5_where cX5_where 2 (some FieldType.int) ∈ gtb := gm (tb2 (List.mem_of_getElem? (i := 168) rfl)) rfl
theorem kL_X5_165 : Cond.methodLink RX5 165 yX1_openCellsFor ∈ gtb := gm (tb2 (List.mem_of_getElem? (i := 169) (by decide +kernel))) rfl
theorem kI_X1_openCellsFor : Cond.instanceMethod yX1_openCellsFor ∈ gtb := gm (tb2 (List.mem_of_getElem? (i := 170) (by decide +kernel))) rfl
theorem kV_X1_openCellsFor : Cond.selects RX1 yX1_openCellsFor yX1_openCellsFor ∈ gtb := gm (tb2 (List.mem_of_getElem? (i := 171) (by decide +kernel))) rfl
theorem kC_X1_openCellsFor : Cond.code yX1_openCellsFor cX1_openCellsFor 4 (some FieldType.int) ∈ gtb := gm (tb2 (List.mem_of_getElem? (i := 172) rfl)) rfl
theorem kL_X1_105 : Cond.methodLink RX1 105 yX1_isLawful ∈ gtb := gm (tb2 (List.mem_of_getElem? (i := 173) (by decide +kernel))) rfl
theorem kL_L_77 : Cond.methodLink RL 77 yX5_route ∈ gtb := gm (tb2 (List.mem_of_getElem? (i := 174) (by decide +kernel))) rfl
theorem kI_X5_route : Cond.instanceMethod yX5_route ∈ gtb := gm (tb2 (List.mem_of_getElem? (i := 175) (by decide +kernel))) rfl
theorem kV_X5_route : Cond.selects RX5 yX5_route yX5_route ∈ gtb := gm (tb2 (List.mem_of_getElem? (i := 176) (by decide +kernel))) rfl
theorem kC_X5_route : Cond.code yX5_route cX5_route 4 (some FieldType.int) ∈ gtb := gm (tb2 (List.mem_of_getElem? (i := 177) rfl)) rfl
theorem kL_X5_168 : Cond.methodLink RX5 168 yX4_openFor ∈ gtb := gm (tb2 (List.mem_of_getElem? (i := 178) (by decide +kernel))) rfl
theorem kI_X4_openFor : Cond.instanceMethod yX4_openFor ∈ gtb := gm (tb2 (List.mem_of_getElem? (i := 179) (by decide +kernel))) rfl
theorem kV_X4_openFor : Cond.selects RX4 yX4_openFor yX4_openFor ∈ gtb := gm (tb2 (List.mem_of_getElem? (i := 180) (by decide +kernel))) rfl
theorem kC_X4_openFor : Cond.code yX4_openFor cX4_openFor 4 none ∈ gtb := gm (tb2 (List.mem_of_getElem? (i := 181) rfl)) rfl
theorem kL_X4_33 : Cond.methodLink RX4 33 yX1_isLawful ∈ gtb := gm (tb2 (List.mem_of_getElem? (i := 182) (by decide +kernel))) rfl
theorem kK_X5_172 : Cond.constant RX5 172 (Int32.ofInt (-1000004)) ∈ gtb := gm (tb2 (List.mem_of_getElem? (i := 183) (by decide +kernel))) rfl
theorem kL_L_81 : Cond.methodLink RL 81 yX5_free ∈ gtb := gm (tb2 (List.mem_of_getElem? (i := 184) (by decide +kernel))) rfl
theorem kI_X5_free : Cond.instanceMethod yX5_free ∈ gtb := gm (tb2 (List.mem_of_getElem? (i := 185) (by decide +kernel))) rfl
theorem kV_X5_free : Cond.selects RX5 yX5_free yX5_free ∈ gtb := gm (tb2 (List.mem_of_getElem? (i := 186) (by decide +kernel))) rfl
theorem kC_X5_free : Cond.code yX5_free cX5_free 1 (some FieldType.int) ∈ gtb := gm (tb2 (List.mem_of_getElem? (i := 187) rfl)) rfl
theorem kL_X5_173 : Cond.methodLink RX5 173 yX1_freeDeeds ∈ gtb := gm (tb2 (List.mem_of_getElem? (i := 188) (by decide +kernel))) rfl
theorem kI_X1_freeDeeds : Cond.instanceMethod yX1_freeDeeds ∈ gtb := gm (tb2 (List.mem_of_getElem? (i := 189) (by decide +kernel))) rfl
theorem kV_X1_freeDeeds : Cond.selects RX1 yX1_freeDeeds yX1_freeDeeds ∈ gtb := gm (tb2 (List.mem_of_getElem? (i := 190) (by decide +kernel))) rfl
theorem kC_X1_freeDeeds : Cond.code yX1_freeDeeds cX1_freeDeeds 3 (some FieldType.int) ∈ gtb := gm (tb2 (List.mem_of_getElem? (i := 191) rfl)) rfl
theorem kL_L_85 : Cond.methodLink RL 85 yX5_ahead ∈ gtb := gm (tb2 (List.mem_of_getElem? (i := 192) (by decide +kernel))) rfl
theorem kI_X5_ahead : Cond.instanceMethod yX5_ahead ∈ gtb := gm (tb2 (List.mem_of_getElem? (i := 193) (by decide +kernel))) rfl
theorem kV_X5_ahead : Cond.selects RX5 yX5_ahead yX5_ahead ∈ gtb := gm (tb2 (List.mem_of_getElem? (i := 194) (by decide +kernel))) rfl
theorem kC_X5_ahead : Cond.code yX5_ahead cX5_ahead 3 (some FieldType.int) ∈ gtb := gm (tb2 (List.mem_of_getElem? (i := 195) rfl)) rfl
theorem kL_X5_176 : Cond.methodLink RX5 176 yX0_behind ∈ gtb := gm (tb2 (List.mem_of_getElem? (i := 196) (by decide +kernel))) rfl
theorem kI_X0_behind : Cond.instanceMethod yX0_behind ∈ gtb := gm (tb2 (List.mem_of_getElem? (i := 197) (by decide +kernel))) rfl
theorem kV_X0_behind : Cond.selects RX0 yX0_behind yX0_behind ∈ gtb := gm (tb2 (List.mem_of_getElem? (i := 198) (by decide +kernel))) rfl
theorem kC_X0_behind : Cond.code yX0_behind cX0_behind 3 (some (FieldType.object "SnailLaws$Republic")) ∈ gtb := gm (tb2 (List.mem_of_getElem? (i := 199) rfl)) rfl
theorem kL_X0_25 : Cond.methodLink RX0 25 yX1_become ∈ gtb := gm (tb2 (List.mem_of_getElem? (i := 200) (by decide +kernel))) rfl
theorem kI_X1_become : Cond.instanceMethod yX1_become ∈ gtb := gm (tb2 (List.mem_of_getElem? (i := 201) (by decide +kernel))) rfl
theorem kV_X1_become : Cond.selects RX1 yX1_become yX1_become ∈ gtb := gm (tb2 (List.mem_of_getElem? (i := 202) (by decide +kernel))) rfl
theorem kC_X1_become : Cond.code yX1_become cX1_become 2 none ∈ gtb := gm (tb2 (List.mem_of_getElem? (i := 203) rfl)) rfl
theorem kL_X1_70 : Cond.methodLink RX1 70 (⟨"java/lang/System", "arraycopy", "(Ljava/lang/Object;ILjava/lang/Object;II)V"⟩ : MethodName) ∈ gtb := gm (tb2 (List.mem_of_getElem? (i := 204) (by decide +kernel))) rfl
theorem kS_java_lang_System_arraycopy__Ljava_lang_Object_ILjava_lang_Object_II_V : Cond.static (⟨"java/lang/System", "arraycopy", "(Ljava/lang/Object;ILjava/lang/Object;II)V"⟩ : MethodName) ∈ gtb := gm (tb2 (List.mem_of_getElem? (i := 205) (by decide +kernel))) rfl
theorem kW_java_lang_System_arraycopy__Ljava_lang_Object_ILjava_lang_Object_II_V : Cond.native (⟨"java/lang/System", "arraycopy", "(Ljava/lang/Object;ILjava/lang/Object;II)V"⟩ : MethodName) ∈ gtb := gm (tb2 (List.mem_of_getElem? (i := 206) (by decide +kernel))) rfl
theorem kL_X0_32 : Cond.methodLink RX0 32 yX0_survey ∈ gtb := gm (tb2 (List.mem_of_getElem? (i := 207) (by decide +kernel))) rfl
theorem kI_X0_survey : Cond.instanceMethod yX0_survey ∈ gtb := gm (tb2 (List.mem_of_getElem? (i := 208) (by decide +kernel))) rfl
theorem kV_X0_survey : Cond.selects RX0 yX0_survey yX0_survey ∈ gtb := gm (tb2 (List.mem_of_getElem? (i := 209) (by decide +kernel))) rfl
theorem kC_X0_survey : Cond.code yX0_survey cX0_survey 2 none ∈ gtb := gm (tb2 (List.mem_of_getElem? (i := 210) rfl)) rfl
theorem kL_X0_29 : Cond.methodLink RX0 29 yX4_survey ∈ gtb := gm (tb2 (List.mem_of_getElem? (i := 211) (by decide +kernel))) rfl
theorem kL_X0_33 : Cond.methodLink RX0 33 yX1_passDays ∈ gtb := gm (tb2 (List.mem_of_getElem? (i := 212) (by decide +kernel))) rfl
theorem kL_L_89 : Cond.methodLink RL 89 yX5_lawAt ∈ gtb := gm (tb2 (List.mem_of_getElem? (i := 213) (by decide +kernel))) rfl
theorem kI_X5_lawAt : Cond.instanceMethod yX5_lawAt ∈ gtb := gm (tb2 (List.mem_of_getElem? (i := 214) (by decide +kernel))) rfl
theorem kV_X5_lawAt : Cond.selects RX5 yX5_lawAt yX5_lawAt ∈ gtb := gm (tb2 (List.mem_of_getElem? (i := 215) (by decide +kernel))) rfl
theorem kC_X5_lawAt : Cond.code yX5_lawAt cX5_lawAt 3 (some FieldType.int) ∈ gtb := gm (tb2 (List.mem_of_getElem? (i := 216) rfl)) rfl
theorem kL_L_93 : Cond.methodLink RL 93 yX5_reaches ∈ gtb := gm (tb2 (List.mem_of_getElem? (i := 217) (by decide +kernel))) rfl
theorem kI_X5_reaches : Cond.instanceMethod yX5_reaches ∈ gtb := gm (tb2 (List.mem_of_getElem? (i := 218) (by decide +kernel))) rfl
theorem kV_X5_reaches : Cond.selects RX5 yX5_reaches yX5_reaches ∈ gtb := gm (tb2 (List.mem_of_getElem? (i := 219) (by decide +kernel))) rfl
theorem kC_X5_reaches : Cond.code yX5_reaches cX5_reaches 4 (some FieldType.int) ∈ gtb := gm (tb2 (List.mem_of_getElem? (i := 220) rfl)) rfl
theorem kL_X5_180 : Cond.methodLink RX5 180 yX0_daysToLaw ∈ gtb := gm (tb2 (List.mem_of_getElem? (i := 221) (by decide +kernel))) rfl
theorem kI_X0_daysToLaw : Cond.instanceMethod yX0_daysToLaw ∈ gtb := gm (tb2 (List.mem_of_getElem? (i := 222) (by decide +kernel))) rfl
theorem kV_X0_daysToLaw : Cond.selects RX0 yX0_daysToLaw yX0_daysToLaw ∈ gtb := gm (tb2 (List.mem_of_getElem? (i := 223) (by decide +kernel))) rfl
theorem kC_X0_daysToLaw : Cond.code yX0_daysToLaw cX0_daysToLaw 6 (some FieldType.int) ∈ gtb := gm (tb2 (List.mem_of_getElem? (i := 224) rfl)) rfl
theorem kL_X0_45 : Cond.methodLink RX0 45 yX0_passDay ∈ gtb := gm (tb2 (List.mem_of_getElem? (i := 225) (by decide +kernel))) rfl
theorem kI_X0_passDay : Cond.instanceMethod yX0_passDay ∈ gtb := gm (tb2 (List.mem_of_getElem? (i := 227) (by decide +kernel))) rfl
theorem kC_X0_passDay : Cond.code yX0_passDay cX0_passDay 1 none ∈ gtb := gm (tb2 (List.mem_of_getElem? (i := 228) rfl)) rfl
theorem kL_L_97 : Cond.methodLink RL 97 yX5_wetFor ∈ gtb := gm (tb2 (List.mem_of_getElem? (i := 229) (by decide +kernel))) rfl
theorem kI_X5_wetFor : Cond.instanceMethod yX5_wetFor ∈ gtb := gm (tb2 (List.mem_of_getElem? (i := 230) (by decide +kernel))) rfl
theorem kV_X5_wetFor : Cond.selects RX5 yX5_wetFor yX5_wetFor ∈ gtb := gm (tb2 (List.mem_of_getElem? (i := 231) (by decide +kernel))) rfl
theorem kC_X5_wetFor : Cond.code yX5_wetFor cX5_wetFor 7 (some FieldType.int) ∈ gtb := gm (tb2 (List.mem_of_getElem? (i := 232) rfl)) rfl
theorem kL_L_101 : Cond.methodLink RL 101 yX5_comes ∈ gtb := gm (tb2 (List.mem_of_getElem? (i := 233) (by decide +kernel))) rfl
theorem kI_X5_comes : Cond.instanceMethod yX5_comes ∈ gtb := gm (tb2 (List.mem_of_getElem? (i := 234) (by decide +kernel))) rfl
theorem kV_X5_comes : Cond.selects RX5 yX5_comes yX5_comes ∈ gtb := gm (tb2 (List.mem_of_getElem? (i := 235) (by decide +kernel))) rfl
theorem kC_X5_comes : Cond.code yX5_comes cX5_comes 3 (some FieldType.int) ∈ gtb := gm (tb2 (List.mem_of_getElem? (i := 236) rfl)) rfl
theorem kL_X5_187 : Cond.methodLink RX5 187 yX0_daysToGate ∈ gtb := gm (tb2 (List.mem_of_getElem? (i := 237) (by decide +kernel))) rfl
theorem kI_X0_daysToGate : Cond.instanceMethod yX0_daysToGate ∈ gtb := gm (tb2 (List.mem_of_getElem? (i := 238) (by decide +kernel))) rfl
theorem kV_X0_daysToGate : Cond.selects RX0 yX0_daysToGate yX0_daysToGate ∈ gtb := gm (tb2 (List.mem_of_getElem? (i := 239) (by decide +kernel))) rfl
theorem kC_X0_daysToGate : Cond.code yX0_daysToGate cX0_daysToGate 5 (some FieldType.int) ∈ gtb := gm (tb3 (List.mem_of_getElem? (i := 0) rfl)) rfl
theorem kL_L_105 : Cond.methodLink RL 105 yX5_kindFor ∈ gtb := gm (tb3 (List.mem_of_getElem? (i := 1) (by decide +kernel))) rfl
theorem kI_X5_kindFor : Cond.instanceMethod yX5_kindFor ∈ gtb := gm (tb3 (List.mem_of_getElem? (i := 2) (by decide +kernel))) rfl
theorem kV_X5_kindFor : Cond.selects RX5 yX5_kindFor yX5_kindFor ∈ gtb := gm (tb3 (List.mem_of_getElem? (i := 3) (by decide +kernel))) rfl
theorem kC_X5_kindFor : Cond.code yX5_kindFor cX5_kindFor 6 (some FieldType.int) ∈ gtb := gm (tb3 (List.mem_of_getElem? (i := 4) rfl)) rfl
theorem kL_L_109 : Cond.methodLink RL 109 yX5_overtakes ∈ gtb := gm (tb3 (List.mem_of_getElem? (i := 5) (by decide +kernel))) rfl
theorem kI_X5_overtakes : Cond.instanceMethod yX5_overtakes ∈ gtb := gm (tb3 (List.mem_of_getElem? (i := 6) (by decide +kernel))) rfl
theorem kV_X5_overtakes : Cond.selects RX5 yX5_overtakes yX5_overtakes ∈ gtb := gm (tb3 (List.mem_of_getElem? (i := 7) (by decide +kernel))) rfl
theorem kC_X5_overtakes : Cond.code yX5_overtakes cX5_overtakes 4 (some FieldType.int) ∈ gtb := gm (tb3 (List.mem_of_getElem? (i := 8) rfl)) rfl
theorem kL_X5_191 : Cond.methodLink RX5 191 yX0_daysToOvertake ∈ gtb := gm (tb3 (List.mem_of_getElem? (i := 9) (by decide +kernel))) rfl
theorem kI_X0_daysToOvertake : Cond.instanceMethod yX0_daysToOvertake ∈ gtb := gm (tb3 (List.mem_of_getElem? (i := 10) (by decide +kernel))) rfl
theorem kV_X0_daysToOvertake : Cond.selects RX0 yX0_daysToOvertake yX0_daysToOvertake ∈ gtb := gm (tb3 (List.mem_of_getElem? (i := 11) (by decide +kernel))) rfl
theorem kC_X0_daysToOvertake : Cond.code yX0_daysToOvertake cX0_daysToOvertake 5 (some FieldType.int) ∈ gtb := gm (tb3 (List.mem_of_getElem? (i := 12) rfl)) rfl
theorem kL_X0_57 : Cond.methodLink RX0 57 yX0_isNearer ∈ gtb := gm (tb3 (List.mem_of_getElem? (i := 13) (by decide +kernel))) rfl
theorem kI_X0_isNearer : Cond.instanceMethod yX0_isNearer ∈ gtb := gm (tb3 (List.mem_of_getElem? (i := 15) (by decide +kernel))) rfl
theorem kC_X0_isNearer : Cond.code yX0_isNearer cX0_isNearer 3 (some FieldType.boolean) ∈ gtb := gm (tb3 (List.mem_of_getElem? (i := 16) rfl)) rfl
theorem kL_X0_61 : Cond.methodLink RX0 61 yX4_gateStepsOf ∈ gtb := gm (tb3 (List.mem_of_getElem? (i := 17) (by decide +kernel))) rfl
theorem kI_X4_gateStepsOf : Cond.instanceMethod yX4_gateStepsOf ∈ gtb := gm (tb3 (List.mem_of_getElem? (i := 18) (by decide +kernel))) rfl
theorem kV_X4_gateStepsOf : Cond.selects RX4 yX4_gateStepsOf yX4_gateStepsOf ∈ gtb := gm (tb3 (List.mem_of_getElem? (i := 19) (by decide +kernel))) rfl
theorem kC_X4_gateStepsOf : Cond.code yX4_gateStepsOf cX4_gateStepsOf 3 (some FieldType.int) ∈ gtb := gm (tb3 (List.mem_of_getElem? (i := 20) rfl)) rfl
theorem kL_L_113 : Cond.methodLink RL 113 yX5_lag ∈ gtb := gm (tb3 (List.mem_of_getElem? (i := 21) (by decide +kernel))) rfl
theorem kI_X5_lag : Cond.instanceMethod yX5_lag ∈ gtb := gm (tb3 (List.mem_of_getElem? (i := 22) (by decide +kernel))) rfl
theorem kV_X5_lag : Cond.selects RX5 yX5_lag yX5_lag ∈ gtb := gm (tb3 (List.mem_of_getElem? (i := 23) (by decide +kernel))) rfl
theorem kC_X5_lag : Cond.code yX5_lag cX5_lag 6 (some FieldType.int) ∈ gtb := gm (tb3 (List.mem_of_getElem? (i := 24) rfl)) rfl
theorem kL_L_117 : Cond.methodLink RL 117 yX5_clash ∈ gtb := gm (tb3 (List.mem_of_getElem? (i := 25) (by decide +kernel))) rfl
theorem kI_X5_clash : Cond.instanceMethod yX5_clash ∈ gtb := gm (tb3 (List.mem_of_getElem? (i := 26) (by decide +kernel))) rfl
theorem kV_X5_clash : Cond.selects RX5 yX5_clash yX5_clash ∈ gtb := gm (tb3 (List.mem_of_getElem? (i := 27) (by decide +kernel))) rfl
theorem kC_X5_clash : Cond.code yX5_clash cX5_clash 3 (some FieldType.int) ∈ gtb := gm (tb3 (List.mem_of_getElem? (i := 28) rfl)) rfl
theorem kL_X5_194 : Cond.methodLink RX5 194 yX0_cellOfMostClashes ∈ gtb := gm (tb3 (List.mem_of_getElem? (i := 29) (by decide +kernel))) rfl
theorem kI_X0_cellOfMostClashes : Cond.instanceMethod yX0_cellOfMostClashes ∈ gtb := gm (tb3 (List.mem_of_getElem? (i := 30) (by decide +kernel))) rfl
theorem kV_X0_cellOfMostClashes : Cond.selects RX0 yX0_cellOfMostClashes yX0_cellOfMostClashes ∈ gtb := gm (tb3 (List.mem_of_getElem? (i := 31) (by decide +kernel))) rfl
theorem kC_X0_cellOfMostClashes : Cond.code yX0_cellOfMostClashes cX0_cellOfMostClashes 6 (some FieldType.int) ∈ gtb := gm (tb3 (List.mem_of_getElem? (i := 32) rfl)) rfl
theorem kL_X0_68 : Cond.methodLink RX0 68 yJ7_fill_53178 ∈ gtb := gm (tb3 (List.mem_of_getElem? (i := 33) (by decide +kernel))) rfl
theorem kL_X0_74 : Cond.methodLink RX0 74 yX0_behind ∈ gtb := gm (tb3 (List.mem_of_getElem? (i := 34) (by decide +kernel))) rfl
theorem kK_X0_78 : Cond.constant RX0 78 (Int32.ofInt (-1000004)) ∈ gtb := gm (tb3 (List.mem_of_getElem? (i := 35) (by decide +kernel))) rfl
theorem kL_L_121 : Cond.methodLink RL 121 yX5_release ∈ gtb := gm (tb3 (List.mem_of_getElem? (i := 36) (by decide +kernel))) rfl
theorem kI_X5_release : Cond.instanceMethod yX5_release ∈ gtb := gm (tb3 (List.mem_of_getElem? (i := 37) (by decide +kernel))) rfl
theorem kV_X5_release : Cond.selects RX5 yX5_release yX5_release ∈ gtb := gm (tb3 (List.mem_of_getElem? (i := 38) (by decide +kernel))) rfl
theorem kC_X5_release : Cond.code yX5_release cX5_release 5 (some FieldType.int) ∈ gtb := gm (tb3 (List.mem_of_getElem? (i := 39) rfl)) rfl
theorem kL_X5_198 : Cond.methodLink RX5 198 yX0_cheapestSet ∈ gtb := gm (tb3 (List.mem_of_getElem? (i := 40) (by decide +kernel))) rfl
theorem kI_X0_cheapestSet : Cond.instanceMethod yX0_cheapestSet ∈ gtb := gm (tb3 (List.mem_of_getElem? (i := 41) (by decide +kernel))) rfl
theorem kV_X0_cheapestSet : Cond.selects RX0 yX0_cheapestSet yX0_cheapestSet ∈ gtb := gm (tb3 (List.mem_of_getElem? (i := 42) (by decide +kernel))) rfl
theorem kC_X0_cheapestSet : Cond.code yX0_cheapestSet cX0_cheapestSet 10 (some FieldType.int) ∈ gtb := gm (tb3 (List.mem_of_getElem? (i := 43) rfl)) rfl
theorem kL_X0_82 : Cond.methodLink RX0 82 yX1_priceOf ∈ gtb := gm (tb3 (List.mem_of_getElem? (i := 44) (by decide +kernel))) rfl
theorem kI_X1_priceOf : Cond.instanceMethod yX1_priceOf ∈ gtb := gm (tb3 (List.mem_of_getElem? (i := 45) (by decide +kernel))) rfl
theorem kV_X1_priceOf : Cond.selects RX1 yX1_priceOf yX1_priceOf ∈ gtb := gm (tb3 (List.mem_of_getElem? (i := 46) (by decide +kernel))) rfl
theorem kC_X1_priceOf : Cond.code yX1_priceOf cX1_priceOf 4 (some FieldType.int) ∈ gtb := gm (tb3 (List.mem_of_getElem? (i := 47) rfl)) rfl
theorem kL_X0_86 : Cond.methodLink RX0 86 yX0_bringsLaw ∈ gtb := gm (tb3 (List.mem_of_getElem? (i := 48) (by decide +kernel))) rfl
theorem kI_X0_bringsLaw : Cond.instanceMethod yX0_bringsLaw ∈ gtb := gm (tb3 (List.mem_of_getElem? (i := 50) (by decide +kernel))) rfl
theorem kC_X0_bringsLaw : Cond.code yX0_bringsLaw cX0_bringsLaw 6 (some FieldType.boolean) ∈ gtb := gm (tb3 (List.mem_of_getElem? (i := 51) rfl)) rfl
theorem kL_X0_90 : Cond.methodLink RX0 90 yX0_bearsLaw ∈ gtb := gm (tb3 (List.mem_of_getElem? (i := 52) (by decide +kernel))) rfl
theorem kI_X0_bearsLaw : Cond.instanceMethod yX0_bearsLaw ∈ gtb := gm (tb3 (List.mem_of_getElem? (i := 54) (by decide +kernel))) rfl
theorem kC_X0_bearsLaw : Cond.code yX0_bearsLaw cX0_bearsLaw 5 (some FieldType.boolean) ∈ gtb := gm (tb3 (List.mem_of_getElem? (i := 55) rfl)) rfl
theorem kL_L_125 : Cond.methodLink RL 125 yX5_costs ∈ gtb := gm (tb3 (List.mem_of_getElem? (i := 56) (by decide +kernel))) rfl
theorem kI_X5_costs : Cond.instanceMethod yX5_costs ∈ gtb := gm (tb3 (List.mem_of_getElem? (i := 57) (by decide +kernel))) rfl
theorem kV_X5_costs : Cond.selects RX5 yX5_costs yX5_costs ∈ gtb := gm (tb3 (List.mem_of_getElem? (i := 58) (by decide +kernel))) rfl
theorem kC_X5_costs : Cond.code yX5_costs cX5_costs 5 (some FieldType.int) ∈ gtb := gm (tb3 (List.mem_of_getElem? (i := 59) rfl)) rfl
theorem kL_X5_201 : Cond.methodLink RX5 201 yX1_priceOf ∈ gtb := gm (tb3 (List.mem_of_getElem? (i := 60) (by decide +kernel))) rfl
theorem kL_L_129 : Cond.methodLink RL 129 yX5_farthest ∈ gtb := gm (tb3 (List.mem_of_getElem? (i := 61) (by decide +kernel))) rfl
theorem kI_X5_farthest : Cond.instanceMethod yX5_farthest ∈ gtb := gm (tb3 (List.mem_of_getElem? (i := 62) (by decide +kernel))) rfl
theorem kV_X5_farthest : Cond.selects RX5 yX5_farthest yX5_farthest ∈ gtb := gm (tb3 (List.mem_of_getElem? (i := 63) (by decide +kernel))) rfl
theorem kC_X5_farthest : Cond.code yX5_farthest cX5_farthest 3 (some FieldType.int) ∈ gtb := gm (tb3 (List.mem_of_getElem? (i := 64) rfl)) rfl
theorem kL_X5_204 : Cond.methodLink RX5 204 yX0_farthestStart ∈ gtb := gm (tb3 (List.mem_of_getElem? (i := 65) (by decide +kernel))) rfl
theorem kI_X0_farthestStart : Cond.instanceMethod yX0_farthestStart ∈ gtb := gm (tb3 (List.mem_of_getElem? (i := 66) (by decide +kernel))) rfl
theorem kV_X0_farthestStart : Cond.selects RX0 yX0_farthestStart yX0_farthestStart ∈ gtb := gm (tb3 (List.mem_of_getElem? (i := 67) (by decide +kernel))) rfl
theorem kC_X0_farthestStart : Cond.code yX0_farthestStart cX0_farthestStart 8 (some FieldType.int) ∈ gtb := gm (tb3 (List.mem_of_getElem? (i := 68) rfl)) rfl
theorem kL_X0_97 : Cond.methodLink RX0 97 yX0_arrivesFrom ∈ gtb := gm (tb3 (List.mem_of_getElem? (i := 69) (by decide +kernel))) rfl
theorem kI_X0_arrivesFrom : Cond.instanceMethod yX0_arrivesFrom ∈ gtb := gm (tb3 (List.mem_of_getElem? (i := 71) (by decide +kernel))) rfl
theorem kC_X0_arrivesFrom : Cond.code yX0_arrivesFrom cX0_arrivesFrom 6 (some FieldType.boolean) ∈ gtb := gm (tb3 (List.mem_of_getElem? (i := 72) rfl)) rfl
theorem kL_L_133 : Cond.methodLink RL 133 yX5_fits ∈ gtb := gm (tb3 (List.mem_of_getElem? (i := 73) (by decide +kernel))) rfl
theorem kI_X5_fits : Cond.instanceMethod yX5_fits ∈ gtb := gm (tb3 (List.mem_of_getElem? (i := 74) (by decide +kernel))) rfl
theorem kV_X5_fits : Cond.selects RX5 yX5_fits yX5_fits ∈ gtb := gm (tb3 (List.mem_of_getElem? (i := 75) (by decide +kernel))) rfl
theorem kC_X5_fits : Cond.code yX5_fits cX5_fits 6 (some FieldType.int) ∈ gtb := gm (tb3 (List.mem_of_getElem? (i := 76) rfl)) rfl
theorem kL_X5_207 : Cond.methodLink RX5 207 yX5_trailFlaw ∈ gtb := gm (tb3 (List.mem_of_getElem? (i := 77) (by decide +kernel))) rfl
theorem kI_X5_trailFlaw : Cond.instanceMethod yX5_trailFlaw ∈ gtb := gm (tb3 (List.mem_of_getElem? (i := 79) (by decide +kernel))) rfl
theorem kC_X5_trailFlaw : Cond.code yX5_trailFlaw cX5_trailFlaw 4 (some FieldType.int) ∈ gtb := gm (tb3 (List.mem_of_getElem? (i := 80) rfl)) rfl
theorem kL_X5_266 : Cond.methodLink RX5 266 yX5_sheetFlaw ∈ gtb := gm (tb3 (List.mem_of_getElem? (i := 81) (by decide +kernel))) rfl
theorem kI_X5_sheetFlaw : Cond.instanceMethod yX5_sheetFlaw ∈ gtb := gm (tb3 (List.mem_of_getElem? (i := 83) (by decide +kernel))) rfl
theorem kC_X5_sheetFlaw : Cond.code yX5_sheetFlaw cX5_sheetFlaw 2 (some FieldType.int) ∈ gtb := gm (tb3 (List.mem_of_getElem? (i := 84) rfl)) rfl
theorem kL_X5_252 : Cond.methodLink RX5 252 yX5_isSheet ∈ gtb := gm (tb3 (List.mem_of_getElem? (i := 85) (by decide +kernel))) rfl
theorem kS_X5_isSheet : Cond.static yX5_isSheet ∈ gtb := gm (tb3 (List.mem_of_getElem? (i := 86) (by decide +kernel))) rfl
theorem kC_X5_isSheet : Cond.code yX5_isSheet cX5_isSheet 1 (some FieldType.boolean) ∈ gtb := gm (tb3 (List.mem_of_getElem? (i := 87) rfl)) rfl
theorem kL_X5_272 : Cond.methodLink RX5 272 yX2_isMissing ∈ gtb := gm (tb3 (List.mem_of_getElem? (i := 88) (by decide +kernel))) rfl
theorem kI_X2_isMissing : Cond.instanceMethod yX2_isMissing ∈ gtb := gm (tb3 (List.mem_of_getElem? (i := 89) (by decide +kernel))) rfl
theorem kV_X2_isMissing : Cond.selects RX2 yX2_isMissing yX2_isMissing ∈ gtb := gm (tb3 (List.mem_of_getElem? (i := 90) (by decide +kernel))) rfl
theorem kC_X2_isMissing : Cond.code yX2_isMissing cX2_isMissing 2 (some FieldType.boolean) ∈ gtb := gm (tb3 (List.mem_of_getElem? (i := 91) rfl)) rfl
theorem kK_X5_247 : Cond.constant RX5 247 (Int32.ofInt (-1000006)) ∈ gtb := gm (tb3 (List.mem_of_getElem? (i := 92) (by decide +kernel))) rfl
theorem kL_X5_210 : Cond.methodLink RX5 210 yX0_survey ∈ gtb := gm (tb3 (List.mem_of_getElem? (i := 93) (by decide +kernel))) rfl
theorem kL_X5_211 : Cond.methodLink RX5 211 yX0_leavesTrail ∈ gtb := gm (tb3 (List.mem_of_getElem? (i := 94) (by decide +kernel))) rfl
theorem kI_X0_leavesTrail : Cond.instanceMethod yX0_leavesTrail ∈ gtb := gm (tb3 (List.mem_of_getElem? (i := 95) (by decide +kernel))) rfl
theorem kV_X0_leavesTrail : Cond.selects RX0 yX0_leavesTrail yX0_leavesTrail ∈ gtb := gm (tb3 (List.mem_of_getElem? (i := 96) (by decide +kernel))) rfl
theorem kC_X0_leavesTrail : Cond.code yX0_leavesTrail cX0_leavesTrail 8 (some FieldType.boolean) ∈ gtb := gm (tb3 (List.mem_of_getElem? (i := 97) rfl)) rfl
theorem kL_X0_106 : Cond.methodLink RX0 106 yX2_numberAt ∈ gtb := gm (tb3 (List.mem_of_getElem? (i := 98) (by decide +kernel))) rfl
theorem kI_X2_numberAt : Cond.instanceMethod yX2_numberAt ∈ gtb := gm (tb3 (List.mem_of_getElem? (i := 99) (by decide +kernel))) rfl
theorem kV_X2_numberAt : Cond.selects RX2 yX2_numberAt yX2_numberAt ∈ gtb := gm (tb3 (List.mem_of_getElem? (i := 100) (by decide +kernel))) rfl
theorem kC_X2_numberAt : Cond.code yX2_numberAt cX2_numberAt 3 (some FieldType.int) ∈ gtb := gm (tb3 (List.mem_of_getElem? (i := 101) rfl)) rfl
theorem kL_L_137 : Cond.methodLink RL 137 yX5_began ∈ gtb := gm (tb3 (List.mem_of_getElem? (i := 102) (by decide +kernel))) rfl
theorem kI_X5_began : Cond.instanceMethod yX5_began ∈ gtb := gm (tb3 (List.mem_of_getElem? (i := 103) (by decide +kernel))) rfl
theorem kV_X5_began : Cond.selects RX5 yX5_began yX5_began ∈ gtb := gm (tb3 (List.mem_of_getElem? (i := 104) (by decide +kernel))) rfl
theorem kC_X5_began : Cond.code yX5_began cX5_began 5 (some FieldType.int) ∈ gtb := gm (tb3 (List.mem_of_getElem? (i := 105) rfl)) rfl
theorem kL_L_141 : Cond.methodLink RL 141 yX5_thrushes ∈ gtb := gm (tb3 (List.mem_of_getElem? (i := 106) (by decide +kernel))) rfl
theorem kI_X5_thrushes : Cond.instanceMethod yX5_thrushes ∈ gtb := gm (tb3 (List.mem_of_getElem? (i := 107) (by decide +kernel))) rfl
theorem kV_X5_thrushes : Cond.selects RX5 yX5_thrushes yX5_thrushes ∈ gtb := gm (tb3 (List.mem_of_getElem? (i := 108) (by decide +kernel))) rfl
theorem kC_X5_thrushes : Cond.code yX5_thrushes cX5_thrushes 4 (some FieldType.int) ∈ gtb := gm (tb3 (List.mem_of_getElem? (i := 109) rfl)) rfl
theorem kL_X5_215 : Cond.methodLink RX5 215 yX1_drawThrushes ∈ gtb := gm (tb3 (List.mem_of_getElem? (i := 110) (by decide +kernel))) rfl
theorem kI_X1_drawThrushes : Cond.instanceMethod yX1_drawThrushes ∈ gtb := gm (tb3 (List.mem_of_getElem? (i := 111) (by decide +kernel))) rfl
theorem kV_X1_drawThrushes : Cond.selects RX1 yX1_drawThrushes yX1_drawThrushes ∈ gtb := gm (tb3 (List.mem_of_getElem? (i := 112) (by decide +kernel))) rfl
theorem kC_X1_drawThrushes : Cond.code yX1_drawThrushes cX1_drawThrushes 3 (some FieldType.int) ∈ gtb := gm (tb3 (List.mem_of_getElem? (i := 113) rfl)) rfl
theorem kK_X1_104 : Cond.constant RX1 104 (Int32.ofInt (1103515245)) ∈ gtb := gm (tb3 (List.mem_of_getElem? (i := 114) (by decide +kernel))) rfl
theorem kL_L_145 : Cond.methodLink RL 145 yX5_alone ∈ gtb := gm (tb3 (List.mem_of_getElem? (i := 115) (by decide +kernel))) rfl
theorem kI_X5_alone : Cond.instanceMethod yX5_alone ∈ gtb := gm (tb3 (List.mem_of_getElem? (i := 116) (by decide +kernel))) rfl
theorem kV_X5_alone : Cond.selects RX5 yX5_alone yX5_alone ∈ gtb := gm (tb3 (List.mem_of_getElem? (i := 117) (by decide +kernel))) rfl
theorem kC_X5_alone : Cond.code yX5_alone cX5_alone 9 (some FieldType.long) ∈ gtb := gm (tb3 (List.mem_of_getElem? (i := 118) rfl)) rfl
theorem kL_X5_218 : Cond.methodLink RX5 218 yX5_commonDivisor ∈ gtb := gm (tb3 (List.mem_of_getElem? (i := 119) (by decide +kernel))) rfl
theorem kS_X5_commonDivisor : Cond.static yX5_commonDivisor ∈ gtb := gm (tb3 (List.mem_of_getElem? (i := 120) (by decide +kernel))) rfl
theorem kC_X5_commonDivisor : Cond.code yX5_commonDivisor cX5_commonDivisor 3 (some FieldType.int) ∈ gtb := gm (tb3 (List.mem_of_getElem? (i := 121) rfl)) rfl
theorem kL_L_150 : Cond.methodLink RL 150 yX5_seed ∈ gtb := gm (tb3 (List.mem_of_getElem? (i := 122) (by decide +kernel))) rfl
theorem kI_X5_seed : Cond.instanceMethod yX5_seed ∈ gtb := gm (tb3 (List.mem_of_getElem? (i := 123) (by decide +kernel))) rfl
theorem kV_X5_seed : Cond.selects RX5 yX5_seed yX5_seed ∈ gtb := gm (tb3 (List.mem_of_getElem? (i := 124) (by decide +kernel))) rfl
theorem kC_X5_seed : Cond.code yX5_seed cX5_seed 3 (some FieldType.int) ∈ gtb := gm (tb3 (List.mem_of_getElem? (i := 125) rfl)) rfl
theorem kL_L_154 : Cond.methodLink RL 154 yX5_feed ∈ gtb := gm (tb3 (List.mem_of_getElem? (i := 126) (by decide +kernel))) rfl
theorem kI_X5_feed : Cond.instanceMethod yX5_feed ∈ gtb := gm (tb3 (List.mem_of_getElem? (i := 127) (by decide +kernel))) rfl
theorem kV_X5_feed : Cond.selects RX5 yX5_feed yX5_feed ∈ gtb := gm (tb3 (List.mem_of_getElem? (i := 128) (by decide +kernel))) rfl
theorem kC_X5_feed : Cond.code yX5_feed cX5_feed 3 (some FieldType.int) ∈ gtb := gm (tb3 (List.mem_of_getElem? (i := 129) rfl)) rfl
theorem kL_X5_224 : Cond.methodLink RX5 224 yX3_append ∈ gtb := gm (tb3 (List.mem_of_getElem? (i := 130) (by decide +kernel))) rfl
theorem kI_X3_append : Cond.instanceMethod yX3_append ∈ gtb := gm (tb3 (List.mem_of_getElem? (i := 131) (by decide +kernel))) rfl
theorem kV_X3_append : Cond.selects RX3 yX3_append yX3_append ∈ gtb := gm (tb3 (List.mem_of_getElem? (i := 132) (by decide +kernel))) rfl
theorem kC_X3_append : Cond.code yX3_append cX3_append 4 (some FieldType.boolean) ∈ gtb := gm (tb3 (List.mem_of_getElem? (i := 133) rfl)) rfl
theorem kL_L_158 : Cond.methodLink RL 158 yX5_wipe ∈ gtb := gm (tb3 (List.mem_of_getElem? (i := 134) (by decide +kernel))) rfl
theorem kI_X5_wipe : Cond.instanceMethod yX5_wipe ∈ gtb := gm (tb3 (List.mem_of_getElem? (i := 135) (by decide +kernel))) rfl
theorem kV_X5_wipe : Cond.selects RX5 yX5_wipe yX5_wipe ∈ gtb := gm (tb3 (List.mem_of_getElem? (i := 136) (by decide +kernel))) rfl
theorem kC_X5_wipe : Cond.code yX5_wipe cX5_wipe 2 (some FieldType.int) ∈ gtb := gm (tb3 (List.mem_of_getElem? (i := 137) rfl)) rfl
theorem kL_L_162 : Cond.methodLink RL 162 yX5_text ∈ gtb := gm (tb3 (List.mem_of_getElem? (i := 138) (by decide +kernel))) rfl
theorem kI_X5_text : Cond.instanceMethod yX5_text ∈ gtb := gm (tb3 (List.mem_of_getElem? (i := 139) (by decide +kernel))) rfl
theorem kV_X5_text : Cond.selects RX5 yX5_text yX5_text ∈ gtb := gm (tb3 (List.mem_of_getElem? (i := 140) (by decide +kernel))) rfl
theorem kC_X5_text : Cond.code yX5_text cX5_text 2 (some FieldType.int) ∈ gtb := gm (tb3 (List.mem_of_getElem? (i := 141) rfl)) rfl
theorem kL_X5_230 : Cond.methodLink RX5 230 yX0_draftOf ∈ gtb := gm (tb3 (List.mem_of_getElem? (i := 142) (by decide +kernel))) rfl
theorem kI_X0_draftOf : Cond.instanceMethod yX0_draftOf ∈ gtb := gm (tb3 (List.mem_of_getElem? (i := 143) (by decide +kernel))) rfl
theorem kV_X0_draftOf : Cond.selects RX0 yX0_draftOf yX0_draftOf ∈ gtb := gm (tb3 (List.mem_of_getElem? (i := 144) (by decide +kernel))) rfl
theorem kC_X0_draftOf : Cond.code yX0_draftOf cX0_draftOf 2 (some (FieldType.object "SnailLaws$Republic")) ∈ gtb := gm (tb3 (List.mem_of_getElem? (i := 145) rfl)) rfl
theorem kL_X5_234 : Cond.methodLink RX5 234 yX3_readInto ∈ gtb := gm (tb3 (List.mem_of_getElem? (i := 146) (by decide +kernel))) rfl
theorem kI_X3_readInto : Cond.instanceMethod yX3_readInto ∈ gtb := gm (tb3 (List.mem_of_getElem? (i := 147) (by decide +kernel))) rfl
theorem kV_X3_readInto : Cond.selects RX3 yX3_readInto yX3_readInto ∈ gtb := gm (tb3 (List.mem_of_getElem? (i := 148) (by decide +kernel))) rfl
theorem kC_X3_readInto : Cond.code yX3_readInto cX3_readInto 3 (some FieldType.int) ∈ gtb := gm (tb3 (List.mem_of_getElem? (i := 149) rfl)) rfl
theorem kL_X3_34 : Cond.methodLink RX3 34 yX3_cutTokens ∈ gtb := gm (tb3 (List.mem_of_getElem? (i := 150) (by decide +kernel))) rfl
theorem kI_X3_cutTokens : Cond.instanceMethod yX3_cutTokens ∈ gtb := gm (tb3 (List.mem_of_getElem? (i := 152) (by decide +kernel))) rfl
theorem kC_X3_cutTokens : Cond.code yX3_cutTokens cX3_cutTokens 3 none ∈ gtb := gm (tb3 (List.mem_of_getElem? (i := 153) rfl)) rfl
theorem kL_X3_41 : Cond.methodLink RX3 41 yX3_cutToken ∈ gtb := gm (tb3 (List.mem_of_getElem? (i := 154) (by decide +kernel))) rfl
theorem kI_X3_cutToken : Cond.instanceMethod yX3_cutToken ∈ gtb := gm (tb3 (List.mem_of_getElem? (i := 156) (by decide +kernel))) rfl
theorem kC_X3_cutToken : Cond.code yX3_cutToken cX3_cutToken 6 (some FieldType.int) ∈ gtb := gm (tb3 (List.mem_of_getElem? (i := 157) rfl)) rfl
theorem kL_X3_45 : Cond.methodLink RX3 45 yX3_sortOf ∈ gtb := gm (tb3 (List.mem_of_getElem? (i := 158) (by decide +kernel))) rfl
theorem kS_X3_sortOf : Cond.static yX3_sortOf ∈ gtb := gm (tb3 (List.mem_of_getElem? (i := 159) (by decide +kernel))) rfl
theorem kC_X3_sortOf : Cond.code yX3_sortOf cX3_sortOf 1 (some FieldType.int) ∈ gtb := gm (tb3 (List.mem_of_getElem? (i := 160) rfl)) rfl
theorem kL_X3_49 : Cond.methodLink RX3 49 yX3_valueOf ∈ gtb := gm (tb3 (List.mem_of_getElem? (i := 161) (by decide +kernel))) rfl
theorem kI_X3_valueOf : Cond.instanceMethod yX3_valueOf ∈ gtb := gm (tb3 (List.mem_of_getElem? (i := 163) (by decide +kernel))) rfl
theorem kC_X3_valueOf : Cond.code yX3_valueOf cX3_valueOf 5 (some FieldType.int) ∈ gtb := gm (tb3 (List.mem_of_getElem? (i := 164) rfl)) rfl
theorem kL_X3_52 : Cond.methodLink RX3 52 yJ9_min_7cf53 ∈ gtb := gm (tb3 (List.mem_of_getElem? (i := 165) (by decide +kernel))) rfl
theorem kL_X3_37 : Cond.methodLink RX3 37 yX3_readItem ∈ gtb := gm (tb3 (List.mem_of_getElem? (i := 166) (by decide +kernel))) rfl
theorem kI_X3_readItem : Cond.instanceMethod yX3_readItem ∈ gtb := gm (tb3 (List.mem_of_getElem? (i := 168) (by decide +kernel))) rfl
theorem kC_X3_readItem : Cond.code yX3_readItem cX3_readItem 3 (some FieldType.boolean) ∈ gtb := gm (tb3 (List.mem_of_getElem? (i := 169) rfl)) rfl
theorem kL_X3_57 : Cond.methodLink RX3 57 yX3_kindNamed ∈ gtb := gm (tb3 (List.mem_of_getElem? (i := 170) (by decide +kernel))) rfl
theorem kI_X3_kindNamed : Cond.instanceMethod yX3_kindNamed ∈ gtb := gm (tb3 (List.mem_of_getElem? (i := 172) (by decide +kernel))) rfl
theorem kC_X3_kindNamed : Cond.code yX3_kindNamed cX3_kindNamed 1 (some FieldType.int) ∈ gtb := gm (tb3 (List.mem_of_getElem? (i := 173) rfl)) rfl
theorem kT_X3_94 : Cond.stringRef RX3 94 "snail" ∈ lw_tbl := tb3 (List.mem_of_getElem? (i := 174) (by decide +kernel))
theorem kL_X3_96 : Cond.methodLink RX3 96 yX3_isWord ∈ gtb := gm (tb3 (List.mem_of_getElem? (i := 175) (by decide +kernel))) rfl
theorem kI_X3_isWord : Cond.instanceMethod yX3_isWord ∈ gtb := gm (tb3 (List.mem_of_getElem? (i := 177) (by decide +kernel))) rfl
theorem kC_X3_isWord : Cond.code yX3_isWord cX3_isWord 4 (some FieldType.boolean) ∈ gtb := gm (tb3 (List.mem_of_getElem? (i := 178) rfl)) rfl
theorem kL_X3_155 : Cond.methodLink RX3 155 yJ0_length_8abf5 ∈ gtb := gm (tb3 (List.mem_of_getElem? (i := 179) (by decide +kernel))) rfl
theorem kI_J0_length_8abf5 : Cond.instanceMethod yJ0_length_8abf5 ∈ gtb := gm (tb3 (List.mem_of_getElem? (i := 180) (by decide +kernel))) rfl
theorem kV_J0_length_8abf5 : Cond.selects RJ0 yJ0_length_8abf5 yJ0_length_8abf5 ∈ gtb := gm (tb3 (List.mem_of_getElem? (i := 181) (by decide +kernel))) rfl
theorem kC_J0_length_8abf5 : Cond.code yJ0_length_8abf5 cJ0_length_8abf5 1 (some FieldType.int) ∈ gtb := gm (tb3 (List.mem_of_getElem? (i := 182) rfl)) rfl
theorem kL_J0_335 : Cond.methodLink RJ0 335 yJ0_coder_7d493 ∈ gtb := gm (tb3 (List.mem_of_getElem? (i := 183) (by decide +kernel))) rfl
theorem kI_J0_coder_7d493 : Cond.instanceMethod yJ0_coder_7d493 ∈ gtb := gm (tb3 (List.mem_of_getElem? (i := 184) (by decide +kernel))) rfl
theorem kV_J0_coder_7d493 : Cond.selects RJ0 yJ0_coder_7d493 yJ0_coder_7d493 ∈ gtb := gm (tb3 (List.mem_of_getElem? (i := 185) (by decide +kernel))) rfl
theorem kC_J0_coder_7d493 : Cond.code yJ0_coder_7d493 cJ0_coder_7d493 1 (some FieldType.byte) ∈ gtb := gm (tb3 (List.mem_of_getElem? (i := 186) rfl)) rfl
theorem kF_J0_38 : Cond.fieldLink RJ0 38 RJ0 "COMPACT_STRINGS" "Z" ∈ gtb := gm (tb3 (List.mem_of_getElem? (i := 187) (by decide +kernel))) rfl
theorem kZ_J0_COMPACT_STRINGS : Cond.laysStatic RJ0 "COMPACT_STRINGS" "Z" ∈ lw_tbl := tb3 (List.mem_of_getElem? (i := 188) (by decide +kernel))
theorem kL_X3_160 : Cond.methodLink RX3 160 yJ0_charAt_5068e ∈ gtb := gm (tb3 (List.mem_of_getElem? (i := 189) (by decide +kernel))) rfl
theorem kI_J0_charAt_5068e : Cond.instanceMethod yJ0_charAt_5068e ∈ gtb := gm (tb3 (List.mem_of_getElem? (i := 190) (by decide +kernel))) rfl
theorem kV_J0_charAt_5068e : Cond.selects RJ0 yJ0_charAt_5068e yJ0_charAt_5068e ∈ gtb := gm (tb3 (List.mem_of_getElem? (i := 191) (by decide +kernel))) rfl
theorem kC_J0_charAt_5068e : Cond.code yJ0_charAt_5068e cJ0_charAt_5068e 2 (some FieldType.char) ∈ gtb := gm (tb3 (List.mem_of_getElem? (i := 192) rfl)) rfl
theorem kL_J0_492 : Cond.methodLink RJ0 492 yJ0_isLatin1_aae02 ∈ gtb := gm (tb3 (List.mem_of_getElem? (i := 193) (by decide +kernel))) rfl
theorem kI_J0_isLatin1_aae02 : Cond.instanceMethod yJ0_isLatin1_aae02 ∈ gtb := gm (tb3 (List.mem_of_getElem? (i := 194) (by decide +kernel))) rfl
theorem kV_J0_isLatin1_aae02 : Cond.selects RJ0 yJ0_isLatin1_aae02 yJ0_isLatin1_aae02 ∈ gtb := gm (tb3 (List.mem_of_getElem? (i := 195) (by decide +kernel))) rfl
theorem kC_J0_isLatin1_aae02 : Cond.code yJ0_isLatin1_aae02 cJ0_isLatin1_aae02 1 (some FieldType.boolean) ∈ gtb := gm (tb3 (List.mem_of_getElem? (i := 196) rfl)) rfl
theorem kL_J0_495 : Cond.methodLink RJ0 495 yJ1_charAt_3b067 ∈ gtb := gm (tb3 (List.mem_of_getElem? (i := 197) (by decide +kernel))) rfl
theorem kS_J1_charAt_3b067 : Cond.static yJ1_charAt_3b067 ∈ gtb := gm (tb3 (List.mem_of_getElem? (i := 198) (by decide +kernel))) rfl
theorem kC_J1_charAt_3b067 : Cond.code yJ1_charAt_3b067 cJ1_charAt_3b067 2 (some FieldType.char) ∈ gtb := gm (tb3 (List.mem_of_getElem? (i := 199) rfl)) rfl
theorem kL_J1_9 : Cond.methodLink RJ1 9 yJ0_checkIndex_df160 ∈ gtb := gm (tb3 (List.mem_of_getElem? (i := 200) (by decide +kernel))) rfl
theorem kS_J0_checkIndex_df160 : Cond.static yJ0_checkIndex_df160 ∈ gtb := gm (tb3 (List.mem_of_getElem? (i := 201) (by decide +kernel))) rfl
theorem kC_J0_checkIndex_df160 : Cond.code yJ0_checkIndex_df160 cJ0_checkIndex_df160 2 none ∈ gtb := gm (tb3 (List.mem_of_getElem? (i := 202) rfl)) rfl
theorem kF_J0_1053 : Cond.fieldLink RJ0 1053 RJ3 "SIOOBE_FORMATTER" "Ljava/util/function/BiFunction;" ∈ gtb := gm (tb3 (List.mem_of_getElem? (i := 203) (by decide +kernel))) rfl
theorem kZ_J3_SIOOBE_FORMATTER : Cond.laysStatic RJ3 "SIOOBE_FORMATTER" "Ljava/util/function/BiFunction;" ∈ lw_tbl := tb3 (List.mem_of_getElem? (i := 204) (by decide +kernel))
theorem kL_J0_1059 : Cond.methodLink RJ0 1059 yJ3_checkIndex_8e157 ∈ gtb := gm (tb3 (List.mem_of_getElem? (i := 205) (by decide +kernel))) rfl
theorem kS_J3_checkIndex_8e157 : Cond.static yJ3_checkIndex_8e157 ∈ gtb := gm (tb3 (List.mem_of_getElem? (i := 206) (by decide +kernel))) rfl
theorem kC_J3_checkIndex_8e157 : Cond.code yJ3_checkIndex_8e157 cJ3_checkIndex_8e157 3 (some FieldType.int) ∈ gtb := gm (tb3 (List.mem_of_getElem? (i := 207) rfl)) rfl
theorem kL_J0_498 : Cond.methodLink RJ0 498 yJ2_charAt_3b067 ∈ gtb := gm (tb3 (List.mem_of_getElem? (i := 208) (by decide +kernel))) rfl
theorem kS_J2_charAt_3b067 : Cond.static yJ2_charAt_3b067 ∈ gtb := gm (tb3 (List.mem_of_getElem? (i := 209) (by decide +kernel))) rfl
theorem kC_J2_charAt_3b067 : Cond.code yJ2_charAt_3b067 cJ2_charAt_3b067 2 (some FieldType.char) ∈ gtb := gm (tb3 (List.mem_of_getElem? (i := 210) rfl)) rfl
theorem kL_J2_67 : Cond.methodLink RJ2 67 yJ2_checkIndex_2214a ∈ gtb := gm (tb3 (List.mem_of_getElem? (i := 211) (by decide +kernel))) rfl
theorem kS_J2_checkIndex_2214a : Cond.static yJ2_checkIndex_2214a ∈ gtb := gm (tb3 (List.mem_of_getElem? (i := 212) (by decide +kernel))) rfl
theorem kC_J2_checkIndex_2214a : Cond.code yJ2_checkIndex_2214a cJ2_checkIndex_2214a 2 none ∈ gtb := gm (tb3 (List.mem_of_getElem? (i := 213) rfl)) rfl
theorem kL_J2_48 : Cond.methodLink RJ2 48 yJ2_length_9d52b ∈ gtb := gm (tb3 (List.mem_of_getElem? (i := 214) (by decide +kernel))) rfl
theorem kS_J2_length_9d52b : Cond.static yJ2_length_9d52b ∈ gtb := gm (tb3 (List.mem_of_getElem? (i := 215) (by decide +kernel))) rfl
theorem kC_J2_length_9d52b : Cond.code yJ2_length_9d52b cJ2_length_9d52b 1 (some FieldType.int) ∈ gtb := gm (tb3 (List.mem_of_getElem? (i := 216) rfl)) rfl
theorem kL_J2_414 : Cond.methodLink RJ2 414 yJ0_checkIndex_df160 ∈ gtb := gm (tb3 (List.mem_of_getElem? (i := 217) (by decide +kernel))) rfl
theorem kL_J2_71 : Cond.methodLink RJ2 71 yJ2_getChar_3b067 ∈ gtb := gm (tb3 (List.mem_of_getElem? (i := 218) (by decide +kernel))) rfl
theorem kS_J2_getChar_3b067 : Cond.static yJ2_getChar_3b067 ∈ gtb := gm (tb3 (List.mem_of_getElem? (i := 219) (by decide +kernel))) rfl
theorem kC_J2_getChar_3b067 : Cond.code yJ2_getChar_3b067 cJ2_getChar_3b067 2 (some FieldType.char) ∈ gtb := gm (tb3 (List.mem_of_getElem? (i := 220) rfl)) rfl
theorem kF_J2_44 : Cond.fieldLink RJ2 44 RJ2 "$assertionsDisabled" "Z" ∈ gtb := gm (tb3 (List.mem_of_getElem? (i := 221) (by decide +kernel))) rfl
theorem kZ_J2__assertionsDisabled : Cond.laysStatic RJ2 "$assertionsDisabled" "Z" ∈ lw_tbl := tb3 (List.mem_of_getElem? (i := 222) (by decide +kernel))
theorem kF_J2_59 : Cond.fieldLink RJ2 59 RJ2 "HI_BYTE_SHIFT" "I" ∈ gtb := gm (tb3 (List.mem_of_getElem? (i := 223) (by decide +kernel))) rfl
theorem kZ_J2_HI_BYTE_SHIFT : Cond.laysStatic RJ2 "HI_BYTE_SHIFT" "I" ∈ lw_tbl := tb3 (List.mem_of_getElem? (i := 224) (by decide +kernel))
theorem kF_J2_63 : Cond.fieldLink RJ2 63 RJ2 "LO_BYTE_SHIFT" "I" ∈ gtb := gm (tb3 (List.mem_of_getElem? (i := 225) (by decide +kernel))) rfl
theorem kZ_J2_LO_BYTE_SHIFT : Cond.laysStatic RJ2 "LO_BYTE_SHIFT" "I" ∈ lw_tbl := tb3 (List.mem_of_getElem? (i := 226) (by decide +kernel))
theorem kT_X3_99 : Cond.stringRef RX3 99 "greedy" ∈ lw_tbl := tb3 (List.mem_of_getElem? (i := 227) (by decide +kernel))
theorem kT_X3_101 : Cond.stringRef RX3 101 "slow" ∈ lw_tbl := tb3 (List.mem_of_getElem? (i := 228) (by decide +kernel))
theorem kT_X3_103 : Cond.stringRef RX3 103 "sleepy" ∈ lw_tbl := tb3 (List.mem_of_getElem? (i := 229) (by decide +kernel))
theorem kT_X3_105 : Cond.stringRef RX3 105 "elder" ∈ lw_tbl := tb3 (List.mem_of_getElem? (i := 230) (by decide +kernel))
theorem kT_X3_107 : Cond.stringRef RX3 107 "borne" ∈ lw_tbl := tb3 (List.mem_of_getElem? (i := 231) (by decide +kernel))
theorem kT_X3_109 : Cond.stringRef RX3 109 "glutton" ∈ lw_tbl := tb3 (List.mem_of_getElem? (i := 232) (by decide +kernel))
theorem kL_X3_61 : Cond.methodLink RX3 61 yX3_readSnail ∈ gtb := gm (tb3 (List.mem_of_getElem? (i := 233) (by decide +kernel))) rfl
theorem kI_X3_readSnail : Cond.instanceMethod yX3_readSnail ∈ gtb := gm (tb3 (List.mem_of_getElem? (i := 235) (by decide +kernel))) rfl
theorem kC_X3_readSnail : Cond.code yX3_readSnail cX3_readSnail 8 (some FieldType.boolean) ∈ gtb := gm (tb3 (List.mem_of_getElem? (i := 236) rfl)) rfl
theorem kL_X3_111 : Cond.methodLink RX3 111 yX1_addSnail ∈ gtb := gm (tb3 (List.mem_of_getElem? (i := 237) (by decide +kernel))) rfl
theorem kT_X3_116 : Cond.stringRef RX3 116 "at" ∈ lw_tbl := tb3 (List.mem_of_getElem? (i := 238) (by decide +kernel))
theorem kL_X3_117 : Cond.methodLink RX3 117 yX3_takePart ∈ gtb := gm (tb3 (List.mem_of_getElem? (i := 239) (by decide +kernel))) rfl
theorem kI_X3_takePart : Cond.instanceMethod yX3_takePart ∈ gtb := gm (tb4 (List.mem_of_getElem? (i := 1) (by decide +kernel))) rfl
theorem kC_X3_takePart : Cond.code yX3_takePart cX3_takePart 4 (some FieldType.int) ∈ gtb := gm (tb4 (List.mem_of_getElem? (i := 2) rfl)) rfl
theorem kL_X3_67 : Cond.methodLink RX3 67 yX3_skipWord ∈ gtb := gm (tb4 (List.mem_of_getElem? (i := 3) (by decide +kernel))) rfl
theorem kI_X3_skipWord : Cond.instanceMethod yX3_skipWord ∈ gtb := gm (tb4 (List.mem_of_getElem? (i := 5) (by decide +kernel))) rfl
theorem kC_X3_skipWord : Cond.code yX3_skipWord cX3_skipWord 2 (some FieldType.boolean) ∈ gtb := gm (tb4 (List.mem_of_getElem? (i := 6) rfl)) rfl
theorem kL_X3_139 : Cond.methodLink RX3 139 yX3_takeNumber ∈ gtb := gm (tb4 (List.mem_of_getElem? (i := 7) (by decide +kernel))) rfl
theorem kI_X3_takeNumber : Cond.instanceMethod yX3_takeNumber ∈ gtb := gm (tb4 (List.mem_of_getElem? (i := 9) (by decide +kernel))) rfl
theorem kC_X3_takeNumber : Cond.code yX3_takeNumber cX3_takeNumber 3 (some FieldType.int) ∈ gtb := gm (tb4 (List.mem_of_getElem? (i := 10) rfl)) rfl
theorem kT_X3_121 : Cond.stringRef RX3 121 "law" ∈ lw_tbl := tb4 (List.mem_of_getElem? (i := 11) (by decide +kernel))
theorem kT_X3_123 : Cond.stringRef RX3 123 "gate" ∈ lw_tbl := tb4 (List.mem_of_getElem? (i := 12) (by decide +kernel))
theorem kT_X3_125 : Cond.stringRef RX3 125 "price" ∈ lw_tbl := tb4 (List.mem_of_getElem? (i := 13) (by decide +kernel))
theorem kT_X3_65 : Cond.stringRef RX3 65 "hedge" ∈ lw_tbl := tb4 (List.mem_of_getElem? (i := 14) (by decide +kernel))
theorem kL_X3_71 : Cond.methodLink RX3 71 yX3_readHedge ∈ gtb := gm (tb4 (List.mem_of_getElem? (i := 15) (by decide +kernel))) rfl
theorem kI_X3_readHedge : Cond.instanceMethod yX3_readHedge ∈ gtb := gm (tb4 (List.mem_of_getElem? (i := 17) (by decide +kernel))) rfl
theorem kC_X3_readHedge : Cond.code yX3_readHedge cX3_readHedge 3 (some FieldType.boolean) ∈ gtb := gm (tb4 (List.mem_of_getElem? (i := 18) rfl)) rfl
theorem kT_X3_74 : Cond.stringRef RX3 74 "greens" ∈ lw_tbl := tb4 (List.mem_of_getElem? (i := 19) (by decide +kernel))
theorem kL_X3_76 : Cond.methodLink RX3 76 yX3_readGreens ∈ gtb := gm (tb4 (List.mem_of_getElem? (i := 20) (by decide +kernel))) rfl
theorem kI_X3_readGreens : Cond.instanceMethod yX3_readGreens ∈ gtb := gm (tb4 (List.mem_of_getElem? (i := 22) (by decide +kernel))) rfl
theorem kC_X3_readGreens : Cond.code yX3_readGreens cX3_readGreens 4 (some FieldType.boolean) ∈ gtb := gm (tb4 (List.mem_of_getElem? (i := 23) rfl)) rfl
theorem kT_X3_79 : Cond.stringRef RX3 79 "bans" ∈ lw_tbl := tb4 (List.mem_of_getElem? (i := 24) (by decide +kernel))
theorem kL_X3_81 : Cond.methodLink RX3 81 yX3_readBans ∈ gtb := gm (tb4 (List.mem_of_getElem? (i := 25) (by decide +kernel))) rfl
theorem kI_X3_readBans : Cond.instanceMethod yX3_readBans ∈ gtb := gm (tb4 (List.mem_of_getElem? (i := 27) (by decide +kernel))) rfl
theorem kC_X3_readBans : Cond.code yX3_readBans cX3_readBans 4 (some FieldType.boolean) ∈ gtb := gm (tb4 (List.mem_of_getElem? (i := 28) rfl)) rfl
theorem kT_X3_84 : Cond.stringRef RX3 84 "wet" ∈ lw_tbl := tb4 (List.mem_of_getElem? (i := 29) (by decide +kernel))
theorem kL_X3_86 : Cond.methodLink RX3 86 yX3_readWet ∈ gtb := gm (tb4 (List.mem_of_getElem? (i := 30) (by decide +kernel))) rfl
theorem kI_X3_readWet : Cond.instanceMethod yX3_readWet ∈ gtb := gm (tb4 (List.mem_of_getElem? (i := 32) (by decide +kernel))) rfl
theorem kC_X3_readWet : Cond.code yX3_readWet cX3_readWet 3 (some FieldType.boolean) ∈ gtb := gm (tb4 (List.mem_of_getElem? (i := 33) rfl)) rfl
theorem kT_X3_89 : Cond.stringRef RX3 89 "thrush" ∈ lw_tbl := tb4 (List.mem_of_getElem? (i := 34) (by decide +kernel))
theorem kL_X3_91 : Cond.methodLink RX3 91 yX3_readThrush ∈ gtb := gm (tb4 (List.mem_of_getElem? (i := 35) (by decide +kernel))) rfl
theorem kI_X3_readThrush : Cond.instanceMethod yX3_readThrush ∈ gtb := gm (tb4 (List.mem_of_getElem? (i := 37) (by decide +kernel))) rfl
theorem kC_X3_readThrush : Cond.code yX3_readThrush cX3_readThrush 3 (some FieldType.boolean) ∈ gtb := gm (tb4 (List.mem_of_getElem? (i := 38) rfl)) rfl
theorem kL_X5_241 : Cond.methodLink RX5 241 yX1_become ∈ gtb := gm (tb4 (List.mem_of_getElem? (i := 39) (by decide +kernel))) rfl
theorem kA_byte : Cond.arrayClass .byte ∈ gtb := gm (tb4 (List.mem_of_getElem? (i := 40) (by decide +kernel))) rfl
theorem kL_L_166 : Cond.methodLink RL 166 yX5_hold ∈ gtb := gm (tb4 (List.mem_of_getElem? (i := 41) (by decide +kernel))) rfl
theorem kI_X5_hold : Cond.instanceMethod yX5_hold ∈ gtb := gm (tb4 (List.mem_of_getElem? (i := 42) (by decide +kernel))) rfl
theorem kV_X5_hold : Cond.selects RX5 yX5_hold yX5_hold ∈ gtb := gm (tb4 (List.mem_of_getElem? (i := 43) (by decide +kernel))) rfl
theorem kC_X5_hold : Cond.code yX5_hold cX5_hold 3 (some FieldType.int) ∈ gtb := gm (tb4 (List.mem_of_getElem? (i := 44) rfl)) rfl
theorem kL_L_170 : Cond.methodLink RL 170 yX5_as ∈ gtb := gm (tb4 (List.mem_of_getElem? (i := 45) (by decide +kernel))) rfl
theorem kI_X5_as : Cond.instanceMethod yX5_as ∈ gtb := gm (tb4 (List.mem_of_getElem? (i := 46) (by decide +kernel))) rfl
theorem kV_X5_as : Cond.selects RX5 yX5_as yX5_as ∈ gtb := gm (tb4 (List.mem_of_getElem? (i := 47) (by decide +kernel))) rfl
theorem kC_X5_as : Cond.code yX5_as cX5_as 4 (some FieldType.int) ∈ gtb := gm (tb4 (List.mem_of_getElem? (i := 48) rfl)) rfl
theorem kL_X5_248 : Cond.methodLink RX5 248 yX5_isOfKind ∈ gtb := gm (tb4 (List.mem_of_getElem? (i := 49) (by decide +kernel))) rfl
theorem kK_X5_251 : Cond.constant RX5 251 (Int32.ofInt (-1000003)) ∈ gtb := gm (tb4 (List.mem_of_getElem? (i := 50) (by decide +kernel))) rfl
theorem kL_L_174 : Cond.methodLink RL 174 yX5_sheet ∈ gtb := gm (tb4 (List.mem_of_getElem? (i := 51) (by decide +kernel))) rfl
theorem kI_X5_sheet : Cond.instanceMethod yX5_sheet ∈ gtb := gm (tb4 (List.mem_of_getElem? (i := 52) (by decide +kernel))) rfl
theorem kV_X5_sheet : Cond.selects RX5 yX5_sheet yX5_sheet ∈ gtb := gm (tb4 (List.mem_of_getElem? (i := 53) (by decide +kernel))) rfl
theorem kC_X5_sheet : Cond.code yX5_sheet cX5_sheet 4 (some FieldType.int) ∈ gtb := gm (tb4 (List.mem_of_getElem? (i := 54) rfl)) rfl
theorem kL_X5_255 : Cond.methodLink RX5 255 yX5_isBits ∈ gtb := gm (tb4 (List.mem_of_getElem? (i := 55) (by decide +kernel))) rfl
theorem kS_X5_isBits : Cond.static yX5_isBits ∈ gtb := gm (tb4 (List.mem_of_getElem? (i := 56) (by decide +kernel))) rfl
theorem kC_X5_isBits : Cond.code yX5_isBits cX5_isBits 1 (some FieldType.boolean) ∈ gtb := gm (tb4 (List.mem_of_getElem? (i := 57) rfl)) rfl
theorem kK_X5_258 : Cond.constant RX5 258 (Int32.ofInt (-1000007)) ∈ gtb := gm (tb4 (List.mem_of_getElem? (i := 58) (by decide +kernel))) rfl
theorem kL_X5_259 : Cond.methodLink RX5 259 yX2_lay ∈ gtb := gm (tb4 (List.mem_of_getElem? (i := 59) (by decide +kernel))) rfl
theorem kI_X2_lay : Cond.instanceMethod yX2_lay ∈ gtb := gm (tb4 (List.mem_of_getElem? (i := 60) (by decide +kernel))) rfl
theorem kV_X2_lay : Cond.selects RX2 yX2_lay yX2_lay ∈ gtb := gm (tb4 (List.mem_of_getElem? (i := 61) (by decide +kernel))) rfl
theorem kC_X2_lay : Cond.code yX2_lay cX2_lay 5 none ∈ gtb := gm (tb4 (List.mem_of_getElem? (i := 62) rfl)) rfl
theorem kL_L_178 : Cond.methodLink RL 178 yX5_write ∈ gtb := gm (tb4 (List.mem_of_getElem? (i := 63) (by decide +kernel))) rfl
theorem kI_X5_write : Cond.instanceMethod yX5_write ∈ gtb := gm (tb4 (List.mem_of_getElem? (i := 64) (by decide +kernel))) rfl
theorem kV_X5_write : Cond.selects RX5 yX5_write yX5_write ∈ gtb := gm (tb4 (List.mem_of_getElem? (i := 65) (by decide +kernel))) rfl
theorem kC_X5_write : Cond.code yX5_write cX5_write 5 (some FieldType.int) ∈ gtb := gm (tb4 (List.mem_of_getElem? (i := 66) rfl)) rfl
theorem kL_X5_269 : Cond.methodLink RX5 269 yX2_put ∈ gtb := gm (tb4 (List.mem_of_getElem? (i := 67) (by decide +kernel))) rfl
theorem kI_X2_put : Cond.instanceMethod yX2_put ∈ gtb := gm (tb4 (List.mem_of_getElem? (i := 68) (by decide +kernel))) rfl
theorem kV_X2_put : Cond.selects RX2 yX2_put yX2_put ∈ gtb := gm (tb4 (List.mem_of_getElem? (i := 69) (by decide +kernel))) rfl
theorem kC_X2_put : Cond.code yX2_put cX2_put 5 none ∈ gtb := gm (tb4 (List.mem_of_getElem? (i := 70) rfl)) rfl
theorem kL_L_182 : Cond.methodLink RL 182 yX5_copy ∈ gtb := gm (tb4 (List.mem_of_getElem? (i := 71) (by decide +kernel))) rfl
theorem kI_X5_copy : Cond.instanceMethod yX5_copy ∈ gtb := gm (tb4 (List.mem_of_getElem? (i := 72) (by decide +kernel))) rfl
theorem kV_X5_copy : Cond.selects RX5 yX5_copy yX5_copy ∈ gtb := gm (tb4 (List.mem_of_getElem? (i := 73) (by decide +kernel))) rfl
theorem kC_X5_copy : Cond.code yX5_copy cX5_copy 6 (some FieldType.int) ∈ gtb := gm (tb4 (List.mem_of_getElem? (i := 74) rfl)) rfl
theorem kL_X5_278 : Cond.methodLink RX5 278 yX2_hasRun ∈ gtb := gm (tb4 (List.mem_of_getElem? (i := 75) (by decide +kernel))) rfl
theorem kI_X2_hasRun : Cond.instanceMethod yX2_hasRun ∈ gtb := gm (tb4 (List.mem_of_getElem? (i := 76) (by decide +kernel))) rfl
theorem kV_X2_hasRun : Cond.selects RX2 yX2_hasRun yX2_hasRun ∈ gtb := gm (tb4 (List.mem_of_getElem? (i := 77) (by decide +kernel))) rfl
theorem kC_X2_hasRun : Cond.code yX2_hasRun cX2_hasRun 4 (some FieldType.boolean) ∈ gtb := gm (tb4 (List.mem_of_getElem? (i := 78) rfl)) rfl
theorem kL_X5_282 : Cond.methodLink RX5 282 yX2_carry ∈ gtb := gm (tb4 (List.mem_of_getElem? (i := 79) (by decide +kernel))) rfl
theorem kI_X2_carry : Cond.instanceMethod yX2_carry ∈ gtb := gm (tb4 (List.mem_of_getElem? (i := 80) (by decide +kernel))) rfl
theorem kV_X2_carry : Cond.selects RX2 yX2_carry yX2_carry ∈ gtb := gm (tb4 (List.mem_of_getElem? (i := 81) (by decide +kernel))) rfl
theorem kC_X2_carry : Cond.code yX2_carry cX2_carry 6 none ∈ gtb := gm (tb4 (List.mem_of_getElem? (i := 82) rfl)) rfl
theorem kL_X2_21 : Cond.methodLink RX2 21 (⟨"java/lang/System", "arraycopy", "(Ljava/lang/Object;ILjava/lang/Object;II)V"⟩ : MethodName) ∈ gtb := gm (tb4 (List.mem_of_getElem? (i := 83) (by decide +kernel))) rfl
theorem kL_L_187 : Cond.methodLink RL 187 yX5_load ∈ gtb := gm (tb4 (List.mem_of_getElem? (i := 84) (by decide +kernel))) rfl
theorem kI_X5_load : Cond.instanceMethod yX5_load ∈ gtb := gm (tb4 (List.mem_of_getElem? (i := 85) (by decide +kernel))) rfl
theorem kV_X5_load : Cond.selects RX5 yX5_load yX5_load ∈ gtb := gm (tb4 (List.mem_of_getElem? (i := 86) (by decide +kernel))) rfl
theorem kC_X5_load : Cond.code yX5_load cX5_load 4 (some FieldType.int) ∈ gtb := gm (tb4 (List.mem_of_getElem? (i := 87) rfl)) rfl
theorem kL_X5_286 : Cond.methodLink RX5 286 yX2_numberAt ∈ gtb := gm (tb4 (List.mem_of_getElem? (i := 88) (by decide +kernel))) rfl
theorem kL_L_191 : Cond.methodLink RL 191 yX5_judge ∈ gtb := gm (tb4 (List.mem_of_getElem? (i := 89) (by decide +kernel))) rfl
theorem kI_X5_judge : Cond.instanceMethod yX5_judge ∈ gtb := gm (tb4 (List.mem_of_getElem? (i := 90) (by decide +kernel))) rfl
theorem kV_X5_judge : Cond.selects RX5 yX5_judge yX5_judge ∈ gtb := gm (tb4 (List.mem_of_getElem? (i := 91) (by decide +kernel))) rfl
theorem kC_X5_judge : Cond.code yX5_judge cX5_judge 4 (some FieldType.int) ∈ gtb := gm (tb4 (List.mem_of_getElem? (i := 92) rfl)) rfl
theorem kL_L_195 : Cond.methodLink RL 195 yX5_image ∈ gtb := gm (tb4 (List.mem_of_getElem? (i := 93) (by decide +kernel))) rfl
theorem kI_X5_image : Cond.instanceMethod yX5_image ∈ gtb := gm (tb4 (List.mem_of_getElem? (i := 94) (by decide +kernel))) rfl
theorem kV_X5_image : Cond.selects RX5 yX5_image yX5_image ∈ gtb := gm (tb4 (List.mem_of_getElem? (i := 95) (by decide +kernel))) rfl
theorem kC_X5_image : Cond.code yX5_image cX5_image 1 (some FieldType.int) ∈ gtb := gm (tb4 (List.mem_of_getElem? (i := 96) rfl)) rfl
theorem kL_L_199 : Cond.methodLink RL 199 yX5_undo ∈ gtb := gm (tb4 (List.mem_of_getElem? (i := 97) (by decide +kernel))) rfl
theorem kI_X5_undo : Cond.instanceMethod yX5_undo ∈ gtb := gm (tb4 (List.mem_of_getElem? (i := 98) (by decide +kernel))) rfl
theorem kV_X5_undo : Cond.selects RX5 yX5_undo yX5_undo ∈ gtb := gm (tb4 (List.mem_of_getElem? (i := 99) (by decide +kernel))) rfl
theorem kC_X5_undo : Cond.code yX5_undo cX5_undo 1 (some FieldType.int) ∈ gtb := gm (tb4 (List.mem_of_getElem? (i := 100) rfl)) rfl
theorem kL_L_203 : Cond.methodLink RL 203 yX5_tear ∈ gtb := gm (tb4 (List.mem_of_getElem? (i := 101) (by decide +kernel))) rfl
theorem kI_X5_tear : Cond.instanceMethod yX5_tear ∈ gtb := gm (tb4 (List.mem_of_getElem? (i := 102) (by decide +kernel))) rfl
theorem kV_X5_tear : Cond.selects RX5 yX5_tear yX5_tear ∈ gtb := gm (tb4 (List.mem_of_getElem? (i := 103) (by decide +kernel))) rfl
theorem kC_X5_tear : Cond.code yX5_tear cX5_tear 2 (some FieldType.int) ∈ gtb := gm (tb4 (List.mem_of_getElem? (i := 104) rfl)) rfl
theorem kL_L_207 : Cond.methodLink RL 207 yX5_count ∈ gtb := gm (tb4 (List.mem_of_getElem? (i := 105) (by decide +kernel))) rfl
theorem kI_X5_count : Cond.instanceMethod yX5_count ∈ gtb := gm (tb4 (List.mem_of_getElem? (i := 106) (by decide +kernel))) rfl
theorem kV_X5_count : Cond.selects RX5 yX5_count yX5_count ∈ gtb := gm (tb4 (List.mem_of_getElem? (i := 107) (by decide +kernel))) rfl
theorem kC_X5_count : Cond.code yX5_count cX5_count 2 (some FieldType.int) ∈ gtb := gm (tb4 (List.mem_of_getElem? (i := 108) rfl)) rfl
theorem kL_X5_292 : Cond.methodLink RX5 292 yX1_allHedges ∈ gtb := gm (tb4 (List.mem_of_getElem? (i := 109) (by decide +kernel))) rfl
theorem kI_X1_allHedges : Cond.instanceMethod yX1_allHedges ∈ gtb := gm (tb4 (List.mem_of_getElem? (i := 110) (by decide +kernel))) rfl
theorem kV_X1_allHedges : Cond.selects RX1 yX1_allHedges yX1_allHedges ∈ gtb := gm (tb4 (List.mem_of_getElem? (i := 111) (by decide +kernel))) rfl
theorem kC_X1_allHedges : Cond.code yX1_allHedges cX1_allHedges 1 (some FieldType.int) ∈ gtb := gm (tb4 (List.mem_of_getElem? (i := 112) rfl)) rfl
theorem kL_X5_295 : Cond.methodLink RX5 295 yX1_heldSpots ∈ gtb := gm (tb4 (List.mem_of_getElem? (i := 113) (by decide +kernel))) rfl
theorem kI_X1_heldSpots : Cond.instanceMethod yX1_heldSpots ∈ gtb := gm (tb4 (List.mem_of_getElem? (i := 114) (by decide +kernel))) rfl
theorem kV_X1_heldSpots : Cond.selects RX1 yX1_heldSpots yX1_heldSpots ∈ gtb := gm (tb4 (List.mem_of_getElem? (i := 115) (by decide +kernel))) rfl
theorem kC_X1_heldSpots : Cond.code yX1_heldSpots cX1_heldSpots 3 (some FieldType.int) ∈ gtb := gm (tb4 (List.mem_of_getElem? (i := 116) rfl)) rfl
theorem kL_L_211 : Cond.methodLink RL 211 yX5_status ∈ gtb := gm (tb4 (List.mem_of_getElem? (i := 117) (by decide +kernel))) rfl
theorem kI_X5_status : Cond.instanceMethod yX5_status ∈ gtb := gm (tb4 (List.mem_of_getElem? (i := 118) (by decide +kernel))) rfl
theorem kV_X5_status : Cond.selects RX5 yX5_status yX5_status ∈ gtb := gm (tb4 (List.mem_of_getElem? (i := 119) (by decide +kernel))) rfl
theorem kC_X5_status : Cond.code yX5_status cX5_status 4 (some FieldType.int) ∈ gtb := gm (tb4 (List.mem_of_getElem? (i := 120) rfl)) rfl
theorem kB_L_10 : Cond.classLink RL 10 RX6 ∈ gtb := gm (tb4 (List.mem_of_getElem? (i := 121) (by decide +kernel))) rfl
theorem kO_X6 : Cond.instantiable RX6 22 ∈ gtb := gm (tb4 (List.mem_of_getElem? (i := 122) (by decide +kernel))) rfl
theorem kL_L_12 : Cond.methodLink RL 12 yX6_init ∈ gtb := gm (tb4 (List.mem_of_getElem? (i := 123) (by decide +kernel))) rfl
theorem kI_X6_init : Cond.instanceMethod yX6_init ∈ gtb := gm (tb4 (List.mem_of_getElem? (i := 124) (by decide +kernel))) rfl
theorem kC_X6_init : Cond.code yX6_init cX6_init 2 none ∈ gtb := gm (tb4 (List.mem_of_getElem? (i := 125) rfl)) rfl
theorem kL_X6_1 : Cond.methodLink RX6 1 (⟨"java/lang/Object", "<init>", "()V"⟩ : MethodName) ∈ gtb := gm (tb4 (List.mem_of_getElem? (i := 126) (by decide +kernel))) rfl
theorem kF_X6_9 : Cond.fieldLink RX6 9 RX6 "s" "[I" ∈ gtb := gm (tb4 (List.mem_of_getElem? (i := 127) (by decide +kernel))) rfl
theorem kF_X6_13 : Cond.fieldLink RX6 13 RX6 "kept" "[I" ∈ gtb := gm (tb4 (List.mem_of_getElem? (i := 128) (by decide +kernel))) rfl
theorem kF_X6_16 : Cond.fieldLink RX6 16 RX6 "aside" "[I" ∈ gtb := gm (tb4 (List.mem_of_getElem? (i := 129) (by decide +kernel))) rfl
theorem kF_X6_253 : Cond.fieldLink RX6 253 RX6 "isKept" "Z" ∈ gtb := gm (tb4 (List.mem_of_getElem? (i := 130) (by decide +kernel))) rfl
theorem kF_X6_19 : Cond.fieldLink RX6 19 RX6 "found" "[I" ∈ gtb := gm (tb4 (List.mem_of_getElem? (i := 131) (by decide +kernel))) rfl
theorem kF_X6_22 : Cond.fieldLink RX6 22 RX6 "fars" "[I" ∈ gtb := gm (tb4 (List.mem_of_getElem? (i := 132) (by decide +kernel))) rfl
theorem kF_X6_25 : Cond.fieldLink RX6 25 RX6 "order" "[I" ∈ gtb := gm (tb4 (List.mem_of_getElem? (i := 133) (by decide +kernel))) rfl
theorem kF_X6_28 : Cond.fieldLink RX6 28 RX6 "isBarred" "[Z" ∈ gtb := gm (tb4 (List.mem_of_getElem? (i := 134) (by decide +kernel))) rfl
theorem kF_X6_32 : Cond.fieldLink RX6 32 RX6 "clashedAt" "[I" ∈ gtb := gm (tb4 (List.mem_of_getElem? (i := 135) (by decide +kernel))) rfl
theorem kF_X6_35 : Cond.fieldLink RX6 35 RX6 "tape" "[I" ∈ gtb := gm (tb4 (List.mem_of_getElem? (i := 136) (by decide +kernel))) rfl
theorem kF_X6_195 : Cond.fieldLink RX6 195 RX6 "taped" "I" ∈ gtb := gm (tb4 (List.mem_of_getElem? (i := 137) (by decide +kernel))) rfl
theorem kF_X6_209 : Cond.fieldLink RX6 209 RX6 "token" "I" ∈ gtb := gm (tb4 (List.mem_of_getElem? (i := 138) (by decide +kernel))) rfl
theorem kF_X6_202 : Cond.fieldLink RX6 202 RX6 "begun" "I" ∈ gtb := gm (tb4 (List.mem_of_getElem? (i := 139) (by decide +kernel))) rfl
theorem kF_X6_199 : Cond.fieldLink RX6 199 RX6 "ended" "I" ∈ gtb := gm (tb4 (List.mem_of_getElem? (i := 140) (by decide +kernel))) rfl
theorem kF_X6_205 : Cond.fieldLink RX6 205 RX6 "value" "J" ∈ gtb := gm (tb4 (List.mem_of_getElem? (i := 141) (by decide +kernel))) rfl
theorem kF_X6_38 : Cond.fieldLink RX6 38 RX6 "letters" "[C" ∈ gtb := gm (tb4 (List.mem_of_getElem? (i := 142) (by decide +kernel))) rfl
theorem kF_X6_42 : Cond.fieldLink RX6 42 RX6 "more" "[C" ∈ gtb := gm (tb4 (List.mem_of_getElem? (i := 143) (by decide +kernel))) rfl
theorem kF_X6_45 : Cond.fieldLink RX6 45 RX6 "others" "[C" ∈ gtb := gm (tb4 (List.mem_of_getElem? (i := 144) (by decide +kernel))) rfl
theorem kF_X6_48 : Cond.fieldLink RX6 48 RX6 "widths" "[I" ∈ gtb := gm (tb4 (List.mem_of_getElem? (i := 145) (by decide +kernel))) rfl
theorem kF_X6_51 : Cond.fieldLink RX6 51 RX6 "sizes" "[I" ∈ gtb := gm (tb4 (List.mem_of_getElem? (i := 146) (by decide +kernel))) rfl
theorem kF_X6_54 : Cond.fieldLink RX6 54 RX6 "cells" "[I" ∈ gtb := gm (tb4 (List.mem_of_getElem? (i := 147) (by decide +kernel))) rfl
theorem kF_X6_57 : Cond.fieldLink RX6 57 RX6 "carried" "[I" ∈ gtb := gm (tb4 (List.mem_of_getElem? (i := 148) (by decide +kernel))) rfl
theorem kY_X6_s : Cond.laysFinal RX6 "SnailLawsModel" "s" "[I" ∈ gtb := gm (tb4 (List.mem_of_getElem? (i := 149) (by decide +kernel))) rfl
theorem kY_X6_kept : Cond.laysFinal RX6 "SnailLawsModel" "kept" "[I" ∈ gtb := gm (tb4 (List.mem_of_getElem? (i := 151) (by decide +kernel))) rfl
theorem kY_X6_aside : Cond.laysFinal RX6 "SnailLawsModel" "aside" "[I" ∈ gtb := gm (tb4 (List.mem_of_getElem? (i := 153) (by decide +kernel))) rfl
theorem kY_X6_isKept : Cond.lays RX6 "SnailLawsModel" "isKept" "Z" ∈ gtb := gm (tb4 (List.mem_of_getElem? (i := 155) (by decide +kernel))) rfl
theorem kY_X6_found : Cond.laysFinal RX6 "SnailLawsModel" "found" "[I" ∈ gtb := gm (tb4 (List.mem_of_getElem? (i := 157) (by decide +kernel))) rfl
theorem kY_X6_fars : Cond.laysFinal RX6 "SnailLawsModel" "fars" "[I" ∈ gtb := gm (tb4 (List.mem_of_getElem? (i := 159) (by decide +kernel))) rfl
theorem kY_X6_order : Cond.laysFinal RX6 "SnailLawsModel" "order" "[I" ∈ gtb := gm (tb4 (List.mem_of_getElem? (i := 161) (by decide +kernel))) rfl
theorem kY_X6_isBarred : Cond.laysFinal RX6 "SnailLawsModel" "isBarred" "[Z" ∈ gtb := gm (tb4 (List.mem_of_getElem? (i := 163) (by decide +kernel))) rfl
theorem kY_X6_clashedAt : Cond.laysFinal RX6 "SnailLawsModel" "clashedAt" "[I" ∈ gtb := gm (tb4 (List.mem_of_getElem? (i := 165) (by decide +kernel))) rfl
theorem kY_X6_tape : Cond.laysFinal RX6 "SnailLawsModel" "tape" "[I" ∈ gtb := gm (tb4 (List.mem_of_getElem? (i := 167) (by decide +kernel))) rfl
theorem kY_X6_taped : Cond.lays RX6 "SnailLawsModel" "taped" "I" ∈ gtb := gm (tb4 (List.mem_of_getElem? (i := 169) (by decide +kernel))) rfl
theorem kY_X6_token : Cond.lays RX6 "SnailLawsModel" "token" "I" ∈ gtb := gm (tb4 (List.mem_of_getElem? (i := 171) (by decide +kernel))) rfl
theorem kY_X6_begun : Cond.lays RX6 "SnailLawsModel" "begun" "I" ∈ gtb := gm (tb4 (List.mem_of_getElem? (i := 173) (by decide +kernel))) rfl
theorem kY_X6_ended : Cond.lays RX6 "SnailLawsModel" "ended" "I" ∈ gtb := gm (tb4 (List.mem_of_getElem? (i := 175) (by decide +kernel))) rfl
theorem kY_X6_value : Cond.lays RX6 "SnailLawsModel" "value" "J" ∈ gtb := gm (tb4 (List.mem_of_getElem? (i := 177) (by decide +kernel))) rfl
theorem kY_X6_letters : Cond.laysFinal RX6 "SnailLawsModel" "letters" "[C" ∈ gtb := gm (tb4 (List.mem_of_getElem? (i := 179) (by decide +kernel))) rfl
theorem kY_X6_more : Cond.laysFinal RX6 "SnailLawsModel" "more" "[C" ∈ gtb := gm (tb4 (List.mem_of_getElem? (i := 181) (by decide +kernel))) rfl
theorem kY_X6_others : Cond.laysFinal RX6 "SnailLawsModel" "others" "[C" ∈ gtb := gm (tb4 (List.mem_of_getElem? (i := 183) (by decide +kernel))) rfl
theorem kY_X6_widths : Cond.laysFinal RX6 "SnailLawsModel" "widths" "[I" ∈ gtb := gm (tb4 (List.mem_of_getElem? (i := 185) (by decide +kernel))) rfl
theorem kY_X6_sizes : Cond.laysFinal RX6 "SnailLawsModel" "sizes" "[I" ∈ gtb := gm (tb4 (List.mem_of_getElem? (i := 187) (by decide +kernel))) rfl
theorem kY_X6_cells : Cond.laysFinal RX6 "SnailLawsModel" "cells" "[I" ∈ gtb := gm (tb4 (List.mem_of_getElem? (i := 189) (by decide +kernel))) rfl
theorem kY_X6_carried : Cond.laysFinal RX6 "SnailLawsModel" "carried" "[I" ∈ gtb := gm (tb4 (List.mem_of_getElem? (i := 191) (by decide +kernel))) rfl
theorem kA_char : Cond.arrayClass .char ∈ gtb := gm (tb4 (List.mem_of_getElem? (i := 194) (by decide +kernel))) rfl
theorem kL_L_17 : Cond.methodLink RL 17 yX6_hedge ∈ gtb := gm (tb4 (List.mem_of_getElem? (i := 195) (by decide +kernel))) rfl
theorem kI_X6_hedge : Cond.instanceMethod yX6_hedge ∈ gtb := gm (tb4 (List.mem_of_getElem? (i := 196) (by decide +kernel))) rfl
theorem kV_X6_hedge : Cond.selects RX6 yX6_hedge yX6_hedge ∈ gtb := gm (tb4 (List.mem_of_getElem? (i := 197) (by decide +kernel))) rfl
theorem kC_X6_hedge : Cond.code yX6_hedge cX6_hedge 4 (some FieldType.int) ∈ gtb := gm (tb4 (List.mem_of_getElem? (i := 198) rfl)) rfl
theorem kL_X6_122 : Cond.methodLink RX6 122 yX6_isCell ∈ gtb := gm (tb4 (List.mem_of_getElem? (i := 199) (by decide +kernel))) rfl
theorem kS_X6_isCell : Cond.static yX6_isCell ∈ gtb := gm (tb4 (List.mem_of_getElem? (i := 200) (by decide +kernel))) rfl
theorem kC_X6_isCell : Cond.code yX6_isCell cX6_isCell 1 (some FieldType.boolean) ∈ gtb := gm (tb4 (List.mem_of_getElem? (i := 201) rfl)) rfl
theorem kL_X6_61 : Cond.methodLink RX6 61 yX6_in1 ∈ gtb := gm (tb4 (List.mem_of_getElem? (i := 202) (by decide +kernel))) rfl
theorem kS_X6_in1 : Cond.static yX6_in1 ∈ gtb := gm (tb4 (List.mem_of_getElem? (i := 203) (by decide +kernel))) rfl
theorem kC_X6_in1 : Cond.code yX6_in1 cX6_in1 3 (some FieldType.boolean) ∈ gtb := gm (tb4 (List.mem_of_getElem? (i := 204) rfl)) rfl
theorem kL_X6_125 : Cond.methodLink RX6 125 yX6_no ∈ gtb := gm (tb4 (List.mem_of_getElem? (i := 205) (by decide +kernel))) rfl
theorem kI_X6_no : Cond.instanceMethod yX6_no ∈ gtb := gm (tb4 (List.mem_of_getElem? (i := 207) (by decide +kernel))) rfl
theorem kC_X6_no : Cond.code yX6_no cX6_no 2 (some FieldType.int) ∈ gtb := gm (tb4 (List.mem_of_getElem? (i := 208) rfl)) rfl
theorem kK_X6_60 : Cond.constant RX6 60 (Int32.ofInt (-1000001)) ∈ gtb := gm (tb4 (List.mem_of_getElem? (i := 209) (by decide +kernel))) rfl
theorem kL_L_21 : Cond.methodLink RL 21 yX6_greens ∈ gtb := gm (tb4 (List.mem_of_getElem? (i := 210) (by decide +kernel))) rfl
theorem kI_X6_greens : Cond.instanceMethod yX6_greens ∈ gtb := gm (tb4 (List.mem_of_getElem? (i := 211) (by decide +kernel))) rfl
theorem kV_X6_greens : Cond.selects RX6 yX6_greens yX6_greens ∈ gtb := gm (tb4 (List.mem_of_getElem? (i := 212) (by decide +kernel))) rfl
theorem kC_X6_greens : Cond.code yX6_greens cX6_greens 4 (some FieldType.int) ∈ gtb := gm (tb4 (List.mem_of_getElem? (i := 213) rfl)) rfl
theorem kL_L_25 : Cond.methodLink RL 25 yX6_land ∈ gtb := gm (tb4 (List.mem_of_getElem? (i := 214) (by decide +kernel))) rfl
theorem kI_X6_land : Cond.instanceMethod yX6_land ∈ gtb := gm (tb4 (List.mem_of_getElem? (i := 215) (by decide +kernel))) rfl
theorem kV_X6_land : Cond.selects RX6 yX6_land yX6_land ∈ gtb := gm (tb4 (List.mem_of_getElem? (i := 216) (by decide +kernel))) rfl
theorem kC_X6_land : Cond.code yX6_land cX6_land 3 (some FieldType.int) ∈ gtb := gm (tb4 (List.mem_of_getElem? (i := 217) rfl)) rfl
theorem kL_L_29 : Cond.methodLink RL 29 yX6_far ∈ gtb := gm (tb4 (List.mem_of_getElem? (i := 218) (by decide +kernel))) rfl
theorem kI_X6_far : Cond.instanceMethod yX6_far ∈ gtb := gm (tb4 (List.mem_of_getElem? (i := 219) (by decide +kernel))) rfl
theorem kV_X6_far : Cond.selects RX6 yX6_far yX6_far ∈ gtb := gm (tb4 (List.mem_of_getElem? (i := 220) (by decide +kernel))) rfl
theorem kC_X6_far : Cond.code yX6_far cX6_far 3 (some FieldType.int) ∈ gtb := gm (tb4 (List.mem_of_getElem? (i := 221) rfl)) rfl
theorem kL_X6_73 : Cond.methodLink RX6 73 yX6_barsHedges ∈ gtb := gm (tb4 (List.mem_of_getElem? (i := 222) (by decide +kernel))) rfl
theorem kI_X6_barsHedges : Cond.instanceMethod yX6_barsHedges ∈ gtb := gm (tb4 (List.mem_of_getElem? (i := 224) (by decide +kernel))) rfl
theorem kC_X6_barsHedges : Cond.code yX6_barsHedges cX6_barsHedges 2 none ∈ gtb := gm (tb4 (List.mem_of_getElem? (i := 225) rfl)) rfl
theorem kL_X6_69 : Cond.methodLink RX6 69 yX6_isHedge ∈ gtb := gm (tb4 (List.mem_of_getElem? (i := 226) (by decide +kernel))) rfl
theorem kI_X6_isHedge : Cond.instanceMethod yX6_isHedge ∈ gtb := gm (tb4 (List.mem_of_getElem? (i := 228) (by decide +kernel))) rfl
theorem kC_X6_isHedge : Cond.code yX6_isHedge cX6_isHedge 2 (some FieldType.boolean) ∈ gtb := gm (tb4 (List.mem_of_getElem? (i := 229) rfl)) rfl
theorem kL_X6_79 : Cond.methodLink RX6 79 yX6_spreads ∈ gtb := gm (tb4 (List.mem_of_getElem? (i := 230) (by decide +kernel))) rfl
theorem kI_X6_spreads : Cond.instanceMethod yX6_spreads ∈ gtb := gm (tb4 (List.mem_of_getElem? (i := 232) (by decide +kernel))) rfl
theorem kC_X6_spreads : Cond.code yX6_spreads cX6_spreads 7 none ∈ gtb := gm (tb4 (List.mem_of_getElem? (i := 233) rfl)) rfl
theorem kL_X6_65 : Cond.methodLink RX6 65 yX6_beside ∈ gtb := gm (tb4 (List.mem_of_getElem? (i := 234) (by decide +kernel))) rfl
theorem kS_X6_beside : Cond.static yX6_beside ∈ gtb := gm (tb4 (List.mem_of_getElem? (i := 235) (by decide +kernel))) rfl
theorem kC_X6_beside : Cond.code yX6_beside cX6_beside 2 (some FieldType.int) ∈ gtb := gm (tb4 (List.mem_of_getElem? (i := 236) rfl)) rfl
theorem kL_L_33 : Cond.methodLink RL 33 yX6_snail ∈ gtb := gm (tb4 (List.mem_of_getElem? (i := 237) (by decide +kernel))) rfl
theorem kI_X6_snail : Cond.instanceMethod yX6_snail ∈ gtb := gm (tb4 (List.mem_of_getElem? (i := 238) (by decide +kernel))) rfl
theorem kV_X6_snail : Cond.selects RX6 yX6_snail yX6_snail ∈ gtb := gm (tb4 (List.mem_of_getElem? (i := 239) (by decide +kernel))) rfl
theorem kC_X6_snail : Cond.code yX6_snail cX6_snail 3 (some FieldType.int) ∈ gtb := gm (tb5 (List.mem_of_getElem? (i := 0) rfl)) rfl
theorem kL_X6_128 : Cond.methodLink RX6 128 yX6_addsSnail ∈ gtb := gm (tb5 (List.mem_of_getElem? (i := 1) (by decide +kernel))) rfl
theorem kI_X6_addsSnail : Cond.instanceMethod yX6_addsSnail ∈ gtb := gm (tb5 (List.mem_of_getElem? (i := 3) (by decide +kernel))) rfl
theorem kC_X6_addsSnail : Cond.code yX6_addsSnail cX6_addsSnail 4 none ∈ gtb := gm (tb5 (List.mem_of_getElem? (i := 4) rfl)) rfl
theorem kL_X6_97 : Cond.methodLink RX6 97 yX6_puts ∈ gtb := gm (tb5 (List.mem_of_getElem? (i := 5) (by decide +kernel))) rfl
theorem kI_X6_puts : Cond.instanceMethod yX6_puts ∈ gtb := gm (tb5 (List.mem_of_getElem? (i := 7) (by decide +kernel))) rfl
theorem kC_X6_puts : Cond.code yX6_puts cX6_puts 4 none ∈ gtb := gm (tb5 (List.mem_of_getElem? (i := 8) rfl)) rfl
theorem kL_L_37 : Cond.methodLink RL 37 yX6_of ∈ gtb := gm (tb5 (List.mem_of_getElem? (i := 9) (by decide +kernel))) rfl
theorem kI_X6_of : Cond.instanceMethod yX6_of ∈ gtb := gm (tb5 (List.mem_of_getElem? (i := 10) (by decide +kernel))) rfl
theorem kV_X6_of : Cond.selects RX6 yX6_of yX6_of ∈ gtb := gm (tb5 (List.mem_of_getElem? (i := 11) (by decide +kernel))) rfl
theorem kC_X6_of : Cond.code yX6_of cX6_of 3 (some FieldType.int) ∈ gtb := gm (tb5 (List.mem_of_getElem? (i := 12) rfl)) rfl
theorem kL_X6_131 : Cond.methodLink RX6 131 yX6_isSnail ∈ gtb := gm (tb5 (List.mem_of_getElem? (i := 13) (by decide +kernel))) rfl
theorem kI_X6_isSnail : Cond.instanceMethod yX6_isSnail ∈ gtb := gm (tb5 (List.mem_of_getElem? (i := 15) (by decide +kernel))) rfl
theorem kC_X6_isSnail : Cond.code yX6_isSnail cX6_isSnail 2 (some FieldType.boolean) ∈ gtb := gm (tb5 (List.mem_of_getElem? (i := 16) rfl)) rfl
theorem kL_X6_112 : Cond.methodLink RX6 112 yX6_findsFars ∈ gtb := gm (tb5 (List.mem_of_getElem? (i := 17) (by decide +kernel))) rfl
theorem kI_X6_findsFars : Cond.instanceMethod yX6_findsFars ∈ gtb := gm (tb5 (List.mem_of_getElem? (i := 19) (by decide +kernel))) rfl
theorem kC_X6_findsFars : Cond.code yX6_findsFars cX6_findsFars 2 none ∈ gtb := gm (tb5 (List.mem_of_getElem? (i := 20) rfl)) rfl
theorem kL_X6_76 : Cond.methodLink RX6 76 yX6_get ∈ gtb := gm (tb5 (List.mem_of_getElem? (i := 21) (by decide +kernel))) rfl
theorem kI_X6_get : Cond.instanceMethod yX6_get ∈ gtb := gm (tb5 (List.mem_of_getElem? (i := 23) (by decide +kernel))) rfl
theorem kC_X6_get : Cond.code yX6_get cX6_get 3 (some FieldType.int) ∈ gtb := gm (tb5 (List.mem_of_getElem? (i := 24) rfl)) rfl
theorem kL_X6_90 : Cond.methodLink RX6 90 yX6_movesOf ∈ gtb := gm (tb5 (List.mem_of_getElem? (i := 25) (by decide +kernel))) rfl
theorem kI_X6_movesOf : Cond.instanceMethod yX6_movesOf ∈ gtb := gm (tb5 (List.mem_of_getElem? (i := 27) (by decide +kernel))) rfl
theorem kC_X6_movesOf : Cond.code yX6_movesOf cX6_movesOf 5 (some FieldType.int) ∈ gtb := gm (tb5 (List.mem_of_getElem? (i := 28) rfl)) rfl
theorem kL_X6_84 : Cond.methodLink RX6 84 yX6_farBy ∈ gtb := gm (tb5 (List.mem_of_getElem? (i := 29) (by decide +kernel))) rfl
theorem kI_X6_farBy : Cond.instanceMethod yX6_farBy ∈ gtb := gm (tb5 (List.mem_of_getElem? (i := 31) (by decide +kernel))) rfl
theorem kC_X6_farBy : Cond.code yX6_farBy cX6_farBy 3 (some FieldType.int) ∈ gtb := gm (tb5 (List.mem_of_getElem? (i := 32) rfl)) rfl
theorem kL_L_42 : Cond.methodLink RL 42 yX6_change ∈ gtb := gm (tb5 (List.mem_of_getElem? (i := 33) (by decide +kernel))) rfl
theorem kI_X6_change : Cond.instanceMethod yX6_change ∈ gtb := gm (tb5 (List.mem_of_getElem? (i := 34) (by decide +kernel))) rfl
theorem kV_X6_change : Cond.selects RX6 yX6_change yX6_change ∈ gtb := gm (tb5 (List.mem_of_getElem? (i := 35) (by decide +kernel))) rfl
theorem kC_X6_change : Cond.code yX6_change cX6_change 6 (some FieldType.int) ∈ gtb := gm (tb5 (List.mem_of_getElem? (i := 36) rfl)) rfl
theorem kL_L_46 : Cond.methodLink RL 46 yX6_bans ∈ gtb := gm (tb5 (List.mem_of_getElem? (i := 37) (by decide +kernel))) rfl
theorem kI_X6_bans : Cond.instanceMethod yX6_bans ∈ gtb := gm (tb5 (List.mem_of_getElem? (i := 38) (by decide +kernel))) rfl
theorem kV_X6_bans : Cond.selects RX6 yX6_bans yX6_bans ∈ gtb := gm (tb5 (List.mem_of_getElem? (i := 39) (by decide +kernel))) rfl
theorem kC_X6_bans : Cond.code yX6_bans cX6_bans 4 (some FieldType.int) ∈ gtb := gm (tb5 (List.mem_of_getElem? (i := 40) rfl)) rfl
theorem kL_X6_134 : Cond.methodLink RX6 134 yX6_isLaw ∈ gtb := gm (tb5 (List.mem_of_getElem? (i := 41) (by decide +kernel))) rfl
theorem kS_X6_isLaw : Cond.static yX6_isLaw ∈ gtb := gm (tb5 (List.mem_of_getElem? (i := 42) (by decide +kernel))) rfl
theorem kC_X6_isLaw : Cond.code yX6_isLaw cX6_isLaw 1 (some FieldType.boolean) ∈ gtb := gm (tb5 (List.mem_of_getElem? (i := 43) rfl)) rfl
theorem kL_L_50 : Cond.methodLink RL 50 yX6_set ∈ gtb := gm (tb5 (List.mem_of_getElem? (i := 44) (by decide +kernel))) rfl
theorem kI_X6_set : Cond.instanceMethod yX6_set ∈ gtb := gm (tb5 (List.mem_of_getElem? (i := 45) (by decide +kernel))) rfl
theorem kV_X6_set : Cond.selects RX6 yX6_set yX6_set ∈ gtb := gm (tb5 (List.mem_of_getElem? (i := 46) (by decide +kernel))) rfl
theorem kC_X6_set : Cond.code yX6_set cX6_set 4 (some FieldType.int) ∈ gtb := gm (tb5 (List.mem_of_getElem? (i := 47) rfl)) rfl
theorem kL_L_55 : Cond.methodLink RL 55 yX6_go ∈ gtb := gm (tb5 (List.mem_of_getElem? (i := 48) (by decide +kernel))) rfl
theorem kI_X6_go : Cond.instanceMethod yX6_go ∈ gtb := gm (tb5 (List.mem_of_getElem? (i := 49) (by decide +kernel))) rfl
theorem kV_X6_go : Cond.selects RX6 yX6_go yX6_go ∈ gtb := gm (tb5 (List.mem_of_getElem? (i := 50) (by decide +kernel))) rfl
theorem kC_X6_go : Cond.code yX6_go cX6_go 2 (some FieldType.int) ∈ gtb := gm (tb5 (List.mem_of_getElem? (i := 51) rfl)) rfl
theorem kK_X6_83 : Cond.constant RX6 83 (Int32.ofInt (99999)) ∈ gtb := gm (tb5 (List.mem_of_getElem? (i := 52) (by decide +kernel))) rfl
theorem kL_X6_137 : Cond.methodLink RX6 137 yX6_days ∈ gtb := gm (tb5 (List.mem_of_getElem? (i := 53) (by decide +kernel))) rfl
theorem kI_X6_days : Cond.instanceMethod yX6_days ∈ gtb := gm (tb5 (List.mem_of_getElem? (i := 55) (by decide +kernel))) rfl
theorem kC_X6_days : Cond.code yX6_days cX6_days 3 none ∈ gtb := gm (tb5 (List.mem_of_getElem? (i := 56) rfl)) rfl
theorem kL_X6_115 : Cond.methodLink RX6 115 yX6_allSnails ∈ gtb := gm (tb5 (List.mem_of_getElem? (i := 57) (by decide +kernel))) rfl
theorem kI_X6_allSnails : Cond.instanceMethod yX6_allSnails ∈ gtb := gm (tb5 (List.mem_of_getElem? (i := 59) (by decide +kernel))) rfl
theorem kC_X6_allSnails : Cond.code yX6_allSnails cX6_allSnails 1 (some FieldType.int) ∈ gtb := gm (tb5 (List.mem_of_getElem? (i := 60) rfl)) rfl
theorem kL_X6_119 : Cond.methodLink RX6 119 yX6_day ∈ gtb := gm (tb5 (List.mem_of_getElem? (i := 61) (by decide +kernel))) rfl
theorem kI_X6_day : Cond.instanceMethod yX6_day ∈ gtb := gm (tb5 (List.mem_of_getElem? (i := 63) (by decide +kernel))) rfl
theorem kC_X6_day : Cond.code yX6_day cX6_day 3 none ∈ gtb := gm (tb5 (List.mem_of_getElem? (i := 64) rfl)) rfl
theorem kL_X6_104 : Cond.methodLink RX6 104 yX6_isIn ∈ gtb := gm (tb5 (List.mem_of_getElem? (i := 65) (by decide +kernel))) rfl
theorem kS_X6_isIn : Cond.static yX6_isIn ∈ gtb := gm (tb5 (List.mem_of_getElem? (i := 66) (by decide +kernel))) rfl
theorem kC_X6_isIn : Cond.code yX6_isIn cX6_isIn 2 (some FieldType.boolean) ∈ gtb := gm (tb5 (List.mem_of_getElem? (i := 67) rfl)) rfl
theorem kL_X6_108 : Cond.methodLink RX6 108 yX6_crawls ∈ gtb := gm (tb5 (List.mem_of_getElem? (i := 68) (by decide +kernel))) rfl
theorem kI_X6_crawls : Cond.instanceMethod yX6_crawls ∈ gtb := gm (tb5 (List.mem_of_getElem? (i := 70) (by decide +kernel))) rfl
theorem kC_X6_crawls : Cond.code yX6_crawls cX6_crawls 5 none ∈ gtb := gm (tb5 (List.mem_of_getElem? (i := 71) rfl)) rfl
theorem kL_X6_87 : Cond.methodLink RX6 87 yX6_comesUnder ∈ gtb := gm (tb5 (List.mem_of_getElem? (i := 72) (by decide +kernel))) rfl
theorem kI_X6_comesUnder : Cond.instanceMethod yX6_comesUnder ∈ gtb := gm (tb5 (List.mem_of_getElem? (i := 74) (by decide +kernel))) rfl
theorem kC_X6_comesUnder : Cond.code yX6_comesUnder cX6_comesUnder 3 none ∈ gtb := gm (tb5 (List.mem_of_getElem? (i := 75) rfl)) rfl
theorem kL_X6_94 : Cond.methodLink RX6 94 yX6_nextOf ∈ gtb := gm (tb5 (List.mem_of_getElem? (i := 76) (by decide +kernel))) rfl
theorem kI_X6_nextOf : Cond.instanceMethod yX6_nextOf ∈ gtb := gm (tb5 (List.mem_of_getElem? (i := 78) (by decide +kernel))) rfl
theorem kC_X6_nextOf : Cond.code yX6_nextOf cX6_nextOf 6 (some FieldType.int) ∈ gtb := gm (tb5 (List.mem_of_getElem? (i := 79) rfl)) rfl
theorem kL_X6_101 : Cond.methodLink RX6 101 yX6_isGreedy ∈ gtb := gm (tb5 (List.mem_of_getElem? (i := 80) (by decide +kernel))) rfl
theorem kI_X6_isGreedy : Cond.instanceMethod yX6_isGreedy ∈ gtb := gm (tb5 (List.mem_of_getElem? (i := 82) (by decide +kernel))) rfl
theorem kC_X6_isGreedy : Cond.code yX6_isGreedy cX6_isGreedy 2 (some FieldType.boolean) ∈ gtb := gm (tb5 (List.mem_of_getElem? (i := 83) rfl)) rfl
theorem kL_L_59 : Cond.methodLink RL 59 yX6_now ∈ gtb := gm (tb5 (List.mem_of_getElem? (i := 84) (by decide +kernel))) rfl
theorem kI_X6_now : Cond.instanceMethod yX6_now ∈ gtb := gm (tb5 (List.mem_of_getElem? (i := 85) (by decide +kernel))) rfl
theorem kV_X6_now : Cond.selects RX6 yX6_now yX6_now ∈ gtb := gm (tb5 (List.mem_of_getElem? (i := 86) (by decide +kernel))) rfl
theorem kC_X6_now : Cond.code yX6_now cX6_now 4 (some FieldType.int) ∈ gtb := gm (tb5 (List.mem_of_getElem? (i := 87) rfl)) rfl
theorem kL_X6_140 : Cond.methodLink RX6 140 yX6_underLaw ∈ gtb := gm (tb5 (List.mem_of_getElem? (i := 88) (by decide +kernel))) rfl
theorem kI_X6_underLaw : Cond.instanceMethod yX6_underLaw ∈ gtb := gm (tb5 (List.mem_of_getElem? (i := 90) (by decide +kernel))) rfl
theorem kC_X6_underLaw : Cond.code yX6_underLaw cX6_underLaw 3 (some FieldType.int) ∈ gtb := gm (tb5 (List.mem_of_getElem? (i := 91) rfl)) rfl
theorem kL_X6_143 : Cond.methodLink RX6 143 yX6_isThere ∈ gtb := gm (tb5 (List.mem_of_getElem? (i := 92) (by decide +kernel))) rfl
theorem kI_X6_isThere : Cond.instanceMethod yX6_isThere ∈ gtb := gm (tb5 (List.mem_of_getElem? (i := 94) (by decide +kernel))) rfl
theorem kC_X6_isThere : Cond.code yX6_isThere cX6_isThere 2 (some FieldType.boolean) ∈ gtb := gm (tb5 (List.mem_of_getElem? (i := 95) rfl)) rfl
theorem kL_L_63 : Cond.methodLink RL 63 yX6_realm ∈ gtb := gm (tb5 (List.mem_of_getElem? (i := 96) (by decide +kernel))) rfl
theorem kI_X6_realm : Cond.instanceMethod yX6_realm ∈ gtb := gm (tb5 (List.mem_of_getElem? (i := 97) (by decide +kernel))) rfl
theorem kV_X6_realm : Cond.selects RX6 yX6_realm yX6_realm ∈ gtb := gm (tb5 (List.mem_of_getElem? (i := 98) (by decide +kernel))) rfl
theorem kC_X6_realm : Cond.code yX6_realm cX6_realm 4 (some FieldType.int) ∈ gtb := gm (tb5 (List.mem_of_getElem? (i := 99) rfl)) rfl
theorem kL_L_68 : Cond.methodLink RL 68 yX6_repeals ∈ gtb := gm (tb5 (List.mem_of_getElem? (i := 100) (by decide +kernel))) rfl
theorem kI_X6_repeals : Cond.instanceMethod yX6_repeals ∈ gtb := gm (tb5 (List.mem_of_getElem? (i := 101) (by decide +kernel))) rfl
theorem kV_X6_repeals : Cond.selects RX6 yX6_repeals yX6_repeals ∈ gtb := gm (tb5 (List.mem_of_getElem? (i := 102) (by decide +kernel))) rfl
theorem kC_X6_repeals : Cond.code yX6_repeals cX6_repeals 3 (some FieldType.int) ∈ gtb := gm (tb5 (List.mem_of_getElem? (i := 103) rfl)) rfl
theorem kL_L_72 : Cond.methodLink RL 72 yX6_may ∈ gtb := gm (tb5 (List.mem_of_getElem? (i := 104) (by decide +kernel))) rfl
theorem kI_X6_may : Cond.instanceMethod yX6_may ∈ gtb := gm (tb5 (List.mem_of_getElem? (i := 105) (by decide +kernel))) rfl
theorem kV_X6_may : Cond.selects RX6 yX6_may yX6_may ∈ gtb := gm (tb5 (List.mem_of_getElem? (i := 106) (by decide +kernel))) rfl
theorem kC_X6_may : Cond.code yX6_may cX6_may 3 (some FieldType.int) ∈ gtb := gm (tb5 (List.mem_of_getElem? (i := 107) rfl)) rfl
theorem kL_X6_146 : Cond.methodLink RX6 146 yX6_isDeed ∈ gtb := gm (tb5 (List.mem_of_getElem? (i := 108) (by decide +kernel))) rfl
theorem kS_X6_isDeed : Cond.static yX6_isDeed ∈ gtb := gm (tb5 (List.mem_of_getElem? (i := 109) (by decide +kernel))) rfl
theorem kC_X6_isDeed : Cond.code yX6_isDeed cX6_isDeed 1 (some FieldType.boolean) ∈ gtb := gm (tb5 (List.mem_of_getElem? (i := 110) rfl)) rfl
theorem kL_X6_149 : Cond.methodLink RX6 149 yX6_isLawful ∈ gtb := gm (tb5 (List.mem_of_getElem? (i := 111) (by decide +kernel))) rfl
theorem kI_X6_isLawful : Cond.instanceMethod yX6_isLawful ∈ gtb := gm (tb5 (List.mem_of_getElem? (i := 113) (by decide +kernel))) rfl
theorem kC_X6_isLawful : Cond.code yX6_isLawful cX6_isLawful 3 (some FieldType.boolean) ∈ gtb := gm (tb5 (List.mem_of_getElem? (i := 114) rfl)) rfl
theorem kL_L_76 : Cond.methodLink RL 76 yX6_where ∈ gtb := gm (tb5 (List.mem_of_getElem? (i := 115) (by decide +kernel))) rfl
theorem kI_X6_where : Cond.instanceMethod yX6_where ∈ gtb := gm (tb5 (List.mem_of_getElem? (i := 116) (by decide +kernel))) rfl
theorem kV_X6_where : Cond.selects RX6 yX6_where yX6_where ∈ gtb := gm (tb5 (List.mem_of_getElem? (i := 117) (by decide +kernel))) rfl
theorem kC_X6_where : Cond.code yX6_where cX6_where 2 (some FieldType.int) ∈ gtb := gm (tb5 (List.mem_of_getElem? (i := 118) rfl)) rfl
theorem kL_X6_152 : Cond.methodLink RX6 152 yX6_lawfulCells ∈ gtb := gm (tb5 (List.mem_of_getElem? (i := 119) (by decide +kernel))) rfl
theorem kI_X6_lawfulCells : Cond.instanceMethod yX6_lawfulCells ∈ gtb := gm (tb5 (List.mem_of_getElem? (i := 121) (by decide +kernel))) rfl
theorem kC_X6_lawfulCells : Cond.code yX6_lawfulCells cX6_lawfulCells 4 (some FieldType.int) ∈ gtb := gm (tb5 (List.mem_of_getElem? (i := 122) rfl)) rfl
theorem kL_L_80 : Cond.methodLink RL 80 yX6_route ∈ gtb := gm (tb5 (List.mem_of_getElem? (i := 123) (by decide +kernel))) rfl
theorem kI_X6_route : Cond.instanceMethod yX6_route ∈ gtb := gm (tb5 (List.mem_of_getElem? (i := 124) (by decide +kernel))) rfl
theorem kV_X6_route : Cond.selects RX6 yX6_route yX6_route ∈ gtb := gm (tb5 (List.mem_of_getElem? (i := 125) (by decide +kernel))) rfl
theorem kC_X6_route : Cond.code yX6_route cX6_route 5 (some FieldType.int) ∈ gtb := gm (tb5 (List.mem_of_getElem? (i := 126) rfl)) rfl
theorem kL_L_84 : Cond.methodLink RL 84 yX6_free ∈ gtb := gm (tb5 (List.mem_of_getElem? (i := 127) (by decide +kernel))) rfl
theorem kI_X6_free : Cond.instanceMethod yX6_free ∈ gtb := gm (tb5 (List.mem_of_getElem? (i := 128) (by decide +kernel))) rfl
theorem kV_X6_free : Cond.selects RX6 yX6_free yX6_free ∈ gtb := gm (tb5 (List.mem_of_getElem? (i := 129) (by decide +kernel))) rfl
theorem kC_X6_free : Cond.code yX6_free cX6_free 4 (some FieldType.int) ∈ gtb := gm (tb5 (List.mem_of_getElem? (i := 130) rfl)) rfl
theorem kL_L_88 : Cond.methodLink RL 88 yX6_ahead ∈ gtb := gm (tb5 (List.mem_of_getElem? (i := 131) (by decide +kernel))) rfl
theorem kI_X6_ahead : Cond.instanceMethod yX6_ahead ∈ gtb := gm (tb5 (List.mem_of_getElem? (i := 132) (by decide +kernel))) rfl
theorem kV_X6_ahead : Cond.selects RX6 yX6_ahead yX6_ahead ∈ gtb := gm (tb5 (List.mem_of_getElem? (i := 133) (by decide +kernel))) rfl
theorem kC_X6_ahead : Cond.code yX6_ahead cX6_ahead 4 (some FieldType.int) ∈ gtb := gm (tb5 (List.mem_of_getElem? (i := 134) rfl)) rfl
theorem kL_X6_155 : Cond.methodLink RX6 155 yX6_setsAside ∈ gtb := gm (tb5 (List.mem_of_getElem? (i := 135) (by decide +kernel))) rfl
theorem kI_X6_setsAside : Cond.instanceMethod yX6_setsAside ∈ gtb := gm (tb5 (List.mem_of_getElem? (i := 137) (by decide +kernel))) rfl
theorem kC_X6_setsAside : Cond.code yX6_setsAside cX6_setsAside 2 none ∈ gtb := gm (tb5 (List.mem_of_getElem? (i := 138) rfl)) rfl
theorem kL_X6_158 : Cond.methodLink RX6 158 yX6_laysBack ∈ gtb := gm (tb5 (List.mem_of_getElem? (i := 139) (by decide +kernel))) rfl
theorem kI_X6_laysBack : Cond.instanceMethod yX6_laysBack ∈ gtb := gm (tb5 (List.mem_of_getElem? (i := 141) (by decide +kernel))) rfl
theorem kC_X6_laysBack : Cond.code yX6_laysBack cX6_laysBack 2 none ∈ gtb := gm (tb5 (List.mem_of_getElem? (i := 142) rfl)) rfl
theorem kL_L_92 : Cond.methodLink RL 92 yX6_lawAt ∈ gtb := gm (tb5 (List.mem_of_getElem? (i := 143) (by decide +kernel))) rfl
theorem kI_X6_lawAt : Cond.instanceMethod yX6_lawAt ∈ gtb := gm (tb5 (List.mem_of_getElem? (i := 144) (by decide +kernel))) rfl
theorem kV_X6_lawAt : Cond.selects RX6 yX6_lawAt yX6_lawAt ∈ gtb := gm (tb5 (List.mem_of_getElem? (i := 145) (by decide +kernel))) rfl
theorem kC_X6_lawAt : Cond.code yX6_lawAt cX6_lawAt 4 (some FieldType.int) ∈ gtb := gm (tb5 (List.mem_of_getElem? (i := 146) rfl)) rfl
theorem kL_L_96 : Cond.methodLink RL 96 yX6_reaches ∈ gtb := gm (tb5 (List.mem_of_getElem? (i := 147) (by decide +kernel))) rfl
theorem kI_X6_reaches : Cond.instanceMethod yX6_reaches ∈ gtb := gm (tb5 (List.mem_of_getElem? (i := 148) (by decide +kernel))) rfl
theorem kV_X6_reaches : Cond.selects RX6 yX6_reaches yX6_reaches ∈ gtb := gm (tb5 (List.mem_of_getElem? (i := 149) (by decide +kernel))) rfl
theorem kC_X6_reaches : Cond.code yX6_reaches cX6_reaches 4 (some FieldType.int) ∈ gtb := gm (tb5 (List.mem_of_getElem? (i := 150) rfl)) rfl
theorem kL_X6_161 : Cond.methodLink RX6 161 yX6_reachedBy ∈ gtb := gm (tb5 (List.mem_of_getElem? (i := 151) (by decide +kernel))) rfl
theorem kI_X6_reachedBy : Cond.instanceMethod yX6_reachedBy ∈ gtb := gm (tb5 (List.mem_of_getElem? (i := 153) (by decide +kernel))) rfl
theorem kC_X6_reachedBy : Cond.code yX6_reachedBy cX6_reachedBy 4 (some FieldType.int) ∈ gtb := gm (tb5 (List.mem_of_getElem? (i := 154) rfl)) rfl
theorem kL_L_100 : Cond.methodLink RL 100 yX6_wetFor ∈ gtb := gm (tb5 (List.mem_of_getElem? (i := 155) (by decide +kernel))) rfl
theorem kI_X6_wetFor : Cond.instanceMethod yX6_wetFor ∈ gtb := gm (tb5 (List.mem_of_getElem? (i := 156) (by decide +kernel))) rfl
theorem kV_X6_wetFor : Cond.selects RX6 yX6_wetFor yX6_wetFor ∈ gtb := gm (tb5 (List.mem_of_getElem? (i := 157) (by decide +kernel))) rfl
theorem kC_X6_wetFor : Cond.code yX6_wetFor cX6_wetFor 9 (some FieldType.int) ∈ gtb := gm (tb5 (List.mem_of_getElem? (i := 158) rfl)) rfl
theorem kL_L_104 : Cond.methodLink RL 104 yX6_comes ∈ gtb := gm (tb5 (List.mem_of_getElem? (i := 159) (by decide +kernel))) rfl
theorem kI_X6_comes : Cond.instanceMethod yX6_comes ∈ gtb := gm (tb5 (List.mem_of_getElem? (i := 160) (by decide +kernel))) rfl
theorem kV_X6_comes : Cond.selects RX6 yX6_comes yX6_comes ∈ gtb := gm (tb5 (List.mem_of_getElem? (i := 161) (by decide +kernel))) rfl
theorem kC_X6_comes : Cond.code yX6_comes cX6_comes 3 (some FieldType.int) ∈ gtb := gm (tb5 (List.mem_of_getElem? (i := 162) rfl)) rfl
theorem kL_X6_164 : Cond.methodLink RX6 164 yX6_thereBy ∈ gtb := gm (tb5 (List.mem_of_getElem? (i := 163) (by decide +kernel))) rfl
theorem kI_X6_thereBy : Cond.instanceMethod yX6_thereBy ∈ gtb := gm (tb5 (List.mem_of_getElem? (i := 165) (by decide +kernel))) rfl
theorem kC_X6_thereBy : Cond.code yX6_thereBy cX6_thereBy 4 (some FieldType.int) ∈ gtb := gm (tb5 (List.mem_of_getElem? (i := 166) rfl)) rfl
theorem kL_L_108 : Cond.methodLink RL 108 yX6_kindFor ∈ gtb := gm (tb5 (List.mem_of_getElem? (i := 167) (by decide +kernel))) rfl
theorem kI_X6_kindFor : Cond.instanceMethod yX6_kindFor ∈ gtb := gm (tb5 (List.mem_of_getElem? (i := 168) (by decide +kernel))) rfl
theorem kV_X6_kindFor : Cond.selects RX6 yX6_kindFor yX6_kindFor ∈ gtb := gm (tb5 (List.mem_of_getElem? (i := 169) (by decide +kernel))) rfl
theorem kC_X6_kindFor : Cond.code yX6_kindFor cX6_kindFor 8 (some FieldType.int) ∈ gtb := gm (tb5 (List.mem_of_getElem? (i := 170) rfl)) rfl
theorem kL_L_112 : Cond.methodLink RL 112 yX6_overtakes ∈ gtb := gm (tb5 (List.mem_of_getElem? (i := 171) (by decide +kernel))) rfl
theorem kI_X6_overtakes : Cond.instanceMethod yX6_overtakes ∈ gtb := gm (tb5 (List.mem_of_getElem? (i := 172) (by decide +kernel))) rfl
theorem kV_X6_overtakes : Cond.selects RX6 yX6_overtakes yX6_overtakes ∈ gtb := gm (tb5 (List.mem_of_getElem? (i := 173) (by decide +kernel))) rfl
theorem kC_X6_overtakes : Cond.code yX6_overtakes cX6_overtakes 4 (some FieldType.int) ∈ gtb := gm (tb5 (List.mem_of_getElem? (i := 174) rfl)) rfl
theorem kL_L_116 : Cond.methodLink RL 116 yX6_lag ∈ gtb := gm (tb5 (List.mem_of_getElem? (i := 175) (by decide +kernel))) rfl
theorem kI_X6_lag : Cond.instanceMethod yX6_lag ∈ gtb := gm (tb5 (List.mem_of_getElem? (i := 176) (by decide +kernel))) rfl
theorem kV_X6_lag : Cond.selects RX6 yX6_lag yX6_lag ∈ gtb := gm (tb5 (List.mem_of_getElem? (i := 177) (by decide +kernel))) rfl
theorem kC_X6_lag : Cond.code yX6_lag cX6_lag 6 (some FieldType.int) ∈ gtb := gm (tb5 (List.mem_of_getElem? (i := 178) rfl)) rfl
theorem kL_L_120 : Cond.methodLink RL 120 yX6_clash ∈ gtb := gm (tb5 (List.mem_of_getElem? (i := 179) (by decide +kernel))) rfl
theorem kI_X6_clash : Cond.instanceMethod yX6_clash ∈ gtb := gm (tb5 (List.mem_of_getElem? (i := 180) (by decide +kernel))) rfl
theorem kV_X6_clash : Cond.selects RX6 yX6_clash yX6_clash ∈ gtb := gm (tb5 (List.mem_of_getElem? (i := 181) (by decide +kernel))) rfl
theorem kC_X6_clash : Cond.code yX6_clash cX6_clash 5 (some FieldType.int) ∈ gtb := gm (tb5 (List.mem_of_getElem? (i := 182) rfl)) rfl
theorem kL_L_124 : Cond.methodLink RL 124 yX6_release ∈ gtb := gm (tb5 (List.mem_of_getElem? (i := 183) (by decide +kernel))) rfl
theorem kI_X6_release : Cond.instanceMethod yX6_release ∈ gtb := gm (tb5 (List.mem_of_getElem? (i := 184) (by decide +kernel))) rfl
theorem kV_X6_release : Cond.selects RX6 yX6_release yX6_release ∈ gtb := gm (tb5 (List.mem_of_getElem? (i := 185) (by decide +kernel))) rfl
theorem kC_X6_release : Cond.code yX6_release cX6_release 5 (some FieldType.int) ∈ gtb := gm (tb5 (List.mem_of_getElem? (i := 186) rfl)) rfl
theorem kL_X6_170 : Cond.methodLink RX6 170 yX6_isRelease ∈ gtb := gm (tb5 (List.mem_of_getElem? (i := 187) (by decide +kernel))) rfl
theorem kS_X6_isRelease : Cond.static yX6_isRelease ∈ gtb := gm (tb5 (List.mem_of_getElem? (i := 188) (by decide +kernel))) rfl
theorem kC_X6_isRelease : Cond.code yX6_isRelease cX6_isRelease 3 (some FieldType.boolean) ∈ gtb := gm (tb5 (List.mem_of_getElem? (i := 189) rfl)) rfl
theorem kL_X6_173 : Cond.methodLink RX6 173 yX6_bestRelease ∈ gtb := gm (tb5 (List.mem_of_getElem? (i := 190) (by decide +kernel))) rfl
theorem kI_X6_bestRelease : Cond.instanceMethod yX6_bestRelease ∈ gtb := gm (tb5 (List.mem_of_getElem? (i := 192) (by decide +kernel))) rfl
theorem kC_X6_bestRelease : Cond.code yX6_bestRelease cX6_bestRelease 7 (some FieldType.int) ∈ gtb := gm (tb5 (List.mem_of_getElem? (i := 193) rfl)) rfl
theorem kL_X6_167 : Cond.methodLink RX6 167 yX6_priceOf ∈ gtb := gm (tb5 (List.mem_of_getElem? (i := 194) (by decide +kernel))) rfl
theorem kI_X6_priceOf : Cond.instanceMethod yX6_priceOf ∈ gtb := gm (tb5 (List.mem_of_getElem? (i := 196) (by decide +kernel))) rfl
theorem kC_X6_priceOf : Cond.code yX6_priceOf cX6_priceOf 4 (some FieldType.int) ∈ gtb := gm (tb5 (List.mem_of_getElem? (i := 197) rfl)) rfl
theorem kL_L_128 : Cond.methodLink RL 128 yX6_costs ∈ gtb := gm (tb5 (List.mem_of_getElem? (i := 198) (by decide +kernel))) rfl
theorem kI_X6_costs : Cond.instanceMethod yX6_costs ∈ gtb := gm (tb5 (List.mem_of_getElem? (i := 199) (by decide +kernel))) rfl
theorem kV_X6_costs : Cond.selects RX6 yX6_costs yX6_costs ∈ gtb := gm (tb5 (List.mem_of_getElem? (i := 200) (by decide +kernel))) rfl
theorem kC_X6_costs : Cond.code yX6_costs cX6_costs 5 (some FieldType.int) ∈ gtb := gm (tb5 (List.mem_of_getElem? (i := 201) rfl)) rfl
theorem kL_L_132 : Cond.methodLink RL 132 yX6_farthest ∈ gtb := gm (tb5 (List.mem_of_getElem? (i := 202) (by decide +kernel))) rfl
theorem kI_X6_farthest : Cond.instanceMethod yX6_farthest ∈ gtb := gm (tb5 (List.mem_of_getElem? (i := 203) (by decide +kernel))) rfl
theorem kV_X6_farthest : Cond.selects RX6 yX6_farthest yX6_farthest ∈ gtb := gm (tb5 (List.mem_of_getElem? (i := 204) (by decide +kernel))) rfl
theorem kC_X6_farthest : Cond.code yX6_farthest cX6_farthest 7 (some FieldType.int) ∈ gtb := gm (tb5 (List.mem_of_getElem? (i := 205) rfl)) rfl
theorem kL_L_136 : Cond.methodLink RL 136 yX6_fits ∈ gtb := gm (tb5 (List.mem_of_getElem? (i := 206) (by decide +kernel))) rfl
theorem kI_X6_fits : Cond.instanceMethod yX6_fits ∈ gtb := gm (tb5 (List.mem_of_getElem? (i := 207) (by decide +kernel))) rfl
theorem kV_X6_fits : Cond.selects RX6 yX6_fits yX6_fits ∈ gtb := gm (tb5 (List.mem_of_getElem? (i := 208) (by decide +kernel))) rfl
theorem kC_X6_fits : Cond.code yX6_fits cX6_fits 6 (some FieldType.int) ∈ gtb := gm (tb5 (List.mem_of_getElem? (i := 209) rfl)) rfl
theorem kL_X6_183 : Cond.methodLink RX6 183 yX6_wrongTrail ∈ gtb := gm (tb5 (List.mem_of_getElem? (i := 210) (by decide +kernel))) rfl
theorem kI_X6_wrongTrail : Cond.instanceMethod yX6_wrongTrail ∈ gtb := gm (tb5 (List.mem_of_getElem? (i := 212) (by decide +kernel))) rfl
theorem kC_X6_wrongTrail : Cond.code yX6_wrongTrail cX6_wrongTrail 4 (some FieldType.int) ∈ gtb := gm (tb5 (List.mem_of_getElem? (i := 213) rfl)) rfl
theorem kL_X6_180 : Cond.methodLink RX6 180 yX6_wrongSheet ∈ gtb := gm (tb5 (List.mem_of_getElem? (i := 214) (by decide +kernel))) rfl
theorem kI_X6_wrongSheet : Cond.instanceMethod yX6_wrongSheet ∈ gtb := gm (tb5 (List.mem_of_getElem? (i := 216) (by decide +kernel))) rfl
theorem kC_X6_wrongSheet : Cond.code yX6_wrongSheet cX6_wrongSheet 2 (some FieldType.int) ∈ gtb := gm (tb5 (List.mem_of_getElem? (i := 217) rfl)) rfl
theorem kL_X6_177 : Cond.methodLink RX6 177 yX6_isSheet ∈ gtb := gm (tb5 (List.mem_of_getElem? (i := 218) (by decide +kernel))) rfl
theorem kS_X6_isSheet : Cond.static yX6_isSheet ∈ gtb := gm (tb5 (List.mem_of_getElem? (i := 219) (by decide +kernel))) rfl
theorem kC_X6_isSheet : Cond.code yX6_isSheet cX6_isSheet 1 (some FieldType.boolean) ∈ gtb := gm (tb5 (List.mem_of_getElem? (i := 220) rfl)) rfl
theorem kL_X6_186 : Cond.methodLink RX6 186 yX6_fitsFrom ∈ gtb := gm (tb5 (List.mem_of_getElem? (i := 221) (by decide +kernel))) rfl
theorem kI_X6_fitsFrom : Cond.instanceMethod yX6_fitsFrom ∈ gtb := gm (tb5 (List.mem_of_getElem? (i := 223) (by decide +kernel))) rfl
theorem kC_X6_fitsFrom : Cond.code yX6_fitsFrom cX6_fitsFrom 7 (some FieldType.boolean) ∈ gtb := gm (tb5 (List.mem_of_getElem? (i := 224) rfl)) rfl
theorem kL_L_140 : Cond.methodLink RL 140 yX6_began ∈ gtb := gm (tb5 (List.mem_of_getElem? (i := 225) (by decide +kernel))) rfl
theorem kI_X6_began : Cond.instanceMethod yX6_began ∈ gtb := gm (tb5 (List.mem_of_getElem? (i := 226) (by decide +kernel))) rfl
theorem kV_X6_began : Cond.selects RX6 yX6_began yX6_began ∈ gtb := gm (tb5 (List.mem_of_getElem? (i := 227) (by decide +kernel))) rfl
theorem kC_X6_began : Cond.code yX6_began cX6_began 5 (some FieldType.int) ∈ gtb := gm (tb5 (List.mem_of_getElem? (i := 228) rfl)) rfl
theorem kL_L_144 : Cond.methodLink RL 144 yX6_thrushes ∈ gtb := gm (tb5 (List.mem_of_getElem? (i := 229) (by decide +kernel))) rfl
theorem kI_X6_thrushes : Cond.instanceMethod yX6_thrushes ∈ gtb := gm (tb5 (List.mem_of_getElem? (i := 230) (by decide +kernel))) rfl
theorem kV_X6_thrushes : Cond.selects RX6 yX6_thrushes yX6_thrushes ∈ gtb := gm (tb5 (List.mem_of_getElem? (i := 231) (by decide +kernel))) rfl
theorem kC_X6_thrushes : Cond.code yX6_thrushes cX6_thrushes 6 (some FieldType.int) ∈ gtb := gm (tb5 (List.mem_of_getElem? (i := 232) rfl)) rfl
theorem kL_X6_190 : Cond.methodLink RX6 190 yX6_draw ∈ gtb := gm (tb5 (List.mem_of_getElem? (i := 233) (by decide +kernel))) rfl
theorem kI_X6_draw : Cond.instanceMethod yX6_draw ∈ gtb := gm (tb5 (List.mem_of_getElem? (i := 235) (by decide +kernel))) rfl
theorem kC_X6_draw : Cond.code yX6_draw cX6_draw 1 (some FieldType.int) ∈ gtb := gm (tb5 (List.mem_of_getElem? (i := 236) rfl)) rfl
theorem kK_X6_189 : Cond.constant RX6 189 (Int32.ofInt (1103515245)) ∈ gtb := gm (tb5 (List.mem_of_getElem? (i := 237) (by decide +kernel))) rfl
theorem kL_L_149 : Cond.methodLink RL 149 yX6_alone ∈ gtb := gm (tb5 (List.mem_of_getElem? (i := 238) (by decide +kernel))) rfl
theorem kI_X6_alone : Cond.instanceMethod yX6_alone ∈ gtb := gm (tb5 (List.mem_of_getElem? (i := 239) (by decide +kernel))) rfl
theorem kV_X6_alone : Cond.selects RX6 yX6_alone yX6_alone ∈ gtb := gm (tb6 (List.mem_of_getElem? (i := 0) (by decide +kernel))) rfl
theorem kC_X6_alone : Cond.code yX6_alone cX6_alone 13 (some FieldType.long) ∈ gtb := gm (tb6 (List.mem_of_getElem? (i := 1) rfl)) rfl
theorem kK_X6_193 : Cond.constantLong RX6 193 (Int64.ofInt (20)) ∈ gtb := gm (tb6 (List.mem_of_getElem? (i := 2) (by decide +kernel))) rfl
theorem kL_L_153 : Cond.methodLink RL 153 yX6_seed ∈ gtb := gm (tb6 (List.mem_of_getElem? (i := 3) (by decide +kernel))) rfl
theorem kI_X6_seed : Cond.instanceMethod yX6_seed ∈ gtb := gm (tb6 (List.mem_of_getElem? (i := 4) (by decide +kernel))) rfl
theorem kV_X6_seed : Cond.selects RX6 yX6_seed yX6_seed ∈ gtb := gm (tb6 (List.mem_of_getElem? (i := 5) (by decide +kernel))) rfl
theorem kC_X6_seed : Cond.code yX6_seed cX6_seed 3 (some FieldType.int) ∈ gtb := gm (tb6 (List.mem_of_getElem? (i := 6) rfl)) rfl
theorem kL_L_157 : Cond.methodLink RL 157 yX6_feed ∈ gtb := gm (tb6 (List.mem_of_getElem? (i := 7) (by decide +kernel))) rfl
theorem kI_X6_feed : Cond.instanceMethod yX6_feed ∈ gtb := gm (tb6 (List.mem_of_getElem? (i := 8) (by decide +kernel))) rfl
theorem kV_X6_feed : Cond.selects RX6 yX6_feed yX6_feed ∈ gtb := gm (tb6 (List.mem_of_getElem? (i := 9) (by decide +kernel))) rfl
theorem kC_X6_feed : Cond.code yX6_feed cX6_feed 4 (some FieldType.int) ∈ gtb := gm (tb6 (List.mem_of_getElem? (i := 10) rfl)) rfl
theorem kL_L_161 : Cond.methodLink RL 161 yX6_wipe ∈ gtb := gm (tb6 (List.mem_of_getElem? (i := 11) (by decide +kernel))) rfl
theorem kI_X6_wipe : Cond.instanceMethod yX6_wipe ∈ gtb := gm (tb6 (List.mem_of_getElem? (i := 12) (by decide +kernel))) rfl
theorem kV_X6_wipe : Cond.selects RX6 yX6_wipe yX6_wipe ∈ gtb := gm (tb6 (List.mem_of_getElem? (i := 13) (by decide +kernel))) rfl
theorem kC_X6_wipe : Cond.code yX6_wipe cX6_wipe 2 (some FieldType.int) ∈ gtb := gm (tb6 (List.mem_of_getElem? (i := 14) rfl)) rfl
theorem kL_L_165 : Cond.methodLink RL 165 yX6_text ∈ gtb := gm (tb6 (List.mem_of_getElem? (i := 15) (by decide +kernel))) rfl
theorem kI_X6_text : Cond.instanceMethod yX6_text ∈ gtb := gm (tb6 (List.mem_of_getElem? (i := 16) (by decide +kernel))) rfl
theorem kV_X6_text : Cond.selects RX6 yX6_text yX6_text ∈ gtb := gm (tb6 (List.mem_of_getElem? (i := 17) (by decide +kernel))) rfl
theorem kC_X6_text : Cond.code yX6_text cX6_text 3 (some FieldType.int) ∈ gtb := gm (tb6 (List.mem_of_getElem? (i := 18) rfl)) rfl
theorem kL_X6_230 : Cond.methodLink RX6 230 yX6_nextToken ∈ gtb := gm (tb6 (List.mem_of_getElem? (i := 19) (by decide +kernel))) rfl
theorem kI_X6_nextToken : Cond.instanceMethod yX6_nextToken ∈ gtb := gm (tb6 (List.mem_of_getElem? (i := 21) (by decide +kernel))) rfl
theorem kC_X6_nextToken : Cond.code yX6_nextToken cX6_nextToken 1 none ∈ gtb := gm (tb6 (List.mem_of_getElem? (i := 22) rfl)) rfl
theorem kL_X6_212 : Cond.methodLink RX6 212 yX6_isLetter ∈ gtb := gm (tb6 (List.mem_of_getElem? (i := 23) (by decide +kernel))) rfl
theorem kS_X6_isLetter : Cond.static yX6_isLetter ∈ gtb := gm (tb6 (List.mem_of_getElem? (i := 24) (by decide +kernel))) rfl
theorem kC_X6_isLetter : Cond.code yX6_isLetter cX6_isLetter 1 (some FieldType.boolean) ∈ gtb := gm (tb6 (List.mem_of_getElem? (i := 25) rfl)) rfl
theorem kK_X6_215 : Cond.constantLong RX6 215 (Int64.ofInt (9999999999999)) ∈ gtb := gm (tb6 (List.mem_of_getElem? (i := 26) (by decide +kernel))) rfl
theorem kK_X6_217 : Cond.constantLong RX6 217 (Int64.ofInt (27)) ∈ gtb := gm (tb6 (List.mem_of_getElem? (i := 27) (by decide +kernel))) rfl
theorem kK_X6_219 : Cond.constantLong RX6 219 (Int64.ofInt (96)) ∈ gtb := gm (tb6 (List.mem_of_getElem? (i := 28) (by decide +kernel))) rfl
theorem kL_X6_221 : Cond.methodLink RX6 221 yX6_isDigit ∈ gtb := gm (tb6 (List.mem_of_getElem? (i := 29) (by decide +kernel))) rfl
theorem kS_X6_isDigit : Cond.static yX6_isDigit ∈ gtb := gm (tb6 (List.mem_of_getElem? (i := 30) (by decide +kernel))) rfl
theorem kC_X6_isDigit : Cond.code yX6_isDigit cX6_isDigit 1 (some FieldType.boolean) ∈ gtb := gm (tb6 (List.mem_of_getElem? (i := 31) rfl)) rfl
theorem kK_X6_224 : Cond.constantLong RX6 224 (Int64.ofInt (999)) ∈ gtb := gm (tb6 (List.mem_of_getElem? (i := 32) (by decide +kernel))) rfl
theorem kK_X6_226 : Cond.constantLong RX6 226 (Int64.ofInt (10)) ∈ gtb := gm (tb6 (List.mem_of_getElem? (i := 33) (by decide +kernel))) rfl
theorem kK_X6_228 : Cond.constantLong RX6 228 (Int64.ofInt (48)) ∈ gtb := gm (tb6 (List.mem_of_getElem? (i := 34) (by decide +kernel))) rfl
theorem kL_X6_243 : Cond.methodLink RX6 243 yX6_readsItem ∈ gtb := gm (tb6 (List.mem_of_getElem? (i := 35) (by decide +kernel))) rfl
theorem kI_X6_readsItem : Cond.instanceMethod yX6_readsItem ∈ gtb := gm (tb6 (List.mem_of_getElem? (i := 37) (by decide +kernel))) rfl
theorem kC_X6_readsItem : Cond.code yX6_readsItem cX6_readsItem 6 (some FieldType.boolean) ∈ gtb := gm (tb6 (List.mem_of_getElem? (i := 38) rfl)) rfl
theorem kL_X6_233 : Cond.methodLink RX6 233 yX6_wordOf ∈ gtb := gm (tb6 (List.mem_of_getElem? (i := 39) (by decide +kernel))) rfl
theorem kI_X6_wordOf : Cond.instanceMethod yX6_wordOf ∈ gtb := gm (tb6 (List.mem_of_getElem? (i := 41) (by decide +kernel))) rfl
theorem kC_X6_wordOf : Cond.code yX6_wordOf cX6_wordOf 7 (some FieldType.int) ∈ gtb := gm (tb6 (List.mem_of_getElem? (i := 42) rfl)) rfl
theorem kL_X6_240 : Cond.methodLink RX6 240 yX6_readsSnail ∈ gtb := gm (tb6 (List.mem_of_getElem? (i := 43) (by decide +kernel))) rfl
theorem kI_X6_readsSnail : Cond.instanceMethod yX6_readsSnail ∈ gtb := gm (tb6 (List.mem_of_getElem? (i := 45) (by decide +kernel))) rfl
theorem kC_X6_readsSnail : Cond.code yX6_readsSnail cX6_readsSnail 5 (some FieldType.boolean) ∈ gtb := gm (tb6 (List.mem_of_getElem? (i := 46) rfl)) rfl
theorem kL_X6_237 : Cond.methodLink RX6 237 yX6_takesNumber ∈ gtb := gm (tb6 (List.mem_of_getElem? (i := 47) (by decide +kernel))) rfl
theorem kI_X6_takesNumber : Cond.instanceMethod yX6_takesNumber ∈ gtb := gm (tb6 (List.mem_of_getElem? (i := 49) (by decide +kernel))) rfl
theorem kC_X6_takesNumber : Cond.code yX6_takesNumber cX6_takesNumber 4 (some FieldType.int) ∈ gtb := gm (tb6 (List.mem_of_getElem? (i := 50) rfl)) rfl
theorem kL_L_169 : Cond.methodLink RL 169 yX6_hold ∈ gtb := gm (tb6 (List.mem_of_getElem? (i := 51) (by decide +kernel))) rfl
theorem kI_X6_hold : Cond.instanceMethod yX6_hold ∈ gtb := gm (tb6 (List.mem_of_getElem? (i := 52) (by decide +kernel))) rfl
theorem kV_X6_hold : Cond.selects RX6 yX6_hold yX6_hold ∈ gtb := gm (tb6 (List.mem_of_getElem? (i := 53) (by decide +kernel))) rfl
theorem kC_X6_hold : Cond.code yX6_hold cX6_hold 3 (some FieldType.int) ∈ gtb := gm (tb6 (List.mem_of_getElem? (i := 54) rfl)) rfl
theorem kL_X6_247 : Cond.methodLink RX6 247 yX6_isSpot ∈ gtb := gm (tb6 (List.mem_of_getElem? (i := 55) (by decide +kernel))) rfl
theorem kS_X6_isSpot : Cond.static yX6_isSpot ∈ gtb := gm (tb6 (List.mem_of_getElem? (i := 56) (by decide +kernel))) rfl
theorem kC_X6_isSpot : Cond.code yX6_isSpot cX6_isSpot 1 (some FieldType.boolean) ∈ gtb := gm (tb6 (List.mem_of_getElem? (i := 57) rfl)) rfl
theorem kL_L_173 : Cond.methodLink RL 173 yX6_as ∈ gtb := gm (tb6 (List.mem_of_getElem? (i := 58) (by decide +kernel))) rfl
theorem kI_X6_as : Cond.instanceMethod yX6_as ∈ gtb := gm (tb6 (List.mem_of_getElem? (i := 59) (by decide +kernel))) rfl
theorem kV_X6_as : Cond.selects RX6 yX6_as yX6_as ∈ gtb := gm (tb6 (List.mem_of_getElem? (i := 60) (by decide +kernel))) rfl
theorem kC_X6_as : Cond.code yX6_as cX6_as 5 (some FieldType.int) ∈ gtb := gm (tb6 (List.mem_of_getElem? (i := 61) rfl)) rfl
theorem kL_X6_250 : Cond.methodLink RX6 250 yX6_above ∈ gtb := gm (tb6 (List.mem_of_getElem? (i := 62) (by decide +kernel))) rfl
theorem kS_X6_above : Cond.static yX6_above ∈ gtb := gm (tb6 (List.mem_of_getElem? (i := 63) (by decide +kernel))) rfl
theorem kC_X6_above : Cond.code yX6_above cX6_above 1 (some FieldType.int) ∈ gtb := gm (tb6 (List.mem_of_getElem? (i := 64) rfl)) rfl
theorem kL_L_177 : Cond.methodLink RL 177 yX6_sheet ∈ gtb := gm (tb6 (List.mem_of_getElem? (i := 65) (by decide +kernel))) rfl
theorem kI_X6_sheet : Cond.instanceMethod yX6_sheet ∈ gtb := gm (tb6 (List.mem_of_getElem? (i := 66) (by decide +kernel))) rfl
theorem kV_X6_sheet : Cond.selects RX6 yX6_sheet yX6_sheet ∈ gtb := gm (tb6 (List.mem_of_getElem? (i := 67) (by decide +kernel))) rfl
theorem kC_X6_sheet : Cond.code yX6_sheet cX6_sheet 5 (some FieldType.int) ∈ gtb := gm (tb6 (List.mem_of_getElem? (i := 68) rfl)) rfl
theorem kL_L_181 : Cond.methodLink RL 181 yX6_write ∈ gtb := gm (tb6 (List.mem_of_getElem? (i := 69) (by decide +kernel))) rfl
theorem kI_X6_write : Cond.instanceMethod yX6_write ∈ gtb := gm (tb6 (List.mem_of_getElem? (i := 70) (by decide +kernel))) rfl
theorem kV_X6_write : Cond.selects RX6 yX6_write yX6_write ∈ gtb := gm (tb6 (List.mem_of_getElem? (i := 71) (by decide +kernel))) rfl
theorem kC_X6_write : Cond.code yX6_write cX6_write 5 (some FieldType.int) ∈ gtb := gm (tb6 (List.mem_of_getElem? (i := 72) rfl)) rfl
theorem kL_L_186 : Cond.methodLink RL 186 yX6_copy ∈ gtb := gm (tb6 (List.mem_of_getElem? (i := 73) (by decide +kernel))) rfl
theorem kI_X6_copy : Cond.instanceMethod yX6_copy ∈ gtb := gm (tb6 (List.mem_of_getElem? (i := 74) (by decide +kernel))) rfl
theorem kV_X6_copy : Cond.selects RX6 yX6_copy yX6_copy ∈ gtb := gm (tb6 (List.mem_of_getElem? (i := 75) (by decide +kernel))) rfl
theorem kC_X6_copy : Cond.code yX6_copy cX6_copy 7 (some FieldType.int) ∈ gtb := gm (tb6 (List.mem_of_getElem? (i := 76) rfl)) rfl
theorem kL_L_190 : Cond.methodLink RL 190 yX6_load ∈ gtb := gm (tb6 (List.mem_of_getElem? (i := 77) (by decide +kernel))) rfl
theorem kI_X6_load : Cond.instanceMethod yX6_load ∈ gtb := gm (tb6 (List.mem_of_getElem? (i := 78) (by decide +kernel))) rfl
theorem kV_X6_load : Cond.selects RX6 yX6_load yX6_load ∈ gtb := gm (tb6 (List.mem_of_getElem? (i := 79) (by decide +kernel))) rfl
theorem kC_X6_load : Cond.code yX6_load cX6_load 4 (some FieldType.int) ∈ gtb := gm (tb6 (List.mem_of_getElem? (i := 80) rfl)) rfl
theorem kL_L_194 : Cond.methodLink RL 194 yX6_judge ∈ gtb := gm (tb6 (List.mem_of_getElem? (i := 81) (by decide +kernel))) rfl
theorem kI_X6_judge : Cond.instanceMethod yX6_judge ∈ gtb := gm (tb6 (List.mem_of_getElem? (i := 82) (by decide +kernel))) rfl
theorem kV_X6_judge : Cond.selects RX6 yX6_judge yX6_judge ∈ gtb := gm (tb6 (List.mem_of_getElem? (i := 83) (by decide +kernel))) rfl
theorem kC_X6_judge : Cond.code yX6_judge cX6_judge 4 (some FieldType.int) ∈ gtb := gm (tb6 (List.mem_of_getElem? (i := 84) rfl)) rfl
theorem kL_L_198 : Cond.methodLink RL 198 yX6_image ∈ gtb := gm (tb6 (List.mem_of_getElem? (i := 85) (by decide +kernel))) rfl
theorem kI_X6_image : Cond.instanceMethod yX6_image ∈ gtb := gm (tb6 (List.mem_of_getElem? (i := 86) (by decide +kernel))) rfl
theorem kV_X6_image : Cond.selects RX6 yX6_image yX6_image ∈ gtb := gm (tb6 (List.mem_of_getElem? (i := 87) (by decide +kernel))) rfl
theorem kC_X6_image : Cond.code yX6_image cX6_image 2 (some FieldType.int) ∈ gtb := gm (tb6 (List.mem_of_getElem? (i := 88) rfl)) rfl
theorem kL_L_202 : Cond.methodLink RL 202 yX6_undo ∈ gtb := gm (tb6 (List.mem_of_getElem? (i := 89) (by decide +kernel))) rfl
theorem kI_X6_undo : Cond.instanceMethod yX6_undo ∈ gtb := gm (tb6 (List.mem_of_getElem? (i := 90) (by decide +kernel))) rfl
theorem kV_X6_undo : Cond.selects RX6 yX6_undo yX6_undo ∈ gtb := gm (tb6 (List.mem_of_getElem? (i := 91) (by decide +kernel))) rfl
theorem kC_X6_undo : Cond.code yX6_undo cX6_undo 2 (some FieldType.int) ∈ gtb := gm (tb6 (List.mem_of_getElem? (i := 92) rfl)) rfl
theorem kL_L_206 : Cond.methodLink RL 206 yX6_tear ∈ gtb := gm (tb6 (List.mem_of_getElem? (i := 93) (by decide +kernel))) rfl
theorem kI_X6_tear : Cond.instanceMethod yX6_tear ∈ gtb := gm (tb6 (List.mem_of_getElem? (i := 94) (by decide +kernel))) rfl
theorem kV_X6_tear : Cond.selects RX6 yX6_tear yX6_tear ∈ gtb := gm (tb6 (List.mem_of_getElem? (i := 95) (by decide +kernel))) rfl
theorem kC_X6_tear : Cond.code yX6_tear cX6_tear 2 (some FieldType.int) ∈ gtb := gm (tb6 (List.mem_of_getElem? (i := 96) rfl)) rfl
theorem kL_L_210 : Cond.methodLink RL 210 yX6_count ∈ gtb := gm (tb6 (List.mem_of_getElem? (i := 97) (by decide +kernel))) rfl
theorem kI_X6_count : Cond.instanceMethod yX6_count ∈ gtb := gm (tb6 (List.mem_of_getElem? (i := 98) (by decide +kernel))) rfl
theorem kV_X6_count : Cond.selects RX6 yX6_count yX6_count ∈ gtb := gm (tb6 (List.mem_of_getElem? (i := 99) (by decide +kernel))) rfl
theorem kC_X6_count : Cond.code yX6_count cX6_count 4 (some FieldType.int) ∈ gtb := gm (tb6 (List.mem_of_getElem? (i := 100) rfl)) rfl
theorem kL_L_214 : Cond.methodLink RL 214 yX6_status ∈ gtb := gm (tb6 (List.mem_of_getElem? (i := 101) (by decide +kernel))) rfl
theorem kI_X6_status : Cond.instanceMethod yX6_status ∈ gtb := gm (tb6 (List.mem_of_getElem? (i := 102) (by decide +kernel))) rfl
theorem kV_X6_status : Cond.selects RX6 yX6_status yX6_status ∈ gtb := gm (tb6 (List.mem_of_getElem? (i := 103) (by decide +kernel))) rfl
theorem kC_X6_status : Cond.code yX6_status cX6_status 4 (some FieldType.int) ∈ gtb := gm (tb6 (List.mem_of_getElem? (i := 104) rfl)) rfl
theorem kF_J0_9 : Cond.fieldLink RJ0 9 RJ0 "value" "[B" ∈ gtb := gm (tb6 (List.mem_of_getElem? (i := 105) (by decide +kernel))) rfl
theorem kF_J0_15 : Cond.fieldLink RJ0 15 RJ0 "coder" "B" ∈ gtb := gm (tb6 (List.mem_of_getElem? (i := 106) (by decide +kernel))) rfl
theorem kV_X5_tell : Cond.selects RX5 yX5_tell yX5_tell ∈ gtb := gm (tb0 (List.mem_of_getElem? (i := 0) (by decide +kernel))) rfl
theorem kV_X4_spreadFrom : Cond.selects RX4 yX4_spreadFrom yX4_spreadFrom ∈ gtb := gm (tb0 (List.mem_of_getElem? (i := 1) (by decide +kernel))) rfl
theorem kV_X5_isSnail : Cond.selects RX5 yX5_isSnail yX5_isSnail ∈ gtb := gm (tb0 (List.mem_of_getElem? (i := 2) (by decide +kernel))) rfl
theorem kV_X4_nearerThan : Cond.selects RX4 yX4_nearerThan yX4_nearerThan ∈ gtb := gm (tb0 (List.mem_of_getElem? (i := 3) (by decide +kernel))) rfl
theorem kV_X1_passDayOf : Cond.selects RX1 yX1_passDayOf yX1_passDayOf ∈ gtb := gm (tb0 (List.mem_of_getElem? (i := 4) (by decide +kernel))) rfl
theorem kV_X1_comeUnder : Cond.selects RX1 yX1_comeUnder yX1_comeUnder ∈ gtb := gm (tb0 (List.mem_of_getElem? (i := 5) (by decide +kernel))) rfl
theorem kV_X0_passDay : Cond.selects RX0 yX0_passDay yX0_passDay ∈ gtb := gm (tb0 (List.mem_of_getElem? (i := 6) (by decide +kernel))) rfl
theorem kV_X0_isNearer : Cond.selects RX0 yX0_isNearer yX0_isNearer ∈ gtb := gm (tb0 (List.mem_of_getElem? (i := 7) (by decide +kernel))) rfl
theorem kV_X0_bringsLaw : Cond.selects RX0 yX0_bringsLaw yX0_bringsLaw ∈ gtb := gm (tb0 (List.mem_of_getElem? (i := 8) (by decide +kernel))) rfl
theorem kV_X0_bearsLaw : Cond.selects RX0 yX0_bearsLaw yX0_bearsLaw ∈ gtb := gm (tb0 (List.mem_of_getElem? (i := 9) (by decide +kernel))) rfl
theorem kV_X0_arrivesFrom : Cond.selects RX0 yX0_arrivesFrom yX0_arrivesFrom ∈ gtb := gm (tb0 (List.mem_of_getElem? (i := 10) (by decide +kernel))) rfl
theorem kV_X5_trailFlaw : Cond.selects RX5 yX5_trailFlaw yX5_trailFlaw ∈ gtb := gm (tb0 (List.mem_of_getElem? (i := 11) (by decide +kernel))) rfl
theorem kV_X5_sheetFlaw : Cond.selects RX5 yX5_sheetFlaw yX5_sheetFlaw ∈ gtb := gm (tb0 (List.mem_of_getElem? (i := 12) (by decide +kernel))) rfl
theorem kV_X3_cutTokens : Cond.selects RX3 yX3_cutTokens yX3_cutTokens ∈ gtb := gm (tb0 (List.mem_of_getElem? (i := 13) (by decide +kernel))) rfl
theorem kV_X3_cutToken : Cond.selects RX3 yX3_cutToken yX3_cutToken ∈ gtb := gm (tb0 (List.mem_of_getElem? (i := 14) (by decide +kernel))) rfl
theorem kV_X3_valueOf : Cond.selects RX3 yX3_valueOf yX3_valueOf ∈ gtb := gm (tb0 (List.mem_of_getElem? (i := 15) (by decide +kernel))) rfl
theorem kV_X3_readItem : Cond.selects RX3 yX3_readItem yX3_readItem ∈ gtb := gm (tb0 (List.mem_of_getElem? (i := 16) (by decide +kernel))) rfl
theorem kV_X3_kindNamed : Cond.selects RX3 yX3_kindNamed yX3_kindNamed ∈ gtb := gm (tb0 (List.mem_of_getElem? (i := 17) (by decide +kernel))) rfl
theorem kV_X3_isWord : Cond.selects RX3 yX3_isWord yX3_isWord ∈ gtb := gm (tb0 (List.mem_of_getElem? (i := 18) (by decide +kernel))) rfl
theorem kV_X3_readSnail : Cond.selects RX3 yX3_readSnail yX3_readSnail ∈ gtb := gm (tb0 (List.mem_of_getElem? (i := 19) (by decide +kernel))) rfl
theorem kV_X3_takePart : Cond.selects RX3 yX3_takePart yX3_takePart ∈ gtb := gm (tb0 (List.mem_of_getElem? (i := 20) (by decide +kernel))) rfl
theorem kV_X3_skipWord : Cond.selects RX3 yX3_skipWord yX3_skipWord ∈ gtb := gm (tb0 (List.mem_of_getElem? (i := 21) (by decide +kernel))) rfl
theorem kV_X3_takeNumber : Cond.selects RX3 yX3_takeNumber yX3_takeNumber ∈ gtb := gm (tb0 (List.mem_of_getElem? (i := 22) (by decide +kernel))) rfl
theorem kV_X3_readHedge : Cond.selects RX3 yX3_readHedge yX3_readHedge ∈ gtb := gm (tb0 (List.mem_of_getElem? (i := 23) (by decide +kernel))) rfl
theorem kV_X3_readGreens : Cond.selects RX3 yX3_readGreens yX3_readGreens ∈ gtb := gm (tb0 (List.mem_of_getElem? (i := 24) (by decide +kernel))) rfl
theorem kV_X3_readBans : Cond.selects RX3 yX3_readBans yX3_readBans ∈ gtb := gm (tb0 (List.mem_of_getElem? (i := 25) (by decide +kernel))) rfl
theorem kV_X3_readWet : Cond.selects RX3 yX3_readWet yX3_readWet ∈ gtb := gm (tb0 (List.mem_of_getElem? (i := 26) (by decide +kernel))) rfl
theorem kV_X3_readThrush : Cond.selects RX3 yX3_readThrush yX3_readThrush ∈ gtb := gm (tb0 (List.mem_of_getElem? (i := 27) (by decide +kernel))) rfl
theorem kV_X6_no : Cond.selects RX6 yX6_no yX6_no ∈ gtb := gm (tb0 (List.mem_of_getElem? (i := 28) (by decide +kernel))) rfl
theorem kV_X6_barsHedges : Cond.selects RX6 yX6_barsHedges yX6_barsHedges ∈ gtb := gm (tb0 (List.mem_of_getElem? (i := 29) (by decide +kernel))) rfl
theorem kV_X6_isHedge : Cond.selects RX6 yX6_isHedge yX6_isHedge ∈ gtb := gm (tb0 (List.mem_of_getElem? (i := 30) (by decide +kernel))) rfl
theorem kV_X6_spreads : Cond.selects RX6 yX6_spreads yX6_spreads ∈ gtb := gm (tb0 (List.mem_of_getElem? (i := 31) (by decide +kernel))) rfl
theorem kV_X6_addsSnail : Cond.selects RX6 yX6_addsSnail yX6_addsSnail ∈ gtb := gm (tb0 (List.mem_of_getElem? (i := 32) (by decide +kernel))) rfl
theorem kV_X6_puts : Cond.selects RX6 yX6_puts yX6_puts ∈ gtb := gm (tb0 (List.mem_of_getElem? (i := 33) (by decide +kernel))) rfl
theorem kV_X6_isSnail : Cond.selects RX6 yX6_isSnail yX6_isSnail ∈ gtb := gm (tb0 (List.mem_of_getElem? (i := 34) (by decide +kernel))) rfl
theorem kV_X6_findsFars : Cond.selects RX6 yX6_findsFars yX6_findsFars ∈ gtb := gm (tb0 (List.mem_of_getElem? (i := 35) (by decide +kernel))) rfl
theorem kV_X6_get : Cond.selects RX6 yX6_get yX6_get ∈ gtb := gm (tb0 (List.mem_of_getElem? (i := 36) (by decide +kernel))) rfl
theorem kV_X6_movesOf : Cond.selects RX6 yX6_movesOf yX6_movesOf ∈ gtb := gm (tb0 (List.mem_of_getElem? (i := 37) (by decide +kernel))) rfl
theorem kV_X6_farBy : Cond.selects RX6 yX6_farBy yX6_farBy ∈ gtb := gm (tb0 (List.mem_of_getElem? (i := 38) (by decide +kernel))) rfl
theorem kV_X6_days : Cond.selects RX6 yX6_days yX6_days ∈ gtb := gm (tb0 (List.mem_of_getElem? (i := 39) (by decide +kernel))) rfl
theorem kV_X6_allSnails : Cond.selects RX6 yX6_allSnails yX6_allSnails ∈ gtb := gm (tb0 (List.mem_of_getElem? (i := 40) (by decide +kernel))) rfl
theorem kV_X6_day : Cond.selects RX6 yX6_day yX6_day ∈ gtb := gm (tb0 (List.mem_of_getElem? (i := 41) (by decide +kernel))) rfl
theorem kV_X6_crawls : Cond.selects RX6 yX6_crawls yX6_crawls ∈ gtb := gm (tb0 (List.mem_of_getElem? (i := 42) (by decide +kernel))) rfl
theorem kV_X6_comesUnder : Cond.selects RX6 yX6_comesUnder yX6_comesUnder ∈ gtb := gm (tb0 (List.mem_of_getElem? (i := 43) (by decide +kernel))) rfl
theorem kV_X6_nextOf : Cond.selects RX6 yX6_nextOf yX6_nextOf ∈ gtb := gm (tb0 (List.mem_of_getElem? (i := 44) (by decide +kernel))) rfl
theorem kV_X6_isGreedy : Cond.selects RX6 yX6_isGreedy yX6_isGreedy ∈ gtb := gm (tb0 (List.mem_of_getElem? (i := 45) (by decide +kernel))) rfl
theorem kV_X6_underLaw : Cond.selects RX6 yX6_underLaw yX6_underLaw ∈ gtb := gm (tb0 (List.mem_of_getElem? (i := 46) (by decide +kernel))) rfl
theorem kV_X6_isThere : Cond.selects RX6 yX6_isThere yX6_isThere ∈ gtb := gm (tb0 (List.mem_of_getElem? (i := 47) (by decide +kernel))) rfl
theorem kV_X6_isLawful : Cond.selects RX6 yX6_isLawful yX6_isLawful ∈ gtb := gm (tb0 (List.mem_of_getElem? (i := 48) (by decide +kernel))) rfl
theorem kV_X6_lawfulCells : Cond.selects RX6 yX6_lawfulCells yX6_lawfulCells ∈ gtb := gm (tb0 (List.mem_of_getElem? (i := 49) (by decide +kernel))) rfl
theorem kV_X6_setsAside : Cond.selects RX6 yX6_setsAside yX6_setsAside ∈ gtb := gm (tb0 (List.mem_of_getElem? (i := 50) (by decide +kernel))) rfl
theorem kV_X6_laysBack : Cond.selects RX6 yX6_laysBack yX6_laysBack ∈ gtb := gm (tb0 (List.mem_of_getElem? (i := 51) (by decide +kernel))) rfl
theorem kV_X6_reachedBy : Cond.selects RX6 yX6_reachedBy yX6_reachedBy ∈ gtb := gm (tb0 (List.mem_of_getElem? (i := 52) (by decide +kernel))) rfl
theorem kV_X6_thereBy : Cond.selects RX6 yX6_thereBy yX6_thereBy ∈ gtb := gm (tb0 (List.mem_of_getElem? (i := 53) (by decide +kernel))) rfl
theorem kV_X6_bestRelease : Cond.selects RX6 yX6_bestRelease yX6_bestRelease ∈ gtb := gm (tb0 (List.mem_of_getElem? (i := 54) (by decide +kernel))) rfl
theorem kV_X6_priceOf : Cond.selects RX6 yX6_priceOf yX6_priceOf ∈ gtb := gm (tb0 (List.mem_of_getElem? (i := 55) (by decide +kernel))) rfl
theorem kV_X6_wrongTrail : Cond.selects RX6 yX6_wrongTrail yX6_wrongTrail ∈ gtb := gm (tb0 (List.mem_of_getElem? (i := 56) (by decide +kernel))) rfl
theorem kV_X6_wrongSheet : Cond.selects RX6 yX6_wrongSheet yX6_wrongSheet ∈ gtb := gm (tb0 (List.mem_of_getElem? (i := 57) (by decide +kernel))) rfl
theorem kV_X6_fitsFrom : Cond.selects RX6 yX6_fitsFrom yX6_fitsFrom ∈ gtb := gm (tb0 (List.mem_of_getElem? (i := 58) (by decide +kernel))) rfl
theorem kV_X6_draw : Cond.selects RX6 yX6_draw yX6_draw ∈ gtb := gm (tb0 (List.mem_of_getElem? (i := 59) (by decide +kernel))) rfl
theorem kV_X6_nextToken : Cond.selects RX6 yX6_nextToken yX6_nextToken ∈ gtb := gm (tb0 (List.mem_of_getElem? (i := 60) (by decide +kernel))) rfl
theorem kV_X6_readsItem : Cond.selects RX6 yX6_readsItem yX6_readsItem ∈ gtb := gm (tb0 (List.mem_of_getElem? (i := 61) (by decide +kernel))) rfl
theorem kV_X6_wordOf : Cond.selects RX6 yX6_wordOf yX6_wordOf ∈ gtb := gm (tb0 (List.mem_of_getElem? (i := 62) (by decide +kernel))) rfl
theorem kV_X6_readsSnail : Cond.selects RX6 yX6_readsSnail yX6_readsSnail ∈ gtb := gm (tb0 (List.mem_of_getElem? (i := 63) (by decide +kernel))) rfl
theorem kV_X6_takesNumber : Cond.selects RX6 yX6_takesNumber yX6_takesNumber ∈ gtb := gm (tb0 (List.mem_of_getElem? (i := 64) (by decide +kernel))) rfl
theorem c_in_X0 : ∀ w ∈ u_ws RX0 TX0 2, w ∈ gtb := by
  intro w hw
  obtain ⟨k, hk, rfl⟩ := List.mem_map.mp hw
  have hk := List.mem_range.mp hk
  rcases (show k = 0 ∨ k = 1 by omega) with rfl | rfl
  · exact kY_X0_draft
  · exact kY_X0_ways
theorem c_in_X1 : ∀ w ∈ u_ws RX1 TX1 17, w ∈ gtb := by
  intro w hw
  obtain ⟨k, hk, rfl⟩ := List.mem_map.mp hw
  have hk := List.mem_range.mp hk
  rcases (show k = 0 ∨ k = 1 ∨ k = 2 ∨ k = 3 ∨ k = 4 ∨ k = 5 ∨ k = 6 ∨ k = 7 ∨ k = 8 ∨ k = 9 ∨ k = 10 ∨ k = 11 ∨ k = 12 ∨ k = 13 ∨ k = 14 ∨ k = 15 ∨ k = 16 by omega) with rfl | rfl | rfl | rfl | rfl | rfl | rfl | rfl | rfl | rfl | rfl | rfl | rfl | rfl | rfl | rfl | rfl
  · exact kY_X1_hedges
  · exact kY_X1_leaves
  · exact kY_X1_laws
  · exact kY_X1_met
  · exact kY_X1_banned
  · exact kY_X1_kinds
  · exact kY_X1_ats
  · exact kY_X1_edicts
  · exact kY_X1_gates
  · exact kY_X1_prices
  · exact kY_X1_spots
  · exact kY_X1_snails
  · exact kY_X1_wet
  · exact kY_X1_thrush
  · exact kY_X1_day
  · exact kY_X1_clashes
  · exact kY_X1_z
theorem c_in_X2 : ∀ w ∈ u_ws RX2 TX2 3, w ∈ gtb := by
  intro w hw
  obtain ⟨k, hk, rfl⟩ := List.mem_map.mp hw
  have hk := List.mem_range.mp hk
  rcases (show k = 0 ∨ k = 1 ∨ k = 2 by omega) with rfl | rfl | rfl
  · exact kY_X2_bits
  · exact kY_X2_sizes
  · exact kY_X2_numbers
theorem c_in_X3 : ∀ w ∈ u_ws RX3 TX3 7, w ∈ gtb := by
  intro w hw
  obtain ⟨k, hk, rfl⟩ := List.mem_map.mp hw
  have hk := List.mem_range.mp hk
  rcases (show k = 0 ∨ k = 1 ∨ k = 2 ∨ k = 3 ∨ k = 4 ∨ k = 5 ∨ k = 6 by omega) with rfl | rfl | rfl | rfl | rfl | rfl | rfl
  · exact kY_X3_size
  · exact kY_X3_bytes
  · exact kY_X3_sorts
  · exact kY_X3_starts
  · exact kY_X3_ends
  · exact kY_X3_values
  · exact kY_X3_at
theorem c_in_X4 : ∀ w ∈ u_ws RX4 TX4 5, w ∈ gtb := by
  intro w hw
  obtain ⟨k, hk, rfl⟩ := List.mem_map.mp hw
  have hk := List.mem_range.mp hk
  rcases (show k = 0 ∨ k = 1 ∨ k = 2 ∨ k = 3 ∨ k = 4 by omega) with rfl | rfl | rfl | rfl | rfl
  · exact kY_X4_steps
  · exact kY_X4_open
  · exact kY_X4_queue
  · exact kY_X4_gateSteps
  · exact kY_X4_nextCells
theorem c_in_X5 : ∀ w ∈ u_ws RX5 TX5 8, w ∈ gtb := by
  intro w hw
  obtain ⟨k, hk, rfl⟩ := List.mem_map.mp hw
  have hk := List.mem_range.mp hk
  rcases (show k = 0 ∨ k = 1 ∨ k = 2 ∨ k = 3 ∨ k = 4 ∨ k = 5 ∨ k = 6 ∨ k = 7 by omega) with rfl | rfl | rfl | rfl | rfl | rfl | rfl | rfl
  · exact kY_X5_real
  · exact kY_X5_kept
  · exact kY_X5_forecast
  · exact kY_X5_ways
  · exact kY_X5_tape
  · exact kY_X5_sheets
  · exact kY_X5_told
  · exact kY_X5_isKept
theorem c_in_X6 : ∀ w ∈ u_ws RX6 TX6 22, w ∈ gtb := by
  intro w hw
  obtain ⟨k, hk, rfl⟩ := List.mem_map.mp hw
  have hk := List.mem_range.mp hk
  rcases (show k = 0 ∨ k = 1 ∨ k = 2 ∨ k = 3 ∨ k = 4 ∨ k = 5 ∨ k = 6 ∨ k = 7 ∨ k = 8 ∨ k = 9 ∨ k = 10 ∨ k = 11 ∨ k = 12 ∨ k = 13 ∨ k = 14 ∨ k = 15 ∨ k = 16 ∨ k = 17 ∨ k = 18 ∨ k = 19 ∨ k = 20 ∨ k = 21 by omega) with rfl | rfl | rfl | rfl | rfl | rfl | rfl | rfl | rfl | rfl | rfl | rfl | rfl | rfl | rfl | rfl | rfl | rfl | rfl | rfl | rfl | rfl
  · exact kY_X6_s
  · exact kY_X6_kept
  · exact kY_X6_aside
  · exact kY_X6_isKept
  · exact kY_X6_found
  · exact kY_X6_fars
  · exact kY_X6_order
  · exact kY_X6_isBarred
  · exact kY_X6_clashedAt
  · exact kY_X6_tape
  · exact kY_X6_taped
  · exact kY_X6_token
  · exact kY_X6_begun
  · exact kY_X6_ended
  · exact kY_X6_value
  · exact kY_X6_letters
  · exact kY_X6_more
  · exact kY_X6_others
  · exact kY_X6_widths
  · exact kY_X6_sizes
  · exact kY_X6_cells
  · exact kY_X6_carried
def MVs (y : MethodName) (b : ByteArray) (mL : Nat) (rt : Option FieldType) (n : Nat) : Prop := Cond.initialized y.cls ∈ gtb ∧ Cond.code y b mL rt ∈ gtb ∧ (y.cls ≠ "java/lang/invoke/MethodHandle" ∧ y.cls ≠ "java/lang/invoke/VarHandle") ∧ (parseMethodDescriptor y.desc).map (fun d => d.parameters.length) = some n
def MVi (y : MethodName) (b : ByteArray) (mL : Nat) (rt : Option FieldType) (n : Nat) : Prop := MVs y b mL rt n ∧ Cond.instanceMethod y ∈ gtb
def MVv (y : MethodName) (b : ByteArray) (mL : Nat) (rt : Option FieldType) (n : Nat) : Prop := MVi y b mL rt n ∧ Cond.selects y.cls y y ∈ gtb
theorem mv_X5_init : MVi yX5_init cX5_init 1 none 0 := ⟨⟨kD_X5, kC_X5_init, ⟨by decide +kernel, by decide +kernel⟩, by decide +kernel⟩, kI_X5_init⟩
theorem mv_X1_init : MVi yX1_init cX1_init 1 none 0 := ⟨⟨kD_X1, kC_X1_init, ⟨by decide +kernel, by decide +kernel⟩, by decide +kernel⟩, kI_X1_init⟩
theorem mv_J7_fill_53178 : MVs yJ7_fill_53178 cJ7_fill_53178 4 none 2 := ⟨kD_J7, kC_J7_fill_53178, ⟨by decide +kernel, by decide +kernel⟩, by decide +kernel⟩
theorem mv_X0_init : MVi yX0_init cX0_init 1 none 0 := ⟨⟨kD_X0, kC_X0_init, ⟨by decide +kernel, by decide +kernel⟩, by decide +kernel⟩, kI_X0_init⟩
theorem mv_X4_init : MVi yX4_init cX4_init 1 none 0 := ⟨⟨kD_X4, kC_X4_init, ⟨by decide +kernel, by decide +kernel⟩, by decide +kernel⟩, kI_X4_init⟩
theorem mv_X3_init : MVi yX3_init cX3_init 1 none 0 := ⟨⟨kD_X3, kC_X3_init, ⟨by decide +kernel, by decide +kernel⟩, by decide +kernel⟩, kI_X3_init⟩
theorem mv_X2_init : MVi yX2_init cX2_init 1 none 0 := ⟨⟨kD_X2, kC_X2_init, ⟨by decide +kernel, by decide +kernel⟩, by decide +kernel⟩, kI_X2_init⟩
theorem mv_X5_hedge : MVv yX5_hedge cX5_hedge 4 (some FieldType.int) 2 := ⟨⟨⟨kD_X5, kC_X5_hedge, ⟨by decide +kernel, by decide +kernel⟩, by decide +kernel⟩, kI_X5_hedge⟩, kV_X5_hedge⟩
theorem mv_X5_isCell : MVs yX5_isCell cX5_isCell 1 (some FieldType.boolean) 1 := ⟨kD_X5, kC_X5_isCell, ⟨by decide +kernel, by decide +kernel⟩, by decide +kernel⟩
theorem mv_X5_isWithin : MVs yX5_isWithin cX5_isWithin 2 (some FieldType.boolean) 2 := ⟨kD_X5, kC_X5_isWithin, ⟨by decide +kernel, by decide +kernel⟩, by decide +kernel⟩
theorem mv_X5_tell : MVv yX5_tell cX5_tell 3 (some FieldType.int) 1 := ⟨⟨⟨kD_X5, kC_X5_tell, ⟨by decide +kernel, by decide +kernel⟩, by decide +kernel⟩, kI_X5_tell⟩, kV_X5_tell⟩
theorem mv_X5_greens : MVv yX5_greens cX5_greens 4 (some FieldType.int) 2 := ⟨⟨⟨kD_X5, kC_X5_greens, ⟨by decide +kernel, by decide +kernel⟩, by decide +kernel⟩, kI_X5_greens⟩, kV_X5_greens⟩
theorem mv_X5_land : MVv yX5_land cX5_land 3 (some FieldType.int) 2 := ⟨⟨⟨kD_X5, kC_X5_land, ⟨by decide +kernel, by decide +kernel⟩, by decide +kernel⟩, kI_X5_land⟩, kV_X5_land⟩
theorem mv_X5_far : MVv yX5_far cX5_far 3 (some FieldType.int) 2 := ⟨⟨⟨kD_X5, kC_X5_far, ⟨by decide +kernel, by decide +kernel⟩, by decide +kernel⟩, kI_X5_far⟩, kV_X5_far⟩
theorem mv_X4_openLand : MVv yX4_openLand cX4_openLand 3 none 1 := ⟨⟨⟨kD_X4, kC_X4_openLand, ⟨by decide +kernel, by decide +kernel⟩, by decide +kernel⟩, kI_X4_openLand⟩, kV_X4_openLand⟩
theorem mv_X4_measure : MVv yX4_measure cX4_measure 4 none 1 := ⟨⟨⟨kD_X4, kC_X4_measure, ⟨by decide +kernel, by decide +kernel⟩, by decide +kernel⟩, kI_X4_measure⟩, kV_X4_measure⟩
theorem mv_X4_spreadFrom : MVv yX4_spreadFrom cX4_spreadFrom 6 (some FieldType.int) 2 := ⟨⟨⟨kD_X4, kC_X4_spreadFrom, ⟨by decide +kernel, by decide +kernel⟩, by decide +kernel⟩, kI_X4_spreadFrom⟩, kV_X4_spreadFrom⟩
theorem mv_X5_beside : MVs yX5_beside cX5_beside 2 (some FieldType.int) 2 := ⟨kD_X5, kC_X5_beside, ⟨by decide +kernel, by decide +kernel⟩, by decide +kernel⟩
theorem mv_X5_snail : MVv yX5_snail cX5_snail 4 (some FieldType.int) 2 := ⟨⟨⟨kD_X5, kC_X5_snail, ⟨by decide +kernel, by decide +kernel⟩, by decide +kernel⟩, kI_X5_snail⟩, kV_X5_snail⟩
theorem mv_X1_addSnail : MVv yX1_addSnail cX1_addSnail 4 (some FieldType.int) 2 := ⟨⟨⟨kD_X1, kC_X1_addSnail, ⟨by decide +kernel, by decide +kernel⟩, by decide +kernel⟩, kI_X1_addSnail⟩, kV_X1_addSnail⟩
theorem mv_X5_of : MVv yX5_of cX5_of 3 (some FieldType.int) 2 := ⟨⟨⟨kD_X5, kC_X5_of, ⟨by decide +kernel, by decide +kernel⟩, by decide +kernel⟩, kI_X5_of⟩, kV_X5_of⟩
theorem mv_X5_isSnail : MVv yX5_isSnail cX5_isSnail 2 (some FieldType.boolean) 1 := ⟨⟨⟨kD_X5, kC_X5_isSnail, ⟨by decide +kernel, by decide +kernel⟩, by decide +kernel⟩, kI_X5_isSnail⟩, kV_X5_isSnail⟩
theorem mv_X1_movesOf : MVv yX1_movesOf cX1_movesOf 5 (some FieldType.int) 1 := ⟨⟨⟨kD_X1, kC_X1_movesOf, ⟨by decide +kernel, by decide +kernel⟩, by decide +kernel⟩, kI_X1_movesOf⟩, kV_X1_movesOf⟩
theorem mv_X1_traitRow : MVv yX1_traitRow cX1_traitRow 2 (some (FieldType.array FieldType.int)) 1 := ⟨⟨⟨kD_X1, kC_X1_traitRow, ⟨by decide +kernel, by decide +kernel⟩, by decide +kernel⟩, kI_X1_traitRow⟩, kV_X1_traitRow⟩
theorem mv_X5_change : MVv yX5_change cX5_change 6 (some FieldType.int) 3 := ⟨⟨⟨kD_X5, kC_X5_change, ⟨by decide +kernel, by decide +kernel⟩, by decide +kernel⟩, kI_X5_change⟩, kV_X5_change⟩
theorem mv_X5_bans : MVv yX5_bans cX5_bans 4 (some FieldType.int) 2 := ⟨⟨⟨kD_X5, kC_X5_bans, ⟨by decide +kernel, by decide +kernel⟩, by decide +kernel⟩, kI_X5_bans⟩, kV_X5_bans⟩
theorem mv_X5_isLaw : MVs yX5_isLaw cX5_isLaw 1 (some FieldType.boolean) 1 := ⟨kD_X5, kC_X5_isLaw, ⟨by decide +kernel, by decide +kernel⟩, by decide +kernel⟩
theorem mv_X5_set : MVv yX5_set cX5_set 4 (some FieldType.int) 2 := ⟨⟨⟨kD_X5, kC_X5_set, ⟨by decide +kernel, by decide +kernel⟩, by decide +kernel⟩, kI_X5_set⟩, kV_X5_set⟩
theorem mv_X5_go : MVv yX5_go cX5_go 2 (some FieldType.int) 1 := ⟨⟨⟨kD_X5, kC_X5_go, ⟨by decide +kernel, by decide +kernel⟩, by decide +kernel⟩, kI_X5_go⟩, kV_X5_go⟩
theorem mv_X4_survey : MVv yX4_survey cX4_survey 4 none 1 := ⟨⟨⟨kD_X4, kC_X4_survey, ⟨by decide +kernel, by decide +kernel⟩, by decide +kernel⟩, kI_X4_survey⟩, kV_X4_survey⟩
theorem mv_X4_nearerThan : MVv yX4_nearerThan cX4_nearerThan 4 (some FieldType.int) 1 := ⟨⟨⟨kD_X4, kC_X4_nearerThan, ⟨by decide +kernel, by decide +kernel⟩, by decide +kernel⟩, kI_X4_nearerThan⟩, kV_X4_nearerThan⟩
theorem mv_X1_passDays : MVv yX1_passDays cX1_passDays 6 none 3 := ⟨⟨⟨kD_X1, kC_X1_passDays, ⟨by decide +kernel, by decide +kernel⟩, by decide +kernel⟩, kI_X1_passDays⟩, kV_X1_passDays⟩
theorem mv_X1_passDayOf : MVv yX1_passDayOf cX1_passDayOf 8 none 2 := ⟨⟨⟨kD_X1, kC_X1_passDayOf, ⟨by decide +kernel, by decide +kernel⟩, by decide +kernel⟩, kI_X1_passDayOf⟩, kV_X1_passDayOf⟩
theorem mv_X1_comeUnder : MVv yX1_comeUnder cX1_comeUnder 3 none 2 := ⟨⟨⟨kD_X1, kC_X1_comeUnder, ⟨by decide +kernel, by decide +kernel⟩, by decide +kernel⟩, kI_X1_comeUnder⟩, kV_X1_comeUnder⟩
theorem mv_J9_min_7cf53 : MVs yJ9_min_7cf53 cJ9_min_7cf53 2 (some FieldType.int) 2 := ⟨kD_J9, kC_J9_min_7cf53, ⟨by decide +kernel, by decide +kernel⟩, by decide +kernel⟩
theorem mv_X4_nextOf : MVv yX4_nextOf cX4_nextOf 3 (some FieldType.int) 2 := ⟨⟨⟨kD_X4, kC_X4_nextOf, ⟨by decide +kernel, by decide +kernel⟩, by decide +kernel⟩, kI_X4_nextOf⟩, kV_X4_nextOf⟩
theorem mv_X5_isOfKind : MVs yX5_isOfKind cX5_isOfKind 4 (some FieldType.boolean) 2 := ⟨kD_X5, kC_X5_isOfKind, ⟨by decide +kernel, by decide +kernel⟩, by decide +kernel⟩
theorem mv_X5_now : MVv yX5_now cX5_now 2 (some FieldType.int) 1 := ⟨⟨⟨kD_X5, kC_X5_now, ⟨by decide +kernel, by decide +kernel⟩, by decide +kernel⟩, kI_X5_now⟩, kV_X5_now⟩
theorem mv_X1_lawfulCells : MVv yX1_lawfulCells cX1_lawfulCells 1 (some FieldType.int) 0 := ⟨⟨⟨kD_X1, kC_X1_lawfulCells, ⟨by decide +kernel, by decide +kernel⟩, by decide +kernel⟩, kI_X1_lawfulCells⟩, kV_X1_lawfulCells⟩
theorem mv_X1_cellsUnder : MVv yX1_cellsUnder cX1_cellsUnder 4 (some FieldType.int) 1 := ⟨⟨⟨kD_X1, kC_X1_cellsUnder, ⟨by decide +kernel, by decide +kernel⟩, by decide +kernel⟩, kI_X1_cellsUnder⟩, kV_X1_cellsUnder⟩
theorem mv_X1_allLeaves : MVv yX1_allLeaves cX1_allLeaves 1 (some FieldType.int) 0 := ⟨⟨⟨kD_X1, kC_X1_allLeaves, ⟨by decide +kernel, by decide +kernel⟩, by decide +kernel⟩, kI_X1_allLeaves⟩, kV_X1_allLeaves⟩
theorem mv_X1_sumOf : MVs yX1_sumOf cX1_sumOf 6 (some FieldType.int) 1 := ⟨kD_X1, kC_X1_sumOf, ⟨by decide +kernel, by decide +kernel⟩, by decide +kernel⟩
theorem mv_X1_arrivedSnails : MVv yX1_arrivedSnails cX1_arrivedSnails 3 (some FieldType.int) 0 := ⟨⟨⟨kD_X1, kC_X1_arrivedSnails, ⟨by decide +kernel, by decide +kernel⟩, by decide +kernel⟩, kI_X1_arrivedSnails⟩, kV_X1_arrivedSnails⟩
theorem mv_X5_realm : MVv yX5_realm cX5_realm 2 (some FieldType.int) 1 := ⟨⟨⟨kD_X5, kC_X5_realm, ⟨by decide +kernel, by decide +kernel⟩, by decide +kernel⟩, kI_X5_realm⟩, kV_X5_realm⟩
theorem mv_X5_repeals : MVv yX5_repeals cX5_repeals 2 (some FieldType.int) 0 := ⟨⟨⟨kD_X5, kC_X5_repeals, ⟨by decide +kernel, by decide +kernel⟩, by decide +kernel⟩, kI_X5_repeals⟩, kV_X5_repeals⟩
theorem mv_X5_may : MVv yX5_may cX5_may 3 (some FieldType.int) 2 := ⟨⟨⟨kD_X5, kC_X5_may, ⟨by decide +kernel, by decide +kernel⟩, by decide +kernel⟩, kI_X5_may⟩, kV_X5_may⟩
theorem mv_X5_isDeed : MVs yX5_isDeed cX5_isDeed 1 (some FieldType.boolean) 1 := ⟨kD_X5, kC_X5_isDeed, ⟨by decide +kernel, by decide +kernel⟩, by decide +kernel⟩
theorem mv_X1_isLawful : MVv yX1_isLawful cX1_isLawful 4 (some FieldType.boolean) 2 := ⟨⟨⟨kD_X1, kC_X1_isLawful, ⟨by decide +kernel, by decide +kernel⟩, by decide +kernel⟩, kI_X1_isLawful⟩, kV_X1_isLawful⟩
theorem mv_X5_where : MVv yX5_where cX5_where 2 (some FieldType.int) 1 := ⟨⟨⟨kD_X5, kC_X5_where, ⟨by decide +kernel, by decide +kernel⟩, by decide +kernel⟩, kI_X5_where⟩, kV_X5_where⟩
theorem mv_X1_openCellsFor : MVv yX1_openCellsFor cX1_openCellsFor 4 (some FieldType.int) 1 := ⟨⟨⟨kD_X1, kC_X1_openCellsFor, ⟨by decide +kernel, by decide +kernel⟩, by decide +kernel⟩, kI_X1_openCellsFor⟩, kV_X1_openCellsFor⟩
theorem mv_X5_route : MVv yX5_route cX5_route 4 (some FieldType.int) 3 := ⟨⟨⟨kD_X5, kC_X5_route, ⟨by decide +kernel, by decide +kernel⟩, by decide +kernel⟩, kI_X5_route⟩, kV_X5_route⟩
theorem mv_X4_openFor : MVv yX4_openFor cX4_openFor 4 none 2 := ⟨⟨⟨kD_X4, kC_X4_openFor, ⟨by decide +kernel, by decide +kernel⟩, by decide +kernel⟩, kI_X4_openFor⟩, kV_X4_openFor⟩
theorem mv_X5_free : MVv yX5_free cX5_free 1 (some FieldType.int) 0 := ⟨⟨⟨kD_X5, kC_X5_free, ⟨by decide +kernel, by decide +kernel⟩, by decide +kernel⟩, kI_X5_free⟩, kV_X5_free⟩
theorem mv_X1_freeDeeds : MVv yX1_freeDeeds cX1_freeDeeds 3 (some FieldType.int) 0 := ⟨⟨⟨kD_X1, kC_X1_freeDeeds, ⟨by decide +kernel, by decide +kernel⟩, by decide +kernel⟩, kI_X1_freeDeeds⟩, kV_X1_freeDeeds⟩
theorem mv_X5_ahead : MVv yX5_ahead cX5_ahead 3 (some FieldType.int) 2 := ⟨⟨⟨kD_X5, kC_X5_ahead, ⟨by decide +kernel, by decide +kernel⟩, by decide +kernel⟩, kI_X5_ahead⟩, kV_X5_ahead⟩
theorem mv_X0_behind : MVv yX0_behind cX0_behind 3 (some (FieldType.object "SnailLaws$Republic")) 2 := ⟨⟨⟨kD_X0, kC_X0_behind, ⟨by decide +kernel, by decide +kernel⟩, by decide +kernel⟩, kI_X0_behind⟩, kV_X0_behind⟩
theorem mv_X1_become : MVv yX1_become cX1_become 2 none 1 := ⟨⟨⟨kD_X1, kC_X1_become, ⟨by decide +kernel, by decide +kernel⟩, by decide +kernel⟩, kI_X1_become⟩, kV_X1_become⟩
theorem mv_X0_survey : MVv yX0_survey cX0_survey 2 none 1 := ⟨⟨⟨kD_X0, kC_X0_survey, ⟨by decide +kernel, by decide +kernel⟩, by decide +kernel⟩, kI_X0_survey⟩, kV_X0_survey⟩
theorem mv_X5_lawAt : MVv yX5_lawAt cX5_lawAt 3 (some FieldType.int) 2 := ⟨⟨⟨kD_X5, kC_X5_lawAt, ⟨by decide +kernel, by decide +kernel⟩, by decide +kernel⟩, kI_X5_lawAt⟩, kV_X5_lawAt⟩
theorem mv_X5_reaches : MVv yX5_reaches cX5_reaches 4 (some FieldType.int) 2 := ⟨⟨⟨kD_X5, kC_X5_reaches, ⟨by decide +kernel, by decide +kernel⟩, by decide +kernel⟩, kI_X5_reaches⟩, kV_X5_reaches⟩
theorem mv_X0_daysToLaw : MVv yX0_daysToLaw cX0_daysToLaw 6 (some FieldType.int) 4 := ⟨⟨⟨kD_X0, kC_X0_daysToLaw, ⟨by decide +kernel, by decide +kernel⟩, by decide +kernel⟩, kI_X0_daysToLaw⟩, kV_X0_daysToLaw⟩
theorem mv_X0_passDay : MVv yX0_passDay cX0_passDay 1 none 0 := ⟨⟨⟨kD_X0, kC_X0_passDay, ⟨by decide +kernel, by decide +kernel⟩, by decide +kernel⟩, kI_X0_passDay⟩, kV_X0_passDay⟩
theorem mv_X5_wetFor : MVv yX5_wetFor cX5_wetFor 7 (some FieldType.int) 2 := ⟨⟨⟨kD_X5, kC_X5_wetFor, ⟨by decide +kernel, by decide +kernel⟩, by decide +kernel⟩, kI_X5_wetFor⟩, kV_X5_wetFor⟩
theorem mv_X5_comes : MVv yX5_comes cX5_comes 3 (some FieldType.int) 1 := ⟨⟨⟨kD_X5, kC_X5_comes, ⟨by decide +kernel, by decide +kernel⟩, by decide +kernel⟩, kI_X5_comes⟩, kV_X5_comes⟩
theorem mv_X0_daysToGate : MVv yX0_daysToGate cX0_daysToGate 5 (some FieldType.int) 3 := ⟨⟨⟨kD_X0, kC_X0_daysToGate, ⟨by decide +kernel, by decide +kernel⟩, by decide +kernel⟩, kI_X0_daysToGate⟩, kV_X0_daysToGate⟩
theorem mv_X5_kindFor : MVv yX5_kindFor cX5_kindFor 6 (some FieldType.int) 1 := ⟨⟨⟨kD_X5, kC_X5_kindFor, ⟨by decide +kernel, by decide +kernel⟩, by decide +kernel⟩, kI_X5_kindFor⟩, kV_X5_kindFor⟩
theorem mv_X5_overtakes : MVv yX5_overtakes cX5_overtakes 4 (some FieldType.int) 2 := ⟨⟨⟨kD_X5, kC_X5_overtakes, ⟨by decide +kernel, by decide +kernel⟩, by decide +kernel⟩, kI_X5_overtakes⟩, kV_X5_overtakes⟩
theorem mv_X0_daysToOvertake : MVv yX0_daysToOvertake cX0_daysToOvertake 5 (some FieldType.int) 3 := ⟨⟨⟨kD_X0, kC_X0_daysToOvertake, ⟨by decide +kernel, by decide +kernel⟩, by decide +kernel⟩, kI_X0_daysToOvertake⟩, kV_X0_daysToOvertake⟩
theorem mv_X0_isNearer : MVv yX0_isNearer cX0_isNearer 3 (some FieldType.boolean) 2 := ⟨⟨⟨kD_X0, kC_X0_isNearer, ⟨by decide +kernel, by decide +kernel⟩, by decide +kernel⟩, kI_X0_isNearer⟩, kV_X0_isNearer⟩
theorem mv_X4_gateStepsOf : MVv yX4_gateStepsOf cX4_gateStepsOf 3 (some FieldType.int) 2 := ⟨⟨⟨kD_X4, kC_X4_gateStepsOf, ⟨by decide +kernel, by decide +kernel⟩, by decide +kernel⟩, kI_X4_gateStepsOf⟩, kV_X4_gateStepsOf⟩
theorem mv_X5_lag : MVv yX5_lag cX5_lag 6 (some FieldType.int) 3 := ⟨⟨⟨kD_X5, kC_X5_lag, ⟨by decide +kernel, by decide +kernel⟩, by decide +kernel⟩, kI_X5_lag⟩, kV_X5_lag⟩
theorem mv_X5_clash : MVv yX5_clash cX5_clash 3 (some FieldType.int) 1 := ⟨⟨⟨kD_X5, kC_X5_clash, ⟨by decide +kernel, by decide +kernel⟩, by decide +kernel⟩, kI_X5_clash⟩, kV_X5_clash⟩
theorem mv_X0_cellOfMostClashes : MVv yX0_cellOfMostClashes cX0_cellOfMostClashes 6 (some FieldType.int) 2 := ⟨⟨⟨kD_X0, kC_X0_cellOfMostClashes, ⟨by decide +kernel, by decide +kernel⟩, by decide +kernel⟩, kI_X0_cellOfMostClashes⟩, kV_X0_cellOfMostClashes⟩
theorem mv_X5_release : MVv yX5_release cX5_release 5 (some FieldType.int) 3 := ⟨⟨⟨kD_X5, kC_X5_release, ⟨by decide +kernel, by decide +kernel⟩, by decide +kernel⟩, kI_X5_release⟩, kV_X5_release⟩
theorem mv_X0_cheapestSet : MVv yX0_cheapestSet cX0_cheapestSet 10 (some FieldType.int) 4 := ⟨⟨⟨kD_X0, kC_X0_cheapestSet, ⟨by decide +kernel, by decide +kernel⟩, by decide +kernel⟩, kI_X0_cheapestSet⟩, kV_X0_cheapestSet⟩
theorem mv_X1_priceOf : MVv yX1_priceOf cX1_priceOf 4 (some FieldType.int) 1 := ⟨⟨⟨kD_X1, kC_X1_priceOf, ⟨by decide +kernel, by decide +kernel⟩, by decide +kernel⟩, kI_X1_priceOf⟩, kV_X1_priceOf⟩
theorem mv_X0_bringsLaw : MVv yX0_bringsLaw cX0_bringsLaw 6 (some FieldType.boolean) 5 := ⟨⟨⟨kD_X0, kC_X0_bringsLaw, ⟨by decide +kernel, by decide +kernel⟩, by decide +kernel⟩, kI_X0_bringsLaw⟩, kV_X0_bringsLaw⟩
theorem mv_X0_bearsLaw : MVv yX0_bearsLaw cX0_bearsLaw 5 (some FieldType.boolean) 3 := ⟨⟨⟨kD_X0, kC_X0_bearsLaw, ⟨by decide +kernel, by decide +kernel⟩, by decide +kernel⟩, kI_X0_bearsLaw⟩, kV_X0_bearsLaw⟩
theorem mv_X5_costs : MVv yX5_costs cX5_costs 5 (some FieldType.int) 3 := ⟨⟨⟨kD_X5, kC_X5_costs, ⟨by decide +kernel, by decide +kernel⟩, by decide +kernel⟩, kI_X5_costs⟩, kV_X5_costs⟩
theorem mv_X5_farthest : MVv yX5_farthest cX5_farthest 3 (some FieldType.int) 2 := ⟨⟨⟨kD_X5, kC_X5_farthest, ⟨by decide +kernel, by decide +kernel⟩, by decide +kernel⟩, kI_X5_farthest⟩, kV_X5_farthest⟩
theorem mv_X0_farthestStart : MVv yX0_farthestStart cX0_farthestStart 8 (some FieldType.int) 3 := ⟨⟨⟨kD_X0, kC_X0_farthestStart, ⟨by decide +kernel, by decide +kernel⟩, by decide +kernel⟩, kI_X0_farthestStart⟩, kV_X0_farthestStart⟩
theorem mv_X0_arrivesFrom : MVv yX0_arrivesFrom cX0_arrivesFrom 6 (some FieldType.boolean) 4 := ⟨⟨⟨kD_X0, kC_X0_arrivesFrom, ⟨by decide +kernel, by decide +kernel⟩, by decide +kernel⟩, kI_X0_arrivesFrom⟩, kV_X0_arrivesFrom⟩
theorem mv_X5_fits : MVv yX5_fits cX5_fits 6 (some FieldType.int) 2 := ⟨⟨⟨kD_X5, kC_X5_fits, ⟨by decide +kernel, by decide +kernel⟩, by decide +kernel⟩, kI_X5_fits⟩, kV_X5_fits⟩
theorem mv_X5_trailFlaw : MVv yX5_trailFlaw cX5_trailFlaw 4 (some FieldType.int) 2 := ⟨⟨⟨kD_X5, kC_X5_trailFlaw, ⟨by decide +kernel, by decide +kernel⟩, by decide +kernel⟩, kI_X5_trailFlaw⟩, kV_X5_trailFlaw⟩
theorem mv_X5_sheetFlaw : MVv yX5_sheetFlaw cX5_sheetFlaw 2 (some FieldType.int) 1 := ⟨⟨⟨kD_X5, kC_X5_sheetFlaw, ⟨by decide +kernel, by decide +kernel⟩, by decide +kernel⟩, kI_X5_sheetFlaw⟩, kV_X5_sheetFlaw⟩
theorem mv_X5_isSheet : MVs yX5_isSheet cX5_isSheet 1 (some FieldType.boolean) 1 := ⟨kD_X5, kC_X5_isSheet, ⟨by decide +kernel, by decide +kernel⟩, by decide +kernel⟩
theorem mv_X2_isMissing : MVv yX2_isMissing cX2_isMissing 2 (some FieldType.boolean) 1 := ⟨⟨⟨kD_X2, kC_X2_isMissing, ⟨by decide +kernel, by decide +kernel⟩, by decide +kernel⟩, kI_X2_isMissing⟩, kV_X2_isMissing⟩
theorem mv_X0_leavesTrail : MVv yX0_leavesTrail cX0_leavesTrail 8 (some FieldType.boolean) 5 := ⟨⟨⟨kD_X0, kC_X0_leavesTrail, ⟨by decide +kernel, by decide +kernel⟩, by decide +kernel⟩, kI_X0_leavesTrail⟩, kV_X0_leavesTrail⟩
theorem mv_X2_numberAt : MVv yX2_numberAt cX2_numberAt 3 (some FieldType.int) 2 := ⟨⟨⟨kD_X2, kC_X2_numberAt, ⟨by decide +kernel, by decide +kernel⟩, by decide +kernel⟩, kI_X2_numberAt⟩, kV_X2_numberAt⟩
theorem mv_X5_began : MVv yX5_began cX5_began 5 (some FieldType.int) 2 := ⟨⟨⟨kD_X5, kC_X5_began, ⟨by decide +kernel, by decide +kernel⟩, by decide +kernel⟩, kI_X5_began⟩, kV_X5_began⟩
theorem mv_X5_thrushes : MVv yX5_thrushes cX5_thrushes 4 (some FieldType.int) 1 := ⟨⟨⟨kD_X5, kC_X5_thrushes, ⟨by decide +kernel, by decide +kernel⟩, by decide +kernel⟩, kI_X5_thrushes⟩, kV_X5_thrushes⟩
theorem mv_X1_drawThrushes : MVv yX1_drawThrushes cX1_drawThrushes 3 (some FieldType.int) 0 := ⟨⟨⟨kD_X1, kC_X1_drawThrushes, ⟨by decide +kernel, by decide +kernel⟩, by decide +kernel⟩, kI_X1_drawThrushes⟩, kV_X1_drawThrushes⟩
theorem mv_X5_alone : MVv yX5_alone cX5_alone 9 (some FieldType.long) 2 := ⟨⟨⟨kD_X5, kC_X5_alone, ⟨by decide +kernel, by decide +kernel⟩, by decide +kernel⟩, kI_X5_alone⟩, kV_X5_alone⟩
theorem mv_X5_commonDivisor : MVs yX5_commonDivisor cX5_commonDivisor 3 (some FieldType.int) 1 := ⟨kD_X5, kC_X5_commonDivisor, ⟨by decide +kernel, by decide +kernel⟩, by decide +kernel⟩
theorem mv_X5_seed : MVv yX5_seed cX5_seed 3 (some FieldType.int) 1 := ⟨⟨⟨kD_X5, kC_X5_seed, ⟨by decide +kernel, by decide +kernel⟩, by decide +kernel⟩, kI_X5_seed⟩, kV_X5_seed⟩
theorem mv_X5_feed : MVv yX5_feed cX5_feed 3 (some FieldType.int) 2 := ⟨⟨⟨kD_X5, kC_X5_feed, ⟨by decide +kernel, by decide +kernel⟩, by decide +kernel⟩, kI_X5_feed⟩, kV_X5_feed⟩
theorem mv_X3_append : MVv yX3_append cX3_append 4 (some FieldType.boolean) 2 := ⟨⟨⟨kD_X3, kC_X3_append, ⟨by decide +kernel, by decide +kernel⟩, by decide +kernel⟩, kI_X3_append⟩, kV_X3_append⟩
theorem mv_X5_wipe : MVv yX5_wipe cX5_wipe 2 (some FieldType.int) 0 := ⟨⟨⟨kD_X5, kC_X5_wipe, ⟨by decide +kernel, by decide +kernel⟩, by decide +kernel⟩, kI_X5_wipe⟩, kV_X5_wipe⟩
theorem mv_X5_text : MVv yX5_text cX5_text 2 (some FieldType.int) 0 := ⟨⟨⟨kD_X5, kC_X5_text, ⟨by decide +kernel, by decide +kernel⟩, by decide +kernel⟩, kI_X5_text⟩, kV_X5_text⟩
theorem mv_X0_draftOf : MVv yX0_draftOf cX0_draftOf 2 (some (FieldType.object "SnailLaws$Republic")) 1 := ⟨⟨⟨kD_X0, kC_X0_draftOf, ⟨by decide +kernel, by decide +kernel⟩, by decide +kernel⟩, kI_X0_draftOf⟩, kV_X0_draftOf⟩
theorem mv_X3_readInto : MVv yX3_readInto cX3_readInto 3 (some FieldType.int) 1 := ⟨⟨⟨kD_X3, kC_X3_readInto, ⟨by decide +kernel, by decide +kernel⟩, by decide +kernel⟩, kI_X3_readInto⟩, kV_X3_readInto⟩
theorem mv_X3_cutTokens : MVv yX3_cutTokens cX3_cutTokens 3 none 0 := ⟨⟨⟨kD_X3, kC_X3_cutTokens, ⟨by decide +kernel, by decide +kernel⟩, by decide +kernel⟩, kI_X3_cutTokens⟩, kV_X3_cutTokens⟩
theorem mv_X3_cutToken : MVv yX3_cutToken cX3_cutToken 6 (some FieldType.int) 2 := ⟨⟨⟨kD_X3, kC_X3_cutToken, ⟨by decide +kernel, by decide +kernel⟩, by decide +kernel⟩, kI_X3_cutToken⟩, kV_X3_cutToken⟩
theorem mv_X3_sortOf : MVs yX3_sortOf cX3_sortOf 1 (some FieldType.int) 1 := ⟨kD_X3, kC_X3_sortOf, ⟨by decide +kernel, by decide +kernel⟩, by decide +kernel⟩
theorem mv_X3_valueOf : MVv yX3_valueOf cX3_valueOf 5 (some FieldType.int) 2 := ⟨⟨⟨kD_X3, kC_X3_valueOf, ⟨by decide +kernel, by decide +kernel⟩, by decide +kernel⟩, kI_X3_valueOf⟩, kV_X3_valueOf⟩
theorem mv_X3_readItem : MVv yX3_readItem cX3_readItem 3 (some FieldType.boolean) 1 := ⟨⟨⟨kD_X3, kC_X3_readItem, ⟨by decide +kernel, by decide +kernel⟩, by decide +kernel⟩, kI_X3_readItem⟩, kV_X3_readItem⟩
theorem mv_X3_kindNamed : MVv yX3_kindNamed cX3_kindNamed 1 (some FieldType.int) 0 := ⟨⟨⟨kD_X3, kC_X3_kindNamed, ⟨by decide +kernel, by decide +kernel⟩, by decide +kernel⟩, kI_X3_kindNamed⟩, kV_X3_kindNamed⟩
theorem mv_X3_isWord : MVv yX3_isWord cX3_isWord 4 (some FieldType.boolean) 1 := ⟨⟨⟨kD_X3, kC_X3_isWord, ⟨by decide +kernel, by decide +kernel⟩, by decide +kernel⟩, kI_X3_isWord⟩, kV_X3_isWord⟩
theorem mv_J0_length_8abf5 : MVv yJ0_length_8abf5 cJ0_length_8abf5 1 (some FieldType.int) 0 := ⟨⟨⟨kD_J0, kC_J0_length_8abf5, ⟨by decide +kernel, by decide +kernel⟩, by decide +kernel⟩, kI_J0_length_8abf5⟩, kV_J0_length_8abf5⟩
theorem mv_J0_coder_7d493 : MVv yJ0_coder_7d493 cJ0_coder_7d493 1 (some FieldType.byte) 0 := ⟨⟨⟨kD_J0, kC_J0_coder_7d493, ⟨by decide +kernel, by decide +kernel⟩, by decide +kernel⟩, kI_J0_coder_7d493⟩, kV_J0_coder_7d493⟩
theorem mv_J0_charAt_5068e : MVv yJ0_charAt_5068e cJ0_charAt_5068e 2 (some FieldType.char) 1 := ⟨⟨⟨kD_J0, kC_J0_charAt_5068e, ⟨by decide +kernel, by decide +kernel⟩, by decide +kernel⟩, kI_J0_charAt_5068e⟩, kV_J0_charAt_5068e⟩
theorem mv_J0_isLatin1_aae02 : MVv yJ0_isLatin1_aae02 cJ0_isLatin1_aae02 1 (some FieldType.boolean) 0 := ⟨⟨⟨kD_J0, kC_J0_isLatin1_aae02, ⟨by decide +kernel, by decide +kernel⟩, by decide +kernel⟩, kI_J0_isLatin1_aae02⟩, kV_J0_isLatin1_aae02⟩
theorem mv_J1_charAt_3b067 : MVs yJ1_charAt_3b067 cJ1_charAt_3b067 2 (some FieldType.char) 2 := ⟨kD_J1, kC_J1_charAt_3b067, ⟨by decide +kernel, by decide +kernel⟩, by decide +kernel⟩
theorem mv_J0_checkIndex_df160 : MVs yJ0_checkIndex_df160 cJ0_checkIndex_df160 2 none 2 := ⟨kD_J0, kC_J0_checkIndex_df160, ⟨by decide +kernel, by decide +kernel⟩, by decide +kernel⟩
theorem mv_J3_checkIndex_8e157 : MVs yJ3_checkIndex_8e157 cJ3_checkIndex_8e157 3 (some FieldType.int) 3 := ⟨kD_J3, kC_J3_checkIndex_8e157, ⟨by decide +kernel, by decide +kernel⟩, by decide +kernel⟩
theorem mv_J2_charAt_3b067 : MVs yJ2_charAt_3b067 cJ2_charAt_3b067 2 (some FieldType.char) 2 := ⟨kD_J2, kC_J2_charAt_3b067, ⟨by decide +kernel, by decide +kernel⟩, by decide +kernel⟩
theorem mv_J2_checkIndex_2214a : MVs yJ2_checkIndex_2214a cJ2_checkIndex_2214a 2 none 2 := ⟨kD_J2, kC_J2_checkIndex_2214a, ⟨by decide +kernel, by decide +kernel⟩, by decide +kernel⟩
theorem mv_J2_length_9d52b : MVs yJ2_length_9d52b cJ2_length_9d52b 1 (some FieldType.int) 1 := ⟨kD_J2, kC_J2_length_9d52b, ⟨by decide +kernel, by decide +kernel⟩, by decide +kernel⟩
theorem mv_J2_getChar_3b067 : MVs yJ2_getChar_3b067 cJ2_getChar_3b067 2 (some FieldType.char) 2 := ⟨kD_J2, kC_J2_getChar_3b067, ⟨by decide +kernel, by decide +kernel⟩, by decide +kernel⟩
theorem mv_X3_readSnail : MVv yX3_readSnail cX3_readSnail 8 (some FieldType.boolean) 2 := ⟨⟨⟨kD_X3, kC_X3_readSnail, ⟨by decide +kernel, by decide +kernel⟩, by decide +kernel⟩, kI_X3_readSnail⟩, kV_X3_readSnail⟩
theorem mv_X3_takePart : MVv yX3_takePart cX3_takePart 4 (some FieldType.int) 3 := ⟨⟨⟨kD_X3, kC_X3_takePart, ⟨by decide +kernel, by decide +kernel⟩, by decide +kernel⟩, kI_X3_takePart⟩, kV_X3_takePart⟩
theorem mv_X3_skipWord : MVv yX3_skipWord cX3_skipWord 2 (some FieldType.boolean) 1 := ⟨⟨⟨kD_X3, kC_X3_skipWord, ⟨by decide +kernel, by decide +kernel⟩, by decide +kernel⟩, kI_X3_skipWord⟩, kV_X3_skipWord⟩
theorem mv_X3_takeNumber : MVv yX3_takeNumber cX3_takeNumber 3 (some FieldType.int) 1 := ⟨⟨⟨kD_X3, kC_X3_takeNumber, ⟨by decide +kernel, by decide +kernel⟩, by decide +kernel⟩, kI_X3_takeNumber⟩, kV_X3_takeNumber⟩
theorem mv_X3_readHedge : MVv yX3_readHedge cX3_readHedge 3 (some FieldType.boolean) 1 := ⟨⟨⟨kD_X3, kC_X3_readHedge, ⟨by decide +kernel, by decide +kernel⟩, by decide +kernel⟩, kI_X3_readHedge⟩, kV_X3_readHedge⟩
theorem mv_X3_readGreens : MVv yX3_readGreens cX3_readGreens 4 (some FieldType.boolean) 1 := ⟨⟨⟨kD_X3, kC_X3_readGreens, ⟨by decide +kernel, by decide +kernel⟩, by decide +kernel⟩, kI_X3_readGreens⟩, kV_X3_readGreens⟩
theorem mv_X3_readBans : MVv yX3_readBans cX3_readBans 4 (some FieldType.boolean) 1 := ⟨⟨⟨kD_X3, kC_X3_readBans, ⟨by decide +kernel, by decide +kernel⟩, by decide +kernel⟩, kI_X3_readBans⟩, kV_X3_readBans⟩
theorem mv_X3_readWet : MVv yX3_readWet cX3_readWet 3 (some FieldType.boolean) 1 := ⟨⟨⟨kD_X3, kC_X3_readWet, ⟨by decide +kernel, by decide +kernel⟩, by decide +kernel⟩, kI_X3_readWet⟩, kV_X3_readWet⟩
theorem mv_X3_readThrush : MVv yX3_readThrush cX3_readThrush 3 (some FieldType.boolean) 1 := ⟨⟨⟨kD_X3, kC_X3_readThrush, ⟨by decide +kernel, by decide +kernel⟩, by decide +kernel⟩, kI_X3_readThrush⟩, kV_X3_readThrush⟩
theorem mv_X5_hold : MVv yX5_hold cX5_hold 3 (some FieldType.int) 2 := ⟨⟨⟨kD_X5, kC_X5_hold, ⟨by decide +kernel, by decide +kernel⟩, by decide +kernel⟩, kI_X5_hold⟩, kV_X5_hold⟩
theorem mv_X5_as : MVv yX5_as cX5_as 4 (some FieldType.int) 2 := ⟨⟨⟨kD_X5, kC_X5_as, ⟨by decide +kernel, by decide +kernel⟩, by decide +kernel⟩, kI_X5_as⟩, kV_X5_as⟩
theorem mv_X5_sheet : MVv yX5_sheet cX5_sheet 4 (some FieldType.int) 3 := ⟨⟨⟨kD_X5, kC_X5_sheet, ⟨by decide +kernel, by decide +kernel⟩, by decide +kernel⟩, kI_X5_sheet⟩, kV_X5_sheet⟩
theorem mv_X5_isBits : MVs yX5_isBits cX5_isBits 1 (some FieldType.boolean) 1 := ⟨kD_X5, kC_X5_isBits, ⟨by decide +kernel, by decide +kernel⟩, by decide +kernel⟩
theorem mv_X2_lay : MVv yX2_lay cX2_lay 5 none 3 := ⟨⟨⟨kD_X2, kC_X2_lay, ⟨by decide +kernel, by decide +kernel⟩, by decide +kernel⟩, kI_X2_lay⟩, kV_X2_lay⟩
theorem mv_X5_write : MVv yX5_write cX5_write 5 (some FieldType.int) 3 := ⟨⟨⟨kD_X5, kC_X5_write, ⟨by decide +kernel, by decide +kernel⟩, by decide +kernel⟩, kI_X5_write⟩, kV_X5_write⟩
theorem mv_X2_put : MVv yX2_put cX2_put 5 none 3 := ⟨⟨⟨kD_X2, kC_X2_put, ⟨by decide +kernel, by decide +kernel⟩, by decide +kernel⟩, kI_X2_put⟩, kV_X2_put⟩
theorem mv_X5_copy : MVv yX5_copy cX5_copy 6 (some FieldType.int) 5 := ⟨⟨⟨kD_X5, kC_X5_copy, ⟨by decide +kernel, by decide +kernel⟩, by decide +kernel⟩, kI_X5_copy⟩, kV_X5_copy⟩
theorem mv_X2_hasRun : MVv yX2_hasRun cX2_hasRun 4 (some FieldType.boolean) 3 := ⟨⟨⟨kD_X2, kC_X2_hasRun, ⟨by decide +kernel, by decide +kernel⟩, by decide +kernel⟩, kI_X2_hasRun⟩, kV_X2_hasRun⟩
theorem mv_X2_carry : MVv yX2_carry cX2_carry 6 none 5 := ⟨⟨⟨kD_X2, kC_X2_carry, ⟨by decide +kernel, by decide +kernel⟩, by decide +kernel⟩, kI_X2_carry⟩, kV_X2_carry⟩
theorem mv_X5_load : MVv yX5_load cX5_load 4 (some FieldType.int) 1 := ⟨⟨⟨kD_X5, kC_X5_load, ⟨by decide +kernel, by decide +kernel⟩, by decide +kernel⟩, kI_X5_load⟩, kV_X5_load⟩
theorem mv_X5_judge : MVv yX5_judge cX5_judge 4 (some FieldType.int) 1 := ⟨⟨⟨kD_X5, kC_X5_judge, ⟨by decide +kernel, by decide +kernel⟩, by decide +kernel⟩, kI_X5_judge⟩, kV_X5_judge⟩
theorem mv_X5_image : MVv yX5_image cX5_image 1 (some FieldType.int) 0 := ⟨⟨⟨kD_X5, kC_X5_image, ⟨by decide +kernel, by decide +kernel⟩, by decide +kernel⟩, kI_X5_image⟩, kV_X5_image⟩
theorem mv_X5_undo : MVv yX5_undo cX5_undo 1 (some FieldType.int) 0 := ⟨⟨⟨kD_X5, kC_X5_undo, ⟨by decide +kernel, by decide +kernel⟩, by decide +kernel⟩, kI_X5_undo⟩, kV_X5_undo⟩
theorem mv_X5_tear : MVv yX5_tear cX5_tear 2 (some FieldType.int) 0 := ⟨⟨⟨kD_X5, kC_X5_tear, ⟨by decide +kernel, by decide +kernel⟩, by decide +kernel⟩, kI_X5_tear⟩, kV_X5_tear⟩
theorem mv_X5_count : MVv yX5_count cX5_count 2 (some FieldType.int) 1 := ⟨⟨⟨kD_X5, kC_X5_count, ⟨by decide +kernel, by decide +kernel⟩, by decide +kernel⟩, kI_X5_count⟩, kV_X5_count⟩
theorem mv_X1_allHedges : MVv yX1_allHedges cX1_allHedges 1 (some FieldType.int) 0 := ⟨⟨⟨kD_X1, kC_X1_allHedges, ⟨by decide +kernel, by decide +kernel⟩, by decide +kernel⟩, kI_X1_allHedges⟩, kV_X1_allHedges⟩
theorem mv_X1_heldSpots : MVv yX1_heldSpots cX1_heldSpots 3 (some FieldType.int) 0 := ⟨⟨⟨kD_X1, kC_X1_heldSpots, ⟨by decide +kernel, by decide +kernel⟩, by decide +kernel⟩, kI_X1_heldSpots⟩, kV_X1_heldSpots⟩
theorem mv_X5_status : MVv yX5_status cX5_status 4 (some FieldType.int) 1 := ⟨⟨⟨kD_X5, kC_X5_status, ⟨by decide +kernel, by decide +kernel⟩, by decide +kernel⟩, kI_X5_status⟩, kV_X5_status⟩
theorem mv_X6_init : MVi yX6_init cX6_init 2 none 0 := ⟨⟨kD_X6, kC_X6_init, ⟨by decide +kernel, by decide +kernel⟩, by decide +kernel⟩, kI_X6_init⟩
theorem mv_X6_hedge : MVv yX6_hedge cX6_hedge 4 (some FieldType.int) 2 := ⟨⟨⟨kD_X6, kC_X6_hedge, ⟨by decide +kernel, by decide +kernel⟩, by decide +kernel⟩, kI_X6_hedge⟩, kV_X6_hedge⟩
theorem mv_X6_isCell : MVs yX6_isCell cX6_isCell 1 (some FieldType.boolean) 1 := ⟨kD_X6, kC_X6_isCell, ⟨by decide +kernel, by decide +kernel⟩, by decide +kernel⟩
theorem mv_X6_in1 : MVs yX6_in1 cX6_in1 3 (some FieldType.boolean) 3 := ⟨kD_X6, kC_X6_in1, ⟨by decide +kernel, by decide +kernel⟩, by decide +kernel⟩
theorem mv_X6_no : MVv yX6_no cX6_no 2 (some FieldType.int) 1 := ⟨⟨⟨kD_X6, kC_X6_no, ⟨by decide +kernel, by decide +kernel⟩, by decide +kernel⟩, kI_X6_no⟩, kV_X6_no⟩
theorem mv_X6_greens : MVv yX6_greens cX6_greens 4 (some FieldType.int) 2 := ⟨⟨⟨kD_X6, kC_X6_greens, ⟨by decide +kernel, by decide +kernel⟩, by decide +kernel⟩, kI_X6_greens⟩, kV_X6_greens⟩
theorem mv_X6_land : MVv yX6_land cX6_land 3 (some FieldType.int) 2 := ⟨⟨⟨kD_X6, kC_X6_land, ⟨by decide +kernel, by decide +kernel⟩, by decide +kernel⟩, kI_X6_land⟩, kV_X6_land⟩
theorem mv_X6_far : MVv yX6_far cX6_far 3 (some FieldType.int) 2 := ⟨⟨⟨kD_X6, kC_X6_far, ⟨by decide +kernel, by decide +kernel⟩, by decide +kernel⟩, kI_X6_far⟩, kV_X6_far⟩
theorem mv_X6_barsHedges : MVv yX6_barsHedges cX6_barsHedges 2 none 0 := ⟨⟨⟨kD_X6, kC_X6_barsHedges, ⟨by decide +kernel, by decide +kernel⟩, by decide +kernel⟩, kI_X6_barsHedges⟩, kV_X6_barsHedges⟩
theorem mv_X6_isHedge : MVv yX6_isHedge cX6_isHedge 2 (some FieldType.boolean) 1 := ⟨⟨⟨kD_X6, kC_X6_isHedge, ⟨by decide +kernel, by decide +kernel⟩, by decide +kernel⟩, kI_X6_isHedge⟩, kV_X6_isHedge⟩
theorem mv_X6_spreads : MVv yX6_spreads cX6_spreads 7 none 2 := ⟨⟨⟨kD_X6, kC_X6_spreads, ⟨by decide +kernel, by decide +kernel⟩, by decide +kernel⟩, kI_X6_spreads⟩, kV_X6_spreads⟩
theorem mv_X6_beside : MVs yX6_beside cX6_beside 2 (some FieldType.int) 2 := ⟨kD_X6, kC_X6_beside, ⟨by decide +kernel, by decide +kernel⟩, by decide +kernel⟩
theorem mv_X6_snail : MVv yX6_snail cX6_snail 3 (some FieldType.int) 2 := ⟨⟨⟨kD_X6, kC_X6_snail, ⟨by decide +kernel, by decide +kernel⟩, by decide +kernel⟩, kI_X6_snail⟩, kV_X6_snail⟩
theorem mv_X6_addsSnail : MVv yX6_addsSnail cX6_addsSnail 4 none 2 := ⟨⟨⟨kD_X6, kC_X6_addsSnail, ⟨by decide +kernel, by decide +kernel⟩, by decide +kernel⟩, kI_X6_addsSnail⟩, kV_X6_addsSnail⟩
theorem mv_X6_puts : MVv yX6_puts cX6_puts 4 none 3 := ⟨⟨⟨kD_X6, kC_X6_puts, ⟨by decide +kernel, by decide +kernel⟩, by decide +kernel⟩, kI_X6_puts⟩, kV_X6_puts⟩
theorem mv_X6_of : MVv yX6_of cX6_of 3 (some FieldType.int) 2 := ⟨⟨⟨kD_X6, kC_X6_of, ⟨by decide +kernel, by decide +kernel⟩, by decide +kernel⟩, kI_X6_of⟩, kV_X6_of⟩
theorem mv_X6_isSnail : MVv yX6_isSnail cX6_isSnail 2 (some FieldType.boolean) 1 := ⟨⟨⟨kD_X6, kC_X6_isSnail, ⟨by decide +kernel, by decide +kernel⟩, by decide +kernel⟩, kI_X6_isSnail⟩, kV_X6_isSnail⟩
theorem mv_X6_findsFars : MVv yX6_findsFars cX6_findsFars 2 none 0 := ⟨⟨⟨kD_X6, kC_X6_findsFars, ⟨by decide +kernel, by decide +kernel⟩, by decide +kernel⟩, kI_X6_findsFars⟩, kV_X6_findsFars⟩
theorem mv_X6_get : MVv yX6_get cX6_get 3 (some FieldType.int) 2 := ⟨⟨⟨kD_X6, kC_X6_get, ⟨by decide +kernel, by decide +kernel⟩, by decide +kernel⟩, kI_X6_get⟩, kV_X6_get⟩
theorem mv_X6_movesOf : MVv yX6_movesOf cX6_movesOf 5 (some FieldType.int) 1 := ⟨⟨⟨kD_X6, kC_X6_movesOf, ⟨by decide +kernel, by decide +kernel⟩, by decide +kernel⟩, kI_X6_movesOf⟩, kV_X6_movesOf⟩
theorem mv_X6_farBy : MVv yX6_farBy cX6_farBy 3 (some FieldType.int) 2 := ⟨⟨⟨kD_X6, kC_X6_farBy, ⟨by decide +kernel, by decide +kernel⟩, by decide +kernel⟩, kI_X6_farBy⟩, kV_X6_farBy⟩
theorem mv_X6_change : MVv yX6_change cX6_change 6 (some FieldType.int) 3 := ⟨⟨⟨kD_X6, kC_X6_change, ⟨by decide +kernel, by decide +kernel⟩, by decide +kernel⟩, kI_X6_change⟩, kV_X6_change⟩
theorem mv_X6_bans : MVv yX6_bans cX6_bans 4 (some FieldType.int) 2 := ⟨⟨⟨kD_X6, kC_X6_bans, ⟨by decide +kernel, by decide +kernel⟩, by decide +kernel⟩, kI_X6_bans⟩, kV_X6_bans⟩
theorem mv_X6_isLaw : MVs yX6_isLaw cX6_isLaw 1 (some FieldType.boolean) 1 := ⟨kD_X6, kC_X6_isLaw, ⟨by decide +kernel, by decide +kernel⟩, by decide +kernel⟩
theorem mv_X6_set : MVv yX6_set cX6_set 4 (some FieldType.int) 2 := ⟨⟨⟨kD_X6, kC_X6_set, ⟨by decide +kernel, by decide +kernel⟩, by decide +kernel⟩, kI_X6_set⟩, kV_X6_set⟩
theorem mv_X6_go : MVv yX6_go cX6_go 2 (some FieldType.int) 1 := ⟨⟨⟨kD_X6, kC_X6_go, ⟨by decide +kernel, by decide +kernel⟩, by decide +kernel⟩, kI_X6_go⟩, kV_X6_go⟩
theorem mv_X6_days : MVv yX6_days cX6_days 3 none 1 := ⟨⟨⟨kD_X6, kC_X6_days, ⟨by decide +kernel, by decide +kernel⟩, by decide +kernel⟩, kI_X6_days⟩, kV_X6_days⟩
theorem mv_X6_allSnails : MVv yX6_allSnails cX6_allSnails 1 (some FieldType.int) 0 := ⟨⟨⟨kD_X6, kC_X6_allSnails, ⟨by decide +kernel, by decide +kernel⟩, by decide +kernel⟩, kI_X6_allSnails⟩, kV_X6_allSnails⟩
theorem mv_X6_day : MVv yX6_day cX6_day 3 none 1 := ⟨⟨⟨kD_X6, kC_X6_day, ⟨by decide +kernel, by decide +kernel⟩, by decide +kernel⟩, kI_X6_day⟩, kV_X6_day⟩
theorem mv_X6_isIn : MVs yX6_isIn cX6_isIn 2 (some FieldType.boolean) 2 := ⟨kD_X6, kC_X6_isIn, ⟨by decide +kernel, by decide +kernel⟩, by decide +kernel⟩
theorem mv_X6_crawls : MVv yX6_crawls cX6_crawls 5 none 1 := ⟨⟨⟨kD_X6, kC_X6_crawls, ⟨by decide +kernel, by decide +kernel⟩, by decide +kernel⟩, kI_X6_crawls⟩, kV_X6_crawls⟩
theorem mv_X6_comesUnder : MVv yX6_comesUnder cX6_comesUnder 3 none 2 := ⟨⟨⟨kD_X6, kC_X6_comesUnder, ⟨by decide +kernel, by decide +kernel⟩, by decide +kernel⟩, kI_X6_comesUnder⟩, kV_X6_comesUnder⟩
theorem mv_X6_nextOf : MVv yX6_nextOf cX6_nextOf 6 (some FieldType.int) 1 := ⟨⟨⟨kD_X6, kC_X6_nextOf, ⟨by decide +kernel, by decide +kernel⟩, by decide +kernel⟩, kI_X6_nextOf⟩, kV_X6_nextOf⟩
theorem mv_X6_isGreedy : MVv yX6_isGreedy cX6_isGreedy 2 (some FieldType.boolean) 1 := ⟨⟨⟨kD_X6, kC_X6_isGreedy, ⟨by decide +kernel, by decide +kernel⟩, by decide +kernel⟩, kI_X6_isGreedy⟩, kV_X6_isGreedy⟩
theorem mv_X6_now : MVv yX6_now cX6_now 4 (some FieldType.int) 1 := ⟨⟨⟨kD_X6, kC_X6_now, ⟨by decide +kernel, by decide +kernel⟩, by decide +kernel⟩, kI_X6_now⟩, kV_X6_now⟩
theorem mv_X6_underLaw : MVv yX6_underLaw cX6_underLaw 3 (some FieldType.int) 0 := ⟨⟨⟨kD_X6, kC_X6_underLaw, ⟨by decide +kernel, by decide +kernel⟩, by decide +kernel⟩, kI_X6_underLaw⟩, kV_X6_underLaw⟩
theorem mv_X6_isThere : MVv yX6_isThere cX6_isThere 2 (some FieldType.boolean) 1 := ⟨⟨⟨kD_X6, kC_X6_isThere, ⟨by decide +kernel, by decide +kernel⟩, by decide +kernel⟩, kI_X6_isThere⟩, kV_X6_isThere⟩
theorem mv_X6_realm : MVv yX6_realm cX6_realm 4 (some FieldType.int) 1 := ⟨⟨⟨kD_X6, kC_X6_realm, ⟨by decide +kernel, by decide +kernel⟩, by decide +kernel⟩, kI_X6_realm⟩, kV_X6_realm⟩
theorem mv_X6_repeals : MVv yX6_repeals cX6_repeals 3 (some FieldType.int) 0 := ⟨⟨⟨kD_X6, kC_X6_repeals, ⟨by decide +kernel, by decide +kernel⟩, by decide +kernel⟩, kI_X6_repeals⟩, kV_X6_repeals⟩
theorem mv_X6_may : MVv yX6_may cX6_may 3 (some FieldType.int) 2 := ⟨⟨⟨kD_X6, kC_X6_may, ⟨by decide +kernel, by decide +kernel⟩, by decide +kernel⟩, kI_X6_may⟩, kV_X6_may⟩
theorem mv_X6_isDeed : MVs yX6_isDeed cX6_isDeed 1 (some FieldType.boolean) 1 := ⟨kD_X6, kC_X6_isDeed, ⟨by decide +kernel, by decide +kernel⟩, by decide +kernel⟩
theorem mv_X6_isLawful : MVv yX6_isLawful cX6_isLawful 3 (some FieldType.boolean) 2 := ⟨⟨⟨kD_X6, kC_X6_isLawful, ⟨by decide +kernel, by decide +kernel⟩, by decide +kernel⟩, kI_X6_isLawful⟩, kV_X6_isLawful⟩
theorem mv_X6_where : MVv yX6_where cX6_where 2 (some FieldType.int) 1 := ⟨⟨⟨kD_X6, kC_X6_where, ⟨by decide +kernel, by decide +kernel⟩, by decide +kernel⟩, kI_X6_where⟩, kV_X6_where⟩
theorem mv_X6_lawfulCells : MVv yX6_lawfulCells cX6_lawfulCells 4 (some FieldType.int) 1 := ⟨⟨⟨kD_X6, kC_X6_lawfulCells, ⟨by decide +kernel, by decide +kernel⟩, by decide +kernel⟩, kI_X6_lawfulCells⟩, kV_X6_lawfulCells⟩
theorem mv_X6_route : MVv yX6_route cX6_route 5 (some FieldType.int) 3 := ⟨⟨⟨kD_X6, kC_X6_route, ⟨by decide +kernel, by decide +kernel⟩, by decide +kernel⟩, kI_X6_route⟩, kV_X6_route⟩
theorem mv_X6_free : MVv yX6_free cX6_free 4 (some FieldType.int) 0 := ⟨⟨⟨kD_X6, kC_X6_free, ⟨by decide +kernel, by decide +kernel⟩, by decide +kernel⟩, kI_X6_free⟩, kV_X6_free⟩
theorem mv_X6_ahead : MVv yX6_ahead cX6_ahead 4 (some FieldType.int) 2 := ⟨⟨⟨kD_X6, kC_X6_ahead, ⟨by decide +kernel, by decide +kernel⟩, by decide +kernel⟩, kI_X6_ahead⟩, kV_X6_ahead⟩
theorem mv_X6_setsAside : MVv yX6_setsAside cX6_setsAside 2 none 0 := ⟨⟨⟨kD_X6, kC_X6_setsAside, ⟨by decide +kernel, by decide +kernel⟩, by decide +kernel⟩, kI_X6_setsAside⟩, kV_X6_setsAside⟩
theorem mv_X6_laysBack : MVv yX6_laysBack cX6_laysBack 2 none 0 := ⟨⟨⟨kD_X6, kC_X6_laysBack, ⟨by decide +kernel, by decide +kernel⟩, by decide +kernel⟩, kI_X6_laysBack⟩, kV_X6_laysBack⟩
theorem mv_X6_lawAt : MVv yX6_lawAt cX6_lawAt 4 (some FieldType.int) 2 := ⟨⟨⟨kD_X6, kC_X6_lawAt, ⟨by decide +kernel, by decide +kernel⟩, by decide +kernel⟩, kI_X6_lawAt⟩, kV_X6_lawAt⟩
theorem mv_X6_reaches : MVv yX6_reaches cX6_reaches 4 (some FieldType.int) 2 := ⟨⟨⟨kD_X6, kC_X6_reaches, ⟨by decide +kernel, by decide +kernel⟩, by decide +kernel⟩, kI_X6_reaches⟩, kV_X6_reaches⟩
theorem mv_X6_reachedBy : MVv yX6_reachedBy cX6_reachedBy 4 (some FieldType.int) 2 := ⟨⟨⟨kD_X6, kC_X6_reachedBy, ⟨by decide +kernel, by decide +kernel⟩, by decide +kernel⟩, kI_X6_reachedBy⟩, kV_X6_reachedBy⟩
theorem mv_X6_wetFor : MVv yX6_wetFor cX6_wetFor 9 (some FieldType.int) 2 := ⟨⟨⟨kD_X6, kC_X6_wetFor, ⟨by decide +kernel, by decide +kernel⟩, by decide +kernel⟩, kI_X6_wetFor⟩, kV_X6_wetFor⟩
theorem mv_X6_comes : MVv yX6_comes cX6_comes 3 (some FieldType.int) 1 := ⟨⟨⟨kD_X6, kC_X6_comes, ⟨by decide +kernel, by decide +kernel⟩, by decide +kernel⟩, kI_X6_comes⟩, kV_X6_comes⟩
theorem mv_X6_thereBy : MVv yX6_thereBy cX6_thereBy 4 (some FieldType.int) 2 := ⟨⟨⟨kD_X6, kC_X6_thereBy, ⟨by decide +kernel, by decide +kernel⟩, by decide +kernel⟩, kI_X6_thereBy⟩, kV_X6_thereBy⟩
theorem mv_X6_kindFor : MVv yX6_kindFor cX6_kindFor 8 (some FieldType.int) 1 := ⟨⟨⟨kD_X6, kC_X6_kindFor, ⟨by decide +kernel, by decide +kernel⟩, by decide +kernel⟩, kI_X6_kindFor⟩, kV_X6_kindFor⟩
theorem mv_X6_overtakes : MVv yX6_overtakes cX6_overtakes 4 (some FieldType.int) 2 := ⟨⟨⟨kD_X6, kC_X6_overtakes, ⟨by decide +kernel, by decide +kernel⟩, by decide +kernel⟩, kI_X6_overtakes⟩, kV_X6_overtakes⟩
theorem mv_X6_lag : MVv yX6_lag cX6_lag 6 (some FieldType.int) 3 := ⟨⟨⟨kD_X6, kC_X6_lag, ⟨by decide +kernel, by decide +kernel⟩, by decide +kernel⟩, kI_X6_lag⟩, kV_X6_lag⟩
theorem mv_X6_clash : MVv yX6_clash cX6_clash 5 (some FieldType.int) 1 := ⟨⟨⟨kD_X6, kC_X6_clash, ⟨by decide +kernel, by decide +kernel⟩, by decide +kernel⟩, kI_X6_clash⟩, kV_X6_clash⟩
theorem mv_X6_release : MVv yX6_release cX6_release 5 (some FieldType.int) 3 := ⟨⟨⟨kD_X6, kC_X6_release, ⟨by decide +kernel, by decide +kernel⟩, by decide +kernel⟩, kI_X6_release⟩, kV_X6_release⟩
theorem mv_X6_isRelease : MVs yX6_isRelease cX6_isRelease 3 (some FieldType.boolean) 3 := ⟨kD_X6, kC_X6_isRelease, ⟨by decide +kernel, by decide +kernel⟩, by decide +kernel⟩
theorem mv_X6_bestRelease : MVv yX6_bestRelease cX6_bestRelease 7 (some FieldType.int) 3 := ⟨⟨⟨kD_X6, kC_X6_bestRelease, ⟨by decide +kernel, by decide +kernel⟩, by decide +kernel⟩, kI_X6_bestRelease⟩, kV_X6_bestRelease⟩
theorem mv_X6_priceOf : MVv yX6_priceOf cX6_priceOf 4 (some FieldType.int) 1 := ⟨⟨⟨kD_X6, kC_X6_priceOf, ⟨by decide +kernel, by decide +kernel⟩, by decide +kernel⟩, kI_X6_priceOf⟩, kV_X6_priceOf⟩
theorem mv_X6_costs : MVv yX6_costs cX6_costs 5 (some FieldType.int) 3 := ⟨⟨⟨kD_X6, kC_X6_costs, ⟨by decide +kernel, by decide +kernel⟩, by decide +kernel⟩, kI_X6_costs⟩, kV_X6_costs⟩
theorem mv_X6_farthest : MVv yX6_farthest cX6_farthest 7 (some FieldType.int) 2 := ⟨⟨⟨kD_X6, kC_X6_farthest, ⟨by decide +kernel, by decide +kernel⟩, by decide +kernel⟩, kI_X6_farthest⟩, kV_X6_farthest⟩
theorem mv_X6_fits : MVv yX6_fits cX6_fits 6 (some FieldType.int) 2 := ⟨⟨⟨kD_X6, kC_X6_fits, ⟨by decide +kernel, by decide +kernel⟩, by decide +kernel⟩, kI_X6_fits⟩, kV_X6_fits⟩
theorem mv_X6_wrongTrail : MVv yX6_wrongTrail cX6_wrongTrail 4 (some FieldType.int) 2 := ⟨⟨⟨kD_X6, kC_X6_wrongTrail, ⟨by decide +kernel, by decide +kernel⟩, by decide +kernel⟩, kI_X6_wrongTrail⟩, kV_X6_wrongTrail⟩
theorem mv_X6_wrongSheet : MVv yX6_wrongSheet cX6_wrongSheet 2 (some FieldType.int) 1 := ⟨⟨⟨kD_X6, kC_X6_wrongSheet, ⟨by decide +kernel, by decide +kernel⟩, by decide +kernel⟩, kI_X6_wrongSheet⟩, kV_X6_wrongSheet⟩
theorem mv_X6_isSheet : MVs yX6_isSheet cX6_isSheet 1 (some FieldType.boolean) 1 := ⟨kD_X6, kC_X6_isSheet, ⟨by decide +kernel, by decide +kernel⟩, by decide +kernel⟩
theorem mv_X6_fitsFrom : MVv yX6_fitsFrom cX6_fitsFrom 7 (some FieldType.boolean) 3 := ⟨⟨⟨kD_X6, kC_X6_fitsFrom, ⟨by decide +kernel, by decide +kernel⟩, by decide +kernel⟩, kI_X6_fitsFrom⟩, kV_X6_fitsFrom⟩
theorem mv_X6_began : MVv yX6_began cX6_began 5 (some FieldType.int) 2 := ⟨⟨⟨kD_X6, kC_X6_began, ⟨by decide +kernel, by decide +kernel⟩, by decide +kernel⟩, kI_X6_began⟩, kV_X6_began⟩
theorem mv_X6_thrushes : MVv yX6_thrushes cX6_thrushes 6 (some FieldType.int) 1 := ⟨⟨⟨kD_X6, kC_X6_thrushes, ⟨by decide +kernel, by decide +kernel⟩, by decide +kernel⟩, kI_X6_thrushes⟩, kV_X6_thrushes⟩
theorem mv_X6_draw : MVv yX6_draw cX6_draw 1 (some FieldType.int) 0 := ⟨⟨⟨kD_X6, kC_X6_draw, ⟨by decide +kernel, by decide +kernel⟩, by decide +kernel⟩, kI_X6_draw⟩, kV_X6_draw⟩
theorem mv_X6_alone : MVv yX6_alone cX6_alone 13 (some FieldType.long) 2 := ⟨⟨⟨kD_X6, kC_X6_alone, ⟨by decide +kernel, by decide +kernel⟩, by decide +kernel⟩, kI_X6_alone⟩, kV_X6_alone⟩
theorem mv_X6_seed : MVv yX6_seed cX6_seed 3 (some FieldType.int) 1 := ⟨⟨⟨kD_X6, kC_X6_seed, ⟨by decide +kernel, by decide +kernel⟩, by decide +kernel⟩, kI_X6_seed⟩, kV_X6_seed⟩
theorem mv_X6_feed : MVv yX6_feed cX6_feed 4 (some FieldType.int) 2 := ⟨⟨⟨kD_X6, kC_X6_feed, ⟨by decide +kernel, by decide +kernel⟩, by decide +kernel⟩, kI_X6_feed⟩, kV_X6_feed⟩
theorem mv_X6_wipe : MVv yX6_wipe cX6_wipe 2 (some FieldType.int) 0 := ⟨⟨⟨kD_X6, kC_X6_wipe, ⟨by decide +kernel, by decide +kernel⟩, by decide +kernel⟩, kI_X6_wipe⟩, kV_X6_wipe⟩
theorem mv_X6_text : MVv yX6_text cX6_text 3 (some FieldType.int) 0 := ⟨⟨⟨kD_X6, kC_X6_text, ⟨by decide +kernel, by decide +kernel⟩, by decide +kernel⟩, kI_X6_text⟩, kV_X6_text⟩
theorem mv_X6_nextToken : MVv yX6_nextToken cX6_nextToken 1 none 0 := ⟨⟨⟨kD_X6, kC_X6_nextToken, ⟨by decide +kernel, by decide +kernel⟩, by decide +kernel⟩, kI_X6_nextToken⟩, kV_X6_nextToken⟩
theorem mv_X6_isLetter : MVs yX6_isLetter cX6_isLetter 1 (some FieldType.boolean) 1 := ⟨kD_X6, kC_X6_isLetter, ⟨by decide +kernel, by decide +kernel⟩, by decide +kernel⟩
theorem mv_X6_isDigit : MVs yX6_isDigit cX6_isDigit 1 (some FieldType.boolean) 1 := ⟨kD_X6, kC_X6_isDigit, ⟨by decide +kernel, by decide +kernel⟩, by decide +kernel⟩
theorem mv_X6_readsItem : MVv yX6_readsItem cX6_readsItem 6 (some FieldType.boolean) 0 := ⟨⟨⟨kD_X6, kC_X6_readsItem, ⟨by decide +kernel, by decide +kernel⟩, by decide +kernel⟩, kI_X6_readsItem⟩, kV_X6_readsItem⟩
theorem mv_X6_wordOf : MVv yX6_wordOf cX6_wordOf 7 (some FieldType.int) 1 := ⟨⟨⟨kD_X6, kC_X6_wordOf, ⟨by decide +kernel, by decide +kernel⟩, by decide +kernel⟩, kI_X6_wordOf⟩, kV_X6_wordOf⟩
theorem mv_X6_readsSnail : MVv yX6_readsSnail cX6_readsSnail 5 (some FieldType.boolean) 1 := ⟨⟨⟨kD_X6, kC_X6_readsSnail, ⟨by decide +kernel, by decide +kernel⟩, by decide +kernel⟩, kI_X6_readsSnail⟩, kV_X6_readsSnail⟩
theorem mv_X6_takesNumber : MVv yX6_takesNumber cX6_takesNumber 4 (some FieldType.int) 2 := ⟨⟨⟨kD_X6, kC_X6_takesNumber, ⟨by decide +kernel, by decide +kernel⟩, by decide +kernel⟩, kI_X6_takesNumber⟩, kV_X6_takesNumber⟩
theorem mv_X6_hold : MVv yX6_hold cX6_hold 3 (some FieldType.int) 2 := ⟨⟨⟨kD_X6, kC_X6_hold, ⟨by decide +kernel, by decide +kernel⟩, by decide +kernel⟩, kI_X6_hold⟩, kV_X6_hold⟩
theorem mv_X6_isSpot : MVs yX6_isSpot cX6_isSpot 1 (some FieldType.boolean) 1 := ⟨kD_X6, kC_X6_isSpot, ⟨by decide +kernel, by decide +kernel⟩, by decide +kernel⟩
theorem mv_X6_as : MVv yX6_as cX6_as 5 (some FieldType.int) 2 := ⟨⟨⟨kD_X6, kC_X6_as, ⟨by decide +kernel, by decide +kernel⟩, by decide +kernel⟩, kI_X6_as⟩, kV_X6_as⟩
theorem mv_X6_above : MVs yX6_above cX6_above 1 (some FieldType.int) 1 := ⟨kD_X6, kC_X6_above, ⟨by decide +kernel, by decide +kernel⟩, by decide +kernel⟩
theorem mv_X6_sheet : MVv yX6_sheet cX6_sheet 5 (some FieldType.int) 3 := ⟨⟨⟨kD_X6, kC_X6_sheet, ⟨by decide +kernel, by decide +kernel⟩, by decide +kernel⟩, kI_X6_sheet⟩, kV_X6_sheet⟩
theorem mv_X6_write : MVv yX6_write cX6_write 5 (some FieldType.int) 3 := ⟨⟨⟨kD_X6, kC_X6_write, ⟨by decide +kernel, by decide +kernel⟩, by decide +kernel⟩, kI_X6_write⟩, kV_X6_write⟩
theorem mv_X6_copy : MVv yX6_copy cX6_copy 7 (some FieldType.int) 5 := ⟨⟨⟨kD_X6, kC_X6_copy, ⟨by decide +kernel, by decide +kernel⟩, by decide +kernel⟩, kI_X6_copy⟩, kV_X6_copy⟩
theorem mv_X6_load : MVv yX6_load cX6_load 4 (some FieldType.int) 1 := ⟨⟨⟨kD_X6, kC_X6_load, ⟨by decide +kernel, by decide +kernel⟩, by decide +kernel⟩, kI_X6_load⟩, kV_X6_load⟩
theorem mv_X6_judge : MVv yX6_judge cX6_judge 4 (some FieldType.int) 1 := ⟨⟨⟨kD_X6, kC_X6_judge, ⟨by decide +kernel, by decide +kernel⟩, by decide +kernel⟩, kI_X6_judge⟩, kV_X6_judge⟩
theorem mv_X6_image : MVv yX6_image cX6_image 2 (some FieldType.int) 0 := ⟨⟨⟨kD_X6, kC_X6_image, ⟨by decide +kernel, by decide +kernel⟩, by decide +kernel⟩, kI_X6_image⟩, kV_X6_image⟩
theorem mv_X6_undo : MVv yX6_undo cX6_undo 2 (some FieldType.int) 0 := ⟨⟨⟨kD_X6, kC_X6_undo, ⟨by decide +kernel, by decide +kernel⟩, by decide +kernel⟩, kI_X6_undo⟩, kV_X6_undo⟩
theorem mv_X6_tear : MVv yX6_tear cX6_tear 2 (some FieldType.int) 0 := ⟨⟨⟨kD_X6, kC_X6_tear, ⟨by decide +kernel, by decide +kernel⟩, by decide +kernel⟩, kI_X6_tear⟩, kV_X6_tear⟩
theorem mv_X6_count : MVv yX6_count cX6_count 4 (some FieldType.int) 1 := ⟨⟨⟨kD_X6, kC_X6_count, ⟨by decide +kernel, by decide +kernel⟩, by decide +kernel⟩, kI_X6_count⟩, kV_X6_count⟩
theorem mv_X6_status : MVv yX6_status cX6_status 4 (some FieldType.int) 1 := ⟨⟨⟨kD_X6, kC_X6_status, ⟨by decide +kernel, by decide +kernel⟩, by decide +kernel⟩, kI_X6_status⟩, kV_X6_status⟩
end
section
/-! decode rows, by program: a method's rows are checked together -/
def dcA (c : ByteArray) (T : List (Nat × Instr × Nat)) : Bool := T.all fun q => decide (decode c q.1 = .ok q.2)
theorem dcO {c : ByteArray} {T : List (Nat × Instr × Nat)} (h : dcA c T = true) (i : Nat) {pc : Nat} {r : Instr × Nat} (hi : T[i]? = some (pc, r)) : decode c pc = .ok r := of_decide_eq_true (List.all_eq_true.mp h (pc, r) (List.mem_of_getElem? hi))
abbrev tb_X0_init_0 : List (Nat × Instr × Nat) := [(0, .aload_n 0, 1), (1, .invokespecial 3, 3), (4, .aload_n 0, 1), (5, .new 9, 3), (8, .dup, 1), (9, .invokespecial 11, 3), (12, .putfield 12, 3), (15, .aload_n 0, 1), (16, .new 18, 3), (19, .dup, 1), (20, .invokespecial 20, 3), (23, .putfield 21, 3), (26, .return_, 1)]
theorem tk_X0_init_0 : dcA cX0_init tb_X0_init_0 = true := by decide +kernel
theorem dX0_init_0 : decode cX0_init 0 = .ok (.aload_n 0, 1) := dcO tk_X0_init_0 0 rfl
theorem dX0_init_1 : decode cX0_init 1 = .ok (.invokespecial 3, 3) := dcO tk_X0_init_0 1 rfl
theorem dX0_init_4 : decode cX0_init 4 = .ok (.aload_n 0, 1) := dcO tk_X0_init_0 2 rfl
theorem dX0_init_5 : decode cX0_init 5 = .ok (.new 9, 3) := dcO tk_X0_init_0 3 rfl
theorem dX0_init_8 : decode cX0_init 8 = .ok (.dup, 1) := dcO tk_X0_init_0 4 rfl
theorem dX0_init_9 : decode cX0_init 9 = .ok (.invokespecial 11, 3) := dcO tk_X0_init_0 5 rfl
theorem dX0_init_12 : decode cX0_init 12 = .ok (.putfield 12, 3) := dcO tk_X0_init_0 6 rfl
theorem dX0_init_15 : decode cX0_init 15 = .ok (.aload_n 0, 1) := dcO tk_X0_init_0 7 rfl
theorem dX0_init_16 : decode cX0_init 16 = .ok (.new 18, 3) := dcO tk_X0_init_0 8 rfl
theorem dX0_init_19 : decode cX0_init 19 = .ok (.dup, 1) := dcO tk_X0_init_0 9 rfl
theorem dX0_init_20 : decode cX0_init 20 = .ok (.invokespecial 20, 3) := dcO tk_X0_init_0 10 rfl
theorem dX0_init_23 : decode cX0_init 23 = .ok (.putfield 21, 3) := dcO tk_X0_init_0 11 rfl
theorem dX0_init_26 : decode cX0_init 26 = .ok (.return_, 1) := dcO tk_X0_init_0 12 rfl
abbrev tb_X0_draftOf_0 : List (Nat × Instr × Nat) := [(0, .aload_n 0, 1), (1, .getfield 12, 3), (4, .aload_n 1, 1), (5, .invokevirtual 25, 3), (8, .aload_n 0, 1), (9, .getfield 12, 3), (12, .areturn, 1)]
theorem tk_X0_draftOf_0 : dcA cX0_draftOf tb_X0_draftOf_0 = true := by decide +kernel
theorem dX0_draftOf_0 : decode cX0_draftOf 0 = .ok (.aload_n 0, 1) := dcO tk_X0_draftOf_0 0 rfl
theorem dX0_draftOf_1 : decode cX0_draftOf 1 = .ok (.getfield 12, 3) := dcO tk_X0_draftOf_0 1 rfl
theorem dX0_draftOf_4 : decode cX0_draftOf 4 = .ok (.aload_n 1, 1) := dcO tk_X0_draftOf_0 2 rfl
theorem dX0_draftOf_5 : decode cX0_draftOf 5 = .ok (.invokevirtual 25, 3) := dcO tk_X0_draftOf_0 3 rfl
theorem dX0_draftOf_8 : decode cX0_draftOf 8 = .ok (.aload_n 0, 1) := dcO tk_X0_draftOf_0 4 rfl
theorem dX0_draftOf_9 : decode cX0_draftOf 9 = .ok (.getfield 12, 3) := dcO tk_X0_draftOf_0 5 rfl
theorem dX0_draftOf_12 : decode cX0_draftOf 12 = .ok (.areturn, 1) := dcO tk_X0_draftOf_0 6 rfl
abbrev tb_X0_survey_0 : List (Nat × Instr × Nat) := [(0, .aload_n 0, 1), (1, .getfield 21, 3), (4, .aload_n 1, 1), (5, .invokevirtual 29, 3), (8, .return_, 1)]
theorem tk_X0_survey_0 : dcA cX0_survey tb_X0_survey_0 = true := by decide +kernel
theorem dX0_survey_0 : decode cX0_survey 0 = .ok (.aload_n 0, 1) := dcO tk_X0_survey_0 0 rfl
theorem dX0_survey_1 : decode cX0_survey 1 = .ok (.getfield 21, 3) := dcO tk_X0_survey_0 1 rfl
theorem dX0_survey_4 : decode cX0_survey 4 = .ok (.aload_n 1, 1) := dcO tk_X0_survey_0 2 rfl
theorem dX0_survey_5 : decode cX0_survey 5 = .ok (.invokevirtual 29, 3) := dcO tk_X0_survey_0 3 rfl
theorem dX0_survey_8 : decode cX0_survey 8 = .ok (.return_, 1) := dcO tk_X0_survey_0 4 rfl
abbrev tb_X0_behind_0 : List (Nat × Instr × Nat) := [(0, .aload_n 0, 1), (1, .getfield 12, 3), (4, .aload_n 1, 1), (5, .invokevirtual 25, 3), (8, .aload_n 0, 1), (9, .aload_n 1, 1), (10, .invokevirtual 32, 3), (13, .aload_n 0, 1), (14, .getfield 12, 3), (17, .aload_n 0, 1), (18, .getfield 21, 3), (21, .sipush 255, 3), (24, .iload_n 2, 1), (25, .invokevirtual 33, 3), (28, .aload_n 0, 1), (29, .getfield 12, 3), (32, .areturn, 1)]
theorem tk_X0_behind_0 : dcA cX0_behind tb_X0_behind_0 = true := by decide +kernel
theorem dX0_behind_0 : decode cX0_behind 0 = .ok (.aload_n 0, 1) := dcO tk_X0_behind_0 0 rfl
theorem dX0_behind_1 : decode cX0_behind 1 = .ok (.getfield 12, 3) := dcO tk_X0_behind_0 1 rfl
theorem dX0_behind_4 : decode cX0_behind 4 = .ok (.aload_n 1, 1) := dcO tk_X0_behind_0 2 rfl
theorem dX0_behind_5 : decode cX0_behind 5 = .ok (.invokevirtual 25, 3) := dcO tk_X0_behind_0 3 rfl
theorem dX0_behind_8 : decode cX0_behind 8 = .ok (.aload_n 0, 1) := dcO tk_X0_behind_0 4 rfl
theorem dX0_behind_9 : decode cX0_behind 9 = .ok (.aload_n 1, 1) := dcO tk_X0_behind_0 5 rfl
theorem dX0_behind_10 : decode cX0_behind 10 = .ok (.invokevirtual 32, 3) := dcO tk_X0_behind_0 6 rfl
theorem dX0_behind_13 : decode cX0_behind 13 = .ok (.aload_n 0, 1) := dcO tk_X0_behind_0 7 rfl
theorem dX0_behind_14 : decode cX0_behind 14 = .ok (.getfield 12, 3) := dcO tk_X0_behind_0 8 rfl
theorem dX0_behind_17 : decode cX0_behind 17 = .ok (.aload_n 0, 1) := dcO tk_X0_behind_0 9 rfl
theorem dX0_behind_18 : decode cX0_behind 18 = .ok (.getfield 21, 3) := dcO tk_X0_behind_0 10 rfl
theorem dX0_behind_21 : decode cX0_behind 21 = .ok (.sipush 255, 3) := dcO tk_X0_behind_0 11 rfl
theorem dX0_behind_24 : decode cX0_behind 24 = .ok (.iload_n 2, 1) := dcO tk_X0_behind_0 12 rfl
theorem dX0_behind_25 : decode cX0_behind 25 = .ok (.invokevirtual 33, 3) := dcO tk_X0_behind_0 13 rfl
theorem dX0_behind_28 : decode cX0_behind 28 = .ok (.aload_n 0, 1) := dcO tk_X0_behind_0 14 rfl
theorem dX0_behind_29 : decode cX0_behind 29 = .ok (.getfield 12, 3) := dcO tk_X0_behind_0 15 rfl
theorem dX0_behind_32 : decode cX0_behind 32 = .ok (.areturn, 1) := dcO tk_X0_behind_0 16 rfl
abbrev tb_X0_passDay_0 : List (Nat × Instr × Nat) := [(0, .aload_n 0, 1), (1, .getfield 12, 3), (4, .aload_n 0, 1), (5, .getfield 21, 3), (8, .sipush 255, 3), (11, .iconst 1, 1), (12, .invokevirtual 33, 3), (15, .return_, 1)]
theorem tk_X0_passDay_0 : dcA cX0_passDay tb_X0_passDay_0 = true := by decide +kernel
theorem dX0_passDay_0 : decode cX0_passDay 0 = .ok (.aload_n 0, 1) := dcO tk_X0_passDay_0 0 rfl
theorem dX0_passDay_1 : decode cX0_passDay 1 = .ok (.getfield 12, 3) := dcO tk_X0_passDay_0 1 rfl
theorem dX0_passDay_4 : decode cX0_passDay 4 = .ok (.aload_n 0, 1) := dcO tk_X0_passDay_0 2 rfl
theorem dX0_passDay_5 : decode cX0_passDay 5 = .ok (.getfield 21, 3) := dcO tk_X0_passDay_0 3 rfl
theorem dX0_passDay_8 : decode cX0_passDay 8 = .ok (.sipush 255, 3) := dcO tk_X0_passDay_0 4 rfl
theorem dX0_passDay_11 : decode cX0_passDay 11 = .ok (.iconst 1, 1) := dcO tk_X0_passDay_0 5 rfl
theorem dX0_passDay_12 : decode cX0_passDay 12 = .ok (.invokevirtual 33, 3) := dcO tk_X0_passDay_0 6 rfl
theorem dX0_passDay_15 : decode cX0_passDay 15 = .ok (.return_, 1) := dcO tk_X0_passDay_0 7 rfl
abbrev tb_X0_daysToLaw_0 : List (Nat × Instr × Nat) := [(0, .aload_n 0, 1), (1, .getfield 12, 3), (4, .aload_n 1, 1), (5, .invokevirtual 25, 3), (8, .aload_n 0, 1), (9, .getfield 12, 3), (12, .iload 4, 2), (14, .putfield 37, 3), (17, .aload_n 0, 1), (18, .aload_n 1, 1), (19, .invokevirtual 32, 3), (22, .iconst 0, 1), (23, .istore 5, 2), (25, .iload 5, 2), (27, .bipush 101, 2), (29, .if_icmp .ge 26, 3), (32, .aload_n 0, 1), (33, .getfield 12, 3), (36, .getfield 41, 3), (39, .iload_n 3, 1), (40, .iaload, 1), (41, .iload_n 2, 1), (42, .if_icmp .eq 13, 3), (45, .aload_n 0, 1), (46, .invokevirtual 45, 3), (49, .iinc 5 1, 3), (52, .goto (-27), 3), (55, .iload 5, 2), (57, .ireturn, 1)]
theorem tk_X0_daysToLaw_0 : dcA cX0_daysToLaw tb_X0_daysToLaw_0 = true := by decide +kernel
theorem dX0_daysToLaw_0 : decode cX0_daysToLaw 0 = .ok (.aload_n 0, 1) := dcO tk_X0_daysToLaw_0 0 rfl
theorem dX0_daysToLaw_1 : decode cX0_daysToLaw 1 = .ok (.getfield 12, 3) := dcO tk_X0_daysToLaw_0 1 rfl
theorem dX0_daysToLaw_4 : decode cX0_daysToLaw 4 = .ok (.aload_n 1, 1) := dcO tk_X0_daysToLaw_0 2 rfl
theorem dX0_daysToLaw_5 : decode cX0_daysToLaw 5 = .ok (.invokevirtual 25, 3) := dcO tk_X0_daysToLaw_0 3 rfl
theorem dX0_daysToLaw_8 : decode cX0_daysToLaw 8 = .ok (.aload_n 0, 1) := dcO tk_X0_daysToLaw_0 4 rfl
theorem dX0_daysToLaw_9 : decode cX0_daysToLaw 9 = .ok (.getfield 12, 3) := dcO tk_X0_daysToLaw_0 5 rfl
theorem dX0_daysToLaw_12 : decode cX0_daysToLaw 12 = .ok (.iload 4, 2) := dcO tk_X0_daysToLaw_0 6 rfl
theorem dX0_daysToLaw_14 : decode cX0_daysToLaw 14 = .ok (.putfield 37, 3) := dcO tk_X0_daysToLaw_0 7 rfl
theorem dX0_daysToLaw_17 : decode cX0_daysToLaw 17 = .ok (.aload_n 0, 1) := dcO tk_X0_daysToLaw_0 8 rfl
theorem dX0_daysToLaw_18 : decode cX0_daysToLaw 18 = .ok (.aload_n 1, 1) := dcO tk_X0_daysToLaw_0 9 rfl
theorem dX0_daysToLaw_19 : decode cX0_daysToLaw 19 = .ok (.invokevirtual 32, 3) := dcO tk_X0_daysToLaw_0 10 rfl
theorem dX0_daysToLaw_22 : decode cX0_daysToLaw 22 = .ok (.iconst 0, 1) := dcO tk_X0_daysToLaw_0 11 rfl
theorem dX0_daysToLaw_23 : decode cX0_daysToLaw 23 = .ok (.istore 5, 2) := dcO tk_X0_daysToLaw_0 12 rfl
theorem dX0_daysToLaw_25 : decode cX0_daysToLaw 25 = .ok (.iload 5, 2) := dcO tk_X0_daysToLaw_0 13 rfl
theorem dX0_daysToLaw_27 : decode cX0_daysToLaw 27 = .ok (.bipush 101, 2) := dcO tk_X0_daysToLaw_0 14 rfl
theorem dX0_daysToLaw_29 : decode cX0_daysToLaw 29 = .ok (.if_icmp .ge 26, 3) := dcO tk_X0_daysToLaw_0 15 rfl
theorem dX0_daysToLaw_32 : decode cX0_daysToLaw 32 = .ok (.aload_n 0, 1) := dcO tk_X0_daysToLaw_0 16 rfl
theorem dX0_daysToLaw_33 : decode cX0_daysToLaw 33 = .ok (.getfield 12, 3) := dcO tk_X0_daysToLaw_0 17 rfl
theorem dX0_daysToLaw_36 : decode cX0_daysToLaw 36 = .ok (.getfield 41, 3) := dcO tk_X0_daysToLaw_0 18 rfl
theorem dX0_daysToLaw_39 : decode cX0_daysToLaw 39 = .ok (.iload_n 3, 1) := dcO tk_X0_daysToLaw_0 19 rfl
theorem dX0_daysToLaw_40 : decode cX0_daysToLaw 40 = .ok (.iaload, 1) := dcO tk_X0_daysToLaw_0 20 rfl
theorem dX0_daysToLaw_41 : decode cX0_daysToLaw 41 = .ok (.iload_n 2, 1) := dcO tk_X0_daysToLaw_0 21 rfl
theorem dX0_daysToLaw_42 : decode cX0_daysToLaw 42 = .ok (.if_icmp .eq 13, 3) := dcO tk_X0_daysToLaw_0 22 rfl
theorem dX0_daysToLaw_45 : decode cX0_daysToLaw 45 = .ok (.aload_n 0, 1) := dcO tk_X0_daysToLaw_0 23 rfl
theorem dX0_daysToLaw_46 : decode cX0_daysToLaw 46 = .ok (.invokevirtual 45, 3) := dcO tk_X0_daysToLaw_0 24 rfl
theorem dX0_daysToLaw_49 : decode cX0_daysToLaw 49 = .ok (.iinc 5 1, 3) := dcO tk_X0_daysToLaw_0 25 rfl
theorem dX0_daysToLaw_52 : decode cX0_daysToLaw 52 = .ok (.goto (-27), 3) := dcO tk_X0_daysToLaw_0 26 rfl
theorem dX0_daysToLaw_55 : decode cX0_daysToLaw 55 = .ok (.iload 5, 2) := dcO tk_X0_daysToLaw_0 27 rfl
theorem dX0_daysToLaw_57 : decode cX0_daysToLaw 57 = .ok (.ireturn, 1) := dcO tk_X0_daysToLaw_0 28 rfl
abbrev tb_X0_daysToGate_0 : List (Nat × Instr × Nat) := [(0, .aload_n 0, 1), (1, .getfield 12, 3), (4, .aload_n 1, 1), (5, .invokevirtual 25, 3), (8, .aload_n 0, 1), (9, .getfield 12, 3), (12, .getfield 48, 3), (15, .iload_n 2, 1), (16, .iload_n 3, 1), (17, .iastore, 1), (18, .aload_n 0, 1), (19, .aload_n 1, 1), (20, .invokevirtual 32, 3), (23, .iconst 0, 1), (24, .istore 4, 2), (26, .iload 4, 2), (28, .bipush 101, 2), (30, .if_icmp .ge 34, 3), (33, .aload_n 0, 1), (34, .getfield 12, 3), (37, .getfield 51, 3), (40, .iload_n 2, 1), (41, .iaload, 1), (42, .aload_n 0, 1), (43, .getfield 12, 3), (46, .getfield 54, 3), (49, .iload_n 2, 1), (50, .iaload, 1), (51, .if_icmp .eq 13, 3), (54, .aload_n 0, 1), (55, .invokevirtual 45, 3), (58, .iinc 4 1, 3), (61, .goto (-35), 3), (64, .iload 4, 2), (66, .ireturn, 1)]
theorem tk_X0_daysToGate_0 : dcA cX0_daysToGate tb_X0_daysToGate_0 = true := by decide +kernel
theorem dX0_daysToGate_0 : decode cX0_daysToGate 0 = .ok (.aload_n 0, 1) := dcO tk_X0_daysToGate_0 0 rfl
theorem dX0_daysToGate_1 : decode cX0_daysToGate 1 = .ok (.getfield 12, 3) := dcO tk_X0_daysToGate_0 1 rfl
theorem dX0_daysToGate_4 : decode cX0_daysToGate 4 = .ok (.aload_n 1, 1) := dcO tk_X0_daysToGate_0 2 rfl
theorem dX0_daysToGate_5 : decode cX0_daysToGate 5 = .ok (.invokevirtual 25, 3) := dcO tk_X0_daysToGate_0 3 rfl
theorem dX0_daysToGate_8 : decode cX0_daysToGate 8 = .ok (.aload_n 0, 1) := dcO tk_X0_daysToGate_0 4 rfl
theorem dX0_daysToGate_9 : decode cX0_daysToGate 9 = .ok (.getfield 12, 3) := dcO tk_X0_daysToGate_0 5 rfl
theorem dX0_daysToGate_12 : decode cX0_daysToGate 12 = .ok (.getfield 48, 3) := dcO tk_X0_daysToGate_0 6 rfl
theorem dX0_daysToGate_15 : decode cX0_daysToGate 15 = .ok (.iload_n 2, 1) := dcO tk_X0_daysToGate_0 7 rfl
theorem dX0_daysToGate_16 : decode cX0_daysToGate 16 = .ok (.iload_n 3, 1) := dcO tk_X0_daysToGate_0 8 rfl
theorem dX0_daysToGate_17 : decode cX0_daysToGate 17 = .ok (.iastore, 1) := dcO tk_X0_daysToGate_0 9 rfl
theorem dX0_daysToGate_18 : decode cX0_daysToGate 18 = .ok (.aload_n 0, 1) := dcO tk_X0_daysToGate_0 10 rfl
theorem dX0_daysToGate_19 : decode cX0_daysToGate 19 = .ok (.aload_n 1, 1) := dcO tk_X0_daysToGate_0 11 rfl
theorem dX0_daysToGate_20 : decode cX0_daysToGate 20 = .ok (.invokevirtual 32, 3) := dcO tk_X0_daysToGate_0 12 rfl
theorem dX0_daysToGate_23 : decode cX0_daysToGate 23 = .ok (.iconst 0, 1) := dcO tk_X0_daysToGate_0 13 rfl
theorem dX0_daysToGate_24 : decode cX0_daysToGate 24 = .ok (.istore 4, 2) := dcO tk_X0_daysToGate_0 14 rfl
theorem dX0_daysToGate_26 : decode cX0_daysToGate 26 = .ok (.iload 4, 2) := dcO tk_X0_daysToGate_0 15 rfl
theorem dX0_daysToGate_28 : decode cX0_daysToGate 28 = .ok (.bipush 101, 2) := dcO tk_X0_daysToGate_0 16 rfl
theorem dX0_daysToGate_30 : decode cX0_daysToGate 30 = .ok (.if_icmp .ge 34, 3) := dcO tk_X0_daysToGate_0 17 rfl
theorem dX0_daysToGate_33 : decode cX0_daysToGate 33 = .ok (.aload_n 0, 1) := dcO tk_X0_daysToGate_0 18 rfl
theorem dX0_daysToGate_34 : decode cX0_daysToGate 34 = .ok (.getfield 12, 3) := dcO tk_X0_daysToGate_0 19 rfl
theorem dX0_daysToGate_37 : decode cX0_daysToGate 37 = .ok (.getfield 51, 3) := dcO tk_X0_daysToGate_0 20 rfl
theorem dX0_daysToGate_40 : decode cX0_daysToGate 40 = .ok (.iload_n 2, 1) := dcO tk_X0_daysToGate_0 21 rfl
theorem dX0_daysToGate_41 : decode cX0_daysToGate 41 = .ok (.iaload, 1) := dcO tk_X0_daysToGate_0 22 rfl
theorem dX0_daysToGate_42 : decode cX0_daysToGate 42 = .ok (.aload_n 0, 1) := dcO tk_X0_daysToGate_0 23 rfl
theorem dX0_daysToGate_43 : decode cX0_daysToGate 43 = .ok (.getfield 12, 3) := dcO tk_X0_daysToGate_0 24 rfl
theorem dX0_daysToGate_46 : decode cX0_daysToGate 46 = .ok (.getfield 54, 3) := dcO tk_X0_daysToGate_0 25 rfl
theorem dX0_daysToGate_49 : decode cX0_daysToGate 49 = .ok (.iload_n 2, 1) := dcO tk_X0_daysToGate_0 26 rfl
theorem dX0_daysToGate_50 : decode cX0_daysToGate 50 = .ok (.iaload, 1) := dcO tk_X0_daysToGate_0 27 rfl
theorem dX0_daysToGate_51 : decode cX0_daysToGate 51 = .ok (.if_icmp .eq 13, 3) := dcO tk_X0_daysToGate_0 28 rfl
theorem dX0_daysToGate_54 : decode cX0_daysToGate 54 = .ok (.aload_n 0, 1) := dcO tk_X0_daysToGate_0 29 rfl
theorem dX0_daysToGate_55 : decode cX0_daysToGate 55 = .ok (.invokevirtual 45, 3) := dcO tk_X0_daysToGate_0 30 rfl
theorem dX0_daysToGate_58 : decode cX0_daysToGate 58 = .ok (.iinc 4 1, 3) := dcO tk_X0_daysToGate_0 31 rfl
theorem dX0_daysToGate_61 : decode cX0_daysToGate 61 = .ok (.goto (-35), 3) := dcO tk_X0_daysToGate_0 32 rfl
theorem dX0_daysToGate_64 : decode cX0_daysToGate 64 = .ok (.iload 4, 2) := dcO tk_X0_daysToGate_0 33 rfl
theorem dX0_daysToGate_66 : decode cX0_daysToGate 66 = .ok (.ireturn, 1) := dcO tk_X0_daysToGate_0 34 rfl
abbrev tb_X0_daysToOvertake_0 : List (Nat × Instr × Nat) := [(0, .aload_n 0, 1), (1, .getfield 12, 3), (4, .aload_n 1, 1), (5, .invokevirtual 25, 3), (8, .aload_n 0, 1), (9, .aload_n 1, 1), (10, .invokevirtual 32, 3), (13, .iconst 0, 1), (14, .istore 4, 2), (16, .iload 4, 2), (18, .bipush 101, 2), (20, .if_icmp .ge 22, 3), (23, .aload_n 0, 1), (24, .iload_n 2, 1), (25, .iload_n 3, 1), (26, .invokevirtual 57, 3), (29, .ifCond .ne 13, 3), (32, .aload_n 0, 1), (33, .invokevirtual 45, 3), (36, .iinc 4 1, 3), (39, .goto (-23), 3), (42, .iload 4, 2), (44, .ireturn, 1)]
theorem tk_X0_daysToOvertake_0 : dcA cX0_daysToOvertake tb_X0_daysToOvertake_0 = true := by decide +kernel
theorem dX0_daysToOvertake_0 : decode cX0_daysToOvertake 0 = .ok (.aload_n 0, 1) := dcO tk_X0_daysToOvertake_0 0 rfl
theorem dX0_daysToOvertake_1 : decode cX0_daysToOvertake 1 = .ok (.getfield 12, 3) := dcO tk_X0_daysToOvertake_0 1 rfl
theorem dX0_daysToOvertake_4 : decode cX0_daysToOvertake 4 = .ok (.aload_n 1, 1) := dcO tk_X0_daysToOvertake_0 2 rfl
theorem dX0_daysToOvertake_5 : decode cX0_daysToOvertake 5 = .ok (.invokevirtual 25, 3) := dcO tk_X0_daysToOvertake_0 3 rfl
theorem dX0_daysToOvertake_8 : decode cX0_daysToOvertake 8 = .ok (.aload_n 0, 1) := dcO tk_X0_daysToOvertake_0 4 rfl
theorem dX0_daysToOvertake_9 : decode cX0_daysToOvertake 9 = .ok (.aload_n 1, 1) := dcO tk_X0_daysToOvertake_0 5 rfl
theorem dX0_daysToOvertake_10 : decode cX0_daysToOvertake 10 = .ok (.invokevirtual 32, 3) := dcO tk_X0_daysToOvertake_0 6 rfl
theorem dX0_daysToOvertake_13 : decode cX0_daysToOvertake 13 = .ok (.iconst 0, 1) := dcO tk_X0_daysToOvertake_0 7 rfl
theorem dX0_daysToOvertake_14 : decode cX0_daysToOvertake 14 = .ok (.istore 4, 2) := dcO tk_X0_daysToOvertake_0 8 rfl
theorem dX0_daysToOvertake_16 : decode cX0_daysToOvertake 16 = .ok (.iload 4, 2) := dcO tk_X0_daysToOvertake_0 9 rfl
theorem dX0_daysToOvertake_18 : decode cX0_daysToOvertake 18 = .ok (.bipush 101, 2) := dcO tk_X0_daysToOvertake_0 10 rfl
theorem dX0_daysToOvertake_20 : decode cX0_daysToOvertake 20 = .ok (.if_icmp .ge 22, 3) := dcO tk_X0_daysToOvertake_0 11 rfl
theorem dX0_daysToOvertake_23 : decode cX0_daysToOvertake 23 = .ok (.aload_n 0, 1) := dcO tk_X0_daysToOvertake_0 12 rfl
theorem dX0_daysToOvertake_24 : decode cX0_daysToOvertake 24 = .ok (.iload_n 2, 1) := dcO tk_X0_daysToOvertake_0 13 rfl
theorem dX0_daysToOvertake_25 : decode cX0_daysToOvertake 25 = .ok (.iload_n 3, 1) := dcO tk_X0_daysToOvertake_0 14 rfl
theorem dX0_daysToOvertake_26 : decode cX0_daysToOvertake 26 = .ok (.invokevirtual 57, 3) := dcO tk_X0_daysToOvertake_0 15 rfl
theorem dX0_daysToOvertake_29 : decode cX0_daysToOvertake 29 = .ok (.ifCond .ne 13, 3) := dcO tk_X0_daysToOvertake_0 16 rfl
theorem dX0_daysToOvertake_32 : decode cX0_daysToOvertake 32 = .ok (.aload_n 0, 1) := dcO tk_X0_daysToOvertake_0 17 rfl
theorem dX0_daysToOvertake_33 : decode cX0_daysToOvertake 33 = .ok (.invokevirtual 45, 3) := dcO tk_X0_daysToOvertake_0 18 rfl
theorem dX0_daysToOvertake_36 : decode cX0_daysToOvertake 36 = .ok (.iinc 4 1, 3) := dcO tk_X0_daysToOvertake_0 19 rfl
theorem dX0_daysToOvertake_39 : decode cX0_daysToOvertake 39 = .ok (.goto (-23), 3) := dcO tk_X0_daysToOvertake_0 20 rfl
theorem dX0_daysToOvertake_42 : decode cX0_daysToOvertake 42 = .ok (.iload 4, 2) := dcO tk_X0_daysToOvertake_0 21 rfl
theorem dX0_daysToOvertake_44 : decode cX0_daysToOvertake 44 = .ok (.ireturn, 1) := dcO tk_X0_daysToOvertake_0 22 rfl
abbrev tb_X0_isNearer_0 : List (Nat × Instr × Nat) := [(0, .aload_n 0, 1), (1, .getfield 21, 3), (4, .iload_n 2, 1), (5, .aload_n 0, 1), (6, .getfield 12, 3), (9, .getfield 51, 3), (12, .iload_n 1, 1), (13, .iaload, 1), (14, .invokevirtual 61, 3), (17, .aload_n 0, 1), (18, .getfield 21, 3), (21, .iload_n 2, 1), (22, .aload_n 0, 1), (23, .getfield 12, 3), (26, .getfield 51, 3), (29, .iload_n 2, 1), (30, .iaload, 1), (31, .invokevirtual 61, 3), (34, .if_icmp .ge 7, 3), (37, .iconst 1, 1), (38, .goto 4, 3), (41, .iconst 0, 1), (42, .ireturn, 1)]
theorem tk_X0_isNearer_0 : dcA cX0_isNearer tb_X0_isNearer_0 = true := by decide +kernel
theorem dX0_isNearer_0 : decode cX0_isNearer 0 = .ok (.aload_n 0, 1) := dcO tk_X0_isNearer_0 0 rfl
theorem dX0_isNearer_1 : decode cX0_isNearer 1 = .ok (.getfield 21, 3) := dcO tk_X0_isNearer_0 1 rfl
theorem dX0_isNearer_4 : decode cX0_isNearer 4 = .ok (.iload_n 2, 1) := dcO tk_X0_isNearer_0 2 rfl
theorem dX0_isNearer_5 : decode cX0_isNearer 5 = .ok (.aload_n 0, 1) := dcO tk_X0_isNearer_0 3 rfl
theorem dX0_isNearer_6 : decode cX0_isNearer 6 = .ok (.getfield 12, 3) := dcO tk_X0_isNearer_0 4 rfl
theorem dX0_isNearer_9 : decode cX0_isNearer 9 = .ok (.getfield 51, 3) := dcO tk_X0_isNearer_0 5 rfl
theorem dX0_isNearer_12 : decode cX0_isNearer 12 = .ok (.iload_n 1, 1) := dcO tk_X0_isNearer_0 6 rfl
theorem dX0_isNearer_13 : decode cX0_isNearer 13 = .ok (.iaload, 1) := dcO tk_X0_isNearer_0 7 rfl
theorem dX0_isNearer_14 : decode cX0_isNearer 14 = .ok (.invokevirtual 61, 3) := dcO tk_X0_isNearer_0 8 rfl
theorem dX0_isNearer_17 : decode cX0_isNearer 17 = .ok (.aload_n 0, 1) := dcO tk_X0_isNearer_0 9 rfl
theorem dX0_isNearer_18 : decode cX0_isNearer 18 = .ok (.getfield 21, 3) := dcO tk_X0_isNearer_0 10 rfl
theorem dX0_isNearer_21 : decode cX0_isNearer 21 = .ok (.iload_n 2, 1) := dcO tk_X0_isNearer_0 11 rfl
theorem dX0_isNearer_22 : decode cX0_isNearer 22 = .ok (.aload_n 0, 1) := dcO tk_X0_isNearer_0 12 rfl
theorem dX0_isNearer_23 : decode cX0_isNearer 23 = .ok (.getfield 12, 3) := dcO tk_X0_isNearer_0 13 rfl
theorem dX0_isNearer_26 : decode cX0_isNearer 26 = .ok (.getfield 51, 3) := dcO tk_X0_isNearer_0 14 rfl
theorem dX0_isNearer_29 : decode cX0_isNearer 29 = .ok (.iload_n 2, 1) := dcO tk_X0_isNearer_0 15 rfl
theorem dX0_isNearer_30 : decode cX0_isNearer 30 = .ok (.iaload, 1) := dcO tk_X0_isNearer_0 16 rfl
theorem dX0_isNearer_31 : decode cX0_isNearer 31 = .ok (.invokevirtual 61, 3) := dcO tk_X0_isNearer_0 17 rfl
theorem dX0_isNearer_34 : decode cX0_isNearer 34 = .ok (.if_icmp .ge 7, 3) := dcO tk_X0_isNearer_0 18 rfl
theorem dX0_isNearer_37 : decode cX0_isNearer 37 = .ok (.iconst 1, 1) := dcO tk_X0_isNearer_0 19 rfl
theorem dX0_isNearer_38 : decode cX0_isNearer 38 = .ok (.goto 4, 3) := dcO tk_X0_isNearer_0 20 rfl
theorem dX0_isNearer_41 : decode cX0_isNearer 41 = .ok (.iconst 0, 1) := dcO tk_X0_isNearer_0 21 rfl
theorem dX0_isNearer_42 : decode cX0_isNearer 42 = .ok (.ireturn, 1) := dcO tk_X0_isNearer_0 22 rfl
abbrev tb_X0_cellOfMostClashes_0 : List (Nat × Instr × Nat) := [(0, .aload_n 0, 1), (1, .getfield 12, 3), (4, .getfield 65, 3), (7, .iconst 0, 1), (8, .invokestatic 68, 3), (11, .aload_n 0, 1), (12, .aload_n 1, 1), (13, .iload_n 2, 1), (14, .invokevirtual 74, 3), (17, .pop, 1), (18, .ldc 78, 2), (20, .istore_n 3, 1), (21, .iconst 0, 1), (22, .istore 4, 2), (24, .iconst 0, 1), (25, .istore 5, 2), (27, .iload 5, 2), (29, .bipush 81, 2), (31, .if_icmp .ge 39, 3), (34, .aload_n 0, 1), (35, .getfield 12, 3), (38, .getfield 65, 3), (41, .iload 5, 2), (43, .iaload, 1), (44, .iload 4, 2), (46, .if_icmp .le 18, 3), (49, .aload_n 0, 1), (50, .getfield 12, 3), (53, .getfield 65, 3), (56, .iload 5, 2), (58, .iaload, 1), (59, .istore 4, 2), (61, .iload 5, 2), (63, .istore_n 3, 1), (64, .iinc 5 1, 3), (67, .goto (-40), 3), (70, .iload_n 3, 1), (71, .ireturn, 1)]
theorem tk_X0_cellOfMostClashes_0 : dcA cX0_cellOfMostClashes tb_X0_cellOfMostClashes_0 = true := by decide +kernel
theorem dX0_cellOfMostClashes_0 : decode cX0_cellOfMostClashes 0 = .ok (.aload_n 0, 1) := dcO tk_X0_cellOfMostClashes_0 0 rfl
theorem dX0_cellOfMostClashes_1 : decode cX0_cellOfMostClashes 1 = .ok (.getfield 12, 3) := dcO tk_X0_cellOfMostClashes_0 1 rfl
theorem dX0_cellOfMostClashes_4 : decode cX0_cellOfMostClashes 4 = .ok (.getfield 65, 3) := dcO tk_X0_cellOfMostClashes_0 2 rfl
theorem dX0_cellOfMostClashes_7 : decode cX0_cellOfMostClashes 7 = .ok (.iconst 0, 1) := dcO tk_X0_cellOfMostClashes_0 3 rfl
theorem dX0_cellOfMostClashes_8 : decode cX0_cellOfMostClashes 8 = .ok (.invokestatic 68, 3) := dcO tk_X0_cellOfMostClashes_0 4 rfl
theorem dX0_cellOfMostClashes_11 : decode cX0_cellOfMostClashes 11 = .ok (.aload_n 0, 1) := dcO tk_X0_cellOfMostClashes_0 5 rfl
theorem dX0_cellOfMostClashes_12 : decode cX0_cellOfMostClashes 12 = .ok (.aload_n 1, 1) := dcO tk_X0_cellOfMostClashes_0 6 rfl
theorem dX0_cellOfMostClashes_13 : decode cX0_cellOfMostClashes 13 = .ok (.iload_n 2, 1) := dcO tk_X0_cellOfMostClashes_0 7 rfl
theorem dX0_cellOfMostClashes_14 : decode cX0_cellOfMostClashes 14 = .ok (.invokevirtual 74, 3) := dcO tk_X0_cellOfMostClashes_0 8 rfl
theorem dX0_cellOfMostClashes_17 : decode cX0_cellOfMostClashes 17 = .ok (.pop, 1) := dcO tk_X0_cellOfMostClashes_0 9 rfl
theorem dX0_cellOfMostClashes_18 : decode cX0_cellOfMostClashes 18 = .ok (.ldc 78, 2) := dcO tk_X0_cellOfMostClashes_0 10 rfl
theorem dX0_cellOfMostClashes_20 : decode cX0_cellOfMostClashes 20 = .ok (.istore_n 3, 1) := dcO tk_X0_cellOfMostClashes_0 11 rfl
theorem dX0_cellOfMostClashes_21 : decode cX0_cellOfMostClashes 21 = .ok (.iconst 0, 1) := dcO tk_X0_cellOfMostClashes_0 12 rfl
theorem dX0_cellOfMostClashes_22 : decode cX0_cellOfMostClashes 22 = .ok (.istore 4, 2) := dcO tk_X0_cellOfMostClashes_0 13 rfl
theorem dX0_cellOfMostClashes_24 : decode cX0_cellOfMostClashes 24 = .ok (.iconst 0, 1) := dcO tk_X0_cellOfMostClashes_0 14 rfl
theorem dX0_cellOfMostClashes_25 : decode cX0_cellOfMostClashes 25 = .ok (.istore 5, 2) := dcO tk_X0_cellOfMostClashes_0 15 rfl
theorem dX0_cellOfMostClashes_27 : decode cX0_cellOfMostClashes 27 = .ok (.iload 5, 2) := dcO tk_X0_cellOfMostClashes_0 16 rfl
theorem dX0_cellOfMostClashes_29 : decode cX0_cellOfMostClashes 29 = .ok (.bipush 81, 2) := dcO tk_X0_cellOfMostClashes_0 17 rfl
theorem dX0_cellOfMostClashes_31 : decode cX0_cellOfMostClashes 31 = .ok (.if_icmp .ge 39, 3) := dcO tk_X0_cellOfMostClashes_0 18 rfl
theorem dX0_cellOfMostClashes_34 : decode cX0_cellOfMostClashes 34 = .ok (.aload_n 0, 1) := dcO tk_X0_cellOfMostClashes_0 19 rfl
theorem dX0_cellOfMostClashes_35 : decode cX0_cellOfMostClashes 35 = .ok (.getfield 12, 3) := dcO tk_X0_cellOfMostClashes_0 20 rfl
theorem dX0_cellOfMostClashes_38 : decode cX0_cellOfMostClashes 38 = .ok (.getfield 65, 3) := dcO tk_X0_cellOfMostClashes_0 21 rfl
theorem dX0_cellOfMostClashes_41 : decode cX0_cellOfMostClashes 41 = .ok (.iload 5, 2) := dcO tk_X0_cellOfMostClashes_0 22 rfl
theorem dX0_cellOfMostClashes_43 : decode cX0_cellOfMostClashes 43 = .ok (.iaload, 1) := dcO tk_X0_cellOfMostClashes_0 23 rfl
theorem dX0_cellOfMostClashes_44 : decode cX0_cellOfMostClashes 44 = .ok (.iload 4, 2) := dcO tk_X0_cellOfMostClashes_0 24 rfl
theorem dX0_cellOfMostClashes_46 : decode cX0_cellOfMostClashes 46 = .ok (.if_icmp .le 18, 3) := dcO tk_X0_cellOfMostClashes_0 25 rfl
theorem dX0_cellOfMostClashes_49 : decode cX0_cellOfMostClashes 49 = .ok (.aload_n 0, 1) := dcO tk_X0_cellOfMostClashes_0 26 rfl
theorem dX0_cellOfMostClashes_50 : decode cX0_cellOfMostClashes 50 = .ok (.getfield 12, 3) := dcO tk_X0_cellOfMostClashes_0 27 rfl
theorem dX0_cellOfMostClashes_53 : decode cX0_cellOfMostClashes 53 = .ok (.getfield 65, 3) := dcO tk_X0_cellOfMostClashes_0 28 rfl
theorem dX0_cellOfMostClashes_56 : decode cX0_cellOfMostClashes 56 = .ok (.iload 5, 2) := dcO tk_X0_cellOfMostClashes_0 29 rfl
theorem dX0_cellOfMostClashes_58 : decode cX0_cellOfMostClashes 58 = .ok (.iaload, 1) := dcO tk_X0_cellOfMostClashes_0 30 rfl
theorem dX0_cellOfMostClashes_59 : decode cX0_cellOfMostClashes 59 = .ok (.istore 4, 2) := dcO tk_X0_cellOfMostClashes_0 31 rfl
theorem dX0_cellOfMostClashes_61 : decode cX0_cellOfMostClashes 61 = .ok (.iload 5, 2) := dcO tk_X0_cellOfMostClashes_0 32 rfl
theorem dX0_cellOfMostClashes_63 : decode cX0_cellOfMostClashes 63 = .ok (.istore_n 3, 1) := dcO tk_X0_cellOfMostClashes_0 33 rfl
theorem dX0_cellOfMostClashes_64 : decode cX0_cellOfMostClashes 64 = .ok (.iinc 5 1, 3) := dcO tk_X0_cellOfMostClashes_0 34 rfl
theorem dX0_cellOfMostClashes_67 : decode cX0_cellOfMostClashes 67 = .ok (.goto (-40), 3) := dcO tk_X0_cellOfMostClashes_0 35 rfl
theorem dX0_cellOfMostClashes_70 : decode cX0_cellOfMostClashes 70 = .ok (.iload_n 3, 1) := dcO tk_X0_cellOfMostClashes_0 36 rfl
theorem dX0_cellOfMostClashes_71 : decode cX0_cellOfMostClashes 71 = .ok (.ireturn, 1) := dcO tk_X0_cellOfMostClashes_0 37 rfl
abbrev tb_X0_cheapestSet_0 : List (Nat × Instr × Nat) := [(0, .aload_n 0, 1), (1, .aload_n 1, 1), (2, .invokevirtual 32, 3), (5, .ldc 78, 2), (7, .istore 5, 2), (9, .sipush 793, 3), (12, .istore 6, 2), (14, .iconst 1, 1), (15, .aload_n 1, 1), (16, .getfield 79, 3), (19, .ishl, 1), (20, .istore 7, 2), (22, .iconst 0, 1), (23, .istore 8, 2), (25, .iload 8, 2), (27, .iload 7, 2), (29, .if_icmp .ge 46, 3), (32, .aload_n 1, 1), (33, .iload 8, 2), (35, .invokevirtual 82, 3), (38, .istore 9, 2), (40, .iload 9, 2), (42, .iload 6, 2), (44, .if_icmp .ge 25, 3), (47, .aload_n 0, 1), (48, .aload_n 1, 1), (49, .iload 8, 2), (51, .iload_n 2, 1), (52, .iload_n 3, 1), (53, .iload 4, 2), (55, .invokevirtual 86, 3), (58, .ifCond .eq 11, 3), (61, .iload 8, 2), (63, .istore 5, 2), (65, .iload 9, 2), (67, .istore 6, 2), (69, .iinc 8 1, 3), (72, .goto (-47), 3), (75, .iload 5, 2), (77, .ireturn, 1)]
theorem tk_X0_cheapestSet_0 : dcA cX0_cheapestSet tb_X0_cheapestSet_0 = true := by decide +kernel
theorem dX0_cheapestSet_0 : decode cX0_cheapestSet 0 = .ok (.aload_n 0, 1) := dcO tk_X0_cheapestSet_0 0 rfl
theorem dX0_cheapestSet_1 : decode cX0_cheapestSet 1 = .ok (.aload_n 1, 1) := dcO tk_X0_cheapestSet_0 1 rfl
theorem dX0_cheapestSet_2 : decode cX0_cheapestSet 2 = .ok (.invokevirtual 32, 3) := dcO tk_X0_cheapestSet_0 2 rfl
theorem dX0_cheapestSet_5 : decode cX0_cheapestSet 5 = .ok (.ldc 78, 2) := dcO tk_X0_cheapestSet_0 3 rfl
theorem dX0_cheapestSet_7 : decode cX0_cheapestSet 7 = .ok (.istore 5, 2) := dcO tk_X0_cheapestSet_0 4 rfl
theorem dX0_cheapestSet_9 : decode cX0_cheapestSet 9 = .ok (.sipush 793, 3) := dcO tk_X0_cheapestSet_0 5 rfl
theorem dX0_cheapestSet_12 : decode cX0_cheapestSet 12 = .ok (.istore 6, 2) := dcO tk_X0_cheapestSet_0 6 rfl
theorem dX0_cheapestSet_14 : decode cX0_cheapestSet 14 = .ok (.iconst 1, 1) := dcO tk_X0_cheapestSet_0 7 rfl
theorem dX0_cheapestSet_15 : decode cX0_cheapestSet 15 = .ok (.aload_n 1, 1) := dcO tk_X0_cheapestSet_0 8 rfl
theorem dX0_cheapestSet_16 : decode cX0_cheapestSet 16 = .ok (.getfield 79, 3) := dcO tk_X0_cheapestSet_0 9 rfl
theorem dX0_cheapestSet_19 : decode cX0_cheapestSet 19 = .ok (.ishl, 1) := dcO tk_X0_cheapestSet_0 10 rfl
theorem dX0_cheapestSet_20 : decode cX0_cheapestSet 20 = .ok (.istore 7, 2) := dcO tk_X0_cheapestSet_0 11 rfl
theorem dX0_cheapestSet_22 : decode cX0_cheapestSet 22 = .ok (.iconst 0, 1) := dcO tk_X0_cheapestSet_0 12 rfl
theorem dX0_cheapestSet_23 : decode cX0_cheapestSet 23 = .ok (.istore 8, 2) := dcO tk_X0_cheapestSet_0 13 rfl
theorem dX0_cheapestSet_25 : decode cX0_cheapestSet 25 = .ok (.iload 8, 2) := dcO tk_X0_cheapestSet_0 14 rfl
theorem dX0_cheapestSet_27 : decode cX0_cheapestSet 27 = .ok (.iload 7, 2) := dcO tk_X0_cheapestSet_0 15 rfl
theorem dX0_cheapestSet_29 : decode cX0_cheapestSet 29 = .ok (.if_icmp .ge 46, 3) := dcO tk_X0_cheapestSet_0 16 rfl
theorem dX0_cheapestSet_32 : decode cX0_cheapestSet 32 = .ok (.aload_n 1, 1) := dcO tk_X0_cheapestSet_0 17 rfl
theorem dX0_cheapestSet_33 : decode cX0_cheapestSet 33 = .ok (.iload 8, 2) := dcO tk_X0_cheapestSet_0 18 rfl
theorem dX0_cheapestSet_35 : decode cX0_cheapestSet 35 = .ok (.invokevirtual 82, 3) := dcO tk_X0_cheapestSet_0 19 rfl
theorem dX0_cheapestSet_38 : decode cX0_cheapestSet 38 = .ok (.istore 9, 2) := dcO tk_X0_cheapestSet_0 20 rfl
theorem dX0_cheapestSet_40 : decode cX0_cheapestSet 40 = .ok (.iload 9, 2) := dcO tk_X0_cheapestSet_0 21 rfl
theorem dX0_cheapestSet_42 : decode cX0_cheapestSet 42 = .ok (.iload 6, 2) := dcO tk_X0_cheapestSet_0 22 rfl
theorem dX0_cheapestSet_44 : decode cX0_cheapestSet 44 = .ok (.if_icmp .ge 25, 3) := dcO tk_X0_cheapestSet_0 23 rfl
theorem dX0_cheapestSet_47 : decode cX0_cheapestSet 47 = .ok (.aload_n 0, 1) := dcO tk_X0_cheapestSet_0 24 rfl
theorem dX0_cheapestSet_48 : decode cX0_cheapestSet 48 = .ok (.aload_n 1, 1) := dcO tk_X0_cheapestSet_0 25 rfl
theorem dX0_cheapestSet_49 : decode cX0_cheapestSet 49 = .ok (.iload 8, 2) := dcO tk_X0_cheapestSet_0 26 rfl
theorem dX0_cheapestSet_51 : decode cX0_cheapestSet 51 = .ok (.iload_n 2, 1) := dcO tk_X0_cheapestSet_0 27 rfl
theorem dX0_cheapestSet_52 : decode cX0_cheapestSet 52 = .ok (.iload_n 3, 1) := dcO tk_X0_cheapestSet_0 28 rfl
theorem dX0_cheapestSet_53 : decode cX0_cheapestSet 53 = .ok (.iload 4, 2) := dcO tk_X0_cheapestSet_0 29 rfl
theorem dX0_cheapestSet_55 : decode cX0_cheapestSet 55 = .ok (.invokevirtual 86, 3) := dcO tk_X0_cheapestSet_0 30 rfl
theorem dX0_cheapestSet_58 : decode cX0_cheapestSet 58 = .ok (.ifCond .eq 11, 3) := dcO tk_X0_cheapestSet_0 31 rfl
theorem dX0_cheapestSet_61 : decode cX0_cheapestSet 61 = .ok (.iload 8, 2) := dcO tk_X0_cheapestSet_0 32 rfl
theorem dX0_cheapestSet_63 : decode cX0_cheapestSet 63 = .ok (.istore 5, 2) := dcO tk_X0_cheapestSet_0 33 rfl
theorem dX0_cheapestSet_65 : decode cX0_cheapestSet 65 = .ok (.iload 9, 2) := dcO tk_X0_cheapestSet_0 34 rfl
theorem dX0_cheapestSet_67 : decode cX0_cheapestSet 67 = .ok (.istore 6, 2) := dcO tk_X0_cheapestSet_0 35 rfl
theorem dX0_cheapestSet_69 : decode cX0_cheapestSet 69 = .ok (.iinc 8 1, 3) := dcO tk_X0_cheapestSet_0 36 rfl
theorem dX0_cheapestSet_72 : decode cX0_cheapestSet 72 = .ok (.goto (-47), 3) := dcO tk_X0_cheapestSet_0 37 rfl
theorem dX0_cheapestSet_75 : decode cX0_cheapestSet 75 = .ok (.iload 5, 2) := dcO tk_X0_cheapestSet_0 38 rfl
theorem dX0_cheapestSet_77 : decode cX0_cheapestSet 77 = .ok (.ireturn, 1) := dcO tk_X0_cheapestSet_0 39 rfl
abbrev tb_X0_bringsLaw_0 : List (Nat × Instr × Nat) := [(0, .aload_n 1, 1), (1, .getfield 41, 3), (4, .iload 4, 2), (6, .iaload, 1), (7, .iload_n 3, 1), (8, .if_icmp .eq 15, 3), (11, .aload_n 0, 1), (12, .aload_n 1, 1), (13, .iload_n 2, 1), (14, .iload_n 3, 1), (15, .invokevirtual 90, 3), (18, .ifCond .ne 5, 3), (21, .iconst 0, 1), (22, .ireturn, 1), (23, .aload_n 0, 1), (24, .getfield 12, 3), (27, .aload_n 1, 1), (28, .invokevirtual 25, 3), (31, .aload_n 0, 1), (32, .getfield 12, 3), (35, .aload_n 0, 1), (36, .getfield 21, 3), (39, .iload_n 2, 1), (40, .iload 5, 2), (42, .invokevirtual 33, 3), (45, .aload_n 0, 1), (46, .getfield 12, 3), (49, .getfield 41, 3), (52, .iload 4, 2), (54, .iaload, 1), (55, .iload_n 3, 1), (56, .if_icmp .ne 7, 3), (59, .iconst 1, 1), (60, .goto 4, 3), (63, .iconst 0, 1), (64, .ireturn, 1)]
theorem tk_X0_bringsLaw_0 : dcA cX0_bringsLaw tb_X0_bringsLaw_0 = true := by decide +kernel
theorem dX0_bringsLaw_0 : decode cX0_bringsLaw 0 = .ok (.aload_n 1, 1) := dcO tk_X0_bringsLaw_0 0 rfl
theorem dX0_bringsLaw_1 : decode cX0_bringsLaw 1 = .ok (.getfield 41, 3) := dcO tk_X0_bringsLaw_0 1 rfl
theorem dX0_bringsLaw_4 : decode cX0_bringsLaw 4 = .ok (.iload 4, 2) := dcO tk_X0_bringsLaw_0 2 rfl
theorem dX0_bringsLaw_6 : decode cX0_bringsLaw 6 = .ok (.iaload, 1) := dcO tk_X0_bringsLaw_0 3 rfl
theorem dX0_bringsLaw_7 : decode cX0_bringsLaw 7 = .ok (.iload_n 3, 1) := dcO tk_X0_bringsLaw_0 4 rfl
theorem dX0_bringsLaw_8 : decode cX0_bringsLaw 8 = .ok (.if_icmp .eq 15, 3) := dcO tk_X0_bringsLaw_0 5 rfl
theorem dX0_bringsLaw_11 : decode cX0_bringsLaw 11 = .ok (.aload_n 0, 1) := dcO tk_X0_bringsLaw_0 6 rfl
theorem dX0_bringsLaw_12 : decode cX0_bringsLaw 12 = .ok (.aload_n 1, 1) := dcO tk_X0_bringsLaw_0 7 rfl
theorem dX0_bringsLaw_13 : decode cX0_bringsLaw 13 = .ok (.iload_n 2, 1) := dcO tk_X0_bringsLaw_0 8 rfl
theorem dX0_bringsLaw_14 : decode cX0_bringsLaw 14 = .ok (.iload_n 3, 1) := dcO tk_X0_bringsLaw_0 9 rfl
theorem dX0_bringsLaw_15 : decode cX0_bringsLaw 15 = .ok (.invokevirtual 90, 3) := dcO tk_X0_bringsLaw_0 10 rfl
theorem dX0_bringsLaw_18 : decode cX0_bringsLaw 18 = .ok (.ifCond .ne 5, 3) := dcO tk_X0_bringsLaw_0 11 rfl
theorem dX0_bringsLaw_21 : decode cX0_bringsLaw 21 = .ok (.iconst 0, 1) := dcO tk_X0_bringsLaw_0 12 rfl
theorem dX0_bringsLaw_22 : decode cX0_bringsLaw 22 = .ok (.ireturn, 1) := dcO tk_X0_bringsLaw_0 13 rfl
theorem dX0_bringsLaw_23 : decode cX0_bringsLaw 23 = .ok (.aload_n 0, 1) := dcO tk_X0_bringsLaw_0 14 rfl
theorem dX0_bringsLaw_24 : decode cX0_bringsLaw 24 = .ok (.getfield 12, 3) := dcO tk_X0_bringsLaw_0 15 rfl
theorem dX0_bringsLaw_27 : decode cX0_bringsLaw 27 = .ok (.aload_n 1, 1) := dcO tk_X0_bringsLaw_0 16 rfl
theorem dX0_bringsLaw_28 : decode cX0_bringsLaw 28 = .ok (.invokevirtual 25, 3) := dcO tk_X0_bringsLaw_0 17 rfl
theorem dX0_bringsLaw_31 : decode cX0_bringsLaw 31 = .ok (.aload_n 0, 1) := dcO tk_X0_bringsLaw_0 18 rfl
theorem dX0_bringsLaw_32 : decode cX0_bringsLaw 32 = .ok (.getfield 12, 3) := dcO tk_X0_bringsLaw_0 19 rfl
theorem dX0_bringsLaw_35 : decode cX0_bringsLaw 35 = .ok (.aload_n 0, 1) := dcO tk_X0_bringsLaw_0 20 rfl
theorem dX0_bringsLaw_36 : decode cX0_bringsLaw 36 = .ok (.getfield 21, 3) := dcO tk_X0_bringsLaw_0 21 rfl
theorem dX0_bringsLaw_39 : decode cX0_bringsLaw 39 = .ok (.iload_n 2, 1) := dcO tk_X0_bringsLaw_0 22 rfl
theorem dX0_bringsLaw_40 : decode cX0_bringsLaw 40 = .ok (.iload 5, 2) := dcO tk_X0_bringsLaw_0 23 rfl
theorem dX0_bringsLaw_42 : decode cX0_bringsLaw 42 = .ok (.invokevirtual 33, 3) := dcO tk_X0_bringsLaw_0 24 rfl
theorem dX0_bringsLaw_45 : decode cX0_bringsLaw 45 = .ok (.aload_n 0, 1) := dcO tk_X0_bringsLaw_0 25 rfl
theorem dX0_bringsLaw_46 : decode cX0_bringsLaw 46 = .ok (.getfield 12, 3) := dcO tk_X0_bringsLaw_0 26 rfl
theorem dX0_bringsLaw_49 : decode cX0_bringsLaw 49 = .ok (.getfield 41, 3) := dcO tk_X0_bringsLaw_0 27 rfl
theorem dX0_bringsLaw_52 : decode cX0_bringsLaw 52 = .ok (.iload 4, 2) := dcO tk_X0_bringsLaw_0 28 rfl
theorem dX0_bringsLaw_54 : decode cX0_bringsLaw 54 = .ok (.iaload, 1) := dcO tk_X0_bringsLaw_0 29 rfl
theorem dX0_bringsLaw_55 : decode cX0_bringsLaw 55 = .ok (.iload_n 3, 1) := dcO tk_X0_bringsLaw_0 30 rfl
theorem dX0_bringsLaw_56 : decode cX0_bringsLaw 56 = .ok (.if_icmp .ne 7, 3) := dcO tk_X0_bringsLaw_0 31 rfl
theorem dX0_bringsLaw_59 : decode cX0_bringsLaw 59 = .ok (.iconst 1, 1) := dcO tk_X0_bringsLaw_0 32 rfl
theorem dX0_bringsLaw_60 : decode cX0_bringsLaw 60 = .ok (.goto 4, 3) := dcO tk_X0_bringsLaw_0 33 rfl
theorem dX0_bringsLaw_63 : decode cX0_bringsLaw 63 = .ok (.iconst 0, 1) := dcO tk_X0_bringsLaw_0 34 rfl
theorem dX0_bringsLaw_64 : decode cX0_bringsLaw 64 = .ok (.ireturn, 1) := dcO tk_X0_bringsLaw_0 35 rfl
abbrev tb_X0_bearsLaw_0 : List (Nat × Instr × Nat) := [(0, .iconst 0, 1), (1, .istore 4, 2), (3, .iload 4, 2), (5, .aload_n 1, 1), (6, .getfield 79, 3), (9, .if_icmp .ge 32, 3), (12, .iload_n 2, 1), (13, .iload 4, 2), (15, .ishr, 1), (16, .iconst 1, 1), (17, .iand, 1), (18, .iconst 1, 1), (19, .if_icmp .ne 16, 3), (22, .aload_n 1, 1), (23, .getfield 94, 3), (26, .iload 4, 2), (28, .iaload, 1), (29, .iload_n 3, 1), (30, .if_icmp .ne 5, 3), (33, .iconst 1, 1), (34, .ireturn, 1), (35, .iinc 4 1, 3), (38, .goto (-35), 3), (41, .iconst 0, 1), (42, .ireturn, 1)]
theorem tk_X0_bearsLaw_0 : dcA cX0_bearsLaw tb_X0_bearsLaw_0 = true := by decide +kernel
theorem dX0_bearsLaw_0 : decode cX0_bearsLaw 0 = .ok (.iconst 0, 1) := dcO tk_X0_bearsLaw_0 0 rfl
theorem dX0_bearsLaw_1 : decode cX0_bearsLaw 1 = .ok (.istore 4, 2) := dcO tk_X0_bearsLaw_0 1 rfl
theorem dX0_bearsLaw_3 : decode cX0_bearsLaw 3 = .ok (.iload 4, 2) := dcO tk_X0_bearsLaw_0 2 rfl
theorem dX0_bearsLaw_5 : decode cX0_bearsLaw 5 = .ok (.aload_n 1, 1) := dcO tk_X0_bearsLaw_0 3 rfl
theorem dX0_bearsLaw_6 : decode cX0_bearsLaw 6 = .ok (.getfield 79, 3) := dcO tk_X0_bearsLaw_0 4 rfl
theorem dX0_bearsLaw_9 : decode cX0_bearsLaw 9 = .ok (.if_icmp .ge 32, 3) := dcO tk_X0_bearsLaw_0 5 rfl
theorem dX0_bearsLaw_12 : decode cX0_bearsLaw 12 = .ok (.iload_n 2, 1) := dcO tk_X0_bearsLaw_0 6 rfl
theorem dX0_bearsLaw_13 : decode cX0_bearsLaw 13 = .ok (.iload 4, 2) := dcO tk_X0_bearsLaw_0 7 rfl
theorem dX0_bearsLaw_15 : decode cX0_bearsLaw 15 = .ok (.ishr, 1) := dcO tk_X0_bearsLaw_0 8 rfl
theorem dX0_bearsLaw_16 : decode cX0_bearsLaw 16 = .ok (.iconst 1, 1) := dcO tk_X0_bearsLaw_0 9 rfl
theorem dX0_bearsLaw_17 : decode cX0_bearsLaw 17 = .ok (.iand, 1) := dcO tk_X0_bearsLaw_0 10 rfl
theorem dX0_bearsLaw_18 : decode cX0_bearsLaw 18 = .ok (.iconst 1, 1) := dcO tk_X0_bearsLaw_0 11 rfl
theorem dX0_bearsLaw_19 : decode cX0_bearsLaw 19 = .ok (.if_icmp .ne 16, 3) := dcO tk_X0_bearsLaw_0 12 rfl
theorem dX0_bearsLaw_22 : decode cX0_bearsLaw 22 = .ok (.aload_n 1, 1) := dcO tk_X0_bearsLaw_0 13 rfl
theorem dX0_bearsLaw_23 : decode cX0_bearsLaw 23 = .ok (.getfield 94, 3) := dcO tk_X0_bearsLaw_0 14 rfl
theorem dX0_bearsLaw_26 : decode cX0_bearsLaw 26 = .ok (.iload 4, 2) := dcO tk_X0_bearsLaw_0 15 rfl
theorem dX0_bearsLaw_28 : decode cX0_bearsLaw 28 = .ok (.iaload, 1) := dcO tk_X0_bearsLaw_0 16 rfl
theorem dX0_bearsLaw_29 : decode cX0_bearsLaw 29 = .ok (.iload_n 3, 1) := dcO tk_X0_bearsLaw_0 17 rfl
theorem dX0_bearsLaw_30 : decode cX0_bearsLaw 30 = .ok (.if_icmp .ne 5, 3) := dcO tk_X0_bearsLaw_0 18 rfl
theorem dX0_bearsLaw_33 : decode cX0_bearsLaw 33 = .ok (.iconst 1, 1) := dcO tk_X0_bearsLaw_0 19 rfl
theorem dX0_bearsLaw_34 : decode cX0_bearsLaw 34 = .ok (.ireturn, 1) := dcO tk_X0_bearsLaw_0 20 rfl
theorem dX0_bearsLaw_35 : decode cX0_bearsLaw 35 = .ok (.iinc 4 1, 3) := dcO tk_X0_bearsLaw_0 21 rfl
theorem dX0_bearsLaw_38 : decode cX0_bearsLaw 38 = .ok (.goto (-35), 3) := dcO tk_X0_bearsLaw_0 22 rfl
theorem dX0_bearsLaw_41 : decode cX0_bearsLaw 41 = .ok (.iconst 0, 1) := dcO tk_X0_bearsLaw_0 23 rfl
theorem dX0_bearsLaw_42 : decode cX0_bearsLaw 42 = .ok (.ireturn, 1) := dcO tk_X0_bearsLaw_0 24 rfl
abbrev tb_X0_farthestStart_0 : List (Nat × Instr × Nat) := [(0, .aload_n 0, 1), (1, .aload_n 1, 1), (2, .invokevirtual 32, 3), (5, .aload_n 1, 1), (6, .getfield 54, 3), (9, .iload_n 2, 1), (10, .iaload, 1), (11, .istore 4, 2), (13, .iconst 0, 1), (14, .istore 5, 2), (16, .iconst 0, 1), (17, .istore 6, 2), (19, .iload 6, 2), (21, .bipush 81, 2), (23, .if_icmp .ge 55, 3), (26, .aload_n 0, 1), (27, .getfield 21, 3), (30, .iload_n 2, 1), (31, .iload 6, 2), (33, .invokevirtual 61, 3), (36, .istore 7, 2), (38, .iload 7, 2), (40, .iload 5, 2), (42, .if_icmp .le 30, 3), (45, .iload 7, 2), (47, .bipush 99, 2), (49, .if_icmp .ge 23, 3), (52, .aload_n 0, 1), (53, .aload_n 1, 1), (54, .iload_n 2, 1), (55, .iload 6, 2), (57, .iload_n 3, 1), (58, .invokevirtual 97, 3), (61, .ifCond .eq 11, 3), (64, .iload 7, 2), (66, .istore 5, 2), (68, .iload 6, 2), (70, .istore 4, 2), (72, .iinc 6 1, 3), (75, .goto (-56), 3)]
theorem tk_X0_farthestStart_0 : dcA cX0_farthestStart tb_X0_farthestStart_0 = true := by decide +kernel
theorem dX0_farthestStart_0 : decode cX0_farthestStart 0 = .ok (.aload_n 0, 1) := dcO tk_X0_farthestStart_0 0 rfl
theorem dX0_farthestStart_1 : decode cX0_farthestStart 1 = .ok (.aload_n 1, 1) := dcO tk_X0_farthestStart_0 1 rfl
theorem dX0_farthestStart_2 : decode cX0_farthestStart 2 = .ok (.invokevirtual 32, 3) := dcO tk_X0_farthestStart_0 2 rfl
theorem dX0_farthestStart_5 : decode cX0_farthestStart 5 = .ok (.aload_n 1, 1) := dcO tk_X0_farthestStart_0 3 rfl
theorem dX0_farthestStart_6 : decode cX0_farthestStart 6 = .ok (.getfield 54, 3) := dcO tk_X0_farthestStart_0 4 rfl
theorem dX0_farthestStart_9 : decode cX0_farthestStart 9 = .ok (.iload_n 2, 1) := dcO tk_X0_farthestStart_0 5 rfl
theorem dX0_farthestStart_10 : decode cX0_farthestStart 10 = .ok (.iaload, 1) := dcO tk_X0_farthestStart_0 6 rfl
theorem dX0_farthestStart_11 : decode cX0_farthestStart 11 = .ok (.istore 4, 2) := dcO tk_X0_farthestStart_0 7 rfl
theorem dX0_farthestStart_13 : decode cX0_farthestStart 13 = .ok (.iconst 0, 1) := dcO tk_X0_farthestStart_0 8 rfl
theorem dX0_farthestStart_14 : decode cX0_farthestStart 14 = .ok (.istore 5, 2) := dcO tk_X0_farthestStart_0 9 rfl
theorem dX0_farthestStart_16 : decode cX0_farthestStart 16 = .ok (.iconst 0, 1) := dcO tk_X0_farthestStart_0 10 rfl
theorem dX0_farthestStart_17 : decode cX0_farthestStart 17 = .ok (.istore 6, 2) := dcO tk_X0_farthestStart_0 11 rfl
theorem dX0_farthestStart_19 : decode cX0_farthestStart 19 = .ok (.iload 6, 2) := dcO tk_X0_farthestStart_0 12 rfl
theorem dX0_farthestStart_21 : decode cX0_farthestStart 21 = .ok (.bipush 81, 2) := dcO tk_X0_farthestStart_0 13 rfl
theorem dX0_farthestStart_23 : decode cX0_farthestStart 23 = .ok (.if_icmp .ge 55, 3) := dcO tk_X0_farthestStart_0 14 rfl
theorem dX0_farthestStart_26 : decode cX0_farthestStart 26 = .ok (.aload_n 0, 1) := dcO tk_X0_farthestStart_0 15 rfl
theorem dX0_farthestStart_27 : decode cX0_farthestStart 27 = .ok (.getfield 21, 3) := dcO tk_X0_farthestStart_0 16 rfl
theorem dX0_farthestStart_30 : decode cX0_farthestStart 30 = .ok (.iload_n 2, 1) := dcO tk_X0_farthestStart_0 17 rfl
theorem dX0_farthestStart_31 : decode cX0_farthestStart 31 = .ok (.iload 6, 2) := dcO tk_X0_farthestStart_0 18 rfl
theorem dX0_farthestStart_33 : decode cX0_farthestStart 33 = .ok (.invokevirtual 61, 3) := dcO tk_X0_farthestStart_0 19 rfl
theorem dX0_farthestStart_36 : decode cX0_farthestStart 36 = .ok (.istore 7, 2) := dcO tk_X0_farthestStart_0 20 rfl
theorem dX0_farthestStart_38 : decode cX0_farthestStart 38 = .ok (.iload 7, 2) := dcO tk_X0_farthestStart_0 21 rfl
theorem dX0_farthestStart_40 : decode cX0_farthestStart 40 = .ok (.iload 5, 2) := dcO tk_X0_farthestStart_0 22 rfl
theorem dX0_farthestStart_42 : decode cX0_farthestStart 42 = .ok (.if_icmp .le 30, 3) := dcO tk_X0_farthestStart_0 23 rfl
theorem dX0_farthestStart_45 : decode cX0_farthestStart 45 = .ok (.iload 7, 2) := dcO tk_X0_farthestStart_0 24 rfl
theorem dX0_farthestStart_47 : decode cX0_farthestStart 47 = .ok (.bipush 99, 2) := dcO tk_X0_farthestStart_0 25 rfl
theorem dX0_farthestStart_49 : decode cX0_farthestStart 49 = .ok (.if_icmp .ge 23, 3) := dcO tk_X0_farthestStart_0 26 rfl
theorem dX0_farthestStart_52 : decode cX0_farthestStart 52 = .ok (.aload_n 0, 1) := dcO tk_X0_farthestStart_0 27 rfl
theorem dX0_farthestStart_53 : decode cX0_farthestStart 53 = .ok (.aload_n 1, 1) := dcO tk_X0_farthestStart_0 28 rfl
theorem dX0_farthestStart_54 : decode cX0_farthestStart 54 = .ok (.iload_n 2, 1) := dcO tk_X0_farthestStart_0 29 rfl
theorem dX0_farthestStart_55 : decode cX0_farthestStart 55 = .ok (.iload 6, 2) := dcO tk_X0_farthestStart_0 30 rfl
theorem dX0_farthestStart_57 : decode cX0_farthestStart 57 = .ok (.iload_n 3, 1) := dcO tk_X0_farthestStart_0 31 rfl
theorem dX0_farthestStart_58 : decode cX0_farthestStart 58 = .ok (.invokevirtual 97, 3) := dcO tk_X0_farthestStart_0 32 rfl
theorem dX0_farthestStart_61 : decode cX0_farthestStart 61 = .ok (.ifCond .eq 11, 3) := dcO tk_X0_farthestStart_0 33 rfl
theorem dX0_farthestStart_64 : decode cX0_farthestStart 64 = .ok (.iload 7, 2) := dcO tk_X0_farthestStart_0 34 rfl
theorem dX0_farthestStart_66 : decode cX0_farthestStart 66 = .ok (.istore 5, 2) := dcO tk_X0_farthestStart_0 35 rfl
theorem dX0_farthestStart_68 : decode cX0_farthestStart 68 = .ok (.iload 6, 2) := dcO tk_X0_farthestStart_0 36 rfl
theorem dX0_farthestStart_70 : decode cX0_farthestStart 70 = .ok (.istore 4, 2) := dcO tk_X0_farthestStart_0 37 rfl
theorem dX0_farthestStart_72 : decode cX0_farthestStart 72 = .ok (.iinc 6 1, 3) := dcO tk_X0_farthestStart_0 38 rfl
theorem dX0_farthestStart_75 : decode cX0_farthestStart 75 = .ok (.goto (-56), 3) := dcO tk_X0_farthestStart_0 39 rfl
abbrev tb_X0_farthestStart_1 : List (Nat × Instr × Nat) := [(78, .iload 4, 2), (80, .ireturn, 1)]
theorem tk_X0_farthestStart_1 : dcA cX0_farthestStart tb_X0_farthestStart_1 = true := by decide +kernel
theorem dX0_farthestStart_78 : decode cX0_farthestStart 78 = .ok (.iload 4, 2) := dcO tk_X0_farthestStart_1 0 rfl
theorem dX0_farthestStart_80 : decode cX0_farthestStart 80 = .ok (.ireturn, 1) := dcO tk_X0_farthestStart_1 1 rfl
abbrev tb_X0_arrivesFrom_0 : List (Nat × Instr × Nat) := [(0, .aload_n 0, 1), (1, .getfield 12, 3), (4, .aload_n 1, 1), (5, .invokevirtual 25, 3), (8, .aload_n 0, 1), (9, .getfield 12, 3), (12, .getfield 51, 3), (15, .iload_n 2, 1), (16, .iload_n 3, 1), (17, .iastore, 1), (18, .iconst 0, 1), (19, .istore 5, 2), (21, .iload 5, 2), (23, .iload 4, 2), (25, .if_icmp .ge 34, 3), (28, .aload_n 0, 1), (29, .getfield 12, 3), (32, .getfield 51, 3), (35, .iload_n 2, 1), (36, .iaload, 1), (37, .aload_n 0, 1), (38, .getfield 12, 3), (41, .getfield 54, 3), (44, .iload_n 2, 1), (45, .iaload, 1), (46, .if_icmp .eq 13, 3), (49, .aload_n 0, 1), (50, .invokevirtual 45, 3), (53, .iinc 5 1, 3), (56, .goto (-35), 3), (59, .aload_n 0, 1), (60, .getfield 12, 3), (63, .getfield 51, 3), (66, .iload_n 2, 1), (67, .iaload, 1), (68, .aload_n 0, 1), (69, .getfield 12, 3), (72, .getfield 54, 3), (75, .iload_n 2, 1), (76, .iaload, 1)]
theorem tk_X0_arrivesFrom_0 : dcA cX0_arrivesFrom tb_X0_arrivesFrom_0 = true := by decide +kernel
theorem dX0_arrivesFrom_0 : decode cX0_arrivesFrom 0 = .ok (.aload_n 0, 1) := dcO tk_X0_arrivesFrom_0 0 rfl
theorem dX0_arrivesFrom_1 : decode cX0_arrivesFrom 1 = .ok (.getfield 12, 3) := dcO tk_X0_arrivesFrom_0 1 rfl
theorem dX0_arrivesFrom_4 : decode cX0_arrivesFrom 4 = .ok (.aload_n 1, 1) := dcO tk_X0_arrivesFrom_0 2 rfl
theorem dX0_arrivesFrom_5 : decode cX0_arrivesFrom 5 = .ok (.invokevirtual 25, 3) := dcO tk_X0_arrivesFrom_0 3 rfl
theorem dX0_arrivesFrom_8 : decode cX0_arrivesFrom 8 = .ok (.aload_n 0, 1) := dcO tk_X0_arrivesFrom_0 4 rfl
theorem dX0_arrivesFrom_9 : decode cX0_arrivesFrom 9 = .ok (.getfield 12, 3) := dcO tk_X0_arrivesFrom_0 5 rfl
theorem dX0_arrivesFrom_12 : decode cX0_arrivesFrom 12 = .ok (.getfield 51, 3) := dcO tk_X0_arrivesFrom_0 6 rfl
theorem dX0_arrivesFrom_15 : decode cX0_arrivesFrom 15 = .ok (.iload_n 2, 1) := dcO tk_X0_arrivesFrom_0 7 rfl
theorem dX0_arrivesFrom_16 : decode cX0_arrivesFrom 16 = .ok (.iload_n 3, 1) := dcO tk_X0_arrivesFrom_0 8 rfl
theorem dX0_arrivesFrom_17 : decode cX0_arrivesFrom 17 = .ok (.iastore, 1) := dcO tk_X0_arrivesFrom_0 9 rfl
theorem dX0_arrivesFrom_18 : decode cX0_arrivesFrom 18 = .ok (.iconst 0, 1) := dcO tk_X0_arrivesFrom_0 10 rfl
theorem dX0_arrivesFrom_19 : decode cX0_arrivesFrom 19 = .ok (.istore 5, 2) := dcO tk_X0_arrivesFrom_0 11 rfl
theorem dX0_arrivesFrom_21 : decode cX0_arrivesFrom 21 = .ok (.iload 5, 2) := dcO tk_X0_arrivesFrom_0 12 rfl
theorem dX0_arrivesFrom_23 : decode cX0_arrivesFrom 23 = .ok (.iload 4, 2) := dcO tk_X0_arrivesFrom_0 13 rfl
theorem dX0_arrivesFrom_25 : decode cX0_arrivesFrom 25 = .ok (.if_icmp .ge 34, 3) := dcO tk_X0_arrivesFrom_0 14 rfl
theorem dX0_arrivesFrom_28 : decode cX0_arrivesFrom 28 = .ok (.aload_n 0, 1) := dcO tk_X0_arrivesFrom_0 15 rfl
theorem dX0_arrivesFrom_29 : decode cX0_arrivesFrom 29 = .ok (.getfield 12, 3) := dcO tk_X0_arrivesFrom_0 16 rfl
theorem dX0_arrivesFrom_32 : decode cX0_arrivesFrom 32 = .ok (.getfield 51, 3) := dcO tk_X0_arrivesFrom_0 17 rfl
theorem dX0_arrivesFrom_35 : decode cX0_arrivesFrom 35 = .ok (.iload_n 2, 1) := dcO tk_X0_arrivesFrom_0 18 rfl
theorem dX0_arrivesFrom_36 : decode cX0_arrivesFrom 36 = .ok (.iaload, 1) := dcO tk_X0_arrivesFrom_0 19 rfl
theorem dX0_arrivesFrom_37 : decode cX0_arrivesFrom 37 = .ok (.aload_n 0, 1) := dcO tk_X0_arrivesFrom_0 20 rfl
theorem dX0_arrivesFrom_38 : decode cX0_arrivesFrom 38 = .ok (.getfield 12, 3) := dcO tk_X0_arrivesFrom_0 21 rfl
theorem dX0_arrivesFrom_41 : decode cX0_arrivesFrom 41 = .ok (.getfield 54, 3) := dcO tk_X0_arrivesFrom_0 22 rfl
theorem dX0_arrivesFrom_44 : decode cX0_arrivesFrom 44 = .ok (.iload_n 2, 1) := dcO tk_X0_arrivesFrom_0 23 rfl
theorem dX0_arrivesFrom_45 : decode cX0_arrivesFrom 45 = .ok (.iaload, 1) := dcO tk_X0_arrivesFrom_0 24 rfl
theorem dX0_arrivesFrom_46 : decode cX0_arrivesFrom 46 = .ok (.if_icmp .eq 13, 3) := dcO tk_X0_arrivesFrom_0 25 rfl
theorem dX0_arrivesFrom_49 : decode cX0_arrivesFrom 49 = .ok (.aload_n 0, 1) := dcO tk_X0_arrivesFrom_0 26 rfl
theorem dX0_arrivesFrom_50 : decode cX0_arrivesFrom 50 = .ok (.invokevirtual 45, 3) := dcO tk_X0_arrivesFrom_0 27 rfl
theorem dX0_arrivesFrom_53 : decode cX0_arrivesFrom 53 = .ok (.iinc 5 1, 3) := dcO tk_X0_arrivesFrom_0 28 rfl
theorem dX0_arrivesFrom_56 : decode cX0_arrivesFrom 56 = .ok (.goto (-35), 3) := dcO tk_X0_arrivesFrom_0 29 rfl
theorem dX0_arrivesFrom_59 : decode cX0_arrivesFrom 59 = .ok (.aload_n 0, 1) := dcO tk_X0_arrivesFrom_0 30 rfl
theorem dX0_arrivesFrom_60 : decode cX0_arrivesFrom 60 = .ok (.getfield 12, 3) := dcO tk_X0_arrivesFrom_0 31 rfl
theorem dX0_arrivesFrom_63 : decode cX0_arrivesFrom 63 = .ok (.getfield 51, 3) := dcO tk_X0_arrivesFrom_0 32 rfl
theorem dX0_arrivesFrom_66 : decode cX0_arrivesFrom 66 = .ok (.iload_n 2, 1) := dcO tk_X0_arrivesFrom_0 33 rfl
theorem dX0_arrivesFrom_67 : decode cX0_arrivesFrom 67 = .ok (.iaload, 1) := dcO tk_X0_arrivesFrom_0 34 rfl
theorem dX0_arrivesFrom_68 : decode cX0_arrivesFrom 68 = .ok (.aload_n 0, 1) := dcO tk_X0_arrivesFrom_0 35 rfl
theorem dX0_arrivesFrom_69 : decode cX0_arrivesFrom 69 = .ok (.getfield 12, 3) := dcO tk_X0_arrivesFrom_0 36 rfl
theorem dX0_arrivesFrom_72 : decode cX0_arrivesFrom 72 = .ok (.getfield 54, 3) := dcO tk_X0_arrivesFrom_0 37 rfl
theorem dX0_arrivesFrom_75 : decode cX0_arrivesFrom 75 = .ok (.iload_n 2, 1) := dcO tk_X0_arrivesFrom_0 38 rfl
theorem dX0_arrivesFrom_76 : decode cX0_arrivesFrom 76 = .ok (.iaload, 1) := dcO tk_X0_arrivesFrom_0 39 rfl
abbrev tb_X0_arrivesFrom_1 : List (Nat × Instr × Nat) := [(77, .if_icmp .ne 7, 3), (80, .iconst 1, 1), (81, .goto 4, 3), (84, .iconst 0, 1), (85, .ireturn, 1)]
theorem tk_X0_arrivesFrom_1 : dcA cX0_arrivesFrom tb_X0_arrivesFrom_1 = true := by decide +kernel
theorem dX0_arrivesFrom_77 : decode cX0_arrivesFrom 77 = .ok (.if_icmp .ne 7, 3) := dcO tk_X0_arrivesFrom_1 0 rfl
theorem dX0_arrivesFrom_80 : decode cX0_arrivesFrom 80 = .ok (.iconst 1, 1) := dcO tk_X0_arrivesFrom_1 1 rfl
theorem dX0_arrivesFrom_81 : decode cX0_arrivesFrom 81 = .ok (.goto 4, 3) := dcO tk_X0_arrivesFrom_1 2 rfl
theorem dX0_arrivesFrom_84 : decode cX0_arrivesFrom 84 = .ok (.iconst 0, 1) := dcO tk_X0_arrivesFrom_1 3 rfl
theorem dX0_arrivesFrom_85 : decode cX0_arrivesFrom 85 = .ok (.ireturn, 1) := dcO tk_X0_arrivesFrom_1 4 rfl
abbrev tb_X0_leavesTrail_0 : List (Nat × Instr × Nat) := [(0, .aload_n 0, 1), (1, .getfield 12, 3), (4, .aload_n 1, 1), (5, .invokevirtual 25, 3), (8, .aload_n 0, 1), (9, .getfield 12, 3), (12, .getfield 51, 3), (15, .iload_n 2, 1), (16, .iload_n 3, 1), (17, .iastore, 1), (18, .iconst 0, 1), (19, .istore 6, 2), (21, .iload 6, 2), (23, .aload 4, 2), (25, .getfield 101, 3), (28, .iload 5, 2), (30, .iaload, 1), (31, .if_icmp .ge 51, 3), (34, .iload 6, 2), (36, .ifCond .le 7, 3), (39, .aload_n 0, 1), (40, .invokevirtual 45, 3), (43, .aload 4, 2), (45, .iload 5, 2), (47, .iload 6, 2), (49, .invokevirtual 106, 3), (52, .istore 7, 2), (54, .iload 7, 2), (56, .iconst (-1), 1), (57, .if_icmp .eq 19, 3), (60, .iload 7, 2), (62, .aload_n 0, 1), (63, .getfield 12, 3), (66, .getfield 51, 3), (69, .iload_n 2, 1), (70, .iaload, 1), (71, .if_icmp .eq 5, 3), (74, .iconst 0, 1), (75, .ireturn, 1), (76, .iinc 6 1, 3)]
theorem tk_X0_leavesTrail_0 : dcA cX0_leavesTrail tb_X0_leavesTrail_0 = true := by decide +kernel
theorem dX0_leavesTrail_0 : decode cX0_leavesTrail 0 = .ok (.aload_n 0, 1) := dcO tk_X0_leavesTrail_0 0 rfl
theorem dX0_leavesTrail_1 : decode cX0_leavesTrail 1 = .ok (.getfield 12, 3) := dcO tk_X0_leavesTrail_0 1 rfl
theorem dX0_leavesTrail_4 : decode cX0_leavesTrail 4 = .ok (.aload_n 1, 1) := dcO tk_X0_leavesTrail_0 2 rfl
theorem dX0_leavesTrail_5 : decode cX0_leavesTrail 5 = .ok (.invokevirtual 25, 3) := dcO tk_X0_leavesTrail_0 3 rfl
theorem dX0_leavesTrail_8 : decode cX0_leavesTrail 8 = .ok (.aload_n 0, 1) := dcO tk_X0_leavesTrail_0 4 rfl
theorem dX0_leavesTrail_9 : decode cX0_leavesTrail 9 = .ok (.getfield 12, 3) := dcO tk_X0_leavesTrail_0 5 rfl
theorem dX0_leavesTrail_12 : decode cX0_leavesTrail 12 = .ok (.getfield 51, 3) := dcO tk_X0_leavesTrail_0 6 rfl
theorem dX0_leavesTrail_15 : decode cX0_leavesTrail 15 = .ok (.iload_n 2, 1) := dcO tk_X0_leavesTrail_0 7 rfl
theorem dX0_leavesTrail_16 : decode cX0_leavesTrail 16 = .ok (.iload_n 3, 1) := dcO tk_X0_leavesTrail_0 8 rfl
theorem dX0_leavesTrail_17 : decode cX0_leavesTrail 17 = .ok (.iastore, 1) := dcO tk_X0_leavesTrail_0 9 rfl
theorem dX0_leavesTrail_18 : decode cX0_leavesTrail 18 = .ok (.iconst 0, 1) := dcO tk_X0_leavesTrail_0 10 rfl
theorem dX0_leavesTrail_19 : decode cX0_leavesTrail 19 = .ok (.istore 6, 2) := dcO tk_X0_leavesTrail_0 11 rfl
theorem dX0_leavesTrail_21 : decode cX0_leavesTrail 21 = .ok (.iload 6, 2) := dcO tk_X0_leavesTrail_0 12 rfl
theorem dX0_leavesTrail_23 : decode cX0_leavesTrail 23 = .ok (.aload 4, 2) := dcO tk_X0_leavesTrail_0 13 rfl
theorem dX0_leavesTrail_25 : decode cX0_leavesTrail 25 = .ok (.getfield 101, 3) := dcO tk_X0_leavesTrail_0 14 rfl
theorem dX0_leavesTrail_28 : decode cX0_leavesTrail 28 = .ok (.iload 5, 2) := dcO tk_X0_leavesTrail_0 15 rfl
theorem dX0_leavesTrail_30 : decode cX0_leavesTrail 30 = .ok (.iaload, 1) := dcO tk_X0_leavesTrail_0 16 rfl
theorem dX0_leavesTrail_31 : decode cX0_leavesTrail 31 = .ok (.if_icmp .ge 51, 3) := dcO tk_X0_leavesTrail_0 17 rfl
theorem dX0_leavesTrail_34 : decode cX0_leavesTrail 34 = .ok (.iload 6, 2) := dcO tk_X0_leavesTrail_0 18 rfl
theorem dX0_leavesTrail_36 : decode cX0_leavesTrail 36 = .ok (.ifCond .le 7, 3) := dcO tk_X0_leavesTrail_0 19 rfl
theorem dX0_leavesTrail_39 : decode cX0_leavesTrail 39 = .ok (.aload_n 0, 1) := dcO tk_X0_leavesTrail_0 20 rfl
theorem dX0_leavesTrail_40 : decode cX0_leavesTrail 40 = .ok (.invokevirtual 45, 3) := dcO tk_X0_leavesTrail_0 21 rfl
theorem dX0_leavesTrail_43 : decode cX0_leavesTrail 43 = .ok (.aload 4, 2) := dcO tk_X0_leavesTrail_0 22 rfl
theorem dX0_leavesTrail_45 : decode cX0_leavesTrail 45 = .ok (.iload 5, 2) := dcO tk_X0_leavesTrail_0 23 rfl
theorem dX0_leavesTrail_47 : decode cX0_leavesTrail 47 = .ok (.iload 6, 2) := dcO tk_X0_leavesTrail_0 24 rfl
theorem dX0_leavesTrail_49 : decode cX0_leavesTrail 49 = .ok (.invokevirtual 106, 3) := dcO tk_X0_leavesTrail_0 25 rfl
theorem dX0_leavesTrail_52 : decode cX0_leavesTrail 52 = .ok (.istore 7, 2) := dcO tk_X0_leavesTrail_0 26 rfl
theorem dX0_leavesTrail_54 : decode cX0_leavesTrail 54 = .ok (.iload 7, 2) := dcO tk_X0_leavesTrail_0 27 rfl
theorem dX0_leavesTrail_56 : decode cX0_leavesTrail 56 = .ok (.iconst (-1), 1) := dcO tk_X0_leavesTrail_0 28 rfl
theorem dX0_leavesTrail_57 : decode cX0_leavesTrail 57 = .ok (.if_icmp .eq 19, 3) := dcO tk_X0_leavesTrail_0 29 rfl
theorem dX0_leavesTrail_60 : decode cX0_leavesTrail 60 = .ok (.iload 7, 2) := dcO tk_X0_leavesTrail_0 30 rfl
theorem dX0_leavesTrail_62 : decode cX0_leavesTrail 62 = .ok (.aload_n 0, 1) := dcO tk_X0_leavesTrail_0 31 rfl
theorem dX0_leavesTrail_63 : decode cX0_leavesTrail 63 = .ok (.getfield 12, 3) := dcO tk_X0_leavesTrail_0 32 rfl
theorem dX0_leavesTrail_66 : decode cX0_leavesTrail 66 = .ok (.getfield 51, 3) := dcO tk_X0_leavesTrail_0 33 rfl
theorem dX0_leavesTrail_69 : decode cX0_leavesTrail 69 = .ok (.iload_n 2, 1) := dcO tk_X0_leavesTrail_0 34 rfl
theorem dX0_leavesTrail_70 : decode cX0_leavesTrail 70 = .ok (.iaload, 1) := dcO tk_X0_leavesTrail_0 35 rfl
theorem dX0_leavesTrail_71 : decode cX0_leavesTrail 71 = .ok (.if_icmp .eq 5, 3) := dcO tk_X0_leavesTrail_0 36 rfl
theorem dX0_leavesTrail_74 : decode cX0_leavesTrail 74 = .ok (.iconst 0, 1) := dcO tk_X0_leavesTrail_0 37 rfl
theorem dX0_leavesTrail_75 : decode cX0_leavesTrail 75 = .ok (.ireturn, 1) := dcO tk_X0_leavesTrail_0 38 rfl
theorem dX0_leavesTrail_76 : decode cX0_leavesTrail 76 = .ok (.iinc 6 1, 3) := dcO tk_X0_leavesTrail_0 39 rfl
abbrev tb_X0_leavesTrail_1 : List (Nat × Instr × Nat) := [(79, .goto (-58), 3), (82, .iconst 1, 1), (83, .ireturn, 1)]
theorem tk_X0_leavesTrail_1 : dcA cX0_leavesTrail tb_X0_leavesTrail_1 = true := by decide +kernel
theorem dX0_leavesTrail_79 : decode cX0_leavesTrail 79 = .ok (.goto (-58), 3) := dcO tk_X0_leavesTrail_1 0 rfl
theorem dX0_leavesTrail_82 : decode cX0_leavesTrail 82 = .ok (.iconst 1, 1) := dcO tk_X0_leavesTrail_1 1 rfl
theorem dX0_leavesTrail_83 : decode cX0_leavesTrail 83 = .ok (.ireturn, 1) := dcO tk_X0_leavesTrail_1 2 rfl
abbrev tb_X1_init_0 : List (Nat × Instr × Nat) := [(0, .aload_n 0, 1), (1, .invokespecial 3, 3), (4, .aload_n 0, 1), (5, .bipush 81, 2), (7, .newarray .int, 2), (9, .putfield 9, 3), (12, .aload_n 0, 1), (13, .bipush 81, 2), (15, .newarray .int, 2), (17, .putfield 15, 3), (20, .aload_n 0, 1), (21, .bipush 81, 2), (23, .newarray .int, 2), (25, .putfield 18, 3), (28, .aload_n 0, 1), (29, .bipush 81, 2), (31, .newarray .int, 2), (33, .putfield 21, 3), (36, .aload_n 0, 1), (37, .bipush 8, 2), (39, .newarray .int, 2), (41, .putfield 24, 3), (44, .aload_n 0, 1), (45, .bipush 8, 2), (47, .newarray .int, 2), (49, .putfield 27, 3), (52, .aload_n 0, 1), (53, .bipush 8, 2), (55, .newarray .int, 2), (57, .putfield 30, 3), (60, .aload_n 0, 1), (61, .bipush 8, 2), (63, .newarray .int, 2), (65, .putfield 33, 3), (68, .aload_n 0, 1), (69, .bipush 8, 2), (71, .newarray .int, 2), (73, .putfield 36, 3), (76, .aload_n 0, 1), (77, .bipush 8, 2)]
theorem tk_X1_init_0 : dcA cX1_init tb_X1_init_0 = true := by decide +kernel
theorem dX1_init_0 : decode cX1_init 0 = .ok (.aload_n 0, 1) := dcO tk_X1_init_0 0 rfl
theorem dX1_init_1 : decode cX1_init 1 = .ok (.invokespecial 3, 3) := dcO tk_X1_init_0 1 rfl
theorem dX1_init_4 : decode cX1_init 4 = .ok (.aload_n 0, 1) := dcO tk_X1_init_0 2 rfl
theorem dX1_init_5 : decode cX1_init 5 = .ok (.bipush 81, 2) := dcO tk_X1_init_0 3 rfl
theorem dX1_init_7 : decode cX1_init 7 = .ok (.newarray .int, 2) := dcO tk_X1_init_0 4 rfl
theorem dX1_init_9 : decode cX1_init 9 = .ok (.putfield 9, 3) := dcO tk_X1_init_0 5 rfl
theorem dX1_init_12 : decode cX1_init 12 = .ok (.aload_n 0, 1) := dcO tk_X1_init_0 6 rfl
theorem dX1_init_13 : decode cX1_init 13 = .ok (.bipush 81, 2) := dcO tk_X1_init_0 7 rfl
theorem dX1_init_15 : decode cX1_init 15 = .ok (.newarray .int, 2) := dcO tk_X1_init_0 8 rfl
theorem dX1_init_17 : decode cX1_init 17 = .ok (.putfield 15, 3) := dcO tk_X1_init_0 9 rfl
theorem dX1_init_20 : decode cX1_init 20 = .ok (.aload_n 0, 1) := dcO tk_X1_init_0 10 rfl
theorem dX1_init_21 : decode cX1_init 21 = .ok (.bipush 81, 2) := dcO tk_X1_init_0 11 rfl
theorem dX1_init_23 : decode cX1_init 23 = .ok (.newarray .int, 2) := dcO tk_X1_init_0 12 rfl
theorem dX1_init_25 : decode cX1_init 25 = .ok (.putfield 18, 3) := dcO tk_X1_init_0 13 rfl
theorem dX1_init_28 : decode cX1_init 28 = .ok (.aload_n 0, 1) := dcO tk_X1_init_0 14 rfl
theorem dX1_init_29 : decode cX1_init 29 = .ok (.bipush 81, 2) := dcO tk_X1_init_0 15 rfl
theorem dX1_init_31 : decode cX1_init 31 = .ok (.newarray .int, 2) := dcO tk_X1_init_0 16 rfl
theorem dX1_init_33 : decode cX1_init 33 = .ok (.putfield 21, 3) := dcO tk_X1_init_0 17 rfl
theorem dX1_init_36 : decode cX1_init 36 = .ok (.aload_n 0, 1) := dcO tk_X1_init_0 18 rfl
theorem dX1_init_37 : decode cX1_init 37 = .ok (.bipush 8, 2) := dcO tk_X1_init_0 19 rfl
theorem dX1_init_39 : decode cX1_init 39 = .ok (.newarray .int, 2) := dcO tk_X1_init_0 20 rfl
theorem dX1_init_41 : decode cX1_init 41 = .ok (.putfield 24, 3) := dcO tk_X1_init_0 21 rfl
theorem dX1_init_44 : decode cX1_init 44 = .ok (.aload_n 0, 1) := dcO tk_X1_init_0 22 rfl
theorem dX1_init_45 : decode cX1_init 45 = .ok (.bipush 8, 2) := dcO tk_X1_init_0 23 rfl
theorem dX1_init_47 : decode cX1_init 47 = .ok (.newarray .int, 2) := dcO tk_X1_init_0 24 rfl
theorem dX1_init_49 : decode cX1_init 49 = .ok (.putfield 27, 3) := dcO tk_X1_init_0 25 rfl
theorem dX1_init_52 : decode cX1_init 52 = .ok (.aload_n 0, 1) := dcO tk_X1_init_0 26 rfl
theorem dX1_init_53 : decode cX1_init 53 = .ok (.bipush 8, 2) := dcO tk_X1_init_0 27 rfl
theorem dX1_init_55 : decode cX1_init 55 = .ok (.newarray .int, 2) := dcO tk_X1_init_0 28 rfl
theorem dX1_init_57 : decode cX1_init 57 = .ok (.putfield 30, 3) := dcO tk_X1_init_0 29 rfl
theorem dX1_init_60 : decode cX1_init 60 = .ok (.aload_n 0, 1) := dcO tk_X1_init_0 30 rfl
theorem dX1_init_61 : decode cX1_init 61 = .ok (.bipush 8, 2) := dcO tk_X1_init_0 31 rfl
theorem dX1_init_63 : decode cX1_init 63 = .ok (.newarray .int, 2) := dcO tk_X1_init_0 32 rfl
theorem dX1_init_65 : decode cX1_init 65 = .ok (.putfield 33, 3) := dcO tk_X1_init_0 33 rfl
theorem dX1_init_68 : decode cX1_init 68 = .ok (.aload_n 0, 1) := dcO tk_X1_init_0 34 rfl
theorem dX1_init_69 : decode cX1_init 69 = .ok (.bipush 8, 2) := dcO tk_X1_init_0 35 rfl
theorem dX1_init_71 : decode cX1_init 71 = .ok (.newarray .int, 2) := dcO tk_X1_init_0 36 rfl
theorem dX1_init_73 : decode cX1_init 73 = .ok (.putfield 36, 3) := dcO tk_X1_init_0 37 rfl
theorem dX1_init_76 : decode cX1_init 76 = .ok (.aload_n 0, 1) := dcO tk_X1_init_0 38 rfl
theorem dX1_init_77 : decode cX1_init 77 = .ok (.bipush 8, 2) := dcO tk_X1_init_0 39 rfl
abbrev tb_X1_init_1 : List (Nat × Instr × Nat) := [(79, .newarray .int, 2), (81, .putfield 39, 3), (84, .aload_n 0, 1), (85, .bipush 10, 2), (87, .newarray .int, 2), (89, .putfield 42, 3), (92, .aload_n 0, 1), (93, .iconst 0, 1), (94, .putfield 45, 3), (97, .aload_n 0, 1), (98, .iconst 5, 1), (99, .putfield 49, 3), (102, .aload_n 0, 1), (103, .iconst 1, 1), (104, .putfield 52, 3), (107, .aload_n 0, 1), (108, .iconst 0, 1), (109, .putfield 55, 3), (112, .aload_n 0, 1), (113, .iconst 0, 1), (114, .putfield 58, 3), (117, .aload_n 0, 1), (118, .iconst 1, 1), (119, .putfield 61, 3), (122, .aload_n 0, 1), (123, .getfield 18, 3), (126, .iconst (-1), 1), (127, .invokestatic 64, 3), (130, .aload_n 0, 1), (131, .getfield 42, 3), (134, .iconst (-1), 1), (135, .invokestatic 64, 3), (138, .return_, 1)]
theorem tk_X1_init_1 : dcA cX1_init tb_X1_init_1 = true := by decide +kernel
theorem dX1_init_79 : decode cX1_init 79 = .ok (.newarray .int, 2) := dcO tk_X1_init_1 0 rfl
theorem dX1_init_81 : decode cX1_init 81 = .ok (.putfield 39, 3) := dcO tk_X1_init_1 1 rfl
theorem dX1_init_84 : decode cX1_init 84 = .ok (.aload_n 0, 1) := dcO tk_X1_init_1 2 rfl
theorem dX1_init_85 : decode cX1_init 85 = .ok (.bipush 10, 2) := dcO tk_X1_init_1 3 rfl
theorem dX1_init_87 : decode cX1_init 87 = .ok (.newarray .int, 2) := dcO tk_X1_init_1 4 rfl
theorem dX1_init_89 : decode cX1_init 89 = .ok (.putfield 42, 3) := dcO tk_X1_init_1 5 rfl
theorem dX1_init_92 : decode cX1_init 92 = .ok (.aload_n 0, 1) := dcO tk_X1_init_1 6 rfl
theorem dX1_init_93 : decode cX1_init 93 = .ok (.iconst 0, 1) := dcO tk_X1_init_1 7 rfl
theorem dX1_init_94 : decode cX1_init 94 = .ok (.putfield 45, 3) := dcO tk_X1_init_1 8 rfl
theorem dX1_init_97 : decode cX1_init 97 = .ok (.aload_n 0, 1) := dcO tk_X1_init_1 9 rfl
theorem dX1_init_98 : decode cX1_init 98 = .ok (.iconst 5, 1) := dcO tk_X1_init_1 10 rfl
theorem dX1_init_99 : decode cX1_init 99 = .ok (.putfield 49, 3) := dcO tk_X1_init_1 11 rfl
theorem dX1_init_102 : decode cX1_init 102 = .ok (.aload_n 0, 1) := dcO tk_X1_init_1 12 rfl
theorem dX1_init_103 : decode cX1_init 103 = .ok (.iconst 1, 1) := dcO tk_X1_init_1 13 rfl
theorem dX1_init_104 : decode cX1_init 104 = .ok (.putfield 52, 3) := dcO tk_X1_init_1 14 rfl
theorem dX1_init_107 : decode cX1_init 107 = .ok (.aload_n 0, 1) := dcO tk_X1_init_1 15 rfl
theorem dX1_init_108 : decode cX1_init 108 = .ok (.iconst 0, 1) := dcO tk_X1_init_1 16 rfl
theorem dX1_init_109 : decode cX1_init 109 = .ok (.putfield 55, 3) := dcO tk_X1_init_1 17 rfl
theorem dX1_init_112 : decode cX1_init 112 = .ok (.aload_n 0, 1) := dcO tk_X1_init_1 18 rfl
theorem dX1_init_113 : decode cX1_init 113 = .ok (.iconst 0, 1) := dcO tk_X1_init_1 19 rfl
theorem dX1_init_114 : decode cX1_init 114 = .ok (.putfield 58, 3) := dcO tk_X1_init_1 20 rfl
theorem dX1_init_117 : decode cX1_init 117 = .ok (.aload_n 0, 1) := dcO tk_X1_init_1 21 rfl
theorem dX1_init_118 : decode cX1_init 118 = .ok (.iconst 1, 1) := dcO tk_X1_init_1 22 rfl
theorem dX1_init_119 : decode cX1_init 119 = .ok (.putfield 61, 3) := dcO tk_X1_init_1 23 rfl
theorem dX1_init_122 : decode cX1_init 122 = .ok (.aload_n 0, 1) := dcO tk_X1_init_1 24 rfl
theorem dX1_init_123 : decode cX1_init 123 = .ok (.getfield 18, 3) := dcO tk_X1_init_1 25 rfl
theorem dX1_init_126 : decode cX1_init 126 = .ok (.iconst (-1), 1) := dcO tk_X1_init_1 26 rfl
theorem dX1_init_127 : decode cX1_init 127 = .ok (.invokestatic 64, 3) := dcO tk_X1_init_1 27 rfl
theorem dX1_init_130 : decode cX1_init 130 = .ok (.aload_n 0, 1) := dcO tk_X1_init_1 28 rfl
theorem dX1_init_131 : decode cX1_init 131 = .ok (.getfield 42, 3) := dcO tk_X1_init_1 29 rfl
theorem dX1_init_134 : decode cX1_init 134 = .ok (.iconst (-1), 1) := dcO tk_X1_init_1 30 rfl
theorem dX1_init_135 : decode cX1_init 135 = .ok (.invokestatic 64, 3) := dcO tk_X1_init_1 31 rfl
theorem dX1_init_138 : decode cX1_init 138 = .ok (.return_, 1) := dcO tk_X1_init_1 32 rfl
abbrev tb_X1_become_0 : List (Nat × Instr × Nat) := [(0, .aload_n 1, 1), (1, .getfield 9, 3), (4, .iconst 0, 1), (5, .aload_n 0, 1), (6, .getfield 9, 3), (9, .iconst 0, 1), (10, .bipush 81, 2), (12, .invokestatic 70, 3), (15, .aload_n 1, 1), (16, .getfield 15, 3), (19, .iconst 0, 1), (20, .aload_n 0, 1), (21, .getfield 15, 3), (24, .iconst 0, 1), (25, .bipush 81, 2), (27, .invokestatic 70, 3), (30, .aload_n 1, 1), (31, .getfield 18, 3), (34, .iconst 0, 1), (35, .aload_n 0, 1), (36, .getfield 18, 3), (39, .iconst 0, 1), (40, .bipush 81, 2), (42, .invokestatic 70, 3), (45, .aload_n 1, 1), (46, .getfield 24, 3), (49, .iconst 0, 1), (50, .aload_n 0, 1), (51, .getfield 24, 3), (54, .iconst 0, 1), (55, .bipush 8, 2), (57, .invokestatic 70, 3), (60, .aload_n 1, 1), (61, .getfield 27, 3), (64, .iconst 0, 1), (65, .aload_n 0, 1), (66, .getfield 27, 3), (69, .iconst 0, 1), (70, .bipush 8, 2), (72, .invokestatic 70, 3)]
theorem tk_X1_become_0 : dcA cX1_become tb_X1_become_0 = true := by decide +kernel
theorem dX1_become_0 : decode cX1_become 0 = .ok (.aload_n 1, 1) := dcO tk_X1_become_0 0 rfl
theorem dX1_become_1 : decode cX1_become 1 = .ok (.getfield 9, 3) := dcO tk_X1_become_0 1 rfl
theorem dX1_become_4 : decode cX1_become 4 = .ok (.iconst 0, 1) := dcO tk_X1_become_0 2 rfl
theorem dX1_become_5 : decode cX1_become 5 = .ok (.aload_n 0, 1) := dcO tk_X1_become_0 3 rfl
theorem dX1_become_6 : decode cX1_become 6 = .ok (.getfield 9, 3) := dcO tk_X1_become_0 4 rfl
theorem dX1_become_9 : decode cX1_become 9 = .ok (.iconst 0, 1) := dcO tk_X1_become_0 5 rfl
theorem dX1_become_10 : decode cX1_become 10 = .ok (.bipush 81, 2) := dcO tk_X1_become_0 6 rfl
theorem dX1_become_12 : decode cX1_become 12 = .ok (.invokestatic 70, 3) := dcO tk_X1_become_0 7 rfl
theorem dX1_become_15 : decode cX1_become 15 = .ok (.aload_n 1, 1) := dcO tk_X1_become_0 8 rfl
theorem dX1_become_16 : decode cX1_become 16 = .ok (.getfield 15, 3) := dcO tk_X1_become_0 9 rfl
theorem dX1_become_19 : decode cX1_become 19 = .ok (.iconst 0, 1) := dcO tk_X1_become_0 10 rfl
theorem dX1_become_20 : decode cX1_become 20 = .ok (.aload_n 0, 1) := dcO tk_X1_become_0 11 rfl
theorem dX1_become_21 : decode cX1_become 21 = .ok (.getfield 15, 3) := dcO tk_X1_become_0 12 rfl
theorem dX1_become_24 : decode cX1_become 24 = .ok (.iconst 0, 1) := dcO tk_X1_become_0 13 rfl
theorem dX1_become_25 : decode cX1_become 25 = .ok (.bipush 81, 2) := dcO tk_X1_become_0 14 rfl
theorem dX1_become_27 : decode cX1_become 27 = .ok (.invokestatic 70, 3) := dcO tk_X1_become_0 15 rfl
theorem dX1_become_30 : decode cX1_become 30 = .ok (.aload_n 1, 1) := dcO tk_X1_become_0 16 rfl
theorem dX1_become_31 : decode cX1_become 31 = .ok (.getfield 18, 3) := dcO tk_X1_become_0 17 rfl
theorem dX1_become_34 : decode cX1_become 34 = .ok (.iconst 0, 1) := dcO tk_X1_become_0 18 rfl
theorem dX1_become_35 : decode cX1_become 35 = .ok (.aload_n 0, 1) := dcO tk_X1_become_0 19 rfl
theorem dX1_become_36 : decode cX1_become 36 = .ok (.getfield 18, 3) := dcO tk_X1_become_0 20 rfl
theorem dX1_become_39 : decode cX1_become 39 = .ok (.iconst 0, 1) := dcO tk_X1_become_0 21 rfl
theorem dX1_become_40 : decode cX1_become 40 = .ok (.bipush 81, 2) := dcO tk_X1_become_0 22 rfl
theorem dX1_become_42 : decode cX1_become 42 = .ok (.invokestatic 70, 3) := dcO tk_X1_become_0 23 rfl
theorem dX1_become_45 : decode cX1_become 45 = .ok (.aload_n 1, 1) := dcO tk_X1_become_0 24 rfl
theorem dX1_become_46 : decode cX1_become 46 = .ok (.getfield 24, 3) := dcO tk_X1_become_0 25 rfl
theorem dX1_become_49 : decode cX1_become 49 = .ok (.iconst 0, 1) := dcO tk_X1_become_0 26 rfl
theorem dX1_become_50 : decode cX1_become 50 = .ok (.aload_n 0, 1) := dcO tk_X1_become_0 27 rfl
theorem dX1_become_51 : decode cX1_become 51 = .ok (.getfield 24, 3) := dcO tk_X1_become_0 28 rfl
theorem dX1_become_54 : decode cX1_become 54 = .ok (.iconst 0, 1) := dcO tk_X1_become_0 29 rfl
theorem dX1_become_55 : decode cX1_become 55 = .ok (.bipush 8, 2) := dcO tk_X1_become_0 30 rfl
theorem dX1_become_57 : decode cX1_become 57 = .ok (.invokestatic 70, 3) := dcO tk_X1_become_0 31 rfl
theorem dX1_become_60 : decode cX1_become 60 = .ok (.aload_n 1, 1) := dcO tk_X1_become_0 32 rfl
theorem dX1_become_61 : decode cX1_become 61 = .ok (.getfield 27, 3) := dcO tk_X1_become_0 33 rfl
theorem dX1_become_64 : decode cX1_become 64 = .ok (.iconst 0, 1) := dcO tk_X1_become_0 34 rfl
theorem dX1_become_65 : decode cX1_become 65 = .ok (.aload_n 0, 1) := dcO tk_X1_become_0 35 rfl
theorem dX1_become_66 : decode cX1_become 66 = .ok (.getfield 27, 3) := dcO tk_X1_become_0 36 rfl
theorem dX1_become_69 : decode cX1_become 69 = .ok (.iconst 0, 1) := dcO tk_X1_become_0 37 rfl
theorem dX1_become_70 : decode cX1_become 70 = .ok (.bipush 8, 2) := dcO tk_X1_become_0 38 rfl
theorem dX1_become_72 : decode cX1_become 72 = .ok (.invokestatic 70, 3) := dcO tk_X1_become_0 39 rfl
abbrev tb_X1_become_1 : List (Nat × Instr × Nat) := [(75, .aload_n 1, 1), (76, .getfield 30, 3), (79, .iconst 0, 1), (80, .aload_n 0, 1), (81, .getfield 30, 3), (84, .iconst 0, 1), (85, .bipush 8, 2), (87, .invokestatic 70, 3), (90, .aload_n 1, 1), (91, .getfield 33, 3), (94, .iconst 0, 1), (95, .aload_n 0, 1), (96, .getfield 33, 3), (99, .iconst 0, 1), (100, .bipush 8, 2), (102, .invokestatic 70, 3), (105, .aload_n 1, 1), (106, .getfield 36, 3), (109, .iconst 0, 1), (110, .aload_n 0, 1), (111, .getfield 36, 3), (114, .iconst 0, 1), (115, .bipush 8, 2), (117, .invokestatic 70, 3), (120, .aload_n 1, 1), (121, .getfield 39, 3), (124, .iconst 0, 1), (125, .aload_n 0, 1), (126, .getfield 39, 3), (129, .iconst 0, 1), (130, .bipush 8, 2), (132, .invokestatic 70, 3), (135, .aload_n 1, 1), (136, .getfield 42, 3), (139, .iconst 0, 1), (140, .aload_n 0, 1), (141, .getfield 42, 3), (144, .iconst 0, 1), (145, .bipush 10, 2), (147, .invokestatic 70, 3)]
theorem tk_X1_become_1 : dcA cX1_become tb_X1_become_1 = true := by decide +kernel
theorem dX1_become_75 : decode cX1_become 75 = .ok (.aload_n 1, 1) := dcO tk_X1_become_1 0 rfl
theorem dX1_become_76 : decode cX1_become 76 = .ok (.getfield 30, 3) := dcO tk_X1_become_1 1 rfl
theorem dX1_become_79 : decode cX1_become 79 = .ok (.iconst 0, 1) := dcO tk_X1_become_1 2 rfl
theorem dX1_become_80 : decode cX1_become 80 = .ok (.aload_n 0, 1) := dcO tk_X1_become_1 3 rfl
theorem dX1_become_81 : decode cX1_become 81 = .ok (.getfield 30, 3) := dcO tk_X1_become_1 4 rfl
theorem dX1_become_84 : decode cX1_become 84 = .ok (.iconst 0, 1) := dcO tk_X1_become_1 5 rfl
theorem dX1_become_85 : decode cX1_become 85 = .ok (.bipush 8, 2) := dcO tk_X1_become_1 6 rfl
theorem dX1_become_87 : decode cX1_become 87 = .ok (.invokestatic 70, 3) := dcO tk_X1_become_1 7 rfl
theorem dX1_become_90 : decode cX1_become 90 = .ok (.aload_n 1, 1) := dcO tk_X1_become_1 8 rfl
theorem dX1_become_91 : decode cX1_become 91 = .ok (.getfield 33, 3) := dcO tk_X1_become_1 9 rfl
theorem dX1_become_94 : decode cX1_become 94 = .ok (.iconst 0, 1) := dcO tk_X1_become_1 10 rfl
theorem dX1_become_95 : decode cX1_become 95 = .ok (.aload_n 0, 1) := dcO tk_X1_become_1 11 rfl
theorem dX1_become_96 : decode cX1_become 96 = .ok (.getfield 33, 3) := dcO tk_X1_become_1 12 rfl
theorem dX1_become_99 : decode cX1_become 99 = .ok (.iconst 0, 1) := dcO tk_X1_become_1 13 rfl
theorem dX1_become_100 : decode cX1_become 100 = .ok (.bipush 8, 2) := dcO tk_X1_become_1 14 rfl
theorem dX1_become_102 : decode cX1_become 102 = .ok (.invokestatic 70, 3) := dcO tk_X1_become_1 15 rfl
theorem dX1_become_105 : decode cX1_become 105 = .ok (.aload_n 1, 1) := dcO tk_X1_become_1 16 rfl
theorem dX1_become_106 : decode cX1_become 106 = .ok (.getfield 36, 3) := dcO tk_X1_become_1 17 rfl
theorem dX1_become_109 : decode cX1_become 109 = .ok (.iconst 0, 1) := dcO tk_X1_become_1 18 rfl
theorem dX1_become_110 : decode cX1_become 110 = .ok (.aload_n 0, 1) := dcO tk_X1_become_1 19 rfl
theorem dX1_become_111 : decode cX1_become 111 = .ok (.getfield 36, 3) := dcO tk_X1_become_1 20 rfl
theorem dX1_become_114 : decode cX1_become 114 = .ok (.iconst 0, 1) := dcO tk_X1_become_1 21 rfl
theorem dX1_become_115 : decode cX1_become 115 = .ok (.bipush 8, 2) := dcO tk_X1_become_1 22 rfl
theorem dX1_become_117 : decode cX1_become 117 = .ok (.invokestatic 70, 3) := dcO tk_X1_become_1 23 rfl
theorem dX1_become_120 : decode cX1_become 120 = .ok (.aload_n 1, 1) := dcO tk_X1_become_1 24 rfl
theorem dX1_become_121 : decode cX1_become 121 = .ok (.getfield 39, 3) := dcO tk_X1_become_1 25 rfl
theorem dX1_become_124 : decode cX1_become 124 = .ok (.iconst 0, 1) := dcO tk_X1_become_1 26 rfl
theorem dX1_become_125 : decode cX1_become 125 = .ok (.aload_n 0, 1) := dcO tk_X1_become_1 27 rfl
theorem dX1_become_126 : decode cX1_become 126 = .ok (.getfield 39, 3) := dcO tk_X1_become_1 28 rfl
theorem dX1_become_129 : decode cX1_become 129 = .ok (.iconst 0, 1) := dcO tk_X1_become_1 29 rfl
theorem dX1_become_130 : decode cX1_become 130 = .ok (.bipush 8, 2) := dcO tk_X1_become_1 30 rfl
theorem dX1_become_132 : decode cX1_become 132 = .ok (.invokestatic 70, 3) := dcO tk_X1_become_1 31 rfl
theorem dX1_become_135 : decode cX1_become 135 = .ok (.aload_n 1, 1) := dcO tk_X1_become_1 32 rfl
theorem dX1_become_136 : decode cX1_become 136 = .ok (.getfield 42, 3) := dcO tk_X1_become_1 33 rfl
theorem dX1_become_139 : decode cX1_become 139 = .ok (.iconst 0, 1) := dcO tk_X1_become_1 34 rfl
theorem dX1_become_140 : decode cX1_become 140 = .ok (.aload_n 0, 1) := dcO tk_X1_become_1 35 rfl
theorem dX1_become_141 : decode cX1_become 141 = .ok (.getfield 42, 3) := dcO tk_X1_become_1 36 rfl
theorem dX1_become_144 : decode cX1_become 144 = .ok (.iconst 0, 1) := dcO tk_X1_become_1 37 rfl
theorem dX1_become_145 : decode cX1_become 145 = .ok (.bipush 10, 2) := dcO tk_X1_become_1 38 rfl
theorem dX1_become_147 : decode cX1_become 147 = .ok (.invokestatic 70, 3) := dcO tk_X1_become_1 39 rfl
abbrev tb_X1_become_2 : List (Nat × Instr × Nat) := [(150, .aload_n 0, 1), (151, .aload_n 1, 1), (152, .getfield 45, 3), (155, .putfield 45, 3), (158, .aload_n 0, 1), (159, .aload_n 1, 1), (160, .getfield 49, 3), (163, .putfield 49, 3), (166, .aload_n 0, 1), (167, .aload_n 1, 1), (168, .getfield 52, 3), (171, .putfield 52, 3), (174, .aload_n 0, 1), (175, .aload_n 1, 1), (176, .getfield 55, 3), (179, .putfield 55, 3), (182, .aload_n 0, 1), (183, .aload_n 1, 1), (184, .getfield 58, 3), (187, .putfield 58, 3), (190, .aload_n 0, 1), (191, .aload_n 1, 1), (192, .getfield 61, 3), (195, .putfield 61, 3), (198, .return_, 1)]
theorem tk_X1_become_2 : dcA cX1_become tb_X1_become_2 = true := by decide +kernel
theorem dX1_become_150 : decode cX1_become 150 = .ok (.aload_n 0, 1) := dcO tk_X1_become_2 0 rfl
theorem dX1_become_151 : decode cX1_become 151 = .ok (.aload_n 1, 1) := dcO tk_X1_become_2 1 rfl
theorem dX1_become_152 : decode cX1_become 152 = .ok (.getfield 45, 3) := dcO tk_X1_become_2 2 rfl
theorem dX1_become_155 : decode cX1_become 155 = .ok (.putfield 45, 3) := dcO tk_X1_become_2 3 rfl
theorem dX1_become_158 : decode cX1_become 158 = .ok (.aload_n 0, 1) := dcO tk_X1_become_2 4 rfl
theorem dX1_become_159 : decode cX1_become 159 = .ok (.aload_n 1, 1) := dcO tk_X1_become_2 5 rfl
theorem dX1_become_160 : decode cX1_become 160 = .ok (.getfield 49, 3) := dcO tk_X1_become_2 6 rfl
theorem dX1_become_163 : decode cX1_become 163 = .ok (.putfield 49, 3) := dcO tk_X1_become_2 7 rfl
theorem dX1_become_166 : decode cX1_become 166 = .ok (.aload_n 0, 1) := dcO tk_X1_become_2 8 rfl
theorem dX1_become_167 : decode cX1_become 167 = .ok (.aload_n 1, 1) := dcO tk_X1_become_2 9 rfl
theorem dX1_become_168 : decode cX1_become 168 = .ok (.getfield 52, 3) := dcO tk_X1_become_2 10 rfl
theorem dX1_become_171 : decode cX1_become 171 = .ok (.putfield 52, 3) := dcO tk_X1_become_2 11 rfl
theorem dX1_become_174 : decode cX1_become 174 = .ok (.aload_n 0, 1) := dcO tk_X1_become_2 12 rfl
theorem dX1_become_175 : decode cX1_become 175 = .ok (.aload_n 1, 1) := dcO tk_X1_become_2 13 rfl
theorem dX1_become_176 : decode cX1_become 176 = .ok (.getfield 55, 3) := dcO tk_X1_become_2 14 rfl
theorem dX1_become_179 : decode cX1_become 179 = .ok (.putfield 55, 3) := dcO tk_X1_become_2 15 rfl
theorem dX1_become_182 : decode cX1_become 182 = .ok (.aload_n 0, 1) := dcO tk_X1_become_2 16 rfl
theorem dX1_become_183 : decode cX1_become 183 = .ok (.aload_n 1, 1) := dcO tk_X1_become_2 17 rfl
theorem dX1_become_184 : decode cX1_become 184 = .ok (.getfield 58, 3) := dcO tk_X1_become_2 18 rfl
theorem dX1_become_187 : decode cX1_become 187 = .ok (.putfield 58, 3) := dcO tk_X1_become_2 19 rfl
theorem dX1_become_190 : decode cX1_become 190 = .ok (.aload_n 0, 1) := dcO tk_X1_become_2 20 rfl
theorem dX1_become_191 : decode cX1_become 191 = .ok (.aload_n 1, 1) := dcO tk_X1_become_2 21 rfl
theorem dX1_become_192 : decode cX1_become 192 = .ok (.getfield 61, 3) := dcO tk_X1_become_2 22 rfl
theorem dX1_become_195 : decode cX1_become 195 = .ok (.putfield 61, 3) := dcO tk_X1_become_2 23 rfl
theorem dX1_become_198 : decode cX1_become 198 = .ok (.return_, 1) := dcO tk_X1_become_2 24 rfl
abbrev tb_X1_addSnail_0 : List (Nat × Instr × Nat) := [(0, .aload_n 0, 1), (1, .getfield 45, 3), (4, .bipush 8, 2), (6, .if_icmp .lt 5, 3), (9, .iconst (-1), 1), (10, .ireturn, 1), (11, .aload_n 0, 1), (12, .getfield 45, 3), (15, .istore_n 3, 1), (16, .aload_n 0, 1), (17, .getfield 27, 3), (20, .iload_n 3, 1), (21, .iload_n 1, 1), (22, .iastore, 1), (23, .aload_n 0, 1), (24, .getfield 30, 3), (27, .iload_n 3, 1), (28, .iload_n 2, 1), (29, .iastore, 1), (30, .aload_n 0, 1), (31, .getfield 33, 3), (34, .iload_n 3, 1), (35, .iconst 0, 1), (36, .iastore, 1), (37, .aload_n 0, 1), (38, .getfield 36, 3), (41, .iload_n 3, 1), (42, .bipush 80, 2), (44, .iastore, 1), (45, .aload_n 0, 1), (46, .getfield 39, 3), (49, .iload_n 3, 1), (50, .iconst 1, 1), (51, .iastore, 1), (52, .aload_n 0, 1), (53, .dup, 1), (54, .getfield 45, 3), (57, .iconst 1, 1), (58, .iadd, 1), (59, .putfield 45, 3)]
theorem tk_X1_addSnail_0 : dcA cX1_addSnail tb_X1_addSnail_0 = true := by decide +kernel
theorem dX1_addSnail_0 : decode cX1_addSnail 0 = .ok (.aload_n 0, 1) := dcO tk_X1_addSnail_0 0 rfl
theorem dX1_addSnail_1 : decode cX1_addSnail 1 = .ok (.getfield 45, 3) := dcO tk_X1_addSnail_0 1 rfl
theorem dX1_addSnail_4 : decode cX1_addSnail 4 = .ok (.bipush 8, 2) := dcO tk_X1_addSnail_0 2 rfl
theorem dX1_addSnail_6 : decode cX1_addSnail 6 = .ok (.if_icmp .lt 5, 3) := dcO tk_X1_addSnail_0 3 rfl
theorem dX1_addSnail_9 : decode cX1_addSnail 9 = .ok (.iconst (-1), 1) := dcO tk_X1_addSnail_0 4 rfl
theorem dX1_addSnail_10 : decode cX1_addSnail 10 = .ok (.ireturn, 1) := dcO tk_X1_addSnail_0 5 rfl
theorem dX1_addSnail_11 : decode cX1_addSnail 11 = .ok (.aload_n 0, 1) := dcO tk_X1_addSnail_0 6 rfl
theorem dX1_addSnail_12 : decode cX1_addSnail 12 = .ok (.getfield 45, 3) := dcO tk_X1_addSnail_0 7 rfl
theorem dX1_addSnail_15 : decode cX1_addSnail 15 = .ok (.istore_n 3, 1) := dcO tk_X1_addSnail_0 8 rfl
theorem dX1_addSnail_16 : decode cX1_addSnail 16 = .ok (.aload_n 0, 1) := dcO tk_X1_addSnail_0 9 rfl
theorem dX1_addSnail_17 : decode cX1_addSnail 17 = .ok (.getfield 27, 3) := dcO tk_X1_addSnail_0 10 rfl
theorem dX1_addSnail_20 : decode cX1_addSnail 20 = .ok (.iload_n 3, 1) := dcO tk_X1_addSnail_0 11 rfl
theorem dX1_addSnail_21 : decode cX1_addSnail 21 = .ok (.iload_n 1, 1) := dcO tk_X1_addSnail_0 12 rfl
theorem dX1_addSnail_22 : decode cX1_addSnail 22 = .ok (.iastore, 1) := dcO tk_X1_addSnail_0 13 rfl
theorem dX1_addSnail_23 : decode cX1_addSnail 23 = .ok (.aload_n 0, 1) := dcO tk_X1_addSnail_0 14 rfl
theorem dX1_addSnail_24 : decode cX1_addSnail 24 = .ok (.getfield 30, 3) := dcO tk_X1_addSnail_0 15 rfl
theorem dX1_addSnail_27 : decode cX1_addSnail 27 = .ok (.iload_n 3, 1) := dcO tk_X1_addSnail_0 16 rfl
theorem dX1_addSnail_28 : decode cX1_addSnail 28 = .ok (.iload_n 2, 1) := dcO tk_X1_addSnail_0 17 rfl
theorem dX1_addSnail_29 : decode cX1_addSnail 29 = .ok (.iastore, 1) := dcO tk_X1_addSnail_0 18 rfl
theorem dX1_addSnail_30 : decode cX1_addSnail 30 = .ok (.aload_n 0, 1) := dcO tk_X1_addSnail_0 19 rfl
theorem dX1_addSnail_31 : decode cX1_addSnail 31 = .ok (.getfield 33, 3) := dcO tk_X1_addSnail_0 20 rfl
theorem dX1_addSnail_34 : decode cX1_addSnail 34 = .ok (.iload_n 3, 1) := dcO tk_X1_addSnail_0 21 rfl
theorem dX1_addSnail_35 : decode cX1_addSnail 35 = .ok (.iconst 0, 1) := dcO tk_X1_addSnail_0 22 rfl
theorem dX1_addSnail_36 : decode cX1_addSnail 36 = .ok (.iastore, 1) := dcO tk_X1_addSnail_0 23 rfl
theorem dX1_addSnail_37 : decode cX1_addSnail 37 = .ok (.aload_n 0, 1) := dcO tk_X1_addSnail_0 24 rfl
theorem dX1_addSnail_38 : decode cX1_addSnail 38 = .ok (.getfield 36, 3) := dcO tk_X1_addSnail_0 25 rfl
theorem dX1_addSnail_41 : decode cX1_addSnail 41 = .ok (.iload_n 3, 1) := dcO tk_X1_addSnail_0 26 rfl
theorem dX1_addSnail_42 : decode cX1_addSnail 42 = .ok (.bipush 80, 2) := dcO tk_X1_addSnail_0 27 rfl
theorem dX1_addSnail_44 : decode cX1_addSnail 44 = .ok (.iastore, 1) := dcO tk_X1_addSnail_0 28 rfl
theorem dX1_addSnail_45 : decode cX1_addSnail 45 = .ok (.aload_n 0, 1) := dcO tk_X1_addSnail_0 29 rfl
theorem dX1_addSnail_46 : decode cX1_addSnail 46 = .ok (.getfield 39, 3) := dcO tk_X1_addSnail_0 30 rfl
theorem dX1_addSnail_49 : decode cX1_addSnail 49 = .ok (.iload_n 3, 1) := dcO tk_X1_addSnail_0 31 rfl
theorem dX1_addSnail_50 : decode cX1_addSnail 50 = .ok (.iconst 1, 1) := dcO tk_X1_addSnail_0 32 rfl
theorem dX1_addSnail_51 : decode cX1_addSnail 51 = .ok (.iastore, 1) := dcO tk_X1_addSnail_0 33 rfl
theorem dX1_addSnail_52 : decode cX1_addSnail 52 = .ok (.aload_n 0, 1) := dcO tk_X1_addSnail_0 34 rfl
theorem dX1_addSnail_53 : decode cX1_addSnail 53 = .ok (.dup, 1) := dcO tk_X1_addSnail_0 35 rfl
theorem dX1_addSnail_54 : decode cX1_addSnail 54 = .ok (.getfield 45, 3) := dcO tk_X1_addSnail_0 36 rfl
theorem dX1_addSnail_57 : decode cX1_addSnail 57 = .ok (.iconst 1, 1) := dcO tk_X1_addSnail_0 37 rfl
theorem dX1_addSnail_58 : decode cX1_addSnail 58 = .ok (.iadd, 1) := dcO tk_X1_addSnail_0 38 rfl
theorem dX1_addSnail_59 : decode cX1_addSnail 59 = .ok (.putfield 45, 3) := dcO tk_X1_addSnail_0 39 rfl
abbrev tb_X1_addSnail_1 : List (Nat × Instr × Nat) := [(62, .iload_n 3, 1), (63, .ireturn, 1)]
theorem tk_X1_addSnail_1 : dcA cX1_addSnail tb_X1_addSnail_1 = true := by decide +kernel
theorem dX1_addSnail_62 : decode cX1_addSnail 62 = .ok (.iload_n 3, 1) := dcO tk_X1_addSnail_1 0 rfl
theorem dX1_addSnail_63 : decode cX1_addSnail 63 = .ok (.ireturn, 1) := dcO tk_X1_addSnail_1 1 rfl
abbrev tb_X1_traitRow_0 : List (Nat × Instr × Nat) := [(0, .iload_n 1, 1), (1, .tableswitch 51 0 3 #[31, 36, 41, 46], 31), (32, .aload_n 0, 1), (33, .getfield 27, 3), (36, .areturn, 1), (37, .aload_n 0, 1), (38, .getfield 30, 3), (41, .areturn, 1), (42, .aload_n 0, 1), (43, .getfield 33, 3), (46, .areturn, 1), (47, .aload_n 0, 1), (48, .getfield 36, 3), (51, .areturn, 1), (52, .aload_n 0, 1), (53, .getfield 39, 3), (56, .areturn, 1)]
theorem tk_X1_traitRow_0 : dcA cX1_traitRow tb_X1_traitRow_0 = true := by decide +kernel
theorem dX1_traitRow_0 : decode cX1_traitRow 0 = .ok (.iload_n 1, 1) := dcO tk_X1_traitRow_0 0 rfl
theorem dX1_traitRow_1 : decode cX1_traitRow 1 = .ok (.tableswitch 51 0 3 #[31, 36, 41, 46], 31) := dcO tk_X1_traitRow_0 1 rfl
theorem dX1_traitRow_32 : decode cX1_traitRow 32 = .ok (.aload_n 0, 1) := dcO tk_X1_traitRow_0 2 rfl
theorem dX1_traitRow_33 : decode cX1_traitRow 33 = .ok (.getfield 27, 3) := dcO tk_X1_traitRow_0 3 rfl
theorem dX1_traitRow_36 : decode cX1_traitRow 36 = .ok (.areturn, 1) := dcO tk_X1_traitRow_0 4 rfl
theorem dX1_traitRow_37 : decode cX1_traitRow 37 = .ok (.aload_n 0, 1) := dcO tk_X1_traitRow_0 5 rfl
theorem dX1_traitRow_38 : decode cX1_traitRow 38 = .ok (.getfield 30, 3) := dcO tk_X1_traitRow_0 6 rfl
theorem dX1_traitRow_41 : decode cX1_traitRow 41 = .ok (.areturn, 1) := dcO tk_X1_traitRow_0 7 rfl
theorem dX1_traitRow_42 : decode cX1_traitRow 42 = .ok (.aload_n 0, 1) := dcO tk_X1_traitRow_0 8 rfl
theorem dX1_traitRow_43 : decode cX1_traitRow 43 = .ok (.getfield 33, 3) := dcO tk_X1_traitRow_0 9 rfl
theorem dX1_traitRow_46 : decode cX1_traitRow 46 = .ok (.areturn, 1) := dcO tk_X1_traitRow_0 10 rfl
theorem dX1_traitRow_47 : decode cX1_traitRow 47 = .ok (.aload_n 0, 1) := dcO tk_X1_traitRow_0 11 rfl
theorem dX1_traitRow_48 : decode cX1_traitRow 48 = .ok (.getfield 36, 3) := dcO tk_X1_traitRow_0 12 rfl
theorem dX1_traitRow_51 : decode cX1_traitRow 51 = .ok (.areturn, 1) := dcO tk_X1_traitRow_0 13 rfl
theorem dX1_traitRow_52 : decode cX1_traitRow 52 = .ok (.aload_n 0, 1) := dcO tk_X1_traitRow_0 14 rfl
theorem dX1_traitRow_53 : decode cX1_traitRow 53 = .ok (.getfield 39, 3) := dcO tk_X1_traitRow_0 15 rfl
theorem dX1_traitRow_56 : decode cX1_traitRow 56 = .ok (.areturn, 1) := dcO tk_X1_traitRow_0 16 rfl
abbrev tb_X1_movesOf_0 : List (Nat × Instr × Nat) := [(0, .aload_n 0, 1), (1, .getfield 49, 3), (4, .iconst 5, 1), (5, .idiv, 1), (6, .iconst 1, 1), (7, .iadd, 1), (8, .istore_n 2, 1), (9, .aload_n 0, 1), (10, .getfield 15, 3), (13, .aload_n 0, 1), (14, .getfield 30, 3), (17, .iload_n 1, 1), (18, .iaload, 1), (19, .iaload, 1), (20, .ifCond .le 7, 3), (23, .iconst 0, 1), (24, .goto 4, 3), (27, .iload_n 2, 1), (28, .istore_n 3, 1), (29, .aload_n 0, 1), (30, .getfield 55, 3), (33, .iconst 2, 1), (34, .irem, 1), (35, .ifCond .ne 9, 3), (38, .iload_n 2, 1), (39, .iconst 1, 1), (40, .isub, 1), (41, .goto 4, 3), (44, .iconst 0, 1), (45, .istore 4, 2), (47, .aload_n 0, 1), (48, .getfield 27, 3), (51, .iload_n 1, 1), (52, .iaload, 1), (53, .tableswitch 72 1 6 #[39, 45, 49, 52, 70, 41], 39), (92, .iload_n 3, 1), (93, .ireturn, 1), (94, .iconst 2, 1), (95, .iload_n 3, 1), (96, .imul, 1)]
theorem tk_X1_movesOf_0 : dcA cX1_movesOf tb_X1_movesOf_0 = true := by decide +kernel
theorem dX1_movesOf_0 : decode cX1_movesOf 0 = .ok (.aload_n 0, 1) := dcO tk_X1_movesOf_0 0 rfl
theorem dX1_movesOf_1 : decode cX1_movesOf 1 = .ok (.getfield 49, 3) := dcO tk_X1_movesOf_0 1 rfl
theorem dX1_movesOf_4 : decode cX1_movesOf 4 = .ok (.iconst 5, 1) := dcO tk_X1_movesOf_0 2 rfl
theorem dX1_movesOf_5 : decode cX1_movesOf 5 = .ok (.idiv, 1) := dcO tk_X1_movesOf_0 3 rfl
theorem dX1_movesOf_6 : decode cX1_movesOf 6 = .ok (.iconst 1, 1) := dcO tk_X1_movesOf_0 4 rfl
theorem dX1_movesOf_7 : decode cX1_movesOf 7 = .ok (.iadd, 1) := dcO tk_X1_movesOf_0 5 rfl
theorem dX1_movesOf_8 : decode cX1_movesOf 8 = .ok (.istore_n 2, 1) := dcO tk_X1_movesOf_0 6 rfl
theorem dX1_movesOf_9 : decode cX1_movesOf 9 = .ok (.aload_n 0, 1) := dcO tk_X1_movesOf_0 7 rfl
theorem dX1_movesOf_10 : decode cX1_movesOf 10 = .ok (.getfield 15, 3) := dcO tk_X1_movesOf_0 8 rfl
theorem dX1_movesOf_13 : decode cX1_movesOf 13 = .ok (.aload_n 0, 1) := dcO tk_X1_movesOf_0 9 rfl
theorem dX1_movesOf_14 : decode cX1_movesOf 14 = .ok (.getfield 30, 3) := dcO tk_X1_movesOf_0 10 rfl
theorem dX1_movesOf_17 : decode cX1_movesOf 17 = .ok (.iload_n 1, 1) := dcO tk_X1_movesOf_0 11 rfl
theorem dX1_movesOf_18 : decode cX1_movesOf 18 = .ok (.iaload, 1) := dcO tk_X1_movesOf_0 12 rfl
theorem dX1_movesOf_19 : decode cX1_movesOf 19 = .ok (.iaload, 1) := dcO tk_X1_movesOf_0 13 rfl
theorem dX1_movesOf_20 : decode cX1_movesOf 20 = .ok (.ifCond .le 7, 3) := dcO tk_X1_movesOf_0 14 rfl
theorem dX1_movesOf_23 : decode cX1_movesOf 23 = .ok (.iconst 0, 1) := dcO tk_X1_movesOf_0 15 rfl
theorem dX1_movesOf_24 : decode cX1_movesOf 24 = .ok (.goto 4, 3) := dcO tk_X1_movesOf_0 16 rfl
theorem dX1_movesOf_27 : decode cX1_movesOf 27 = .ok (.iload_n 2, 1) := dcO tk_X1_movesOf_0 17 rfl
theorem dX1_movesOf_28 : decode cX1_movesOf 28 = .ok (.istore_n 3, 1) := dcO tk_X1_movesOf_0 18 rfl
theorem dX1_movesOf_29 : decode cX1_movesOf 29 = .ok (.aload_n 0, 1) := dcO tk_X1_movesOf_0 19 rfl
theorem dX1_movesOf_30 : decode cX1_movesOf 30 = .ok (.getfield 55, 3) := dcO tk_X1_movesOf_0 20 rfl
theorem dX1_movesOf_33 : decode cX1_movesOf 33 = .ok (.iconst 2, 1) := dcO tk_X1_movesOf_0 21 rfl
theorem dX1_movesOf_34 : decode cX1_movesOf 34 = .ok (.irem, 1) := dcO tk_X1_movesOf_0 22 rfl
theorem dX1_movesOf_35 : decode cX1_movesOf 35 = .ok (.ifCond .ne 9, 3) := dcO tk_X1_movesOf_0 23 rfl
theorem dX1_movesOf_38 : decode cX1_movesOf 38 = .ok (.iload_n 2, 1) := dcO tk_X1_movesOf_0 24 rfl
theorem dX1_movesOf_39 : decode cX1_movesOf 39 = .ok (.iconst 1, 1) := dcO tk_X1_movesOf_0 25 rfl
theorem dX1_movesOf_40 : decode cX1_movesOf 40 = .ok (.isub, 1) := dcO tk_X1_movesOf_0 26 rfl
theorem dX1_movesOf_41 : decode cX1_movesOf 41 = .ok (.goto 4, 3) := dcO tk_X1_movesOf_0 27 rfl
theorem dX1_movesOf_44 : decode cX1_movesOf 44 = .ok (.iconst 0, 1) := dcO tk_X1_movesOf_0 28 rfl
theorem dX1_movesOf_45 : decode cX1_movesOf 45 = .ok (.istore 4, 2) := dcO tk_X1_movesOf_0 29 rfl
theorem dX1_movesOf_47 : decode cX1_movesOf 47 = .ok (.aload_n 0, 1) := dcO tk_X1_movesOf_0 30 rfl
theorem dX1_movesOf_48 : decode cX1_movesOf 48 = .ok (.getfield 27, 3) := dcO tk_X1_movesOf_0 31 rfl
theorem dX1_movesOf_51 : decode cX1_movesOf 51 = .ok (.iload_n 1, 1) := dcO tk_X1_movesOf_0 32 rfl
theorem dX1_movesOf_52 : decode cX1_movesOf 52 = .ok (.iaload, 1) := dcO tk_X1_movesOf_0 33 rfl
theorem dX1_movesOf_53 : decode cX1_movesOf 53 = .ok (.tableswitch 72 1 6 #[39, 45, 49, 52, 70, 41], 39) := dcO tk_X1_movesOf_0 34 rfl
theorem dX1_movesOf_92 : decode cX1_movesOf 92 = .ok (.iload_n 3, 1) := dcO tk_X1_movesOf_0 35 rfl
theorem dX1_movesOf_93 : decode cX1_movesOf 93 = .ok (.ireturn, 1) := dcO tk_X1_movesOf_0 36 rfl
theorem dX1_movesOf_94 : decode cX1_movesOf 94 = .ok (.iconst 2, 1) := dcO tk_X1_movesOf_0 37 rfl
theorem dX1_movesOf_95 : decode cX1_movesOf 95 = .ok (.iload_n 3, 1) := dcO tk_X1_movesOf_0 38 rfl
theorem dX1_movesOf_96 : decode cX1_movesOf 96 = .ok (.imul, 1) := dcO tk_X1_movesOf_0 39 rfl
abbrev tb_X1_movesOf_1 : List (Nat × Instr × Nat) := [(97, .ireturn, 1), (98, .iload_n 2, 1), (99, .iconst 1, 1), (100, .isub, 1), (101, .ireturn, 1), (102, .iload 4, 2), (104, .ireturn, 1), (105, .iload 4, 2), (107, .aload_n 0, 1), (108, .getfield 55, 3), (111, .iconst 5, 1), (112, .irem, 1), (113, .ifCond .ne 7, 3), (116, .iconst 1, 1), (117, .goto 4, 3), (120, .iconst 0, 1), (121, .iadd, 1), (122, .ireturn, 1), (123, .iconst 3, 1), (124, .ireturn, 1), (125, .iload_n 2, 1), (126, .ireturn, 1)]
theorem tk_X1_movesOf_1 : dcA cX1_movesOf tb_X1_movesOf_1 = true := by decide +kernel
theorem dX1_movesOf_97 : decode cX1_movesOf 97 = .ok (.ireturn, 1) := dcO tk_X1_movesOf_1 0 rfl
theorem dX1_movesOf_98 : decode cX1_movesOf 98 = .ok (.iload_n 2, 1) := dcO tk_X1_movesOf_1 1 rfl
theorem dX1_movesOf_99 : decode cX1_movesOf 99 = .ok (.iconst 1, 1) := dcO tk_X1_movesOf_1 2 rfl
theorem dX1_movesOf_100 : decode cX1_movesOf 100 = .ok (.isub, 1) := dcO tk_X1_movesOf_1 3 rfl
theorem dX1_movesOf_101 : decode cX1_movesOf 101 = .ok (.ireturn, 1) := dcO tk_X1_movesOf_1 4 rfl
theorem dX1_movesOf_102 : decode cX1_movesOf 102 = .ok (.iload 4, 2) := dcO tk_X1_movesOf_1 5 rfl
theorem dX1_movesOf_104 : decode cX1_movesOf 104 = .ok (.ireturn, 1) := dcO tk_X1_movesOf_1 6 rfl
theorem dX1_movesOf_105 : decode cX1_movesOf 105 = .ok (.iload 4, 2) := dcO tk_X1_movesOf_1 7 rfl
theorem dX1_movesOf_107 : decode cX1_movesOf 107 = .ok (.aload_n 0, 1) := dcO tk_X1_movesOf_1 8 rfl
theorem dX1_movesOf_108 : decode cX1_movesOf 108 = .ok (.getfield 55, 3) := dcO tk_X1_movesOf_1 9 rfl
theorem dX1_movesOf_111 : decode cX1_movesOf 111 = .ok (.iconst 5, 1) := dcO tk_X1_movesOf_1 10 rfl
theorem dX1_movesOf_112 : decode cX1_movesOf 112 = .ok (.irem, 1) := dcO tk_X1_movesOf_1 11 rfl
theorem dX1_movesOf_113 : decode cX1_movesOf 113 = .ok (.ifCond .ne 7, 3) := dcO tk_X1_movesOf_1 12 rfl
theorem dX1_movesOf_116 : decode cX1_movesOf 116 = .ok (.iconst 1, 1) := dcO tk_X1_movesOf_1 13 rfl
theorem dX1_movesOf_117 : decode cX1_movesOf 117 = .ok (.goto 4, 3) := dcO tk_X1_movesOf_1 14 rfl
theorem dX1_movesOf_120 : decode cX1_movesOf 120 = .ok (.iconst 0, 1) := dcO tk_X1_movesOf_1 15 rfl
theorem dX1_movesOf_121 : decode cX1_movesOf 121 = .ok (.iadd, 1) := dcO tk_X1_movesOf_1 16 rfl
theorem dX1_movesOf_122 : decode cX1_movesOf 122 = .ok (.ireturn, 1) := dcO tk_X1_movesOf_1 17 rfl
theorem dX1_movesOf_123 : decode cX1_movesOf 123 = .ok (.iconst 3, 1) := dcO tk_X1_movesOf_1 18 rfl
theorem dX1_movesOf_124 : decode cX1_movesOf 124 = .ok (.ireturn, 1) := dcO tk_X1_movesOf_1 19 rfl
theorem dX1_movesOf_125 : decode cX1_movesOf 125 = .ok (.iload_n 2, 1) := dcO tk_X1_movesOf_1 20 rfl
theorem dX1_movesOf_126 : decode cX1_movesOf 126 = .ok (.ireturn, 1) := dcO tk_X1_movesOf_1 21 rfl
abbrev tb_X1_passDays_0 : List (Nat × Instr × Nat) := [(0, .iconst 0, 1), (1, .istore 4, 2), (3, .iload 4, 2), (5, .iload_n 3, 1), (6, .if_icmp .ge 54, 3), (9, .iconst 0, 1), (10, .istore 5, 2), (12, .iload 5, 2), (14, .aload_n 0, 1), (15, .getfield 45, 3), (18, .if_icmp .ge 26, 3), (21, .iload_n 2, 1), (22, .iload 5, 2), (24, .ishr, 1), (25, .iconst 1, 1), (26, .iand, 1), (27, .iconst 1, 1), (28, .if_icmp .ne 10, 3), (31, .aload_n 0, 1), (32, .iload 5, 2), (34, .aload_n 1, 1), (35, .invokevirtual 76, 3), (38, .iinc 5 1, 3), (41, .goto (-29), 3), (44, .aload_n 0, 1), (45, .dup, 1), (46, .getfield 55, 3), (49, .iconst 1, 1), (50, .iadd, 1), (51, .putfield 55, 3), (54, .iinc 4 1, 3), (57, .goto (-54), 3), (60, .return_, 1)]
theorem tk_X1_passDays_0 : dcA cX1_passDays tb_X1_passDays_0 = true := by decide +kernel
theorem dX1_passDays_0 : decode cX1_passDays 0 = .ok (.iconst 0, 1) := dcO tk_X1_passDays_0 0 rfl
theorem dX1_passDays_1 : decode cX1_passDays 1 = .ok (.istore 4, 2) := dcO tk_X1_passDays_0 1 rfl
theorem dX1_passDays_3 : decode cX1_passDays 3 = .ok (.iload 4, 2) := dcO tk_X1_passDays_0 2 rfl
theorem dX1_passDays_5 : decode cX1_passDays 5 = .ok (.iload_n 3, 1) := dcO tk_X1_passDays_0 3 rfl
theorem dX1_passDays_6 : decode cX1_passDays 6 = .ok (.if_icmp .ge 54, 3) := dcO tk_X1_passDays_0 4 rfl
theorem dX1_passDays_9 : decode cX1_passDays 9 = .ok (.iconst 0, 1) := dcO tk_X1_passDays_0 5 rfl
theorem dX1_passDays_10 : decode cX1_passDays 10 = .ok (.istore 5, 2) := dcO tk_X1_passDays_0 6 rfl
theorem dX1_passDays_12 : decode cX1_passDays 12 = .ok (.iload 5, 2) := dcO tk_X1_passDays_0 7 rfl
theorem dX1_passDays_14 : decode cX1_passDays 14 = .ok (.aload_n 0, 1) := dcO tk_X1_passDays_0 8 rfl
theorem dX1_passDays_15 : decode cX1_passDays 15 = .ok (.getfield 45, 3) := dcO tk_X1_passDays_0 9 rfl
theorem dX1_passDays_18 : decode cX1_passDays 18 = .ok (.if_icmp .ge 26, 3) := dcO tk_X1_passDays_0 10 rfl
theorem dX1_passDays_21 : decode cX1_passDays 21 = .ok (.iload_n 2, 1) := dcO tk_X1_passDays_0 11 rfl
theorem dX1_passDays_22 : decode cX1_passDays 22 = .ok (.iload 5, 2) := dcO tk_X1_passDays_0 12 rfl
theorem dX1_passDays_24 : decode cX1_passDays 24 = .ok (.ishr, 1) := dcO tk_X1_passDays_0 13 rfl
theorem dX1_passDays_25 : decode cX1_passDays 25 = .ok (.iconst 1, 1) := dcO tk_X1_passDays_0 14 rfl
theorem dX1_passDays_26 : decode cX1_passDays 26 = .ok (.iand, 1) := dcO tk_X1_passDays_0 15 rfl
theorem dX1_passDays_27 : decode cX1_passDays 27 = .ok (.iconst 1, 1) := dcO tk_X1_passDays_0 16 rfl
theorem dX1_passDays_28 : decode cX1_passDays 28 = .ok (.if_icmp .ne 10, 3) := dcO tk_X1_passDays_0 17 rfl
theorem dX1_passDays_31 : decode cX1_passDays 31 = .ok (.aload_n 0, 1) := dcO tk_X1_passDays_0 18 rfl
theorem dX1_passDays_32 : decode cX1_passDays 32 = .ok (.iload 5, 2) := dcO tk_X1_passDays_0 19 rfl
theorem dX1_passDays_34 : decode cX1_passDays 34 = .ok (.aload_n 1, 1) := dcO tk_X1_passDays_0 20 rfl
theorem dX1_passDays_35 : decode cX1_passDays 35 = .ok (.invokevirtual 76, 3) := dcO tk_X1_passDays_0 21 rfl
theorem dX1_passDays_38 : decode cX1_passDays 38 = .ok (.iinc 5 1, 3) := dcO tk_X1_passDays_0 22 rfl
theorem dX1_passDays_41 : decode cX1_passDays 41 = .ok (.goto (-29), 3) := dcO tk_X1_passDays_0 23 rfl
theorem dX1_passDays_44 : decode cX1_passDays 44 = .ok (.aload_n 0, 1) := dcO tk_X1_passDays_0 24 rfl
theorem dX1_passDays_45 : decode cX1_passDays 45 = .ok (.dup, 1) := dcO tk_X1_passDays_0 25 rfl
theorem dX1_passDays_46 : decode cX1_passDays 46 = .ok (.getfield 55, 3) := dcO tk_X1_passDays_0 26 rfl
theorem dX1_passDays_49 : decode cX1_passDays 49 = .ok (.iconst 1, 1) := dcO tk_X1_passDays_0 27 rfl
theorem dX1_passDays_50 : decode cX1_passDays 50 = .ok (.iadd, 1) := dcO tk_X1_passDays_0 28 rfl
theorem dX1_passDays_51 : decode cX1_passDays 51 = .ok (.putfield 55, 3) := dcO tk_X1_passDays_0 29 rfl
theorem dX1_passDays_54 : decode cX1_passDays 54 = .ok (.iinc 4 1, 3) := dcO tk_X1_passDays_0 30 rfl
theorem dX1_passDays_57 : decode cX1_passDays 57 = .ok (.goto (-54), 3) := dcO tk_X1_passDays_0 31 rfl
theorem dX1_passDays_60 : decode cX1_passDays 60 = .ok (.return_, 1) := dcO tk_X1_passDays_0 32 rfl
abbrev tb_X1_passDayOf_0 : List (Nat × Instr × Nat) := [(0, .aload_n 0, 1), (1, .getfield 33, 3), (4, .iload_n 1, 1), (5, .iaload, 1), (6, .istore_n 3, 1), (7, .aload_n 0, 1), (8, .getfield 30, 3), (11, .iload_n 1, 1), (12, .iaload, 1), (13, .istore 4, 2), (15, .aload_n 0, 1), (16, .iload_n 1, 1), (17, .invokevirtual 80, 3), (20, .istore 5, 2), (22, .aload_n 0, 1), (23, .iload 4, 2), (25, .iload_n 3, 1), (26, .invokevirtual 84, 3), (29, .iconst 0, 1), (30, .istore 6, 2), (32, .iload 6, 2), (34, .iload 5, 2), (36, .if_icmp .ge 39, 3), (39, .aload_n 2, 1), (40, .iload_n 1, 1), (41, .iload 4, 2), (43, .invokevirtual 88, 3), (46, .istore 7, 2), (48, .iload 7, 2), (50, .iload 4, 2), (52, .if_icmp .ne 6, 3), (55, .goto 20, 3), (58, .iload 7, 2), (60, .istore 4, 2), (62, .aload_n 0, 1), (63, .iload 4, 2), (65, .iload_n 3, 1), (66, .invokevirtual 84, 3), (69, .iinc 6 1, 3), (72, .goto (-40), 3)]
theorem tk_X1_passDayOf_0 : dcA cX1_passDayOf tb_X1_passDayOf_0 = true := by decide +kernel
theorem dX1_passDayOf_0 : decode cX1_passDayOf 0 = .ok (.aload_n 0, 1) := dcO tk_X1_passDayOf_0 0 rfl
theorem dX1_passDayOf_1 : decode cX1_passDayOf 1 = .ok (.getfield 33, 3) := dcO tk_X1_passDayOf_0 1 rfl
theorem dX1_passDayOf_4 : decode cX1_passDayOf 4 = .ok (.iload_n 1, 1) := dcO tk_X1_passDayOf_0 2 rfl
theorem dX1_passDayOf_5 : decode cX1_passDayOf 5 = .ok (.iaload, 1) := dcO tk_X1_passDayOf_0 3 rfl
theorem dX1_passDayOf_6 : decode cX1_passDayOf 6 = .ok (.istore_n 3, 1) := dcO tk_X1_passDayOf_0 4 rfl
theorem dX1_passDayOf_7 : decode cX1_passDayOf 7 = .ok (.aload_n 0, 1) := dcO tk_X1_passDayOf_0 5 rfl
theorem dX1_passDayOf_8 : decode cX1_passDayOf 8 = .ok (.getfield 30, 3) := dcO tk_X1_passDayOf_0 6 rfl
theorem dX1_passDayOf_11 : decode cX1_passDayOf 11 = .ok (.iload_n 1, 1) := dcO tk_X1_passDayOf_0 7 rfl
theorem dX1_passDayOf_12 : decode cX1_passDayOf 12 = .ok (.iaload, 1) := dcO tk_X1_passDayOf_0 8 rfl
theorem dX1_passDayOf_13 : decode cX1_passDayOf 13 = .ok (.istore 4, 2) := dcO tk_X1_passDayOf_0 9 rfl
theorem dX1_passDayOf_15 : decode cX1_passDayOf 15 = .ok (.aload_n 0, 1) := dcO tk_X1_passDayOf_0 10 rfl
theorem dX1_passDayOf_16 : decode cX1_passDayOf 16 = .ok (.iload_n 1, 1) := dcO tk_X1_passDayOf_0 11 rfl
theorem dX1_passDayOf_17 : decode cX1_passDayOf 17 = .ok (.invokevirtual 80, 3) := dcO tk_X1_passDayOf_0 12 rfl
theorem dX1_passDayOf_20 : decode cX1_passDayOf 20 = .ok (.istore 5, 2) := dcO tk_X1_passDayOf_0 13 rfl
theorem dX1_passDayOf_22 : decode cX1_passDayOf 22 = .ok (.aload_n 0, 1) := dcO tk_X1_passDayOf_0 14 rfl
theorem dX1_passDayOf_23 : decode cX1_passDayOf 23 = .ok (.iload 4, 2) := dcO tk_X1_passDayOf_0 15 rfl
theorem dX1_passDayOf_25 : decode cX1_passDayOf 25 = .ok (.iload_n 3, 1) := dcO tk_X1_passDayOf_0 16 rfl
theorem dX1_passDayOf_26 : decode cX1_passDayOf 26 = .ok (.invokevirtual 84, 3) := dcO tk_X1_passDayOf_0 17 rfl
theorem dX1_passDayOf_29 : decode cX1_passDayOf 29 = .ok (.iconst 0, 1) := dcO tk_X1_passDayOf_0 18 rfl
theorem dX1_passDayOf_30 : decode cX1_passDayOf 30 = .ok (.istore 6, 2) := dcO tk_X1_passDayOf_0 19 rfl
theorem dX1_passDayOf_32 : decode cX1_passDayOf 32 = .ok (.iload 6, 2) := dcO tk_X1_passDayOf_0 20 rfl
theorem dX1_passDayOf_34 : decode cX1_passDayOf 34 = .ok (.iload 5, 2) := dcO tk_X1_passDayOf_0 21 rfl
theorem dX1_passDayOf_36 : decode cX1_passDayOf 36 = .ok (.if_icmp .ge 39, 3) := dcO tk_X1_passDayOf_0 22 rfl
theorem dX1_passDayOf_39 : decode cX1_passDayOf 39 = .ok (.aload_n 2, 1) := dcO tk_X1_passDayOf_0 23 rfl
theorem dX1_passDayOf_40 : decode cX1_passDayOf 40 = .ok (.iload_n 1, 1) := dcO tk_X1_passDayOf_0 24 rfl
theorem dX1_passDayOf_41 : decode cX1_passDayOf 41 = .ok (.iload 4, 2) := dcO tk_X1_passDayOf_0 25 rfl
theorem dX1_passDayOf_43 : decode cX1_passDayOf 43 = .ok (.invokevirtual 88, 3) := dcO tk_X1_passDayOf_0 26 rfl
theorem dX1_passDayOf_46 : decode cX1_passDayOf 46 = .ok (.istore 7, 2) := dcO tk_X1_passDayOf_0 27 rfl
theorem dX1_passDayOf_48 : decode cX1_passDayOf 48 = .ok (.iload 7, 2) := dcO tk_X1_passDayOf_0 28 rfl
theorem dX1_passDayOf_50 : decode cX1_passDayOf 50 = .ok (.iload 4, 2) := dcO tk_X1_passDayOf_0 29 rfl
theorem dX1_passDayOf_52 : decode cX1_passDayOf 52 = .ok (.if_icmp .ne 6, 3) := dcO tk_X1_passDayOf_0 30 rfl
theorem dX1_passDayOf_55 : decode cX1_passDayOf 55 = .ok (.goto 20, 3) := dcO tk_X1_passDayOf_0 31 rfl
theorem dX1_passDayOf_58 : decode cX1_passDayOf 58 = .ok (.iload 7, 2) := dcO tk_X1_passDayOf_0 32 rfl
theorem dX1_passDayOf_60 : decode cX1_passDayOf 60 = .ok (.istore 4, 2) := dcO tk_X1_passDayOf_0 33 rfl
theorem dX1_passDayOf_62 : decode cX1_passDayOf 62 = .ok (.aload_n 0, 1) := dcO tk_X1_passDayOf_0 34 rfl
theorem dX1_passDayOf_63 : decode cX1_passDayOf 63 = .ok (.iload 4, 2) := dcO tk_X1_passDayOf_0 35 rfl
theorem dX1_passDayOf_65 : decode cX1_passDayOf 65 = .ok (.iload_n 3, 1) := dcO tk_X1_passDayOf_0 36 rfl
theorem dX1_passDayOf_66 : decode cX1_passDayOf 66 = .ok (.invokevirtual 84, 3) := dcO tk_X1_passDayOf_0 37 rfl
theorem dX1_passDayOf_69 : decode cX1_passDayOf 69 = .ok (.iinc 6 1, 3) := dcO tk_X1_passDayOf_0 38 rfl
theorem dX1_passDayOf_72 : decode cX1_passDayOf 72 = .ok (.goto (-40), 3) := dcO tk_X1_passDayOf_0 39 rfl
abbrev tb_X1_passDayOf_1 : List (Nat × Instr × Nat) := [(75, .aload_n 0, 1), (76, .getfield 30, 3), (79, .iload_n 1, 1), (80, .iload 4, 2), (82, .iastore, 1), (83, .aload_n 0, 1), (84, .getfield 15, 3), (87, .iload 4, 2), (89, .iaload, 1), (90, .ifCond .le 27, 3), (93, .aload_n 0, 1), (94, .getfield 27, 3), (97, .iload_n 1, 1), (98, .iaload, 1), (99, .iconst 1, 1), (100, .invokestatic 94, 3), (103, .ifCond .eq 14, 3), (106, .aload_n 0, 1), (107, .getfield 15, 3), (110, .iload 4, 2), (112, .dup2, 1), (113, .iaload, 1), (114, .iconst 1, 1), (115, .isub, 1), (116, .iastore, 1), (117, .return_, 1)]
theorem tk_X1_passDayOf_1 : dcA cX1_passDayOf tb_X1_passDayOf_1 = true := by decide +kernel
theorem dX1_passDayOf_75 : decode cX1_passDayOf 75 = .ok (.aload_n 0, 1) := dcO tk_X1_passDayOf_1 0 rfl
theorem dX1_passDayOf_76 : decode cX1_passDayOf 76 = .ok (.getfield 30, 3) := dcO tk_X1_passDayOf_1 1 rfl
theorem dX1_passDayOf_79 : decode cX1_passDayOf 79 = .ok (.iload_n 1, 1) := dcO tk_X1_passDayOf_1 2 rfl
theorem dX1_passDayOf_80 : decode cX1_passDayOf 80 = .ok (.iload 4, 2) := dcO tk_X1_passDayOf_1 3 rfl
theorem dX1_passDayOf_82 : decode cX1_passDayOf 82 = .ok (.iastore, 1) := dcO tk_X1_passDayOf_1 4 rfl
theorem dX1_passDayOf_83 : decode cX1_passDayOf 83 = .ok (.aload_n 0, 1) := dcO tk_X1_passDayOf_1 5 rfl
theorem dX1_passDayOf_84 : decode cX1_passDayOf 84 = .ok (.getfield 15, 3) := dcO tk_X1_passDayOf_1 6 rfl
theorem dX1_passDayOf_87 : decode cX1_passDayOf 87 = .ok (.iload 4, 2) := dcO tk_X1_passDayOf_1 7 rfl
theorem dX1_passDayOf_89 : decode cX1_passDayOf 89 = .ok (.iaload, 1) := dcO tk_X1_passDayOf_1 8 rfl
theorem dX1_passDayOf_90 : decode cX1_passDayOf 90 = .ok (.ifCond .le 27, 3) := dcO tk_X1_passDayOf_1 9 rfl
theorem dX1_passDayOf_93 : decode cX1_passDayOf 93 = .ok (.aload_n 0, 1) := dcO tk_X1_passDayOf_1 10 rfl
theorem dX1_passDayOf_94 : decode cX1_passDayOf 94 = .ok (.getfield 27, 3) := dcO tk_X1_passDayOf_1 11 rfl
theorem dX1_passDayOf_97 : decode cX1_passDayOf 97 = .ok (.iload_n 1, 1) := dcO tk_X1_passDayOf_1 12 rfl
theorem dX1_passDayOf_98 : decode cX1_passDayOf 98 = .ok (.iaload, 1) := dcO tk_X1_passDayOf_1 13 rfl
theorem dX1_passDayOf_99 : decode cX1_passDayOf 99 = .ok (.iconst 1, 1) := dcO tk_X1_passDayOf_1 14 rfl
theorem dX1_passDayOf_100 : decode cX1_passDayOf 100 = .ok (.invokestatic 94, 3) := dcO tk_X1_passDayOf_1 15 rfl
theorem dX1_passDayOf_103 : decode cX1_passDayOf 103 = .ok (.ifCond .eq 14, 3) := dcO tk_X1_passDayOf_1 16 rfl
theorem dX1_passDayOf_106 : decode cX1_passDayOf 106 = .ok (.aload_n 0, 1) := dcO tk_X1_passDayOf_1 17 rfl
theorem dX1_passDayOf_107 : decode cX1_passDayOf 107 = .ok (.getfield 15, 3) := dcO tk_X1_passDayOf_1 18 rfl
theorem dX1_passDayOf_110 : decode cX1_passDayOf 110 = .ok (.iload 4, 2) := dcO tk_X1_passDayOf_1 19 rfl
theorem dX1_passDayOf_112 : decode cX1_passDayOf 112 = .ok (.dup2, 1) := dcO tk_X1_passDayOf_1 20 rfl
theorem dX1_passDayOf_113 : decode cX1_passDayOf 113 = .ok (.iaload, 1) := dcO tk_X1_passDayOf_1 21 rfl
theorem dX1_passDayOf_114 : decode cX1_passDayOf 114 = .ok (.iconst 1, 1) := dcO tk_X1_passDayOf_1 22 rfl
theorem dX1_passDayOf_115 : decode cX1_passDayOf 115 = .ok (.isub, 1) := dcO tk_X1_passDayOf_1 23 rfl
theorem dX1_passDayOf_116 : decode cX1_passDayOf 116 = .ok (.iastore, 1) := dcO tk_X1_passDayOf_1 24 rfl
theorem dX1_passDayOf_117 : decode cX1_passDayOf 117 = .ok (.return_, 1) := dcO tk_X1_passDayOf_1 25 rfl
abbrev tb_X1_comeUnder_0 : List (Nat × Instr × Nat) := [(0, .aload_n 0, 1), (1, .getfield 18, 3), (4, .iload_n 1, 1), (5, .iaload, 1), (6, .iconst (-1), 1), (7, .if_icmp .eq 38, 3), (10, .aload_n 0, 1), (11, .getfield 18, 3), (14, .iload_n 1, 1), (15, .iaload, 1), (16, .iload_n 2, 1), (17, .if_icmp .eq 28, 3), (20, .aload_n 0, 1), (21, .getfield 21, 3), (24, .iload_n 1, 1), (25, .dup2, 1), (26, .iaload, 1), (27, .iconst 1, 1), (28, .iadd, 1), (29, .iastore, 1), (30, .aload_n 0, 1), (31, .aload_n 0, 1), (32, .getfield 58, 3), (35, .iconst 1, 1), (36, .iadd, 1), (37, .ldc 98, 2), (39, .invokestatic 99, 3), (42, .putfield 58, 3), (45, .aload_n 0, 1), (46, .getfield 18, 3), (49, .iload_n 1, 1), (50, .iload_n 2, 1), (51, .iastore, 1), (52, .return_, 1)]
theorem tk_X1_comeUnder_0 : dcA cX1_comeUnder tb_X1_comeUnder_0 = true := by decide +kernel
theorem dX1_comeUnder_0 : decode cX1_comeUnder 0 = .ok (.aload_n 0, 1) := dcO tk_X1_comeUnder_0 0 rfl
theorem dX1_comeUnder_1 : decode cX1_comeUnder 1 = .ok (.getfield 18, 3) := dcO tk_X1_comeUnder_0 1 rfl
theorem dX1_comeUnder_4 : decode cX1_comeUnder 4 = .ok (.iload_n 1, 1) := dcO tk_X1_comeUnder_0 2 rfl
theorem dX1_comeUnder_5 : decode cX1_comeUnder 5 = .ok (.iaload, 1) := dcO tk_X1_comeUnder_0 3 rfl
theorem dX1_comeUnder_6 : decode cX1_comeUnder 6 = .ok (.iconst (-1), 1) := dcO tk_X1_comeUnder_0 4 rfl
theorem dX1_comeUnder_7 : decode cX1_comeUnder 7 = .ok (.if_icmp .eq 38, 3) := dcO tk_X1_comeUnder_0 5 rfl
theorem dX1_comeUnder_10 : decode cX1_comeUnder 10 = .ok (.aload_n 0, 1) := dcO tk_X1_comeUnder_0 6 rfl
theorem dX1_comeUnder_11 : decode cX1_comeUnder 11 = .ok (.getfield 18, 3) := dcO tk_X1_comeUnder_0 7 rfl
theorem dX1_comeUnder_14 : decode cX1_comeUnder 14 = .ok (.iload_n 1, 1) := dcO tk_X1_comeUnder_0 8 rfl
theorem dX1_comeUnder_15 : decode cX1_comeUnder 15 = .ok (.iaload, 1) := dcO tk_X1_comeUnder_0 9 rfl
theorem dX1_comeUnder_16 : decode cX1_comeUnder 16 = .ok (.iload_n 2, 1) := dcO tk_X1_comeUnder_0 10 rfl
theorem dX1_comeUnder_17 : decode cX1_comeUnder 17 = .ok (.if_icmp .eq 28, 3) := dcO tk_X1_comeUnder_0 11 rfl
theorem dX1_comeUnder_20 : decode cX1_comeUnder 20 = .ok (.aload_n 0, 1) := dcO tk_X1_comeUnder_0 12 rfl
theorem dX1_comeUnder_21 : decode cX1_comeUnder 21 = .ok (.getfield 21, 3) := dcO tk_X1_comeUnder_0 13 rfl
theorem dX1_comeUnder_24 : decode cX1_comeUnder 24 = .ok (.iload_n 1, 1) := dcO tk_X1_comeUnder_0 14 rfl
theorem dX1_comeUnder_25 : decode cX1_comeUnder 25 = .ok (.dup2, 1) := dcO tk_X1_comeUnder_0 15 rfl
theorem dX1_comeUnder_26 : decode cX1_comeUnder 26 = .ok (.iaload, 1) := dcO tk_X1_comeUnder_0 16 rfl
theorem dX1_comeUnder_27 : decode cX1_comeUnder 27 = .ok (.iconst 1, 1) := dcO tk_X1_comeUnder_0 17 rfl
theorem dX1_comeUnder_28 : decode cX1_comeUnder 28 = .ok (.iadd, 1) := dcO tk_X1_comeUnder_0 18 rfl
theorem dX1_comeUnder_29 : decode cX1_comeUnder 29 = .ok (.iastore, 1) := dcO tk_X1_comeUnder_0 19 rfl
theorem dX1_comeUnder_30 : decode cX1_comeUnder 30 = .ok (.aload_n 0, 1) := dcO tk_X1_comeUnder_0 20 rfl
theorem dX1_comeUnder_31 : decode cX1_comeUnder 31 = .ok (.aload_n 0, 1) := dcO tk_X1_comeUnder_0 21 rfl
theorem dX1_comeUnder_32 : decode cX1_comeUnder 32 = .ok (.getfield 58, 3) := dcO tk_X1_comeUnder_0 22 rfl
theorem dX1_comeUnder_35 : decode cX1_comeUnder 35 = .ok (.iconst 1, 1) := dcO tk_X1_comeUnder_0 23 rfl
theorem dX1_comeUnder_36 : decode cX1_comeUnder 36 = .ok (.iadd, 1) := dcO tk_X1_comeUnder_0 24 rfl
theorem dX1_comeUnder_37 : decode cX1_comeUnder 37 = .ok (.ldc 98, 2) := dcO tk_X1_comeUnder_0 25 rfl
theorem dX1_comeUnder_39 : decode cX1_comeUnder 39 = .ok (.invokestatic 99, 3) := dcO tk_X1_comeUnder_0 26 rfl
theorem dX1_comeUnder_42 : decode cX1_comeUnder 42 = .ok (.putfield 58, 3) := dcO tk_X1_comeUnder_0 27 rfl
theorem dX1_comeUnder_45 : decode cX1_comeUnder 45 = .ok (.aload_n 0, 1) := dcO tk_X1_comeUnder_0 28 rfl
theorem dX1_comeUnder_46 : decode cX1_comeUnder 46 = .ok (.getfield 18, 3) := dcO tk_X1_comeUnder_0 29 rfl
theorem dX1_comeUnder_49 : decode cX1_comeUnder 49 = .ok (.iload_n 1, 1) := dcO tk_X1_comeUnder_0 30 rfl
theorem dX1_comeUnder_50 : decode cX1_comeUnder 50 = .ok (.iload_n 2, 1) := dcO tk_X1_comeUnder_0 31 rfl
theorem dX1_comeUnder_51 : decode cX1_comeUnder 51 = .ok (.iastore, 1) := dcO tk_X1_comeUnder_0 32 rfl
theorem dX1_comeUnder_52 : decode cX1_comeUnder 52 = .ok (.return_, 1) := dcO tk_X1_comeUnder_0 33 rfl
abbrev tb_X1_drawThrushes_0 : List (Nat × Instr × Nat) := [(0, .iconst 0, 1), (1, .istore_n 1, 1), (2, .iconst 0, 1), (3, .istore_n 2, 1), (4, .iload_n 2, 1), (5, .aload_n 0, 1), (6, .getfield 45, 3), (9, .if_icmp .ge 51, 3), (12, .aload_n 0, 1), (13, .aload_n 0, 1), (14, .getfield 61, 3), (17, .ldc 104, 2), (19, .imul, 1), (20, .sipush 12345, 3), (23, .iadd, 1), (24, .putfield 61, 3), (27, .aload_n 0, 1), (28, .getfield 61, 3), (31, .bipush 8, 2), (33, .iushr, 1), (34, .bipush 20, 2), (36, .irem, 1), (37, .aload_n 0, 1), (38, .getfield 52, 3), (41, .if_icmp .ge 13, 3), (44, .aload_n 0, 1), (45, .getfield 30, 3), (48, .iload_n 2, 1), (49, .iconst 0, 1), (50, .iastore, 1), (51, .iinc 1 1, 3), (54, .iinc 2 1, 3), (57, .goto (-53), 3), (60, .iload_n 1, 1), (61, .ireturn, 1)]
theorem tk_X1_drawThrushes_0 : dcA cX1_drawThrushes tb_X1_drawThrushes_0 = true := by decide +kernel
theorem dX1_drawThrushes_0 : decode cX1_drawThrushes 0 = .ok (.iconst 0, 1) := dcO tk_X1_drawThrushes_0 0 rfl
theorem dX1_drawThrushes_1 : decode cX1_drawThrushes 1 = .ok (.istore_n 1, 1) := dcO tk_X1_drawThrushes_0 1 rfl
theorem dX1_drawThrushes_2 : decode cX1_drawThrushes 2 = .ok (.iconst 0, 1) := dcO tk_X1_drawThrushes_0 2 rfl
theorem dX1_drawThrushes_3 : decode cX1_drawThrushes 3 = .ok (.istore_n 2, 1) := dcO tk_X1_drawThrushes_0 3 rfl
theorem dX1_drawThrushes_4 : decode cX1_drawThrushes 4 = .ok (.iload_n 2, 1) := dcO tk_X1_drawThrushes_0 4 rfl
theorem dX1_drawThrushes_5 : decode cX1_drawThrushes 5 = .ok (.aload_n 0, 1) := dcO tk_X1_drawThrushes_0 5 rfl
theorem dX1_drawThrushes_6 : decode cX1_drawThrushes 6 = .ok (.getfield 45, 3) := dcO tk_X1_drawThrushes_0 6 rfl
theorem dX1_drawThrushes_9 : decode cX1_drawThrushes 9 = .ok (.if_icmp .ge 51, 3) := dcO tk_X1_drawThrushes_0 7 rfl
theorem dX1_drawThrushes_12 : decode cX1_drawThrushes 12 = .ok (.aload_n 0, 1) := dcO tk_X1_drawThrushes_0 8 rfl
theorem dX1_drawThrushes_13 : decode cX1_drawThrushes 13 = .ok (.aload_n 0, 1) := dcO tk_X1_drawThrushes_0 9 rfl
theorem dX1_drawThrushes_14 : decode cX1_drawThrushes 14 = .ok (.getfield 61, 3) := dcO tk_X1_drawThrushes_0 10 rfl
theorem dX1_drawThrushes_17 : decode cX1_drawThrushes 17 = .ok (.ldc 104, 2) := dcO tk_X1_drawThrushes_0 11 rfl
theorem dX1_drawThrushes_19 : decode cX1_drawThrushes 19 = .ok (.imul, 1) := dcO tk_X1_drawThrushes_0 12 rfl
theorem dX1_drawThrushes_20 : decode cX1_drawThrushes 20 = .ok (.sipush 12345, 3) := dcO tk_X1_drawThrushes_0 13 rfl
theorem dX1_drawThrushes_23 : decode cX1_drawThrushes 23 = .ok (.iadd, 1) := dcO tk_X1_drawThrushes_0 14 rfl
theorem dX1_drawThrushes_24 : decode cX1_drawThrushes 24 = .ok (.putfield 61, 3) := dcO tk_X1_drawThrushes_0 15 rfl
theorem dX1_drawThrushes_27 : decode cX1_drawThrushes 27 = .ok (.aload_n 0, 1) := dcO tk_X1_drawThrushes_0 16 rfl
theorem dX1_drawThrushes_28 : decode cX1_drawThrushes 28 = .ok (.getfield 61, 3) := dcO tk_X1_drawThrushes_0 17 rfl
theorem dX1_drawThrushes_31 : decode cX1_drawThrushes 31 = .ok (.bipush 8, 2) := dcO tk_X1_drawThrushes_0 18 rfl
theorem dX1_drawThrushes_33 : decode cX1_drawThrushes 33 = .ok (.iushr, 1) := dcO tk_X1_drawThrushes_0 19 rfl
theorem dX1_drawThrushes_34 : decode cX1_drawThrushes 34 = .ok (.bipush 20, 2) := dcO tk_X1_drawThrushes_0 20 rfl
theorem dX1_drawThrushes_36 : decode cX1_drawThrushes 36 = .ok (.irem, 1) := dcO tk_X1_drawThrushes_0 21 rfl
theorem dX1_drawThrushes_37 : decode cX1_drawThrushes 37 = .ok (.aload_n 0, 1) := dcO tk_X1_drawThrushes_0 22 rfl
theorem dX1_drawThrushes_38 : decode cX1_drawThrushes 38 = .ok (.getfield 52, 3) := dcO tk_X1_drawThrushes_0 23 rfl
theorem dX1_drawThrushes_41 : decode cX1_drawThrushes 41 = .ok (.if_icmp .ge 13, 3) := dcO tk_X1_drawThrushes_0 24 rfl
theorem dX1_drawThrushes_44 : decode cX1_drawThrushes 44 = .ok (.aload_n 0, 1) := dcO tk_X1_drawThrushes_0 25 rfl
theorem dX1_drawThrushes_45 : decode cX1_drawThrushes 45 = .ok (.getfield 30, 3) := dcO tk_X1_drawThrushes_0 26 rfl
theorem dX1_drawThrushes_48 : decode cX1_drawThrushes 48 = .ok (.iload_n 2, 1) := dcO tk_X1_drawThrushes_0 27 rfl
theorem dX1_drawThrushes_49 : decode cX1_drawThrushes 49 = .ok (.iconst 0, 1) := dcO tk_X1_drawThrushes_0 28 rfl
theorem dX1_drawThrushes_50 : decode cX1_drawThrushes 50 = .ok (.iastore, 1) := dcO tk_X1_drawThrushes_0 29 rfl
theorem dX1_drawThrushes_51 : decode cX1_drawThrushes 51 = .ok (.iinc 1 1, 3) := dcO tk_X1_drawThrushes_0 30 rfl
theorem dX1_drawThrushes_54 : decode cX1_drawThrushes 54 = .ok (.iinc 2 1, 3) := dcO tk_X1_drawThrushes_0 31 rfl
theorem dX1_drawThrushes_57 : decode cX1_drawThrushes 57 = .ok (.goto (-53), 3) := dcO tk_X1_drawThrushes_0 32 rfl
theorem dX1_drawThrushes_60 : decode cX1_drawThrushes 60 = .ok (.iload_n 1, 1) := dcO tk_X1_drawThrushes_0 33 rfl
theorem dX1_drawThrushes_61 : decode cX1_drawThrushes 61 = .ok (.ireturn, 1) := dcO tk_X1_drawThrushes_0 34 rfl
abbrev tb_X1_isLawful_0 : List (Nat × Instr × Nat) := [(0, .aload_n 0, 1), (1, .getfield 18, 3), (4, .iload_n 1, 1), (5, .iaload, 1), (6, .istore_n 3, 1), (7, .iload_n 3, 1), (8, .iconst (-1), 1), (9, .if_icmp .eq 16, 3), (12, .aload_n 0, 1), (13, .getfield 24, 3), (16, .iload_n 3, 1), (17, .iaload, 1), (18, .iload_n 2, 1), (19, .ishr, 1), (20, .iconst 1, 1), (21, .iand, 1), (22, .ifCond .ne 7, 3), (25, .iconst 1, 1), (26, .goto 4, 3), (29, .iconst 0, 1), (30, .ireturn, 1)]
theorem tk_X1_isLawful_0 : dcA cX1_isLawful tb_X1_isLawful_0 = true := by decide +kernel
theorem dX1_isLawful_0 : decode cX1_isLawful 0 = .ok (.aload_n 0, 1) := dcO tk_X1_isLawful_0 0 rfl
theorem dX1_isLawful_1 : decode cX1_isLawful 1 = .ok (.getfield 18, 3) := dcO tk_X1_isLawful_0 1 rfl
theorem dX1_isLawful_4 : decode cX1_isLawful 4 = .ok (.iload_n 1, 1) := dcO tk_X1_isLawful_0 2 rfl
theorem dX1_isLawful_5 : decode cX1_isLawful 5 = .ok (.iaload, 1) := dcO tk_X1_isLawful_0 3 rfl
theorem dX1_isLawful_6 : decode cX1_isLawful 6 = .ok (.istore_n 3, 1) := dcO tk_X1_isLawful_0 4 rfl
theorem dX1_isLawful_7 : decode cX1_isLawful 7 = .ok (.iload_n 3, 1) := dcO tk_X1_isLawful_0 5 rfl
theorem dX1_isLawful_8 : decode cX1_isLawful 8 = .ok (.iconst (-1), 1) := dcO tk_X1_isLawful_0 6 rfl
theorem dX1_isLawful_9 : decode cX1_isLawful 9 = .ok (.if_icmp .eq 16, 3) := dcO tk_X1_isLawful_0 7 rfl
theorem dX1_isLawful_12 : decode cX1_isLawful 12 = .ok (.aload_n 0, 1) := dcO tk_X1_isLawful_0 8 rfl
theorem dX1_isLawful_13 : decode cX1_isLawful 13 = .ok (.getfield 24, 3) := dcO tk_X1_isLawful_0 9 rfl
theorem dX1_isLawful_16 : decode cX1_isLawful 16 = .ok (.iload_n 3, 1) := dcO tk_X1_isLawful_0 10 rfl
theorem dX1_isLawful_17 : decode cX1_isLawful 17 = .ok (.iaload, 1) := dcO tk_X1_isLawful_0 11 rfl
theorem dX1_isLawful_18 : decode cX1_isLawful 18 = .ok (.iload_n 2, 1) := dcO tk_X1_isLawful_0 12 rfl
theorem dX1_isLawful_19 : decode cX1_isLawful 19 = .ok (.ishr, 1) := dcO tk_X1_isLawful_0 13 rfl
theorem dX1_isLawful_20 : decode cX1_isLawful 20 = .ok (.iconst 1, 1) := dcO tk_X1_isLawful_0 14 rfl
theorem dX1_isLawful_21 : decode cX1_isLawful 21 = .ok (.iand, 1) := dcO tk_X1_isLawful_0 15 rfl
theorem dX1_isLawful_22 : decode cX1_isLawful 22 = .ok (.ifCond .ne 7, 3) := dcO tk_X1_isLawful_0 16 rfl
theorem dX1_isLawful_25 : decode cX1_isLawful 25 = .ok (.iconst 1, 1) := dcO tk_X1_isLawful_0 17 rfl
theorem dX1_isLawful_26 : decode cX1_isLawful 26 = .ok (.goto 4, 3) := dcO tk_X1_isLawful_0 18 rfl
theorem dX1_isLawful_29 : decode cX1_isLawful 29 = .ok (.iconst 0, 1) := dcO tk_X1_isLawful_0 19 rfl
theorem dX1_isLawful_30 : decode cX1_isLawful 30 = .ok (.ireturn, 1) := dcO tk_X1_isLawful_0 20 rfl
abbrev tb_X1_openCellsFor_0 : List (Nat × Instr × Nat) := [(0, .iconst 0, 1), (1, .istore_n 2, 1), (2, .iconst 0, 1), (3, .istore_n 3, 1), (4, .iload_n 3, 1), (5, .bipush 81, 2), (7, .if_icmp .ge 30, 3), (10, .aload_n 0, 1), (11, .getfield 9, 3), (14, .iload_n 3, 1), (15, .iaload, 1), (16, .ifCond .ne 15, 3), (19, .aload_n 0, 1), (20, .iload_n 3, 1), (21, .iload_n 1, 1), (22, .invokevirtual 105, 3), (25, .ifCond .eq 6, 3), (28, .iinc 2 1, 3), (31, .iinc 3 1, 3), (34, .goto (-30), 3), (37, .iload_n 2, 1), (38, .ireturn, 1)]
theorem tk_X1_openCellsFor_0 : dcA cX1_openCellsFor tb_X1_openCellsFor_0 = true := by decide +kernel
theorem dX1_openCellsFor_0 : decode cX1_openCellsFor 0 = .ok (.iconst 0, 1) := dcO tk_X1_openCellsFor_0 0 rfl
theorem dX1_openCellsFor_1 : decode cX1_openCellsFor 1 = .ok (.istore_n 2, 1) := dcO tk_X1_openCellsFor_0 1 rfl
theorem dX1_openCellsFor_2 : decode cX1_openCellsFor 2 = .ok (.iconst 0, 1) := dcO tk_X1_openCellsFor_0 2 rfl
theorem dX1_openCellsFor_3 : decode cX1_openCellsFor 3 = .ok (.istore_n 3, 1) := dcO tk_X1_openCellsFor_0 3 rfl
theorem dX1_openCellsFor_4 : decode cX1_openCellsFor 4 = .ok (.iload_n 3, 1) := dcO tk_X1_openCellsFor_0 4 rfl
theorem dX1_openCellsFor_5 : decode cX1_openCellsFor 5 = .ok (.bipush 81, 2) := dcO tk_X1_openCellsFor_0 5 rfl
theorem dX1_openCellsFor_7 : decode cX1_openCellsFor 7 = .ok (.if_icmp .ge 30, 3) := dcO tk_X1_openCellsFor_0 6 rfl
theorem dX1_openCellsFor_10 : decode cX1_openCellsFor 10 = .ok (.aload_n 0, 1) := dcO tk_X1_openCellsFor_0 7 rfl
theorem dX1_openCellsFor_11 : decode cX1_openCellsFor 11 = .ok (.getfield 9, 3) := dcO tk_X1_openCellsFor_0 8 rfl
theorem dX1_openCellsFor_14 : decode cX1_openCellsFor 14 = .ok (.iload_n 3, 1) := dcO tk_X1_openCellsFor_0 9 rfl
theorem dX1_openCellsFor_15 : decode cX1_openCellsFor 15 = .ok (.iaload, 1) := dcO tk_X1_openCellsFor_0 10 rfl
theorem dX1_openCellsFor_16 : decode cX1_openCellsFor 16 = .ok (.ifCond .ne 15, 3) := dcO tk_X1_openCellsFor_0 11 rfl
theorem dX1_openCellsFor_19 : decode cX1_openCellsFor 19 = .ok (.aload_n 0, 1) := dcO tk_X1_openCellsFor_0 12 rfl
theorem dX1_openCellsFor_20 : decode cX1_openCellsFor 20 = .ok (.iload_n 3, 1) := dcO tk_X1_openCellsFor_0 13 rfl
theorem dX1_openCellsFor_21 : decode cX1_openCellsFor 21 = .ok (.iload_n 1, 1) := dcO tk_X1_openCellsFor_0 14 rfl
theorem dX1_openCellsFor_22 : decode cX1_openCellsFor 22 = .ok (.invokevirtual 105, 3) := dcO tk_X1_openCellsFor_0 15 rfl
theorem dX1_openCellsFor_25 : decode cX1_openCellsFor 25 = .ok (.ifCond .eq 6, 3) := dcO tk_X1_openCellsFor_0 16 rfl
theorem dX1_openCellsFor_28 : decode cX1_openCellsFor 28 = .ok (.iinc 2 1, 3) := dcO tk_X1_openCellsFor_0 17 rfl
theorem dX1_openCellsFor_31 : decode cX1_openCellsFor 31 = .ok (.iinc 3 1, 3) := dcO tk_X1_openCellsFor_0 18 rfl
theorem dX1_openCellsFor_34 : decode cX1_openCellsFor 34 = .ok (.goto (-30), 3) := dcO tk_X1_openCellsFor_0 19 rfl
theorem dX1_openCellsFor_37 : decode cX1_openCellsFor 37 = .ok (.iload_n 2, 1) := dcO tk_X1_openCellsFor_0 20 rfl
theorem dX1_openCellsFor_38 : decode cX1_openCellsFor 38 = .ok (.ireturn, 1) := dcO tk_X1_openCellsFor_0 21 rfl
abbrev tb_X1_freeDeeds_0 : List (Nat × Instr × Nat) := [(0, .sipush 255, 3), (3, .istore_n 1, 1), (4, .iconst 0, 1), (5, .istore_n 2, 1), (6, .iload_n 2, 1), (7, .bipush 81, 2), (9, .if_icmp .ge 44, 3), (12, .aload_n 0, 1), (13, .getfield 9, 3), (16, .iload_n 2, 1), (17, .iaload, 1), (18, .ifCond .ne 29, 3), (21, .aload_n 0, 1), (22, .getfield 18, 3), (25, .iload_n 2, 1), (26, .iaload, 1), (27, .iconst (-1), 1), (28, .if_icmp .eq 19, 3), (31, .iload_n 1, 1), (32, .aload_n 0, 1), (33, .getfield 24, 3), (36, .aload_n 0, 1), (37, .getfield 18, 3), (40, .iload_n 2, 1), (41, .iaload, 1), (42, .iaload, 1), (43, .iconst (-1), 1), (44, .ixor, 1), (45, .iand, 1), (46, .istore_n 1, 1), (47, .iinc 2 1, 3), (50, .goto (-44), 3), (53, .iload_n 1, 1), (54, .ireturn, 1)]
theorem tk_X1_freeDeeds_0 : dcA cX1_freeDeeds tb_X1_freeDeeds_0 = true := by decide +kernel
theorem dX1_freeDeeds_0 : decode cX1_freeDeeds 0 = .ok (.sipush 255, 3) := dcO tk_X1_freeDeeds_0 0 rfl
theorem dX1_freeDeeds_3 : decode cX1_freeDeeds 3 = .ok (.istore_n 1, 1) := dcO tk_X1_freeDeeds_0 1 rfl
theorem dX1_freeDeeds_4 : decode cX1_freeDeeds 4 = .ok (.iconst 0, 1) := dcO tk_X1_freeDeeds_0 2 rfl
theorem dX1_freeDeeds_5 : decode cX1_freeDeeds 5 = .ok (.istore_n 2, 1) := dcO tk_X1_freeDeeds_0 3 rfl
theorem dX1_freeDeeds_6 : decode cX1_freeDeeds 6 = .ok (.iload_n 2, 1) := dcO tk_X1_freeDeeds_0 4 rfl
theorem dX1_freeDeeds_7 : decode cX1_freeDeeds 7 = .ok (.bipush 81, 2) := dcO tk_X1_freeDeeds_0 5 rfl
theorem dX1_freeDeeds_9 : decode cX1_freeDeeds 9 = .ok (.if_icmp .ge 44, 3) := dcO tk_X1_freeDeeds_0 6 rfl
theorem dX1_freeDeeds_12 : decode cX1_freeDeeds 12 = .ok (.aload_n 0, 1) := dcO tk_X1_freeDeeds_0 7 rfl
theorem dX1_freeDeeds_13 : decode cX1_freeDeeds 13 = .ok (.getfield 9, 3) := dcO tk_X1_freeDeeds_0 8 rfl
theorem dX1_freeDeeds_16 : decode cX1_freeDeeds 16 = .ok (.iload_n 2, 1) := dcO tk_X1_freeDeeds_0 9 rfl
theorem dX1_freeDeeds_17 : decode cX1_freeDeeds 17 = .ok (.iaload, 1) := dcO tk_X1_freeDeeds_0 10 rfl
theorem dX1_freeDeeds_18 : decode cX1_freeDeeds 18 = .ok (.ifCond .ne 29, 3) := dcO tk_X1_freeDeeds_0 11 rfl
theorem dX1_freeDeeds_21 : decode cX1_freeDeeds 21 = .ok (.aload_n 0, 1) := dcO tk_X1_freeDeeds_0 12 rfl
theorem dX1_freeDeeds_22 : decode cX1_freeDeeds 22 = .ok (.getfield 18, 3) := dcO tk_X1_freeDeeds_0 13 rfl
theorem dX1_freeDeeds_25 : decode cX1_freeDeeds 25 = .ok (.iload_n 2, 1) := dcO tk_X1_freeDeeds_0 14 rfl
theorem dX1_freeDeeds_26 : decode cX1_freeDeeds 26 = .ok (.iaload, 1) := dcO tk_X1_freeDeeds_0 15 rfl
theorem dX1_freeDeeds_27 : decode cX1_freeDeeds 27 = .ok (.iconst (-1), 1) := dcO tk_X1_freeDeeds_0 16 rfl
theorem dX1_freeDeeds_28 : decode cX1_freeDeeds 28 = .ok (.if_icmp .eq 19, 3) := dcO tk_X1_freeDeeds_0 17 rfl
theorem dX1_freeDeeds_31 : decode cX1_freeDeeds 31 = .ok (.iload_n 1, 1) := dcO tk_X1_freeDeeds_0 18 rfl
theorem dX1_freeDeeds_32 : decode cX1_freeDeeds 32 = .ok (.aload_n 0, 1) := dcO tk_X1_freeDeeds_0 19 rfl
theorem dX1_freeDeeds_33 : decode cX1_freeDeeds 33 = .ok (.getfield 24, 3) := dcO tk_X1_freeDeeds_0 20 rfl
theorem dX1_freeDeeds_36 : decode cX1_freeDeeds 36 = .ok (.aload_n 0, 1) := dcO tk_X1_freeDeeds_0 21 rfl
theorem dX1_freeDeeds_37 : decode cX1_freeDeeds 37 = .ok (.getfield 18, 3) := dcO tk_X1_freeDeeds_0 22 rfl
theorem dX1_freeDeeds_40 : decode cX1_freeDeeds 40 = .ok (.iload_n 2, 1) := dcO tk_X1_freeDeeds_0 23 rfl
theorem dX1_freeDeeds_41 : decode cX1_freeDeeds 41 = .ok (.iaload, 1) := dcO tk_X1_freeDeeds_0 24 rfl
theorem dX1_freeDeeds_42 : decode cX1_freeDeeds 42 = .ok (.iaload, 1) := dcO tk_X1_freeDeeds_0 25 rfl
theorem dX1_freeDeeds_43 : decode cX1_freeDeeds 43 = .ok (.iconst (-1), 1) := dcO tk_X1_freeDeeds_0 26 rfl
theorem dX1_freeDeeds_44 : decode cX1_freeDeeds 44 = .ok (.ixor, 1) := dcO tk_X1_freeDeeds_0 27 rfl
theorem dX1_freeDeeds_45 : decode cX1_freeDeeds 45 = .ok (.iand, 1) := dcO tk_X1_freeDeeds_0 28 rfl
theorem dX1_freeDeeds_46 : decode cX1_freeDeeds 46 = .ok (.istore_n 1, 1) := dcO tk_X1_freeDeeds_0 29 rfl
theorem dX1_freeDeeds_47 : decode cX1_freeDeeds 47 = .ok (.iinc 2 1, 3) := dcO tk_X1_freeDeeds_0 30 rfl
theorem dX1_freeDeeds_50 : decode cX1_freeDeeds 50 = .ok (.goto (-44), 3) := dcO tk_X1_freeDeeds_0 31 rfl
theorem dX1_freeDeeds_53 : decode cX1_freeDeeds 53 = .ok (.iload_n 1, 1) := dcO tk_X1_freeDeeds_0 32 rfl
theorem dX1_freeDeeds_54 : decode cX1_freeDeeds 54 = .ok (.ireturn, 1) := dcO tk_X1_freeDeeds_0 33 rfl
abbrev tb_X1_cellsUnder_0 : List (Nat × Instr × Nat) := [(0, .iconst 0, 1), (1, .istore_n 2, 1), (2, .iconst 0, 1), (3, .istore_n 3, 1), (4, .iload_n 3, 1), (5, .bipush 81, 2), (7, .if_icmp .ge 22, 3), (10, .aload_n 0, 1), (11, .getfield 18, 3), (14, .iload_n 3, 1), (15, .iaload, 1), (16, .iload_n 1, 1), (17, .if_icmp .ne 6, 3), (20, .iinc 2 1, 3), (23, .iinc 3 1, 3), (26, .goto (-22), 3), (29, .iload_n 2, 1), (30, .ireturn, 1)]
theorem tk_X1_cellsUnder_0 : dcA cX1_cellsUnder tb_X1_cellsUnder_0 = true := by decide +kernel
theorem dX1_cellsUnder_0 : decode cX1_cellsUnder 0 = .ok (.iconst 0, 1) := dcO tk_X1_cellsUnder_0 0 rfl
theorem dX1_cellsUnder_1 : decode cX1_cellsUnder 1 = .ok (.istore_n 2, 1) := dcO tk_X1_cellsUnder_0 1 rfl
theorem dX1_cellsUnder_2 : decode cX1_cellsUnder 2 = .ok (.iconst 0, 1) := dcO tk_X1_cellsUnder_0 2 rfl
theorem dX1_cellsUnder_3 : decode cX1_cellsUnder 3 = .ok (.istore_n 3, 1) := dcO tk_X1_cellsUnder_0 3 rfl
theorem dX1_cellsUnder_4 : decode cX1_cellsUnder 4 = .ok (.iload_n 3, 1) := dcO tk_X1_cellsUnder_0 4 rfl
theorem dX1_cellsUnder_5 : decode cX1_cellsUnder 5 = .ok (.bipush 81, 2) := dcO tk_X1_cellsUnder_0 5 rfl
theorem dX1_cellsUnder_7 : decode cX1_cellsUnder 7 = .ok (.if_icmp .ge 22, 3) := dcO tk_X1_cellsUnder_0 6 rfl
theorem dX1_cellsUnder_10 : decode cX1_cellsUnder 10 = .ok (.aload_n 0, 1) := dcO tk_X1_cellsUnder_0 7 rfl
theorem dX1_cellsUnder_11 : decode cX1_cellsUnder 11 = .ok (.getfield 18, 3) := dcO tk_X1_cellsUnder_0 8 rfl
theorem dX1_cellsUnder_14 : decode cX1_cellsUnder 14 = .ok (.iload_n 3, 1) := dcO tk_X1_cellsUnder_0 9 rfl
theorem dX1_cellsUnder_15 : decode cX1_cellsUnder 15 = .ok (.iaload, 1) := dcO tk_X1_cellsUnder_0 10 rfl
theorem dX1_cellsUnder_16 : decode cX1_cellsUnder 16 = .ok (.iload_n 1, 1) := dcO tk_X1_cellsUnder_0 11 rfl
theorem dX1_cellsUnder_17 : decode cX1_cellsUnder 17 = .ok (.if_icmp .ne 6, 3) := dcO tk_X1_cellsUnder_0 12 rfl
theorem dX1_cellsUnder_20 : decode cX1_cellsUnder 20 = .ok (.iinc 2 1, 3) := dcO tk_X1_cellsUnder_0 13 rfl
theorem dX1_cellsUnder_23 : decode cX1_cellsUnder 23 = .ok (.iinc 3 1, 3) := dcO tk_X1_cellsUnder_0 14 rfl
theorem dX1_cellsUnder_26 : decode cX1_cellsUnder 26 = .ok (.goto (-22), 3) := dcO tk_X1_cellsUnder_0 15 rfl
theorem dX1_cellsUnder_29 : decode cX1_cellsUnder 29 = .ok (.iload_n 2, 1) := dcO tk_X1_cellsUnder_0 16 rfl
theorem dX1_cellsUnder_30 : decode cX1_cellsUnder 30 = .ok (.ireturn, 1) := dcO tk_X1_cellsUnder_0 17 rfl
abbrev tb_X1_lawfulCells_0 : List (Nat × Instr × Nat) := [(0, .bipush 81, 2), (2, .aload_n 0, 1), (3, .iconst (-1), 1), (4, .invokevirtual 108, 3), (7, .isub, 1), (8, .ireturn, 1)]
theorem tk_X1_lawfulCells_0 : dcA cX1_lawfulCells tb_X1_lawfulCells_0 = true := by decide +kernel
theorem dX1_lawfulCells_0 : decode cX1_lawfulCells 0 = .ok (.bipush 81, 2) := dcO tk_X1_lawfulCells_0 0 rfl
theorem dX1_lawfulCells_2 : decode cX1_lawfulCells 2 = .ok (.aload_n 0, 1) := dcO tk_X1_lawfulCells_0 1 rfl
theorem dX1_lawfulCells_3 : decode cX1_lawfulCells 3 = .ok (.iconst (-1), 1) := dcO tk_X1_lawfulCells_0 2 rfl
theorem dX1_lawfulCells_4 : decode cX1_lawfulCells 4 = .ok (.invokevirtual 108, 3) := dcO tk_X1_lawfulCells_0 3 rfl
theorem dX1_lawfulCells_7 : decode cX1_lawfulCells 7 = .ok (.isub, 1) := dcO tk_X1_lawfulCells_0 4 rfl
theorem dX1_lawfulCells_8 : decode cX1_lawfulCells 8 = .ok (.ireturn, 1) := dcO tk_X1_lawfulCells_0 5 rfl
abbrev tb_X1_allLeaves_0 : List (Nat × Instr × Nat) := [(0, .aload_n 0, 1), (1, .getfield 15, 3), (4, .invokestatic 111, 3), (7, .ireturn, 1)]
theorem tk_X1_allLeaves_0 : dcA cX1_allLeaves tb_X1_allLeaves_0 = true := by decide +kernel
theorem dX1_allLeaves_0 : decode cX1_allLeaves 0 = .ok (.aload_n 0, 1) := dcO tk_X1_allLeaves_0 0 rfl
theorem dX1_allLeaves_1 : decode cX1_allLeaves 1 = .ok (.getfield 15, 3) := dcO tk_X1_allLeaves_0 1 rfl
theorem dX1_allLeaves_4 : decode cX1_allLeaves 4 = .ok (.invokestatic 111, 3) := dcO tk_X1_allLeaves_0 2 rfl
theorem dX1_allLeaves_7 : decode cX1_allLeaves 7 = .ok (.ireturn, 1) := dcO tk_X1_allLeaves_0 3 rfl
abbrev tb_X1_allHedges_0 : List (Nat × Instr × Nat) := [(0, .aload_n 0, 1), (1, .getfield 9, 3), (4, .invokestatic 111, 3), (7, .ireturn, 1)]
theorem tk_X1_allHedges_0 : dcA cX1_allHedges tb_X1_allHedges_0 = true := by decide +kernel
theorem dX1_allHedges_0 : decode cX1_allHedges 0 = .ok (.aload_n 0, 1) := dcO tk_X1_allHedges_0 0 rfl
theorem dX1_allHedges_1 : decode cX1_allHedges 1 = .ok (.getfield 9, 3) := dcO tk_X1_allHedges_0 1 rfl
theorem dX1_allHedges_4 : decode cX1_allHedges 4 = .ok (.invokestatic 111, 3) := dcO tk_X1_allHedges_0 2 rfl
theorem dX1_allHedges_7 : decode cX1_allHedges 7 = .ok (.ireturn, 1) := dcO tk_X1_allHedges_0 3 rfl
abbrev tb_X1_sumOf_0 : List (Nat × Instr × Nat) := [(0, .iconst 0, 1), (1, .istore_n 1, 1), (2, .aload_n 0, 1), (3, .astore_n 2, 1), (4, .aload_n 2, 1), (5, .arraylength, 1), (6, .istore_n 3, 1), (7, .iconst 0, 1), (8, .istore 4, 2), (10, .iload 4, 2), (12, .iload_n 3, 1), (13, .if_icmp .ge 20, 3), (16, .aload_n 2, 1), (17, .iload 4, 2), (19, .iaload, 1), (20, .istore 5, 2), (22, .iload_n 1, 1), (23, .iload 5, 2), (25, .iadd, 1), (26, .istore_n 1, 1), (27, .iinc 4 1, 3), (30, .goto (-20), 3), (33, .iload_n 1, 1), (34, .ireturn, 1)]
theorem tk_X1_sumOf_0 : dcA cX1_sumOf tb_X1_sumOf_0 = true := by decide +kernel
theorem dX1_sumOf_0 : decode cX1_sumOf 0 = .ok (.iconst 0, 1) := dcO tk_X1_sumOf_0 0 rfl
theorem dX1_sumOf_1 : decode cX1_sumOf 1 = .ok (.istore_n 1, 1) := dcO tk_X1_sumOf_0 1 rfl
theorem dX1_sumOf_2 : decode cX1_sumOf 2 = .ok (.aload_n 0, 1) := dcO tk_X1_sumOf_0 2 rfl
theorem dX1_sumOf_3 : decode cX1_sumOf 3 = .ok (.astore_n 2, 1) := dcO tk_X1_sumOf_0 3 rfl
theorem dX1_sumOf_4 : decode cX1_sumOf 4 = .ok (.aload_n 2, 1) := dcO tk_X1_sumOf_0 4 rfl
theorem dX1_sumOf_5 : decode cX1_sumOf 5 = .ok (.arraylength, 1) := dcO tk_X1_sumOf_0 5 rfl
theorem dX1_sumOf_6 : decode cX1_sumOf 6 = .ok (.istore_n 3, 1) := dcO tk_X1_sumOf_0 6 rfl
theorem dX1_sumOf_7 : decode cX1_sumOf 7 = .ok (.iconst 0, 1) := dcO tk_X1_sumOf_0 7 rfl
theorem dX1_sumOf_8 : decode cX1_sumOf 8 = .ok (.istore 4, 2) := dcO tk_X1_sumOf_0 8 rfl
theorem dX1_sumOf_10 : decode cX1_sumOf 10 = .ok (.iload 4, 2) := dcO tk_X1_sumOf_0 9 rfl
theorem dX1_sumOf_12 : decode cX1_sumOf 12 = .ok (.iload_n 3, 1) := dcO tk_X1_sumOf_0 10 rfl
theorem dX1_sumOf_13 : decode cX1_sumOf 13 = .ok (.if_icmp .ge 20, 3) := dcO tk_X1_sumOf_0 11 rfl
theorem dX1_sumOf_16 : decode cX1_sumOf 16 = .ok (.aload_n 2, 1) := dcO tk_X1_sumOf_0 12 rfl
theorem dX1_sumOf_17 : decode cX1_sumOf 17 = .ok (.iload 4, 2) := dcO tk_X1_sumOf_0 13 rfl
theorem dX1_sumOf_19 : decode cX1_sumOf 19 = .ok (.iaload, 1) := dcO tk_X1_sumOf_0 14 rfl
theorem dX1_sumOf_20 : decode cX1_sumOf 20 = .ok (.istore 5, 2) := dcO tk_X1_sumOf_0 15 rfl
theorem dX1_sumOf_22 : decode cX1_sumOf 22 = .ok (.iload_n 1, 1) := dcO tk_X1_sumOf_0 16 rfl
theorem dX1_sumOf_23 : decode cX1_sumOf 23 = .ok (.iload 5, 2) := dcO tk_X1_sumOf_0 17 rfl
theorem dX1_sumOf_25 : decode cX1_sumOf 25 = .ok (.iadd, 1) := dcO tk_X1_sumOf_0 18 rfl
theorem dX1_sumOf_26 : decode cX1_sumOf 26 = .ok (.istore_n 1, 1) := dcO tk_X1_sumOf_0 19 rfl
theorem dX1_sumOf_27 : decode cX1_sumOf 27 = .ok (.iinc 4 1, 3) := dcO tk_X1_sumOf_0 20 rfl
theorem dX1_sumOf_30 : decode cX1_sumOf 30 = .ok (.goto (-20), 3) := dcO tk_X1_sumOf_0 21 rfl
theorem dX1_sumOf_33 : decode cX1_sumOf 33 = .ok (.iload_n 1, 1) := dcO tk_X1_sumOf_0 22 rfl
theorem dX1_sumOf_34 : decode cX1_sumOf 34 = .ok (.ireturn, 1) := dcO tk_X1_sumOf_0 23 rfl
abbrev tb_X1_arrivedSnails_0 : List (Nat × Instr × Nat) := [(0, .iconst 0, 1), (1, .istore_n 1, 1), (2, .iconst 0, 1), (3, .istore_n 2, 1), (4, .iload_n 2, 1), (5, .aload_n 0, 1), (6, .getfield 45, 3), (9, .if_icmp .ge 30, 3), (12, .aload_n 0, 1), (13, .getfield 30, 3), (16, .iload_n 2, 1), (17, .iaload, 1), (18, .aload_n 0, 1), (19, .getfield 36, 3), (22, .iload_n 2, 1), (23, .iaload, 1), (24, .if_icmp .ne 9, 3), (27, .iload_n 1, 1), (28, .iconst 1, 1), (29, .iload_n 2, 1), (30, .ishl, 1), (31, .ior, 1), (32, .istore_n 1, 1), (33, .iinc 2 1, 3), (36, .goto (-32), 3), (39, .iload_n 1, 1), (40, .ireturn, 1)]
theorem tk_X1_arrivedSnails_0 : dcA cX1_arrivedSnails tb_X1_arrivedSnails_0 = true := by decide +kernel
theorem dX1_arrivedSnails_0 : decode cX1_arrivedSnails 0 = .ok (.iconst 0, 1) := dcO tk_X1_arrivedSnails_0 0 rfl
theorem dX1_arrivedSnails_1 : decode cX1_arrivedSnails 1 = .ok (.istore_n 1, 1) := dcO tk_X1_arrivedSnails_0 1 rfl
theorem dX1_arrivedSnails_2 : decode cX1_arrivedSnails 2 = .ok (.iconst 0, 1) := dcO tk_X1_arrivedSnails_0 2 rfl
theorem dX1_arrivedSnails_3 : decode cX1_arrivedSnails 3 = .ok (.istore_n 2, 1) := dcO tk_X1_arrivedSnails_0 3 rfl
theorem dX1_arrivedSnails_4 : decode cX1_arrivedSnails 4 = .ok (.iload_n 2, 1) := dcO tk_X1_arrivedSnails_0 4 rfl
theorem dX1_arrivedSnails_5 : decode cX1_arrivedSnails 5 = .ok (.aload_n 0, 1) := dcO tk_X1_arrivedSnails_0 5 rfl
theorem dX1_arrivedSnails_6 : decode cX1_arrivedSnails 6 = .ok (.getfield 45, 3) := dcO tk_X1_arrivedSnails_0 6 rfl
theorem dX1_arrivedSnails_9 : decode cX1_arrivedSnails 9 = .ok (.if_icmp .ge 30, 3) := dcO tk_X1_arrivedSnails_0 7 rfl
theorem dX1_arrivedSnails_12 : decode cX1_arrivedSnails 12 = .ok (.aload_n 0, 1) := dcO tk_X1_arrivedSnails_0 8 rfl
theorem dX1_arrivedSnails_13 : decode cX1_arrivedSnails 13 = .ok (.getfield 30, 3) := dcO tk_X1_arrivedSnails_0 9 rfl
theorem dX1_arrivedSnails_16 : decode cX1_arrivedSnails 16 = .ok (.iload_n 2, 1) := dcO tk_X1_arrivedSnails_0 10 rfl
theorem dX1_arrivedSnails_17 : decode cX1_arrivedSnails 17 = .ok (.iaload, 1) := dcO tk_X1_arrivedSnails_0 11 rfl
theorem dX1_arrivedSnails_18 : decode cX1_arrivedSnails 18 = .ok (.aload_n 0, 1) := dcO tk_X1_arrivedSnails_0 12 rfl
theorem dX1_arrivedSnails_19 : decode cX1_arrivedSnails 19 = .ok (.getfield 36, 3) := dcO tk_X1_arrivedSnails_0 13 rfl
theorem dX1_arrivedSnails_22 : decode cX1_arrivedSnails 22 = .ok (.iload_n 2, 1) := dcO tk_X1_arrivedSnails_0 14 rfl
theorem dX1_arrivedSnails_23 : decode cX1_arrivedSnails 23 = .ok (.iaload, 1) := dcO tk_X1_arrivedSnails_0 15 rfl
theorem dX1_arrivedSnails_24 : decode cX1_arrivedSnails 24 = .ok (.if_icmp .ne 9, 3) := dcO tk_X1_arrivedSnails_0 16 rfl
theorem dX1_arrivedSnails_27 : decode cX1_arrivedSnails 27 = .ok (.iload_n 1, 1) := dcO tk_X1_arrivedSnails_0 17 rfl
theorem dX1_arrivedSnails_28 : decode cX1_arrivedSnails 28 = .ok (.iconst 1, 1) := dcO tk_X1_arrivedSnails_0 18 rfl
theorem dX1_arrivedSnails_29 : decode cX1_arrivedSnails 29 = .ok (.iload_n 2, 1) := dcO tk_X1_arrivedSnails_0 19 rfl
theorem dX1_arrivedSnails_30 : decode cX1_arrivedSnails 30 = .ok (.ishl, 1) := dcO tk_X1_arrivedSnails_0 20 rfl
theorem dX1_arrivedSnails_31 : decode cX1_arrivedSnails 31 = .ok (.ior, 1) := dcO tk_X1_arrivedSnails_0 21 rfl
theorem dX1_arrivedSnails_32 : decode cX1_arrivedSnails 32 = .ok (.istore_n 1, 1) := dcO tk_X1_arrivedSnails_0 22 rfl
theorem dX1_arrivedSnails_33 : decode cX1_arrivedSnails 33 = .ok (.iinc 2 1, 3) := dcO tk_X1_arrivedSnails_0 23 rfl
theorem dX1_arrivedSnails_36 : decode cX1_arrivedSnails 36 = .ok (.goto (-32), 3) := dcO tk_X1_arrivedSnails_0 24 rfl
theorem dX1_arrivedSnails_39 : decode cX1_arrivedSnails 39 = .ok (.iload_n 1, 1) := dcO tk_X1_arrivedSnails_0 25 rfl
theorem dX1_arrivedSnails_40 : decode cX1_arrivedSnails 40 = .ok (.ireturn, 1) := dcO tk_X1_arrivedSnails_0 26 rfl
abbrev tb_X1_heldSpots_0 : List (Nat × Instr × Nat) := [(0, .iconst 0, 1), (1, .istore_n 1, 1), (2, .iconst 0, 1), (3, .istore_n 2, 1), (4, .iload_n 2, 1), (5, .bipush 10, 2), (7, .if_icmp .ge 22, 3), (10, .aload_n 0, 1), (11, .getfield 42, 3), (14, .iload_n 2, 1), (15, .iaload, 1), (16, .iconst (-1), 1), (17, .if_icmp .eq 6, 3), (20, .iinc 1 1, 3), (23, .iinc 2 1, 3), (26, .goto (-22), 3), (29, .iload_n 1, 1), (30, .ireturn, 1)]
theorem tk_X1_heldSpots_0 : dcA cX1_heldSpots tb_X1_heldSpots_0 = true := by decide +kernel
theorem dX1_heldSpots_0 : decode cX1_heldSpots 0 = .ok (.iconst 0, 1) := dcO tk_X1_heldSpots_0 0 rfl
theorem dX1_heldSpots_1 : decode cX1_heldSpots 1 = .ok (.istore_n 1, 1) := dcO tk_X1_heldSpots_0 1 rfl
theorem dX1_heldSpots_2 : decode cX1_heldSpots 2 = .ok (.iconst 0, 1) := dcO tk_X1_heldSpots_0 2 rfl
theorem dX1_heldSpots_3 : decode cX1_heldSpots 3 = .ok (.istore_n 2, 1) := dcO tk_X1_heldSpots_0 3 rfl
theorem dX1_heldSpots_4 : decode cX1_heldSpots 4 = .ok (.iload_n 2, 1) := dcO tk_X1_heldSpots_0 4 rfl
theorem dX1_heldSpots_5 : decode cX1_heldSpots 5 = .ok (.bipush 10, 2) := dcO tk_X1_heldSpots_0 5 rfl
theorem dX1_heldSpots_7 : decode cX1_heldSpots 7 = .ok (.if_icmp .ge 22, 3) := dcO tk_X1_heldSpots_0 6 rfl
theorem dX1_heldSpots_10 : decode cX1_heldSpots 10 = .ok (.aload_n 0, 1) := dcO tk_X1_heldSpots_0 7 rfl
theorem dX1_heldSpots_11 : decode cX1_heldSpots 11 = .ok (.getfield 42, 3) := dcO tk_X1_heldSpots_0 8 rfl
theorem dX1_heldSpots_14 : decode cX1_heldSpots 14 = .ok (.iload_n 2, 1) := dcO tk_X1_heldSpots_0 9 rfl
theorem dX1_heldSpots_15 : decode cX1_heldSpots 15 = .ok (.iaload, 1) := dcO tk_X1_heldSpots_0 10 rfl
theorem dX1_heldSpots_16 : decode cX1_heldSpots 16 = .ok (.iconst (-1), 1) := dcO tk_X1_heldSpots_0 11 rfl
theorem dX1_heldSpots_17 : decode cX1_heldSpots 17 = .ok (.if_icmp .eq 6, 3) := dcO tk_X1_heldSpots_0 12 rfl
theorem dX1_heldSpots_20 : decode cX1_heldSpots 20 = .ok (.iinc 1 1, 3) := dcO tk_X1_heldSpots_0 13 rfl
theorem dX1_heldSpots_23 : decode cX1_heldSpots 23 = .ok (.iinc 2 1, 3) := dcO tk_X1_heldSpots_0 14 rfl
theorem dX1_heldSpots_26 : decode cX1_heldSpots 26 = .ok (.goto (-22), 3) := dcO tk_X1_heldSpots_0 15 rfl
theorem dX1_heldSpots_29 : decode cX1_heldSpots 29 = .ok (.iload_n 1, 1) := dcO tk_X1_heldSpots_0 16 rfl
theorem dX1_heldSpots_30 : decode cX1_heldSpots 30 = .ok (.ireturn, 1) := dcO tk_X1_heldSpots_0 17 rfl
abbrev tb_X1_priceOf_0 : List (Nat × Instr × Nat) := [(0, .iconst 0, 1), (1, .istore_n 2, 1), (2, .iconst 0, 1), (3, .istore_n 3, 1), (4, .iload_n 3, 1), (5, .aload_n 0, 1), (6, .getfield 45, 3), (9, .if_icmp .ge 27, 3), (12, .iload_n 1, 1), (13, .iload_n 3, 1), (14, .ishr, 1), (15, .iconst 1, 1), (16, .iand, 1), (17, .iconst 1, 1), (18, .if_icmp .ne 12, 3), (21, .iload_n 2, 1), (22, .aload_n 0, 1), (23, .getfield 39, 3), (26, .iload_n 3, 1), (27, .iaload, 1), (28, .iadd, 1), (29, .istore_n 2, 1), (30, .iinc 3 1, 3), (33, .goto (-29), 3), (36, .iload_n 2, 1), (37, .ireturn, 1)]
theorem tk_X1_priceOf_0 : dcA cX1_priceOf tb_X1_priceOf_0 = true := by decide +kernel
theorem dX1_priceOf_0 : decode cX1_priceOf 0 = .ok (.iconst 0, 1) := dcO tk_X1_priceOf_0 0 rfl
theorem dX1_priceOf_1 : decode cX1_priceOf 1 = .ok (.istore_n 2, 1) := dcO tk_X1_priceOf_0 1 rfl
theorem dX1_priceOf_2 : decode cX1_priceOf 2 = .ok (.iconst 0, 1) := dcO tk_X1_priceOf_0 2 rfl
theorem dX1_priceOf_3 : decode cX1_priceOf 3 = .ok (.istore_n 3, 1) := dcO tk_X1_priceOf_0 3 rfl
theorem dX1_priceOf_4 : decode cX1_priceOf 4 = .ok (.iload_n 3, 1) := dcO tk_X1_priceOf_0 4 rfl
theorem dX1_priceOf_5 : decode cX1_priceOf 5 = .ok (.aload_n 0, 1) := dcO tk_X1_priceOf_0 5 rfl
theorem dX1_priceOf_6 : decode cX1_priceOf 6 = .ok (.getfield 45, 3) := dcO tk_X1_priceOf_0 6 rfl
theorem dX1_priceOf_9 : decode cX1_priceOf 9 = .ok (.if_icmp .ge 27, 3) := dcO tk_X1_priceOf_0 7 rfl
theorem dX1_priceOf_12 : decode cX1_priceOf 12 = .ok (.iload_n 1, 1) := dcO tk_X1_priceOf_0 8 rfl
theorem dX1_priceOf_13 : decode cX1_priceOf 13 = .ok (.iload_n 3, 1) := dcO tk_X1_priceOf_0 9 rfl
theorem dX1_priceOf_14 : decode cX1_priceOf 14 = .ok (.ishr, 1) := dcO tk_X1_priceOf_0 10 rfl
theorem dX1_priceOf_15 : decode cX1_priceOf 15 = .ok (.iconst 1, 1) := dcO tk_X1_priceOf_0 11 rfl
theorem dX1_priceOf_16 : decode cX1_priceOf 16 = .ok (.iand, 1) := dcO tk_X1_priceOf_0 12 rfl
theorem dX1_priceOf_17 : decode cX1_priceOf 17 = .ok (.iconst 1, 1) := dcO tk_X1_priceOf_0 13 rfl
theorem dX1_priceOf_18 : decode cX1_priceOf 18 = .ok (.if_icmp .ne 12, 3) := dcO tk_X1_priceOf_0 14 rfl
theorem dX1_priceOf_21 : decode cX1_priceOf 21 = .ok (.iload_n 2, 1) := dcO tk_X1_priceOf_0 15 rfl
theorem dX1_priceOf_22 : decode cX1_priceOf 22 = .ok (.aload_n 0, 1) := dcO tk_X1_priceOf_0 16 rfl
theorem dX1_priceOf_23 : decode cX1_priceOf 23 = .ok (.getfield 39, 3) := dcO tk_X1_priceOf_0 17 rfl
theorem dX1_priceOf_26 : decode cX1_priceOf 26 = .ok (.iload_n 3, 1) := dcO tk_X1_priceOf_0 18 rfl
theorem dX1_priceOf_27 : decode cX1_priceOf 27 = .ok (.iaload, 1) := dcO tk_X1_priceOf_0 19 rfl
theorem dX1_priceOf_28 : decode cX1_priceOf 28 = .ok (.iadd, 1) := dcO tk_X1_priceOf_0 20 rfl
theorem dX1_priceOf_29 : decode cX1_priceOf 29 = .ok (.istore_n 2, 1) := dcO tk_X1_priceOf_0 21 rfl
theorem dX1_priceOf_30 : decode cX1_priceOf 30 = .ok (.iinc 3 1, 3) := dcO tk_X1_priceOf_0 22 rfl
theorem dX1_priceOf_33 : decode cX1_priceOf 33 = .ok (.goto (-29), 3) := dcO tk_X1_priceOf_0 23 rfl
theorem dX1_priceOf_36 : decode cX1_priceOf 36 = .ok (.iload_n 2, 1) := dcO tk_X1_priceOf_0 24 rfl
theorem dX1_priceOf_37 : decode cX1_priceOf 37 = .ok (.ireturn, 1) := dcO tk_X1_priceOf_0 25 rfl
abbrev tb_X2_init_0 : List (Nat × Instr × Nat) := [(0, .aload_n 0, 1), (1, .invokespecial 3, 3), (4, .aload_n 0, 1), (5, .iconst 4, 1), (6, .newarray .int, 2), (8, .putfield 9, 3), (11, .aload_n 0, 1), (12, .iconst 4, 1), (13, .newarray .int, 2), (15, .putfield 15, 3), (18, .aload_n 0, 1), (19, .sipush 160, 3), (22, .newarray .int, 2), (24, .putfield 18, 3), (27, .return_, 1)]
theorem tk_X2_init_0 : dcA cX2_init tb_X2_init_0 = true := by decide +kernel
theorem dX2_init_0 : decode cX2_init 0 = .ok (.aload_n 0, 1) := dcO tk_X2_init_0 0 rfl
theorem dX2_init_1 : decode cX2_init 1 = .ok (.invokespecial 3, 3) := dcO tk_X2_init_0 1 rfl
theorem dX2_init_4 : decode cX2_init 4 = .ok (.aload_n 0, 1) := dcO tk_X2_init_0 2 rfl
theorem dX2_init_5 : decode cX2_init 5 = .ok (.iconst 4, 1) := dcO tk_X2_init_0 3 rfl
theorem dX2_init_6 : decode cX2_init 6 = .ok (.newarray .int, 2) := dcO tk_X2_init_0 4 rfl
theorem dX2_init_8 : decode cX2_init 8 = .ok (.putfield 9, 3) := dcO tk_X2_init_0 5 rfl
theorem dX2_init_11 : decode cX2_init 11 = .ok (.aload_n 0, 1) := dcO tk_X2_init_0 6 rfl
theorem dX2_init_12 : decode cX2_init 12 = .ok (.iconst 4, 1) := dcO tk_X2_init_0 7 rfl
theorem dX2_init_13 : decode cX2_init 13 = .ok (.newarray .int, 2) := dcO tk_X2_init_0 8 rfl
theorem dX2_init_15 : decode cX2_init 15 = .ok (.putfield 15, 3) := dcO tk_X2_init_0 9 rfl
theorem dX2_init_18 : decode cX2_init 18 = .ok (.aload_n 0, 1) := dcO tk_X2_init_0 10 rfl
theorem dX2_init_19 : decode cX2_init 19 = .ok (.sipush 160, 3) := dcO tk_X2_init_0 11 rfl
theorem dX2_init_22 : decode cX2_init 22 = .ok (.newarray .int, 2) := dcO tk_X2_init_0 12 rfl
theorem dX2_init_24 : decode cX2_init 24 = .ok (.putfield 18, 3) := dcO tk_X2_init_0 13 rfl
theorem dX2_init_27 : decode cX2_init 27 = .ok (.return_, 1) := dcO tk_X2_init_0 14 rfl
abbrev tb_X2_isMissing_0 : List (Nat × Instr × Nat) := [(0, .aload_n 0, 1), (1, .getfield 9, 3), (4, .iload_n 1, 1), (5, .iaload, 1), (6, .ifCond .ne 7, 3), (9, .iconst 1, 1), (10, .goto 4, 3), (13, .iconst 0, 1), (14, .ireturn, 1)]
theorem tk_X2_isMissing_0 : dcA cX2_isMissing tb_X2_isMissing_0 = true := by decide +kernel
theorem dX2_isMissing_0 : decode cX2_isMissing 0 = .ok (.aload_n 0, 1) := dcO tk_X2_isMissing_0 0 rfl
theorem dX2_isMissing_1 : decode cX2_isMissing 1 = .ok (.getfield 9, 3) := dcO tk_X2_isMissing_0 1 rfl
theorem dX2_isMissing_4 : decode cX2_isMissing 4 = .ok (.iload_n 1, 1) := dcO tk_X2_isMissing_0 2 rfl
theorem dX2_isMissing_5 : decode cX2_isMissing 5 = .ok (.iaload, 1) := dcO tk_X2_isMissing_0 3 rfl
theorem dX2_isMissing_6 : decode cX2_isMissing 6 = .ok (.ifCond .ne 7, 3) := dcO tk_X2_isMissing_0 4 rfl
theorem dX2_isMissing_9 : decode cX2_isMissing 9 = .ok (.iconst 1, 1) := dcO tk_X2_isMissing_0 5 rfl
theorem dX2_isMissing_10 : decode cX2_isMissing 10 = .ok (.goto 4, 3) := dcO tk_X2_isMissing_0 6 rfl
theorem dX2_isMissing_13 : decode cX2_isMissing 13 = .ok (.iconst 0, 1) := dcO tk_X2_isMissing_0 7 rfl
theorem dX2_isMissing_14 : decode cX2_isMissing 14 = .ok (.ireturn, 1) := dcO tk_X2_isMissing_0 8 rfl
abbrev tb_X2_lay_0 : List (Nat × Instr × Nat) := [(0, .aload_n 0, 1), (1, .getfield 9, 3), (4, .iload_n 1, 1), (5, .iload_n 2, 1), (6, .iastore, 1), (7, .aload_n 0, 1), (8, .getfield 15, 3), (11, .iload_n 1, 1), (12, .iload_n 2, 1), (13, .ifCond .ne 7, 3), (16, .iconst 0, 1), (17, .goto 4, 3), (20, .iload_n 3, 1), (21, .iastore, 1), (22, .iconst 0, 1), (23, .istore 4, 2), (25, .iload 4, 2), (27, .bipush 40, 2), (29, .if_icmp .ge 22, 3), (32, .aload_n 0, 1), (33, .getfield 18, 3), (36, .iload_n 1, 1), (37, .bipush 40, 2), (39, .imul, 1), (40, .iload 4, 2), (42, .iadd, 1), (43, .iconst 0, 1), (44, .iastore, 1), (45, .iinc 4 1, 3), (48, .goto (-23), 3), (51, .return_, 1)]
theorem tk_X2_lay_0 : dcA cX2_lay tb_X2_lay_0 = true := by decide +kernel
theorem dX2_lay_0 : decode cX2_lay 0 = .ok (.aload_n 0, 1) := dcO tk_X2_lay_0 0 rfl
theorem dX2_lay_1 : decode cX2_lay 1 = .ok (.getfield 9, 3) := dcO tk_X2_lay_0 1 rfl
theorem dX2_lay_4 : decode cX2_lay 4 = .ok (.iload_n 1, 1) := dcO tk_X2_lay_0 2 rfl
theorem dX2_lay_5 : decode cX2_lay 5 = .ok (.iload_n 2, 1) := dcO tk_X2_lay_0 3 rfl
theorem dX2_lay_6 : decode cX2_lay 6 = .ok (.iastore, 1) := dcO tk_X2_lay_0 4 rfl
theorem dX2_lay_7 : decode cX2_lay 7 = .ok (.aload_n 0, 1) := dcO tk_X2_lay_0 5 rfl
theorem dX2_lay_8 : decode cX2_lay 8 = .ok (.getfield 15, 3) := dcO tk_X2_lay_0 6 rfl
theorem dX2_lay_11 : decode cX2_lay 11 = .ok (.iload_n 1, 1) := dcO tk_X2_lay_0 7 rfl
theorem dX2_lay_12 : decode cX2_lay 12 = .ok (.iload_n 2, 1) := dcO tk_X2_lay_0 8 rfl
theorem dX2_lay_13 : decode cX2_lay 13 = .ok (.ifCond .ne 7, 3) := dcO tk_X2_lay_0 9 rfl
theorem dX2_lay_16 : decode cX2_lay 16 = .ok (.iconst 0, 1) := dcO tk_X2_lay_0 10 rfl
theorem dX2_lay_17 : decode cX2_lay 17 = .ok (.goto 4, 3) := dcO tk_X2_lay_0 11 rfl
theorem dX2_lay_20 : decode cX2_lay 20 = .ok (.iload_n 3, 1) := dcO tk_X2_lay_0 12 rfl
theorem dX2_lay_21 : decode cX2_lay 21 = .ok (.iastore, 1) := dcO tk_X2_lay_0 13 rfl
theorem dX2_lay_22 : decode cX2_lay 22 = .ok (.iconst 0, 1) := dcO tk_X2_lay_0 14 rfl
theorem dX2_lay_23 : decode cX2_lay 23 = .ok (.istore 4, 2) := dcO tk_X2_lay_0 15 rfl
theorem dX2_lay_25 : decode cX2_lay 25 = .ok (.iload 4, 2) := dcO tk_X2_lay_0 16 rfl
theorem dX2_lay_27 : decode cX2_lay 27 = .ok (.bipush 40, 2) := dcO tk_X2_lay_0 17 rfl
theorem dX2_lay_29 : decode cX2_lay 29 = .ok (.if_icmp .ge 22, 3) := dcO tk_X2_lay_0 18 rfl
theorem dX2_lay_32 : decode cX2_lay 32 = .ok (.aload_n 0, 1) := dcO tk_X2_lay_0 19 rfl
theorem dX2_lay_33 : decode cX2_lay 33 = .ok (.getfield 18, 3) := dcO tk_X2_lay_0 20 rfl
theorem dX2_lay_36 : decode cX2_lay 36 = .ok (.iload_n 1, 1) := dcO tk_X2_lay_0 21 rfl
theorem dX2_lay_37 : decode cX2_lay 37 = .ok (.bipush 40, 2) := dcO tk_X2_lay_0 22 rfl
theorem dX2_lay_39 : decode cX2_lay 39 = .ok (.imul, 1) := dcO tk_X2_lay_0 23 rfl
theorem dX2_lay_40 : decode cX2_lay 40 = .ok (.iload 4, 2) := dcO tk_X2_lay_0 24 rfl
theorem dX2_lay_42 : decode cX2_lay 42 = .ok (.iadd, 1) := dcO tk_X2_lay_0 25 rfl
theorem dX2_lay_43 : decode cX2_lay 43 = .ok (.iconst 0, 1) := dcO tk_X2_lay_0 26 rfl
theorem dX2_lay_44 : decode cX2_lay 44 = .ok (.iastore, 1) := dcO tk_X2_lay_0 27 rfl
theorem dX2_lay_45 : decode cX2_lay 45 = .ok (.iinc 4 1, 3) := dcO tk_X2_lay_0 28 rfl
theorem dX2_lay_48 : decode cX2_lay 48 = .ok (.goto (-23), 3) := dcO tk_X2_lay_0 29 rfl
theorem dX2_lay_51 : decode cX2_lay 51 = .ok (.return_, 1) := dcO tk_X2_lay_0 30 rfl
abbrev tb_X2_numberAt_0 : List (Nat × Instr × Nat) := [(0, .aload_n 0, 1), (1, .getfield 18, 3), (4, .iload_n 1, 1), (5, .bipush 40, 2), (7, .imul, 1), (8, .iload_n 2, 1), (9, .iadd, 1), (10, .iaload, 1), (11, .ireturn, 1)]
theorem tk_X2_numberAt_0 : dcA cX2_numberAt tb_X2_numberAt_0 = true := by decide +kernel
theorem dX2_numberAt_0 : decode cX2_numberAt 0 = .ok (.aload_n 0, 1) := dcO tk_X2_numberAt_0 0 rfl
theorem dX2_numberAt_1 : decode cX2_numberAt 1 = .ok (.getfield 18, 3) := dcO tk_X2_numberAt_0 1 rfl
theorem dX2_numberAt_4 : decode cX2_numberAt 4 = .ok (.iload_n 1, 1) := dcO tk_X2_numberAt_0 2 rfl
theorem dX2_numberAt_5 : decode cX2_numberAt 5 = .ok (.bipush 40, 2) := dcO tk_X2_numberAt_0 3 rfl
theorem dX2_numberAt_7 : decode cX2_numberAt 7 = .ok (.imul, 1) := dcO tk_X2_numberAt_0 4 rfl
theorem dX2_numberAt_8 : decode cX2_numberAt 8 = .ok (.iload_n 2, 1) := dcO tk_X2_numberAt_0 5 rfl
theorem dX2_numberAt_9 : decode cX2_numberAt 9 = .ok (.iadd, 1) := dcO tk_X2_numberAt_0 6 rfl
theorem dX2_numberAt_10 : decode cX2_numberAt 10 = .ok (.iaload, 1) := dcO tk_X2_numberAt_0 7 rfl
theorem dX2_numberAt_11 : decode cX2_numberAt 11 = .ok (.ireturn, 1) := dcO tk_X2_numberAt_0 8 rfl
abbrev tb_X2_put_0 : List (Nat × Instr × Nat) := [(0, .bipush 32, 2), (2, .aload_n 0, 1), (3, .getfield 9, 3), (6, .iload_n 1, 1), (7, .iaload, 1), (8, .isub, 1), (9, .istore 4, 2), (11, .aload_n 0, 1), (12, .getfield 18, 3), (15, .iload_n 1, 1), (16, .bipush 40, 2), (18, .imul, 1), (19, .iload_n 2, 1), (20, .iadd, 1), (21, .iload_n 3, 1), (22, .iload 4, 2), (24, .ishl, 1), (25, .iload 4, 2), (27, .ishr, 1), (28, .iastore, 1), (29, .return_, 1)]
theorem tk_X2_put_0 : dcA cX2_put tb_X2_put_0 = true := by decide +kernel
theorem dX2_put_0 : decode cX2_put 0 = .ok (.bipush 32, 2) := dcO tk_X2_put_0 0 rfl
theorem dX2_put_2 : decode cX2_put 2 = .ok (.aload_n 0, 1) := dcO tk_X2_put_0 1 rfl
theorem dX2_put_3 : decode cX2_put 3 = .ok (.getfield 9, 3) := dcO tk_X2_put_0 2 rfl
theorem dX2_put_6 : decode cX2_put 6 = .ok (.iload_n 1, 1) := dcO tk_X2_put_0 3 rfl
theorem dX2_put_7 : decode cX2_put 7 = .ok (.iaload, 1) := dcO tk_X2_put_0 4 rfl
theorem dX2_put_8 : decode cX2_put 8 = .ok (.isub, 1) := dcO tk_X2_put_0 5 rfl
theorem dX2_put_9 : decode cX2_put 9 = .ok (.istore 4, 2) := dcO tk_X2_put_0 6 rfl
theorem dX2_put_11 : decode cX2_put 11 = .ok (.aload_n 0, 1) := dcO tk_X2_put_0 7 rfl
theorem dX2_put_12 : decode cX2_put 12 = .ok (.getfield 18, 3) := dcO tk_X2_put_0 8 rfl
theorem dX2_put_15 : decode cX2_put 15 = .ok (.iload_n 1, 1) := dcO tk_X2_put_0 9 rfl
theorem dX2_put_16 : decode cX2_put 16 = .ok (.bipush 40, 2) := dcO tk_X2_put_0 10 rfl
theorem dX2_put_18 : decode cX2_put 18 = .ok (.imul, 1) := dcO tk_X2_put_0 11 rfl
theorem dX2_put_19 : decode cX2_put 19 = .ok (.iload_n 2, 1) := dcO tk_X2_put_0 12 rfl
theorem dX2_put_20 : decode cX2_put 20 = .ok (.iadd, 1) := dcO tk_X2_put_0 13 rfl
theorem dX2_put_21 : decode cX2_put 21 = .ok (.iload_n 3, 1) := dcO tk_X2_put_0 14 rfl
theorem dX2_put_22 : decode cX2_put 22 = .ok (.iload 4, 2) := dcO tk_X2_put_0 15 rfl
theorem dX2_put_24 : decode cX2_put 24 = .ok (.ishl, 1) := dcO tk_X2_put_0 16 rfl
theorem dX2_put_25 : decode cX2_put 25 = .ok (.iload 4, 2) := dcO tk_X2_put_0 17 rfl
theorem dX2_put_27 : decode cX2_put 27 = .ok (.ishr, 1) := dcO tk_X2_put_0 18 rfl
theorem dX2_put_28 : decode cX2_put 28 = .ok (.iastore, 1) := dcO tk_X2_put_0 19 rfl
theorem dX2_put_29 : decode cX2_put 29 = .ok (.return_, 1) := dcO tk_X2_put_0 20 rfl
abbrev tb_X2_hasRun_0 : List (Nat × Instr × Nat) := [(0, .iload_n 2, 1), (1, .ifCond .lt 33, 3), (4, .iload_n 3, 1), (5, .ifCond .lt 29, 3), (8, .iload_n 3, 1), (9, .aload_n 0, 1), (10, .getfield 15, 3), (13, .iload_n 1, 1), (14, .iaload, 1), (15, .if_icmp .gt 19, 3), (18, .iload_n 2, 1), (19, .aload_n 0, 1), (20, .getfield 15, 3), (23, .iload_n 1, 1), (24, .iaload, 1), (25, .iload_n 3, 1), (26, .isub, 1), (27, .if_icmp .gt 7, 3), (30, .iconst 1, 1), (31, .goto 4, 3), (34, .iconst 0, 1), (35, .ireturn, 1)]
theorem tk_X2_hasRun_0 : dcA cX2_hasRun tb_X2_hasRun_0 = true := by decide +kernel
theorem dX2_hasRun_0 : decode cX2_hasRun 0 = .ok (.iload_n 2, 1) := dcO tk_X2_hasRun_0 0 rfl
theorem dX2_hasRun_1 : decode cX2_hasRun 1 = .ok (.ifCond .lt 33, 3) := dcO tk_X2_hasRun_0 1 rfl
theorem dX2_hasRun_4 : decode cX2_hasRun 4 = .ok (.iload_n 3, 1) := dcO tk_X2_hasRun_0 2 rfl
theorem dX2_hasRun_5 : decode cX2_hasRun 5 = .ok (.ifCond .lt 29, 3) := dcO tk_X2_hasRun_0 3 rfl
theorem dX2_hasRun_8 : decode cX2_hasRun 8 = .ok (.iload_n 3, 1) := dcO tk_X2_hasRun_0 4 rfl
theorem dX2_hasRun_9 : decode cX2_hasRun 9 = .ok (.aload_n 0, 1) := dcO tk_X2_hasRun_0 5 rfl
theorem dX2_hasRun_10 : decode cX2_hasRun 10 = .ok (.getfield 15, 3) := dcO tk_X2_hasRun_0 6 rfl
theorem dX2_hasRun_13 : decode cX2_hasRun 13 = .ok (.iload_n 1, 1) := dcO tk_X2_hasRun_0 7 rfl
theorem dX2_hasRun_14 : decode cX2_hasRun 14 = .ok (.iaload, 1) := dcO tk_X2_hasRun_0 8 rfl
theorem dX2_hasRun_15 : decode cX2_hasRun 15 = .ok (.if_icmp .gt 19, 3) := dcO tk_X2_hasRun_0 9 rfl
theorem dX2_hasRun_18 : decode cX2_hasRun 18 = .ok (.iload_n 2, 1) := dcO tk_X2_hasRun_0 10 rfl
theorem dX2_hasRun_19 : decode cX2_hasRun 19 = .ok (.aload_n 0, 1) := dcO tk_X2_hasRun_0 11 rfl
theorem dX2_hasRun_20 : decode cX2_hasRun 20 = .ok (.getfield 15, 3) := dcO tk_X2_hasRun_0 12 rfl
theorem dX2_hasRun_23 : decode cX2_hasRun 23 = .ok (.iload_n 1, 1) := dcO tk_X2_hasRun_0 13 rfl
theorem dX2_hasRun_24 : decode cX2_hasRun 24 = .ok (.iaload, 1) := dcO tk_X2_hasRun_0 14 rfl
theorem dX2_hasRun_25 : decode cX2_hasRun 25 = .ok (.iload_n 3, 1) := dcO tk_X2_hasRun_0 15 rfl
theorem dX2_hasRun_26 : decode cX2_hasRun 26 = .ok (.isub, 1) := dcO tk_X2_hasRun_0 16 rfl
theorem dX2_hasRun_27 : decode cX2_hasRun 27 = .ok (.if_icmp .gt 7, 3) := dcO tk_X2_hasRun_0 17 rfl
theorem dX2_hasRun_30 : decode cX2_hasRun 30 = .ok (.iconst 1, 1) := dcO tk_X2_hasRun_0 18 rfl
theorem dX2_hasRun_31 : decode cX2_hasRun 31 = .ok (.goto 4, 3) := dcO tk_X2_hasRun_0 19 rfl
theorem dX2_hasRun_34 : decode cX2_hasRun 34 = .ok (.iconst 0, 1) := dcO tk_X2_hasRun_0 20 rfl
theorem dX2_hasRun_35 : decode cX2_hasRun 35 = .ok (.ireturn, 1) := dcO tk_X2_hasRun_0 21 rfl
abbrev tb_X2_carry_0 : List (Nat × Instr × Nat) := [(0, .aload_n 0, 1), (1, .getfield 18, 3), (4, .iload_n 1, 1), (5, .bipush 40, 2), (7, .imul, 1), (8, .iload_n 2, 1), (9, .iadd, 1), (10, .aload_n 0, 1), (11, .getfield 18, 3), (14, .iload_n 3, 1), (15, .bipush 40, 2), (17, .imul, 1), (18, .iload 4, 2), (20, .iadd, 1), (21, .iload 5, 2), (23, .invokestatic 21, 3), (26, .return_, 1)]
theorem tk_X2_carry_0 : dcA cX2_carry tb_X2_carry_0 = true := by decide +kernel
theorem dX2_carry_0 : decode cX2_carry 0 = .ok (.aload_n 0, 1) := dcO tk_X2_carry_0 0 rfl
theorem dX2_carry_1 : decode cX2_carry 1 = .ok (.getfield 18, 3) := dcO tk_X2_carry_0 1 rfl
theorem dX2_carry_4 : decode cX2_carry 4 = .ok (.iload_n 1, 1) := dcO tk_X2_carry_0 2 rfl
theorem dX2_carry_5 : decode cX2_carry 5 = .ok (.bipush 40, 2) := dcO tk_X2_carry_0 3 rfl
theorem dX2_carry_7 : decode cX2_carry 7 = .ok (.imul, 1) := dcO tk_X2_carry_0 4 rfl
theorem dX2_carry_8 : decode cX2_carry 8 = .ok (.iload_n 2, 1) := dcO tk_X2_carry_0 5 rfl
theorem dX2_carry_9 : decode cX2_carry 9 = .ok (.iadd, 1) := dcO tk_X2_carry_0 6 rfl
theorem dX2_carry_10 : decode cX2_carry 10 = .ok (.aload_n 0, 1) := dcO tk_X2_carry_0 7 rfl
theorem dX2_carry_11 : decode cX2_carry 11 = .ok (.getfield 18, 3) := dcO tk_X2_carry_0 8 rfl
theorem dX2_carry_14 : decode cX2_carry 14 = .ok (.iload_n 3, 1) := dcO tk_X2_carry_0 9 rfl
theorem dX2_carry_15 : decode cX2_carry 15 = .ok (.bipush 40, 2) := dcO tk_X2_carry_0 10 rfl
theorem dX2_carry_17 : decode cX2_carry 17 = .ok (.imul, 1) := dcO tk_X2_carry_0 11 rfl
theorem dX2_carry_18 : decode cX2_carry 18 = .ok (.iload 4, 2) := dcO tk_X2_carry_0 12 rfl
theorem dX2_carry_20 : decode cX2_carry 20 = .ok (.iadd, 1) := dcO tk_X2_carry_0 13 rfl
theorem dX2_carry_21 : decode cX2_carry 21 = .ok (.iload 5, 2) := dcO tk_X2_carry_0 14 rfl
theorem dX2_carry_23 : decode cX2_carry 23 = .ok (.invokestatic 21, 3) := dcO tk_X2_carry_0 15 rfl
theorem dX2_carry_26 : decode cX2_carry 26 = .ok (.return_, 1) := dcO tk_X2_carry_0 16 rfl
abbrev tb_X3_init_0 : List (Nat × Instr × Nat) := [(0, .aload_n 0, 1), (1, .invokespecial 3, 3), (4, .aload_n 0, 1), (5, .iconst 0, 1), (6, .putfield 9, 3), (9, .aload_n 0, 1), (10, .bipush 120, 2), (12, .newarray .int, 2), (14, .putfield 15, 3), (17, .aload_n 0, 1), (18, .bipush 121, 2), (20, .newarray .int, 2), (22, .putfield 19, 3), (25, .aload_n 0, 1), (26, .bipush 121, 2), (28, .newarray .int, 2), (30, .putfield 22, 3), (33, .aload_n 0, 1), (34, .bipush 121, 2), (36, .newarray .int, 2), (38, .putfield 25, 3), (41, .aload_n 0, 1), (42, .bipush 121, 2), (44, .newarray .int, 2), (46, .putfield 28, 3), (49, .aload_n 0, 1), (50, .iconst 0, 1), (51, .putfield 31, 3), (54, .return_, 1)]
theorem tk_X3_init_0 : dcA cX3_init tb_X3_init_0 = true := by decide +kernel
theorem dX3_init_0 : decode cX3_init 0 = .ok (.aload_n 0, 1) := dcO tk_X3_init_0 0 rfl
theorem dX3_init_1 : decode cX3_init 1 = .ok (.invokespecial 3, 3) := dcO tk_X3_init_0 1 rfl
theorem dX3_init_4 : decode cX3_init 4 = .ok (.aload_n 0, 1) := dcO tk_X3_init_0 2 rfl
theorem dX3_init_5 : decode cX3_init 5 = .ok (.iconst 0, 1) := dcO tk_X3_init_0 3 rfl
theorem dX3_init_6 : decode cX3_init 6 = .ok (.putfield 9, 3) := dcO tk_X3_init_0 4 rfl
theorem dX3_init_9 : decode cX3_init 9 = .ok (.aload_n 0, 1) := dcO tk_X3_init_0 5 rfl
theorem dX3_init_10 : decode cX3_init 10 = .ok (.bipush 120, 2) := dcO tk_X3_init_0 6 rfl
theorem dX3_init_12 : decode cX3_init 12 = .ok (.newarray .int, 2) := dcO tk_X3_init_0 7 rfl
theorem dX3_init_14 : decode cX3_init 14 = .ok (.putfield 15, 3) := dcO tk_X3_init_0 8 rfl
theorem dX3_init_17 : decode cX3_init 17 = .ok (.aload_n 0, 1) := dcO tk_X3_init_0 9 rfl
theorem dX3_init_18 : decode cX3_init 18 = .ok (.bipush 121, 2) := dcO tk_X3_init_0 10 rfl
theorem dX3_init_20 : decode cX3_init 20 = .ok (.newarray .int, 2) := dcO tk_X3_init_0 11 rfl
theorem dX3_init_22 : decode cX3_init 22 = .ok (.putfield 19, 3) := dcO tk_X3_init_0 12 rfl
theorem dX3_init_25 : decode cX3_init 25 = .ok (.aload_n 0, 1) := dcO tk_X3_init_0 13 rfl
theorem dX3_init_26 : decode cX3_init 26 = .ok (.bipush 121, 2) := dcO tk_X3_init_0 14 rfl
theorem dX3_init_28 : decode cX3_init 28 = .ok (.newarray .int, 2) := dcO tk_X3_init_0 15 rfl
theorem dX3_init_30 : decode cX3_init 30 = .ok (.putfield 22, 3) := dcO tk_X3_init_0 16 rfl
theorem dX3_init_33 : decode cX3_init 33 = .ok (.aload_n 0, 1) := dcO tk_X3_init_0 17 rfl
theorem dX3_init_34 : decode cX3_init 34 = .ok (.bipush 121, 2) := dcO tk_X3_init_0 18 rfl
theorem dX3_init_36 : decode cX3_init 36 = .ok (.newarray .int, 2) := dcO tk_X3_init_0 19 rfl
theorem dX3_init_38 : decode cX3_init 38 = .ok (.putfield 25, 3) := dcO tk_X3_init_0 20 rfl
theorem dX3_init_41 : decode cX3_init 41 = .ok (.aload_n 0, 1) := dcO tk_X3_init_0 21 rfl
theorem dX3_init_42 : decode cX3_init 42 = .ok (.bipush 121, 2) := dcO tk_X3_init_0 22 rfl
theorem dX3_init_44 : decode cX3_init 44 = .ok (.newarray .int, 2) := dcO tk_X3_init_0 23 rfl
theorem dX3_init_46 : decode cX3_init 46 = .ok (.putfield 28, 3) := dcO tk_X3_init_0 24 rfl
theorem dX3_init_49 : decode cX3_init 49 = .ok (.aload_n 0, 1) := dcO tk_X3_init_0 25 rfl
theorem dX3_init_50 : decode cX3_init 50 = .ok (.iconst 0, 1) := dcO tk_X3_init_0 26 rfl
theorem dX3_init_51 : decode cX3_init 51 = .ok (.putfield 31, 3) := dcO tk_X3_init_0 27 rfl
theorem dX3_init_54 : decode cX3_init 54 = .ok (.return_, 1) := dcO tk_X3_init_0 28 rfl
abbrev tb_X3_append_0 : List (Nat × Instr × Nat) := [(0, .aload_n 0, 1), (1, .getfield 9, 3), (4, .iload_n 2, 1), (5, .iadd, 1), (6, .bipush 120, 2), (8, .if_icmp .le 5, 3), (11, .iconst 0, 1), (12, .ireturn, 1), (13, .iload_n 2, 1), (14, .iconst 1, 1), (15, .isub, 1), (16, .istore_n 3, 1), (17, .iload_n 3, 1), (18, .ifCond .lt 38, 3), (21, .aload_n 0, 1), (22, .getfield 15, 3), (25, .aload_n 0, 1), (26, .getfield 9, 3), (29, .iload_n 1, 1), (30, .bipush 8, 2), (32, .iload_n 3, 1), (33, .imul, 1), (34, .ishr, 1), (35, .sipush 255, 3), (38, .iand, 1), (39, .iastore, 1), (40, .aload_n 0, 1), (41, .dup, 1), (42, .getfield 9, 3), (45, .iconst 1, 1), (46, .iadd, 1), (47, .putfield 9, 3), (50, .iinc 3 (-1), 3), (53, .goto (-36), 3), (56, .iconst 1, 1), (57, .ireturn, 1)]
theorem tk_X3_append_0 : dcA cX3_append tb_X3_append_0 = true := by decide +kernel
theorem dX3_append_0 : decode cX3_append 0 = .ok (.aload_n 0, 1) := dcO tk_X3_append_0 0 rfl
theorem dX3_append_1 : decode cX3_append 1 = .ok (.getfield 9, 3) := dcO tk_X3_append_0 1 rfl
theorem dX3_append_4 : decode cX3_append 4 = .ok (.iload_n 2, 1) := dcO tk_X3_append_0 2 rfl
theorem dX3_append_5 : decode cX3_append 5 = .ok (.iadd, 1) := dcO tk_X3_append_0 3 rfl
theorem dX3_append_6 : decode cX3_append 6 = .ok (.bipush 120, 2) := dcO tk_X3_append_0 4 rfl
theorem dX3_append_8 : decode cX3_append 8 = .ok (.if_icmp .le 5, 3) := dcO tk_X3_append_0 5 rfl
theorem dX3_append_11 : decode cX3_append 11 = .ok (.iconst 0, 1) := dcO tk_X3_append_0 6 rfl
theorem dX3_append_12 : decode cX3_append 12 = .ok (.ireturn, 1) := dcO tk_X3_append_0 7 rfl
theorem dX3_append_13 : decode cX3_append 13 = .ok (.iload_n 2, 1) := dcO tk_X3_append_0 8 rfl
theorem dX3_append_14 : decode cX3_append 14 = .ok (.iconst 1, 1) := dcO tk_X3_append_0 9 rfl
theorem dX3_append_15 : decode cX3_append 15 = .ok (.isub, 1) := dcO tk_X3_append_0 10 rfl
theorem dX3_append_16 : decode cX3_append 16 = .ok (.istore_n 3, 1) := dcO tk_X3_append_0 11 rfl
theorem dX3_append_17 : decode cX3_append 17 = .ok (.iload_n 3, 1) := dcO tk_X3_append_0 12 rfl
theorem dX3_append_18 : decode cX3_append 18 = .ok (.ifCond .lt 38, 3) := dcO tk_X3_append_0 13 rfl
theorem dX3_append_21 : decode cX3_append 21 = .ok (.aload_n 0, 1) := dcO tk_X3_append_0 14 rfl
theorem dX3_append_22 : decode cX3_append 22 = .ok (.getfield 15, 3) := dcO tk_X3_append_0 15 rfl
theorem dX3_append_25 : decode cX3_append 25 = .ok (.aload_n 0, 1) := dcO tk_X3_append_0 16 rfl
theorem dX3_append_26 : decode cX3_append 26 = .ok (.getfield 9, 3) := dcO tk_X3_append_0 17 rfl
theorem dX3_append_29 : decode cX3_append 29 = .ok (.iload_n 1, 1) := dcO tk_X3_append_0 18 rfl
theorem dX3_append_30 : decode cX3_append 30 = .ok (.bipush 8, 2) := dcO tk_X3_append_0 19 rfl
theorem dX3_append_32 : decode cX3_append 32 = .ok (.iload_n 3, 1) := dcO tk_X3_append_0 20 rfl
theorem dX3_append_33 : decode cX3_append 33 = .ok (.imul, 1) := dcO tk_X3_append_0 21 rfl
theorem dX3_append_34 : decode cX3_append 34 = .ok (.ishr, 1) := dcO tk_X3_append_0 22 rfl
theorem dX3_append_35 : decode cX3_append 35 = .ok (.sipush 255, 3) := dcO tk_X3_append_0 23 rfl
theorem dX3_append_38 : decode cX3_append 38 = .ok (.iand, 1) := dcO tk_X3_append_0 24 rfl
theorem dX3_append_39 : decode cX3_append 39 = .ok (.iastore, 1) := dcO tk_X3_append_0 25 rfl
theorem dX3_append_40 : decode cX3_append 40 = .ok (.aload_n 0, 1) := dcO tk_X3_append_0 26 rfl
theorem dX3_append_41 : decode cX3_append 41 = .ok (.dup, 1) := dcO tk_X3_append_0 27 rfl
theorem dX3_append_42 : decode cX3_append 42 = .ok (.getfield 9, 3) := dcO tk_X3_append_0 28 rfl
theorem dX3_append_45 : decode cX3_append 45 = .ok (.iconst 1, 1) := dcO tk_X3_append_0 29 rfl
theorem dX3_append_46 : decode cX3_append 46 = .ok (.iadd, 1) := dcO tk_X3_append_0 30 rfl
theorem dX3_append_47 : decode cX3_append 47 = .ok (.putfield 9, 3) := dcO tk_X3_append_0 31 rfl
theorem dX3_append_50 : decode cX3_append 50 = .ok (.iinc 3 (-1), 3) := dcO tk_X3_append_0 32 rfl
theorem dX3_append_53 : decode cX3_append 53 = .ok (.goto (-36), 3) := dcO tk_X3_append_0 33 rfl
theorem dX3_append_56 : decode cX3_append 56 = .ok (.iconst 1, 1) := dcO tk_X3_append_0 34 rfl
theorem dX3_append_57 : decode cX3_append 57 = .ok (.ireturn, 1) := dcO tk_X3_append_0 35 rfl
abbrev tb_X3_readInto_0 : List (Nat × Instr × Nat) := [(0, .aload_n 0, 1), (1, .invokevirtual 34, 3), (4, .aload_n 0, 1), (5, .iconst 0, 1), (6, .putfield 31, 3), (9, .iconst 1, 1), (10, .istore_n 2, 1), (11, .iload_n 2, 1), (12, .bipush 120, 2), (14, .if_icmp .gt 78, 3), (17, .aload_n 0, 1), (18, .aload_n 1, 1), (19, .invokevirtual 37, 3), (22, .ifCond .ne 15, 3), (25, .iconst (-1), 1), (26, .aload_n 0, 1), (27, .getfield 22, 3), (30, .aload_n 0, 1), (31, .getfield 31, 3), (34, .iaload, 1), (35, .isub, 1), (36, .ireturn, 1), (37, .aload_n 0, 1), (38, .getfield 19, 3), (41, .aload_n 0, 1), (42, .getfield 31, 3), (45, .iaload, 1), (46, .ifCond .ne 5, 3), (49, .iload_n 2, 1), (50, .ireturn, 1), (51, .aload_n 0, 1), (52, .getfield 19, 3), (55, .aload_n 0, 1), (56, .getfield 31, 3), (59, .iaload, 1), (60, .iconst 3, 1), (61, .if_icmp .eq 15, 3), (64, .iconst (-1), 1), (65, .aload_n 0, 1), (66, .getfield 22, 3)]
theorem tk_X3_readInto_0 : dcA cX3_readInto tb_X3_readInto_0 = true := by decide +kernel
theorem dX3_readInto_0 : decode cX3_readInto 0 = .ok (.aload_n 0, 1) := dcO tk_X3_readInto_0 0 rfl
theorem dX3_readInto_1 : decode cX3_readInto 1 = .ok (.invokevirtual 34, 3) := dcO tk_X3_readInto_0 1 rfl
theorem dX3_readInto_4 : decode cX3_readInto 4 = .ok (.aload_n 0, 1) := dcO tk_X3_readInto_0 2 rfl
theorem dX3_readInto_5 : decode cX3_readInto 5 = .ok (.iconst 0, 1) := dcO tk_X3_readInto_0 3 rfl
theorem dX3_readInto_6 : decode cX3_readInto 6 = .ok (.putfield 31, 3) := dcO tk_X3_readInto_0 4 rfl
theorem dX3_readInto_9 : decode cX3_readInto 9 = .ok (.iconst 1, 1) := dcO tk_X3_readInto_0 5 rfl
theorem dX3_readInto_10 : decode cX3_readInto 10 = .ok (.istore_n 2, 1) := dcO tk_X3_readInto_0 6 rfl
theorem dX3_readInto_11 : decode cX3_readInto 11 = .ok (.iload_n 2, 1) := dcO tk_X3_readInto_0 7 rfl
theorem dX3_readInto_12 : decode cX3_readInto 12 = .ok (.bipush 120, 2) := dcO tk_X3_readInto_0 8 rfl
theorem dX3_readInto_14 : decode cX3_readInto 14 = .ok (.if_icmp .gt 78, 3) := dcO tk_X3_readInto_0 9 rfl
theorem dX3_readInto_17 : decode cX3_readInto 17 = .ok (.aload_n 0, 1) := dcO tk_X3_readInto_0 10 rfl
theorem dX3_readInto_18 : decode cX3_readInto 18 = .ok (.aload_n 1, 1) := dcO tk_X3_readInto_0 11 rfl
theorem dX3_readInto_19 : decode cX3_readInto 19 = .ok (.invokevirtual 37, 3) := dcO tk_X3_readInto_0 12 rfl
theorem dX3_readInto_22 : decode cX3_readInto 22 = .ok (.ifCond .ne 15, 3) := dcO tk_X3_readInto_0 13 rfl
theorem dX3_readInto_25 : decode cX3_readInto 25 = .ok (.iconst (-1), 1) := dcO tk_X3_readInto_0 14 rfl
theorem dX3_readInto_26 : decode cX3_readInto 26 = .ok (.aload_n 0, 1) := dcO tk_X3_readInto_0 15 rfl
theorem dX3_readInto_27 : decode cX3_readInto 27 = .ok (.getfield 22, 3) := dcO tk_X3_readInto_0 16 rfl
theorem dX3_readInto_30 : decode cX3_readInto 30 = .ok (.aload_n 0, 1) := dcO tk_X3_readInto_0 17 rfl
theorem dX3_readInto_31 : decode cX3_readInto 31 = .ok (.getfield 31, 3) := dcO tk_X3_readInto_0 18 rfl
theorem dX3_readInto_34 : decode cX3_readInto 34 = .ok (.iaload, 1) := dcO tk_X3_readInto_0 19 rfl
theorem dX3_readInto_35 : decode cX3_readInto 35 = .ok (.isub, 1) := dcO tk_X3_readInto_0 20 rfl
theorem dX3_readInto_36 : decode cX3_readInto 36 = .ok (.ireturn, 1) := dcO tk_X3_readInto_0 21 rfl
theorem dX3_readInto_37 : decode cX3_readInto 37 = .ok (.aload_n 0, 1) := dcO tk_X3_readInto_0 22 rfl
theorem dX3_readInto_38 : decode cX3_readInto 38 = .ok (.getfield 19, 3) := dcO tk_X3_readInto_0 23 rfl
theorem dX3_readInto_41 : decode cX3_readInto 41 = .ok (.aload_n 0, 1) := dcO tk_X3_readInto_0 24 rfl
theorem dX3_readInto_42 : decode cX3_readInto 42 = .ok (.getfield 31, 3) := dcO tk_X3_readInto_0 25 rfl
theorem dX3_readInto_45 : decode cX3_readInto 45 = .ok (.iaload, 1) := dcO tk_X3_readInto_0 26 rfl
theorem dX3_readInto_46 : decode cX3_readInto 46 = .ok (.ifCond .ne 5, 3) := dcO tk_X3_readInto_0 27 rfl
theorem dX3_readInto_49 : decode cX3_readInto 49 = .ok (.iload_n 2, 1) := dcO tk_X3_readInto_0 28 rfl
theorem dX3_readInto_50 : decode cX3_readInto 50 = .ok (.ireturn, 1) := dcO tk_X3_readInto_0 29 rfl
theorem dX3_readInto_51 : decode cX3_readInto 51 = .ok (.aload_n 0, 1) := dcO tk_X3_readInto_0 30 rfl
theorem dX3_readInto_52 : decode cX3_readInto 52 = .ok (.getfield 19, 3) := dcO tk_X3_readInto_0 31 rfl
theorem dX3_readInto_55 : decode cX3_readInto 55 = .ok (.aload_n 0, 1) := dcO tk_X3_readInto_0 32 rfl
theorem dX3_readInto_56 : decode cX3_readInto 56 = .ok (.getfield 31, 3) := dcO tk_X3_readInto_0 33 rfl
theorem dX3_readInto_59 : decode cX3_readInto 59 = .ok (.iaload, 1) := dcO tk_X3_readInto_0 34 rfl
theorem dX3_readInto_60 : decode cX3_readInto 60 = .ok (.iconst 3, 1) := dcO tk_X3_readInto_0 35 rfl
theorem dX3_readInto_61 : decode cX3_readInto 61 = .ok (.if_icmp .eq 15, 3) := dcO tk_X3_readInto_0 36 rfl
theorem dX3_readInto_64 : decode cX3_readInto 64 = .ok (.iconst (-1), 1) := dcO tk_X3_readInto_0 37 rfl
theorem dX3_readInto_65 : decode cX3_readInto 65 = .ok (.aload_n 0, 1) := dcO tk_X3_readInto_0 38 rfl
theorem dX3_readInto_66 : decode cX3_readInto 66 = .ok (.getfield 22, 3) := dcO tk_X3_readInto_0 39 rfl
abbrev tb_X3_readInto_1 : List (Nat × Instr × Nat) := [(69, .aload_n 0, 1), (70, .getfield 31, 3), (73, .iaload, 1), (74, .isub, 1), (75, .ireturn, 1), (76, .aload_n 0, 1), (77, .dup, 1), (78, .getfield 31, 3), (81, .iconst 1, 1), (82, .iadd, 1), (83, .putfield 31, 3), (86, .iinc 2 1, 3), (89, .goto (-78), 3), (92, .iconst (-1), 1), (93, .aload_n 0, 1), (94, .getfield 22, 3), (97, .aload_n 0, 1), (98, .getfield 31, 3), (101, .iaload, 1), (102, .isub, 1), (103, .ireturn, 1)]
theorem tk_X3_readInto_1 : dcA cX3_readInto tb_X3_readInto_1 = true := by decide +kernel
theorem dX3_readInto_69 : decode cX3_readInto 69 = .ok (.aload_n 0, 1) := dcO tk_X3_readInto_1 0 rfl
theorem dX3_readInto_70 : decode cX3_readInto 70 = .ok (.getfield 31, 3) := dcO tk_X3_readInto_1 1 rfl
theorem dX3_readInto_73 : decode cX3_readInto 73 = .ok (.iaload, 1) := dcO tk_X3_readInto_1 2 rfl
theorem dX3_readInto_74 : decode cX3_readInto 74 = .ok (.isub, 1) := dcO tk_X3_readInto_1 3 rfl
theorem dX3_readInto_75 : decode cX3_readInto 75 = .ok (.ireturn, 1) := dcO tk_X3_readInto_1 4 rfl
theorem dX3_readInto_76 : decode cX3_readInto 76 = .ok (.aload_n 0, 1) := dcO tk_X3_readInto_1 5 rfl
theorem dX3_readInto_77 : decode cX3_readInto 77 = .ok (.dup, 1) := dcO tk_X3_readInto_1 6 rfl
theorem dX3_readInto_78 : decode cX3_readInto 78 = .ok (.getfield 31, 3) := dcO tk_X3_readInto_1 7 rfl
theorem dX3_readInto_81 : decode cX3_readInto 81 = .ok (.iconst 1, 1) := dcO tk_X3_readInto_1 8 rfl
theorem dX3_readInto_82 : decode cX3_readInto 82 = .ok (.iadd, 1) := dcO tk_X3_readInto_1 9 rfl
theorem dX3_readInto_83 : decode cX3_readInto 83 = .ok (.putfield 31, 3) := dcO tk_X3_readInto_1 10 rfl
theorem dX3_readInto_86 : decode cX3_readInto 86 = .ok (.iinc 2 1, 3) := dcO tk_X3_readInto_1 11 rfl
theorem dX3_readInto_89 : decode cX3_readInto 89 = .ok (.goto (-78), 3) := dcO tk_X3_readInto_1 12 rfl
theorem dX3_readInto_92 : decode cX3_readInto 92 = .ok (.iconst (-1), 1) := dcO tk_X3_readInto_1 13 rfl
theorem dX3_readInto_93 : decode cX3_readInto 93 = .ok (.aload_n 0, 1) := dcO tk_X3_readInto_1 14 rfl
theorem dX3_readInto_94 : decode cX3_readInto 94 = .ok (.getfield 22, 3) := dcO tk_X3_readInto_1 15 rfl
theorem dX3_readInto_97 : decode cX3_readInto 97 = .ok (.aload_n 0, 1) := dcO tk_X3_readInto_1 16 rfl
theorem dX3_readInto_98 : decode cX3_readInto 98 = .ok (.getfield 31, 3) := dcO tk_X3_readInto_1 17 rfl
theorem dX3_readInto_101 : decode cX3_readInto 101 = .ok (.iaload, 1) := dcO tk_X3_readInto_1 18 rfl
theorem dX3_readInto_102 : decode cX3_readInto 102 = .ok (.isub, 1) := dcO tk_X3_readInto_1 19 rfl
theorem dX3_readInto_103 : decode cX3_readInto 103 = .ok (.ireturn, 1) := dcO tk_X3_readInto_1 20 rfl
abbrev tb_X3_cutTokens_0 : List (Nat × Instr × Nat) := [(0, .iconst 0, 1), (1, .istore_n 1, 1), (2, .iconst 0, 1), (3, .istore_n 2, 1), (4, .iload_n 2, 1), (5, .aload_n 0, 1), (6, .getfield 9, 3), (9, .if_icmp .ge 33, 3), (12, .aload_n 0, 1), (13, .getfield 15, 3), (16, .iload_n 2, 1), (17, .iaload, 1), (18, .bipush 32, 2), (20, .if_icmp .ne 9, 3), (23, .iinc 2 1, 3), (26, .goto (-22), 3), (29, .aload_n 0, 1), (30, .iload_n 1, 1), (31, .iload_n 2, 1), (32, .invokevirtual 41, 3), (35, .istore_n 2, 1), (36, .iinc 1 1, 3), (39, .goto (-35), 3), (42, .aload_n 0, 1), (43, .getfield 19, 3), (46, .iload_n 1, 1), (47, .iconst 0, 1), (48, .iastore, 1), (49, .aload_n 0, 1), (50, .getfield 22, 3), (53, .iload_n 1, 1), (54, .aload_n 0, 1), (55, .getfield 9, 3), (58, .iastore, 1), (59, .aload_n 0, 1), (60, .getfield 25, 3), (63, .iload_n 1, 1), (64, .aload_n 0, 1), (65, .getfield 9, 3), (68, .iastore, 1)]
theorem tk_X3_cutTokens_0 : dcA cX3_cutTokens tb_X3_cutTokens_0 = true := by decide +kernel
theorem dX3_cutTokens_0 : decode cX3_cutTokens 0 = .ok (.iconst 0, 1) := dcO tk_X3_cutTokens_0 0 rfl
theorem dX3_cutTokens_1 : decode cX3_cutTokens 1 = .ok (.istore_n 1, 1) := dcO tk_X3_cutTokens_0 1 rfl
theorem dX3_cutTokens_2 : decode cX3_cutTokens 2 = .ok (.iconst 0, 1) := dcO tk_X3_cutTokens_0 2 rfl
theorem dX3_cutTokens_3 : decode cX3_cutTokens 3 = .ok (.istore_n 2, 1) := dcO tk_X3_cutTokens_0 3 rfl
theorem dX3_cutTokens_4 : decode cX3_cutTokens 4 = .ok (.iload_n 2, 1) := dcO tk_X3_cutTokens_0 4 rfl
theorem dX3_cutTokens_5 : decode cX3_cutTokens 5 = .ok (.aload_n 0, 1) := dcO tk_X3_cutTokens_0 5 rfl
theorem dX3_cutTokens_6 : decode cX3_cutTokens 6 = .ok (.getfield 9, 3) := dcO tk_X3_cutTokens_0 6 rfl
theorem dX3_cutTokens_9 : decode cX3_cutTokens 9 = .ok (.if_icmp .ge 33, 3) := dcO tk_X3_cutTokens_0 7 rfl
theorem dX3_cutTokens_12 : decode cX3_cutTokens 12 = .ok (.aload_n 0, 1) := dcO tk_X3_cutTokens_0 8 rfl
theorem dX3_cutTokens_13 : decode cX3_cutTokens 13 = .ok (.getfield 15, 3) := dcO tk_X3_cutTokens_0 9 rfl
theorem dX3_cutTokens_16 : decode cX3_cutTokens 16 = .ok (.iload_n 2, 1) := dcO tk_X3_cutTokens_0 10 rfl
theorem dX3_cutTokens_17 : decode cX3_cutTokens 17 = .ok (.iaload, 1) := dcO tk_X3_cutTokens_0 11 rfl
theorem dX3_cutTokens_18 : decode cX3_cutTokens 18 = .ok (.bipush 32, 2) := dcO tk_X3_cutTokens_0 12 rfl
theorem dX3_cutTokens_20 : decode cX3_cutTokens 20 = .ok (.if_icmp .ne 9, 3) := dcO tk_X3_cutTokens_0 13 rfl
theorem dX3_cutTokens_23 : decode cX3_cutTokens 23 = .ok (.iinc 2 1, 3) := dcO tk_X3_cutTokens_0 14 rfl
theorem dX3_cutTokens_26 : decode cX3_cutTokens 26 = .ok (.goto (-22), 3) := dcO tk_X3_cutTokens_0 15 rfl
theorem dX3_cutTokens_29 : decode cX3_cutTokens 29 = .ok (.aload_n 0, 1) := dcO tk_X3_cutTokens_0 16 rfl
theorem dX3_cutTokens_30 : decode cX3_cutTokens 30 = .ok (.iload_n 1, 1) := dcO tk_X3_cutTokens_0 17 rfl
theorem dX3_cutTokens_31 : decode cX3_cutTokens 31 = .ok (.iload_n 2, 1) := dcO tk_X3_cutTokens_0 18 rfl
theorem dX3_cutTokens_32 : decode cX3_cutTokens 32 = .ok (.invokevirtual 41, 3) := dcO tk_X3_cutTokens_0 19 rfl
theorem dX3_cutTokens_35 : decode cX3_cutTokens 35 = .ok (.istore_n 2, 1) := dcO tk_X3_cutTokens_0 20 rfl
theorem dX3_cutTokens_36 : decode cX3_cutTokens 36 = .ok (.iinc 1 1, 3) := dcO tk_X3_cutTokens_0 21 rfl
theorem dX3_cutTokens_39 : decode cX3_cutTokens 39 = .ok (.goto (-35), 3) := dcO tk_X3_cutTokens_0 22 rfl
theorem dX3_cutTokens_42 : decode cX3_cutTokens 42 = .ok (.aload_n 0, 1) := dcO tk_X3_cutTokens_0 23 rfl
theorem dX3_cutTokens_43 : decode cX3_cutTokens 43 = .ok (.getfield 19, 3) := dcO tk_X3_cutTokens_0 24 rfl
theorem dX3_cutTokens_46 : decode cX3_cutTokens 46 = .ok (.iload_n 1, 1) := dcO tk_X3_cutTokens_0 25 rfl
theorem dX3_cutTokens_47 : decode cX3_cutTokens 47 = .ok (.iconst 0, 1) := dcO tk_X3_cutTokens_0 26 rfl
theorem dX3_cutTokens_48 : decode cX3_cutTokens 48 = .ok (.iastore, 1) := dcO tk_X3_cutTokens_0 27 rfl
theorem dX3_cutTokens_49 : decode cX3_cutTokens 49 = .ok (.aload_n 0, 1) := dcO tk_X3_cutTokens_0 28 rfl
theorem dX3_cutTokens_50 : decode cX3_cutTokens 50 = .ok (.getfield 22, 3) := dcO tk_X3_cutTokens_0 29 rfl
theorem dX3_cutTokens_53 : decode cX3_cutTokens 53 = .ok (.iload_n 1, 1) := dcO tk_X3_cutTokens_0 30 rfl
theorem dX3_cutTokens_54 : decode cX3_cutTokens 54 = .ok (.aload_n 0, 1) := dcO tk_X3_cutTokens_0 31 rfl
theorem dX3_cutTokens_55 : decode cX3_cutTokens 55 = .ok (.getfield 9, 3) := dcO tk_X3_cutTokens_0 32 rfl
theorem dX3_cutTokens_58 : decode cX3_cutTokens 58 = .ok (.iastore, 1) := dcO tk_X3_cutTokens_0 33 rfl
theorem dX3_cutTokens_59 : decode cX3_cutTokens 59 = .ok (.aload_n 0, 1) := dcO tk_X3_cutTokens_0 34 rfl
theorem dX3_cutTokens_60 : decode cX3_cutTokens 60 = .ok (.getfield 25, 3) := dcO tk_X3_cutTokens_0 35 rfl
theorem dX3_cutTokens_63 : decode cX3_cutTokens 63 = .ok (.iload_n 1, 1) := dcO tk_X3_cutTokens_0 36 rfl
theorem dX3_cutTokens_64 : decode cX3_cutTokens 64 = .ok (.aload_n 0, 1) := dcO tk_X3_cutTokens_0 37 rfl
theorem dX3_cutTokens_65 : decode cX3_cutTokens 65 = .ok (.getfield 9, 3) := dcO tk_X3_cutTokens_0 38 rfl
theorem dX3_cutTokens_68 : decode cX3_cutTokens 68 = .ok (.iastore, 1) := dcO tk_X3_cutTokens_0 39 rfl
abbrev tb_X3_cutTokens_1 : List (Nat × Instr × Nat) := [(69, .return_, 1)]
theorem tk_X3_cutTokens_1 : dcA cX3_cutTokens tb_X3_cutTokens_1 = true := by decide +kernel
theorem dX3_cutTokens_69 : decode cX3_cutTokens 69 = .ok (.return_, 1) := dcO tk_X3_cutTokens_1 0 rfl
abbrev tb_X3_cutToken_0 : List (Nat × Instr × Nat) := [(0, .aload_n 0, 1), (1, .getfield 15, 3), (4, .iload_n 2, 1), (5, .iaload, 1), (6, .invokestatic 45, 3), (9, .istore_n 3, 1), (10, .iload_n 3, 1), (11, .iconst 1, 1), (12, .if_icmp .eq 8, 3), (15, .iload_n 3, 1), (16, .iconst 2, 1), (17, .if_icmp .ne 7, 3), (20, .iconst 1, 1), (21, .goto 4, 3), (24, .iconst 0, 1), (25, .istore 4, 2), (27, .iload_n 2, 1), (28, .iconst 1, 1), (29, .iadd, 1), (30, .istore 5, 2), (32, .iload 4, 2), (34, .ifCond .eq 32, 3), (37, .iload 5, 2), (39, .aload_n 0, 1), (40, .getfield 9, 3), (43, .if_icmp .ge 23, 3), (46, .aload_n 0, 1), (47, .getfield 15, 3), (50, .iload 5, 2), (52, .iaload, 1), (53, .invokestatic 45, 3), (56, .iload_n 3, 1), (57, .if_icmp .ne 9, 3), (60, .iinc 5 1, 3), (63, .goto (-31), 3), (66, .aload_n 0, 1), (67, .getfield 19, 3), (70, .iload_n 1, 1), (71, .iload_n 3, 1), (72, .iastore, 1)]
theorem tk_X3_cutToken_0 : dcA cX3_cutToken tb_X3_cutToken_0 = true := by decide +kernel
theorem dX3_cutToken_0 : decode cX3_cutToken 0 = .ok (.aload_n 0, 1) := dcO tk_X3_cutToken_0 0 rfl
theorem dX3_cutToken_1 : decode cX3_cutToken 1 = .ok (.getfield 15, 3) := dcO tk_X3_cutToken_0 1 rfl
theorem dX3_cutToken_4 : decode cX3_cutToken 4 = .ok (.iload_n 2, 1) := dcO tk_X3_cutToken_0 2 rfl
theorem dX3_cutToken_5 : decode cX3_cutToken 5 = .ok (.iaload, 1) := dcO tk_X3_cutToken_0 3 rfl
theorem dX3_cutToken_6 : decode cX3_cutToken 6 = .ok (.invokestatic 45, 3) := dcO tk_X3_cutToken_0 4 rfl
theorem dX3_cutToken_9 : decode cX3_cutToken 9 = .ok (.istore_n 3, 1) := dcO tk_X3_cutToken_0 5 rfl
theorem dX3_cutToken_10 : decode cX3_cutToken 10 = .ok (.iload_n 3, 1) := dcO tk_X3_cutToken_0 6 rfl
theorem dX3_cutToken_11 : decode cX3_cutToken 11 = .ok (.iconst 1, 1) := dcO tk_X3_cutToken_0 7 rfl
theorem dX3_cutToken_12 : decode cX3_cutToken 12 = .ok (.if_icmp .eq 8, 3) := dcO tk_X3_cutToken_0 8 rfl
theorem dX3_cutToken_15 : decode cX3_cutToken 15 = .ok (.iload_n 3, 1) := dcO tk_X3_cutToken_0 9 rfl
theorem dX3_cutToken_16 : decode cX3_cutToken 16 = .ok (.iconst 2, 1) := dcO tk_X3_cutToken_0 10 rfl
theorem dX3_cutToken_17 : decode cX3_cutToken 17 = .ok (.if_icmp .ne 7, 3) := dcO tk_X3_cutToken_0 11 rfl
theorem dX3_cutToken_20 : decode cX3_cutToken 20 = .ok (.iconst 1, 1) := dcO tk_X3_cutToken_0 12 rfl
theorem dX3_cutToken_21 : decode cX3_cutToken 21 = .ok (.goto 4, 3) := dcO tk_X3_cutToken_0 13 rfl
theorem dX3_cutToken_24 : decode cX3_cutToken 24 = .ok (.iconst 0, 1) := dcO tk_X3_cutToken_0 14 rfl
theorem dX3_cutToken_25 : decode cX3_cutToken 25 = .ok (.istore 4, 2) := dcO tk_X3_cutToken_0 15 rfl
theorem dX3_cutToken_27 : decode cX3_cutToken 27 = .ok (.iload_n 2, 1) := dcO tk_X3_cutToken_0 16 rfl
theorem dX3_cutToken_28 : decode cX3_cutToken 28 = .ok (.iconst 1, 1) := dcO tk_X3_cutToken_0 17 rfl
theorem dX3_cutToken_29 : decode cX3_cutToken 29 = .ok (.iadd, 1) := dcO tk_X3_cutToken_0 18 rfl
theorem dX3_cutToken_30 : decode cX3_cutToken 30 = .ok (.istore 5, 2) := dcO tk_X3_cutToken_0 19 rfl
theorem dX3_cutToken_32 : decode cX3_cutToken 32 = .ok (.iload 4, 2) := dcO tk_X3_cutToken_0 20 rfl
theorem dX3_cutToken_34 : decode cX3_cutToken 34 = .ok (.ifCond .eq 32, 3) := dcO tk_X3_cutToken_0 21 rfl
theorem dX3_cutToken_37 : decode cX3_cutToken 37 = .ok (.iload 5, 2) := dcO tk_X3_cutToken_0 22 rfl
theorem dX3_cutToken_39 : decode cX3_cutToken 39 = .ok (.aload_n 0, 1) := dcO tk_X3_cutToken_0 23 rfl
theorem dX3_cutToken_40 : decode cX3_cutToken 40 = .ok (.getfield 9, 3) := dcO tk_X3_cutToken_0 24 rfl
theorem dX3_cutToken_43 : decode cX3_cutToken 43 = .ok (.if_icmp .ge 23, 3) := dcO tk_X3_cutToken_0 25 rfl
theorem dX3_cutToken_46 : decode cX3_cutToken 46 = .ok (.aload_n 0, 1) := dcO tk_X3_cutToken_0 26 rfl
theorem dX3_cutToken_47 : decode cX3_cutToken 47 = .ok (.getfield 15, 3) := dcO tk_X3_cutToken_0 27 rfl
theorem dX3_cutToken_50 : decode cX3_cutToken 50 = .ok (.iload 5, 2) := dcO tk_X3_cutToken_0 28 rfl
theorem dX3_cutToken_52 : decode cX3_cutToken 52 = .ok (.iaload, 1) := dcO tk_X3_cutToken_0 29 rfl
theorem dX3_cutToken_53 : decode cX3_cutToken 53 = .ok (.invokestatic 45, 3) := dcO tk_X3_cutToken_0 30 rfl
theorem dX3_cutToken_56 : decode cX3_cutToken 56 = .ok (.iload_n 3, 1) := dcO tk_X3_cutToken_0 31 rfl
theorem dX3_cutToken_57 : decode cX3_cutToken 57 = .ok (.if_icmp .ne 9, 3) := dcO tk_X3_cutToken_0 32 rfl
theorem dX3_cutToken_60 : decode cX3_cutToken 60 = .ok (.iinc 5 1, 3) := dcO tk_X3_cutToken_0 33 rfl
theorem dX3_cutToken_63 : decode cX3_cutToken 63 = .ok (.goto (-31), 3) := dcO tk_X3_cutToken_0 34 rfl
theorem dX3_cutToken_66 : decode cX3_cutToken 66 = .ok (.aload_n 0, 1) := dcO tk_X3_cutToken_0 35 rfl
theorem dX3_cutToken_67 : decode cX3_cutToken 67 = .ok (.getfield 19, 3) := dcO tk_X3_cutToken_0 36 rfl
theorem dX3_cutToken_70 : decode cX3_cutToken 70 = .ok (.iload_n 1, 1) := dcO tk_X3_cutToken_0 37 rfl
theorem dX3_cutToken_71 : decode cX3_cutToken 71 = .ok (.iload_n 3, 1) := dcO tk_X3_cutToken_0 38 rfl
theorem dX3_cutToken_72 : decode cX3_cutToken 72 = .ok (.iastore, 1) := dcO tk_X3_cutToken_0 39 rfl
abbrev tb_X3_cutToken_1 : List (Nat × Instr × Nat) := [(73, .aload_n 0, 1), (74, .getfield 22, 3), (77, .iload_n 1, 1), (78, .iload_n 2, 1), (79, .iastore, 1), (80, .aload_n 0, 1), (81, .getfield 25, 3), (84, .iload_n 1, 1), (85, .iload 5, 2), (87, .iastore, 1), (88, .aload_n 0, 1), (89, .getfield 28, 3), (92, .iload_n 1, 1), (93, .iload_n 3, 1), (94, .iconst 2, 1), (95, .if_icmp .ne 13, 3), (98, .aload_n 0, 1), (99, .iload_n 2, 1), (100, .iload 5, 2), (102, .invokevirtual 49, 3), (105, .goto 4, 3), (108, .iconst 0, 1), (109, .iastore, 1), (110, .iload 5, 2), (112, .ireturn, 1)]
theorem tk_X3_cutToken_1 : dcA cX3_cutToken tb_X3_cutToken_1 = true := by decide +kernel
theorem dX3_cutToken_73 : decode cX3_cutToken 73 = .ok (.aload_n 0, 1) := dcO tk_X3_cutToken_1 0 rfl
theorem dX3_cutToken_74 : decode cX3_cutToken 74 = .ok (.getfield 22, 3) := dcO tk_X3_cutToken_1 1 rfl
theorem dX3_cutToken_77 : decode cX3_cutToken 77 = .ok (.iload_n 1, 1) := dcO tk_X3_cutToken_1 2 rfl
theorem dX3_cutToken_78 : decode cX3_cutToken 78 = .ok (.iload_n 2, 1) := dcO tk_X3_cutToken_1 3 rfl
theorem dX3_cutToken_79 : decode cX3_cutToken 79 = .ok (.iastore, 1) := dcO tk_X3_cutToken_1 4 rfl
theorem dX3_cutToken_80 : decode cX3_cutToken 80 = .ok (.aload_n 0, 1) := dcO tk_X3_cutToken_1 5 rfl
theorem dX3_cutToken_81 : decode cX3_cutToken 81 = .ok (.getfield 25, 3) := dcO tk_X3_cutToken_1 6 rfl
theorem dX3_cutToken_84 : decode cX3_cutToken 84 = .ok (.iload_n 1, 1) := dcO tk_X3_cutToken_1 7 rfl
theorem dX3_cutToken_85 : decode cX3_cutToken 85 = .ok (.iload 5, 2) := dcO tk_X3_cutToken_1 8 rfl
theorem dX3_cutToken_87 : decode cX3_cutToken 87 = .ok (.iastore, 1) := dcO tk_X3_cutToken_1 9 rfl
theorem dX3_cutToken_88 : decode cX3_cutToken 88 = .ok (.aload_n 0, 1) := dcO tk_X3_cutToken_1 10 rfl
theorem dX3_cutToken_89 : decode cX3_cutToken 89 = .ok (.getfield 28, 3) := dcO tk_X3_cutToken_1 11 rfl
theorem dX3_cutToken_92 : decode cX3_cutToken 92 = .ok (.iload_n 1, 1) := dcO tk_X3_cutToken_1 12 rfl
theorem dX3_cutToken_93 : decode cX3_cutToken 93 = .ok (.iload_n 3, 1) := dcO tk_X3_cutToken_1 13 rfl
theorem dX3_cutToken_94 : decode cX3_cutToken 94 = .ok (.iconst 2, 1) := dcO tk_X3_cutToken_1 14 rfl
theorem dX3_cutToken_95 : decode cX3_cutToken 95 = .ok (.if_icmp .ne 13, 3) := dcO tk_X3_cutToken_1 15 rfl
theorem dX3_cutToken_98 : decode cX3_cutToken 98 = .ok (.aload_n 0, 1) := dcO tk_X3_cutToken_1 16 rfl
theorem dX3_cutToken_99 : decode cX3_cutToken 99 = .ok (.iload_n 2, 1) := dcO tk_X3_cutToken_1 17 rfl
theorem dX3_cutToken_100 : decode cX3_cutToken 100 = .ok (.iload 5, 2) := dcO tk_X3_cutToken_1 18 rfl
theorem dX3_cutToken_102 : decode cX3_cutToken 102 = .ok (.invokevirtual 49, 3) := dcO tk_X3_cutToken_1 19 rfl
theorem dX3_cutToken_105 : decode cX3_cutToken 105 = .ok (.goto 4, 3) := dcO tk_X3_cutToken_1 20 rfl
theorem dX3_cutToken_108 : decode cX3_cutToken 108 = .ok (.iconst 0, 1) := dcO tk_X3_cutToken_1 21 rfl
theorem dX3_cutToken_109 : decode cX3_cutToken 109 = .ok (.iastore, 1) := dcO tk_X3_cutToken_1 22 rfl
theorem dX3_cutToken_110 : decode cX3_cutToken 110 = .ok (.iload 5, 2) := dcO tk_X3_cutToken_1 23 rfl
theorem dX3_cutToken_112 : decode cX3_cutToken 112 = .ok (.ireturn, 1) := dcO tk_X3_cutToken_1 24 rfl
abbrev tb_X3_sortOf_0 : List (Nat × Instr × Nat) := [(0, .iload_n 0, 1), (1, .bipush 97, 2), (3, .if_icmp .lt 11, 3), (6, .iload_n 0, 1), (7, .bipush 122, 2), (9, .if_icmp .gt 5, 3), (12, .iconst 1, 1), (13, .ireturn, 1), (14, .iload_n 0, 1), (15, .bipush 48, 2), (17, .if_icmp .lt 11, 3), (20, .iload_n 0, 1), (21, .bipush 57, 2), (23, .if_icmp .gt 5, 3), (26, .iconst 2, 1), (27, .ireturn, 1), (28, .iload_n 0, 1), (29, .bipush 59, 2), (31, .if_icmp .ne 7, 3), (34, .iconst 3, 1), (35, .goto 4, 3), (38, .iconst 4, 1), (39, .ireturn, 1)]
theorem tk_X3_sortOf_0 : dcA cX3_sortOf tb_X3_sortOf_0 = true := by decide +kernel
theorem dX3_sortOf_0 : decode cX3_sortOf 0 = .ok (.iload_n 0, 1) := dcO tk_X3_sortOf_0 0 rfl
theorem dX3_sortOf_1 : decode cX3_sortOf 1 = .ok (.bipush 97, 2) := dcO tk_X3_sortOf_0 1 rfl
theorem dX3_sortOf_3 : decode cX3_sortOf 3 = .ok (.if_icmp .lt 11, 3) := dcO tk_X3_sortOf_0 2 rfl
theorem dX3_sortOf_6 : decode cX3_sortOf 6 = .ok (.iload_n 0, 1) := dcO tk_X3_sortOf_0 3 rfl
theorem dX3_sortOf_7 : decode cX3_sortOf 7 = .ok (.bipush 122, 2) := dcO tk_X3_sortOf_0 4 rfl
theorem dX3_sortOf_9 : decode cX3_sortOf 9 = .ok (.if_icmp .gt 5, 3) := dcO tk_X3_sortOf_0 5 rfl
theorem dX3_sortOf_12 : decode cX3_sortOf 12 = .ok (.iconst 1, 1) := dcO tk_X3_sortOf_0 6 rfl
theorem dX3_sortOf_13 : decode cX3_sortOf 13 = .ok (.ireturn, 1) := dcO tk_X3_sortOf_0 7 rfl
theorem dX3_sortOf_14 : decode cX3_sortOf 14 = .ok (.iload_n 0, 1) := dcO tk_X3_sortOf_0 8 rfl
theorem dX3_sortOf_15 : decode cX3_sortOf 15 = .ok (.bipush 48, 2) := dcO tk_X3_sortOf_0 9 rfl
theorem dX3_sortOf_17 : decode cX3_sortOf 17 = .ok (.if_icmp .lt 11, 3) := dcO tk_X3_sortOf_0 10 rfl
theorem dX3_sortOf_20 : decode cX3_sortOf 20 = .ok (.iload_n 0, 1) := dcO tk_X3_sortOf_0 11 rfl
theorem dX3_sortOf_21 : decode cX3_sortOf 21 = .ok (.bipush 57, 2) := dcO tk_X3_sortOf_0 12 rfl
theorem dX3_sortOf_23 : decode cX3_sortOf 23 = .ok (.if_icmp .gt 5, 3) := dcO tk_X3_sortOf_0 13 rfl
theorem dX3_sortOf_26 : decode cX3_sortOf 26 = .ok (.iconst 2, 1) := dcO tk_X3_sortOf_0 14 rfl
theorem dX3_sortOf_27 : decode cX3_sortOf 27 = .ok (.ireturn, 1) := dcO tk_X3_sortOf_0 15 rfl
theorem dX3_sortOf_28 : decode cX3_sortOf 28 = .ok (.iload_n 0, 1) := dcO tk_X3_sortOf_0 16 rfl
theorem dX3_sortOf_29 : decode cX3_sortOf 29 = .ok (.bipush 59, 2) := dcO tk_X3_sortOf_0 17 rfl
theorem dX3_sortOf_31 : decode cX3_sortOf 31 = .ok (.if_icmp .ne 7, 3) := dcO tk_X3_sortOf_0 18 rfl
theorem dX3_sortOf_34 : decode cX3_sortOf 34 = .ok (.iconst 3, 1) := dcO tk_X3_sortOf_0 19 rfl
theorem dX3_sortOf_35 : decode cX3_sortOf 35 = .ok (.goto 4, 3) := dcO tk_X3_sortOf_0 20 rfl
theorem dX3_sortOf_38 : decode cX3_sortOf 38 = .ok (.iconst 4, 1) := dcO tk_X3_sortOf_0 21 rfl
theorem dX3_sortOf_39 : decode cX3_sortOf 39 = .ok (.ireturn, 1) := dcO tk_X3_sortOf_0 22 rfl
abbrev tb_X3_valueOf_0 : List (Nat × Instr × Nat) := [(0, .iconst 0, 1), (1, .istore_n 3, 1), (2, .iload_n 1, 1), (3, .istore 4, 2), (5, .iload 4, 2), (7, .iload_n 2, 1), (8, .if_icmp .ge 31, 3), (11, .iload_n 3, 1), (12, .bipush 10, 2), (14, .imul, 1), (15, .aload_n 0, 1), (16, .getfield 15, 3), (19, .iload 4, 2), (21, .iaload, 1), (22, .iadd, 1), (23, .bipush 48, 2), (25, .isub, 1), (26, .sipush 1000, 3), (29, .invokestatic 52, 3), (32, .istore_n 3, 1), (33, .iinc 4 1, 3), (36, .goto (-31), 3), (39, .iload_n 3, 1), (40, .ireturn, 1)]
theorem tk_X3_valueOf_0 : dcA cX3_valueOf tb_X3_valueOf_0 = true := by decide +kernel
theorem dX3_valueOf_0 : decode cX3_valueOf 0 = .ok (.iconst 0, 1) := dcO tk_X3_valueOf_0 0 rfl
theorem dX3_valueOf_1 : decode cX3_valueOf 1 = .ok (.istore_n 3, 1) := dcO tk_X3_valueOf_0 1 rfl
theorem dX3_valueOf_2 : decode cX3_valueOf 2 = .ok (.iload_n 1, 1) := dcO tk_X3_valueOf_0 2 rfl
theorem dX3_valueOf_3 : decode cX3_valueOf 3 = .ok (.istore 4, 2) := dcO tk_X3_valueOf_0 3 rfl
theorem dX3_valueOf_5 : decode cX3_valueOf 5 = .ok (.iload 4, 2) := dcO tk_X3_valueOf_0 4 rfl
theorem dX3_valueOf_7 : decode cX3_valueOf 7 = .ok (.iload_n 2, 1) := dcO tk_X3_valueOf_0 5 rfl
theorem dX3_valueOf_8 : decode cX3_valueOf 8 = .ok (.if_icmp .ge 31, 3) := dcO tk_X3_valueOf_0 6 rfl
theorem dX3_valueOf_11 : decode cX3_valueOf 11 = .ok (.iload_n 3, 1) := dcO tk_X3_valueOf_0 7 rfl
theorem dX3_valueOf_12 : decode cX3_valueOf 12 = .ok (.bipush 10, 2) := dcO tk_X3_valueOf_0 8 rfl
theorem dX3_valueOf_14 : decode cX3_valueOf 14 = .ok (.imul, 1) := dcO tk_X3_valueOf_0 9 rfl
theorem dX3_valueOf_15 : decode cX3_valueOf 15 = .ok (.aload_n 0, 1) := dcO tk_X3_valueOf_0 10 rfl
theorem dX3_valueOf_16 : decode cX3_valueOf 16 = .ok (.getfield 15, 3) := dcO tk_X3_valueOf_0 11 rfl
theorem dX3_valueOf_19 : decode cX3_valueOf 19 = .ok (.iload 4, 2) := dcO tk_X3_valueOf_0 12 rfl
theorem dX3_valueOf_21 : decode cX3_valueOf 21 = .ok (.iaload, 1) := dcO tk_X3_valueOf_0 13 rfl
theorem dX3_valueOf_22 : decode cX3_valueOf 22 = .ok (.iadd, 1) := dcO tk_X3_valueOf_0 14 rfl
theorem dX3_valueOf_23 : decode cX3_valueOf 23 = .ok (.bipush 48, 2) := dcO tk_X3_valueOf_0 15 rfl
theorem dX3_valueOf_25 : decode cX3_valueOf 25 = .ok (.isub, 1) := dcO tk_X3_valueOf_0 16 rfl
theorem dX3_valueOf_26 : decode cX3_valueOf 26 = .ok (.sipush 1000, 3) := dcO tk_X3_valueOf_0 17 rfl
theorem dX3_valueOf_29 : decode cX3_valueOf 29 = .ok (.invokestatic 52, 3) := dcO tk_X3_valueOf_0 18 rfl
theorem dX3_valueOf_32 : decode cX3_valueOf 32 = .ok (.istore_n 3, 1) := dcO tk_X3_valueOf_0 19 rfl
theorem dX3_valueOf_33 : decode cX3_valueOf 33 = .ok (.iinc 4 1, 3) := dcO tk_X3_valueOf_0 20 rfl
theorem dX3_valueOf_36 : decode cX3_valueOf 36 = .ok (.goto (-31), 3) := dcO tk_X3_valueOf_0 21 rfl
theorem dX3_valueOf_39 : decode cX3_valueOf 39 = .ok (.iload_n 3, 1) := dcO tk_X3_valueOf_0 22 rfl
theorem dX3_valueOf_40 : decode cX3_valueOf 40 = .ok (.ireturn, 1) := dcO tk_X3_valueOf_0 23 rfl
abbrev tb_X3_readItem_0 : List (Nat × Instr × Nat) := [(0, .aload_n 0, 1), (1, .invokevirtual 57, 3), (4, .istore_n 2, 1), (5, .iload_n 2, 1), (6, .ifCond .lt 10, 3), (9, .aload_n 0, 1), (10, .aload_n 1, 1), (11, .iload_n 2, 1), (12, .invokevirtual 61, 3), (15, .ireturn, 1), (16, .aload_n 0, 1), (17, .ldc 65, 2), (19, .invokevirtual 67, 3), (22, .ifCond .eq 9, 3), (25, .aload_n 0, 1), (26, .aload_n 1, 1), (27, .invokevirtual 71, 3), (30, .ireturn, 1), (31, .aload_n 0, 1), (32, .ldc 74, 2), (34, .invokevirtual 67, 3), (37, .ifCond .eq 9, 3), (40, .aload_n 0, 1), (41, .aload_n 1, 1), (42, .invokevirtual 76, 3), (45, .ireturn, 1), (46, .aload_n 0, 1), (47, .ldc 79, 2), (49, .invokevirtual 67, 3), (52, .ifCond .eq 9, 3), (55, .aload_n 0, 1), (56, .aload_n 1, 1), (57, .invokevirtual 81, 3), (60, .ireturn, 1), (61, .aload_n 0, 1), (62, .ldc 84, 2), (64, .invokevirtual 67, 3), (67, .ifCond .eq 9, 3), (70, .aload_n 0, 1), (71, .aload_n 1, 1)]
theorem tk_X3_readItem_0 : dcA cX3_readItem tb_X3_readItem_0 = true := by decide +kernel
theorem dX3_readItem_0 : decode cX3_readItem 0 = .ok (.aload_n 0, 1) := dcO tk_X3_readItem_0 0 rfl
theorem dX3_readItem_1 : decode cX3_readItem 1 = .ok (.invokevirtual 57, 3) := dcO tk_X3_readItem_0 1 rfl
theorem dX3_readItem_4 : decode cX3_readItem 4 = .ok (.istore_n 2, 1) := dcO tk_X3_readItem_0 2 rfl
theorem dX3_readItem_5 : decode cX3_readItem 5 = .ok (.iload_n 2, 1) := dcO tk_X3_readItem_0 3 rfl
theorem dX3_readItem_6 : decode cX3_readItem 6 = .ok (.ifCond .lt 10, 3) := dcO tk_X3_readItem_0 4 rfl
theorem dX3_readItem_9 : decode cX3_readItem 9 = .ok (.aload_n 0, 1) := dcO tk_X3_readItem_0 5 rfl
theorem dX3_readItem_10 : decode cX3_readItem 10 = .ok (.aload_n 1, 1) := dcO tk_X3_readItem_0 6 rfl
theorem dX3_readItem_11 : decode cX3_readItem 11 = .ok (.iload_n 2, 1) := dcO tk_X3_readItem_0 7 rfl
theorem dX3_readItem_12 : decode cX3_readItem 12 = .ok (.invokevirtual 61, 3) := dcO tk_X3_readItem_0 8 rfl
theorem dX3_readItem_15 : decode cX3_readItem 15 = .ok (.ireturn, 1) := dcO tk_X3_readItem_0 9 rfl
theorem dX3_readItem_16 : decode cX3_readItem 16 = .ok (.aload_n 0, 1) := dcO tk_X3_readItem_0 10 rfl
theorem dX3_readItem_17 : decode cX3_readItem 17 = .ok (.ldc 65, 2) := dcO tk_X3_readItem_0 11 rfl
theorem dX3_readItem_19 : decode cX3_readItem 19 = .ok (.invokevirtual 67, 3) := dcO tk_X3_readItem_0 12 rfl
theorem dX3_readItem_22 : decode cX3_readItem 22 = .ok (.ifCond .eq 9, 3) := dcO tk_X3_readItem_0 13 rfl
theorem dX3_readItem_25 : decode cX3_readItem 25 = .ok (.aload_n 0, 1) := dcO tk_X3_readItem_0 14 rfl
theorem dX3_readItem_26 : decode cX3_readItem 26 = .ok (.aload_n 1, 1) := dcO tk_X3_readItem_0 15 rfl
theorem dX3_readItem_27 : decode cX3_readItem 27 = .ok (.invokevirtual 71, 3) := dcO tk_X3_readItem_0 16 rfl
theorem dX3_readItem_30 : decode cX3_readItem 30 = .ok (.ireturn, 1) := dcO tk_X3_readItem_0 17 rfl
theorem dX3_readItem_31 : decode cX3_readItem 31 = .ok (.aload_n 0, 1) := dcO tk_X3_readItem_0 18 rfl
theorem dX3_readItem_32 : decode cX3_readItem 32 = .ok (.ldc 74, 2) := dcO tk_X3_readItem_0 19 rfl
theorem dX3_readItem_34 : decode cX3_readItem 34 = .ok (.invokevirtual 67, 3) := dcO tk_X3_readItem_0 20 rfl
theorem dX3_readItem_37 : decode cX3_readItem 37 = .ok (.ifCond .eq 9, 3) := dcO tk_X3_readItem_0 21 rfl
theorem dX3_readItem_40 : decode cX3_readItem 40 = .ok (.aload_n 0, 1) := dcO tk_X3_readItem_0 22 rfl
theorem dX3_readItem_41 : decode cX3_readItem 41 = .ok (.aload_n 1, 1) := dcO tk_X3_readItem_0 23 rfl
theorem dX3_readItem_42 : decode cX3_readItem 42 = .ok (.invokevirtual 76, 3) := dcO tk_X3_readItem_0 24 rfl
theorem dX3_readItem_45 : decode cX3_readItem 45 = .ok (.ireturn, 1) := dcO tk_X3_readItem_0 25 rfl
theorem dX3_readItem_46 : decode cX3_readItem 46 = .ok (.aload_n 0, 1) := dcO tk_X3_readItem_0 26 rfl
theorem dX3_readItem_47 : decode cX3_readItem 47 = .ok (.ldc 79, 2) := dcO tk_X3_readItem_0 27 rfl
theorem dX3_readItem_49 : decode cX3_readItem 49 = .ok (.invokevirtual 67, 3) := dcO tk_X3_readItem_0 28 rfl
theorem dX3_readItem_52 : decode cX3_readItem 52 = .ok (.ifCond .eq 9, 3) := dcO tk_X3_readItem_0 29 rfl
theorem dX3_readItem_55 : decode cX3_readItem 55 = .ok (.aload_n 0, 1) := dcO tk_X3_readItem_0 30 rfl
theorem dX3_readItem_56 : decode cX3_readItem 56 = .ok (.aload_n 1, 1) := dcO tk_X3_readItem_0 31 rfl
theorem dX3_readItem_57 : decode cX3_readItem 57 = .ok (.invokevirtual 81, 3) := dcO tk_X3_readItem_0 32 rfl
theorem dX3_readItem_60 : decode cX3_readItem 60 = .ok (.ireturn, 1) := dcO tk_X3_readItem_0 33 rfl
theorem dX3_readItem_61 : decode cX3_readItem 61 = .ok (.aload_n 0, 1) := dcO tk_X3_readItem_0 34 rfl
theorem dX3_readItem_62 : decode cX3_readItem 62 = .ok (.ldc 84, 2) := dcO tk_X3_readItem_0 35 rfl
theorem dX3_readItem_64 : decode cX3_readItem 64 = .ok (.invokevirtual 67, 3) := dcO tk_X3_readItem_0 36 rfl
theorem dX3_readItem_67 : decode cX3_readItem 67 = .ok (.ifCond .eq 9, 3) := dcO tk_X3_readItem_0 37 rfl
theorem dX3_readItem_70 : decode cX3_readItem 70 = .ok (.aload_n 0, 1) := dcO tk_X3_readItem_0 38 rfl
theorem dX3_readItem_71 : decode cX3_readItem 71 = .ok (.aload_n 1, 1) := dcO tk_X3_readItem_0 39 rfl
abbrev tb_X3_readItem_1 : List (Nat × Instr × Nat) := [(72, .invokevirtual 86, 3), (75, .ireturn, 1), (76, .aload_n 0, 1), (77, .ldc 89, 2), (79, .invokevirtual 67, 3), (82, .ifCond .eq 15, 3), (85, .aload_n 0, 1), (86, .aload_n 1, 1), (87, .invokevirtual 91, 3), (90, .ifCond .eq 7, 3), (93, .iconst 1, 1), (94, .goto 4, 3), (97, .iconst 0, 1), (98, .ireturn, 1)]
theorem tk_X3_readItem_1 : dcA cX3_readItem tb_X3_readItem_1 = true := by decide +kernel
theorem dX3_readItem_72 : decode cX3_readItem 72 = .ok (.invokevirtual 86, 3) := dcO tk_X3_readItem_1 0 rfl
theorem dX3_readItem_75 : decode cX3_readItem 75 = .ok (.ireturn, 1) := dcO tk_X3_readItem_1 1 rfl
theorem dX3_readItem_76 : decode cX3_readItem 76 = .ok (.aload_n 0, 1) := dcO tk_X3_readItem_1 2 rfl
theorem dX3_readItem_77 : decode cX3_readItem 77 = .ok (.ldc 89, 2) := dcO tk_X3_readItem_1 3 rfl
theorem dX3_readItem_79 : decode cX3_readItem 79 = .ok (.invokevirtual 67, 3) := dcO tk_X3_readItem_1 4 rfl
theorem dX3_readItem_82 : decode cX3_readItem 82 = .ok (.ifCond .eq 15, 3) := dcO tk_X3_readItem_1 5 rfl
theorem dX3_readItem_85 : decode cX3_readItem 85 = .ok (.aload_n 0, 1) := dcO tk_X3_readItem_1 6 rfl
theorem dX3_readItem_86 : decode cX3_readItem 86 = .ok (.aload_n 1, 1) := dcO tk_X3_readItem_1 7 rfl
theorem dX3_readItem_87 : decode cX3_readItem 87 = .ok (.invokevirtual 91, 3) := dcO tk_X3_readItem_1 8 rfl
theorem dX3_readItem_90 : decode cX3_readItem 90 = .ok (.ifCond .eq 7, 3) := dcO tk_X3_readItem_1 9 rfl
theorem dX3_readItem_93 : decode cX3_readItem 93 = .ok (.iconst 1, 1) := dcO tk_X3_readItem_1 10 rfl
theorem dX3_readItem_94 : decode cX3_readItem 94 = .ok (.goto 4, 3) := dcO tk_X3_readItem_1 11 rfl
theorem dX3_readItem_97 : decode cX3_readItem 97 = .ok (.iconst 0, 1) := dcO tk_X3_readItem_1 12 rfl
theorem dX3_readItem_98 : decode cX3_readItem 98 = .ok (.ireturn, 1) := dcO tk_X3_readItem_1 13 rfl
abbrev tb_X3_kindNamed_0 : List (Nat × Instr × Nat) := [(0, .aload_n 0, 1), (1, .ldc 94, 2), (3, .invokevirtual 96, 3), (6, .ifCond .eq 5, 3), (9, .iconst 0, 1), (10, .ireturn, 1), (11, .aload_n 0, 1), (12, .ldc 99, 2), (14, .invokevirtual 96, 3), (17, .ifCond .eq 5, 3), (20, .iconst 1, 1), (21, .ireturn, 1), (22, .aload_n 0, 1), (23, .ldc 101, 2), (25, .invokevirtual 96, 3), (28, .ifCond .eq 5, 3), (31, .iconst 2, 1), (32, .ireturn, 1), (33, .aload_n 0, 1), (34, .ldc 103, 2), (36, .invokevirtual 96, 3), (39, .ifCond .eq 5, 3), (42, .iconst 3, 1), (43, .ireturn, 1), (44, .aload_n 0, 1), (45, .ldc 105, 2), (47, .invokevirtual 96, 3), (50, .ifCond .eq 5, 3), (53, .iconst 4, 1), (54, .ireturn, 1), (55, .aload_n 0, 1), (56, .ldc 107, 2), (58, .invokevirtual 96, 3), (61, .ifCond .eq 5, 3), (64, .iconst 5, 1), (65, .ireturn, 1), (66, .aload_n 0, 1), (67, .ldc 109, 2), (69, .invokevirtual 96, 3), (72, .ifCond .eq 8, 3)]
theorem tk_X3_kindNamed_0 : dcA cX3_kindNamed tb_X3_kindNamed_0 = true := by decide +kernel
theorem dX3_kindNamed_0 : decode cX3_kindNamed 0 = .ok (.aload_n 0, 1) := dcO tk_X3_kindNamed_0 0 rfl
theorem dX3_kindNamed_1 : decode cX3_kindNamed 1 = .ok (.ldc 94, 2) := dcO tk_X3_kindNamed_0 1 rfl
theorem dX3_kindNamed_3 : decode cX3_kindNamed 3 = .ok (.invokevirtual 96, 3) := dcO tk_X3_kindNamed_0 2 rfl
theorem dX3_kindNamed_6 : decode cX3_kindNamed 6 = .ok (.ifCond .eq 5, 3) := dcO tk_X3_kindNamed_0 3 rfl
theorem dX3_kindNamed_9 : decode cX3_kindNamed 9 = .ok (.iconst 0, 1) := dcO tk_X3_kindNamed_0 4 rfl
theorem dX3_kindNamed_10 : decode cX3_kindNamed 10 = .ok (.ireturn, 1) := dcO tk_X3_kindNamed_0 5 rfl
theorem dX3_kindNamed_11 : decode cX3_kindNamed 11 = .ok (.aload_n 0, 1) := dcO tk_X3_kindNamed_0 6 rfl
theorem dX3_kindNamed_12 : decode cX3_kindNamed 12 = .ok (.ldc 99, 2) := dcO tk_X3_kindNamed_0 7 rfl
theorem dX3_kindNamed_14 : decode cX3_kindNamed 14 = .ok (.invokevirtual 96, 3) := dcO tk_X3_kindNamed_0 8 rfl
theorem dX3_kindNamed_17 : decode cX3_kindNamed 17 = .ok (.ifCond .eq 5, 3) := dcO tk_X3_kindNamed_0 9 rfl
theorem dX3_kindNamed_20 : decode cX3_kindNamed 20 = .ok (.iconst 1, 1) := dcO tk_X3_kindNamed_0 10 rfl
theorem dX3_kindNamed_21 : decode cX3_kindNamed 21 = .ok (.ireturn, 1) := dcO tk_X3_kindNamed_0 11 rfl
theorem dX3_kindNamed_22 : decode cX3_kindNamed 22 = .ok (.aload_n 0, 1) := dcO tk_X3_kindNamed_0 12 rfl
theorem dX3_kindNamed_23 : decode cX3_kindNamed 23 = .ok (.ldc 101, 2) := dcO tk_X3_kindNamed_0 13 rfl
theorem dX3_kindNamed_25 : decode cX3_kindNamed 25 = .ok (.invokevirtual 96, 3) := dcO tk_X3_kindNamed_0 14 rfl
theorem dX3_kindNamed_28 : decode cX3_kindNamed 28 = .ok (.ifCond .eq 5, 3) := dcO tk_X3_kindNamed_0 15 rfl
theorem dX3_kindNamed_31 : decode cX3_kindNamed 31 = .ok (.iconst 2, 1) := dcO tk_X3_kindNamed_0 16 rfl
theorem dX3_kindNamed_32 : decode cX3_kindNamed 32 = .ok (.ireturn, 1) := dcO tk_X3_kindNamed_0 17 rfl
theorem dX3_kindNamed_33 : decode cX3_kindNamed 33 = .ok (.aload_n 0, 1) := dcO tk_X3_kindNamed_0 18 rfl
theorem dX3_kindNamed_34 : decode cX3_kindNamed 34 = .ok (.ldc 103, 2) := dcO tk_X3_kindNamed_0 19 rfl
theorem dX3_kindNamed_36 : decode cX3_kindNamed 36 = .ok (.invokevirtual 96, 3) := dcO tk_X3_kindNamed_0 20 rfl
theorem dX3_kindNamed_39 : decode cX3_kindNamed 39 = .ok (.ifCond .eq 5, 3) := dcO tk_X3_kindNamed_0 21 rfl
theorem dX3_kindNamed_42 : decode cX3_kindNamed 42 = .ok (.iconst 3, 1) := dcO tk_X3_kindNamed_0 22 rfl
theorem dX3_kindNamed_43 : decode cX3_kindNamed 43 = .ok (.ireturn, 1) := dcO tk_X3_kindNamed_0 23 rfl
theorem dX3_kindNamed_44 : decode cX3_kindNamed 44 = .ok (.aload_n 0, 1) := dcO tk_X3_kindNamed_0 24 rfl
theorem dX3_kindNamed_45 : decode cX3_kindNamed 45 = .ok (.ldc 105, 2) := dcO tk_X3_kindNamed_0 25 rfl
theorem dX3_kindNamed_47 : decode cX3_kindNamed 47 = .ok (.invokevirtual 96, 3) := dcO tk_X3_kindNamed_0 26 rfl
theorem dX3_kindNamed_50 : decode cX3_kindNamed 50 = .ok (.ifCond .eq 5, 3) := dcO tk_X3_kindNamed_0 27 rfl
theorem dX3_kindNamed_53 : decode cX3_kindNamed 53 = .ok (.iconst 4, 1) := dcO tk_X3_kindNamed_0 28 rfl
theorem dX3_kindNamed_54 : decode cX3_kindNamed 54 = .ok (.ireturn, 1) := dcO tk_X3_kindNamed_0 29 rfl
theorem dX3_kindNamed_55 : decode cX3_kindNamed 55 = .ok (.aload_n 0, 1) := dcO tk_X3_kindNamed_0 30 rfl
theorem dX3_kindNamed_56 : decode cX3_kindNamed 56 = .ok (.ldc 107, 2) := dcO tk_X3_kindNamed_0 31 rfl
theorem dX3_kindNamed_58 : decode cX3_kindNamed 58 = .ok (.invokevirtual 96, 3) := dcO tk_X3_kindNamed_0 32 rfl
theorem dX3_kindNamed_61 : decode cX3_kindNamed 61 = .ok (.ifCond .eq 5, 3) := dcO tk_X3_kindNamed_0 33 rfl
theorem dX3_kindNamed_64 : decode cX3_kindNamed 64 = .ok (.iconst 5, 1) := dcO tk_X3_kindNamed_0 34 rfl
theorem dX3_kindNamed_65 : decode cX3_kindNamed 65 = .ok (.ireturn, 1) := dcO tk_X3_kindNamed_0 35 rfl
theorem dX3_kindNamed_66 : decode cX3_kindNamed 66 = .ok (.aload_n 0, 1) := dcO tk_X3_kindNamed_0 36 rfl
theorem dX3_kindNamed_67 : decode cX3_kindNamed 67 = .ok (.ldc 109, 2) := dcO tk_X3_kindNamed_0 37 rfl
theorem dX3_kindNamed_69 : decode cX3_kindNamed 69 = .ok (.invokevirtual 96, 3) := dcO tk_X3_kindNamed_0 38 rfl
theorem dX3_kindNamed_72 : decode cX3_kindNamed 72 = .ok (.ifCond .eq 8, 3) := dcO tk_X3_kindNamed_0 39 rfl
abbrev tb_X3_kindNamed_1 : List (Nat × Instr × Nat) := [(75, .bipush 6, 2), (77, .goto 4, 3), (80, .iconst (-1), 1), (81, .ireturn, 1)]
theorem tk_X3_kindNamed_1 : dcA cX3_kindNamed tb_X3_kindNamed_1 = true := by decide +kernel
theorem dX3_kindNamed_75 : decode cX3_kindNamed 75 = .ok (.bipush 6, 2) := dcO tk_X3_kindNamed_1 0 rfl
theorem dX3_kindNamed_77 : decode cX3_kindNamed 77 = .ok (.goto 4, 3) := dcO tk_X3_kindNamed_1 1 rfl
theorem dX3_kindNamed_80 : decode cX3_kindNamed 80 = .ok (.iconst (-1), 1) := dcO tk_X3_kindNamed_1 2 rfl
theorem dX3_kindNamed_81 : decode cX3_kindNamed 81 = .ok (.ireturn, 1) := dcO tk_X3_kindNamed_1 3 rfl
abbrev tb_X3_readSnail_0 : List (Nat × Instr × Nat) := [(0, .aload_n 1, 1), (1, .iload_n 2, 1), (2, .iconst 0, 1), (3, .invokevirtual 111, 3), (6, .istore_n 3, 1), (7, .iload_n 3, 1), (8, .ifCond .ge 5, 3), (11, .iconst 0, 1), (12, .ireturn, 1), (13, .aload_n 0, 1), (14, .dup, 1), (15, .getfield 31, 3), (18, .iconst 1, 1), (19, .iadd, 1), (20, .putfield 31, 3), (23, .aload_n 0, 1), (24, .ldc 116, 2), (26, .bipush 80, 2), (28, .iconst 0, 1), (29, .invokevirtual 117, 3), (32, .istore 4, 2), (34, .iload 4, 2), (36, .ifCond .ge 7, 3), (39, .iconst (-1), 1), (40, .goto 12, 3), (43, .aload_n 0, 1), (44, .ldc 121, 2), (46, .bipush 7, 2), (48, .iconst 0, 1), (49, .invokevirtual 117, 3), (52, .istore 5, 2), (54, .iload 5, 2), (56, .ifCond .ge 7, 3), (59, .iconst (-1), 1), (60, .goto 13, 3), (63, .aload_n 0, 1), (64, .ldc 123, 2), (66, .bipush 80, 2), (68, .bipush 80, 2), (70, .invokevirtual 117, 3)]
theorem tk_X3_readSnail_0 : dcA cX3_readSnail tb_X3_readSnail_0 = true := by decide +kernel
theorem dX3_readSnail_0 : decode cX3_readSnail 0 = .ok (.aload_n 1, 1) := dcO tk_X3_readSnail_0 0 rfl
theorem dX3_readSnail_1 : decode cX3_readSnail 1 = .ok (.iload_n 2, 1) := dcO tk_X3_readSnail_0 1 rfl
theorem dX3_readSnail_2 : decode cX3_readSnail 2 = .ok (.iconst 0, 1) := dcO tk_X3_readSnail_0 2 rfl
theorem dX3_readSnail_3 : decode cX3_readSnail 3 = .ok (.invokevirtual 111, 3) := dcO tk_X3_readSnail_0 3 rfl
theorem dX3_readSnail_6 : decode cX3_readSnail 6 = .ok (.istore_n 3, 1) := dcO tk_X3_readSnail_0 4 rfl
theorem dX3_readSnail_7 : decode cX3_readSnail 7 = .ok (.iload_n 3, 1) := dcO tk_X3_readSnail_0 5 rfl
theorem dX3_readSnail_8 : decode cX3_readSnail 8 = .ok (.ifCond .ge 5, 3) := dcO tk_X3_readSnail_0 6 rfl
theorem dX3_readSnail_11 : decode cX3_readSnail 11 = .ok (.iconst 0, 1) := dcO tk_X3_readSnail_0 7 rfl
theorem dX3_readSnail_12 : decode cX3_readSnail 12 = .ok (.ireturn, 1) := dcO tk_X3_readSnail_0 8 rfl
theorem dX3_readSnail_13 : decode cX3_readSnail 13 = .ok (.aload_n 0, 1) := dcO tk_X3_readSnail_0 9 rfl
theorem dX3_readSnail_14 : decode cX3_readSnail 14 = .ok (.dup, 1) := dcO tk_X3_readSnail_0 10 rfl
theorem dX3_readSnail_15 : decode cX3_readSnail 15 = .ok (.getfield 31, 3) := dcO tk_X3_readSnail_0 11 rfl
theorem dX3_readSnail_18 : decode cX3_readSnail 18 = .ok (.iconst 1, 1) := dcO tk_X3_readSnail_0 12 rfl
theorem dX3_readSnail_19 : decode cX3_readSnail 19 = .ok (.iadd, 1) := dcO tk_X3_readSnail_0 13 rfl
theorem dX3_readSnail_20 : decode cX3_readSnail 20 = .ok (.putfield 31, 3) := dcO tk_X3_readSnail_0 14 rfl
theorem dX3_readSnail_23 : decode cX3_readSnail 23 = .ok (.aload_n 0, 1) := dcO tk_X3_readSnail_0 15 rfl
theorem dX3_readSnail_24 : decode cX3_readSnail 24 = .ok (.ldc 116, 2) := dcO tk_X3_readSnail_0 16 rfl
theorem dX3_readSnail_26 : decode cX3_readSnail 26 = .ok (.bipush 80, 2) := dcO tk_X3_readSnail_0 17 rfl
theorem dX3_readSnail_28 : decode cX3_readSnail 28 = .ok (.iconst 0, 1) := dcO tk_X3_readSnail_0 18 rfl
theorem dX3_readSnail_29 : decode cX3_readSnail 29 = .ok (.invokevirtual 117, 3) := dcO tk_X3_readSnail_0 19 rfl
theorem dX3_readSnail_32 : decode cX3_readSnail 32 = .ok (.istore 4, 2) := dcO tk_X3_readSnail_0 20 rfl
theorem dX3_readSnail_34 : decode cX3_readSnail 34 = .ok (.iload 4, 2) := dcO tk_X3_readSnail_0 21 rfl
theorem dX3_readSnail_36 : decode cX3_readSnail 36 = .ok (.ifCond .ge 7, 3) := dcO tk_X3_readSnail_0 22 rfl
theorem dX3_readSnail_39 : decode cX3_readSnail 39 = .ok (.iconst (-1), 1) := dcO tk_X3_readSnail_0 23 rfl
theorem dX3_readSnail_40 : decode cX3_readSnail 40 = .ok (.goto 12, 3) := dcO tk_X3_readSnail_0 24 rfl
theorem dX3_readSnail_43 : decode cX3_readSnail 43 = .ok (.aload_n 0, 1) := dcO tk_X3_readSnail_0 25 rfl
theorem dX3_readSnail_44 : decode cX3_readSnail 44 = .ok (.ldc 121, 2) := dcO tk_X3_readSnail_0 26 rfl
theorem dX3_readSnail_46 : decode cX3_readSnail 46 = .ok (.bipush 7, 2) := dcO tk_X3_readSnail_0 27 rfl
theorem dX3_readSnail_48 : decode cX3_readSnail 48 = .ok (.iconst 0, 1) := dcO tk_X3_readSnail_0 28 rfl
theorem dX3_readSnail_49 : decode cX3_readSnail 49 = .ok (.invokevirtual 117, 3) := dcO tk_X3_readSnail_0 29 rfl
theorem dX3_readSnail_52 : decode cX3_readSnail 52 = .ok (.istore 5, 2) := dcO tk_X3_readSnail_0 30 rfl
theorem dX3_readSnail_54 : decode cX3_readSnail 54 = .ok (.iload 5, 2) := dcO tk_X3_readSnail_0 31 rfl
theorem dX3_readSnail_56 : decode cX3_readSnail 56 = .ok (.ifCond .ge 7, 3) := dcO tk_X3_readSnail_0 32 rfl
theorem dX3_readSnail_59 : decode cX3_readSnail 59 = .ok (.iconst (-1), 1) := dcO tk_X3_readSnail_0 33 rfl
theorem dX3_readSnail_60 : decode cX3_readSnail 60 = .ok (.goto 13, 3) := dcO tk_X3_readSnail_0 34 rfl
theorem dX3_readSnail_63 : decode cX3_readSnail 63 = .ok (.aload_n 0, 1) := dcO tk_X3_readSnail_0 35 rfl
theorem dX3_readSnail_64 : decode cX3_readSnail 64 = .ok (.ldc 123, 2) := dcO tk_X3_readSnail_0 36 rfl
theorem dX3_readSnail_66 : decode cX3_readSnail 66 = .ok (.bipush 80, 2) := dcO tk_X3_readSnail_0 37 rfl
theorem dX3_readSnail_68 : decode cX3_readSnail 68 = .ok (.bipush 80, 2) := dcO tk_X3_readSnail_0 38 rfl
theorem dX3_readSnail_70 : decode cX3_readSnail 70 = .ok (.invokevirtual 117, 3) := dcO tk_X3_readSnail_0 39 rfl
abbrev tb_X3_readSnail_1 : List (Nat × Instr × Nat) := [(73, .istore 6, 2), (75, .iload 6, 2), (77, .ifCond .ge 7, 3), (80, .iconst (-1), 1), (81, .goto 12, 3), (84, .aload_n 0, 1), (85, .ldc 125, 2), (87, .bipush 99, 2), (89, .iconst 1, 1), (90, .invokevirtual 117, 3), (93, .istore 7, 2), (95, .iload 7, 2), (97, .ifCond .ge 5, 3), (100, .iconst 0, 1), (101, .ireturn, 1), (102, .aload_n 1, 1), (103, .getfield 127, 3), (106, .iload_n 3, 1), (107, .iload 4, 2), (109, .iastore, 1), (110, .aload_n 1, 1), (111, .getfield 130, 3), (114, .iload_n 3, 1), (115, .iload 5, 2), (117, .iastore, 1), (118, .aload_n 1, 1), (119, .getfield 133, 3), (122, .iload_n 3, 1), (123, .iload 6, 2), (125, .iastore, 1), (126, .aload_n 1, 1), (127, .getfield 136, 3), (130, .iload_n 3, 1), (131, .iload 7, 2), (133, .iastore, 1), (134, .iconst 1, 1), (135, .ireturn, 1)]
theorem tk_X3_readSnail_1 : dcA cX3_readSnail tb_X3_readSnail_1 = true := by decide +kernel
theorem dX3_readSnail_73 : decode cX3_readSnail 73 = .ok (.istore 6, 2) := dcO tk_X3_readSnail_1 0 rfl
theorem dX3_readSnail_75 : decode cX3_readSnail 75 = .ok (.iload 6, 2) := dcO tk_X3_readSnail_1 1 rfl
theorem dX3_readSnail_77 : decode cX3_readSnail 77 = .ok (.ifCond .ge 7, 3) := dcO tk_X3_readSnail_1 2 rfl
theorem dX3_readSnail_80 : decode cX3_readSnail 80 = .ok (.iconst (-1), 1) := dcO tk_X3_readSnail_1 3 rfl
theorem dX3_readSnail_81 : decode cX3_readSnail 81 = .ok (.goto 12, 3) := dcO tk_X3_readSnail_1 4 rfl
theorem dX3_readSnail_84 : decode cX3_readSnail 84 = .ok (.aload_n 0, 1) := dcO tk_X3_readSnail_1 5 rfl
theorem dX3_readSnail_85 : decode cX3_readSnail 85 = .ok (.ldc 125, 2) := dcO tk_X3_readSnail_1 6 rfl
theorem dX3_readSnail_87 : decode cX3_readSnail 87 = .ok (.bipush 99, 2) := dcO tk_X3_readSnail_1 7 rfl
theorem dX3_readSnail_89 : decode cX3_readSnail 89 = .ok (.iconst 1, 1) := dcO tk_X3_readSnail_1 8 rfl
theorem dX3_readSnail_90 : decode cX3_readSnail 90 = .ok (.invokevirtual 117, 3) := dcO tk_X3_readSnail_1 9 rfl
theorem dX3_readSnail_93 : decode cX3_readSnail 93 = .ok (.istore 7, 2) := dcO tk_X3_readSnail_1 10 rfl
theorem dX3_readSnail_95 : decode cX3_readSnail 95 = .ok (.iload 7, 2) := dcO tk_X3_readSnail_1 11 rfl
theorem dX3_readSnail_97 : decode cX3_readSnail 97 = .ok (.ifCond .ge 5, 3) := dcO tk_X3_readSnail_1 12 rfl
theorem dX3_readSnail_100 : decode cX3_readSnail 100 = .ok (.iconst 0, 1) := dcO tk_X3_readSnail_1 13 rfl
theorem dX3_readSnail_101 : decode cX3_readSnail 101 = .ok (.ireturn, 1) := dcO tk_X3_readSnail_1 14 rfl
theorem dX3_readSnail_102 : decode cX3_readSnail 102 = .ok (.aload_n 1, 1) := dcO tk_X3_readSnail_1 15 rfl
theorem dX3_readSnail_103 : decode cX3_readSnail 103 = .ok (.getfield 127, 3) := dcO tk_X3_readSnail_1 16 rfl
theorem dX3_readSnail_106 : decode cX3_readSnail 106 = .ok (.iload_n 3, 1) := dcO tk_X3_readSnail_1 17 rfl
theorem dX3_readSnail_107 : decode cX3_readSnail 107 = .ok (.iload 4, 2) := dcO tk_X3_readSnail_1 18 rfl
theorem dX3_readSnail_109 : decode cX3_readSnail 109 = .ok (.iastore, 1) := dcO tk_X3_readSnail_1 19 rfl
theorem dX3_readSnail_110 : decode cX3_readSnail 110 = .ok (.aload_n 1, 1) := dcO tk_X3_readSnail_1 20 rfl
theorem dX3_readSnail_111 : decode cX3_readSnail 111 = .ok (.getfield 130, 3) := dcO tk_X3_readSnail_1 21 rfl
theorem dX3_readSnail_114 : decode cX3_readSnail 114 = .ok (.iload_n 3, 1) := dcO tk_X3_readSnail_1 22 rfl
theorem dX3_readSnail_115 : decode cX3_readSnail 115 = .ok (.iload 5, 2) := dcO tk_X3_readSnail_1 23 rfl
theorem dX3_readSnail_117 : decode cX3_readSnail 117 = .ok (.iastore, 1) := dcO tk_X3_readSnail_1 24 rfl
theorem dX3_readSnail_118 : decode cX3_readSnail 118 = .ok (.aload_n 1, 1) := dcO tk_X3_readSnail_1 25 rfl
theorem dX3_readSnail_119 : decode cX3_readSnail 119 = .ok (.getfield 133, 3) := dcO tk_X3_readSnail_1 26 rfl
theorem dX3_readSnail_122 : decode cX3_readSnail 122 = .ok (.iload_n 3, 1) := dcO tk_X3_readSnail_1 27 rfl
theorem dX3_readSnail_123 : decode cX3_readSnail 123 = .ok (.iload 6, 2) := dcO tk_X3_readSnail_1 28 rfl
theorem dX3_readSnail_125 : decode cX3_readSnail 125 = .ok (.iastore, 1) := dcO tk_X3_readSnail_1 29 rfl
theorem dX3_readSnail_126 : decode cX3_readSnail 126 = .ok (.aload_n 1, 1) := dcO tk_X3_readSnail_1 30 rfl
theorem dX3_readSnail_127 : decode cX3_readSnail 127 = .ok (.getfield 136, 3) := dcO tk_X3_readSnail_1 31 rfl
theorem dX3_readSnail_130 : decode cX3_readSnail 130 = .ok (.iload_n 3, 1) := dcO tk_X3_readSnail_1 32 rfl
theorem dX3_readSnail_131 : decode cX3_readSnail 131 = .ok (.iload 7, 2) := dcO tk_X3_readSnail_1 33 rfl
theorem dX3_readSnail_133 : decode cX3_readSnail 133 = .ok (.iastore, 1) := dcO tk_X3_readSnail_1 34 rfl
theorem dX3_readSnail_134 : decode cX3_readSnail 134 = .ok (.iconst 1, 1) := dcO tk_X3_readSnail_1 35 rfl
theorem dX3_readSnail_135 : decode cX3_readSnail 135 = .ok (.ireturn, 1) := dcO tk_X3_readSnail_1 36 rfl
abbrev tb_X3_readHedge_0 : List (Nat × Instr × Nat) := [(0, .aload_n 0, 1), (1, .bipush 80, 2), (3, .invokevirtual 139, 3), (6, .istore_n 2, 1), (7, .iload_n 2, 1), (8, .ifCond .ge 5, 3), (11, .iconst 0, 1), (12, .ireturn, 1), (13, .aload_n 1, 1), (14, .getfield 142, 3), (17, .iload_n 2, 1), (18, .iconst 1, 1), (19, .iastore, 1), (20, .iconst 1, 1), (21, .ireturn, 1)]
theorem tk_X3_readHedge_0 : dcA cX3_readHedge tb_X3_readHedge_0 = true := by decide +kernel
theorem dX3_readHedge_0 : decode cX3_readHedge 0 = .ok (.aload_n 0, 1) := dcO tk_X3_readHedge_0 0 rfl
theorem dX3_readHedge_1 : decode cX3_readHedge 1 = .ok (.bipush 80, 2) := dcO tk_X3_readHedge_0 1 rfl
theorem dX3_readHedge_3 : decode cX3_readHedge 3 = .ok (.invokevirtual 139, 3) := dcO tk_X3_readHedge_0 2 rfl
theorem dX3_readHedge_6 : decode cX3_readHedge 6 = .ok (.istore_n 2, 1) := dcO tk_X3_readHedge_0 3 rfl
theorem dX3_readHedge_7 : decode cX3_readHedge 7 = .ok (.iload_n 2, 1) := dcO tk_X3_readHedge_0 4 rfl
theorem dX3_readHedge_8 : decode cX3_readHedge 8 = .ok (.ifCond .ge 5, 3) := dcO tk_X3_readHedge_0 5 rfl
theorem dX3_readHedge_11 : decode cX3_readHedge 11 = .ok (.iconst 0, 1) := dcO tk_X3_readHedge_0 6 rfl
theorem dX3_readHedge_12 : decode cX3_readHedge 12 = .ok (.ireturn, 1) := dcO tk_X3_readHedge_0 7 rfl
theorem dX3_readHedge_13 : decode cX3_readHedge 13 = .ok (.aload_n 1, 1) := dcO tk_X3_readHedge_0 8 rfl
theorem dX3_readHedge_14 : decode cX3_readHedge 14 = .ok (.getfield 142, 3) := dcO tk_X3_readHedge_0 9 rfl
theorem dX3_readHedge_17 : decode cX3_readHedge 17 = .ok (.iload_n 2, 1) := dcO tk_X3_readHedge_0 10 rfl
theorem dX3_readHedge_18 : decode cX3_readHedge 18 = .ok (.iconst 1, 1) := dcO tk_X3_readHedge_0 11 rfl
theorem dX3_readHedge_19 : decode cX3_readHedge 19 = .ok (.iastore, 1) := dcO tk_X3_readHedge_0 12 rfl
theorem dX3_readHedge_20 : decode cX3_readHedge 20 = .ok (.iconst 1, 1) := dcO tk_X3_readHedge_0 13 rfl
theorem dX3_readHedge_21 : decode cX3_readHedge 21 = .ok (.ireturn, 1) := dcO tk_X3_readHedge_0 14 rfl
abbrev tb_X3_readGreens_0 : List (Nat × Instr × Nat) := [(0, .aload_n 0, 1), (1, .bipush 80, 2), (3, .invokevirtual 139, 3), (6, .istore_n 2, 1), (7, .iload_n 2, 1), (8, .ifCond .ge 7, 3), (11, .iconst (-1), 1), (12, .goto 9, 3), (15, .aload_n 0, 1), (16, .bipush 9, 2), (18, .invokevirtual 139, 3), (21, .istore_n 3, 1), (22, .iload_n 3, 1), (23, .ifCond .ge 5, 3), (26, .iconst 0, 1), (27, .ireturn, 1), (28, .aload_n 1, 1), (29, .getfield 145, 3), (32, .iload_n 2, 1), (33, .iload_n 3, 1), (34, .iastore, 1), (35, .iconst 1, 1), (36, .ireturn, 1)]
theorem tk_X3_readGreens_0 : dcA cX3_readGreens tb_X3_readGreens_0 = true := by decide +kernel
theorem dX3_readGreens_0 : decode cX3_readGreens 0 = .ok (.aload_n 0, 1) := dcO tk_X3_readGreens_0 0 rfl
theorem dX3_readGreens_1 : decode cX3_readGreens 1 = .ok (.bipush 80, 2) := dcO tk_X3_readGreens_0 1 rfl
theorem dX3_readGreens_3 : decode cX3_readGreens 3 = .ok (.invokevirtual 139, 3) := dcO tk_X3_readGreens_0 2 rfl
theorem dX3_readGreens_6 : decode cX3_readGreens 6 = .ok (.istore_n 2, 1) := dcO tk_X3_readGreens_0 3 rfl
theorem dX3_readGreens_7 : decode cX3_readGreens 7 = .ok (.iload_n 2, 1) := dcO tk_X3_readGreens_0 4 rfl
theorem dX3_readGreens_8 : decode cX3_readGreens 8 = .ok (.ifCond .ge 7, 3) := dcO tk_X3_readGreens_0 5 rfl
theorem dX3_readGreens_11 : decode cX3_readGreens 11 = .ok (.iconst (-1), 1) := dcO tk_X3_readGreens_0 6 rfl
theorem dX3_readGreens_12 : decode cX3_readGreens 12 = .ok (.goto 9, 3) := dcO tk_X3_readGreens_0 7 rfl
theorem dX3_readGreens_15 : decode cX3_readGreens 15 = .ok (.aload_n 0, 1) := dcO tk_X3_readGreens_0 8 rfl
theorem dX3_readGreens_16 : decode cX3_readGreens 16 = .ok (.bipush 9, 2) := dcO tk_X3_readGreens_0 9 rfl
theorem dX3_readGreens_18 : decode cX3_readGreens 18 = .ok (.invokevirtual 139, 3) := dcO tk_X3_readGreens_0 10 rfl
theorem dX3_readGreens_21 : decode cX3_readGreens 21 = .ok (.istore_n 3, 1) := dcO tk_X3_readGreens_0 11 rfl
theorem dX3_readGreens_22 : decode cX3_readGreens 22 = .ok (.iload_n 3, 1) := dcO tk_X3_readGreens_0 12 rfl
theorem dX3_readGreens_23 : decode cX3_readGreens 23 = .ok (.ifCond .ge 5, 3) := dcO tk_X3_readGreens_0 13 rfl
theorem dX3_readGreens_26 : decode cX3_readGreens 26 = .ok (.iconst 0, 1) := dcO tk_X3_readGreens_0 14 rfl
theorem dX3_readGreens_27 : decode cX3_readGreens 27 = .ok (.ireturn, 1) := dcO tk_X3_readGreens_0 15 rfl
theorem dX3_readGreens_28 : decode cX3_readGreens 28 = .ok (.aload_n 1, 1) := dcO tk_X3_readGreens_0 16 rfl
theorem dX3_readGreens_29 : decode cX3_readGreens 29 = .ok (.getfield 145, 3) := dcO tk_X3_readGreens_0 17 rfl
theorem dX3_readGreens_32 : decode cX3_readGreens 32 = .ok (.iload_n 2, 1) := dcO tk_X3_readGreens_0 18 rfl
theorem dX3_readGreens_33 : decode cX3_readGreens 33 = .ok (.iload_n 3, 1) := dcO tk_X3_readGreens_0 19 rfl
theorem dX3_readGreens_34 : decode cX3_readGreens 34 = .ok (.iastore, 1) := dcO tk_X3_readGreens_0 20 rfl
theorem dX3_readGreens_35 : decode cX3_readGreens 35 = .ok (.iconst 1, 1) := dcO tk_X3_readGreens_0 21 rfl
theorem dX3_readGreens_36 : decode cX3_readGreens 36 = .ok (.ireturn, 1) := dcO tk_X3_readGreens_0 22 rfl
abbrev tb_X3_readBans_0 : List (Nat × Instr × Nat) := [(0, .aload_n 0, 1), (1, .bipush 7, 2), (3, .invokevirtual 139, 3), (6, .istore_n 2, 1), (7, .iload_n 2, 1), (8, .ifCond .ge 7, 3), (11, .iconst (-1), 1), (12, .goto 10, 3), (15, .aload_n 0, 1), (16, .sipush 255, 3), (19, .invokevirtual 139, 3), (22, .istore_n 3, 1), (23, .iload_n 3, 1), (24, .ifCond .ge 5, 3), (27, .iconst 0, 1), (28, .ireturn, 1), (29, .aload_n 1, 1), (30, .getfield 148, 3), (33, .iload_n 2, 1), (34, .iload_n 3, 1), (35, .iastore, 1), (36, .iconst 1, 1), (37, .ireturn, 1)]
theorem tk_X3_readBans_0 : dcA cX3_readBans tb_X3_readBans_0 = true := by decide +kernel
theorem dX3_readBans_0 : decode cX3_readBans 0 = .ok (.aload_n 0, 1) := dcO tk_X3_readBans_0 0 rfl
theorem dX3_readBans_1 : decode cX3_readBans 1 = .ok (.bipush 7, 2) := dcO tk_X3_readBans_0 1 rfl
theorem dX3_readBans_3 : decode cX3_readBans 3 = .ok (.invokevirtual 139, 3) := dcO tk_X3_readBans_0 2 rfl
theorem dX3_readBans_6 : decode cX3_readBans 6 = .ok (.istore_n 2, 1) := dcO tk_X3_readBans_0 3 rfl
theorem dX3_readBans_7 : decode cX3_readBans 7 = .ok (.iload_n 2, 1) := dcO tk_X3_readBans_0 4 rfl
theorem dX3_readBans_8 : decode cX3_readBans 8 = .ok (.ifCond .ge 7, 3) := dcO tk_X3_readBans_0 5 rfl
theorem dX3_readBans_11 : decode cX3_readBans 11 = .ok (.iconst (-1), 1) := dcO tk_X3_readBans_0 6 rfl
theorem dX3_readBans_12 : decode cX3_readBans 12 = .ok (.goto 10, 3) := dcO tk_X3_readBans_0 7 rfl
theorem dX3_readBans_15 : decode cX3_readBans 15 = .ok (.aload_n 0, 1) := dcO tk_X3_readBans_0 8 rfl
theorem dX3_readBans_16 : decode cX3_readBans 16 = .ok (.sipush 255, 3) := dcO tk_X3_readBans_0 9 rfl
theorem dX3_readBans_19 : decode cX3_readBans 19 = .ok (.invokevirtual 139, 3) := dcO tk_X3_readBans_0 10 rfl
theorem dX3_readBans_22 : decode cX3_readBans 22 = .ok (.istore_n 3, 1) := dcO tk_X3_readBans_0 11 rfl
theorem dX3_readBans_23 : decode cX3_readBans 23 = .ok (.iload_n 3, 1) := dcO tk_X3_readBans_0 12 rfl
theorem dX3_readBans_24 : decode cX3_readBans 24 = .ok (.ifCond .ge 5, 3) := dcO tk_X3_readBans_0 13 rfl
theorem dX3_readBans_27 : decode cX3_readBans 27 = .ok (.iconst 0, 1) := dcO tk_X3_readBans_0 14 rfl
theorem dX3_readBans_28 : decode cX3_readBans 28 = .ok (.ireturn, 1) := dcO tk_X3_readBans_0 15 rfl
theorem dX3_readBans_29 : decode cX3_readBans 29 = .ok (.aload_n 1, 1) := dcO tk_X3_readBans_0 16 rfl
theorem dX3_readBans_30 : decode cX3_readBans 30 = .ok (.getfield 148, 3) := dcO tk_X3_readBans_0 17 rfl
theorem dX3_readBans_33 : decode cX3_readBans 33 = .ok (.iload_n 2, 1) := dcO tk_X3_readBans_0 18 rfl
theorem dX3_readBans_34 : decode cX3_readBans 34 = .ok (.iload_n 3, 1) := dcO tk_X3_readBans_0 19 rfl
theorem dX3_readBans_35 : decode cX3_readBans 35 = .ok (.iastore, 1) := dcO tk_X3_readBans_0 20 rfl
theorem dX3_readBans_36 : decode cX3_readBans 36 = .ok (.iconst 1, 1) := dcO tk_X3_readBans_0 21 rfl
theorem dX3_readBans_37 : decode cX3_readBans 37 = .ok (.ireturn, 1) := dcO tk_X3_readBans_0 22 rfl
abbrev tb_X3_readWet_0 : List (Nat × Instr × Nat) := [(0, .aload_n 0, 1), (1, .bipush 9, 2), (3, .invokevirtual 139, 3), (6, .istore_n 2, 1), (7, .iload_n 2, 1), (8, .ifCond .ge 5, 3), (11, .iconst 0, 1), (12, .ireturn, 1), (13, .aload_n 1, 1), (14, .iload_n 2, 1), (15, .putfield 151, 3), (18, .iconst 1, 1), (19, .ireturn, 1)]
theorem tk_X3_readWet_0 : dcA cX3_readWet tb_X3_readWet_0 = true := by decide +kernel
theorem dX3_readWet_0 : decode cX3_readWet 0 = .ok (.aload_n 0, 1) := dcO tk_X3_readWet_0 0 rfl
theorem dX3_readWet_1 : decode cX3_readWet 1 = .ok (.bipush 9, 2) := dcO tk_X3_readWet_0 1 rfl
theorem dX3_readWet_3 : decode cX3_readWet 3 = .ok (.invokevirtual 139, 3) := dcO tk_X3_readWet_0 2 rfl
theorem dX3_readWet_6 : decode cX3_readWet 6 = .ok (.istore_n 2, 1) := dcO tk_X3_readWet_0 3 rfl
theorem dX3_readWet_7 : decode cX3_readWet 7 = .ok (.iload_n 2, 1) := dcO tk_X3_readWet_0 4 rfl
theorem dX3_readWet_8 : decode cX3_readWet 8 = .ok (.ifCond .ge 5, 3) := dcO tk_X3_readWet_0 5 rfl
theorem dX3_readWet_11 : decode cX3_readWet 11 = .ok (.iconst 0, 1) := dcO tk_X3_readWet_0 6 rfl
theorem dX3_readWet_12 : decode cX3_readWet 12 = .ok (.ireturn, 1) := dcO tk_X3_readWet_0 7 rfl
theorem dX3_readWet_13 : decode cX3_readWet 13 = .ok (.aload_n 1, 1) := dcO tk_X3_readWet_0 8 rfl
theorem dX3_readWet_14 : decode cX3_readWet 14 = .ok (.iload_n 2, 1) := dcO tk_X3_readWet_0 9 rfl
theorem dX3_readWet_15 : decode cX3_readWet 15 = .ok (.putfield 151, 3) := dcO tk_X3_readWet_0 10 rfl
theorem dX3_readWet_18 : decode cX3_readWet 18 = .ok (.iconst 1, 1) := dcO tk_X3_readWet_0 11 rfl
theorem dX3_readWet_19 : decode cX3_readWet 19 = .ok (.ireturn, 1) := dcO tk_X3_readWet_0 12 rfl
abbrev tb_X3_readThrush_0 : List (Nat × Instr × Nat) := [(0, .aload_n 0, 1), (1, .bipush 20, 2), (3, .invokevirtual 139, 3), (6, .istore_n 2, 1), (7, .iload_n 2, 1), (8, .ifCond .ge 5, 3), (11, .iconst 0, 1), (12, .ireturn, 1), (13, .aload_n 1, 1), (14, .iload_n 2, 1), (15, .putfield 153, 3), (18, .iconst 1, 1), (19, .ireturn, 1)]
theorem tk_X3_readThrush_0 : dcA cX3_readThrush tb_X3_readThrush_0 = true := by decide +kernel
theorem dX3_readThrush_0 : decode cX3_readThrush 0 = .ok (.aload_n 0, 1) := dcO tk_X3_readThrush_0 0 rfl
theorem dX3_readThrush_1 : decode cX3_readThrush 1 = .ok (.bipush 20, 2) := dcO tk_X3_readThrush_0 1 rfl
theorem dX3_readThrush_3 : decode cX3_readThrush 3 = .ok (.invokevirtual 139, 3) := dcO tk_X3_readThrush_0 2 rfl
theorem dX3_readThrush_6 : decode cX3_readThrush 6 = .ok (.istore_n 2, 1) := dcO tk_X3_readThrush_0 3 rfl
theorem dX3_readThrush_7 : decode cX3_readThrush 7 = .ok (.iload_n 2, 1) := dcO tk_X3_readThrush_0 4 rfl
theorem dX3_readThrush_8 : decode cX3_readThrush 8 = .ok (.ifCond .ge 5, 3) := dcO tk_X3_readThrush_0 5 rfl
theorem dX3_readThrush_11 : decode cX3_readThrush 11 = .ok (.iconst 0, 1) := dcO tk_X3_readThrush_0 6 rfl
theorem dX3_readThrush_12 : decode cX3_readThrush 12 = .ok (.ireturn, 1) := dcO tk_X3_readThrush_0 7 rfl
theorem dX3_readThrush_13 : decode cX3_readThrush 13 = .ok (.aload_n 1, 1) := dcO tk_X3_readThrush_0 8 rfl
theorem dX3_readThrush_14 : decode cX3_readThrush 14 = .ok (.iload_n 2, 1) := dcO tk_X3_readThrush_0 9 rfl
theorem dX3_readThrush_15 : decode cX3_readThrush 15 = .ok (.putfield 153, 3) := dcO tk_X3_readThrush_0 10 rfl
theorem dX3_readThrush_18 : decode cX3_readThrush 18 = .ok (.iconst 1, 1) := dcO tk_X3_readThrush_0 11 rfl
theorem dX3_readThrush_19 : decode cX3_readThrush 19 = .ok (.ireturn, 1) := dcO tk_X3_readThrush_0 12 rfl
abbrev tb_X3_isWord_0 : List (Nat × Instr × Nat) := [(0, .aload_n 0, 1), (1, .getfield 22, 3), (4, .aload_n 0, 1), (5, .getfield 31, 3), (8, .iaload, 1), (9, .istore_n 2, 1), (10, .aload_n 0, 1), (11, .getfield 19, 3), (14, .aload_n 0, 1), (15, .getfield 31, 3), (18, .iaload, 1), (19, .iconst 1, 1), (20, .if_icmp .ne 21, 3), (23, .aload_n 0, 1), (24, .getfield 25, 3), (27, .aload_n 0, 1), (28, .getfield 31, 3), (31, .iaload, 1), (32, .iload_n 2, 1), (33, .isub, 1), (34, .aload_n 1, 1), (35, .invokevirtual 155, 3), (38, .if_icmp .eq 5, 3), (41, .iconst 0, 1), (42, .ireturn, 1), (43, .iconst 0, 1), (44, .istore_n 3, 1), (45, .iload_n 3, 1), (46, .aload_n 1, 1), (47, .invokevirtual 155, 3), (50, .if_icmp .ge 27, 3), (53, .aload_n 0, 1), (54, .getfield 15, 3), (57, .iload_n 2, 1), (58, .iload_n 3, 1), (59, .iadd, 1), (60, .iaload, 1), (61, .aload_n 1, 1), (62, .iload_n 3, 1), (63, .invokevirtual 160, 3)]
theorem tk_X3_isWord_0 : dcA cX3_isWord tb_X3_isWord_0 = true := by decide +kernel
theorem dX3_isWord_0 : decode cX3_isWord 0 = .ok (.aload_n 0, 1) := dcO tk_X3_isWord_0 0 rfl
theorem dX3_isWord_1 : decode cX3_isWord 1 = .ok (.getfield 22, 3) := dcO tk_X3_isWord_0 1 rfl
theorem dX3_isWord_4 : decode cX3_isWord 4 = .ok (.aload_n 0, 1) := dcO tk_X3_isWord_0 2 rfl
theorem dX3_isWord_5 : decode cX3_isWord 5 = .ok (.getfield 31, 3) := dcO tk_X3_isWord_0 3 rfl
theorem dX3_isWord_8 : decode cX3_isWord 8 = .ok (.iaload, 1) := dcO tk_X3_isWord_0 4 rfl
theorem dX3_isWord_9 : decode cX3_isWord 9 = .ok (.istore_n 2, 1) := dcO tk_X3_isWord_0 5 rfl
theorem dX3_isWord_10 : decode cX3_isWord 10 = .ok (.aload_n 0, 1) := dcO tk_X3_isWord_0 6 rfl
theorem dX3_isWord_11 : decode cX3_isWord 11 = .ok (.getfield 19, 3) := dcO tk_X3_isWord_0 7 rfl
theorem dX3_isWord_14 : decode cX3_isWord 14 = .ok (.aload_n 0, 1) := dcO tk_X3_isWord_0 8 rfl
theorem dX3_isWord_15 : decode cX3_isWord 15 = .ok (.getfield 31, 3) := dcO tk_X3_isWord_0 9 rfl
theorem dX3_isWord_18 : decode cX3_isWord 18 = .ok (.iaload, 1) := dcO tk_X3_isWord_0 10 rfl
theorem dX3_isWord_19 : decode cX3_isWord 19 = .ok (.iconst 1, 1) := dcO tk_X3_isWord_0 11 rfl
theorem dX3_isWord_20 : decode cX3_isWord 20 = .ok (.if_icmp .ne 21, 3) := dcO tk_X3_isWord_0 12 rfl
theorem dX3_isWord_23 : decode cX3_isWord 23 = .ok (.aload_n 0, 1) := dcO tk_X3_isWord_0 13 rfl
theorem dX3_isWord_24 : decode cX3_isWord 24 = .ok (.getfield 25, 3) := dcO tk_X3_isWord_0 14 rfl
theorem dX3_isWord_27 : decode cX3_isWord 27 = .ok (.aload_n 0, 1) := dcO tk_X3_isWord_0 15 rfl
theorem dX3_isWord_28 : decode cX3_isWord 28 = .ok (.getfield 31, 3) := dcO tk_X3_isWord_0 16 rfl
theorem dX3_isWord_31 : decode cX3_isWord 31 = .ok (.iaload, 1) := dcO tk_X3_isWord_0 17 rfl
theorem dX3_isWord_32 : decode cX3_isWord 32 = .ok (.iload_n 2, 1) := dcO tk_X3_isWord_0 18 rfl
theorem dX3_isWord_33 : decode cX3_isWord 33 = .ok (.isub, 1) := dcO tk_X3_isWord_0 19 rfl
theorem dX3_isWord_34 : decode cX3_isWord 34 = .ok (.aload_n 1, 1) := dcO tk_X3_isWord_0 20 rfl
theorem dX3_isWord_35 : decode cX3_isWord 35 = .ok (.invokevirtual 155, 3) := dcO tk_X3_isWord_0 21 rfl
theorem dX3_isWord_38 : decode cX3_isWord 38 = .ok (.if_icmp .eq 5, 3) := dcO tk_X3_isWord_0 22 rfl
theorem dX3_isWord_41 : decode cX3_isWord 41 = .ok (.iconst 0, 1) := dcO tk_X3_isWord_0 23 rfl
theorem dX3_isWord_42 : decode cX3_isWord 42 = .ok (.ireturn, 1) := dcO tk_X3_isWord_0 24 rfl
theorem dX3_isWord_43 : decode cX3_isWord 43 = .ok (.iconst 0, 1) := dcO tk_X3_isWord_0 25 rfl
theorem dX3_isWord_44 : decode cX3_isWord 44 = .ok (.istore_n 3, 1) := dcO tk_X3_isWord_0 26 rfl
theorem dX3_isWord_45 : decode cX3_isWord 45 = .ok (.iload_n 3, 1) := dcO tk_X3_isWord_0 27 rfl
theorem dX3_isWord_46 : decode cX3_isWord 46 = .ok (.aload_n 1, 1) := dcO tk_X3_isWord_0 28 rfl
theorem dX3_isWord_47 : decode cX3_isWord 47 = .ok (.invokevirtual 155, 3) := dcO tk_X3_isWord_0 29 rfl
theorem dX3_isWord_50 : decode cX3_isWord 50 = .ok (.if_icmp .ge 27, 3) := dcO tk_X3_isWord_0 30 rfl
theorem dX3_isWord_53 : decode cX3_isWord 53 = .ok (.aload_n 0, 1) := dcO tk_X3_isWord_0 31 rfl
theorem dX3_isWord_54 : decode cX3_isWord 54 = .ok (.getfield 15, 3) := dcO tk_X3_isWord_0 32 rfl
theorem dX3_isWord_57 : decode cX3_isWord 57 = .ok (.iload_n 2, 1) := dcO tk_X3_isWord_0 33 rfl
theorem dX3_isWord_58 : decode cX3_isWord 58 = .ok (.iload_n 3, 1) := dcO tk_X3_isWord_0 34 rfl
theorem dX3_isWord_59 : decode cX3_isWord 59 = .ok (.iadd, 1) := dcO tk_X3_isWord_0 35 rfl
theorem dX3_isWord_60 : decode cX3_isWord 60 = .ok (.iaload, 1) := dcO tk_X3_isWord_0 36 rfl
theorem dX3_isWord_61 : decode cX3_isWord 61 = .ok (.aload_n 1, 1) := dcO tk_X3_isWord_0 37 rfl
theorem dX3_isWord_62 : decode cX3_isWord 62 = .ok (.iload_n 3, 1) := dcO tk_X3_isWord_0 38 rfl
theorem dX3_isWord_63 : decode cX3_isWord 63 = .ok (.invokevirtual 160, 3) := dcO tk_X3_isWord_0 39 rfl
abbrev tb_X3_isWord_1 : List (Nat × Instr × Nat) := [(66, .if_icmp .eq 5, 3), (69, .iconst 0, 1), (70, .ireturn, 1), (71, .iinc 3 1, 3), (74, .goto (-29), 3), (77, .iconst 1, 1), (78, .ireturn, 1)]
theorem tk_X3_isWord_1 : dcA cX3_isWord tb_X3_isWord_1 = true := by decide +kernel
theorem dX3_isWord_66 : decode cX3_isWord 66 = .ok (.if_icmp .eq 5, 3) := dcO tk_X3_isWord_1 0 rfl
theorem dX3_isWord_69 : decode cX3_isWord 69 = .ok (.iconst 0, 1) := dcO tk_X3_isWord_1 1 rfl
theorem dX3_isWord_70 : decode cX3_isWord 70 = .ok (.ireturn, 1) := dcO tk_X3_isWord_1 2 rfl
theorem dX3_isWord_71 : decode cX3_isWord 71 = .ok (.iinc 3 1, 3) := dcO tk_X3_isWord_1 3 rfl
theorem dX3_isWord_74 : decode cX3_isWord 74 = .ok (.goto (-29), 3) := dcO tk_X3_isWord_1 4 rfl
theorem dX3_isWord_77 : decode cX3_isWord 77 = .ok (.iconst 1, 1) := dcO tk_X3_isWord_1 5 rfl
theorem dX3_isWord_78 : decode cX3_isWord 78 = .ok (.ireturn, 1) := dcO tk_X3_isWord_1 6 rfl
abbrev tb_X3_skipWord_0 : List (Nat × Instr × Nat) := [(0, .aload_n 0, 1), (1, .aload_n 1, 1), (2, .invokevirtual 96, 3), (5, .ifCond .ne 5, 3), (8, .iconst 0, 1), (9, .ireturn, 1), (10, .aload_n 0, 1), (11, .dup, 1), (12, .getfield 31, 3), (15, .iconst 1, 1), (16, .iadd, 1), (17, .putfield 31, 3), (20, .iconst 1, 1), (21, .ireturn, 1)]
theorem tk_X3_skipWord_0 : dcA cX3_skipWord tb_X3_skipWord_0 = true := by decide +kernel
theorem dX3_skipWord_0 : decode cX3_skipWord 0 = .ok (.aload_n 0, 1) := dcO tk_X3_skipWord_0 0 rfl
theorem dX3_skipWord_1 : decode cX3_skipWord 1 = .ok (.aload_n 1, 1) := dcO tk_X3_skipWord_0 1 rfl
theorem dX3_skipWord_2 : decode cX3_skipWord 2 = .ok (.invokevirtual 96, 3) := dcO tk_X3_skipWord_0 2 rfl
theorem dX3_skipWord_5 : decode cX3_skipWord 5 = .ok (.ifCond .ne 5, 3) := dcO tk_X3_skipWord_0 3 rfl
theorem dX3_skipWord_8 : decode cX3_skipWord 8 = .ok (.iconst 0, 1) := dcO tk_X3_skipWord_0 4 rfl
theorem dX3_skipWord_9 : decode cX3_skipWord 9 = .ok (.ireturn, 1) := dcO tk_X3_skipWord_0 5 rfl
theorem dX3_skipWord_10 : decode cX3_skipWord 10 = .ok (.aload_n 0, 1) := dcO tk_X3_skipWord_0 6 rfl
theorem dX3_skipWord_11 : decode cX3_skipWord 11 = .ok (.dup, 1) := dcO tk_X3_skipWord_0 7 rfl
theorem dX3_skipWord_12 : decode cX3_skipWord 12 = .ok (.getfield 31, 3) := dcO tk_X3_skipWord_0 8 rfl
theorem dX3_skipWord_15 : decode cX3_skipWord 15 = .ok (.iconst 1, 1) := dcO tk_X3_skipWord_0 9 rfl
theorem dX3_skipWord_16 : decode cX3_skipWord 16 = .ok (.iadd, 1) := dcO tk_X3_skipWord_0 10 rfl
theorem dX3_skipWord_17 : decode cX3_skipWord 17 = .ok (.putfield 31, 3) := dcO tk_X3_skipWord_0 11 rfl
theorem dX3_skipWord_20 : decode cX3_skipWord 20 = .ok (.iconst 1, 1) := dcO tk_X3_skipWord_0 12 rfl
theorem dX3_skipWord_21 : decode cX3_skipWord 21 = .ok (.ireturn, 1) := dcO tk_X3_skipWord_0 13 rfl
abbrev tb_X3_takeNumber_0 : List (Nat × Instr × Nat) := [(0, .aload_n 0, 1), (1, .getfield 19, 3), (4, .aload_n 0, 1), (5, .getfield 31, 3), (8, .iaload, 1), (9, .iconst 2, 1), (10, .if_icmp .ne 16, 3), (13, .aload_n 0, 1), (14, .getfield 28, 3), (17, .aload_n 0, 1), (18, .getfield 31, 3), (21, .iaload, 1), (22, .iload_n 1, 1), (23, .if_icmp .le 5, 3), (26, .iconst (-1), 1), (27, .ireturn, 1), (28, .aload_n 0, 1), (29, .getfield 28, 3), (32, .aload_n 0, 1), (33, .getfield 31, 3), (36, .iaload, 1), (37, .istore_n 2, 1), (38, .aload_n 0, 1), (39, .dup, 1), (40, .getfield 31, 3), (43, .iconst 1, 1), (44, .iadd, 1), (45, .putfield 31, 3), (48, .iload_n 2, 1), (49, .ireturn, 1)]
theorem tk_X3_takeNumber_0 : dcA cX3_takeNumber tb_X3_takeNumber_0 = true := by decide +kernel
theorem dX3_takeNumber_0 : decode cX3_takeNumber 0 = .ok (.aload_n 0, 1) := dcO tk_X3_takeNumber_0 0 rfl
theorem dX3_takeNumber_1 : decode cX3_takeNumber 1 = .ok (.getfield 19, 3) := dcO tk_X3_takeNumber_0 1 rfl
theorem dX3_takeNumber_4 : decode cX3_takeNumber 4 = .ok (.aload_n 0, 1) := dcO tk_X3_takeNumber_0 2 rfl
theorem dX3_takeNumber_5 : decode cX3_takeNumber 5 = .ok (.getfield 31, 3) := dcO tk_X3_takeNumber_0 3 rfl
theorem dX3_takeNumber_8 : decode cX3_takeNumber 8 = .ok (.iaload, 1) := dcO tk_X3_takeNumber_0 4 rfl
theorem dX3_takeNumber_9 : decode cX3_takeNumber 9 = .ok (.iconst 2, 1) := dcO tk_X3_takeNumber_0 5 rfl
theorem dX3_takeNumber_10 : decode cX3_takeNumber 10 = .ok (.if_icmp .ne 16, 3) := dcO tk_X3_takeNumber_0 6 rfl
theorem dX3_takeNumber_13 : decode cX3_takeNumber 13 = .ok (.aload_n 0, 1) := dcO tk_X3_takeNumber_0 7 rfl
theorem dX3_takeNumber_14 : decode cX3_takeNumber 14 = .ok (.getfield 28, 3) := dcO tk_X3_takeNumber_0 8 rfl
theorem dX3_takeNumber_17 : decode cX3_takeNumber 17 = .ok (.aload_n 0, 1) := dcO tk_X3_takeNumber_0 9 rfl
theorem dX3_takeNumber_18 : decode cX3_takeNumber 18 = .ok (.getfield 31, 3) := dcO tk_X3_takeNumber_0 10 rfl
theorem dX3_takeNumber_21 : decode cX3_takeNumber 21 = .ok (.iaload, 1) := dcO tk_X3_takeNumber_0 11 rfl
theorem dX3_takeNumber_22 : decode cX3_takeNumber 22 = .ok (.iload_n 1, 1) := dcO tk_X3_takeNumber_0 12 rfl
theorem dX3_takeNumber_23 : decode cX3_takeNumber 23 = .ok (.if_icmp .le 5, 3) := dcO tk_X3_takeNumber_0 13 rfl
theorem dX3_takeNumber_26 : decode cX3_takeNumber 26 = .ok (.iconst (-1), 1) := dcO tk_X3_takeNumber_0 14 rfl
theorem dX3_takeNumber_27 : decode cX3_takeNumber 27 = .ok (.ireturn, 1) := dcO tk_X3_takeNumber_0 15 rfl
theorem dX3_takeNumber_28 : decode cX3_takeNumber 28 = .ok (.aload_n 0, 1) := dcO tk_X3_takeNumber_0 16 rfl
theorem dX3_takeNumber_29 : decode cX3_takeNumber 29 = .ok (.getfield 28, 3) := dcO tk_X3_takeNumber_0 17 rfl
theorem dX3_takeNumber_32 : decode cX3_takeNumber 32 = .ok (.aload_n 0, 1) := dcO tk_X3_takeNumber_0 18 rfl
theorem dX3_takeNumber_33 : decode cX3_takeNumber 33 = .ok (.getfield 31, 3) := dcO tk_X3_takeNumber_0 19 rfl
theorem dX3_takeNumber_36 : decode cX3_takeNumber 36 = .ok (.iaload, 1) := dcO tk_X3_takeNumber_0 20 rfl
theorem dX3_takeNumber_37 : decode cX3_takeNumber 37 = .ok (.istore_n 2, 1) := dcO tk_X3_takeNumber_0 21 rfl
theorem dX3_takeNumber_38 : decode cX3_takeNumber 38 = .ok (.aload_n 0, 1) := dcO tk_X3_takeNumber_0 22 rfl
theorem dX3_takeNumber_39 : decode cX3_takeNumber 39 = .ok (.dup, 1) := dcO tk_X3_takeNumber_0 23 rfl
theorem dX3_takeNumber_40 : decode cX3_takeNumber 40 = .ok (.getfield 31, 3) := dcO tk_X3_takeNumber_0 24 rfl
theorem dX3_takeNumber_43 : decode cX3_takeNumber 43 = .ok (.iconst 1, 1) := dcO tk_X3_takeNumber_0 25 rfl
theorem dX3_takeNumber_44 : decode cX3_takeNumber 44 = .ok (.iadd, 1) := dcO tk_X3_takeNumber_0 26 rfl
theorem dX3_takeNumber_45 : decode cX3_takeNumber 45 = .ok (.putfield 31, 3) := dcO tk_X3_takeNumber_0 27 rfl
theorem dX3_takeNumber_48 : decode cX3_takeNumber 48 = .ok (.iload_n 2, 1) := dcO tk_X3_takeNumber_0 28 rfl
theorem dX3_takeNumber_49 : decode cX3_takeNumber 49 = .ok (.ireturn, 1) := dcO tk_X3_takeNumber_0 29 rfl
abbrev tb_X3_takePart_0 : List (Nat × Instr × Nat) := [(0, .aload_n 0, 1), (1, .aload_n 1, 1), (2, .invokevirtual 67, 3), (5, .ifCond .eq 11, 3), (8, .aload_n 0, 1), (9, .iload_n 2, 1), (10, .invokevirtual 139, 3), (13, .goto 4, 3), (16, .iload_n 3, 1), (17, .ireturn, 1)]
theorem tk_X3_takePart_0 : dcA cX3_takePart tb_X3_takePart_0 = true := by decide +kernel
theorem dX3_takePart_0 : decode cX3_takePart 0 = .ok (.aload_n 0, 1) := dcO tk_X3_takePart_0 0 rfl
theorem dX3_takePart_1 : decode cX3_takePart 1 = .ok (.aload_n 1, 1) := dcO tk_X3_takePart_0 1 rfl
theorem dX3_takePart_2 : decode cX3_takePart 2 = .ok (.invokevirtual 67, 3) := dcO tk_X3_takePart_0 2 rfl
theorem dX3_takePart_5 : decode cX3_takePart 5 = .ok (.ifCond .eq 11, 3) := dcO tk_X3_takePart_0 3 rfl
theorem dX3_takePart_8 : decode cX3_takePart 8 = .ok (.aload_n 0, 1) := dcO tk_X3_takePart_0 4 rfl
theorem dX3_takePart_9 : decode cX3_takePart 9 = .ok (.iload_n 2, 1) := dcO tk_X3_takePart_0 5 rfl
theorem dX3_takePart_10 : decode cX3_takePart 10 = .ok (.invokevirtual 139, 3) := dcO tk_X3_takePart_0 6 rfl
theorem dX3_takePart_13 : decode cX3_takePart 13 = .ok (.goto 4, 3) := dcO tk_X3_takePart_0 7 rfl
theorem dX3_takePart_16 : decode cX3_takePart 16 = .ok (.iload_n 3, 1) := dcO tk_X3_takePart_0 8 rfl
theorem dX3_takePart_17 : decode cX3_takePart 17 = .ok (.ireturn, 1) := dcO tk_X3_takePart_0 9 rfl
abbrev tb_X4_init_0 : List (Nat × Instr × Nat) := [(0, .aload_n 0, 1), (1, .invokespecial 3, 3), (4, .aload_n 0, 1), (5, .bipush 81, 2), (7, .newarray .int, 2), (9, .putfield 9, 3), (12, .aload_n 0, 1), (13, .bipush 81, 2), (15, .newarray .boolean, 2), (17, .putfield 15, 3), (20, .aload_n 0, 1), (21, .bipush 81, 2), (23, .newarray .int, 2), (25, .putfield 19, 3), (28, .aload_n 0, 1), (29, .sipush 648, 3), (32, .newarray .int, 2), (34, .putfield 22, 3), (37, .aload_n 0, 1), (38, .sipush 648, 3), (41, .newarray .int, 2), (43, .putfield 25, 3), (46, .return_, 1)]
theorem tk_X4_init_0 : dcA cX4_init tb_X4_init_0 = true := by decide +kernel
theorem dX4_init_0 : decode cX4_init 0 = .ok (.aload_n 0, 1) := dcO tk_X4_init_0 0 rfl
theorem dX4_init_1 : decode cX4_init 1 = .ok (.invokespecial 3, 3) := dcO tk_X4_init_0 1 rfl
theorem dX4_init_4 : decode cX4_init 4 = .ok (.aload_n 0, 1) := dcO tk_X4_init_0 2 rfl
theorem dX4_init_5 : decode cX4_init 5 = .ok (.bipush 81, 2) := dcO tk_X4_init_0 3 rfl
theorem dX4_init_7 : decode cX4_init 7 = .ok (.newarray .int, 2) := dcO tk_X4_init_0 4 rfl
theorem dX4_init_9 : decode cX4_init 9 = .ok (.putfield 9, 3) := dcO tk_X4_init_0 5 rfl
theorem dX4_init_12 : decode cX4_init 12 = .ok (.aload_n 0, 1) := dcO tk_X4_init_0 6 rfl
theorem dX4_init_13 : decode cX4_init 13 = .ok (.bipush 81, 2) := dcO tk_X4_init_0 7 rfl
theorem dX4_init_15 : decode cX4_init 15 = .ok (.newarray .boolean, 2) := dcO tk_X4_init_0 8 rfl
theorem dX4_init_17 : decode cX4_init 17 = .ok (.putfield 15, 3) := dcO tk_X4_init_0 9 rfl
theorem dX4_init_20 : decode cX4_init 20 = .ok (.aload_n 0, 1) := dcO tk_X4_init_0 10 rfl
theorem dX4_init_21 : decode cX4_init 21 = .ok (.bipush 81, 2) := dcO tk_X4_init_0 11 rfl
theorem dX4_init_23 : decode cX4_init 23 = .ok (.newarray .int, 2) := dcO tk_X4_init_0 12 rfl
theorem dX4_init_25 : decode cX4_init 25 = .ok (.putfield 19, 3) := dcO tk_X4_init_0 13 rfl
theorem dX4_init_28 : decode cX4_init 28 = .ok (.aload_n 0, 1) := dcO tk_X4_init_0 14 rfl
theorem dX4_init_29 : decode cX4_init 29 = .ok (.sipush 648, 3) := dcO tk_X4_init_0 15 rfl
theorem dX4_init_32 : decode cX4_init 32 = .ok (.newarray .int, 2) := dcO tk_X4_init_0 16 rfl
theorem dX4_init_34 : decode cX4_init 34 = .ok (.putfield 22, 3) := dcO tk_X4_init_0 17 rfl
theorem dX4_init_37 : decode cX4_init 37 = .ok (.aload_n 0, 1) := dcO tk_X4_init_0 18 rfl
theorem dX4_init_38 : decode cX4_init 38 = .ok (.sipush 648, 3) := dcO tk_X4_init_0 19 rfl
theorem dX4_init_41 : decode cX4_init 41 = .ok (.newarray .int, 2) := dcO tk_X4_init_0 20 rfl
theorem dX4_init_43 : decode cX4_init 43 = .ok (.putfield 25, 3) := dcO tk_X4_init_0 21 rfl
theorem dX4_init_46 : decode cX4_init 46 = .ok (.return_, 1) := dcO tk_X4_init_0 22 rfl
abbrev tb_X4_openLand_0 : List (Nat × Instr × Nat) := [(0, .iconst 0, 1), (1, .istore_n 2, 1), (2, .iload_n 2, 1), (3, .bipush 81, 2), (5, .if_icmp .ge 29, 3), (8, .aload_n 0, 1), (9, .getfield 15, 3), (12, .iload_n 2, 1), (13, .aload_n 1, 1), (14, .getfield 28, 3), (17, .iload_n 2, 1), (18, .iaload, 1), (19, .ifCond .ne 7, 3), (22, .iconst 1, 1), (23, .goto 4, 3), (26, .iconst 0, 1), (27, .bastore, 1), (28, .iinc 2 1, 3), (31, .goto (-29), 3), (34, .return_, 1)]
theorem tk_X4_openLand_0 : dcA cX4_openLand tb_X4_openLand_0 = true := by decide +kernel
theorem dX4_openLand_0 : decode cX4_openLand 0 = .ok (.iconst 0, 1) := dcO tk_X4_openLand_0 0 rfl
theorem dX4_openLand_1 : decode cX4_openLand 1 = .ok (.istore_n 2, 1) := dcO tk_X4_openLand_0 1 rfl
theorem dX4_openLand_2 : decode cX4_openLand 2 = .ok (.iload_n 2, 1) := dcO tk_X4_openLand_0 2 rfl
theorem dX4_openLand_3 : decode cX4_openLand 3 = .ok (.bipush 81, 2) := dcO tk_X4_openLand_0 3 rfl
theorem dX4_openLand_5 : decode cX4_openLand 5 = .ok (.if_icmp .ge 29, 3) := dcO tk_X4_openLand_0 4 rfl
theorem dX4_openLand_8 : decode cX4_openLand 8 = .ok (.aload_n 0, 1) := dcO tk_X4_openLand_0 5 rfl
theorem dX4_openLand_9 : decode cX4_openLand 9 = .ok (.getfield 15, 3) := dcO tk_X4_openLand_0 6 rfl
theorem dX4_openLand_12 : decode cX4_openLand 12 = .ok (.iload_n 2, 1) := dcO tk_X4_openLand_0 7 rfl
theorem dX4_openLand_13 : decode cX4_openLand 13 = .ok (.aload_n 1, 1) := dcO tk_X4_openLand_0 8 rfl
theorem dX4_openLand_14 : decode cX4_openLand 14 = .ok (.getfield 28, 3) := dcO tk_X4_openLand_0 9 rfl
theorem dX4_openLand_17 : decode cX4_openLand 17 = .ok (.iload_n 2, 1) := dcO tk_X4_openLand_0 10 rfl
theorem dX4_openLand_18 : decode cX4_openLand 18 = .ok (.iaload, 1) := dcO tk_X4_openLand_0 11 rfl
theorem dX4_openLand_19 : decode cX4_openLand 19 = .ok (.ifCond .ne 7, 3) := dcO tk_X4_openLand_0 12 rfl
theorem dX4_openLand_22 : decode cX4_openLand 22 = .ok (.iconst 1, 1) := dcO tk_X4_openLand_0 13 rfl
theorem dX4_openLand_23 : decode cX4_openLand 23 = .ok (.goto 4, 3) := dcO tk_X4_openLand_0 14 rfl
theorem dX4_openLand_26 : decode cX4_openLand 26 = .ok (.iconst 0, 1) := dcO tk_X4_openLand_0 15 rfl
theorem dX4_openLand_27 : decode cX4_openLand 27 = .ok (.bastore, 1) := dcO tk_X4_openLand_0 16 rfl
theorem dX4_openLand_28 : decode cX4_openLand 28 = .ok (.iinc 2 1, 3) := dcO tk_X4_openLand_0 17 rfl
theorem dX4_openLand_31 : decode cX4_openLand 31 = .ok (.goto (-29), 3) := dcO tk_X4_openLand_0 18 rfl
theorem dX4_openLand_34 : decode cX4_openLand 34 = .ok (.return_, 1) := dcO tk_X4_openLand_0 19 rfl
abbrev tb_X4_openFor_0 : List (Nat × Instr × Nat) := [(0, .iconst 0, 1), (1, .istore_n 3, 1), (2, .iload_n 3, 1), (3, .bipush 81, 2), (5, .if_icmp .ge 38, 3), (8, .aload_n 0, 1), (9, .getfield 15, 3), (12, .iload_n 3, 1), (13, .aload_n 1, 1), (14, .getfield 28, 3), (17, .iload_n 3, 1), (18, .iaload, 1), (19, .ifCond .ne 16, 3), (22, .aload_n 1, 1), (23, .iload_n 3, 1), (24, .iload_n 2, 1), (25, .invokevirtual 33, 3), (28, .ifCond .eq 7, 3), (31, .iconst 1, 1), (32, .goto 4, 3), (35, .iconst 0, 1), (36, .bastore, 1), (37, .iinc 3 1, 3), (40, .goto (-38), 3), (43, .return_, 1)]
theorem tk_X4_openFor_0 : dcA cX4_openFor tb_X4_openFor_0 = true := by decide +kernel
theorem dX4_openFor_0 : decode cX4_openFor 0 = .ok (.iconst 0, 1) := dcO tk_X4_openFor_0 0 rfl
theorem dX4_openFor_1 : decode cX4_openFor 1 = .ok (.istore_n 3, 1) := dcO tk_X4_openFor_0 1 rfl
theorem dX4_openFor_2 : decode cX4_openFor 2 = .ok (.iload_n 3, 1) := dcO tk_X4_openFor_0 2 rfl
theorem dX4_openFor_3 : decode cX4_openFor 3 = .ok (.bipush 81, 2) := dcO tk_X4_openFor_0 3 rfl
theorem dX4_openFor_5 : decode cX4_openFor 5 = .ok (.if_icmp .ge 38, 3) := dcO tk_X4_openFor_0 4 rfl
theorem dX4_openFor_8 : decode cX4_openFor 8 = .ok (.aload_n 0, 1) := dcO tk_X4_openFor_0 5 rfl
theorem dX4_openFor_9 : decode cX4_openFor 9 = .ok (.getfield 15, 3) := dcO tk_X4_openFor_0 6 rfl
theorem dX4_openFor_12 : decode cX4_openFor 12 = .ok (.iload_n 3, 1) := dcO tk_X4_openFor_0 7 rfl
theorem dX4_openFor_13 : decode cX4_openFor 13 = .ok (.aload_n 1, 1) := dcO tk_X4_openFor_0 8 rfl
theorem dX4_openFor_14 : decode cX4_openFor 14 = .ok (.getfield 28, 3) := dcO tk_X4_openFor_0 9 rfl
theorem dX4_openFor_17 : decode cX4_openFor 17 = .ok (.iload_n 3, 1) := dcO tk_X4_openFor_0 10 rfl
theorem dX4_openFor_18 : decode cX4_openFor 18 = .ok (.iaload, 1) := dcO tk_X4_openFor_0 11 rfl
theorem dX4_openFor_19 : decode cX4_openFor 19 = .ok (.ifCond .ne 16, 3) := dcO tk_X4_openFor_0 12 rfl
theorem dX4_openFor_22 : decode cX4_openFor 22 = .ok (.aload_n 1, 1) := dcO tk_X4_openFor_0 13 rfl
theorem dX4_openFor_23 : decode cX4_openFor 23 = .ok (.iload_n 3, 1) := dcO tk_X4_openFor_0 14 rfl
theorem dX4_openFor_24 : decode cX4_openFor 24 = .ok (.iload_n 2, 1) := dcO tk_X4_openFor_0 15 rfl
theorem dX4_openFor_25 : decode cX4_openFor 25 = .ok (.invokevirtual 33, 3) := dcO tk_X4_openFor_0 16 rfl
theorem dX4_openFor_28 : decode cX4_openFor 28 = .ok (.ifCond .eq 7, 3) := dcO tk_X4_openFor_0 17 rfl
theorem dX4_openFor_31 : decode cX4_openFor 31 = .ok (.iconst 1, 1) := dcO tk_X4_openFor_0 18 rfl
theorem dX4_openFor_32 : decode cX4_openFor 32 = .ok (.goto 4, 3) := dcO tk_X4_openFor_0 19 rfl
theorem dX4_openFor_35 : decode cX4_openFor 35 = .ok (.iconst 0, 1) := dcO tk_X4_openFor_0 20 rfl
theorem dX4_openFor_36 : decode cX4_openFor 36 = .ok (.bastore, 1) := dcO tk_X4_openFor_0 21 rfl
theorem dX4_openFor_37 : decode cX4_openFor 37 = .ok (.iinc 3 1, 3) := dcO tk_X4_openFor_0 22 rfl
theorem dX4_openFor_40 : decode cX4_openFor 40 = .ok (.goto (-38), 3) := dcO tk_X4_openFor_0 23 rfl
theorem dX4_openFor_43 : decode cX4_openFor 43 = .ok (.return_, 1) := dcO tk_X4_openFor_0 24 rfl
abbrev tb_X4_measure_0 : List (Nat × Instr × Nat) := [(0, .aload_n 0, 1), (1, .getfield 9, 3), (4, .bipush 99, 2), (6, .invokestatic 37, 3), (9, .aload_n 0, 1), (10, .getfield 15, 3), (13, .iload_n 1, 1), (14, .baload, 1), (15, .ifCond .ne 4, 3), (18, .return_, 1), (19, .aload_n 0, 1), (20, .getfield 9, 3), (23, .iload_n 1, 1), (24, .iconst 0, 1), (25, .iastore, 1), (26, .aload_n 0, 1), (27, .getfield 19, 3), (30, .iconst 0, 1), (31, .iload_n 1, 1), (32, .iastore, 1), (33, .iconst 1, 1), (34, .istore_n 2, 1), (35, .iconst 0, 1), (36, .istore_n 3, 1), (37, .iload_n 3, 1), (38, .iload_n 2, 1), (39, .if_icmp .ge 27, 3), (42, .iload_n 3, 1), (43, .bipush 81, 2), (45, .if_icmp .ge 21, 3), (48, .aload_n 0, 1), (49, .aload_n 0, 1), (50, .getfield 19, 3), (53, .iload_n 3, 1), (54, .iaload, 1), (55, .iload_n 2, 1), (56, .invokevirtual 43, 3), (59, .istore_n 2, 1), (60, .iinc 3 1, 3), (63, .goto (-26), 3)]
theorem tk_X4_measure_0 : dcA cX4_measure tb_X4_measure_0 = true := by decide +kernel
theorem dX4_measure_0 : decode cX4_measure 0 = .ok (.aload_n 0, 1) := dcO tk_X4_measure_0 0 rfl
theorem dX4_measure_1 : decode cX4_measure 1 = .ok (.getfield 9, 3) := dcO tk_X4_measure_0 1 rfl
theorem dX4_measure_4 : decode cX4_measure 4 = .ok (.bipush 99, 2) := dcO tk_X4_measure_0 2 rfl
theorem dX4_measure_6 : decode cX4_measure 6 = .ok (.invokestatic 37, 3) := dcO tk_X4_measure_0 3 rfl
theorem dX4_measure_9 : decode cX4_measure 9 = .ok (.aload_n 0, 1) := dcO tk_X4_measure_0 4 rfl
theorem dX4_measure_10 : decode cX4_measure 10 = .ok (.getfield 15, 3) := dcO tk_X4_measure_0 5 rfl
theorem dX4_measure_13 : decode cX4_measure 13 = .ok (.iload_n 1, 1) := dcO tk_X4_measure_0 6 rfl
theorem dX4_measure_14 : decode cX4_measure 14 = .ok (.baload, 1) := dcO tk_X4_measure_0 7 rfl
theorem dX4_measure_15 : decode cX4_measure 15 = .ok (.ifCond .ne 4, 3) := dcO tk_X4_measure_0 8 rfl
theorem dX4_measure_18 : decode cX4_measure 18 = .ok (.return_, 1) := dcO tk_X4_measure_0 9 rfl
theorem dX4_measure_19 : decode cX4_measure 19 = .ok (.aload_n 0, 1) := dcO tk_X4_measure_0 10 rfl
theorem dX4_measure_20 : decode cX4_measure 20 = .ok (.getfield 9, 3) := dcO tk_X4_measure_0 11 rfl
theorem dX4_measure_23 : decode cX4_measure 23 = .ok (.iload_n 1, 1) := dcO tk_X4_measure_0 12 rfl
theorem dX4_measure_24 : decode cX4_measure 24 = .ok (.iconst 0, 1) := dcO tk_X4_measure_0 13 rfl
theorem dX4_measure_25 : decode cX4_measure 25 = .ok (.iastore, 1) := dcO tk_X4_measure_0 14 rfl
theorem dX4_measure_26 : decode cX4_measure 26 = .ok (.aload_n 0, 1) := dcO tk_X4_measure_0 15 rfl
theorem dX4_measure_27 : decode cX4_measure 27 = .ok (.getfield 19, 3) := dcO tk_X4_measure_0 16 rfl
theorem dX4_measure_30 : decode cX4_measure 30 = .ok (.iconst 0, 1) := dcO tk_X4_measure_0 17 rfl
theorem dX4_measure_31 : decode cX4_measure 31 = .ok (.iload_n 1, 1) := dcO tk_X4_measure_0 18 rfl
theorem dX4_measure_32 : decode cX4_measure 32 = .ok (.iastore, 1) := dcO tk_X4_measure_0 19 rfl
theorem dX4_measure_33 : decode cX4_measure 33 = .ok (.iconst 1, 1) := dcO tk_X4_measure_0 20 rfl
theorem dX4_measure_34 : decode cX4_measure 34 = .ok (.istore_n 2, 1) := dcO tk_X4_measure_0 21 rfl
theorem dX4_measure_35 : decode cX4_measure 35 = .ok (.iconst 0, 1) := dcO tk_X4_measure_0 22 rfl
theorem dX4_measure_36 : decode cX4_measure 36 = .ok (.istore_n 3, 1) := dcO tk_X4_measure_0 23 rfl
theorem dX4_measure_37 : decode cX4_measure 37 = .ok (.iload_n 3, 1) := dcO tk_X4_measure_0 24 rfl
theorem dX4_measure_38 : decode cX4_measure 38 = .ok (.iload_n 2, 1) := dcO tk_X4_measure_0 25 rfl
theorem dX4_measure_39 : decode cX4_measure 39 = .ok (.if_icmp .ge 27, 3) := dcO tk_X4_measure_0 26 rfl
theorem dX4_measure_42 : decode cX4_measure 42 = .ok (.iload_n 3, 1) := dcO tk_X4_measure_0 27 rfl
theorem dX4_measure_43 : decode cX4_measure 43 = .ok (.bipush 81, 2) := dcO tk_X4_measure_0 28 rfl
theorem dX4_measure_45 : decode cX4_measure 45 = .ok (.if_icmp .ge 21, 3) := dcO tk_X4_measure_0 29 rfl
theorem dX4_measure_48 : decode cX4_measure 48 = .ok (.aload_n 0, 1) := dcO tk_X4_measure_0 30 rfl
theorem dX4_measure_49 : decode cX4_measure 49 = .ok (.aload_n 0, 1) := dcO tk_X4_measure_0 31 rfl
theorem dX4_measure_50 : decode cX4_measure 50 = .ok (.getfield 19, 3) := dcO tk_X4_measure_0 32 rfl
theorem dX4_measure_53 : decode cX4_measure 53 = .ok (.iload_n 3, 1) := dcO tk_X4_measure_0 33 rfl
theorem dX4_measure_54 : decode cX4_measure 54 = .ok (.iaload, 1) := dcO tk_X4_measure_0 34 rfl
theorem dX4_measure_55 : decode cX4_measure 55 = .ok (.iload_n 2, 1) := dcO tk_X4_measure_0 35 rfl
theorem dX4_measure_56 : decode cX4_measure 56 = .ok (.invokevirtual 43, 3) := dcO tk_X4_measure_0 36 rfl
theorem dX4_measure_59 : decode cX4_measure 59 = .ok (.istore_n 2, 1) := dcO tk_X4_measure_0 37 rfl
theorem dX4_measure_60 : decode cX4_measure 60 = .ok (.iinc 3 1, 3) := dcO tk_X4_measure_0 38 rfl
theorem dX4_measure_63 : decode cX4_measure 63 = .ok (.goto (-26), 3) := dcO tk_X4_measure_0 39 rfl
abbrev tb_X4_measure_1 : List (Nat × Instr × Nat) := [(66, .return_, 1)]
theorem tk_X4_measure_1 : dcA cX4_measure tb_X4_measure_1 = true := by decide +kernel
theorem dX4_measure_66 : decode cX4_measure 66 = .ok (.return_, 1) := dcO tk_X4_measure_1 0 rfl
abbrev tb_X4_spreadFrom_0 : List (Nat × Instr × Nat) := [(0, .iload_n 2, 1), (1, .istore_n 3, 1), (2, .iconst 0, 1), (3, .istore 4, 2), (5, .iload 4, 2), (7, .iconst 4, 1), (8, .if_icmp .ge 76, 3), (11, .iload_n 1, 1), (12, .iload 4, 2), (14, .invokestatic 47, 3), (17, .istore 5, 2), (19, .iload 5, 2), (21, .ifCond .lt 57, 3), (24, .aload_n 0, 1), (25, .getfield 15, 3), (28, .iload 5, 2), (30, .baload, 1), (31, .ifCond .eq 47, 3), (34, .aload_n 0, 1), (35, .getfield 9, 3), (38, .iload 5, 2), (40, .iaload, 1), (41, .bipush 99, 2), (43, .if_icmp .ne 35, 3), (46, .iload_n 3, 1), (47, .bipush 81, 2), (49, .if_icmp .ge 29, 3), (52, .aload_n 0, 1), (53, .getfield 9, 3), (56, .iload 5, 2), (58, .aload_n 0, 1), (59, .getfield 9, 3), (62, .iload_n 1, 1), (63, .iaload, 1), (64, .iconst 1, 1), (65, .iadd, 1), (66, .iastore, 1), (67, .aload_n 0, 1), (68, .getfield 19, 3), (71, .iload_n 3, 1)]
theorem tk_X4_spreadFrom_0 : dcA cX4_spreadFrom tb_X4_spreadFrom_0 = true := by decide +kernel
theorem dX4_spreadFrom_0 : decode cX4_spreadFrom 0 = .ok (.iload_n 2, 1) := dcO tk_X4_spreadFrom_0 0 rfl
theorem dX4_spreadFrom_1 : decode cX4_spreadFrom 1 = .ok (.istore_n 3, 1) := dcO tk_X4_spreadFrom_0 1 rfl
theorem dX4_spreadFrom_2 : decode cX4_spreadFrom 2 = .ok (.iconst 0, 1) := dcO tk_X4_spreadFrom_0 2 rfl
theorem dX4_spreadFrom_3 : decode cX4_spreadFrom 3 = .ok (.istore 4, 2) := dcO tk_X4_spreadFrom_0 3 rfl
theorem dX4_spreadFrom_5 : decode cX4_spreadFrom 5 = .ok (.iload 4, 2) := dcO tk_X4_spreadFrom_0 4 rfl
theorem dX4_spreadFrom_7 : decode cX4_spreadFrom 7 = .ok (.iconst 4, 1) := dcO tk_X4_spreadFrom_0 5 rfl
theorem dX4_spreadFrom_8 : decode cX4_spreadFrom 8 = .ok (.if_icmp .ge 76, 3) := dcO tk_X4_spreadFrom_0 6 rfl
theorem dX4_spreadFrom_11 : decode cX4_spreadFrom 11 = .ok (.iload_n 1, 1) := dcO tk_X4_spreadFrom_0 7 rfl
theorem dX4_spreadFrom_12 : decode cX4_spreadFrom 12 = .ok (.iload 4, 2) := dcO tk_X4_spreadFrom_0 8 rfl
theorem dX4_spreadFrom_14 : decode cX4_spreadFrom 14 = .ok (.invokestatic 47, 3) := dcO tk_X4_spreadFrom_0 9 rfl
theorem dX4_spreadFrom_17 : decode cX4_spreadFrom 17 = .ok (.istore 5, 2) := dcO tk_X4_spreadFrom_0 10 rfl
theorem dX4_spreadFrom_19 : decode cX4_spreadFrom 19 = .ok (.iload 5, 2) := dcO tk_X4_spreadFrom_0 11 rfl
theorem dX4_spreadFrom_21 : decode cX4_spreadFrom 21 = .ok (.ifCond .lt 57, 3) := dcO tk_X4_spreadFrom_0 12 rfl
theorem dX4_spreadFrom_24 : decode cX4_spreadFrom 24 = .ok (.aload_n 0, 1) := dcO tk_X4_spreadFrom_0 13 rfl
theorem dX4_spreadFrom_25 : decode cX4_spreadFrom 25 = .ok (.getfield 15, 3) := dcO tk_X4_spreadFrom_0 14 rfl
theorem dX4_spreadFrom_28 : decode cX4_spreadFrom 28 = .ok (.iload 5, 2) := dcO tk_X4_spreadFrom_0 15 rfl
theorem dX4_spreadFrom_30 : decode cX4_spreadFrom 30 = .ok (.baload, 1) := dcO tk_X4_spreadFrom_0 16 rfl
theorem dX4_spreadFrom_31 : decode cX4_spreadFrom 31 = .ok (.ifCond .eq 47, 3) := dcO tk_X4_spreadFrom_0 17 rfl
theorem dX4_spreadFrom_34 : decode cX4_spreadFrom 34 = .ok (.aload_n 0, 1) := dcO tk_X4_spreadFrom_0 18 rfl
theorem dX4_spreadFrom_35 : decode cX4_spreadFrom 35 = .ok (.getfield 9, 3) := dcO tk_X4_spreadFrom_0 19 rfl
theorem dX4_spreadFrom_38 : decode cX4_spreadFrom 38 = .ok (.iload 5, 2) := dcO tk_X4_spreadFrom_0 20 rfl
theorem dX4_spreadFrom_40 : decode cX4_spreadFrom 40 = .ok (.iaload, 1) := dcO tk_X4_spreadFrom_0 21 rfl
theorem dX4_spreadFrom_41 : decode cX4_spreadFrom 41 = .ok (.bipush 99, 2) := dcO tk_X4_spreadFrom_0 22 rfl
theorem dX4_spreadFrom_43 : decode cX4_spreadFrom 43 = .ok (.if_icmp .ne 35, 3) := dcO tk_X4_spreadFrom_0 23 rfl
theorem dX4_spreadFrom_46 : decode cX4_spreadFrom 46 = .ok (.iload_n 3, 1) := dcO tk_X4_spreadFrom_0 24 rfl
theorem dX4_spreadFrom_47 : decode cX4_spreadFrom 47 = .ok (.bipush 81, 2) := dcO tk_X4_spreadFrom_0 25 rfl
theorem dX4_spreadFrom_49 : decode cX4_spreadFrom 49 = .ok (.if_icmp .ge 29, 3) := dcO tk_X4_spreadFrom_0 26 rfl
theorem dX4_spreadFrom_52 : decode cX4_spreadFrom 52 = .ok (.aload_n 0, 1) := dcO tk_X4_spreadFrom_0 27 rfl
theorem dX4_spreadFrom_53 : decode cX4_spreadFrom 53 = .ok (.getfield 9, 3) := dcO tk_X4_spreadFrom_0 28 rfl
theorem dX4_spreadFrom_56 : decode cX4_spreadFrom 56 = .ok (.iload 5, 2) := dcO tk_X4_spreadFrom_0 29 rfl
theorem dX4_spreadFrom_58 : decode cX4_spreadFrom 58 = .ok (.aload_n 0, 1) := dcO tk_X4_spreadFrom_0 30 rfl
theorem dX4_spreadFrom_59 : decode cX4_spreadFrom 59 = .ok (.getfield 9, 3) := dcO tk_X4_spreadFrom_0 31 rfl
theorem dX4_spreadFrom_62 : decode cX4_spreadFrom 62 = .ok (.iload_n 1, 1) := dcO tk_X4_spreadFrom_0 32 rfl
theorem dX4_spreadFrom_63 : decode cX4_spreadFrom 63 = .ok (.iaload, 1) := dcO tk_X4_spreadFrom_0 33 rfl
theorem dX4_spreadFrom_64 : decode cX4_spreadFrom 64 = .ok (.iconst 1, 1) := dcO tk_X4_spreadFrom_0 34 rfl
theorem dX4_spreadFrom_65 : decode cX4_spreadFrom 65 = .ok (.iadd, 1) := dcO tk_X4_spreadFrom_0 35 rfl
theorem dX4_spreadFrom_66 : decode cX4_spreadFrom 66 = .ok (.iastore, 1) := dcO tk_X4_spreadFrom_0 36 rfl
theorem dX4_spreadFrom_67 : decode cX4_spreadFrom 67 = .ok (.aload_n 0, 1) := dcO tk_X4_spreadFrom_0 37 rfl
theorem dX4_spreadFrom_68 : decode cX4_spreadFrom 68 = .ok (.getfield 19, 3) := dcO tk_X4_spreadFrom_0 38 rfl
theorem dX4_spreadFrom_71 : decode cX4_spreadFrom 71 = .ok (.iload_n 3, 1) := dcO tk_X4_spreadFrom_0 39 rfl
abbrev tb_X4_spreadFrom_1 : List (Nat × Instr × Nat) := [(72, .iload 5, 2), (74, .iastore, 1), (75, .iinc 3 1, 3), (78, .iinc 4 1, 3), (81, .goto (-76), 3), (84, .iload_n 3, 1), (85, .ireturn, 1)]
theorem tk_X4_spreadFrom_1 : dcA cX4_spreadFrom tb_X4_spreadFrom_1 = true := by decide +kernel
theorem dX4_spreadFrom_72 : decode cX4_spreadFrom 72 = .ok (.iload 5, 2) := dcO tk_X4_spreadFrom_1 0 rfl
theorem dX4_spreadFrom_74 : decode cX4_spreadFrom 74 = .ok (.iastore, 1) := dcO tk_X4_spreadFrom_1 1 rfl
theorem dX4_spreadFrom_75 : decode cX4_spreadFrom 75 = .ok (.iinc 3 1, 3) := dcO tk_X4_spreadFrom_1 2 rfl
theorem dX4_spreadFrom_78 : decode cX4_spreadFrom 78 = .ok (.iinc 4 1, 3) := dcO tk_X4_spreadFrom_1 3 rfl
theorem dX4_spreadFrom_81 : decode cX4_spreadFrom 81 = .ok (.goto (-76), 3) := dcO tk_X4_spreadFrom_1 4 rfl
theorem dX4_spreadFrom_84 : decode cX4_spreadFrom 84 = .ok (.iload_n 3, 1) := dcO tk_X4_spreadFrom_1 5 rfl
theorem dX4_spreadFrom_85 : decode cX4_spreadFrom 85 = .ok (.ireturn, 1) := dcO tk_X4_spreadFrom_1 6 rfl
abbrev tb_X4_survey_0 : List (Nat × Instr × Nat) := [(0, .aload_n 0, 1), (1, .aload_n 1, 1), (2, .invokevirtual 50, 3), (5, .iconst 0, 1), (6, .istore_n 2, 1), (7, .iload_n 2, 1), (8, .aload_n 1, 1), (9, .getfield 54, 3), (12, .if_icmp .ge 66, 3), (15, .aload_n 0, 1), (16, .aload_n 1, 1), (17, .getfield 58, 3), (20, .iload_n 2, 1), (21, .iaload, 1), (22, .invokevirtual 61, 3), (25, .iconst 0, 1), (26, .istore_n 3, 1), (27, .iload_n 3, 1), (28, .bipush 81, 2), (30, .if_icmp .ge 42, 3), (33, .aload_n 0, 1), (34, .getfield 22, 3), (37, .iload_n 2, 1), (38, .bipush 81, 2), (40, .imul, 1), (41, .iload_n 3, 1), (42, .iadd, 1), (43, .aload_n 0, 1), (44, .getfield 9, 3), (47, .iload_n 3, 1), (48, .iaload, 1), (49, .iastore, 1), (50, .aload_n 0, 1), (51, .getfield 25, 3), (54, .iload_n 2, 1), (55, .bipush 81, 2), (57, .imul, 1), (58, .iload_n 3, 1), (59, .iadd, 1), (60, .aload_n 0, 1)]
theorem tk_X4_survey_0 : dcA cX4_survey tb_X4_survey_0 = true := by decide +kernel
theorem dX4_survey_0 : decode cX4_survey 0 = .ok (.aload_n 0, 1) := dcO tk_X4_survey_0 0 rfl
theorem dX4_survey_1 : decode cX4_survey 1 = .ok (.aload_n 1, 1) := dcO tk_X4_survey_0 1 rfl
theorem dX4_survey_2 : decode cX4_survey 2 = .ok (.invokevirtual 50, 3) := dcO tk_X4_survey_0 2 rfl
theorem dX4_survey_5 : decode cX4_survey 5 = .ok (.iconst 0, 1) := dcO tk_X4_survey_0 3 rfl
theorem dX4_survey_6 : decode cX4_survey 6 = .ok (.istore_n 2, 1) := dcO tk_X4_survey_0 4 rfl
theorem dX4_survey_7 : decode cX4_survey 7 = .ok (.iload_n 2, 1) := dcO tk_X4_survey_0 5 rfl
theorem dX4_survey_8 : decode cX4_survey 8 = .ok (.aload_n 1, 1) := dcO tk_X4_survey_0 6 rfl
theorem dX4_survey_9 : decode cX4_survey 9 = .ok (.getfield 54, 3) := dcO tk_X4_survey_0 7 rfl
theorem dX4_survey_12 : decode cX4_survey 12 = .ok (.if_icmp .ge 66, 3) := dcO tk_X4_survey_0 8 rfl
theorem dX4_survey_15 : decode cX4_survey 15 = .ok (.aload_n 0, 1) := dcO tk_X4_survey_0 9 rfl
theorem dX4_survey_16 : decode cX4_survey 16 = .ok (.aload_n 1, 1) := dcO tk_X4_survey_0 10 rfl
theorem dX4_survey_17 : decode cX4_survey 17 = .ok (.getfield 58, 3) := dcO tk_X4_survey_0 11 rfl
theorem dX4_survey_20 : decode cX4_survey 20 = .ok (.iload_n 2, 1) := dcO tk_X4_survey_0 12 rfl
theorem dX4_survey_21 : decode cX4_survey 21 = .ok (.iaload, 1) := dcO tk_X4_survey_0 13 rfl
theorem dX4_survey_22 : decode cX4_survey 22 = .ok (.invokevirtual 61, 3) := dcO tk_X4_survey_0 14 rfl
theorem dX4_survey_25 : decode cX4_survey 25 = .ok (.iconst 0, 1) := dcO tk_X4_survey_0 15 rfl
theorem dX4_survey_26 : decode cX4_survey 26 = .ok (.istore_n 3, 1) := dcO tk_X4_survey_0 16 rfl
theorem dX4_survey_27 : decode cX4_survey 27 = .ok (.iload_n 3, 1) := dcO tk_X4_survey_0 17 rfl
theorem dX4_survey_28 : decode cX4_survey 28 = .ok (.bipush 81, 2) := dcO tk_X4_survey_0 18 rfl
theorem dX4_survey_30 : decode cX4_survey 30 = .ok (.if_icmp .ge 42, 3) := dcO tk_X4_survey_0 19 rfl
theorem dX4_survey_33 : decode cX4_survey 33 = .ok (.aload_n 0, 1) := dcO tk_X4_survey_0 20 rfl
theorem dX4_survey_34 : decode cX4_survey 34 = .ok (.getfield 22, 3) := dcO tk_X4_survey_0 21 rfl
theorem dX4_survey_37 : decode cX4_survey 37 = .ok (.iload_n 2, 1) := dcO tk_X4_survey_0 22 rfl
theorem dX4_survey_38 : decode cX4_survey 38 = .ok (.bipush 81, 2) := dcO tk_X4_survey_0 23 rfl
theorem dX4_survey_40 : decode cX4_survey 40 = .ok (.imul, 1) := dcO tk_X4_survey_0 24 rfl
theorem dX4_survey_41 : decode cX4_survey 41 = .ok (.iload_n 3, 1) := dcO tk_X4_survey_0 25 rfl
theorem dX4_survey_42 : decode cX4_survey 42 = .ok (.iadd, 1) := dcO tk_X4_survey_0 26 rfl
theorem dX4_survey_43 : decode cX4_survey 43 = .ok (.aload_n 0, 1) := dcO tk_X4_survey_0 27 rfl
theorem dX4_survey_44 : decode cX4_survey 44 = .ok (.getfield 9, 3) := dcO tk_X4_survey_0 28 rfl
theorem dX4_survey_47 : decode cX4_survey 47 = .ok (.iload_n 3, 1) := dcO tk_X4_survey_0 29 rfl
theorem dX4_survey_48 : decode cX4_survey 48 = .ok (.iaload, 1) := dcO tk_X4_survey_0 30 rfl
theorem dX4_survey_49 : decode cX4_survey 49 = .ok (.iastore, 1) := dcO tk_X4_survey_0 31 rfl
theorem dX4_survey_50 : decode cX4_survey 50 = .ok (.aload_n 0, 1) := dcO tk_X4_survey_0 32 rfl
theorem dX4_survey_51 : decode cX4_survey 51 = .ok (.getfield 25, 3) := dcO tk_X4_survey_0 33 rfl
theorem dX4_survey_54 : decode cX4_survey 54 = .ok (.iload_n 2, 1) := dcO tk_X4_survey_0 34 rfl
theorem dX4_survey_55 : decode cX4_survey 55 = .ok (.bipush 81, 2) := dcO tk_X4_survey_0 35 rfl
theorem dX4_survey_57 : decode cX4_survey 57 = .ok (.imul, 1) := dcO tk_X4_survey_0 36 rfl
theorem dX4_survey_58 : decode cX4_survey 58 = .ok (.iload_n 3, 1) := dcO tk_X4_survey_0 37 rfl
theorem dX4_survey_59 : decode cX4_survey 59 = .ok (.iadd, 1) := dcO tk_X4_survey_0 38 rfl
theorem dX4_survey_60 : decode cX4_survey 60 = .ok (.aload_n 0, 1) := dcO tk_X4_survey_0 39 rfl
abbrev tb_X4_survey_1 : List (Nat × Instr × Nat) := [(61, .iload_n 3, 1), (62, .invokevirtual 65, 3), (65, .iastore, 1), (66, .iinc 3 1, 3), (69, .goto (-42), 3), (72, .iinc 2 1, 3), (75, .goto (-68), 3), (78, .return_, 1)]
theorem tk_X4_survey_1 : dcA cX4_survey tb_X4_survey_1 = true := by decide +kernel
theorem dX4_survey_61 : decode cX4_survey 61 = .ok (.iload_n 3, 1) := dcO tk_X4_survey_1 0 rfl
theorem dX4_survey_62 : decode cX4_survey 62 = .ok (.invokevirtual 65, 3) := dcO tk_X4_survey_1 1 rfl
theorem dX4_survey_65 : decode cX4_survey 65 = .ok (.iastore, 1) := dcO tk_X4_survey_1 2 rfl
theorem dX4_survey_66 : decode cX4_survey 66 = .ok (.iinc 3 1, 3) := dcO tk_X4_survey_1 3 rfl
theorem dX4_survey_69 : decode cX4_survey 69 = .ok (.goto (-42), 3) := dcO tk_X4_survey_1 4 rfl
theorem dX4_survey_72 : decode cX4_survey 72 = .ok (.iinc 2 1, 3) := dcO tk_X4_survey_1 5 rfl
theorem dX4_survey_75 : decode cX4_survey 75 = .ok (.goto (-68), 3) := dcO tk_X4_survey_1 6 rfl
theorem dX4_survey_78 : decode cX4_survey 78 = .ok (.return_, 1) := dcO tk_X4_survey_1 7 rfl
abbrev tb_X4_nearerThan_0 : List (Nat × Instr × Nat) := [(0, .aload_n 0, 1), (1, .getfield 15, 3), (4, .iload_n 1, 1), (5, .baload, 1), (6, .ifCond .ne 5, 3), (9, .iload_n 1, 1), (10, .ireturn, 1), (11, .iconst 0, 1), (12, .istore_n 2, 1), (13, .iload_n 2, 1), (14, .iconst 4, 1), (15, .if_icmp .ge 36, 3), (18, .iload_n 1, 1), (19, .iload_n 2, 1), (20, .invokestatic 47, 3), (23, .istore_n 3, 1), (24, .iload_n 3, 1), (25, .ifCond .lt 20, 3), (28, .aload_n 0, 1), (29, .getfield 9, 3), (32, .iload_n 3, 1), (33, .iaload, 1), (34, .aload_n 0, 1), (35, .getfield 9, 3), (38, .iload_n 1, 1), (39, .iaload, 1), (40, .if_icmp .ge 5, 3), (43, .iload_n 3, 1), (44, .ireturn, 1), (45, .iinc 2 1, 3), (48, .goto (-35), 3), (51, .iload_n 1, 1), (52, .ireturn, 1)]
theorem tk_X4_nearerThan_0 : dcA cX4_nearerThan tb_X4_nearerThan_0 = true := by decide +kernel
theorem dX4_nearerThan_0 : decode cX4_nearerThan 0 = .ok (.aload_n 0, 1) := dcO tk_X4_nearerThan_0 0 rfl
theorem dX4_nearerThan_1 : decode cX4_nearerThan 1 = .ok (.getfield 15, 3) := dcO tk_X4_nearerThan_0 1 rfl
theorem dX4_nearerThan_4 : decode cX4_nearerThan 4 = .ok (.iload_n 1, 1) := dcO tk_X4_nearerThan_0 2 rfl
theorem dX4_nearerThan_5 : decode cX4_nearerThan 5 = .ok (.baload, 1) := dcO tk_X4_nearerThan_0 3 rfl
theorem dX4_nearerThan_6 : decode cX4_nearerThan 6 = .ok (.ifCond .ne 5, 3) := dcO tk_X4_nearerThan_0 4 rfl
theorem dX4_nearerThan_9 : decode cX4_nearerThan 9 = .ok (.iload_n 1, 1) := dcO tk_X4_nearerThan_0 5 rfl
theorem dX4_nearerThan_10 : decode cX4_nearerThan 10 = .ok (.ireturn, 1) := dcO tk_X4_nearerThan_0 6 rfl
theorem dX4_nearerThan_11 : decode cX4_nearerThan 11 = .ok (.iconst 0, 1) := dcO tk_X4_nearerThan_0 7 rfl
theorem dX4_nearerThan_12 : decode cX4_nearerThan 12 = .ok (.istore_n 2, 1) := dcO tk_X4_nearerThan_0 8 rfl
theorem dX4_nearerThan_13 : decode cX4_nearerThan 13 = .ok (.iload_n 2, 1) := dcO tk_X4_nearerThan_0 9 rfl
theorem dX4_nearerThan_14 : decode cX4_nearerThan 14 = .ok (.iconst 4, 1) := dcO tk_X4_nearerThan_0 10 rfl
theorem dX4_nearerThan_15 : decode cX4_nearerThan 15 = .ok (.if_icmp .ge 36, 3) := dcO tk_X4_nearerThan_0 11 rfl
theorem dX4_nearerThan_18 : decode cX4_nearerThan 18 = .ok (.iload_n 1, 1) := dcO tk_X4_nearerThan_0 12 rfl
theorem dX4_nearerThan_19 : decode cX4_nearerThan 19 = .ok (.iload_n 2, 1) := dcO tk_X4_nearerThan_0 13 rfl
theorem dX4_nearerThan_20 : decode cX4_nearerThan 20 = .ok (.invokestatic 47, 3) := dcO tk_X4_nearerThan_0 14 rfl
theorem dX4_nearerThan_23 : decode cX4_nearerThan 23 = .ok (.istore_n 3, 1) := dcO tk_X4_nearerThan_0 15 rfl
theorem dX4_nearerThan_24 : decode cX4_nearerThan 24 = .ok (.iload_n 3, 1) := dcO tk_X4_nearerThan_0 16 rfl
theorem dX4_nearerThan_25 : decode cX4_nearerThan 25 = .ok (.ifCond .lt 20, 3) := dcO tk_X4_nearerThan_0 17 rfl
theorem dX4_nearerThan_28 : decode cX4_nearerThan 28 = .ok (.aload_n 0, 1) := dcO tk_X4_nearerThan_0 18 rfl
theorem dX4_nearerThan_29 : decode cX4_nearerThan 29 = .ok (.getfield 9, 3) := dcO tk_X4_nearerThan_0 19 rfl
theorem dX4_nearerThan_32 : decode cX4_nearerThan 32 = .ok (.iload_n 3, 1) := dcO tk_X4_nearerThan_0 20 rfl
theorem dX4_nearerThan_33 : decode cX4_nearerThan 33 = .ok (.iaload, 1) := dcO tk_X4_nearerThan_0 21 rfl
theorem dX4_nearerThan_34 : decode cX4_nearerThan 34 = .ok (.aload_n 0, 1) := dcO tk_X4_nearerThan_0 22 rfl
theorem dX4_nearerThan_35 : decode cX4_nearerThan 35 = .ok (.getfield 9, 3) := dcO tk_X4_nearerThan_0 23 rfl
theorem dX4_nearerThan_38 : decode cX4_nearerThan 38 = .ok (.iload_n 1, 1) := dcO tk_X4_nearerThan_0 24 rfl
theorem dX4_nearerThan_39 : decode cX4_nearerThan 39 = .ok (.iaload, 1) := dcO tk_X4_nearerThan_0 25 rfl
theorem dX4_nearerThan_40 : decode cX4_nearerThan 40 = .ok (.if_icmp .ge 5, 3) := dcO tk_X4_nearerThan_0 26 rfl
theorem dX4_nearerThan_43 : decode cX4_nearerThan 43 = .ok (.iload_n 3, 1) := dcO tk_X4_nearerThan_0 27 rfl
theorem dX4_nearerThan_44 : decode cX4_nearerThan 44 = .ok (.ireturn, 1) := dcO tk_X4_nearerThan_0 28 rfl
theorem dX4_nearerThan_45 : decode cX4_nearerThan 45 = .ok (.iinc 2 1, 3) := dcO tk_X4_nearerThan_0 29 rfl
theorem dX4_nearerThan_48 : decode cX4_nearerThan 48 = .ok (.goto (-35), 3) := dcO tk_X4_nearerThan_0 30 rfl
theorem dX4_nearerThan_51 : decode cX4_nearerThan 51 = .ok (.iload_n 1, 1) := dcO tk_X4_nearerThan_0 31 rfl
theorem dX4_nearerThan_52 : decode cX4_nearerThan 52 = .ok (.ireturn, 1) := dcO tk_X4_nearerThan_0 32 rfl
abbrev tb_X4_gateStepsOf_0 : List (Nat × Instr × Nat) := [(0, .aload_n 0, 1), (1, .getfield 22, 3), (4, .iload_n 1, 1), (5, .bipush 81, 2), (7, .imul, 1), (8, .iload_n 2, 1), (9, .iadd, 1), (10, .iaload, 1), (11, .ireturn, 1)]
theorem tk_X4_gateStepsOf_0 : dcA cX4_gateStepsOf tb_X4_gateStepsOf_0 = true := by decide +kernel
theorem dX4_gateStepsOf_0 : decode cX4_gateStepsOf 0 = .ok (.aload_n 0, 1) := dcO tk_X4_gateStepsOf_0 0 rfl
theorem dX4_gateStepsOf_1 : decode cX4_gateStepsOf 1 = .ok (.getfield 22, 3) := dcO tk_X4_gateStepsOf_0 1 rfl
theorem dX4_gateStepsOf_4 : decode cX4_gateStepsOf 4 = .ok (.iload_n 1, 1) := dcO tk_X4_gateStepsOf_0 2 rfl
theorem dX4_gateStepsOf_5 : decode cX4_gateStepsOf 5 = .ok (.bipush 81, 2) := dcO tk_X4_gateStepsOf_0 3 rfl
theorem dX4_gateStepsOf_7 : decode cX4_gateStepsOf 7 = .ok (.imul, 1) := dcO tk_X4_gateStepsOf_0 4 rfl
theorem dX4_gateStepsOf_8 : decode cX4_gateStepsOf 8 = .ok (.iload_n 2, 1) := dcO tk_X4_gateStepsOf_0 5 rfl
theorem dX4_gateStepsOf_9 : decode cX4_gateStepsOf 9 = .ok (.iadd, 1) := dcO tk_X4_gateStepsOf_0 6 rfl
theorem dX4_gateStepsOf_10 : decode cX4_gateStepsOf 10 = .ok (.iaload, 1) := dcO tk_X4_gateStepsOf_0 7 rfl
theorem dX4_gateStepsOf_11 : decode cX4_gateStepsOf 11 = .ok (.ireturn, 1) := dcO tk_X4_gateStepsOf_0 8 rfl
abbrev tb_X4_nextOf_0 : List (Nat × Instr × Nat) := [(0, .aload_n 0, 1), (1, .getfield 25, 3), (4, .iload_n 1, 1), (5, .bipush 81, 2), (7, .imul, 1), (8, .iload_n 2, 1), (9, .iadd, 1), (10, .iaload, 1), (11, .ireturn, 1)]
theorem tk_X4_nextOf_0 : dcA cX4_nextOf tb_X4_nextOf_0 = true := by decide +kernel
theorem dX4_nextOf_0 : decode cX4_nextOf 0 = .ok (.aload_n 0, 1) := dcO tk_X4_nextOf_0 0 rfl
theorem dX4_nextOf_1 : decode cX4_nextOf 1 = .ok (.getfield 25, 3) := dcO tk_X4_nextOf_0 1 rfl
theorem dX4_nextOf_4 : decode cX4_nextOf 4 = .ok (.iload_n 1, 1) := dcO tk_X4_nextOf_0 2 rfl
theorem dX4_nextOf_5 : decode cX4_nextOf 5 = .ok (.bipush 81, 2) := dcO tk_X4_nextOf_0 3 rfl
theorem dX4_nextOf_7 : decode cX4_nextOf 7 = .ok (.imul, 1) := dcO tk_X4_nextOf_0 4 rfl
theorem dX4_nextOf_8 : decode cX4_nextOf 8 = .ok (.iload_n 2, 1) := dcO tk_X4_nextOf_0 5 rfl
theorem dX4_nextOf_9 : decode cX4_nextOf 9 = .ok (.iadd, 1) := dcO tk_X4_nextOf_0 6 rfl
theorem dX4_nextOf_10 : decode cX4_nextOf 10 = .ok (.iaload, 1) := dcO tk_X4_nextOf_0 7 rfl
theorem dX4_nextOf_11 : decode cX4_nextOf 11 = .ok (.ireturn, 1) := dcO tk_X4_nextOf_0 8 rfl
abbrev tb_X5_init_0 : List (Nat × Instr × Nat) := [(0, .aload_n 0, 1), (1, .invokespecial 3, 3), (4, .aload_n 0, 1), (5, .new 9, 3), (8, .dup, 1), (9, .invokespecial 11, 3), (12, .putfield 12, 3), (15, .aload_n 0, 1), (16, .new 9, 3), (19, .dup, 1), (20, .invokespecial 11, 3), (23, .putfield 16, 3), (26, .aload_n 0, 1), (27, .new 19, 3), (30, .dup, 1), (31, .invokespecial 21, 3), (34, .putfield 22, 3), (37, .aload_n 0, 1), (38, .new 26, 3), (41, .dup, 1), (42, .invokespecial 28, 3), (45, .putfield 29, 3), (48, .aload_n 0, 1), (49, .new 33, 3), (52, .dup, 1), (53, .invokespecial 35, 3), (56, .putfield 36, 3), (59, .aload_n 0, 1), (60, .new 40, 3), (63, .dup, 1), (64, .invokespecial 42, 3), (67, .putfield 43, 3), (70, .aload_n 0, 1), (71, .bipush 7, 2), (73, .newarray .int, 2), (75, .putfield 47, 3), (78, .aload_n 0, 1), (79, .iconst 0, 1), (80, .putfield 51, 3), (83, .return_, 1)]
theorem tk_X5_init_0 : dcA cX5_init tb_X5_init_0 = true := by decide +kernel
theorem dX5_init_0 : decode cX5_init 0 = .ok (.aload_n 0, 1) := dcO tk_X5_init_0 0 rfl
theorem dX5_init_1 : decode cX5_init 1 = .ok (.invokespecial 3, 3) := dcO tk_X5_init_0 1 rfl
theorem dX5_init_4 : decode cX5_init 4 = .ok (.aload_n 0, 1) := dcO tk_X5_init_0 2 rfl
theorem dX5_init_5 : decode cX5_init 5 = .ok (.new 9, 3) := dcO tk_X5_init_0 3 rfl
theorem dX5_init_8 : decode cX5_init 8 = .ok (.dup, 1) := dcO tk_X5_init_0 4 rfl
theorem dX5_init_9 : decode cX5_init 9 = .ok (.invokespecial 11, 3) := dcO tk_X5_init_0 5 rfl
theorem dX5_init_12 : decode cX5_init 12 = .ok (.putfield 12, 3) := dcO tk_X5_init_0 6 rfl
theorem dX5_init_15 : decode cX5_init 15 = .ok (.aload_n 0, 1) := dcO tk_X5_init_0 7 rfl
theorem dX5_init_16 : decode cX5_init 16 = .ok (.new 9, 3) := dcO tk_X5_init_0 8 rfl
theorem dX5_init_19 : decode cX5_init 19 = .ok (.dup, 1) := dcO tk_X5_init_0 9 rfl
theorem dX5_init_20 : decode cX5_init 20 = .ok (.invokespecial 11, 3) := dcO tk_X5_init_0 10 rfl
theorem dX5_init_23 : decode cX5_init 23 = .ok (.putfield 16, 3) := dcO tk_X5_init_0 11 rfl
theorem dX5_init_26 : decode cX5_init 26 = .ok (.aload_n 0, 1) := dcO tk_X5_init_0 12 rfl
theorem dX5_init_27 : decode cX5_init 27 = .ok (.new 19, 3) := dcO tk_X5_init_0 13 rfl
theorem dX5_init_30 : decode cX5_init 30 = .ok (.dup, 1) := dcO tk_X5_init_0 14 rfl
theorem dX5_init_31 : decode cX5_init 31 = .ok (.invokespecial 21, 3) := dcO tk_X5_init_0 15 rfl
theorem dX5_init_34 : decode cX5_init 34 = .ok (.putfield 22, 3) := dcO tk_X5_init_0 16 rfl
theorem dX5_init_37 : decode cX5_init 37 = .ok (.aload_n 0, 1) := dcO tk_X5_init_0 17 rfl
theorem dX5_init_38 : decode cX5_init 38 = .ok (.new 26, 3) := dcO tk_X5_init_0 18 rfl
theorem dX5_init_41 : decode cX5_init 41 = .ok (.dup, 1) := dcO tk_X5_init_0 19 rfl
theorem dX5_init_42 : decode cX5_init 42 = .ok (.invokespecial 28, 3) := dcO tk_X5_init_0 20 rfl
theorem dX5_init_45 : decode cX5_init 45 = .ok (.putfield 29, 3) := dcO tk_X5_init_0 21 rfl
theorem dX5_init_48 : decode cX5_init 48 = .ok (.aload_n 0, 1) := dcO tk_X5_init_0 22 rfl
theorem dX5_init_49 : decode cX5_init 49 = .ok (.new 33, 3) := dcO tk_X5_init_0 23 rfl
theorem dX5_init_52 : decode cX5_init 52 = .ok (.dup, 1) := dcO tk_X5_init_0 24 rfl
theorem dX5_init_53 : decode cX5_init 53 = .ok (.invokespecial 35, 3) := dcO tk_X5_init_0 25 rfl
theorem dX5_init_56 : decode cX5_init 56 = .ok (.putfield 36, 3) := dcO tk_X5_init_0 26 rfl
theorem dX5_init_59 : decode cX5_init 59 = .ok (.aload_n 0, 1) := dcO tk_X5_init_0 27 rfl
theorem dX5_init_60 : decode cX5_init 60 = .ok (.new 40, 3) := dcO tk_X5_init_0 28 rfl
theorem dX5_init_63 : decode cX5_init 63 = .ok (.dup, 1) := dcO tk_X5_init_0 29 rfl
theorem dX5_init_64 : decode cX5_init 64 = .ok (.invokespecial 42, 3) := dcO tk_X5_init_0 30 rfl
theorem dX5_init_67 : decode cX5_init 67 = .ok (.putfield 43, 3) := dcO tk_X5_init_0 31 rfl
theorem dX5_init_70 : decode cX5_init 70 = .ok (.aload_n 0, 1) := dcO tk_X5_init_0 32 rfl
theorem dX5_init_71 : decode cX5_init 71 = .ok (.bipush 7, 2) := dcO tk_X5_init_0 33 rfl
theorem dX5_init_73 : decode cX5_init 73 = .ok (.newarray .int, 2) := dcO tk_X5_init_0 34 rfl
theorem dX5_init_75 : decode cX5_init 75 = .ok (.putfield 47, 3) := dcO tk_X5_init_0 35 rfl
theorem dX5_init_78 : decode cX5_init 78 = .ok (.aload_n 0, 1) := dcO tk_X5_init_0 36 rfl
theorem dX5_init_79 : decode cX5_init 79 = .ok (.iconst 0, 1) := dcO tk_X5_init_0 37 rfl
theorem dX5_init_80 : decode cX5_init 80 = .ok (.putfield 51, 3) := dcO tk_X5_init_0 38 rfl
theorem dX5_init_83 : decode cX5_init 83 = .ok (.return_, 1) := dcO tk_X5_init_0 39 rfl
abbrev tb_X5_hedge_0 : List (Nat × Instr × Nat) := [(0, .iload_n 1, 1), (1, .invokestatic 55, 3), (4, .ifCond .eq 11, 3), (7, .iload_n 2, 1), (8, .iconst 1, 1), (9, .invokestatic 59, 3), (12, .ifCond .ne 10, 3), (15, .aload_n 0, 1), (16, .ldc 63, 2), (18, .invokevirtual 64, 3), (21, .ireturn, 1), (22, .aload_n 0, 1), (23, .getfield 12, 3), (26, .getfield 68, 3), (29, .iload_n 1, 1), (30, .iaload, 1), (31, .istore_n 3, 1), (32, .aload_n 0, 1), (33, .getfield 12, 3), (36, .getfield 68, 3), (39, .iload_n 1, 1), (40, .iload_n 2, 1), (41, .iastore, 1), (42, .iload_n 3, 1), (43, .iload_n 2, 1), (44, .if_icmp .ne 7, 3), (47, .iconst 0, 1), (48, .goto 4, 3), (51, .iconst 1, 1), (52, .ireturn, 1)]
theorem tk_X5_hedge_0 : dcA cX5_hedge tb_X5_hedge_0 = true := by decide +kernel
theorem dX5_hedge_0 : decode cX5_hedge 0 = .ok (.iload_n 1, 1) := dcO tk_X5_hedge_0 0 rfl
theorem dX5_hedge_1 : decode cX5_hedge 1 = .ok (.invokestatic 55, 3) := dcO tk_X5_hedge_0 1 rfl
theorem dX5_hedge_4 : decode cX5_hedge 4 = .ok (.ifCond .eq 11, 3) := dcO tk_X5_hedge_0 2 rfl
theorem dX5_hedge_7 : decode cX5_hedge 7 = .ok (.iload_n 2, 1) := dcO tk_X5_hedge_0 3 rfl
theorem dX5_hedge_8 : decode cX5_hedge 8 = .ok (.iconst 1, 1) := dcO tk_X5_hedge_0 4 rfl
theorem dX5_hedge_9 : decode cX5_hedge 9 = .ok (.invokestatic 59, 3) := dcO tk_X5_hedge_0 5 rfl
theorem dX5_hedge_12 : decode cX5_hedge 12 = .ok (.ifCond .ne 10, 3) := dcO tk_X5_hedge_0 6 rfl
theorem dX5_hedge_15 : decode cX5_hedge 15 = .ok (.aload_n 0, 1) := dcO tk_X5_hedge_0 7 rfl
theorem dX5_hedge_16 : decode cX5_hedge 16 = .ok (.ldc 63, 2) := dcO tk_X5_hedge_0 8 rfl
theorem dX5_hedge_18 : decode cX5_hedge 18 = .ok (.invokevirtual 64, 3) := dcO tk_X5_hedge_0 9 rfl
theorem dX5_hedge_21 : decode cX5_hedge 21 = .ok (.ireturn, 1) := dcO tk_X5_hedge_0 10 rfl
theorem dX5_hedge_22 : decode cX5_hedge 22 = .ok (.aload_n 0, 1) := dcO tk_X5_hedge_0 11 rfl
theorem dX5_hedge_23 : decode cX5_hedge 23 = .ok (.getfield 12, 3) := dcO tk_X5_hedge_0 12 rfl
theorem dX5_hedge_26 : decode cX5_hedge 26 = .ok (.getfield 68, 3) := dcO tk_X5_hedge_0 13 rfl
theorem dX5_hedge_29 : decode cX5_hedge 29 = .ok (.iload_n 1, 1) := dcO tk_X5_hedge_0 14 rfl
theorem dX5_hedge_30 : decode cX5_hedge 30 = .ok (.iaload, 1) := dcO tk_X5_hedge_0 15 rfl
theorem dX5_hedge_31 : decode cX5_hedge 31 = .ok (.istore_n 3, 1) := dcO tk_X5_hedge_0 16 rfl
theorem dX5_hedge_32 : decode cX5_hedge 32 = .ok (.aload_n 0, 1) := dcO tk_X5_hedge_0 17 rfl
theorem dX5_hedge_33 : decode cX5_hedge 33 = .ok (.getfield 12, 3) := dcO tk_X5_hedge_0 18 rfl
theorem dX5_hedge_36 : decode cX5_hedge 36 = .ok (.getfield 68, 3) := dcO tk_X5_hedge_0 19 rfl
theorem dX5_hedge_39 : decode cX5_hedge 39 = .ok (.iload_n 1, 1) := dcO tk_X5_hedge_0 20 rfl
theorem dX5_hedge_40 : decode cX5_hedge 40 = .ok (.iload_n 2, 1) := dcO tk_X5_hedge_0 21 rfl
theorem dX5_hedge_41 : decode cX5_hedge 41 = .ok (.iastore, 1) := dcO tk_X5_hedge_0 22 rfl
theorem dX5_hedge_42 : decode cX5_hedge 42 = .ok (.iload_n 3, 1) := dcO tk_X5_hedge_0 23 rfl
theorem dX5_hedge_43 : decode cX5_hedge 43 = .ok (.iload_n 2, 1) := dcO tk_X5_hedge_0 24 rfl
theorem dX5_hedge_44 : decode cX5_hedge 44 = .ok (.if_icmp .ne 7, 3) := dcO tk_X5_hedge_0 25 rfl
theorem dX5_hedge_47 : decode cX5_hedge 47 = .ok (.iconst 0, 1) := dcO tk_X5_hedge_0 26 rfl
theorem dX5_hedge_48 : decode cX5_hedge 48 = .ok (.goto 4, 3) := dcO tk_X5_hedge_0 27 rfl
theorem dX5_hedge_51 : decode cX5_hedge 51 = .ok (.iconst 1, 1) := dcO tk_X5_hedge_0 28 rfl
theorem dX5_hedge_52 : decode cX5_hedge 52 = .ok (.ireturn, 1) := dcO tk_X5_hedge_0 29 rfl
abbrev tb_X5_greens_0 : List (Nat × Instr × Nat) := [(0, .iload_n 1, 1), (1, .invokestatic 55, 3), (4, .ifCond .eq 12, 3), (7, .iload_n 2, 1), (8, .bipush 9, 2), (10, .invokestatic 59, 3), (13, .ifCond .ne 10, 3), (16, .aload_n 0, 1), (17, .ldc 63, 2), (19, .invokevirtual 64, 3), (22, .ireturn, 1), (23, .aload_n 0, 1), (24, .getfield 12, 3), (27, .getfield 71, 3), (30, .iload_n 1, 1), (31, .iaload, 1), (32, .istore_n 3, 1), (33, .aload_n 0, 1), (34, .getfield 12, 3), (37, .getfield 71, 3), (40, .iload_n 1, 1), (41, .iload_n 2, 1), (42, .iastore, 1), (43, .iload_n 3, 1), (44, .ireturn, 1)]
theorem tk_X5_greens_0 : dcA cX5_greens tb_X5_greens_0 = true := by decide +kernel
theorem dX5_greens_0 : decode cX5_greens 0 = .ok (.iload_n 1, 1) := dcO tk_X5_greens_0 0 rfl
theorem dX5_greens_1 : decode cX5_greens 1 = .ok (.invokestatic 55, 3) := dcO tk_X5_greens_0 1 rfl
theorem dX5_greens_4 : decode cX5_greens 4 = .ok (.ifCond .eq 12, 3) := dcO tk_X5_greens_0 2 rfl
theorem dX5_greens_7 : decode cX5_greens 7 = .ok (.iload_n 2, 1) := dcO tk_X5_greens_0 3 rfl
theorem dX5_greens_8 : decode cX5_greens 8 = .ok (.bipush 9, 2) := dcO tk_X5_greens_0 4 rfl
theorem dX5_greens_10 : decode cX5_greens 10 = .ok (.invokestatic 59, 3) := dcO tk_X5_greens_0 5 rfl
theorem dX5_greens_13 : decode cX5_greens 13 = .ok (.ifCond .ne 10, 3) := dcO tk_X5_greens_0 6 rfl
theorem dX5_greens_16 : decode cX5_greens 16 = .ok (.aload_n 0, 1) := dcO tk_X5_greens_0 7 rfl
theorem dX5_greens_17 : decode cX5_greens 17 = .ok (.ldc 63, 2) := dcO tk_X5_greens_0 8 rfl
theorem dX5_greens_19 : decode cX5_greens 19 = .ok (.invokevirtual 64, 3) := dcO tk_X5_greens_0 9 rfl
theorem dX5_greens_22 : decode cX5_greens 22 = .ok (.ireturn, 1) := dcO tk_X5_greens_0 10 rfl
theorem dX5_greens_23 : decode cX5_greens 23 = .ok (.aload_n 0, 1) := dcO tk_X5_greens_0 11 rfl
theorem dX5_greens_24 : decode cX5_greens 24 = .ok (.getfield 12, 3) := dcO tk_X5_greens_0 12 rfl
theorem dX5_greens_27 : decode cX5_greens 27 = .ok (.getfield 71, 3) := dcO tk_X5_greens_0 13 rfl
theorem dX5_greens_30 : decode cX5_greens 30 = .ok (.iload_n 1, 1) := dcO tk_X5_greens_0 14 rfl
theorem dX5_greens_31 : decode cX5_greens 31 = .ok (.iaload, 1) := dcO tk_X5_greens_0 15 rfl
theorem dX5_greens_32 : decode cX5_greens 32 = .ok (.istore_n 3, 1) := dcO tk_X5_greens_0 16 rfl
theorem dX5_greens_33 : decode cX5_greens 33 = .ok (.aload_n 0, 1) := dcO tk_X5_greens_0 17 rfl
theorem dX5_greens_34 : decode cX5_greens 34 = .ok (.getfield 12, 3) := dcO tk_X5_greens_0 18 rfl
theorem dX5_greens_37 : decode cX5_greens 37 = .ok (.getfield 71, 3) := dcO tk_X5_greens_0 19 rfl
theorem dX5_greens_40 : decode cX5_greens 40 = .ok (.iload_n 1, 1) := dcO tk_X5_greens_0 20 rfl
theorem dX5_greens_41 : decode cX5_greens 41 = .ok (.iload_n 2, 1) := dcO tk_X5_greens_0 21 rfl
theorem dX5_greens_42 : decode cX5_greens 42 = .ok (.iastore, 1) := dcO tk_X5_greens_0 22 rfl
theorem dX5_greens_43 : decode cX5_greens 43 = .ok (.iload_n 3, 1) := dcO tk_X5_greens_0 23 rfl
theorem dX5_greens_44 : decode cX5_greens 44 = .ok (.ireturn, 1) := dcO tk_X5_greens_0 24 rfl
abbrev tb_X5_land_0 : List (Nat × Instr × Nat) := [(0, .iload_n 1, 1), (1, .invokestatic 55, 3), (4, .ifCond .ne 10, 3), (7, .aload_n 0, 1), (8, .ldc 63, 2), (10, .invokevirtual 64, 3), (13, .ireturn, 1), (14, .iload_n 2, 1), (15, .tableswitch 55 0 2 #[25, 35, 45], 25), (40, .aload_n 0, 1), (41, .getfield 12, 3), (44, .getfield 68, 3), (47, .iload_n 1, 1), (48, .iaload, 1), (49, .ireturn, 1), (50, .aload_n 0, 1), (51, .getfield 12, 3), (54, .getfield 71, 3), (57, .iload_n 1, 1), (58, .iaload, 1), (59, .ireturn, 1), (60, .aload_n 0, 1), (61, .getfield 12, 3), (64, .getfield 74, 3), (67, .iload_n 1, 1), (68, .iaload, 1), (69, .ireturn, 1), (70, .aload_n 0, 1), (71, .ldc 63, 2), (73, .invokevirtual 64, 3), (76, .ireturn, 1)]
theorem tk_X5_land_0 : dcA cX5_land tb_X5_land_0 = true := by decide +kernel
theorem dX5_land_0 : decode cX5_land 0 = .ok (.iload_n 1, 1) := dcO tk_X5_land_0 0 rfl
theorem dX5_land_1 : decode cX5_land 1 = .ok (.invokestatic 55, 3) := dcO tk_X5_land_0 1 rfl
theorem dX5_land_4 : decode cX5_land 4 = .ok (.ifCond .ne 10, 3) := dcO tk_X5_land_0 2 rfl
theorem dX5_land_7 : decode cX5_land 7 = .ok (.aload_n 0, 1) := dcO tk_X5_land_0 3 rfl
theorem dX5_land_8 : decode cX5_land 8 = .ok (.ldc 63, 2) := dcO tk_X5_land_0 4 rfl
theorem dX5_land_10 : decode cX5_land 10 = .ok (.invokevirtual 64, 3) := dcO tk_X5_land_0 5 rfl
theorem dX5_land_13 : decode cX5_land 13 = .ok (.ireturn, 1) := dcO tk_X5_land_0 6 rfl
theorem dX5_land_14 : decode cX5_land 14 = .ok (.iload_n 2, 1) := dcO tk_X5_land_0 7 rfl
theorem dX5_land_15 : decode cX5_land 15 = .ok (.tableswitch 55 0 2 #[25, 35, 45], 25) := dcO tk_X5_land_0 8 rfl
theorem dX5_land_40 : decode cX5_land 40 = .ok (.aload_n 0, 1) := dcO tk_X5_land_0 9 rfl
theorem dX5_land_41 : decode cX5_land 41 = .ok (.getfield 12, 3) := dcO tk_X5_land_0 10 rfl
theorem dX5_land_44 : decode cX5_land 44 = .ok (.getfield 68, 3) := dcO tk_X5_land_0 11 rfl
theorem dX5_land_47 : decode cX5_land 47 = .ok (.iload_n 1, 1) := dcO tk_X5_land_0 12 rfl
theorem dX5_land_48 : decode cX5_land 48 = .ok (.iaload, 1) := dcO tk_X5_land_0 13 rfl
theorem dX5_land_49 : decode cX5_land 49 = .ok (.ireturn, 1) := dcO tk_X5_land_0 14 rfl
theorem dX5_land_50 : decode cX5_land 50 = .ok (.aload_n 0, 1) := dcO tk_X5_land_0 15 rfl
theorem dX5_land_51 : decode cX5_land 51 = .ok (.getfield 12, 3) := dcO tk_X5_land_0 16 rfl
theorem dX5_land_54 : decode cX5_land 54 = .ok (.getfield 71, 3) := dcO tk_X5_land_0 17 rfl
theorem dX5_land_57 : decode cX5_land 57 = .ok (.iload_n 1, 1) := dcO tk_X5_land_0 18 rfl
theorem dX5_land_58 : decode cX5_land 58 = .ok (.iaload, 1) := dcO tk_X5_land_0 19 rfl
theorem dX5_land_59 : decode cX5_land 59 = .ok (.ireturn, 1) := dcO tk_X5_land_0 20 rfl
theorem dX5_land_60 : decode cX5_land 60 = .ok (.aload_n 0, 1) := dcO tk_X5_land_0 21 rfl
theorem dX5_land_61 : decode cX5_land 61 = .ok (.getfield 12, 3) := dcO tk_X5_land_0 22 rfl
theorem dX5_land_64 : decode cX5_land 64 = .ok (.getfield 74, 3) := dcO tk_X5_land_0 23 rfl
theorem dX5_land_67 : decode cX5_land 67 = .ok (.iload_n 1, 1) := dcO tk_X5_land_0 24 rfl
theorem dX5_land_68 : decode cX5_land 68 = .ok (.iaload, 1) := dcO tk_X5_land_0 25 rfl
theorem dX5_land_69 : decode cX5_land 69 = .ok (.ireturn, 1) := dcO tk_X5_land_0 26 rfl
theorem dX5_land_70 : decode cX5_land 70 = .ok (.aload_n 0, 1) := dcO tk_X5_land_0 27 rfl
theorem dX5_land_71 : decode cX5_land 71 = .ok (.ldc 63, 2) := dcO tk_X5_land_0 28 rfl
theorem dX5_land_73 : decode cX5_land 73 = .ok (.invokevirtual 64, 3) := dcO tk_X5_land_0 29 rfl
theorem dX5_land_76 : decode cX5_land 76 = .ok (.ireturn, 1) := dcO tk_X5_land_0 30 rfl
abbrev tb_X5_far_0 : List (Nat × Instr × Nat) := [(0, .iload_n 1, 1), (1, .invokestatic 55, 3), (4, .ifCond .eq 10, 3), (7, .iload_n 2, 1), (8, .invokestatic 55, 3), (11, .ifCond .ne 10, 3), (14, .aload_n 0, 1), (15, .ldc 63, 2), (17, .invokevirtual 64, 3), (20, .ireturn, 1), (21, .aload_n 0, 1), (22, .getfield 29, 3), (25, .aload_n 0, 1), (26, .getfield 12, 3), (29, .invokevirtual 77, 3), (32, .aload_n 0, 1), (33, .getfield 29, 3), (36, .iload_n 2, 1), (37, .invokevirtual 81, 3), (40, .aload_n 0, 1), (41, .getfield 29, 3), (44, .getfield 85, 3), (47, .iload_n 1, 1), (48, .iaload, 1), (49, .ireturn, 1)]
theorem tk_X5_far_0 : dcA cX5_far tb_X5_far_0 = true := by decide +kernel
theorem dX5_far_0 : decode cX5_far 0 = .ok (.iload_n 1, 1) := dcO tk_X5_far_0 0 rfl
theorem dX5_far_1 : decode cX5_far 1 = .ok (.invokestatic 55, 3) := dcO tk_X5_far_0 1 rfl
theorem dX5_far_4 : decode cX5_far 4 = .ok (.ifCond .eq 10, 3) := dcO tk_X5_far_0 2 rfl
theorem dX5_far_7 : decode cX5_far 7 = .ok (.iload_n 2, 1) := dcO tk_X5_far_0 3 rfl
theorem dX5_far_8 : decode cX5_far 8 = .ok (.invokestatic 55, 3) := dcO tk_X5_far_0 4 rfl
theorem dX5_far_11 : decode cX5_far 11 = .ok (.ifCond .ne 10, 3) := dcO tk_X5_far_0 5 rfl
theorem dX5_far_14 : decode cX5_far 14 = .ok (.aload_n 0, 1) := dcO tk_X5_far_0 6 rfl
theorem dX5_far_15 : decode cX5_far 15 = .ok (.ldc 63, 2) := dcO tk_X5_far_0 7 rfl
theorem dX5_far_17 : decode cX5_far 17 = .ok (.invokevirtual 64, 3) := dcO tk_X5_far_0 8 rfl
theorem dX5_far_20 : decode cX5_far 20 = .ok (.ireturn, 1) := dcO tk_X5_far_0 9 rfl
theorem dX5_far_21 : decode cX5_far 21 = .ok (.aload_n 0, 1) := dcO tk_X5_far_0 10 rfl
theorem dX5_far_22 : decode cX5_far 22 = .ok (.getfield 29, 3) := dcO tk_X5_far_0 11 rfl
theorem dX5_far_25 : decode cX5_far 25 = .ok (.aload_n 0, 1) := dcO tk_X5_far_0 12 rfl
theorem dX5_far_26 : decode cX5_far 26 = .ok (.getfield 12, 3) := dcO tk_X5_far_0 13 rfl
theorem dX5_far_29 : decode cX5_far 29 = .ok (.invokevirtual 77, 3) := dcO tk_X5_far_0 14 rfl
theorem dX5_far_32 : decode cX5_far 32 = .ok (.aload_n 0, 1) := dcO tk_X5_far_0 15 rfl
theorem dX5_far_33 : decode cX5_far 33 = .ok (.getfield 29, 3) := dcO tk_X5_far_0 16 rfl
theorem dX5_far_36 : decode cX5_far 36 = .ok (.iload_n 2, 1) := dcO tk_X5_far_0 17 rfl
theorem dX5_far_37 : decode cX5_far 37 = .ok (.invokevirtual 81, 3) := dcO tk_X5_far_0 18 rfl
theorem dX5_far_40 : decode cX5_far 40 = .ok (.aload_n 0, 1) := dcO tk_X5_far_0 19 rfl
theorem dX5_far_41 : decode cX5_far 41 = .ok (.getfield 29, 3) := dcO tk_X5_far_0 20 rfl
theorem dX5_far_44 : decode cX5_far 44 = .ok (.getfield 85, 3) := dcO tk_X5_far_0 21 rfl
theorem dX5_far_47 : decode cX5_far 47 = .ok (.iload_n 1, 1) := dcO tk_X5_far_0 22 rfl
theorem dX5_far_48 : decode cX5_far 48 = .ok (.iaload, 1) := dcO tk_X5_far_0 23 rfl
theorem dX5_far_49 : decode cX5_far 49 = .ok (.ireturn, 1) := dcO tk_X5_far_0 24 rfl
abbrev tb_X5_snail_0 : List (Nat × Instr × Nat) := [(0, .iload_n 1, 1), (1, .bipush 6, 2), (3, .invokestatic 59, 3), (6, .ifCond .eq 10, 3), (9, .iload_n 2, 1), (10, .invokestatic 55, 3), (13, .ifCond .ne 10, 3), (16, .aload_n 0, 1), (17, .ldc 63, 2), (19, .invokevirtual 64, 3), (22, .ireturn, 1), (23, .aload_n 0, 1), (24, .getfield 12, 3), (27, .iload_n 1, 1), (28, .iload_n 2, 1), (29, .invokevirtual 88, 3), (32, .istore_n 3, 1), (33, .iload_n 3, 1), (34, .ifCond .ge 12, 3), (37, .aload_n 0, 1), (38, .ldc 92, 2), (40, .invokevirtual 64, 3), (43, .goto 4, 3), (46, .iload_n 3, 1), (47, .ireturn, 1)]
theorem tk_X5_snail_0 : dcA cX5_snail tb_X5_snail_0 = true := by decide +kernel
theorem dX5_snail_0 : decode cX5_snail 0 = .ok (.iload_n 1, 1) := dcO tk_X5_snail_0 0 rfl
theorem dX5_snail_1 : decode cX5_snail 1 = .ok (.bipush 6, 2) := dcO tk_X5_snail_0 1 rfl
theorem dX5_snail_3 : decode cX5_snail 3 = .ok (.invokestatic 59, 3) := dcO tk_X5_snail_0 2 rfl
theorem dX5_snail_6 : decode cX5_snail 6 = .ok (.ifCond .eq 10, 3) := dcO tk_X5_snail_0 3 rfl
theorem dX5_snail_9 : decode cX5_snail 9 = .ok (.iload_n 2, 1) := dcO tk_X5_snail_0 4 rfl
theorem dX5_snail_10 : decode cX5_snail 10 = .ok (.invokestatic 55, 3) := dcO tk_X5_snail_0 5 rfl
theorem dX5_snail_13 : decode cX5_snail 13 = .ok (.ifCond .ne 10, 3) := dcO tk_X5_snail_0 6 rfl
theorem dX5_snail_16 : decode cX5_snail 16 = .ok (.aload_n 0, 1) := dcO tk_X5_snail_0 7 rfl
theorem dX5_snail_17 : decode cX5_snail 17 = .ok (.ldc 63, 2) := dcO tk_X5_snail_0 8 rfl
theorem dX5_snail_19 : decode cX5_snail 19 = .ok (.invokevirtual 64, 3) := dcO tk_X5_snail_0 9 rfl
theorem dX5_snail_22 : decode cX5_snail 22 = .ok (.ireturn, 1) := dcO tk_X5_snail_0 10 rfl
theorem dX5_snail_23 : decode cX5_snail 23 = .ok (.aload_n 0, 1) := dcO tk_X5_snail_0 11 rfl
theorem dX5_snail_24 : decode cX5_snail 24 = .ok (.getfield 12, 3) := dcO tk_X5_snail_0 12 rfl
theorem dX5_snail_27 : decode cX5_snail 27 = .ok (.iload_n 1, 1) := dcO tk_X5_snail_0 13 rfl
theorem dX5_snail_28 : decode cX5_snail 28 = .ok (.iload_n 2, 1) := dcO tk_X5_snail_0 14 rfl
theorem dX5_snail_29 : decode cX5_snail 29 = .ok (.invokevirtual 88, 3) := dcO tk_X5_snail_0 15 rfl
theorem dX5_snail_32 : decode cX5_snail 32 = .ok (.istore_n 3, 1) := dcO tk_X5_snail_0 16 rfl
theorem dX5_snail_33 : decode cX5_snail 33 = .ok (.iload_n 3, 1) := dcO tk_X5_snail_0 17 rfl
theorem dX5_snail_34 : decode cX5_snail 34 = .ok (.ifCond .ge 12, 3) := dcO tk_X5_snail_0 18 rfl
theorem dX5_snail_37 : decode cX5_snail 37 = .ok (.aload_n 0, 1) := dcO tk_X5_snail_0 19 rfl
theorem dX5_snail_38 : decode cX5_snail 38 = .ok (.ldc 92, 2) := dcO tk_X5_snail_0 20 rfl
theorem dX5_snail_40 : decode cX5_snail 40 = .ok (.invokevirtual 64, 3) := dcO tk_X5_snail_0 21 rfl
theorem dX5_snail_43 : decode cX5_snail 43 = .ok (.goto 4, 3) := dcO tk_X5_snail_0 22 rfl
theorem dX5_snail_46 : decode cX5_snail 46 = .ok (.iload_n 3, 1) := dcO tk_X5_snail_0 23 rfl
theorem dX5_snail_47 : decode cX5_snail 47 = .ok (.ireturn, 1) := dcO tk_X5_snail_0 24 rfl
abbrev tb_X5_of_0 : List (Nat × Instr × Nat) := [(0, .aload_n 0, 1), (1, .iload_n 1, 1), (2, .invokevirtual 93, 3), (5, .ifCond .eq 12, 3), (8, .iload_n 2, 1), (9, .bipush 6, 2), (11, .invokestatic 59, 3), (14, .ifCond .ne 10, 3), (17, .aload_n 0, 1), (18, .ldc 63, 2), (20, .invokevirtual 64, 3), (23, .ireturn, 1), (24, .iload_n 2, 1), (25, .iconst 5, 1), (26, .if_icmp .ne 12, 3), (29, .aload_n 0, 1), (30, .getfield 12, 3), (33, .iload_n 1, 1), (34, .invokevirtual 96, 3), (37, .ireturn, 1), (38, .iload_n 2, 1), (39, .bipush 6, 2), (41, .if_icmp .ne 48, 3), (44, .aload_n 0, 1), (45, .getfield 29, 3), (48, .aload_n 0, 1), (49, .getfield 12, 3), (52, .invokevirtual 77, 3), (55, .aload_n 0, 1), (56, .getfield 29, 3), (59, .aload_n 0, 1), (60, .getfield 12, 3), (63, .getfield 99, 3), (66, .iload_n 1, 1), (67, .iaload, 1), (68, .invokevirtual 81, 3), (71, .aload_n 0, 1), (72, .getfield 29, 3), (75, .getfield 85, 3), (78, .aload_n 0, 1)]
theorem tk_X5_of_0 : dcA cX5_of tb_X5_of_0 = true := by decide +kernel
theorem dX5_of_0 : decode cX5_of 0 = .ok (.aload_n 0, 1) := dcO tk_X5_of_0 0 rfl
theorem dX5_of_1 : decode cX5_of 1 = .ok (.iload_n 1, 1) := dcO tk_X5_of_0 1 rfl
theorem dX5_of_2 : decode cX5_of 2 = .ok (.invokevirtual 93, 3) := dcO tk_X5_of_0 2 rfl
theorem dX5_of_5 : decode cX5_of 5 = .ok (.ifCond .eq 12, 3) := dcO tk_X5_of_0 3 rfl
theorem dX5_of_8 : decode cX5_of 8 = .ok (.iload_n 2, 1) := dcO tk_X5_of_0 4 rfl
theorem dX5_of_9 : decode cX5_of 9 = .ok (.bipush 6, 2) := dcO tk_X5_of_0 5 rfl
theorem dX5_of_11 : decode cX5_of 11 = .ok (.invokestatic 59, 3) := dcO tk_X5_of_0 6 rfl
theorem dX5_of_14 : decode cX5_of 14 = .ok (.ifCond .ne 10, 3) := dcO tk_X5_of_0 7 rfl
theorem dX5_of_17 : decode cX5_of 17 = .ok (.aload_n 0, 1) := dcO tk_X5_of_0 8 rfl
theorem dX5_of_18 : decode cX5_of 18 = .ok (.ldc 63, 2) := dcO tk_X5_of_0 9 rfl
theorem dX5_of_20 : decode cX5_of 20 = .ok (.invokevirtual 64, 3) := dcO tk_X5_of_0 10 rfl
theorem dX5_of_23 : decode cX5_of 23 = .ok (.ireturn, 1) := dcO tk_X5_of_0 11 rfl
theorem dX5_of_24 : decode cX5_of 24 = .ok (.iload_n 2, 1) := dcO tk_X5_of_0 12 rfl
theorem dX5_of_25 : decode cX5_of 25 = .ok (.iconst 5, 1) := dcO tk_X5_of_0 13 rfl
theorem dX5_of_26 : decode cX5_of 26 = .ok (.if_icmp .ne 12, 3) := dcO tk_X5_of_0 14 rfl
theorem dX5_of_29 : decode cX5_of 29 = .ok (.aload_n 0, 1) := dcO tk_X5_of_0 15 rfl
theorem dX5_of_30 : decode cX5_of 30 = .ok (.getfield 12, 3) := dcO tk_X5_of_0 16 rfl
theorem dX5_of_33 : decode cX5_of 33 = .ok (.iload_n 1, 1) := dcO tk_X5_of_0 17 rfl
theorem dX5_of_34 : decode cX5_of 34 = .ok (.invokevirtual 96, 3) := dcO tk_X5_of_0 18 rfl
theorem dX5_of_37 : decode cX5_of 37 = .ok (.ireturn, 1) := dcO tk_X5_of_0 19 rfl
theorem dX5_of_38 : decode cX5_of 38 = .ok (.iload_n 2, 1) := dcO tk_X5_of_0 20 rfl
theorem dX5_of_39 : decode cX5_of 39 = .ok (.bipush 6, 2) := dcO tk_X5_of_0 21 rfl
theorem dX5_of_41 : decode cX5_of 41 = .ok (.if_icmp .ne 48, 3) := dcO tk_X5_of_0 22 rfl
theorem dX5_of_44 : decode cX5_of 44 = .ok (.aload_n 0, 1) := dcO tk_X5_of_0 23 rfl
theorem dX5_of_45 : decode cX5_of 45 = .ok (.getfield 29, 3) := dcO tk_X5_of_0 24 rfl
theorem dX5_of_48 : decode cX5_of 48 = .ok (.aload_n 0, 1) := dcO tk_X5_of_0 25 rfl
theorem dX5_of_49 : decode cX5_of 49 = .ok (.getfield 12, 3) := dcO tk_X5_of_0 26 rfl
theorem dX5_of_52 : decode cX5_of 52 = .ok (.invokevirtual 77, 3) := dcO tk_X5_of_0 27 rfl
theorem dX5_of_55 : decode cX5_of 55 = .ok (.aload_n 0, 1) := dcO tk_X5_of_0 28 rfl
theorem dX5_of_56 : decode cX5_of 56 = .ok (.getfield 29, 3) := dcO tk_X5_of_0 29 rfl
theorem dX5_of_59 : decode cX5_of 59 = .ok (.aload_n 0, 1) := dcO tk_X5_of_0 30 rfl
theorem dX5_of_60 : decode cX5_of 60 = .ok (.getfield 12, 3) := dcO tk_X5_of_0 31 rfl
theorem dX5_of_63 : decode cX5_of 63 = .ok (.getfield 99, 3) := dcO tk_X5_of_0 32 rfl
theorem dX5_of_66 : decode cX5_of 66 = .ok (.iload_n 1, 1) := dcO tk_X5_of_0 33 rfl
theorem dX5_of_67 : decode cX5_of 67 = .ok (.iaload, 1) := dcO tk_X5_of_0 34 rfl
theorem dX5_of_68 : decode cX5_of 68 = .ok (.invokevirtual 81, 3) := dcO tk_X5_of_0 35 rfl
theorem dX5_of_71 : decode cX5_of 71 = .ok (.aload_n 0, 1) := dcO tk_X5_of_0 36 rfl
theorem dX5_of_72 : decode cX5_of 72 = .ok (.getfield 29, 3) := dcO tk_X5_of_0 37 rfl
theorem dX5_of_75 : decode cX5_of 75 = .ok (.getfield 85, 3) := dcO tk_X5_of_0 38 rfl
theorem dX5_of_78 : decode cX5_of 78 = .ok (.aload_n 0, 1) := dcO tk_X5_of_0 39 rfl
abbrev tb_X5_of_1 : List (Nat × Instr × Nat) := [(79, .getfield 12, 3), (82, .getfield 102, 3), (85, .iload_n 1, 1), (86, .iaload, 1), (87, .iaload, 1), (88, .ireturn, 1), (89, .aload_n 0, 1), (90, .getfield 12, 3), (93, .iload_n 2, 1), (94, .invokevirtual 105, 3), (97, .iload_n 1, 1), (98, .iaload, 1), (99, .ireturn, 1)]
theorem tk_X5_of_1 : dcA cX5_of tb_X5_of_1 = true := by decide +kernel
theorem dX5_of_79 : decode cX5_of 79 = .ok (.getfield 12, 3) := dcO tk_X5_of_1 0 rfl
theorem dX5_of_82 : decode cX5_of 82 = .ok (.getfield 102, 3) := dcO tk_X5_of_1 1 rfl
theorem dX5_of_85 : decode cX5_of 85 = .ok (.iload_n 1, 1) := dcO tk_X5_of_1 2 rfl
theorem dX5_of_86 : decode cX5_of 86 = .ok (.iaload, 1) := dcO tk_X5_of_1 3 rfl
theorem dX5_of_87 : decode cX5_of 87 = .ok (.iaload, 1) := dcO tk_X5_of_1 4 rfl
theorem dX5_of_88 : decode cX5_of 88 = .ok (.ireturn, 1) := dcO tk_X5_of_1 5 rfl
theorem dX5_of_89 : decode cX5_of 89 = .ok (.aload_n 0, 1) := dcO tk_X5_of_1 6 rfl
theorem dX5_of_90 : decode cX5_of 90 = .ok (.getfield 12, 3) := dcO tk_X5_of_1 7 rfl
theorem dX5_of_93 : decode cX5_of 93 = .ok (.iload_n 2, 1) := dcO tk_X5_of_1 8 rfl
theorem dX5_of_94 : decode cX5_of 94 = .ok (.invokevirtual 105, 3) := dcO tk_X5_of_1 9 rfl
theorem dX5_of_97 : decode cX5_of 97 = .ok (.iload_n 1, 1) := dcO tk_X5_of_1 10 rfl
theorem dX5_of_98 : decode cX5_of 98 = .ok (.iaload, 1) := dcO tk_X5_of_1 11 rfl
theorem dX5_of_99 : decode cX5_of 99 = .ok (.ireturn, 1) := dcO tk_X5_of_1 12 rfl
abbrev tb_X5_change_0 : List (Nat × Instr × Nat) := [(0, .aload_n 0, 1), (1, .iload_n 1, 1), (2, .invokevirtual 93, 3), (5, .ifCond .eq 28, 3), (8, .iload_n 2, 1), (9, .getstatic 109, 3), (12, .arraylength, 1), (13, .iconst 1, 1), (14, .isub, 1), (15, .invokestatic 59, 3), (18, .ifCond .eq 15, 3), (21, .iload_n 3, 1), (22, .getstatic 109, 3), (25, .iload_n 2, 1), (26, .iaload, 1), (27, .invokestatic 59, 3), (30, .ifCond .ne 10, 3), (33, .aload_n 0, 1), (34, .ldc 63, 2), (36, .invokevirtual 64, 3), (39, .ireturn, 1), (40, .aload_n 0, 1), (41, .getfield 12, 3), (44, .iload_n 2, 1), (45, .invokevirtual 105, 3), (48, .astore 4, 2), (50, .aload 4, 2), (52, .iload_n 1, 1), (53, .iaload, 1), (54, .istore 5, 2), (56, .aload 4, 2), (58, .iload_n 1, 1), (59, .iload_n 3, 1), (60, .iastore, 1), (61, .iload 5, 2), (63, .ireturn, 1)]
theorem tk_X5_change_0 : dcA cX5_change tb_X5_change_0 = true := by decide +kernel
theorem dX5_change_0 : decode cX5_change 0 = .ok (.aload_n 0, 1) := dcO tk_X5_change_0 0 rfl
theorem dX5_change_1 : decode cX5_change 1 = .ok (.iload_n 1, 1) := dcO tk_X5_change_0 1 rfl
theorem dX5_change_2 : decode cX5_change 2 = .ok (.invokevirtual 93, 3) := dcO tk_X5_change_0 2 rfl
theorem dX5_change_5 : decode cX5_change 5 = .ok (.ifCond .eq 28, 3) := dcO tk_X5_change_0 3 rfl
theorem dX5_change_8 : decode cX5_change 8 = .ok (.iload_n 2, 1) := dcO tk_X5_change_0 4 rfl
theorem dX5_change_9 : decode cX5_change 9 = .ok (.getstatic 109, 3) := dcO tk_X5_change_0 5 rfl
theorem dX5_change_12 : decode cX5_change 12 = .ok (.arraylength, 1) := dcO tk_X5_change_0 6 rfl
theorem dX5_change_13 : decode cX5_change 13 = .ok (.iconst 1, 1) := dcO tk_X5_change_0 7 rfl
theorem dX5_change_14 : decode cX5_change 14 = .ok (.isub, 1) := dcO tk_X5_change_0 8 rfl
theorem dX5_change_15 : decode cX5_change 15 = .ok (.invokestatic 59, 3) := dcO tk_X5_change_0 9 rfl
theorem dX5_change_18 : decode cX5_change 18 = .ok (.ifCond .eq 15, 3) := dcO tk_X5_change_0 10 rfl
theorem dX5_change_21 : decode cX5_change 21 = .ok (.iload_n 3, 1) := dcO tk_X5_change_0 11 rfl
theorem dX5_change_22 : decode cX5_change 22 = .ok (.getstatic 109, 3) := dcO tk_X5_change_0 12 rfl
theorem dX5_change_25 : decode cX5_change 25 = .ok (.iload_n 2, 1) := dcO tk_X5_change_0 13 rfl
theorem dX5_change_26 : decode cX5_change 26 = .ok (.iaload, 1) := dcO tk_X5_change_0 14 rfl
theorem dX5_change_27 : decode cX5_change 27 = .ok (.invokestatic 59, 3) := dcO tk_X5_change_0 15 rfl
theorem dX5_change_30 : decode cX5_change 30 = .ok (.ifCond .ne 10, 3) := dcO tk_X5_change_0 16 rfl
theorem dX5_change_33 : decode cX5_change 33 = .ok (.aload_n 0, 1) := dcO tk_X5_change_0 17 rfl
theorem dX5_change_34 : decode cX5_change 34 = .ok (.ldc 63, 2) := dcO tk_X5_change_0 18 rfl
theorem dX5_change_36 : decode cX5_change 36 = .ok (.invokevirtual 64, 3) := dcO tk_X5_change_0 19 rfl
theorem dX5_change_39 : decode cX5_change 39 = .ok (.ireturn, 1) := dcO tk_X5_change_0 20 rfl
theorem dX5_change_40 : decode cX5_change 40 = .ok (.aload_n 0, 1) := dcO tk_X5_change_0 21 rfl
theorem dX5_change_41 : decode cX5_change 41 = .ok (.getfield 12, 3) := dcO tk_X5_change_0 22 rfl
theorem dX5_change_44 : decode cX5_change 44 = .ok (.iload_n 2, 1) := dcO tk_X5_change_0 23 rfl
theorem dX5_change_45 : decode cX5_change 45 = .ok (.invokevirtual 105, 3) := dcO tk_X5_change_0 24 rfl
theorem dX5_change_48 : decode cX5_change 48 = .ok (.astore 4, 2) := dcO tk_X5_change_0 25 rfl
theorem dX5_change_50 : decode cX5_change 50 = .ok (.aload 4, 2) := dcO tk_X5_change_0 26 rfl
theorem dX5_change_52 : decode cX5_change 52 = .ok (.iload_n 1, 1) := dcO tk_X5_change_0 27 rfl
theorem dX5_change_53 : decode cX5_change 53 = .ok (.iaload, 1) := dcO tk_X5_change_0 28 rfl
theorem dX5_change_54 : decode cX5_change 54 = .ok (.istore 5, 2) := dcO tk_X5_change_0 29 rfl
theorem dX5_change_56 : decode cX5_change 56 = .ok (.aload 4, 2) := dcO tk_X5_change_0 30 rfl
theorem dX5_change_58 : decode cX5_change 58 = .ok (.iload_n 1, 1) := dcO tk_X5_change_0 31 rfl
theorem dX5_change_59 : decode cX5_change 59 = .ok (.iload_n 3, 1) := dcO tk_X5_change_0 32 rfl
theorem dX5_change_60 : decode cX5_change 60 = .ok (.iastore, 1) := dcO tk_X5_change_0 33 rfl
theorem dX5_change_61 : decode cX5_change 61 = .ok (.iload 5, 2) := dcO tk_X5_change_0 34 rfl
theorem dX5_change_63 : decode cX5_change 63 = .ok (.ireturn, 1) := dcO tk_X5_change_0 35 rfl
abbrev tb_X5_bans_0 : List (Nat × Instr × Nat) := [(0, .iload_n 1, 1), (1, .invokestatic 112, 3), (4, .ifCond .eq 13, 3), (7, .iload_n 2, 1), (8, .sipush 255, 3), (11, .invokestatic 59, 3), (14, .ifCond .ne 10, 3), (17, .aload_n 0, 1), (18, .ldc 63, 2), (20, .invokevirtual 64, 3), (23, .ireturn, 1), (24, .aload_n 0, 1), (25, .getfield 12, 3), (28, .getfield 115, 3), (31, .iload_n 1, 1), (32, .iaload, 1), (33, .istore_n 3, 1), (34, .aload_n 0, 1), (35, .getfield 12, 3), (38, .getfield 115, 3), (41, .iload_n 1, 1), (42, .iload_n 2, 1), (43, .iastore, 1), (44, .iload_n 3, 1), (45, .ireturn, 1)]
theorem tk_X5_bans_0 : dcA cX5_bans tb_X5_bans_0 = true := by decide +kernel
theorem dX5_bans_0 : decode cX5_bans 0 = .ok (.iload_n 1, 1) := dcO tk_X5_bans_0 0 rfl
theorem dX5_bans_1 : decode cX5_bans 1 = .ok (.invokestatic 112, 3) := dcO tk_X5_bans_0 1 rfl
theorem dX5_bans_4 : decode cX5_bans 4 = .ok (.ifCond .eq 13, 3) := dcO tk_X5_bans_0 2 rfl
theorem dX5_bans_7 : decode cX5_bans 7 = .ok (.iload_n 2, 1) := dcO tk_X5_bans_0 3 rfl
theorem dX5_bans_8 : decode cX5_bans 8 = .ok (.sipush 255, 3) := dcO tk_X5_bans_0 4 rfl
theorem dX5_bans_11 : decode cX5_bans 11 = .ok (.invokestatic 59, 3) := dcO tk_X5_bans_0 5 rfl
theorem dX5_bans_14 : decode cX5_bans 14 = .ok (.ifCond .ne 10, 3) := dcO tk_X5_bans_0 6 rfl
theorem dX5_bans_17 : decode cX5_bans 17 = .ok (.aload_n 0, 1) := dcO tk_X5_bans_0 7 rfl
theorem dX5_bans_18 : decode cX5_bans 18 = .ok (.ldc 63, 2) := dcO tk_X5_bans_0 8 rfl
theorem dX5_bans_20 : decode cX5_bans 20 = .ok (.invokevirtual 64, 3) := dcO tk_X5_bans_0 9 rfl
theorem dX5_bans_23 : decode cX5_bans 23 = .ok (.ireturn, 1) := dcO tk_X5_bans_0 10 rfl
theorem dX5_bans_24 : decode cX5_bans 24 = .ok (.aload_n 0, 1) := dcO tk_X5_bans_0 11 rfl
theorem dX5_bans_25 : decode cX5_bans 25 = .ok (.getfield 12, 3) := dcO tk_X5_bans_0 12 rfl
theorem dX5_bans_28 : decode cX5_bans 28 = .ok (.getfield 115, 3) := dcO tk_X5_bans_0 13 rfl
theorem dX5_bans_31 : decode cX5_bans 31 = .ok (.iload_n 1, 1) := dcO tk_X5_bans_0 14 rfl
theorem dX5_bans_32 : decode cX5_bans 32 = .ok (.iaload, 1) := dcO tk_X5_bans_0 15 rfl
theorem dX5_bans_33 : decode cX5_bans 33 = .ok (.istore_n 3, 1) := dcO tk_X5_bans_0 16 rfl
theorem dX5_bans_34 : decode cX5_bans 34 = .ok (.aload_n 0, 1) := dcO tk_X5_bans_0 17 rfl
theorem dX5_bans_35 : decode cX5_bans 35 = .ok (.getfield 12, 3) := dcO tk_X5_bans_0 18 rfl
theorem dX5_bans_38 : decode cX5_bans 38 = .ok (.getfield 115, 3) := dcO tk_X5_bans_0 19 rfl
theorem dX5_bans_41 : decode cX5_bans 41 = .ok (.iload_n 1, 1) := dcO tk_X5_bans_0 20 rfl
theorem dX5_bans_42 : decode cX5_bans 42 = .ok (.iload_n 2, 1) := dcO tk_X5_bans_0 21 rfl
theorem dX5_bans_43 : decode cX5_bans 43 = .ok (.iastore, 1) := dcO tk_X5_bans_0 22 rfl
theorem dX5_bans_44 : decode cX5_bans 44 = .ok (.iload_n 3, 1) := dcO tk_X5_bans_0 23 rfl
theorem dX5_bans_45 : decode cX5_bans 45 = .ok (.ireturn, 1) := dcO tk_X5_bans_0 24 rfl
abbrev tb_X5_set_0 : List (Nat × Instr × Nat) := [(0, .iload_n 1, 1), (1, .ifCond .ne 30, 3), (4, .iload_n 2, 1), (5, .bipush 9, 2), (7, .invokestatic 59, 3), (10, .ifCond .eq 21, 3), (13, .aload_n 0, 1), (14, .getfield 12, 3), (17, .getfield 118, 3), (20, .istore_n 3, 1), (21, .aload_n 0, 1), (22, .getfield 12, 3), (25, .iload_n 2, 1), (26, .putfield 118, 3), (29, .iload_n 3, 1), (30, .ireturn, 1), (31, .iload_n 1, 1), (32, .iconst 1, 1), (33, .if_icmp .ne 30, 3), (36, .iload_n 2, 1), (37, .bipush 20, 2), (39, .invokestatic 59, 3), (42, .ifCond .eq 21, 3), (45, .aload_n 0, 1), (46, .getfield 12, 3), (49, .getfield 122, 3), (52, .istore_n 3, 1), (53, .aload_n 0, 1), (54, .getfield 12, 3), (57, .iload_n 2, 1), (58, .putfield 122, 3), (61, .iload_n 3, 1), (62, .ireturn, 1), (63, .aload_n 0, 1), (64, .ldc 63, 2), (66, .invokevirtual 64, 3), (69, .ireturn, 1)]
theorem tk_X5_set_0 : dcA cX5_set tb_X5_set_0 = true := by decide +kernel
theorem dX5_set_0 : decode cX5_set 0 = .ok (.iload_n 1, 1) := dcO tk_X5_set_0 0 rfl
theorem dX5_set_1 : decode cX5_set 1 = .ok (.ifCond .ne 30, 3) := dcO tk_X5_set_0 1 rfl
theorem dX5_set_4 : decode cX5_set 4 = .ok (.iload_n 2, 1) := dcO tk_X5_set_0 2 rfl
theorem dX5_set_5 : decode cX5_set 5 = .ok (.bipush 9, 2) := dcO tk_X5_set_0 3 rfl
theorem dX5_set_7 : decode cX5_set 7 = .ok (.invokestatic 59, 3) := dcO tk_X5_set_0 4 rfl
theorem dX5_set_10 : decode cX5_set 10 = .ok (.ifCond .eq 21, 3) := dcO tk_X5_set_0 5 rfl
theorem dX5_set_13 : decode cX5_set 13 = .ok (.aload_n 0, 1) := dcO tk_X5_set_0 6 rfl
theorem dX5_set_14 : decode cX5_set 14 = .ok (.getfield 12, 3) := dcO tk_X5_set_0 7 rfl
theorem dX5_set_17 : decode cX5_set 17 = .ok (.getfield 118, 3) := dcO tk_X5_set_0 8 rfl
theorem dX5_set_20 : decode cX5_set 20 = .ok (.istore_n 3, 1) := dcO tk_X5_set_0 9 rfl
theorem dX5_set_21 : decode cX5_set 21 = .ok (.aload_n 0, 1) := dcO tk_X5_set_0 10 rfl
theorem dX5_set_22 : decode cX5_set 22 = .ok (.getfield 12, 3) := dcO tk_X5_set_0 11 rfl
theorem dX5_set_25 : decode cX5_set 25 = .ok (.iload_n 2, 1) := dcO tk_X5_set_0 12 rfl
theorem dX5_set_26 : decode cX5_set 26 = .ok (.putfield 118, 3) := dcO tk_X5_set_0 13 rfl
theorem dX5_set_29 : decode cX5_set 29 = .ok (.iload_n 3, 1) := dcO tk_X5_set_0 14 rfl
theorem dX5_set_30 : decode cX5_set 30 = .ok (.ireturn, 1) := dcO tk_X5_set_0 15 rfl
theorem dX5_set_31 : decode cX5_set 31 = .ok (.iload_n 1, 1) := dcO tk_X5_set_0 16 rfl
theorem dX5_set_32 : decode cX5_set 32 = .ok (.iconst 1, 1) := dcO tk_X5_set_0 17 rfl
theorem dX5_set_33 : decode cX5_set 33 = .ok (.if_icmp .ne 30, 3) := dcO tk_X5_set_0 18 rfl
theorem dX5_set_36 : decode cX5_set 36 = .ok (.iload_n 2, 1) := dcO tk_X5_set_0 19 rfl
theorem dX5_set_37 : decode cX5_set 37 = .ok (.bipush 20, 2) := dcO tk_X5_set_0 20 rfl
theorem dX5_set_39 : decode cX5_set 39 = .ok (.invokestatic 59, 3) := dcO tk_X5_set_0 21 rfl
theorem dX5_set_42 : decode cX5_set 42 = .ok (.ifCond .eq 21, 3) := dcO tk_X5_set_0 22 rfl
theorem dX5_set_45 : decode cX5_set 45 = .ok (.aload_n 0, 1) := dcO tk_X5_set_0 23 rfl
theorem dX5_set_46 : decode cX5_set 46 = .ok (.getfield 12, 3) := dcO tk_X5_set_0 24 rfl
theorem dX5_set_49 : decode cX5_set 49 = .ok (.getfield 122, 3) := dcO tk_X5_set_0 25 rfl
theorem dX5_set_52 : decode cX5_set 52 = .ok (.istore_n 3, 1) := dcO tk_X5_set_0 26 rfl
theorem dX5_set_53 : decode cX5_set 53 = .ok (.aload_n 0, 1) := dcO tk_X5_set_0 27 rfl
theorem dX5_set_54 : decode cX5_set 54 = .ok (.getfield 12, 3) := dcO tk_X5_set_0 28 rfl
theorem dX5_set_57 : decode cX5_set 57 = .ok (.iload_n 2, 1) := dcO tk_X5_set_0 29 rfl
theorem dX5_set_58 : decode cX5_set 58 = .ok (.putfield 122, 3) := dcO tk_X5_set_0 30 rfl
theorem dX5_set_61 : decode cX5_set 61 = .ok (.iload_n 3, 1) := dcO tk_X5_set_0 31 rfl
theorem dX5_set_62 : decode cX5_set 62 = .ok (.ireturn, 1) := dcO tk_X5_set_0 32 rfl
theorem dX5_set_63 : decode cX5_set 63 = .ok (.aload_n 0, 1) := dcO tk_X5_set_0 33 rfl
theorem dX5_set_64 : decode cX5_set 64 = .ok (.ldc 63, 2) := dcO tk_X5_set_0 34 rfl
theorem dX5_set_66 : decode cX5_set 66 = .ok (.invokevirtual 64, 3) := dcO tk_X5_set_0 35 rfl
theorem dX5_set_69 : decode cX5_set 69 = .ok (.ireturn, 1) := dcO tk_X5_set_0 36 rfl
abbrev tb_X5_go_0 : List (Nat × Instr × Nat) := [(0, .iload_n 1, 1), (1, .iconst 1, 1), (2, .if_icmp .lt 9, 3), (5, .iload_n 1, 1), (6, .bipush 40, 2), (8, .if_icmp .le 10, 3), (11, .aload_n 0, 1), (12, .ldc 63, 2), (14, .invokevirtual 64, 3), (17, .ireturn, 1), (18, .aload_n 0, 1), (19, .getfield 12, 3), (22, .getfield 125, 3), (25, .iload_n 1, 1), (26, .iadd, 1), (27, .ldc 128, 2), (29, .if_icmp .le 10, 3), (32, .aload_n 0, 1), (33, .ldc 129, 2), (35, .invokevirtual 64, 3), (38, .ireturn, 1), (39, .aload_n 0, 1), (40, .getfield 29, 3), (43, .aload_n 0, 1), (44, .getfield 12, 3), (47, .invokevirtual 130, 3), (50, .aload_n 0, 1), (51, .getfield 12, 3), (54, .aload_n 0, 1), (55, .getfield 29, 3), (58, .sipush 255, 3), (61, .iload_n 1, 1), (62, .invokevirtual 133, 3), (65, .aload_n 0, 1), (66, .getfield 12, 3), (69, .getfield 137, 3), (72, .ireturn, 1)]
theorem tk_X5_go_0 : dcA cX5_go tb_X5_go_0 = true := by decide +kernel
theorem dX5_go_0 : decode cX5_go 0 = .ok (.iload_n 1, 1) := dcO tk_X5_go_0 0 rfl
theorem dX5_go_1 : decode cX5_go 1 = .ok (.iconst 1, 1) := dcO tk_X5_go_0 1 rfl
theorem dX5_go_2 : decode cX5_go 2 = .ok (.if_icmp .lt 9, 3) := dcO tk_X5_go_0 2 rfl
theorem dX5_go_5 : decode cX5_go 5 = .ok (.iload_n 1, 1) := dcO tk_X5_go_0 3 rfl
theorem dX5_go_6 : decode cX5_go 6 = .ok (.bipush 40, 2) := dcO tk_X5_go_0 4 rfl
theorem dX5_go_8 : decode cX5_go 8 = .ok (.if_icmp .le 10, 3) := dcO tk_X5_go_0 5 rfl
theorem dX5_go_11 : decode cX5_go 11 = .ok (.aload_n 0, 1) := dcO tk_X5_go_0 6 rfl
theorem dX5_go_12 : decode cX5_go 12 = .ok (.ldc 63, 2) := dcO tk_X5_go_0 7 rfl
theorem dX5_go_14 : decode cX5_go 14 = .ok (.invokevirtual 64, 3) := dcO tk_X5_go_0 8 rfl
theorem dX5_go_17 : decode cX5_go 17 = .ok (.ireturn, 1) := dcO tk_X5_go_0 9 rfl
theorem dX5_go_18 : decode cX5_go 18 = .ok (.aload_n 0, 1) := dcO tk_X5_go_0 10 rfl
theorem dX5_go_19 : decode cX5_go 19 = .ok (.getfield 12, 3) := dcO tk_X5_go_0 11 rfl
theorem dX5_go_22 : decode cX5_go 22 = .ok (.getfield 125, 3) := dcO tk_X5_go_0 12 rfl
theorem dX5_go_25 : decode cX5_go 25 = .ok (.iload_n 1, 1) := dcO tk_X5_go_0 13 rfl
theorem dX5_go_26 : decode cX5_go 26 = .ok (.iadd, 1) := dcO tk_X5_go_0 14 rfl
theorem dX5_go_27 : decode cX5_go 27 = .ok (.ldc 128, 2) := dcO tk_X5_go_0 15 rfl
theorem dX5_go_29 : decode cX5_go 29 = .ok (.if_icmp .le 10, 3) := dcO tk_X5_go_0 16 rfl
theorem dX5_go_32 : decode cX5_go 32 = .ok (.aload_n 0, 1) := dcO tk_X5_go_0 17 rfl
theorem dX5_go_33 : decode cX5_go 33 = .ok (.ldc 129, 2) := dcO tk_X5_go_0 18 rfl
theorem dX5_go_35 : decode cX5_go 35 = .ok (.invokevirtual 64, 3) := dcO tk_X5_go_0 19 rfl
theorem dX5_go_38 : decode cX5_go 38 = .ok (.ireturn, 1) := dcO tk_X5_go_0 20 rfl
theorem dX5_go_39 : decode cX5_go 39 = .ok (.aload_n 0, 1) := dcO tk_X5_go_0 21 rfl
theorem dX5_go_40 : decode cX5_go 40 = .ok (.getfield 29, 3) := dcO tk_X5_go_0 22 rfl
theorem dX5_go_43 : decode cX5_go 43 = .ok (.aload_n 0, 1) := dcO tk_X5_go_0 23 rfl
theorem dX5_go_44 : decode cX5_go 44 = .ok (.getfield 12, 3) := dcO tk_X5_go_0 24 rfl
theorem dX5_go_47 : decode cX5_go 47 = .ok (.invokevirtual 130, 3) := dcO tk_X5_go_0 25 rfl
theorem dX5_go_50 : decode cX5_go 50 = .ok (.aload_n 0, 1) := dcO tk_X5_go_0 26 rfl
theorem dX5_go_51 : decode cX5_go 51 = .ok (.getfield 12, 3) := dcO tk_X5_go_0 27 rfl
theorem dX5_go_54 : decode cX5_go 54 = .ok (.aload_n 0, 1) := dcO tk_X5_go_0 28 rfl
theorem dX5_go_55 : decode cX5_go 55 = .ok (.getfield 29, 3) := dcO tk_X5_go_0 29 rfl
theorem dX5_go_58 : decode cX5_go 58 = .ok (.sipush 255, 3) := dcO tk_X5_go_0 30 rfl
theorem dX5_go_61 : decode cX5_go 61 = .ok (.iload_n 1, 1) := dcO tk_X5_go_0 31 rfl
theorem dX5_go_62 : decode cX5_go 62 = .ok (.invokevirtual 133, 3) := dcO tk_X5_go_0 32 rfl
theorem dX5_go_65 : decode cX5_go 65 = .ok (.aload_n 0, 1) := dcO tk_X5_go_0 33 rfl
theorem dX5_go_66 : decode cX5_go 66 = .ok (.getfield 12, 3) := dcO tk_X5_go_0 34 rfl
theorem dX5_go_69 : decode cX5_go 69 = .ok (.getfield 137, 3) := dcO tk_X5_go_0 35 rfl
theorem dX5_go_72 : decode cX5_go 72 = .ok (.ireturn, 1) := dcO tk_X5_go_0 36 rfl
abbrev tb_X5_now_0 : List (Nat × Instr × Nat) := [(0, .iload_n 1, 1), (1, .tableswitch 87 0 5 #[39, 47, 55, 63, 71, 79], 39), (40, .aload_n 0, 1), (41, .getfield 12, 3), (44, .getfield 125, 3), (47, .ireturn, 1), (48, .aload_n 0, 1), (49, .getfield 12, 3), (52, .getfield 137, 3), (55, .ireturn, 1), (56, .aload_n 0, 1), (57, .getfield 12, 3), (60, .invokevirtual 140, 3), (63, .ireturn, 1), (64, .aload_n 0, 1), (65, .getfield 12, 3), (68, .invokevirtual 144, 3), (71, .ireturn, 1), (72, .aload_n 0, 1), (73, .getfield 12, 3), (76, .getfield 118, 3), (79, .ireturn, 1), (80, .aload_n 0, 1), (81, .getfield 12, 3), (84, .invokevirtual 147, 3), (87, .ireturn, 1), (88, .aload_n 0, 1), (89, .ldc 63, 2), (91, .invokevirtual 64, 3), (94, .ireturn, 1)]
theorem tk_X5_now_0 : dcA cX5_now tb_X5_now_0 = true := by decide +kernel
theorem dX5_now_0 : decode cX5_now 0 = .ok (.iload_n 1, 1) := dcO tk_X5_now_0 0 rfl
theorem dX5_now_1 : decode cX5_now 1 = .ok (.tableswitch 87 0 5 #[39, 47, 55, 63, 71, 79], 39) := dcO tk_X5_now_0 1 rfl
theorem dX5_now_40 : decode cX5_now 40 = .ok (.aload_n 0, 1) := dcO tk_X5_now_0 2 rfl
theorem dX5_now_41 : decode cX5_now 41 = .ok (.getfield 12, 3) := dcO tk_X5_now_0 3 rfl
theorem dX5_now_44 : decode cX5_now 44 = .ok (.getfield 125, 3) := dcO tk_X5_now_0 4 rfl
theorem dX5_now_47 : decode cX5_now 47 = .ok (.ireturn, 1) := dcO tk_X5_now_0 5 rfl
theorem dX5_now_48 : decode cX5_now 48 = .ok (.aload_n 0, 1) := dcO tk_X5_now_0 6 rfl
theorem dX5_now_49 : decode cX5_now 49 = .ok (.getfield 12, 3) := dcO tk_X5_now_0 7 rfl
theorem dX5_now_52 : decode cX5_now 52 = .ok (.getfield 137, 3) := dcO tk_X5_now_0 8 rfl
theorem dX5_now_55 : decode cX5_now 55 = .ok (.ireturn, 1) := dcO tk_X5_now_0 9 rfl
theorem dX5_now_56 : decode cX5_now 56 = .ok (.aload_n 0, 1) := dcO tk_X5_now_0 10 rfl
theorem dX5_now_57 : decode cX5_now 57 = .ok (.getfield 12, 3) := dcO tk_X5_now_0 11 rfl
theorem dX5_now_60 : decode cX5_now 60 = .ok (.invokevirtual 140, 3) := dcO tk_X5_now_0 12 rfl
theorem dX5_now_63 : decode cX5_now 63 = .ok (.ireturn, 1) := dcO tk_X5_now_0 13 rfl
theorem dX5_now_64 : decode cX5_now 64 = .ok (.aload_n 0, 1) := dcO tk_X5_now_0 14 rfl
theorem dX5_now_65 : decode cX5_now 65 = .ok (.getfield 12, 3) := dcO tk_X5_now_0 15 rfl
theorem dX5_now_68 : decode cX5_now 68 = .ok (.invokevirtual 144, 3) := dcO tk_X5_now_0 16 rfl
theorem dX5_now_71 : decode cX5_now 71 = .ok (.ireturn, 1) := dcO tk_X5_now_0 17 rfl
theorem dX5_now_72 : decode cX5_now 72 = .ok (.aload_n 0, 1) := dcO tk_X5_now_0 18 rfl
theorem dX5_now_73 : decode cX5_now 73 = .ok (.getfield 12, 3) := dcO tk_X5_now_0 19 rfl
theorem dX5_now_76 : decode cX5_now 76 = .ok (.getfield 118, 3) := dcO tk_X5_now_0 20 rfl
theorem dX5_now_79 : decode cX5_now 79 = .ok (.ireturn, 1) := dcO tk_X5_now_0 21 rfl
theorem dX5_now_80 : decode cX5_now 80 = .ok (.aload_n 0, 1) := dcO tk_X5_now_0 22 rfl
theorem dX5_now_81 : decode cX5_now 81 = .ok (.getfield 12, 3) := dcO tk_X5_now_0 23 rfl
theorem dX5_now_84 : decode cX5_now 84 = .ok (.invokevirtual 147, 3) := dcO tk_X5_now_0 24 rfl
theorem dX5_now_87 : decode cX5_now 87 = .ok (.ireturn, 1) := dcO tk_X5_now_0 25 rfl
theorem dX5_now_88 : decode cX5_now 88 = .ok (.aload_n 0, 1) := dcO tk_X5_now_0 26 rfl
theorem dX5_now_89 : decode cX5_now 89 = .ok (.ldc 63, 2) := dcO tk_X5_now_0 27 rfl
theorem dX5_now_91 : decode cX5_now 91 = .ok (.invokevirtual 64, 3) := dcO tk_X5_now_0 28 rfl
theorem dX5_now_94 : decode cX5_now 94 = .ok (.ireturn, 1) := dcO tk_X5_now_0 29 rfl
abbrev tb_X5_realm_0 : List (Nat × Instr × Nat) := [(0, .iload_n 1, 1), (1, .invokestatic 112, 3), (4, .ifCond .ne 10, 3), (7, .aload_n 0, 1), (8, .ldc 63, 2), (10, .invokevirtual 64, 3), (13, .ireturn, 1), (14, .aload_n 0, 1), (15, .getfield 12, 3), (18, .iload_n 1, 1), (19, .invokevirtual 150, 3), (22, .ireturn, 1)]
theorem tk_X5_realm_0 : dcA cX5_realm tb_X5_realm_0 = true := by decide +kernel
theorem dX5_realm_0 : decode cX5_realm 0 = .ok (.iload_n 1, 1) := dcO tk_X5_realm_0 0 rfl
theorem dX5_realm_1 : decode cX5_realm 1 = .ok (.invokestatic 112, 3) := dcO tk_X5_realm_0 1 rfl
theorem dX5_realm_4 : decode cX5_realm 4 = .ok (.ifCond .ne 10, 3) := dcO tk_X5_realm_0 2 rfl
theorem dX5_realm_7 : decode cX5_realm 7 = .ok (.aload_n 0, 1) := dcO tk_X5_realm_0 3 rfl
theorem dX5_realm_8 : decode cX5_realm 8 = .ok (.ldc 63, 2) := dcO tk_X5_realm_0 4 rfl
theorem dX5_realm_10 : decode cX5_realm 10 = .ok (.invokevirtual 64, 3) := dcO tk_X5_realm_0 5 rfl
theorem dX5_realm_13 : decode cX5_realm 13 = .ok (.ireturn, 1) := dcO tk_X5_realm_0 6 rfl
theorem dX5_realm_14 : decode cX5_realm 14 = .ok (.aload_n 0, 1) := dcO tk_X5_realm_0 7 rfl
theorem dX5_realm_15 : decode cX5_realm 15 = .ok (.getfield 12, 3) := dcO tk_X5_realm_0 8 rfl
theorem dX5_realm_18 : decode cX5_realm 18 = .ok (.iload_n 1, 1) := dcO tk_X5_realm_0 9 rfl
theorem dX5_realm_19 : decode cX5_realm 19 = .ok (.invokevirtual 150, 3) := dcO tk_X5_realm_0 10 rfl
theorem dX5_realm_22 : decode cX5_realm 22 = .ok (.ireturn, 1) := dcO tk_X5_realm_0 11 rfl
abbrev tb_X5_repeals_0 : List (Nat × Instr × Nat) := [(0, .aload_n 0, 1), (1, .getfield 12, 3), (4, .invokevirtual 140, 3), (7, .istore_n 1, 1), (8, .aload_n 0, 1), (9, .getfield 12, 3), (12, .getfield 74, 3), (15, .iconst (-1), 1), (16, .invokestatic 153, 3), (19, .iload_n 1, 1), (20, .ireturn, 1)]
theorem tk_X5_repeals_0 : dcA cX5_repeals tb_X5_repeals_0 = true := by decide +kernel
theorem dX5_repeals_0 : decode cX5_repeals 0 = .ok (.aload_n 0, 1) := dcO tk_X5_repeals_0 0 rfl
theorem dX5_repeals_1 : decode cX5_repeals 1 = .ok (.getfield 12, 3) := dcO tk_X5_repeals_0 1 rfl
theorem dX5_repeals_4 : decode cX5_repeals 4 = .ok (.invokevirtual 140, 3) := dcO tk_X5_repeals_0 2 rfl
theorem dX5_repeals_7 : decode cX5_repeals 7 = .ok (.istore_n 1, 1) := dcO tk_X5_repeals_0 3 rfl
theorem dX5_repeals_8 : decode cX5_repeals 8 = .ok (.aload_n 0, 1) := dcO tk_X5_repeals_0 4 rfl
theorem dX5_repeals_9 : decode cX5_repeals 9 = .ok (.getfield 12, 3) := dcO tk_X5_repeals_0 5 rfl
theorem dX5_repeals_12 : decode cX5_repeals 12 = .ok (.getfield 74, 3) := dcO tk_X5_repeals_0 6 rfl
theorem dX5_repeals_15 : decode cX5_repeals 15 = .ok (.iconst (-1), 1) := dcO tk_X5_repeals_0 7 rfl
theorem dX5_repeals_16 : decode cX5_repeals 16 = .ok (.invokestatic 153, 3) := dcO tk_X5_repeals_0 8 rfl
theorem dX5_repeals_19 : decode cX5_repeals 19 = .ok (.iload_n 1, 1) := dcO tk_X5_repeals_0 9 rfl
theorem dX5_repeals_20 : decode cX5_repeals 20 = .ok (.ireturn, 1) := dcO tk_X5_repeals_0 10 rfl
abbrev tb_X5_may_0 : List (Nat × Instr × Nat) := [(0, .iload_n 1, 1), (1, .invokestatic 55, 3), (4, .ifCond .eq 10, 3), (7, .iload_n 2, 1), (8, .invokestatic 159, 3), (11, .ifCond .ne 10, 3), (14, .aload_n 0, 1), (15, .ldc 63, 2), (17, .invokevirtual 64, 3), (20, .ireturn, 1), (21, .aload_n 0, 1), (22, .getfield 12, 3), (25, .iload_n 1, 1), (26, .iload_n 2, 1), (27, .invokevirtual 162, 3), (30, .ifCond .eq 7, 3), (33, .iconst 1, 1), (34, .goto 4, 3), (37, .iconst 0, 1), (38, .ireturn, 1)]
theorem tk_X5_may_0 : dcA cX5_may tb_X5_may_0 = true := by decide +kernel
theorem dX5_may_0 : decode cX5_may 0 = .ok (.iload_n 1, 1) := dcO tk_X5_may_0 0 rfl
theorem dX5_may_1 : decode cX5_may 1 = .ok (.invokestatic 55, 3) := dcO tk_X5_may_0 1 rfl
theorem dX5_may_4 : decode cX5_may 4 = .ok (.ifCond .eq 10, 3) := dcO tk_X5_may_0 2 rfl
theorem dX5_may_7 : decode cX5_may 7 = .ok (.iload_n 2, 1) := dcO tk_X5_may_0 3 rfl
theorem dX5_may_8 : decode cX5_may 8 = .ok (.invokestatic 159, 3) := dcO tk_X5_may_0 4 rfl
theorem dX5_may_11 : decode cX5_may 11 = .ok (.ifCond .ne 10, 3) := dcO tk_X5_may_0 5 rfl
theorem dX5_may_14 : decode cX5_may 14 = .ok (.aload_n 0, 1) := dcO tk_X5_may_0 6 rfl
theorem dX5_may_15 : decode cX5_may 15 = .ok (.ldc 63, 2) := dcO tk_X5_may_0 7 rfl
theorem dX5_may_17 : decode cX5_may 17 = .ok (.invokevirtual 64, 3) := dcO tk_X5_may_0 8 rfl
theorem dX5_may_20 : decode cX5_may 20 = .ok (.ireturn, 1) := dcO tk_X5_may_0 9 rfl
theorem dX5_may_21 : decode cX5_may 21 = .ok (.aload_n 0, 1) := dcO tk_X5_may_0 10 rfl
theorem dX5_may_22 : decode cX5_may 22 = .ok (.getfield 12, 3) := dcO tk_X5_may_0 11 rfl
theorem dX5_may_25 : decode cX5_may 25 = .ok (.iload_n 1, 1) := dcO tk_X5_may_0 12 rfl
theorem dX5_may_26 : decode cX5_may 26 = .ok (.iload_n 2, 1) := dcO tk_X5_may_0 13 rfl
theorem dX5_may_27 : decode cX5_may 27 = .ok (.invokevirtual 162, 3) := dcO tk_X5_may_0 14 rfl
theorem dX5_may_30 : decode cX5_may 30 = .ok (.ifCond .eq 7, 3) := dcO tk_X5_may_0 15 rfl
theorem dX5_may_33 : decode cX5_may 33 = .ok (.iconst 1, 1) := dcO tk_X5_may_0 16 rfl
theorem dX5_may_34 : decode cX5_may 34 = .ok (.goto 4, 3) := dcO tk_X5_may_0 17 rfl
theorem dX5_may_37 : decode cX5_may 37 = .ok (.iconst 0, 1) := dcO tk_X5_may_0 18 rfl
theorem dX5_may_38 : decode cX5_may 38 = .ok (.ireturn, 1) := dcO tk_X5_may_0 19 rfl
abbrev tb_X5_where_0 : List (Nat × Instr × Nat) := [(0, .iload_n 1, 1), (1, .invokestatic 159, 3), (4, .ifCond .ne 10, 3), (7, .aload_n 0, 1), (8, .ldc 63, 2), (10, .invokevirtual 64, 3), (13, .ireturn, 1), (14, .aload_n 0, 1), (15, .getfield 12, 3), (18, .iload_n 1, 1), (19, .invokevirtual 165, 3), (22, .ireturn, 1)]
theorem tk_X5_where_0 : dcA cX5_where tb_X5_where_0 = true := by decide +kernel
theorem dX5_where_0 : decode cX5_where 0 = .ok (.iload_n 1, 1) := dcO tk_X5_where_0 0 rfl
theorem dX5_where_1 : decode cX5_where 1 = .ok (.invokestatic 159, 3) := dcO tk_X5_where_0 1 rfl
theorem dX5_where_4 : decode cX5_where 4 = .ok (.ifCond .ne 10, 3) := dcO tk_X5_where_0 2 rfl
theorem dX5_where_7 : decode cX5_where 7 = .ok (.aload_n 0, 1) := dcO tk_X5_where_0 3 rfl
theorem dX5_where_8 : decode cX5_where 8 = .ok (.ldc 63, 2) := dcO tk_X5_where_0 4 rfl
theorem dX5_where_10 : decode cX5_where 10 = .ok (.invokevirtual 64, 3) := dcO tk_X5_where_0 5 rfl
theorem dX5_where_13 : decode cX5_where 13 = .ok (.ireturn, 1) := dcO tk_X5_where_0 6 rfl
theorem dX5_where_14 : decode cX5_where 14 = .ok (.aload_n 0, 1) := dcO tk_X5_where_0 7 rfl
theorem dX5_where_15 : decode cX5_where 15 = .ok (.getfield 12, 3) := dcO tk_X5_where_0 8 rfl
theorem dX5_where_18 : decode cX5_where 18 = .ok (.iload_n 1, 1) := dcO tk_X5_where_0 9 rfl
theorem dX5_where_19 : decode cX5_where 19 = .ok (.invokevirtual 165, 3) := dcO tk_X5_where_0 10 rfl
theorem dX5_where_22 : decode cX5_where 22 = .ok (.ireturn, 1) := dcO tk_X5_where_0 11 rfl
abbrev tb_X5_route_0 : List (Nat × Instr × Nat) := [(0, .iload_n 1, 1), (1, .invokestatic 55, 3), (4, .ifCond .eq 17, 3), (7, .iload_n 2, 1), (8, .invokestatic 55, 3), (11, .ifCond .eq 10, 3), (14, .iload_n 3, 1), (15, .invokestatic 159, 3), (18, .ifCond .ne 10, 3), (21, .aload_n 0, 1), (22, .ldc 63, 2), (24, .invokevirtual 64, 3), (27, .ireturn, 1), (28, .aload_n 0, 1), (29, .getfield 29, 3), (32, .aload_n 0, 1), (33, .getfield 12, 3), (36, .iload_n 3, 1), (37, .invokevirtual 168, 3), (40, .aload_n 0, 1), (41, .getfield 29, 3), (44, .iload_n 2, 1), (45, .invokevirtual 81, 3), (48, .aload_n 0, 1), (49, .getfield 29, 3), (52, .getfield 85, 3), (55, .iload_n 1, 1), (56, .iaload, 1), (57, .bipush 99, 2), (59, .if_icmp .ne 12, 3), (62, .aload_n 0, 1), (63, .ldc 172, 2), (65, .invokevirtual 64, 3), (68, .goto 12, 3), (71, .aload_n 0, 1), (72, .getfield 29, 3), (75, .getfield 85, 3), (78, .iload_n 1, 1), (79, .iaload, 1), (80, .ireturn, 1)]
theorem tk_X5_route_0 : dcA cX5_route tb_X5_route_0 = true := by decide +kernel
theorem dX5_route_0 : decode cX5_route 0 = .ok (.iload_n 1, 1) := dcO tk_X5_route_0 0 rfl
theorem dX5_route_1 : decode cX5_route 1 = .ok (.invokestatic 55, 3) := dcO tk_X5_route_0 1 rfl
theorem dX5_route_4 : decode cX5_route 4 = .ok (.ifCond .eq 17, 3) := dcO tk_X5_route_0 2 rfl
theorem dX5_route_7 : decode cX5_route 7 = .ok (.iload_n 2, 1) := dcO tk_X5_route_0 3 rfl
theorem dX5_route_8 : decode cX5_route 8 = .ok (.invokestatic 55, 3) := dcO tk_X5_route_0 4 rfl
theorem dX5_route_11 : decode cX5_route 11 = .ok (.ifCond .eq 10, 3) := dcO tk_X5_route_0 5 rfl
theorem dX5_route_14 : decode cX5_route 14 = .ok (.iload_n 3, 1) := dcO tk_X5_route_0 6 rfl
theorem dX5_route_15 : decode cX5_route 15 = .ok (.invokestatic 159, 3) := dcO tk_X5_route_0 7 rfl
theorem dX5_route_18 : decode cX5_route 18 = .ok (.ifCond .ne 10, 3) := dcO tk_X5_route_0 8 rfl
theorem dX5_route_21 : decode cX5_route 21 = .ok (.aload_n 0, 1) := dcO tk_X5_route_0 9 rfl
theorem dX5_route_22 : decode cX5_route 22 = .ok (.ldc 63, 2) := dcO tk_X5_route_0 10 rfl
theorem dX5_route_24 : decode cX5_route 24 = .ok (.invokevirtual 64, 3) := dcO tk_X5_route_0 11 rfl
theorem dX5_route_27 : decode cX5_route 27 = .ok (.ireturn, 1) := dcO tk_X5_route_0 12 rfl
theorem dX5_route_28 : decode cX5_route 28 = .ok (.aload_n 0, 1) := dcO tk_X5_route_0 13 rfl
theorem dX5_route_29 : decode cX5_route 29 = .ok (.getfield 29, 3) := dcO tk_X5_route_0 14 rfl
theorem dX5_route_32 : decode cX5_route 32 = .ok (.aload_n 0, 1) := dcO tk_X5_route_0 15 rfl
theorem dX5_route_33 : decode cX5_route 33 = .ok (.getfield 12, 3) := dcO tk_X5_route_0 16 rfl
theorem dX5_route_36 : decode cX5_route 36 = .ok (.iload_n 3, 1) := dcO tk_X5_route_0 17 rfl
theorem dX5_route_37 : decode cX5_route 37 = .ok (.invokevirtual 168, 3) := dcO tk_X5_route_0 18 rfl
theorem dX5_route_40 : decode cX5_route 40 = .ok (.aload_n 0, 1) := dcO tk_X5_route_0 19 rfl
theorem dX5_route_41 : decode cX5_route 41 = .ok (.getfield 29, 3) := dcO tk_X5_route_0 20 rfl
theorem dX5_route_44 : decode cX5_route 44 = .ok (.iload_n 2, 1) := dcO tk_X5_route_0 21 rfl
theorem dX5_route_45 : decode cX5_route 45 = .ok (.invokevirtual 81, 3) := dcO tk_X5_route_0 22 rfl
theorem dX5_route_48 : decode cX5_route 48 = .ok (.aload_n 0, 1) := dcO tk_X5_route_0 23 rfl
theorem dX5_route_49 : decode cX5_route 49 = .ok (.getfield 29, 3) := dcO tk_X5_route_0 24 rfl
theorem dX5_route_52 : decode cX5_route 52 = .ok (.getfield 85, 3) := dcO tk_X5_route_0 25 rfl
theorem dX5_route_55 : decode cX5_route 55 = .ok (.iload_n 1, 1) := dcO tk_X5_route_0 26 rfl
theorem dX5_route_56 : decode cX5_route 56 = .ok (.iaload, 1) := dcO tk_X5_route_0 27 rfl
theorem dX5_route_57 : decode cX5_route 57 = .ok (.bipush 99, 2) := dcO tk_X5_route_0 28 rfl
theorem dX5_route_59 : decode cX5_route 59 = .ok (.if_icmp .ne 12, 3) := dcO tk_X5_route_0 29 rfl
theorem dX5_route_62 : decode cX5_route 62 = .ok (.aload_n 0, 1) := dcO tk_X5_route_0 30 rfl
theorem dX5_route_63 : decode cX5_route 63 = .ok (.ldc 172, 2) := dcO tk_X5_route_0 31 rfl
theorem dX5_route_65 : decode cX5_route 65 = .ok (.invokevirtual 64, 3) := dcO tk_X5_route_0 32 rfl
theorem dX5_route_68 : decode cX5_route 68 = .ok (.goto 12, 3) := dcO tk_X5_route_0 33 rfl
theorem dX5_route_71 : decode cX5_route 71 = .ok (.aload_n 0, 1) := dcO tk_X5_route_0 34 rfl
theorem dX5_route_72 : decode cX5_route 72 = .ok (.getfield 29, 3) := dcO tk_X5_route_0 35 rfl
theorem dX5_route_75 : decode cX5_route 75 = .ok (.getfield 85, 3) := dcO tk_X5_route_0 36 rfl
theorem dX5_route_78 : decode cX5_route 78 = .ok (.iload_n 1, 1) := dcO tk_X5_route_0 37 rfl
theorem dX5_route_79 : decode cX5_route 79 = .ok (.iaload, 1) := dcO tk_X5_route_0 38 rfl
theorem dX5_route_80 : decode cX5_route 80 = .ok (.ireturn, 1) := dcO tk_X5_route_0 39 rfl
abbrev tb_X5_free_0 : List (Nat × Instr × Nat) := [(0, .aload_n 0, 1), (1, .getfield 12, 3), (4, .invokevirtual 173, 3), (7, .ireturn, 1)]
theorem tk_X5_free_0 : dcA cX5_free tb_X5_free_0 = true := by decide +kernel
theorem dX5_free_0 : decode cX5_free 0 = .ok (.aload_n 0, 1) := dcO tk_X5_free_0 0 rfl
theorem dX5_free_1 : decode cX5_free 1 = .ok (.getfield 12, 3) := dcO tk_X5_free_0 1 rfl
theorem dX5_free_4 : decode cX5_free 4 = .ok (.invokevirtual 173, 3) := dcO tk_X5_free_0 2 rfl
theorem dX5_free_7 : decode cX5_free 7 = .ok (.ireturn, 1) := dcO tk_X5_free_0 3 rfl
abbrev tb_X5_ahead_0 : List (Nat × Instr × Nat) := [(0, .aload_n 0, 1), (1, .iload_n 1, 1), (2, .invokevirtual 93, 3), (5, .ifCond .eq 12, 3), (8, .iload_n 2, 1), (9, .bipush 100, 2), (11, .invokestatic 59, 3), (14, .ifCond .ne 10, 3), (17, .aload_n 0, 1), (18, .ldc 63, 2), (20, .invokevirtual 64, 3), (23, .ireturn, 1), (24, .aload_n 0, 1), (25, .getfield 22, 3), (28, .aload_n 0, 1), (29, .getfield 12, 3), (32, .iload_n 2, 1), (33, .invokevirtual 176, 3), (36, .getfield 102, 3), (39, .iload_n 1, 1), (40, .iaload, 1), (41, .ireturn, 1)]
theorem tk_X5_ahead_0 : dcA cX5_ahead tb_X5_ahead_0 = true := by decide +kernel
theorem dX5_ahead_0 : decode cX5_ahead 0 = .ok (.aload_n 0, 1) := dcO tk_X5_ahead_0 0 rfl
theorem dX5_ahead_1 : decode cX5_ahead 1 = .ok (.iload_n 1, 1) := dcO tk_X5_ahead_0 1 rfl
theorem dX5_ahead_2 : decode cX5_ahead 2 = .ok (.invokevirtual 93, 3) := dcO tk_X5_ahead_0 2 rfl
theorem dX5_ahead_5 : decode cX5_ahead 5 = .ok (.ifCond .eq 12, 3) := dcO tk_X5_ahead_0 3 rfl
theorem dX5_ahead_8 : decode cX5_ahead 8 = .ok (.iload_n 2, 1) := dcO tk_X5_ahead_0 4 rfl
theorem dX5_ahead_9 : decode cX5_ahead 9 = .ok (.bipush 100, 2) := dcO tk_X5_ahead_0 5 rfl
theorem dX5_ahead_11 : decode cX5_ahead 11 = .ok (.invokestatic 59, 3) := dcO tk_X5_ahead_0 6 rfl
theorem dX5_ahead_14 : decode cX5_ahead 14 = .ok (.ifCond .ne 10, 3) := dcO tk_X5_ahead_0 7 rfl
theorem dX5_ahead_17 : decode cX5_ahead 17 = .ok (.aload_n 0, 1) := dcO tk_X5_ahead_0 8 rfl
theorem dX5_ahead_18 : decode cX5_ahead 18 = .ok (.ldc 63, 2) := dcO tk_X5_ahead_0 9 rfl
theorem dX5_ahead_20 : decode cX5_ahead 20 = .ok (.invokevirtual 64, 3) := dcO tk_X5_ahead_0 10 rfl
theorem dX5_ahead_23 : decode cX5_ahead 23 = .ok (.ireturn, 1) := dcO tk_X5_ahead_0 11 rfl
theorem dX5_ahead_24 : decode cX5_ahead 24 = .ok (.aload_n 0, 1) := dcO tk_X5_ahead_0 12 rfl
theorem dX5_ahead_25 : decode cX5_ahead 25 = .ok (.getfield 22, 3) := dcO tk_X5_ahead_0 13 rfl
theorem dX5_ahead_28 : decode cX5_ahead 28 = .ok (.aload_n 0, 1) := dcO tk_X5_ahead_0 14 rfl
theorem dX5_ahead_29 : decode cX5_ahead 29 = .ok (.getfield 12, 3) := dcO tk_X5_ahead_0 15 rfl
theorem dX5_ahead_32 : decode cX5_ahead 32 = .ok (.iload_n 2, 1) := dcO tk_X5_ahead_0 16 rfl
theorem dX5_ahead_33 : decode cX5_ahead 33 = .ok (.invokevirtual 176, 3) := dcO tk_X5_ahead_0 17 rfl
theorem dX5_ahead_36 : decode cX5_ahead 36 = .ok (.getfield 102, 3) := dcO tk_X5_ahead_0 18 rfl
theorem dX5_ahead_39 : decode cX5_ahead 39 = .ok (.iload_n 1, 1) := dcO tk_X5_ahead_0 19 rfl
theorem dX5_ahead_40 : decode cX5_ahead 40 = .ok (.iaload, 1) := dcO tk_X5_ahead_0 20 rfl
theorem dX5_ahead_41 : decode cX5_ahead 41 = .ok (.ireturn, 1) := dcO tk_X5_ahead_0 21 rfl
abbrev tb_X5_lawAt_0 : List (Nat × Instr × Nat) := [(0, .iload_n 1, 1), (1, .invokestatic 55, 3), (4, .ifCond .eq 12, 3), (7, .iload_n 2, 1), (8, .bipush 100, 2), (10, .invokestatic 59, 3), (13, .ifCond .ne 10, 3), (16, .aload_n 0, 1), (17, .ldc 63, 2), (19, .invokevirtual 64, 3), (22, .ireturn, 1), (23, .aload_n 0, 1), (24, .getfield 22, 3), (27, .aload_n 0, 1), (28, .getfield 12, 3), (31, .iload_n 2, 1), (32, .invokevirtual 176, 3), (35, .getfield 74, 3), (38, .iload_n 1, 1), (39, .iaload, 1), (40, .ireturn, 1)]
theorem tk_X5_lawAt_0 : dcA cX5_lawAt tb_X5_lawAt_0 = true := by decide +kernel
theorem dX5_lawAt_0 : decode cX5_lawAt 0 = .ok (.iload_n 1, 1) := dcO tk_X5_lawAt_0 0 rfl
theorem dX5_lawAt_1 : decode cX5_lawAt 1 = .ok (.invokestatic 55, 3) := dcO tk_X5_lawAt_0 1 rfl
theorem dX5_lawAt_4 : decode cX5_lawAt 4 = .ok (.ifCond .eq 12, 3) := dcO tk_X5_lawAt_0 2 rfl
theorem dX5_lawAt_7 : decode cX5_lawAt 7 = .ok (.iload_n 2, 1) := dcO tk_X5_lawAt_0 3 rfl
theorem dX5_lawAt_8 : decode cX5_lawAt 8 = .ok (.bipush 100, 2) := dcO tk_X5_lawAt_0 4 rfl
theorem dX5_lawAt_10 : decode cX5_lawAt 10 = .ok (.invokestatic 59, 3) := dcO tk_X5_lawAt_0 5 rfl
theorem dX5_lawAt_13 : decode cX5_lawAt 13 = .ok (.ifCond .ne 10, 3) := dcO tk_X5_lawAt_0 6 rfl
theorem dX5_lawAt_16 : decode cX5_lawAt 16 = .ok (.aload_n 0, 1) := dcO tk_X5_lawAt_0 7 rfl
theorem dX5_lawAt_17 : decode cX5_lawAt 17 = .ok (.ldc 63, 2) := dcO tk_X5_lawAt_0 8 rfl
theorem dX5_lawAt_19 : decode cX5_lawAt 19 = .ok (.invokevirtual 64, 3) := dcO tk_X5_lawAt_0 9 rfl
theorem dX5_lawAt_22 : decode cX5_lawAt 22 = .ok (.ireturn, 1) := dcO tk_X5_lawAt_0 10 rfl
theorem dX5_lawAt_23 : decode cX5_lawAt 23 = .ok (.aload_n 0, 1) := dcO tk_X5_lawAt_0 11 rfl
theorem dX5_lawAt_24 : decode cX5_lawAt 24 = .ok (.getfield 22, 3) := dcO tk_X5_lawAt_0 12 rfl
theorem dX5_lawAt_27 : decode cX5_lawAt 27 = .ok (.aload_n 0, 1) := dcO tk_X5_lawAt_0 13 rfl
theorem dX5_lawAt_28 : decode cX5_lawAt 28 = .ok (.getfield 12, 3) := dcO tk_X5_lawAt_0 14 rfl
theorem dX5_lawAt_31 : decode cX5_lawAt 31 = .ok (.iload_n 2, 1) := dcO tk_X5_lawAt_0 15 rfl
theorem dX5_lawAt_32 : decode cX5_lawAt 32 = .ok (.invokevirtual 176, 3) := dcO tk_X5_lawAt_0 16 rfl
theorem dX5_lawAt_35 : decode cX5_lawAt 35 = .ok (.getfield 74, 3) := dcO tk_X5_lawAt_0 17 rfl
theorem dX5_lawAt_38 : decode cX5_lawAt 38 = .ok (.iload_n 1, 1) := dcO tk_X5_lawAt_0 18 rfl
theorem dX5_lawAt_39 : decode cX5_lawAt 39 = .ok (.iaload, 1) := dcO tk_X5_lawAt_0 19 rfl
theorem dX5_lawAt_40 : decode cX5_lawAt 40 = .ok (.ireturn, 1) := dcO tk_X5_lawAt_0 20 rfl
abbrev tb_X5_reaches_0 : List (Nat × Instr × Nat) := [(0, .iload_n 1, 1), (1, .invokestatic 112, 3), (4, .ifCond .eq 10, 3), (7, .iload_n 2, 1), (8, .invokestatic 55, 3), (11, .ifCond .ne 10, 3), (14, .aload_n 0, 1), (15, .ldc 63, 2), (17, .invokevirtual 64, 3), (20, .ireturn, 1), (21, .aload_n 0, 1), (22, .getfield 22, 3), (25, .aload_n 0, 1), (26, .getfield 12, 3), (29, .iload_n 1, 1), (30, .iload_n 2, 1), (31, .aload_n 0, 1), (32, .getfield 12, 3), (35, .getfield 118, 3), (38, .invokevirtual 180, 3), (41, .istore_n 3, 1), (42, .iload_n 3, 1), (43, .bipush 101, 2), (45, .if_icmp .ne 12, 3), (48, .aload_n 0, 1), (49, .ldc 172, 2), (51, .invokevirtual 64, 3), (54, .goto 4, 3), (57, .iload_n 3, 1), (58, .ireturn, 1)]
theorem tk_X5_reaches_0 : dcA cX5_reaches tb_X5_reaches_0 = true := by decide +kernel
theorem dX5_reaches_0 : decode cX5_reaches 0 = .ok (.iload_n 1, 1) := dcO tk_X5_reaches_0 0 rfl
theorem dX5_reaches_1 : decode cX5_reaches 1 = .ok (.invokestatic 112, 3) := dcO tk_X5_reaches_0 1 rfl
theorem dX5_reaches_4 : decode cX5_reaches 4 = .ok (.ifCond .eq 10, 3) := dcO tk_X5_reaches_0 2 rfl
theorem dX5_reaches_7 : decode cX5_reaches 7 = .ok (.iload_n 2, 1) := dcO tk_X5_reaches_0 3 rfl
theorem dX5_reaches_8 : decode cX5_reaches 8 = .ok (.invokestatic 55, 3) := dcO tk_X5_reaches_0 4 rfl
theorem dX5_reaches_11 : decode cX5_reaches 11 = .ok (.ifCond .ne 10, 3) := dcO tk_X5_reaches_0 5 rfl
theorem dX5_reaches_14 : decode cX5_reaches 14 = .ok (.aload_n 0, 1) := dcO tk_X5_reaches_0 6 rfl
theorem dX5_reaches_15 : decode cX5_reaches 15 = .ok (.ldc 63, 2) := dcO tk_X5_reaches_0 7 rfl
theorem dX5_reaches_17 : decode cX5_reaches 17 = .ok (.invokevirtual 64, 3) := dcO tk_X5_reaches_0 8 rfl
theorem dX5_reaches_20 : decode cX5_reaches 20 = .ok (.ireturn, 1) := dcO tk_X5_reaches_0 9 rfl
theorem dX5_reaches_21 : decode cX5_reaches 21 = .ok (.aload_n 0, 1) := dcO tk_X5_reaches_0 10 rfl
theorem dX5_reaches_22 : decode cX5_reaches 22 = .ok (.getfield 22, 3) := dcO tk_X5_reaches_0 11 rfl
theorem dX5_reaches_25 : decode cX5_reaches 25 = .ok (.aload_n 0, 1) := dcO tk_X5_reaches_0 12 rfl
theorem dX5_reaches_26 : decode cX5_reaches 26 = .ok (.getfield 12, 3) := dcO tk_X5_reaches_0 13 rfl
theorem dX5_reaches_29 : decode cX5_reaches 29 = .ok (.iload_n 1, 1) := dcO tk_X5_reaches_0 14 rfl
theorem dX5_reaches_30 : decode cX5_reaches 30 = .ok (.iload_n 2, 1) := dcO tk_X5_reaches_0 15 rfl
theorem dX5_reaches_31 : decode cX5_reaches 31 = .ok (.aload_n 0, 1) := dcO tk_X5_reaches_0 16 rfl
theorem dX5_reaches_32 : decode cX5_reaches 32 = .ok (.getfield 12, 3) := dcO tk_X5_reaches_0 17 rfl
theorem dX5_reaches_35 : decode cX5_reaches 35 = .ok (.getfield 118, 3) := dcO tk_X5_reaches_0 18 rfl
theorem dX5_reaches_38 : decode cX5_reaches 38 = .ok (.invokevirtual 180, 3) := dcO tk_X5_reaches_0 19 rfl
theorem dX5_reaches_41 : decode cX5_reaches 41 = .ok (.istore_n 3, 1) := dcO tk_X5_reaches_0 20 rfl
theorem dX5_reaches_42 : decode cX5_reaches 42 = .ok (.iload_n 3, 1) := dcO tk_X5_reaches_0 21 rfl
theorem dX5_reaches_43 : decode cX5_reaches 43 = .ok (.bipush 101, 2) := dcO tk_X5_reaches_0 22 rfl
theorem dX5_reaches_45 : decode cX5_reaches 45 = .ok (.if_icmp .ne 12, 3) := dcO tk_X5_reaches_0 23 rfl
theorem dX5_reaches_48 : decode cX5_reaches 48 = .ok (.aload_n 0, 1) := dcO tk_X5_reaches_0 24 rfl
theorem dX5_reaches_49 : decode cX5_reaches 49 = .ok (.ldc 172, 2) := dcO tk_X5_reaches_0 25 rfl
theorem dX5_reaches_51 : decode cX5_reaches 51 = .ok (.invokevirtual 64, 3) := dcO tk_X5_reaches_0 26 rfl
theorem dX5_reaches_54 : decode cX5_reaches 54 = .ok (.goto 4, 3) := dcO tk_X5_reaches_0 27 rfl
theorem dX5_reaches_57 : decode cX5_reaches 57 = .ok (.iload_n 3, 1) := dcO tk_X5_reaches_0 28 rfl
theorem dX5_reaches_58 : decode cX5_reaches 58 = .ok (.ireturn, 1) := dcO tk_X5_reaches_0 29 rfl
abbrev tb_X5_wetFor_0 : List (Nat × Instr × Nat) := [(0, .iload_n 1, 1), (1, .invokestatic 112, 3), (4, .ifCond .eq 10, 3), (7, .iload_n 2, 1), (8, .invokestatic 55, 3), (11, .ifCond .ne 10, 3), (14, .aload_n 0, 1), (15, .ldc 63, 2), (17, .invokevirtual 64, 3), (20, .ireturn, 1), (21, .ldc 172, 2), (23, .istore_n 3, 1), (24, .bipush 101, 2), (26, .istore 4, 2), (28, .iconst 0, 1), (29, .istore 5, 2), (31, .iload 5, 2), (33, .bipush 9, 2), (35, .if_icmp .gt 40, 3), (38, .aload_n 0, 1), (39, .getfield 22, 3), (42, .aload_n 0, 1), (43, .getfield 12, 3), (46, .iload_n 1, 1), (47, .iload_n 2, 1), (48, .iload 5, 2), (50, .invokevirtual 180, 3), (53, .istore 6, 2), (55, .iload 6, 2), (57, .iload 4, 2), (59, .if_icmp .ge 10, 3), (62, .iload 6, 2), (64, .istore 4, 2), (66, .iload 5, 2), (68, .istore_n 3, 1), (69, .iinc 5 1, 3), (72, .goto (-41), 3), (75, .iload_n 3, 1), (76, .ldc 172, 2), (78, .if_icmp .ne 12, 3)]
theorem tk_X5_wetFor_0 : dcA cX5_wetFor tb_X5_wetFor_0 = true := by decide +kernel
theorem dX5_wetFor_0 : decode cX5_wetFor 0 = .ok (.iload_n 1, 1) := dcO tk_X5_wetFor_0 0 rfl
theorem dX5_wetFor_1 : decode cX5_wetFor 1 = .ok (.invokestatic 112, 3) := dcO tk_X5_wetFor_0 1 rfl
theorem dX5_wetFor_4 : decode cX5_wetFor 4 = .ok (.ifCond .eq 10, 3) := dcO tk_X5_wetFor_0 2 rfl
theorem dX5_wetFor_7 : decode cX5_wetFor 7 = .ok (.iload_n 2, 1) := dcO tk_X5_wetFor_0 3 rfl
theorem dX5_wetFor_8 : decode cX5_wetFor 8 = .ok (.invokestatic 55, 3) := dcO tk_X5_wetFor_0 4 rfl
theorem dX5_wetFor_11 : decode cX5_wetFor 11 = .ok (.ifCond .ne 10, 3) := dcO tk_X5_wetFor_0 5 rfl
theorem dX5_wetFor_14 : decode cX5_wetFor 14 = .ok (.aload_n 0, 1) := dcO tk_X5_wetFor_0 6 rfl
theorem dX5_wetFor_15 : decode cX5_wetFor 15 = .ok (.ldc 63, 2) := dcO tk_X5_wetFor_0 7 rfl
theorem dX5_wetFor_17 : decode cX5_wetFor 17 = .ok (.invokevirtual 64, 3) := dcO tk_X5_wetFor_0 8 rfl
theorem dX5_wetFor_20 : decode cX5_wetFor 20 = .ok (.ireturn, 1) := dcO tk_X5_wetFor_0 9 rfl
theorem dX5_wetFor_21 : decode cX5_wetFor 21 = .ok (.ldc 172, 2) := dcO tk_X5_wetFor_0 10 rfl
theorem dX5_wetFor_23 : decode cX5_wetFor 23 = .ok (.istore_n 3, 1) := dcO tk_X5_wetFor_0 11 rfl
theorem dX5_wetFor_24 : decode cX5_wetFor 24 = .ok (.bipush 101, 2) := dcO tk_X5_wetFor_0 12 rfl
theorem dX5_wetFor_26 : decode cX5_wetFor 26 = .ok (.istore 4, 2) := dcO tk_X5_wetFor_0 13 rfl
theorem dX5_wetFor_28 : decode cX5_wetFor 28 = .ok (.iconst 0, 1) := dcO tk_X5_wetFor_0 14 rfl
theorem dX5_wetFor_29 : decode cX5_wetFor 29 = .ok (.istore 5, 2) := dcO tk_X5_wetFor_0 15 rfl
theorem dX5_wetFor_31 : decode cX5_wetFor 31 = .ok (.iload 5, 2) := dcO tk_X5_wetFor_0 16 rfl
theorem dX5_wetFor_33 : decode cX5_wetFor 33 = .ok (.bipush 9, 2) := dcO tk_X5_wetFor_0 17 rfl
theorem dX5_wetFor_35 : decode cX5_wetFor 35 = .ok (.if_icmp .gt 40, 3) := dcO tk_X5_wetFor_0 18 rfl
theorem dX5_wetFor_38 : decode cX5_wetFor 38 = .ok (.aload_n 0, 1) := dcO tk_X5_wetFor_0 19 rfl
theorem dX5_wetFor_39 : decode cX5_wetFor 39 = .ok (.getfield 22, 3) := dcO tk_X5_wetFor_0 20 rfl
theorem dX5_wetFor_42 : decode cX5_wetFor 42 = .ok (.aload_n 0, 1) := dcO tk_X5_wetFor_0 21 rfl
theorem dX5_wetFor_43 : decode cX5_wetFor 43 = .ok (.getfield 12, 3) := dcO tk_X5_wetFor_0 22 rfl
theorem dX5_wetFor_46 : decode cX5_wetFor 46 = .ok (.iload_n 1, 1) := dcO tk_X5_wetFor_0 23 rfl
theorem dX5_wetFor_47 : decode cX5_wetFor 47 = .ok (.iload_n 2, 1) := dcO tk_X5_wetFor_0 24 rfl
theorem dX5_wetFor_48 : decode cX5_wetFor 48 = .ok (.iload 5, 2) := dcO tk_X5_wetFor_0 25 rfl
theorem dX5_wetFor_50 : decode cX5_wetFor 50 = .ok (.invokevirtual 180, 3) := dcO tk_X5_wetFor_0 26 rfl
theorem dX5_wetFor_53 : decode cX5_wetFor 53 = .ok (.istore 6, 2) := dcO tk_X5_wetFor_0 27 rfl
theorem dX5_wetFor_55 : decode cX5_wetFor 55 = .ok (.iload 6, 2) := dcO tk_X5_wetFor_0 28 rfl
theorem dX5_wetFor_57 : decode cX5_wetFor 57 = .ok (.iload 4, 2) := dcO tk_X5_wetFor_0 29 rfl
theorem dX5_wetFor_59 : decode cX5_wetFor 59 = .ok (.if_icmp .ge 10, 3) := dcO tk_X5_wetFor_0 30 rfl
theorem dX5_wetFor_62 : decode cX5_wetFor 62 = .ok (.iload 6, 2) := dcO tk_X5_wetFor_0 31 rfl
theorem dX5_wetFor_64 : decode cX5_wetFor 64 = .ok (.istore 4, 2) := dcO tk_X5_wetFor_0 32 rfl
theorem dX5_wetFor_66 : decode cX5_wetFor 66 = .ok (.iload 5, 2) := dcO tk_X5_wetFor_0 33 rfl
theorem dX5_wetFor_68 : decode cX5_wetFor 68 = .ok (.istore_n 3, 1) := dcO tk_X5_wetFor_0 34 rfl
theorem dX5_wetFor_69 : decode cX5_wetFor 69 = .ok (.iinc 5 1, 3) := dcO tk_X5_wetFor_0 35 rfl
theorem dX5_wetFor_72 : decode cX5_wetFor 72 = .ok (.goto (-41), 3) := dcO tk_X5_wetFor_0 36 rfl
theorem dX5_wetFor_75 : decode cX5_wetFor 75 = .ok (.iload_n 3, 1) := dcO tk_X5_wetFor_0 37 rfl
theorem dX5_wetFor_76 : decode cX5_wetFor 76 = .ok (.ldc 172, 2) := dcO tk_X5_wetFor_0 38 rfl
theorem dX5_wetFor_78 : decode cX5_wetFor 78 = .ok (.if_icmp .ne 12, 3) := dcO tk_X5_wetFor_0 39 rfl
abbrev tb_X5_wetFor_1 : List (Nat × Instr × Nat) := [(81, .aload_n 0, 1), (82, .ldc 172, 2), (84, .invokevirtual 64, 3), (87, .goto 4, 3), (90, .iload_n 3, 1), (91, .ireturn, 1)]
theorem tk_X5_wetFor_1 : dcA cX5_wetFor tb_X5_wetFor_1 = true := by decide +kernel
theorem dX5_wetFor_81 : decode cX5_wetFor 81 = .ok (.aload_n 0, 1) := dcO tk_X5_wetFor_1 0 rfl
theorem dX5_wetFor_82 : decode cX5_wetFor 82 = .ok (.ldc 172, 2) := dcO tk_X5_wetFor_1 1 rfl
theorem dX5_wetFor_84 : decode cX5_wetFor 84 = .ok (.invokevirtual 64, 3) := dcO tk_X5_wetFor_1 2 rfl
theorem dX5_wetFor_87 : decode cX5_wetFor 87 = .ok (.goto 4, 3) := dcO tk_X5_wetFor_1 3 rfl
theorem dX5_wetFor_90 : decode cX5_wetFor 90 = .ok (.iload_n 3, 1) := dcO tk_X5_wetFor_1 4 rfl
theorem dX5_wetFor_91 : decode cX5_wetFor 91 = .ok (.ireturn, 1) := dcO tk_X5_wetFor_1 5 rfl
abbrev tb_X5_comes_0 : List (Nat × Instr × Nat) := [(0, .aload_n 0, 1), (1, .iload_n 1, 1), (2, .invokevirtual 93, 3), (5, .ifCond .ne 10, 3), (8, .aload_n 0, 1), (9, .ldc 63, 2), (11, .invokevirtual 64, 3), (14, .ireturn, 1), (15, .aload_n 0, 1), (16, .getfield 22, 3), (19, .aload_n 0, 1), (20, .getfield 12, 3), (23, .iload_n 1, 1), (24, .aload_n 0, 1), (25, .getfield 12, 3), (28, .getfield 184, 3), (31, .iload_n 1, 1), (32, .iaload, 1), (33, .invokevirtual 187, 3), (36, .istore_n 2, 1), (37, .iload_n 2, 1), (38, .bipush 101, 2), (40, .if_icmp .ne 12, 3), (43, .aload_n 0, 1), (44, .ldc 172, 2), (46, .invokevirtual 64, 3), (49, .goto 4, 3), (52, .iload_n 2, 1), (53, .ireturn, 1)]
theorem tk_X5_comes_0 : dcA cX5_comes tb_X5_comes_0 = true := by decide +kernel
theorem dX5_comes_0 : decode cX5_comes 0 = .ok (.aload_n 0, 1) := dcO tk_X5_comes_0 0 rfl
theorem dX5_comes_1 : decode cX5_comes 1 = .ok (.iload_n 1, 1) := dcO tk_X5_comes_0 1 rfl
theorem dX5_comes_2 : decode cX5_comes 2 = .ok (.invokevirtual 93, 3) := dcO tk_X5_comes_0 2 rfl
theorem dX5_comes_5 : decode cX5_comes 5 = .ok (.ifCond .ne 10, 3) := dcO tk_X5_comes_0 3 rfl
theorem dX5_comes_8 : decode cX5_comes 8 = .ok (.aload_n 0, 1) := dcO tk_X5_comes_0 4 rfl
theorem dX5_comes_9 : decode cX5_comes 9 = .ok (.ldc 63, 2) := dcO tk_X5_comes_0 5 rfl
theorem dX5_comes_11 : decode cX5_comes 11 = .ok (.invokevirtual 64, 3) := dcO tk_X5_comes_0 6 rfl
theorem dX5_comes_14 : decode cX5_comes 14 = .ok (.ireturn, 1) := dcO tk_X5_comes_0 7 rfl
theorem dX5_comes_15 : decode cX5_comes 15 = .ok (.aload_n 0, 1) := dcO tk_X5_comes_0 8 rfl
theorem dX5_comes_16 : decode cX5_comes 16 = .ok (.getfield 22, 3) := dcO tk_X5_comes_0 9 rfl
theorem dX5_comes_19 : decode cX5_comes 19 = .ok (.aload_n 0, 1) := dcO tk_X5_comes_0 10 rfl
theorem dX5_comes_20 : decode cX5_comes 20 = .ok (.getfield 12, 3) := dcO tk_X5_comes_0 11 rfl
theorem dX5_comes_23 : decode cX5_comes 23 = .ok (.iload_n 1, 1) := dcO tk_X5_comes_0 12 rfl
theorem dX5_comes_24 : decode cX5_comes 24 = .ok (.aload_n 0, 1) := dcO tk_X5_comes_0 13 rfl
theorem dX5_comes_25 : decode cX5_comes 25 = .ok (.getfield 12, 3) := dcO tk_X5_comes_0 14 rfl
theorem dX5_comes_28 : decode cX5_comes 28 = .ok (.getfield 184, 3) := dcO tk_X5_comes_0 15 rfl
theorem dX5_comes_31 : decode cX5_comes 31 = .ok (.iload_n 1, 1) := dcO tk_X5_comes_0 16 rfl
theorem dX5_comes_32 : decode cX5_comes 32 = .ok (.iaload, 1) := dcO tk_X5_comes_0 17 rfl
theorem dX5_comes_33 : decode cX5_comes 33 = .ok (.invokevirtual 187, 3) := dcO tk_X5_comes_0 18 rfl
theorem dX5_comes_36 : decode cX5_comes 36 = .ok (.istore_n 2, 1) := dcO tk_X5_comes_0 19 rfl
theorem dX5_comes_37 : decode cX5_comes 37 = .ok (.iload_n 2, 1) := dcO tk_X5_comes_0 20 rfl
theorem dX5_comes_38 : decode cX5_comes 38 = .ok (.bipush 101, 2) := dcO tk_X5_comes_0 21 rfl
theorem dX5_comes_40 : decode cX5_comes 40 = .ok (.if_icmp .ne 12, 3) := dcO tk_X5_comes_0 22 rfl
theorem dX5_comes_43 : decode cX5_comes 43 = .ok (.aload_n 0, 1) := dcO tk_X5_comes_0 23 rfl
theorem dX5_comes_44 : decode cX5_comes 44 = .ok (.ldc 172, 2) := dcO tk_X5_comes_0 24 rfl
theorem dX5_comes_46 : decode cX5_comes 46 = .ok (.invokevirtual 64, 3) := dcO tk_X5_comes_0 25 rfl
theorem dX5_comes_49 : decode cX5_comes 49 = .ok (.goto 4, 3) := dcO tk_X5_comes_0 26 rfl
theorem dX5_comes_52 : decode cX5_comes 52 = .ok (.iload_n 2, 1) := dcO tk_X5_comes_0 27 rfl
theorem dX5_comes_53 : decode cX5_comes 53 = .ok (.ireturn, 1) := dcO tk_X5_comes_0 28 rfl
abbrev tb_X5_kindFor_0 : List (Nat × Instr × Nat) := [(0, .aload_n 0, 1), (1, .iload_n 1, 1), (2, .invokevirtual 93, 3), (5, .ifCond .ne 10, 3), (8, .aload_n 0, 1), (9, .ldc 63, 2), (11, .invokevirtual 64, 3), (14, .ireturn, 1), (15, .ldc 172, 2), (17, .istore_n 2, 1), (18, .bipush 101, 2), (20, .istore_n 3, 1), (21, .iconst 0, 1), (22, .istore 4, 2), (24, .iload 4, 2), (26, .bipush 7, 2), (28, .if_icmp .ge 37, 3), (31, .aload_n 0, 1), (32, .getfield 22, 3), (35, .aload_n 0, 1), (36, .getfield 12, 3), (39, .iload_n 1, 1), (40, .iload 4, 2), (42, .invokevirtual 187, 3), (45, .istore 5, 2), (47, .iload 5, 2), (49, .iload_n 3, 1), (50, .if_icmp .ge 9, 3), (53, .iload 5, 2), (55, .istore_n 3, 1), (56, .iload 4, 2), (58, .istore_n 2, 1), (59, .iinc 4 1, 3), (62, .goto (-38), 3), (65, .iload_n 2, 1), (66, .ldc 172, 2), (68, .if_icmp .ne 12, 3), (71, .aload_n 0, 1), (72, .ldc 172, 2), (74, .invokevirtual 64, 3)]
theorem tk_X5_kindFor_0 : dcA cX5_kindFor tb_X5_kindFor_0 = true := by decide +kernel
theorem dX5_kindFor_0 : decode cX5_kindFor 0 = .ok (.aload_n 0, 1) := dcO tk_X5_kindFor_0 0 rfl
theorem dX5_kindFor_1 : decode cX5_kindFor 1 = .ok (.iload_n 1, 1) := dcO tk_X5_kindFor_0 1 rfl
theorem dX5_kindFor_2 : decode cX5_kindFor 2 = .ok (.invokevirtual 93, 3) := dcO tk_X5_kindFor_0 2 rfl
theorem dX5_kindFor_5 : decode cX5_kindFor 5 = .ok (.ifCond .ne 10, 3) := dcO tk_X5_kindFor_0 3 rfl
theorem dX5_kindFor_8 : decode cX5_kindFor 8 = .ok (.aload_n 0, 1) := dcO tk_X5_kindFor_0 4 rfl
theorem dX5_kindFor_9 : decode cX5_kindFor 9 = .ok (.ldc 63, 2) := dcO tk_X5_kindFor_0 5 rfl
theorem dX5_kindFor_11 : decode cX5_kindFor 11 = .ok (.invokevirtual 64, 3) := dcO tk_X5_kindFor_0 6 rfl
theorem dX5_kindFor_14 : decode cX5_kindFor 14 = .ok (.ireturn, 1) := dcO tk_X5_kindFor_0 7 rfl
theorem dX5_kindFor_15 : decode cX5_kindFor 15 = .ok (.ldc 172, 2) := dcO tk_X5_kindFor_0 8 rfl
theorem dX5_kindFor_17 : decode cX5_kindFor 17 = .ok (.istore_n 2, 1) := dcO tk_X5_kindFor_0 9 rfl
theorem dX5_kindFor_18 : decode cX5_kindFor 18 = .ok (.bipush 101, 2) := dcO tk_X5_kindFor_0 10 rfl
theorem dX5_kindFor_20 : decode cX5_kindFor 20 = .ok (.istore_n 3, 1) := dcO tk_X5_kindFor_0 11 rfl
theorem dX5_kindFor_21 : decode cX5_kindFor 21 = .ok (.iconst 0, 1) := dcO tk_X5_kindFor_0 12 rfl
theorem dX5_kindFor_22 : decode cX5_kindFor 22 = .ok (.istore 4, 2) := dcO tk_X5_kindFor_0 13 rfl
theorem dX5_kindFor_24 : decode cX5_kindFor 24 = .ok (.iload 4, 2) := dcO tk_X5_kindFor_0 14 rfl
theorem dX5_kindFor_26 : decode cX5_kindFor 26 = .ok (.bipush 7, 2) := dcO tk_X5_kindFor_0 15 rfl
theorem dX5_kindFor_28 : decode cX5_kindFor 28 = .ok (.if_icmp .ge 37, 3) := dcO tk_X5_kindFor_0 16 rfl
theorem dX5_kindFor_31 : decode cX5_kindFor 31 = .ok (.aload_n 0, 1) := dcO tk_X5_kindFor_0 17 rfl
theorem dX5_kindFor_32 : decode cX5_kindFor 32 = .ok (.getfield 22, 3) := dcO tk_X5_kindFor_0 18 rfl
theorem dX5_kindFor_35 : decode cX5_kindFor 35 = .ok (.aload_n 0, 1) := dcO tk_X5_kindFor_0 19 rfl
theorem dX5_kindFor_36 : decode cX5_kindFor 36 = .ok (.getfield 12, 3) := dcO tk_X5_kindFor_0 20 rfl
theorem dX5_kindFor_39 : decode cX5_kindFor 39 = .ok (.iload_n 1, 1) := dcO tk_X5_kindFor_0 21 rfl
theorem dX5_kindFor_40 : decode cX5_kindFor 40 = .ok (.iload 4, 2) := dcO tk_X5_kindFor_0 22 rfl
theorem dX5_kindFor_42 : decode cX5_kindFor 42 = .ok (.invokevirtual 187, 3) := dcO tk_X5_kindFor_0 23 rfl
theorem dX5_kindFor_45 : decode cX5_kindFor 45 = .ok (.istore 5, 2) := dcO tk_X5_kindFor_0 24 rfl
theorem dX5_kindFor_47 : decode cX5_kindFor 47 = .ok (.iload 5, 2) := dcO tk_X5_kindFor_0 25 rfl
theorem dX5_kindFor_49 : decode cX5_kindFor 49 = .ok (.iload_n 3, 1) := dcO tk_X5_kindFor_0 26 rfl
theorem dX5_kindFor_50 : decode cX5_kindFor 50 = .ok (.if_icmp .ge 9, 3) := dcO tk_X5_kindFor_0 27 rfl
theorem dX5_kindFor_53 : decode cX5_kindFor 53 = .ok (.iload 5, 2) := dcO tk_X5_kindFor_0 28 rfl
theorem dX5_kindFor_55 : decode cX5_kindFor 55 = .ok (.istore_n 3, 1) := dcO tk_X5_kindFor_0 29 rfl
theorem dX5_kindFor_56 : decode cX5_kindFor 56 = .ok (.iload 4, 2) := dcO tk_X5_kindFor_0 30 rfl
theorem dX5_kindFor_58 : decode cX5_kindFor 58 = .ok (.istore_n 2, 1) := dcO tk_X5_kindFor_0 31 rfl
theorem dX5_kindFor_59 : decode cX5_kindFor 59 = .ok (.iinc 4 1, 3) := dcO tk_X5_kindFor_0 32 rfl
theorem dX5_kindFor_62 : decode cX5_kindFor 62 = .ok (.goto (-38), 3) := dcO tk_X5_kindFor_0 33 rfl
theorem dX5_kindFor_65 : decode cX5_kindFor 65 = .ok (.iload_n 2, 1) := dcO tk_X5_kindFor_0 34 rfl
theorem dX5_kindFor_66 : decode cX5_kindFor 66 = .ok (.ldc 172, 2) := dcO tk_X5_kindFor_0 35 rfl
theorem dX5_kindFor_68 : decode cX5_kindFor 68 = .ok (.if_icmp .ne 12, 3) := dcO tk_X5_kindFor_0 36 rfl
theorem dX5_kindFor_71 : decode cX5_kindFor 71 = .ok (.aload_n 0, 1) := dcO tk_X5_kindFor_0 37 rfl
theorem dX5_kindFor_72 : decode cX5_kindFor 72 = .ok (.ldc 172, 2) := dcO tk_X5_kindFor_0 38 rfl
theorem dX5_kindFor_74 : decode cX5_kindFor 74 = .ok (.invokevirtual 64, 3) := dcO tk_X5_kindFor_0 39 rfl
abbrev tb_X5_kindFor_1 : List (Nat × Instr × Nat) := [(77, .goto 4, 3), (80, .iload_n 2, 1), (81, .ireturn, 1)]
theorem tk_X5_kindFor_1 : dcA cX5_kindFor tb_X5_kindFor_1 = true := by decide +kernel
theorem dX5_kindFor_77 : decode cX5_kindFor 77 = .ok (.goto 4, 3) := dcO tk_X5_kindFor_1 0 rfl
theorem dX5_kindFor_80 : decode cX5_kindFor 80 = .ok (.iload_n 2, 1) := dcO tk_X5_kindFor_1 1 rfl
theorem dX5_kindFor_81 : decode cX5_kindFor 81 = .ok (.ireturn, 1) := dcO tk_X5_kindFor_1 2 rfl
abbrev tb_X5_overtakes_0 : List (Nat × Instr × Nat) := [(0, .aload_n 0, 1), (1, .iload_n 1, 1), (2, .invokevirtual 93, 3), (5, .ifCond .eq 16, 3), (8, .aload_n 0, 1), (9, .iload_n 2, 1), (10, .invokevirtual 93, 3), (13, .ifCond .eq 8, 3), (16, .iload_n 1, 1), (17, .iload_n 2, 1), (18, .if_icmp .ne 10, 3), (21, .aload_n 0, 1), (22, .ldc 63, 2), (24, .invokevirtual 64, 3), (27, .ireturn, 1), (28, .aload_n 0, 1), (29, .getfield 22, 3), (32, .aload_n 0, 1), (33, .getfield 12, 3), (36, .iload_n 1, 1), (37, .iload_n 2, 1), (38, .invokevirtual 191, 3), (41, .istore_n 3, 1), (42, .iload_n 3, 1), (43, .bipush 101, 2), (45, .if_icmp .ne 12, 3), (48, .aload_n 0, 1), (49, .ldc 172, 2), (51, .invokevirtual 64, 3), (54, .goto 4, 3), (57, .iload_n 3, 1), (58, .ireturn, 1)]
theorem tk_X5_overtakes_0 : dcA cX5_overtakes tb_X5_overtakes_0 = true := by decide +kernel
theorem dX5_overtakes_0 : decode cX5_overtakes 0 = .ok (.aload_n 0, 1) := dcO tk_X5_overtakes_0 0 rfl
theorem dX5_overtakes_1 : decode cX5_overtakes 1 = .ok (.iload_n 1, 1) := dcO tk_X5_overtakes_0 1 rfl
theorem dX5_overtakes_2 : decode cX5_overtakes 2 = .ok (.invokevirtual 93, 3) := dcO tk_X5_overtakes_0 2 rfl
theorem dX5_overtakes_5 : decode cX5_overtakes 5 = .ok (.ifCond .eq 16, 3) := dcO tk_X5_overtakes_0 3 rfl
theorem dX5_overtakes_8 : decode cX5_overtakes 8 = .ok (.aload_n 0, 1) := dcO tk_X5_overtakes_0 4 rfl
theorem dX5_overtakes_9 : decode cX5_overtakes 9 = .ok (.iload_n 2, 1) := dcO tk_X5_overtakes_0 5 rfl
theorem dX5_overtakes_10 : decode cX5_overtakes 10 = .ok (.invokevirtual 93, 3) := dcO tk_X5_overtakes_0 6 rfl
theorem dX5_overtakes_13 : decode cX5_overtakes 13 = .ok (.ifCond .eq 8, 3) := dcO tk_X5_overtakes_0 7 rfl
theorem dX5_overtakes_16 : decode cX5_overtakes 16 = .ok (.iload_n 1, 1) := dcO tk_X5_overtakes_0 8 rfl
theorem dX5_overtakes_17 : decode cX5_overtakes 17 = .ok (.iload_n 2, 1) := dcO tk_X5_overtakes_0 9 rfl
theorem dX5_overtakes_18 : decode cX5_overtakes 18 = .ok (.if_icmp .ne 10, 3) := dcO tk_X5_overtakes_0 10 rfl
theorem dX5_overtakes_21 : decode cX5_overtakes 21 = .ok (.aload_n 0, 1) := dcO tk_X5_overtakes_0 11 rfl
theorem dX5_overtakes_22 : decode cX5_overtakes 22 = .ok (.ldc 63, 2) := dcO tk_X5_overtakes_0 12 rfl
theorem dX5_overtakes_24 : decode cX5_overtakes 24 = .ok (.invokevirtual 64, 3) := dcO tk_X5_overtakes_0 13 rfl
theorem dX5_overtakes_27 : decode cX5_overtakes 27 = .ok (.ireturn, 1) := dcO tk_X5_overtakes_0 14 rfl
theorem dX5_overtakes_28 : decode cX5_overtakes 28 = .ok (.aload_n 0, 1) := dcO tk_X5_overtakes_0 15 rfl
theorem dX5_overtakes_29 : decode cX5_overtakes 29 = .ok (.getfield 22, 3) := dcO tk_X5_overtakes_0 16 rfl
theorem dX5_overtakes_32 : decode cX5_overtakes 32 = .ok (.aload_n 0, 1) := dcO tk_X5_overtakes_0 17 rfl
theorem dX5_overtakes_33 : decode cX5_overtakes 33 = .ok (.getfield 12, 3) := dcO tk_X5_overtakes_0 18 rfl
theorem dX5_overtakes_36 : decode cX5_overtakes 36 = .ok (.iload_n 1, 1) := dcO tk_X5_overtakes_0 19 rfl
theorem dX5_overtakes_37 : decode cX5_overtakes 37 = .ok (.iload_n 2, 1) := dcO tk_X5_overtakes_0 20 rfl
theorem dX5_overtakes_38 : decode cX5_overtakes 38 = .ok (.invokevirtual 191, 3) := dcO tk_X5_overtakes_0 21 rfl
theorem dX5_overtakes_41 : decode cX5_overtakes 41 = .ok (.istore_n 3, 1) := dcO tk_X5_overtakes_0 22 rfl
theorem dX5_overtakes_42 : decode cX5_overtakes 42 = .ok (.iload_n 3, 1) := dcO tk_X5_overtakes_0 23 rfl
theorem dX5_overtakes_43 : decode cX5_overtakes 43 = .ok (.bipush 101, 2) := dcO tk_X5_overtakes_0 24 rfl
theorem dX5_overtakes_45 : decode cX5_overtakes 45 = .ok (.if_icmp .ne 12, 3) := dcO tk_X5_overtakes_0 25 rfl
theorem dX5_overtakes_48 : decode cX5_overtakes 48 = .ok (.aload_n 0, 1) := dcO tk_X5_overtakes_0 26 rfl
theorem dX5_overtakes_49 : decode cX5_overtakes 49 = .ok (.ldc 172, 2) := dcO tk_X5_overtakes_0 27 rfl
theorem dX5_overtakes_51 : decode cX5_overtakes 51 = .ok (.invokevirtual 64, 3) := dcO tk_X5_overtakes_0 28 rfl
theorem dX5_overtakes_54 : decode cX5_overtakes 54 = .ok (.goto 4, 3) := dcO tk_X5_overtakes_0 29 rfl
theorem dX5_overtakes_57 : decode cX5_overtakes 57 = .ok (.iload_n 3, 1) := dcO tk_X5_overtakes_0 30 rfl
theorem dX5_overtakes_58 : decode cX5_overtakes 58 = .ok (.ireturn, 1) := dcO tk_X5_overtakes_0 31 rfl
abbrev tb_X5_lag_0 : List (Nat × Instr × Nat) := [(0, .iload_n 1, 1), (1, .invokestatic 112, 3), (4, .ifCond .eq 17, 3), (7, .iload_n 2, 1), (8, .invokestatic 112, 3), (11, .ifCond .eq 10, 3), (14, .iload_n 3, 1), (15, .invokestatic 55, 3), (18, .ifCond .ne 10, 3), (21, .aload_n 0, 1), (22, .ldc 63, 2), (24, .invokevirtual 64, 3), (27, .ireturn, 1), (28, .aload_n 0, 1), (29, .getfield 22, 3), (32, .aload_n 0, 1), (33, .getfield 12, 3), (36, .iload_n 1, 1), (37, .iload_n 3, 1), (38, .aload_n 0, 1), (39, .getfield 12, 3), (42, .getfield 118, 3), (45, .invokevirtual 180, 3), (48, .istore 4, 2), (50, .aload_n 0, 1), (51, .getfield 22, 3), (54, .aload_n 0, 1), (55, .getfield 12, 3), (58, .iload_n 2, 1), (59, .iload_n 3, 1), (60, .aload_n 0, 1), (61, .getfield 12, 3), (64, .getfield 118, 3), (67, .invokevirtual 180, 3), (70, .istore 5, 2), (72, .iload 4, 2), (74, .bipush 101, 2), (76, .if_icmp .eq 10, 3), (79, .iload 5, 2), (81, .bipush 101, 2)]
theorem tk_X5_lag_0 : dcA cX5_lag tb_X5_lag_0 = true := by decide +kernel
theorem dX5_lag_0 : decode cX5_lag 0 = .ok (.iload_n 1, 1) := dcO tk_X5_lag_0 0 rfl
theorem dX5_lag_1 : decode cX5_lag 1 = .ok (.invokestatic 112, 3) := dcO tk_X5_lag_0 1 rfl
theorem dX5_lag_4 : decode cX5_lag 4 = .ok (.ifCond .eq 17, 3) := dcO tk_X5_lag_0 2 rfl
theorem dX5_lag_7 : decode cX5_lag 7 = .ok (.iload_n 2, 1) := dcO tk_X5_lag_0 3 rfl
theorem dX5_lag_8 : decode cX5_lag 8 = .ok (.invokestatic 112, 3) := dcO tk_X5_lag_0 4 rfl
theorem dX5_lag_11 : decode cX5_lag 11 = .ok (.ifCond .eq 10, 3) := dcO tk_X5_lag_0 5 rfl
theorem dX5_lag_14 : decode cX5_lag 14 = .ok (.iload_n 3, 1) := dcO tk_X5_lag_0 6 rfl
theorem dX5_lag_15 : decode cX5_lag 15 = .ok (.invokestatic 55, 3) := dcO tk_X5_lag_0 7 rfl
theorem dX5_lag_18 : decode cX5_lag 18 = .ok (.ifCond .ne 10, 3) := dcO tk_X5_lag_0 8 rfl
theorem dX5_lag_21 : decode cX5_lag 21 = .ok (.aload_n 0, 1) := dcO tk_X5_lag_0 9 rfl
theorem dX5_lag_22 : decode cX5_lag 22 = .ok (.ldc 63, 2) := dcO tk_X5_lag_0 10 rfl
theorem dX5_lag_24 : decode cX5_lag 24 = .ok (.invokevirtual 64, 3) := dcO tk_X5_lag_0 11 rfl
theorem dX5_lag_27 : decode cX5_lag 27 = .ok (.ireturn, 1) := dcO tk_X5_lag_0 12 rfl
theorem dX5_lag_28 : decode cX5_lag 28 = .ok (.aload_n 0, 1) := dcO tk_X5_lag_0 13 rfl
theorem dX5_lag_29 : decode cX5_lag 29 = .ok (.getfield 22, 3) := dcO tk_X5_lag_0 14 rfl
theorem dX5_lag_32 : decode cX5_lag 32 = .ok (.aload_n 0, 1) := dcO tk_X5_lag_0 15 rfl
theorem dX5_lag_33 : decode cX5_lag 33 = .ok (.getfield 12, 3) := dcO tk_X5_lag_0 16 rfl
theorem dX5_lag_36 : decode cX5_lag 36 = .ok (.iload_n 1, 1) := dcO tk_X5_lag_0 17 rfl
theorem dX5_lag_37 : decode cX5_lag 37 = .ok (.iload_n 3, 1) := dcO tk_X5_lag_0 18 rfl
theorem dX5_lag_38 : decode cX5_lag 38 = .ok (.aload_n 0, 1) := dcO tk_X5_lag_0 19 rfl
theorem dX5_lag_39 : decode cX5_lag 39 = .ok (.getfield 12, 3) := dcO tk_X5_lag_0 20 rfl
theorem dX5_lag_42 : decode cX5_lag 42 = .ok (.getfield 118, 3) := dcO tk_X5_lag_0 21 rfl
theorem dX5_lag_45 : decode cX5_lag 45 = .ok (.invokevirtual 180, 3) := dcO tk_X5_lag_0 22 rfl
theorem dX5_lag_48 : decode cX5_lag 48 = .ok (.istore 4, 2) := dcO tk_X5_lag_0 23 rfl
theorem dX5_lag_50 : decode cX5_lag 50 = .ok (.aload_n 0, 1) := dcO tk_X5_lag_0 24 rfl
theorem dX5_lag_51 : decode cX5_lag 51 = .ok (.getfield 22, 3) := dcO tk_X5_lag_0 25 rfl
theorem dX5_lag_54 : decode cX5_lag 54 = .ok (.aload_n 0, 1) := dcO tk_X5_lag_0 26 rfl
theorem dX5_lag_55 : decode cX5_lag 55 = .ok (.getfield 12, 3) := dcO tk_X5_lag_0 27 rfl
theorem dX5_lag_58 : decode cX5_lag 58 = .ok (.iload_n 2, 1) := dcO tk_X5_lag_0 28 rfl
theorem dX5_lag_59 : decode cX5_lag 59 = .ok (.iload_n 3, 1) := dcO tk_X5_lag_0 29 rfl
theorem dX5_lag_60 : decode cX5_lag 60 = .ok (.aload_n 0, 1) := dcO tk_X5_lag_0 30 rfl
theorem dX5_lag_61 : decode cX5_lag 61 = .ok (.getfield 12, 3) := dcO tk_X5_lag_0 31 rfl
theorem dX5_lag_64 : decode cX5_lag 64 = .ok (.getfield 118, 3) := dcO tk_X5_lag_0 32 rfl
theorem dX5_lag_67 : decode cX5_lag 67 = .ok (.invokevirtual 180, 3) := dcO tk_X5_lag_0 33 rfl
theorem dX5_lag_70 : decode cX5_lag 70 = .ok (.istore 5, 2) := dcO tk_X5_lag_0 34 rfl
theorem dX5_lag_72 : decode cX5_lag 72 = .ok (.iload 4, 2) := dcO tk_X5_lag_0 35 rfl
theorem dX5_lag_74 : decode cX5_lag 74 = .ok (.bipush 101, 2) := dcO tk_X5_lag_0 36 rfl
theorem dX5_lag_76 : decode cX5_lag 76 = .ok (.if_icmp .eq 10, 3) := dcO tk_X5_lag_0 37 rfl
theorem dX5_lag_79 : decode cX5_lag 79 = .ok (.iload 5, 2) := dcO tk_X5_lag_0 38 rfl
theorem dX5_lag_81 : decode cX5_lag 81 = .ok (.bipush 101, 2) := dcO tk_X5_lag_0 39 rfl
abbrev tb_X5_lag_1 : List (Nat × Instr × Nat) := [(83, .if_icmp .ne 12, 3), (86, .aload_n 0, 1), (87, .ldc 172, 2), (89, .invokevirtual 64, 3), (92, .goto 8, 3), (95, .iload 4, 2), (97, .iload 5, 2), (99, .isub, 1), (100, .ireturn, 1)]
theorem tk_X5_lag_1 : dcA cX5_lag tb_X5_lag_1 = true := by decide +kernel
theorem dX5_lag_83 : decode cX5_lag 83 = .ok (.if_icmp .ne 12, 3) := dcO tk_X5_lag_1 0 rfl
theorem dX5_lag_86 : decode cX5_lag 86 = .ok (.aload_n 0, 1) := dcO tk_X5_lag_1 1 rfl
theorem dX5_lag_87 : decode cX5_lag 87 = .ok (.ldc 172, 2) := dcO tk_X5_lag_1 2 rfl
theorem dX5_lag_89 : decode cX5_lag 89 = .ok (.invokevirtual 64, 3) := dcO tk_X5_lag_1 3 rfl
theorem dX5_lag_92 : decode cX5_lag 92 = .ok (.goto 8, 3) := dcO tk_X5_lag_1 4 rfl
theorem dX5_lag_95 : decode cX5_lag 95 = .ok (.iload 4, 2) := dcO tk_X5_lag_1 5 rfl
theorem dX5_lag_97 : decode cX5_lag 97 = .ok (.iload 5, 2) := dcO tk_X5_lag_1 6 rfl
theorem dX5_lag_99 : decode cX5_lag 99 = .ok (.isub, 1) := dcO tk_X5_lag_1 7 rfl
theorem dX5_lag_100 : decode cX5_lag 100 = .ok (.ireturn, 1) := dcO tk_X5_lag_1 8 rfl
abbrev tb_X5_clash_0 : List (Nat × Instr × Nat) := [(0, .iload_n 1, 1), (1, .bipush 40, 2), (3, .invokestatic 59, 3), (6, .ifCond .ne 10, 3), (9, .aload_n 0, 1), (10, .ldc 63, 2), (12, .invokevirtual 64, 3), (15, .ireturn, 1), (16, .aload_n 0, 1), (17, .getfield 22, 3), (20, .aload_n 0, 1), (21, .getfield 12, 3), (24, .iload_n 1, 1), (25, .invokevirtual 194, 3), (28, .istore_n 2, 1), (29, .iload_n 2, 1), (30, .ldc 172, 2), (32, .if_icmp .ne 12, 3), (35, .aload_n 0, 1), (36, .ldc 172, 2), (38, .invokevirtual 64, 3), (41, .goto 4, 3), (44, .iload_n 2, 1), (45, .ireturn, 1)]
theorem tk_X5_clash_0 : dcA cX5_clash tb_X5_clash_0 = true := by decide +kernel
theorem dX5_clash_0 : decode cX5_clash 0 = .ok (.iload_n 1, 1) := dcO tk_X5_clash_0 0 rfl
theorem dX5_clash_1 : decode cX5_clash 1 = .ok (.bipush 40, 2) := dcO tk_X5_clash_0 1 rfl
theorem dX5_clash_3 : decode cX5_clash 3 = .ok (.invokestatic 59, 3) := dcO tk_X5_clash_0 2 rfl
theorem dX5_clash_6 : decode cX5_clash 6 = .ok (.ifCond .ne 10, 3) := dcO tk_X5_clash_0 3 rfl
theorem dX5_clash_9 : decode cX5_clash 9 = .ok (.aload_n 0, 1) := dcO tk_X5_clash_0 4 rfl
theorem dX5_clash_10 : decode cX5_clash 10 = .ok (.ldc 63, 2) := dcO tk_X5_clash_0 5 rfl
theorem dX5_clash_12 : decode cX5_clash 12 = .ok (.invokevirtual 64, 3) := dcO tk_X5_clash_0 6 rfl
theorem dX5_clash_15 : decode cX5_clash 15 = .ok (.ireturn, 1) := dcO tk_X5_clash_0 7 rfl
theorem dX5_clash_16 : decode cX5_clash 16 = .ok (.aload_n 0, 1) := dcO tk_X5_clash_0 8 rfl
theorem dX5_clash_17 : decode cX5_clash 17 = .ok (.getfield 22, 3) := dcO tk_X5_clash_0 9 rfl
theorem dX5_clash_20 : decode cX5_clash 20 = .ok (.aload_n 0, 1) := dcO tk_X5_clash_0 10 rfl
theorem dX5_clash_21 : decode cX5_clash 21 = .ok (.getfield 12, 3) := dcO tk_X5_clash_0 11 rfl
theorem dX5_clash_24 : decode cX5_clash 24 = .ok (.iload_n 1, 1) := dcO tk_X5_clash_0 12 rfl
theorem dX5_clash_25 : decode cX5_clash 25 = .ok (.invokevirtual 194, 3) := dcO tk_X5_clash_0 13 rfl
theorem dX5_clash_28 : decode cX5_clash 28 = .ok (.istore_n 2, 1) := dcO tk_X5_clash_0 14 rfl
theorem dX5_clash_29 : decode cX5_clash 29 = .ok (.iload_n 2, 1) := dcO tk_X5_clash_0 15 rfl
theorem dX5_clash_30 : decode cX5_clash 30 = .ok (.ldc 172, 2) := dcO tk_X5_clash_0 16 rfl
theorem dX5_clash_32 : decode cX5_clash 32 = .ok (.if_icmp .ne 12, 3) := dcO tk_X5_clash_0 17 rfl
theorem dX5_clash_35 : decode cX5_clash 35 = .ok (.aload_n 0, 1) := dcO tk_X5_clash_0 18 rfl
theorem dX5_clash_36 : decode cX5_clash 36 = .ok (.ldc 172, 2) := dcO tk_X5_clash_0 19 rfl
theorem dX5_clash_38 : decode cX5_clash 38 = .ok (.invokevirtual 64, 3) := dcO tk_X5_clash_0 20 rfl
theorem dX5_clash_41 : decode cX5_clash 41 = .ok (.goto 4, 3) := dcO tk_X5_clash_0 21 rfl
theorem dX5_clash_44 : decode cX5_clash 44 = .ok (.iload_n 2, 1) := dcO tk_X5_clash_0 22 rfl
theorem dX5_clash_45 : decode cX5_clash 45 = .ok (.ireturn, 1) := dcO tk_X5_clash_0 23 rfl
abbrev tb_X5_release_0 : List (Nat × Instr × Nat) := [(0, .iload_n 1, 1), (1, .invokestatic 112, 3), (4, .ifCond .eq 19, 3), (7, .iload_n 2, 1), (8, .invokestatic 55, 3), (11, .ifCond .eq 12, 3), (14, .iload_n 3, 1), (15, .bipush 40, 2), (17, .invokestatic 59, 3), (20, .ifCond .ne 10, 3), (23, .aload_n 0, 1), (24, .ldc 63, 2), (26, .invokevirtual 64, 3), (29, .ireturn, 1), (30, .aload_n 0, 1), (31, .getfield 22, 3), (34, .aload_n 0, 1), (35, .getfield 12, 3), (38, .iload_n 1, 1), (39, .iload_n 2, 1), (40, .iload_n 3, 1), (41, .invokevirtual 198, 3), (44, .istore 4, 2), (46, .iload 4, 2), (48, .ldc 172, 2), (50, .if_icmp .ne 12, 3), (53, .aload_n 0, 1), (54, .ldc 172, 2), (56, .invokevirtual 64, 3), (59, .goto 5, 3), (62, .iload 4, 2), (64, .ireturn, 1)]
theorem tk_X5_release_0 : dcA cX5_release tb_X5_release_0 = true := by decide +kernel
theorem dX5_release_0 : decode cX5_release 0 = .ok (.iload_n 1, 1) := dcO tk_X5_release_0 0 rfl
theorem dX5_release_1 : decode cX5_release 1 = .ok (.invokestatic 112, 3) := dcO tk_X5_release_0 1 rfl
theorem dX5_release_4 : decode cX5_release 4 = .ok (.ifCond .eq 19, 3) := dcO tk_X5_release_0 2 rfl
theorem dX5_release_7 : decode cX5_release 7 = .ok (.iload_n 2, 1) := dcO tk_X5_release_0 3 rfl
theorem dX5_release_8 : decode cX5_release 8 = .ok (.invokestatic 55, 3) := dcO tk_X5_release_0 4 rfl
theorem dX5_release_11 : decode cX5_release 11 = .ok (.ifCond .eq 12, 3) := dcO tk_X5_release_0 5 rfl
theorem dX5_release_14 : decode cX5_release 14 = .ok (.iload_n 3, 1) := dcO tk_X5_release_0 6 rfl
theorem dX5_release_15 : decode cX5_release 15 = .ok (.bipush 40, 2) := dcO tk_X5_release_0 7 rfl
theorem dX5_release_17 : decode cX5_release 17 = .ok (.invokestatic 59, 3) := dcO tk_X5_release_0 8 rfl
theorem dX5_release_20 : decode cX5_release 20 = .ok (.ifCond .ne 10, 3) := dcO tk_X5_release_0 9 rfl
theorem dX5_release_23 : decode cX5_release 23 = .ok (.aload_n 0, 1) := dcO tk_X5_release_0 10 rfl
theorem dX5_release_24 : decode cX5_release 24 = .ok (.ldc 63, 2) := dcO tk_X5_release_0 11 rfl
theorem dX5_release_26 : decode cX5_release 26 = .ok (.invokevirtual 64, 3) := dcO tk_X5_release_0 12 rfl
theorem dX5_release_29 : decode cX5_release 29 = .ok (.ireturn, 1) := dcO tk_X5_release_0 13 rfl
theorem dX5_release_30 : decode cX5_release 30 = .ok (.aload_n 0, 1) := dcO tk_X5_release_0 14 rfl
theorem dX5_release_31 : decode cX5_release 31 = .ok (.getfield 22, 3) := dcO tk_X5_release_0 15 rfl
theorem dX5_release_34 : decode cX5_release 34 = .ok (.aload_n 0, 1) := dcO tk_X5_release_0 16 rfl
theorem dX5_release_35 : decode cX5_release 35 = .ok (.getfield 12, 3) := dcO tk_X5_release_0 17 rfl
theorem dX5_release_38 : decode cX5_release 38 = .ok (.iload_n 1, 1) := dcO tk_X5_release_0 18 rfl
theorem dX5_release_39 : decode cX5_release 39 = .ok (.iload_n 2, 1) := dcO tk_X5_release_0 19 rfl
theorem dX5_release_40 : decode cX5_release 40 = .ok (.iload_n 3, 1) := dcO tk_X5_release_0 20 rfl
theorem dX5_release_41 : decode cX5_release 41 = .ok (.invokevirtual 198, 3) := dcO tk_X5_release_0 21 rfl
theorem dX5_release_44 : decode cX5_release 44 = .ok (.istore 4, 2) := dcO tk_X5_release_0 22 rfl
theorem dX5_release_46 : decode cX5_release 46 = .ok (.iload 4, 2) := dcO tk_X5_release_0 23 rfl
theorem dX5_release_48 : decode cX5_release 48 = .ok (.ldc 172, 2) := dcO tk_X5_release_0 24 rfl
theorem dX5_release_50 : decode cX5_release 50 = .ok (.if_icmp .ne 12, 3) := dcO tk_X5_release_0 25 rfl
theorem dX5_release_53 : decode cX5_release 53 = .ok (.aload_n 0, 1) := dcO tk_X5_release_0 26 rfl
theorem dX5_release_54 : decode cX5_release 54 = .ok (.ldc 172, 2) := dcO tk_X5_release_0 27 rfl
theorem dX5_release_56 : decode cX5_release 56 = .ok (.invokevirtual 64, 3) := dcO tk_X5_release_0 28 rfl
theorem dX5_release_59 : decode cX5_release 59 = .ok (.goto 5, 3) := dcO tk_X5_release_0 29 rfl
theorem dX5_release_62 : decode cX5_release 62 = .ok (.iload 4, 2) := dcO tk_X5_release_0 30 rfl
theorem dX5_release_64 : decode cX5_release 64 = .ok (.ireturn, 1) := dcO tk_X5_release_0 31 rfl
abbrev tb_X5_costs_0 : List (Nat × Instr × Nat) := [(0, .iload_n 1, 1), (1, .invokestatic 112, 3), (4, .ifCond .eq 19, 3), (7, .iload_n 2, 1), (8, .invokestatic 55, 3), (11, .ifCond .eq 12, 3), (14, .iload_n 3, 1), (15, .bipush 40, 2), (17, .invokestatic 59, 3), (20, .ifCond .ne 10, 3), (23, .aload_n 0, 1), (24, .ldc 63, 2), (26, .invokevirtual 64, 3), (29, .ireturn, 1), (30, .aload_n 0, 1), (31, .getfield 22, 3), (34, .aload_n 0, 1), (35, .getfield 12, 3), (38, .iload_n 1, 1), (39, .iload_n 2, 1), (40, .iload_n 3, 1), (41, .invokevirtual 198, 3), (44, .istore 4, 2), (46, .iload 4, 2), (48, .ldc 172, 2), (50, .if_icmp .ne 12, 3), (53, .aload_n 0, 1), (54, .ldc 172, 2), (56, .invokevirtual 64, 3), (59, .goto 12, 3), (62, .aload_n 0, 1), (63, .getfield 12, 3), (66, .iload 4, 2), (68, .invokevirtual 201, 3), (71, .ireturn, 1)]
theorem tk_X5_costs_0 : dcA cX5_costs tb_X5_costs_0 = true := by decide +kernel
theorem dX5_costs_0 : decode cX5_costs 0 = .ok (.iload_n 1, 1) := dcO tk_X5_costs_0 0 rfl
theorem dX5_costs_1 : decode cX5_costs 1 = .ok (.invokestatic 112, 3) := dcO tk_X5_costs_0 1 rfl
theorem dX5_costs_4 : decode cX5_costs 4 = .ok (.ifCond .eq 19, 3) := dcO tk_X5_costs_0 2 rfl
theorem dX5_costs_7 : decode cX5_costs 7 = .ok (.iload_n 2, 1) := dcO tk_X5_costs_0 3 rfl
theorem dX5_costs_8 : decode cX5_costs 8 = .ok (.invokestatic 55, 3) := dcO tk_X5_costs_0 4 rfl
theorem dX5_costs_11 : decode cX5_costs 11 = .ok (.ifCond .eq 12, 3) := dcO tk_X5_costs_0 5 rfl
theorem dX5_costs_14 : decode cX5_costs 14 = .ok (.iload_n 3, 1) := dcO tk_X5_costs_0 6 rfl
theorem dX5_costs_15 : decode cX5_costs 15 = .ok (.bipush 40, 2) := dcO tk_X5_costs_0 7 rfl
theorem dX5_costs_17 : decode cX5_costs 17 = .ok (.invokestatic 59, 3) := dcO tk_X5_costs_0 8 rfl
theorem dX5_costs_20 : decode cX5_costs 20 = .ok (.ifCond .ne 10, 3) := dcO tk_X5_costs_0 9 rfl
theorem dX5_costs_23 : decode cX5_costs 23 = .ok (.aload_n 0, 1) := dcO tk_X5_costs_0 10 rfl
theorem dX5_costs_24 : decode cX5_costs 24 = .ok (.ldc 63, 2) := dcO tk_X5_costs_0 11 rfl
theorem dX5_costs_26 : decode cX5_costs 26 = .ok (.invokevirtual 64, 3) := dcO tk_X5_costs_0 12 rfl
theorem dX5_costs_29 : decode cX5_costs 29 = .ok (.ireturn, 1) := dcO tk_X5_costs_0 13 rfl
theorem dX5_costs_30 : decode cX5_costs 30 = .ok (.aload_n 0, 1) := dcO tk_X5_costs_0 14 rfl
theorem dX5_costs_31 : decode cX5_costs 31 = .ok (.getfield 22, 3) := dcO tk_X5_costs_0 15 rfl
theorem dX5_costs_34 : decode cX5_costs 34 = .ok (.aload_n 0, 1) := dcO tk_X5_costs_0 16 rfl
theorem dX5_costs_35 : decode cX5_costs 35 = .ok (.getfield 12, 3) := dcO tk_X5_costs_0 17 rfl
theorem dX5_costs_38 : decode cX5_costs 38 = .ok (.iload_n 1, 1) := dcO tk_X5_costs_0 18 rfl
theorem dX5_costs_39 : decode cX5_costs 39 = .ok (.iload_n 2, 1) := dcO tk_X5_costs_0 19 rfl
theorem dX5_costs_40 : decode cX5_costs 40 = .ok (.iload_n 3, 1) := dcO tk_X5_costs_0 20 rfl
theorem dX5_costs_41 : decode cX5_costs 41 = .ok (.invokevirtual 198, 3) := dcO tk_X5_costs_0 21 rfl
theorem dX5_costs_44 : decode cX5_costs 44 = .ok (.istore 4, 2) := dcO tk_X5_costs_0 22 rfl
theorem dX5_costs_46 : decode cX5_costs 46 = .ok (.iload 4, 2) := dcO tk_X5_costs_0 23 rfl
theorem dX5_costs_48 : decode cX5_costs 48 = .ok (.ldc 172, 2) := dcO tk_X5_costs_0 24 rfl
theorem dX5_costs_50 : decode cX5_costs 50 = .ok (.if_icmp .ne 12, 3) := dcO tk_X5_costs_0 25 rfl
theorem dX5_costs_53 : decode cX5_costs 53 = .ok (.aload_n 0, 1) := dcO tk_X5_costs_0 26 rfl
theorem dX5_costs_54 : decode cX5_costs 54 = .ok (.ldc 172, 2) := dcO tk_X5_costs_0 27 rfl
theorem dX5_costs_56 : decode cX5_costs 56 = .ok (.invokevirtual 64, 3) := dcO tk_X5_costs_0 28 rfl
theorem dX5_costs_59 : decode cX5_costs 59 = .ok (.goto 12, 3) := dcO tk_X5_costs_0 29 rfl
theorem dX5_costs_62 : decode cX5_costs 62 = .ok (.aload_n 0, 1) := dcO tk_X5_costs_0 30 rfl
theorem dX5_costs_63 : decode cX5_costs 63 = .ok (.getfield 12, 3) := dcO tk_X5_costs_0 31 rfl
theorem dX5_costs_66 : decode cX5_costs 66 = .ok (.iload 4, 2) := dcO tk_X5_costs_0 32 rfl
theorem dX5_costs_68 : decode cX5_costs 68 = .ok (.invokevirtual 201, 3) := dcO tk_X5_costs_0 33 rfl
theorem dX5_costs_71 : decode cX5_costs 71 = .ok (.ireturn, 1) := dcO tk_X5_costs_0 34 rfl
abbrev tb_X5_farthest_0 : List (Nat × Instr × Nat) := [(0, .aload_n 0, 1), (1, .iload_n 1, 1), (2, .invokevirtual 93, 3), (5, .ifCond .eq 12, 3), (8, .iload_n 2, 1), (9, .bipush 40, 2), (11, .invokestatic 59, 3), (14, .ifCond .ne 10, 3), (17, .aload_n 0, 1), (18, .ldc 63, 2), (20, .invokevirtual 64, 3), (23, .ireturn, 1), (24, .aload_n 0, 1), (25, .getfield 12, 3), (28, .getfield 68, 3), (31, .aload_n 0, 1), (32, .getfield 12, 3), (35, .getfield 99, 3), (38, .iload_n 1, 1), (39, .iaload, 1), (40, .iaload, 1), (41, .iconst 1, 1), (42, .if_icmp .ne 10, 3), (45, .aload_n 0, 1), (46, .ldc 172, 2), (48, .invokevirtual 64, 3), (51, .ireturn, 1), (52, .aload_n 0, 1), (53, .getfield 22, 3), (56, .aload_n 0, 1), (57, .getfield 12, 3), (60, .iload_n 1, 1), (61, .iload_n 2, 1), (62, .invokevirtual 204, 3), (65, .ireturn, 1)]
theorem tk_X5_farthest_0 : dcA cX5_farthest tb_X5_farthest_0 = true := by decide +kernel
theorem dX5_farthest_0 : decode cX5_farthest 0 = .ok (.aload_n 0, 1) := dcO tk_X5_farthest_0 0 rfl
theorem dX5_farthest_1 : decode cX5_farthest 1 = .ok (.iload_n 1, 1) := dcO tk_X5_farthest_0 1 rfl
theorem dX5_farthest_2 : decode cX5_farthest 2 = .ok (.invokevirtual 93, 3) := dcO tk_X5_farthest_0 2 rfl
theorem dX5_farthest_5 : decode cX5_farthest 5 = .ok (.ifCond .eq 12, 3) := dcO tk_X5_farthest_0 3 rfl
theorem dX5_farthest_8 : decode cX5_farthest 8 = .ok (.iload_n 2, 1) := dcO tk_X5_farthest_0 4 rfl
theorem dX5_farthest_9 : decode cX5_farthest 9 = .ok (.bipush 40, 2) := dcO tk_X5_farthest_0 5 rfl
theorem dX5_farthest_11 : decode cX5_farthest 11 = .ok (.invokestatic 59, 3) := dcO tk_X5_farthest_0 6 rfl
theorem dX5_farthest_14 : decode cX5_farthest 14 = .ok (.ifCond .ne 10, 3) := dcO tk_X5_farthest_0 7 rfl
theorem dX5_farthest_17 : decode cX5_farthest 17 = .ok (.aload_n 0, 1) := dcO tk_X5_farthest_0 8 rfl
theorem dX5_farthest_18 : decode cX5_farthest 18 = .ok (.ldc 63, 2) := dcO tk_X5_farthest_0 9 rfl
theorem dX5_farthest_20 : decode cX5_farthest 20 = .ok (.invokevirtual 64, 3) := dcO tk_X5_farthest_0 10 rfl
theorem dX5_farthest_23 : decode cX5_farthest 23 = .ok (.ireturn, 1) := dcO tk_X5_farthest_0 11 rfl
theorem dX5_farthest_24 : decode cX5_farthest 24 = .ok (.aload_n 0, 1) := dcO tk_X5_farthest_0 12 rfl
theorem dX5_farthest_25 : decode cX5_farthest 25 = .ok (.getfield 12, 3) := dcO tk_X5_farthest_0 13 rfl
theorem dX5_farthest_28 : decode cX5_farthest 28 = .ok (.getfield 68, 3) := dcO tk_X5_farthest_0 14 rfl
theorem dX5_farthest_31 : decode cX5_farthest 31 = .ok (.aload_n 0, 1) := dcO tk_X5_farthest_0 15 rfl
theorem dX5_farthest_32 : decode cX5_farthest 32 = .ok (.getfield 12, 3) := dcO tk_X5_farthest_0 16 rfl
theorem dX5_farthest_35 : decode cX5_farthest 35 = .ok (.getfield 99, 3) := dcO tk_X5_farthest_0 17 rfl
theorem dX5_farthest_38 : decode cX5_farthest 38 = .ok (.iload_n 1, 1) := dcO tk_X5_farthest_0 18 rfl
theorem dX5_farthest_39 : decode cX5_farthest 39 = .ok (.iaload, 1) := dcO tk_X5_farthest_0 19 rfl
theorem dX5_farthest_40 : decode cX5_farthest 40 = .ok (.iaload, 1) := dcO tk_X5_farthest_0 20 rfl
theorem dX5_farthest_41 : decode cX5_farthest 41 = .ok (.iconst 1, 1) := dcO tk_X5_farthest_0 21 rfl
theorem dX5_farthest_42 : decode cX5_farthest 42 = .ok (.if_icmp .ne 10, 3) := dcO tk_X5_farthest_0 22 rfl
theorem dX5_farthest_45 : decode cX5_farthest 45 = .ok (.aload_n 0, 1) := dcO tk_X5_farthest_0 23 rfl
theorem dX5_farthest_46 : decode cX5_farthest 46 = .ok (.ldc 172, 2) := dcO tk_X5_farthest_0 24 rfl
theorem dX5_farthest_48 : decode cX5_farthest 48 = .ok (.invokevirtual 64, 3) := dcO tk_X5_farthest_0 25 rfl
theorem dX5_farthest_51 : decode cX5_farthest 51 = .ok (.ireturn, 1) := dcO tk_X5_farthest_0 26 rfl
theorem dX5_farthest_52 : decode cX5_farthest 52 = .ok (.aload_n 0, 1) := dcO tk_X5_farthest_0 27 rfl
theorem dX5_farthest_53 : decode cX5_farthest 53 = .ok (.getfield 22, 3) := dcO tk_X5_farthest_0 28 rfl
theorem dX5_farthest_56 : decode cX5_farthest 56 = .ok (.aload_n 0, 1) := dcO tk_X5_farthest_0 29 rfl
theorem dX5_farthest_57 : decode cX5_farthest 57 = .ok (.getfield 12, 3) := dcO tk_X5_farthest_0 30 rfl
theorem dX5_farthest_60 : decode cX5_farthest 60 = .ok (.iload_n 1, 1) := dcO tk_X5_farthest_0 31 rfl
theorem dX5_farthest_61 : decode cX5_farthest 61 = .ok (.iload_n 2, 1) := dcO tk_X5_farthest_0 32 rfl
theorem dX5_farthest_62 : decode cX5_farthest 62 = .ok (.invokevirtual 204, 3) := dcO tk_X5_farthest_0 33 rfl
theorem dX5_farthest_65 : decode cX5_farthest 65 = .ok (.ireturn, 1) := dcO tk_X5_farthest_0 34 rfl
abbrev tb_X5_fits_0 : List (Nat × Instr × Nat) := [(0, .aload_n 0, 1), (1, .iload_n 1, 1), (2, .iload_n 2, 1), (3, .invokevirtual 207, 3), (6, .istore_n 3, 1), (7, .iload_n 3, 1), (8, .ifCond .eq 9, 3), (11, .aload_n 0, 1), (12, .iload_n 3, 1), (13, .invokevirtual 64, 3), (16, .ireturn, 1), (17, .aload_n 0, 1), (18, .getfield 22, 3), (21, .aload_n 0, 1), (22, .getfield 12, 3), (25, .invokevirtual 210, 3), (28, .iconst 0, 1), (29, .istore 4, 2), (31, .iconst 0, 1), (32, .istore 5, 2), (34, .iload 5, 2), (36, .bipush 81, 2), (38, .if_icmp .ge 34, 3), (41, .aload_n 0, 1), (42, .getfield 22, 3), (45, .aload_n 0, 1), (46, .getfield 12, 3), (49, .iload_n 2, 1), (50, .iload 5, 2), (52, .aload_n 0, 1), (53, .getfield 43, 3), (56, .iload_n 1, 1), (57, .invokevirtual 211, 3), (60, .ifCond .eq 6, 3), (63, .iinc 4 1, 3), (66, .iinc 5 1, 3), (69, .goto (-35), 3), (72, .iload 4, 2), (74, .ireturn, 1)]
theorem tk_X5_fits_0 : dcA cX5_fits tb_X5_fits_0 = true := by decide +kernel
theorem dX5_fits_0 : decode cX5_fits 0 = .ok (.aload_n 0, 1) := dcO tk_X5_fits_0 0 rfl
theorem dX5_fits_1 : decode cX5_fits 1 = .ok (.iload_n 1, 1) := dcO tk_X5_fits_0 1 rfl
theorem dX5_fits_2 : decode cX5_fits 2 = .ok (.iload_n 2, 1) := dcO tk_X5_fits_0 2 rfl
theorem dX5_fits_3 : decode cX5_fits 3 = .ok (.invokevirtual 207, 3) := dcO tk_X5_fits_0 3 rfl
theorem dX5_fits_6 : decode cX5_fits 6 = .ok (.istore_n 3, 1) := dcO tk_X5_fits_0 4 rfl
theorem dX5_fits_7 : decode cX5_fits 7 = .ok (.iload_n 3, 1) := dcO tk_X5_fits_0 5 rfl
theorem dX5_fits_8 : decode cX5_fits 8 = .ok (.ifCond .eq 9, 3) := dcO tk_X5_fits_0 6 rfl
theorem dX5_fits_11 : decode cX5_fits 11 = .ok (.aload_n 0, 1) := dcO tk_X5_fits_0 7 rfl
theorem dX5_fits_12 : decode cX5_fits 12 = .ok (.iload_n 3, 1) := dcO tk_X5_fits_0 8 rfl
theorem dX5_fits_13 : decode cX5_fits 13 = .ok (.invokevirtual 64, 3) := dcO tk_X5_fits_0 9 rfl
theorem dX5_fits_16 : decode cX5_fits 16 = .ok (.ireturn, 1) := dcO tk_X5_fits_0 10 rfl
theorem dX5_fits_17 : decode cX5_fits 17 = .ok (.aload_n 0, 1) := dcO tk_X5_fits_0 11 rfl
theorem dX5_fits_18 : decode cX5_fits 18 = .ok (.getfield 22, 3) := dcO tk_X5_fits_0 12 rfl
theorem dX5_fits_21 : decode cX5_fits 21 = .ok (.aload_n 0, 1) := dcO tk_X5_fits_0 13 rfl
theorem dX5_fits_22 : decode cX5_fits 22 = .ok (.getfield 12, 3) := dcO tk_X5_fits_0 14 rfl
theorem dX5_fits_25 : decode cX5_fits 25 = .ok (.invokevirtual 210, 3) := dcO tk_X5_fits_0 15 rfl
theorem dX5_fits_28 : decode cX5_fits 28 = .ok (.iconst 0, 1) := dcO tk_X5_fits_0 16 rfl
theorem dX5_fits_29 : decode cX5_fits 29 = .ok (.istore 4, 2) := dcO tk_X5_fits_0 17 rfl
theorem dX5_fits_31 : decode cX5_fits 31 = .ok (.iconst 0, 1) := dcO tk_X5_fits_0 18 rfl
theorem dX5_fits_32 : decode cX5_fits 32 = .ok (.istore 5, 2) := dcO tk_X5_fits_0 19 rfl
theorem dX5_fits_34 : decode cX5_fits 34 = .ok (.iload 5, 2) := dcO tk_X5_fits_0 20 rfl
theorem dX5_fits_36 : decode cX5_fits 36 = .ok (.bipush 81, 2) := dcO tk_X5_fits_0 21 rfl
theorem dX5_fits_38 : decode cX5_fits 38 = .ok (.if_icmp .ge 34, 3) := dcO tk_X5_fits_0 22 rfl
theorem dX5_fits_41 : decode cX5_fits 41 = .ok (.aload_n 0, 1) := dcO tk_X5_fits_0 23 rfl
theorem dX5_fits_42 : decode cX5_fits 42 = .ok (.getfield 22, 3) := dcO tk_X5_fits_0 24 rfl
theorem dX5_fits_45 : decode cX5_fits 45 = .ok (.aload_n 0, 1) := dcO tk_X5_fits_0 25 rfl
theorem dX5_fits_46 : decode cX5_fits 46 = .ok (.getfield 12, 3) := dcO tk_X5_fits_0 26 rfl
theorem dX5_fits_49 : decode cX5_fits 49 = .ok (.iload_n 2, 1) := dcO tk_X5_fits_0 27 rfl
theorem dX5_fits_50 : decode cX5_fits 50 = .ok (.iload 5, 2) := dcO tk_X5_fits_0 28 rfl
theorem dX5_fits_52 : decode cX5_fits 52 = .ok (.aload_n 0, 1) := dcO tk_X5_fits_0 29 rfl
theorem dX5_fits_53 : decode cX5_fits 53 = .ok (.getfield 43, 3) := dcO tk_X5_fits_0 30 rfl
theorem dX5_fits_56 : decode cX5_fits 56 = .ok (.iload_n 1, 1) := dcO tk_X5_fits_0 31 rfl
theorem dX5_fits_57 : decode cX5_fits 57 = .ok (.invokevirtual 211, 3) := dcO tk_X5_fits_0 32 rfl
theorem dX5_fits_60 : decode cX5_fits 60 = .ok (.ifCond .eq 6, 3) := dcO tk_X5_fits_0 33 rfl
theorem dX5_fits_63 : decode cX5_fits 63 = .ok (.iinc 4 1, 3) := dcO tk_X5_fits_0 34 rfl
theorem dX5_fits_66 : decode cX5_fits 66 = .ok (.iinc 5 1, 3) := dcO tk_X5_fits_0 35 rfl
theorem dX5_fits_69 : decode cX5_fits 69 = .ok (.goto (-35), 3) := dcO tk_X5_fits_0 36 rfl
theorem dX5_fits_72 : decode cX5_fits 72 = .ok (.iload 4, 2) := dcO tk_X5_fits_0 37 rfl
theorem dX5_fits_74 : decode cX5_fits 74 = .ok (.ireturn, 1) := dcO tk_X5_fits_0 38 rfl
abbrev tb_X5_began_0 : List (Nat × Instr × Nat) := [(0, .aload_n 0, 1), (1, .iload_n 1, 1), (2, .iload_n 2, 1), (3, .invokevirtual 207, 3), (6, .istore_n 3, 1), (7, .iload_n 3, 1), (8, .ifCond .eq 9, 3), (11, .aload_n 0, 1), (12, .iload_n 3, 1), (13, .invokevirtual 64, 3), (16, .ireturn, 1), (17, .aload_n 0, 1), (18, .getfield 22, 3), (21, .aload_n 0, 1), (22, .getfield 12, 3), (25, .invokevirtual 210, 3), (28, .iconst 0, 1), (29, .istore 4, 2), (31, .iload 4, 2), (33, .bipush 81, 2), (35, .if_icmp .ge 34, 3), (38, .aload_n 0, 1), (39, .getfield 22, 3), (42, .aload_n 0, 1), (43, .getfield 12, 3), (46, .iload_n 2, 1), (47, .iload 4, 2), (49, .aload_n 0, 1), (50, .getfield 43, 3), (53, .iload_n 1, 1), (54, .invokevirtual 211, 3), (57, .ifCond .eq 6, 3), (60, .iload 4, 2), (62, .ireturn, 1), (63, .iinc 4 1, 3), (66, .goto (-35), 3), (69, .aload_n 0, 1), (70, .ldc 172, 2), (72, .invokevirtual 64, 3), (75, .ireturn, 1)]
theorem tk_X5_began_0 : dcA cX5_began tb_X5_began_0 = true := by decide +kernel
theorem dX5_began_0 : decode cX5_began 0 = .ok (.aload_n 0, 1) := dcO tk_X5_began_0 0 rfl
theorem dX5_began_1 : decode cX5_began 1 = .ok (.iload_n 1, 1) := dcO tk_X5_began_0 1 rfl
theorem dX5_began_2 : decode cX5_began 2 = .ok (.iload_n 2, 1) := dcO tk_X5_began_0 2 rfl
theorem dX5_began_3 : decode cX5_began 3 = .ok (.invokevirtual 207, 3) := dcO tk_X5_began_0 3 rfl
theorem dX5_began_6 : decode cX5_began 6 = .ok (.istore_n 3, 1) := dcO tk_X5_began_0 4 rfl
theorem dX5_began_7 : decode cX5_began 7 = .ok (.iload_n 3, 1) := dcO tk_X5_began_0 5 rfl
theorem dX5_began_8 : decode cX5_began 8 = .ok (.ifCond .eq 9, 3) := dcO tk_X5_began_0 6 rfl
theorem dX5_began_11 : decode cX5_began 11 = .ok (.aload_n 0, 1) := dcO tk_X5_began_0 7 rfl
theorem dX5_began_12 : decode cX5_began 12 = .ok (.iload_n 3, 1) := dcO tk_X5_began_0 8 rfl
theorem dX5_began_13 : decode cX5_began 13 = .ok (.invokevirtual 64, 3) := dcO tk_X5_began_0 9 rfl
theorem dX5_began_16 : decode cX5_began 16 = .ok (.ireturn, 1) := dcO tk_X5_began_0 10 rfl
theorem dX5_began_17 : decode cX5_began 17 = .ok (.aload_n 0, 1) := dcO tk_X5_began_0 11 rfl
theorem dX5_began_18 : decode cX5_began 18 = .ok (.getfield 22, 3) := dcO tk_X5_began_0 12 rfl
theorem dX5_began_21 : decode cX5_began 21 = .ok (.aload_n 0, 1) := dcO tk_X5_began_0 13 rfl
theorem dX5_began_22 : decode cX5_began 22 = .ok (.getfield 12, 3) := dcO tk_X5_began_0 14 rfl
theorem dX5_began_25 : decode cX5_began 25 = .ok (.invokevirtual 210, 3) := dcO tk_X5_began_0 15 rfl
theorem dX5_began_28 : decode cX5_began 28 = .ok (.iconst 0, 1) := dcO tk_X5_began_0 16 rfl
theorem dX5_began_29 : decode cX5_began 29 = .ok (.istore 4, 2) := dcO tk_X5_began_0 17 rfl
theorem dX5_began_31 : decode cX5_began 31 = .ok (.iload 4, 2) := dcO tk_X5_began_0 18 rfl
theorem dX5_began_33 : decode cX5_began 33 = .ok (.bipush 81, 2) := dcO tk_X5_began_0 19 rfl
theorem dX5_began_35 : decode cX5_began 35 = .ok (.if_icmp .ge 34, 3) := dcO tk_X5_began_0 20 rfl
theorem dX5_began_38 : decode cX5_began 38 = .ok (.aload_n 0, 1) := dcO tk_X5_began_0 21 rfl
theorem dX5_began_39 : decode cX5_began 39 = .ok (.getfield 22, 3) := dcO tk_X5_began_0 22 rfl
theorem dX5_began_42 : decode cX5_began 42 = .ok (.aload_n 0, 1) := dcO tk_X5_began_0 23 rfl
theorem dX5_began_43 : decode cX5_began 43 = .ok (.getfield 12, 3) := dcO tk_X5_began_0 24 rfl
theorem dX5_began_46 : decode cX5_began 46 = .ok (.iload_n 2, 1) := dcO tk_X5_began_0 25 rfl
theorem dX5_began_47 : decode cX5_began 47 = .ok (.iload 4, 2) := dcO tk_X5_began_0 26 rfl
theorem dX5_began_49 : decode cX5_began 49 = .ok (.aload_n 0, 1) := dcO tk_X5_began_0 27 rfl
theorem dX5_began_50 : decode cX5_began 50 = .ok (.getfield 43, 3) := dcO tk_X5_began_0 28 rfl
theorem dX5_began_53 : decode cX5_began 53 = .ok (.iload_n 1, 1) := dcO tk_X5_began_0 29 rfl
theorem dX5_began_54 : decode cX5_began 54 = .ok (.invokevirtual 211, 3) := dcO tk_X5_began_0 30 rfl
theorem dX5_began_57 : decode cX5_began 57 = .ok (.ifCond .eq 6, 3) := dcO tk_X5_began_0 31 rfl
theorem dX5_began_60 : decode cX5_began 60 = .ok (.iload 4, 2) := dcO tk_X5_began_0 32 rfl
theorem dX5_began_62 : decode cX5_began 62 = .ok (.ireturn, 1) := dcO tk_X5_began_0 33 rfl
theorem dX5_began_63 : decode cX5_began 63 = .ok (.iinc 4 1, 3) := dcO tk_X5_began_0 34 rfl
theorem dX5_began_66 : decode cX5_began 66 = .ok (.goto (-35), 3) := dcO tk_X5_began_0 35 rfl
theorem dX5_began_69 : decode cX5_began 69 = .ok (.aload_n 0, 1) := dcO tk_X5_began_0 36 rfl
theorem dX5_began_70 : decode cX5_began 70 = .ok (.ldc 172, 2) := dcO tk_X5_began_0 37 rfl
theorem dX5_began_72 : decode cX5_began 72 = .ok (.invokevirtual 64, 3) := dcO tk_X5_began_0 38 rfl
theorem dX5_began_75 : decode cX5_began 75 = .ok (.ireturn, 1) := dcO tk_X5_began_0 39 rfl
end
