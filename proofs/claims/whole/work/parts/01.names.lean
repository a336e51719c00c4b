-- ===== PART A: goes FIRST, ahead of the names: the tables' words, and 'selects' of the private methods out of them =====
/-- a private method of a class that the tables say can be made, by its rows of tables_1 -/
def lw_okq (q : MethodName × Nat) : Prop := (q.1.cls ≠ "java/lang/invoke/MethodHandle" ∧ q.1.cls ≠ "java/lang/invoke/VarHandle") ∧ Cond.instantiable q.1.cls q.2 ∈ tables_1 ∧ Cond.privateMethod q.1 ∈ tables_1 ∧ Cond.instanceMethod q.1 ∈ tables_1
theorem lw_p0 : lw_okq (⟨"PensionHouse$Tape", "byteAt", "(I)I"⟩, 8) := ⟨⟨by decide +kernel, by decide +kernel⟩, List.mem_of_getElem? (i := 132) (by decide +kernel), List.mem_of_getElem? (i := 556) (by decide +kernel), List.mem_of_getElem? (i := 557) (by decide +kernel)⟩
theorem lw_p1 : lw_okq (⟨"PensionHouse$Tape", "readLetters", "()V"⟩, 8) := ⟨⟨by decide +kernel, by decide +kernel⟩, List.mem_of_getElem? (i := 132) (by decide +kernel), List.mem_of_getElem? (i := 563) (by decide +kernel), List.mem_of_getElem? (i := 564) (by decide +kernel)⟩
theorem lw_p2 : lw_okq (⟨"PensionHouse$Tape", "readDigits", "()V"⟩, 8) := ⟨⟨by decide +kernel, by decide +kernel⟩, List.mem_of_getElem? (i := 132) (by decide +kernel), List.mem_of_getElem? (i := 622) (by decide +kernel), List.mem_of_getElem? (i := 623) (by decide +kernel)⟩
theorem lw_p3 : lw_okq (⟨"PensionHouse$Tape", "readSign", "(I)V"⟩, 8) := ⟨⟨by decide +kernel, by decide +kernel⟩, List.mem_of_getElem? (i := 132) (by decide +kernel), List.mem_of_getElem? (i := 627) (by decide +kernel), List.mem_of_getElem? (i := 628) (by decide +kernel)⟩
theorem lw_p4 : lw_okq (⟨"PensionHouse", "isPast", "(I)Z"⟩, 19) := ⟨⟨by decide +kernel, by decide +kernel⟩, List.mem_of_getElem? (i := 23) (by decide +kernel), List.mem_of_getElem? (i := 709) (by decide +kernel), List.mem_of_getElem? (i := 710) (by decide +kernel)⟩
theorem lw_p5 : lw_okq (⟨"PensionHouse", "placeForEdition", "(II)I"⟩, 19) := ⟨⟨by decide +kernel, by decide +kernel⟩, List.mem_of_getElem? (i := 23) (by decide +kernel), List.mem_of_getElem? (i := 729) (by decide +kernel), List.mem_of_getElem? (i := 730) (by decide +kernel)⟩
theorem lw_p6 : lw_okq (⟨"PensionHouse$Parser", "refuse", "(I)V"⟩, 7) := ⟨⟨by decide +kernel, by decide +kernel⟩, List.mem_of_getElem? (i := 126) (by decide +kernel), List.mem_of_getElem? (i := 742) (by decide +kernel), List.mem_of_getElem? (i := 743) (by decide +kernel)⟩
theorem lw_p7 : lw_okq (⟨"PensionHouse$Parser", "take", "(I)V"⟩, 7) := ⟨⟨by decide +kernel, by decide +kernel⟩, List.mem_of_getElem? (i := 126) (by decide +kernel), List.mem_of_getElem? (i := 746) (by decide +kernel), List.mem_of_getElem? (i := 747) (by decide +kernel)⟩
theorem lw_p8 : lw_okq (⟨"PensionHouse$Parser", "refuseToken", "()V"⟩, 7) := ⟨⟨by decide +kernel, by decide +kernel⟩, List.mem_of_getElem? (i := 126) (by decide +kernel), List.mem_of_getElem? (i := 750) (by decide +kernel), List.mem_of_getElem? (i := 751) (by decide +kernel)⟩
theorem lw_p9 : lw_okq (⟨"PensionHouse$Parser", "readE", "(I)I"⟩, 7) := ⟨⟨by decide +kernel, by decide +kernel⟩, List.mem_of_getElem? (i := 126) (by decide +kernel), List.mem_of_getElem? (i := 758) (by decide +kernel), List.mem_of_getElem? (i := 759) (by decide +kernel)⟩
theorem lw_p10 : lw_okq (⟨"PensionHouse$Parser", "beginsU", "()Z"⟩, 7) := ⟨⟨by decide +kernel, by decide +kernel⟩, List.mem_of_getElem? (i := 126) (by decide +kernel), List.mem_of_getElem? (i := 762) (by decide +kernel), List.mem_of_getElem? (i := 763) (by decide +kernel)⟩
theorem lw_p11 : lw_okq (⟨"PensionHouse$Parser", "mayBegin", "(ZI)Z"⟩, 7) := ⟨⟨by decide +kernel, by decide +kernel⟩, List.mem_of_getElem? (i := 126) (by decide +kernel), List.mem_of_getElem? (i := 769) (by decide +kernel), List.mem_of_getElem? (i := 770) (by decide +kernel)⟩
theorem lw_p12 : lw_okq (⟨"PensionHouse$Parser", "readC", "(I)I"⟩, 7) := ⟨⟨by decide +kernel, by decide +kernel⟩, List.mem_of_getElem? (i := 126) (by decide +kernel), List.mem_of_getElem? (i := 773) (by decide +kernel), List.mem_of_getElem? (i := 774) (by decide +kernel)⟩
theorem lw_p13 : lw_okq (⟨"PensionHouse$Parser", "readA", "(I)I"⟩, 7) := ⟨⟨by decide +kernel, by decide +kernel⟩, List.mem_of_getElem? (i := 126) (by decide +kernel), List.mem_of_getElem? (i := 777) (by decide +kernel), List.mem_of_getElem? (i := 778) (by decide +kernel)⟩
theorem lw_p14 : lw_okq (⟨"PensionHouse$Parser", "readM", "(I)I"⟩, 7) := ⟨⟨by decide +kernel, by decide +kernel⟩, List.mem_of_getElem? (i := 126) (by decide +kernel), List.mem_of_getElem? (i := 781) (by decide +kernel), List.mem_of_getElem? (i := 782) (by decide +kernel)⟩
theorem lw_p15 : lw_okq (⟨"PensionHouse$Parser", "readU", "(I)I"⟩, 7) := ⟨⟨by decide +kernel, by decide +kernel⟩, List.mem_of_getElem? (i := 126) (by decide +kernel), List.mem_of_getElem? (i := 785) (by decide +kernel), List.mem_of_getElem? (i := 786) (by decide +kernel)⟩
def lw_privs_1 : List (MethodName × Nat) := [(⟨"PensionHouse$Tape", "byteAt", "(I)I"⟩, 8), (⟨"PensionHouse$Tape", "readLetters", "()V"⟩, 8), (⟨"PensionHouse$Tape", "readDigits", "()V"⟩, 8), (⟨"PensionHouse$Tape", "readSign", "(I)V"⟩, 8), (⟨"PensionHouse", "isPast", "(I)Z"⟩, 19), (⟨"PensionHouse", "placeForEdition", "(II)I"⟩, 19), (⟨"PensionHouse$Parser", "refuse", "(I)V"⟩, 7), (⟨"PensionHouse$Parser", "take", "(I)V"⟩, 7), (⟨"PensionHouse$Parser", "refuseToken", "()V"⟩, 7), (⟨"PensionHouse$Parser", "readE", "(I)I"⟩, 7), (⟨"PensionHouse$Parser", "beginsU", "()Z"⟩, 7), (⟨"PensionHouse$Parser", "mayBegin", "(ZI)Z"⟩, 7), (⟨"PensionHouse$Parser", "readC", "(I)I"⟩, 7), (⟨"PensionHouse$Parser", "readA", "(I)I"⟩, 7), (⟨"PensionHouse$Parser", "readM", "(I)I"⟩, 7), (⟨"PensionHouse$Parser", "readU", "(I)I"⟩, 7)]
theorem lw_r1 : ∀ q ∈ lw_privs_1, lw_okq q := List.forall_mem_cons.mpr ⟨lw_p0, List.forall_mem_cons.mpr ⟨lw_p1, List.forall_mem_cons.mpr ⟨lw_p2, List.forall_mem_cons.mpr ⟨lw_p3, List.forall_mem_cons.mpr ⟨lw_p4, List.forall_mem_cons.mpr ⟨lw_p5, List.forall_mem_cons.mpr ⟨lw_p6, List.forall_mem_cons.mpr ⟨lw_p7, List.forall_mem_cons.mpr ⟨lw_p8, List.forall_mem_cons.mpr ⟨lw_p9, List.forall_mem_cons.mpr ⟨lw_p10, List.forall_mem_cons.mpr ⟨lw_p11, List.forall_mem_cons.mpr ⟨lw_p12, List.forall_mem_cons.mpr ⟨lw_p13, List.forall_mem_cons.mpr ⟨lw_p14, List.forall_mem_cons.mpr ⟨lw_p15, fun _ h => absurd h List.not_mem_nil⟩⟩⟩⟩⟩⟩⟩⟩⟩⟩⟩⟩⟩⟩⟩⟩
theorem lw_p16 : lw_okq (⟨"PensionHouse$Parser", "part", "(IJ)I"⟩, 7) := ⟨⟨by decide +kernel, by decide +kernel⟩, List.mem_of_getElem? (i := 126) (by decide +kernel), List.mem_of_getElem? (i := 789) (by decide +kernel), List.mem_of_getElem? (i := 790) (by decide +kernel)⟩
theorem lw_p17 : lw_okq (⟨"PensionHouse$Parser", "readP", "(I)I"⟩, 7) := ⟨⟨by decide +kernel, by decide +kernel⟩, List.mem_of_getElem? (i := 126) (by decide +kernel), List.mem_of_getElem? (i := 801) (by decide +kernel), List.mem_of_getElem? (i := 802) (by decide +kernel)⟩
theorem lw_p18 : lw_okq (⟨"PensionHouse$Parser", "sumOf", "(J)I"⟩, 7) := ⟨⟨by decide +kernel, by decide +kernel⟩, List.mem_of_getElem? (i := 126) (by decide +kernel), List.mem_of_getElem? (i := 830) (by decide +kernel), List.mem_of_getElem? (i := 831) (by decide +kernel)⟩
theorem lw_p19 : lw_okq (⟨"PensionHouse$Parser", "readSum", "(I)I"⟩, 7) := ⟨⟨by decide +kernel, by decide +kernel⟩, List.mem_of_getElem? (i := 126) (by decide +kernel), List.mem_of_getElem? (i := 834) (by decide +kernel), List.mem_of_getElem? (i := 835) (by decide +kernel)⟩
theorem lw_p20 : lw_okq (⟨"PensionHouse$Parser", "readFunction", "(I)I"⟩, 7) := ⟨⟨by decide +kernel, by decide +kernel⟩, List.mem_of_getElem? (i := 126) (by decide +kernel), List.mem_of_getElem? (i := 838) (by decide +kernel), List.mem_of_getElem? (i := 839) (by decide +kernel)⟩
theorem lw_p21 : lw_okq (⟨"PensionHouse$Parser", "isNext", "(I)Z"⟩, 7) := ⟨⟨by decide +kernel, by decide +kernel⟩, List.mem_of_getElem? (i := 126) (by decide +kernel), List.mem_of_getElem? (i := 842) (by decide +kernel), List.mem_of_getElem? (i := 843) (by decide +kernel)⟩
theorem lw_p22 : lw_okq (⟨"PensionHouse", "textInForce", "(II)LPensionHouse$Text;"⟩, 19) := ⟨⟨by decide +kernel, by decide +kernel⟩, List.mem_of_getElem? (i := 23) (by decide +kernel), List.mem_of_getElem? (i := 858) (by decide +kernel), List.mem_of_getElem? (i := 859) (by decide +kernel)⟩
theorem lw_p23 : lw_okq (⟨"PensionHouse$Worker", "enter", "(II)V"⟩, 14) := ⟨⟨by decide +kernel, by decide +kernel⟩, List.mem_of_getElem? (i := 237) (by decide +kernel), List.mem_of_getElem? (i := 879) (by decide +kernel), List.mem_of_getElem? (i := 880) (by decide +kernel)⟩
theorem lw_p24 : lw_okq (⟨"PensionHouse$Worker", "turn", "()V"⟩, 14) := ⟨⟨by decide +kernel, by decide +kernel⟩, List.mem_of_getElem? (i := 237) (by decide +kernel), List.mem_of_getElem? (i := 884) (by decide +kernel), List.mem_of_getElem? (i := 885) (by decide +kernel)⟩
theorem lw_p25 : lw_okq (⟨"PensionHouse$Worker", "spend", "(I)Z"⟩, 14) := ⟨⟨by decide +kernel, by decide +kernel⟩, List.mem_of_getElem? (i := 237) (by decide +kernel), List.mem_of_getElem? (i := 891) (by decide +kernel), List.mem_of_getElem? (i := 892) (by decide +kernel)⟩
theorem lw_p26 : lw_okq (⟨"PensionHouse$Worker", "fail", "(I)V"⟩, 14) := ⟨⟨by decide +kernel, by decide +kernel⟩, List.mem_of_getElem? (i := 237) (by decide +kernel), List.mem_of_getElem? (i := 895) (by decide +kernel), List.mem_of_getElem? (i := 896) (by decide +kernel)⟩
theorem lw_p27 : lw_okq (⟨"PensionHouse$Worker", "pushNumber", "(IJ)V"⟩, 14) := ⟨⟨by decide +kernel, by decide +kernel⟩, List.mem_of_getElem? (i := 237) (by decide +kernel), List.mem_of_getElem? (i := 899) (by decide +kernel), List.mem_of_getElem? (i := 900) (by decide +kernel)⟩
theorem lw_p28 : lw_okq (⟨"PensionHouse$Worker", "pushed", "()LPensionHouse$Value;"⟩, 14) := ⟨⟨by decide +kernel, by decide +kernel⟩, List.mem_of_getElem? (i := 237) (by decide +kernel), List.mem_of_getElem? (i := 903) (by decide +kernel), List.mem_of_getElem? (i := 904) (by decide +kernel)⟩
theorem lw_p29 : lw_okq (⟨"PensionHouse$Worker", "leave", "()V"⟩, 14) := ⟨⟨by decide +kernel, by decide +kernel⟩, List.mem_of_getElem? (i := 237) (by decide +kernel), List.mem_of_getElem? (i := 908) (by decide +kernel), List.mem_of_getElem? (i := 909) (by decide +kernel)⟩
theorem lw_p30 : lw_okq (⟨"PensionHouse$Worker", "counterOf", "(J)J"⟩, 14) := ⟨⟨by decide +kernel, by decide +kernel⟩, List.mem_of_getElem? (i := 237) (by decide +kernel), List.mem_of_getElem? (i := 912) (by decide +kernel), List.mem_of_getElem? (i := 913) (by decide +kernel)⟩
theorem lw_p31 : lw_okq (⟨"PensionHouse$Worker", "askFact", "(J)V"⟩, 14) := ⟨⟨by decide +kernel, by decide +kernel⟩, List.mem_of_getElem? (i := 237) (by decide +kernel), List.mem_of_getElem? (i := 916) (by decide +kernel), List.mem_of_getElem? (i := 917) (by decide +kernel)⟩
def lw_privs_2 : List (MethodName × Nat) := [(⟨"PensionHouse$Parser", "part", "(IJ)I"⟩, 7), (⟨"PensionHouse$Parser", "readP", "(I)I"⟩, 7), (⟨"PensionHouse$Parser", "sumOf", "(J)I"⟩, 7), (⟨"PensionHouse$Parser", "readSum", "(I)I"⟩, 7), (⟨"PensionHouse$Parser", "readFunction", "(I)I"⟩, 7), (⟨"PensionHouse$Parser", "isNext", "(I)Z"⟩, 7), (⟨"PensionHouse", "textInForce", "(II)LPensionHouse$Text;"⟩, 19), (⟨"PensionHouse$Worker", "enter", "(II)V"⟩, 14), (⟨"PensionHouse$Worker", "turn", "()V"⟩, 14), (⟨"PensionHouse$Worker", "spend", "(I)Z"⟩, 14), (⟨"PensionHouse$Worker", "fail", "(I)V"⟩, 14), (⟨"PensionHouse$Worker", "pushNumber", "(IJ)V"⟩, 14), (⟨"PensionHouse$Worker", "pushed", "()LPensionHouse$Value;"⟩, 14), (⟨"PensionHouse$Worker", "leave", "()V"⟩, 14), (⟨"PensionHouse$Worker", "counterOf", "(J)J"⟩, 14), (⟨"PensionHouse$Worker", "askFact", "(J)V"⟩, 14)]
theorem lw_r2 : ∀ q ∈ lw_privs_2, lw_okq q := List.forall_mem_cons.mpr ⟨lw_p16, List.forall_mem_cons.mpr ⟨lw_p17, List.forall_mem_cons.mpr ⟨lw_p18, List.forall_mem_cons.mpr ⟨lw_p19, List.forall_mem_cons.mpr ⟨lw_p20, List.forall_mem_cons.mpr ⟨lw_p21, List.forall_mem_cons.mpr ⟨lw_p22, List.forall_mem_cons.mpr ⟨lw_p23, List.forall_mem_cons.mpr ⟨lw_p24, List.forall_mem_cons.mpr ⟨lw_p25, List.forall_mem_cons.mpr ⟨lw_p26, List.forall_mem_cons.mpr ⟨lw_p27, List.forall_mem_cons.mpr ⟨lw_p28, List.forall_mem_cons.mpr ⟨lw_p29, List.forall_mem_cons.mpr ⟨lw_p30, List.forall_mem_cons.mpr ⟨lw_p31, fun _ h => absurd h List.not_mem_nil⟩⟩⟩⟩⟩⟩⟩⟩⟩⟩⟩⟩⟩⟩⟩⟩
theorem lw_p32 : lw_okq (⟨"PensionHouse$Worker", "wantRule", "(II)V"⟩, 14) := ⟨⟨by decide +kernel, by decide +kernel⟩, List.mem_of_getElem? (i := 237) (by decide +kernel), List.mem_of_getElem? (i := 922) (by decide +kernel), List.mem_of_getElem? (i := 923) (by decide +kernel)⟩
theorem lw_p33 : lw_okq (⟨"PensionHouse$Worker", "decide", "(II)V"⟩, 14) := ⟨⟨by decide +kernel, by decide +kernel⟩, List.mem_of_getElem? (i := 237) (by decide +kernel), List.mem_of_getElem? (i := 937) (by decide +kernel), List.mem_of_getElem? (i := 938) (by decide +kernel)⟩
theorem lw_p34 : lw_okq (⟨"PensionHouse$Worker", "enterInner", "(II)V"⟩, 14) := ⟨⟨by decide +kernel, by decide +kernel⟩, List.mem_of_getElem? (i := 237) (by decide +kernel), List.mem_of_getElem? (i := 941) (by decide +kernel), List.mem_of_getElem? (i := 942) (by decide +kernel)⟩
theorem lw_p35 : lw_okq (⟨"PensionHouse$Worker", "attempt", "(II)V"⟩, 14) := ⟨⟨by decide +kernel, by decide +kernel⟩, List.mem_of_getElem? (i := 237) (by decide +kernel), List.mem_of_getElem? (i := 949) (by decide +kernel), List.mem_of_getElem? (i := 950) (by decide +kernel)⟩
theorem lw_p36 : lw_okq (⟨"PensionHouse$Worker", "addUp", "(II)V"⟩, 14) := ⟨⟨by decide +kernel, by decide +kernel⟩, List.mem_of_getElem? (i := 237) (by decide +kernel), List.mem_of_getElem? (i := 953) (by decide +kernel), List.mem_of_getElem? (i := 954) (by decide +kernel)⟩
theorem lw_p37 : lw_okq (⟨"PensionHouse$Worker", "finish", "(II)V"⟩, 14) := ⟨⟨by decide +kernel, by decide +kernel⟩, List.mem_of_getElem? (i := 237) (by decide +kernel), List.mem_of_getElem? (i := 988) (by decide +kernel), List.mem_of_getElem? (i := 989) (by decide +kernel)⟩
theorem lw_p38 : lw_okq (⟨"PensionHouse$Worker", "leaveFailed", "()V"⟩, 14) := ⟨⟨by decide +kernel, by decide +kernel⟩, List.mem_of_getElem? (i := 237) (by decide +kernel), List.mem_of_getElem? (i := 1084) (by decide +kernel), List.mem_of_getElem? (i := 1085) (by decide +kernel)⟩
theorem lw_p39 : lw_okq (⟨"PensionHouse", "isAward", "(I)Z"⟩, 19) := ⟨⟨by decide +kernel, by decide +kernel⟩, List.mem_of_getElem? (i := 23) (by decide +kernel), List.mem_of_getElem? (i := 1121) (by decide +kernel), List.mem_of_getElem? (i := 1122) (by decide +kernel)⟩
theorem lw_p40 : lw_okq (⟨"PensionHouse", "dues", "(LPensionHouse$Award;III)J"⟩, 19) := ⟨⟨by decide +kernel, by decide +kernel⟩, List.mem_of_getElem? (i := 23) (by decide +kernel), List.mem_of_getElem? (i := 1125) (by decide +kernel), List.mem_of_getElem? (i := 1126) (by decide +kernel)⟩
theorem lw_p41 : lw_okq (⟨"PensionHouse", "beginRun", "(I)V"⟩, 19) := ⟨⟨by decide +kernel, by decide +kernel⟩, List.mem_of_getElem? (i := 23) (by decide +kernel), List.mem_of_getElem? (i := 1154) (by decide +kernel), List.mem_of_getElem? (i := 1155) (by decide +kernel)⟩
theorem lw_p42 : lw_okq (⟨"PensionHouse", "paidTo", "(I)J"⟩, 19) := ⟨⟨by decide +kernel, by decide +kernel⟩, List.mem_of_getElem? (i := 23) (by decide +kernel), List.mem_of_getElem? (i := 1162) (by decide +kernel), List.mem_of_getElem? (i := 1163) (by decide +kernel)⟩
theorem lw_p43 : lw_okq (⟨"PensionHouse", "pay", "(IJJ)V"⟩, 19) := ⟨⟨by decide +kernel, by decide +kernel⟩, List.mem_of_getElem? (i := 23) (by decide +kernel), List.mem_of_getElem? (i := 1166) (by decide +kernel), List.mem_of_getElem? (i := 1167) (by decide +kernel)⟩
theorem lw_p44 : lw_okq (⟨"PensionHouseModel", "shape", "(III)V"⟩, 89) := ⟨⟨by decide +kernel, by decide +kernel⟩, List.mem_of_getElem? (i := 1197) (by decide +kernel), List.mem_of_getElem? (i := 1500) (by decide +kernel), List.mem_of_getElem? (i := 1501) (by decide +kernel)⟩
theorem lw_p45 : lw_okq (⟨"PensionHouseModel", "belongs", "(JI)Z"⟩, 89) := ⟨⟨by decide +kernel, by decide +kernel⟩, List.mem_of_getElem? (i := 1197) (by decide +kernel), List.mem_of_getElem? (i := 1529) (by decide +kernel), List.mem_of_getElem? (i := 1530) (by decide +kernel)⟩
theorem lw_p46 : lw_okq (⟨"PensionHouseModel", "takeName", "()J"⟩, 89) := ⟨⟨by decide +kernel, by decide +kernel⟩, List.mem_of_getElem? (i := 1197) (by decide +kernel), List.mem_of_getElem? (i := 1561) (by decide +kernel), List.mem_of_getElem? (i := 1562) (by decide +kernel)⟩
theorem lw_p47 : lw_okq (⟨"PensionHouseModel", "tokenize", "()V"⟩, 89) := ⟨⟨by decide +kernel, by decide +kernel⟩, List.mem_of_getElem? (i := 1197) (by decide +kernel), List.mem_of_getElem? (i := 1565) (by decide +kernel), List.mem_of_getElem? (i := 1566) (by decide +kernel)⟩
def lw_privs_3 : List (MethodName × Nat) := [(⟨"PensionHouse$Worker", "wantRule", "(II)V"⟩, 14), (⟨"PensionHouse$Worker", "decide", "(II)V"⟩, 14), (⟨"PensionHouse$Worker", "enterInner", "(II)V"⟩, 14), (⟨"PensionHouse$Worker", "attempt", "(II)V"⟩, 14), (⟨"PensionHouse$Worker", "addUp", "(II)V"⟩, 14), (⟨"PensionHouse$Worker", "finish", "(II)V"⟩, 14), (⟨"PensionHouse$Worker", "leaveFailed", "()V"⟩, 14), (⟨"PensionHouse", "isAward", "(I)Z"⟩, 19), (⟨"PensionHouse", "dues", "(LPensionHouse$Award;III)J"⟩, 19), (⟨"PensionHouse", "beginRun", "(I)V"⟩, 19), (⟨"PensionHouse", "paidTo", "(I)J"⟩, 19), (⟨"PensionHouse", "pay", "(IJJ)V"⟩, 19), (⟨"PensionHouseModel", "shape", "(III)V"⟩, 89), (⟨"PensionHouseModel", "belongs", "(JI)Z"⟩, 89), (⟨"PensionHouseModel", "takeName", "()J"⟩, 89), (⟨"PensionHouseModel", "tokenize", "()V"⟩, 89)]
theorem lw_r3 : ∀ q ∈ lw_privs_3, lw_okq q := List.forall_mem_cons.mpr ⟨lw_p32, List.forall_mem_cons.mpr ⟨lw_p33, List.forall_mem_cons.mpr ⟨lw_p34, List.forall_mem_cons.mpr ⟨lw_p35, List.forall_mem_cons.mpr ⟨lw_p36, List.forall_mem_cons.mpr ⟨lw_p37, List.forall_mem_cons.mpr ⟨lw_p38, List.forall_mem_cons.mpr ⟨lw_p39, List.forall_mem_cons.mpr ⟨lw_p40, List.forall_mem_cons.mpr ⟨lw_p41, List.forall_mem_cons.mpr ⟨lw_p42, List.forall_mem_cons.mpr ⟨lw_p43, List.forall_mem_cons.mpr ⟨lw_p44, List.forall_mem_cons.mpr ⟨lw_p45, List.forall_mem_cons.mpr ⟨lw_p46, List.forall_mem_cons.mpr ⟨lw_p47, fun _ h => absurd h List.not_mem_nil⟩⟩⟩⟩⟩⟩⟩⟩⟩⟩⟩⟩⟩⟩⟩⟩
theorem lw_p48 : lw_okq (⟨"PensionHouseModel", "token", "(I)I"⟩, 89) := ⟨⟨by decide +kernel, by decide +kernel⟩, List.mem_of_getElem? (i := 1197) (by decide +kernel), List.mem_of_getElem? (i := 1569) (by decide +kernel), List.mem_of_getElem? (i := 1570) (by decide +kernel)⟩
theorem lw_p49 : lw_okq (⟨"PensionHouseModel", "byteAt", "(I)I"⟩, 89) := ⟨⟨by decide +kernel, by decide +kernel⟩, List.mem_of_getElem? (i := 1197) (by decide +kernel), List.mem_of_getElem? (i := 1576) (by decide +kernel), List.mem_of_getElem? (i := 1577) (by decide +kernel)⟩
theorem lw_p50 : lw_okq (⟨"PensionHouseModel", "number", "(I)I"⟩, 89) := ⟨⟨by decide +kernel, by decide +kernel⟩, List.mem_of_getElem? (i := 1197) (by decide +kernel), List.mem_of_getElem? (i := 1611) (by decide +kernel), List.mem_of_getElem? (i := 1612) (by decide +kernel)⟩
theorem lw_p51 : lw_okq (⟨"PensionHouseModel", "copy", "(II)V"⟩, 89) := ⟨⟨by decide +kernel, by decide +kernel⟩, List.mem_of_getElem? (i := 1197) (by decide +kernel), List.mem_of_getElem? (i := 1621) (by decide +kernel), List.mem_of_getElem? (i := 1622) (by decide +kernel)⟩
theorem lw_p52 : lw_okq (⟨"PensionHouseModel", "findKnown", "(IJII)I"⟩, 89) := ⟨⟨by decide +kernel, by decide +kernel⟩, List.mem_of_getElem? (i := 1197) (by decide +kernel), List.mem_of_getElem? (i := 1633) (by decide +kernel), List.mem_of_getElem? (i := 1634) (by decide +kernel)⟩
theorem lw_p53 : lw_okq (⟨"PensionHouseModel", "slotOf", "(II)I"⟩, 89) := ⟨⟨by decide +kernel, by decide +kernel⟩, List.mem_of_getElem? (i := 1197) (by decide +kernel), List.mem_of_getElem? (i := 1642) (by decide +kernel), List.mem_of_getElem? (i := 1643) (by decide +kernel)⟩
theorem lw_p54 : lw_okq (⟨"PensionHouseModel", "readText", "(I)V"⟩, 89) := ⟨⟨by decide +kernel, by decide +kernel⟩, List.mem_of_getElem? (i := 1197) (by decide +kernel), List.mem_of_getElem? (i := 1646) (by decide +kernel), List.mem_of_getElem? (i := 1647) (by decide +kernel)⟩
theorem lw_p55 : lw_okq (⟨"PensionHouseModel", "now", "()I"⟩, 89) := ⟨⟨by decide +kernel, by decide +kernel⟩, List.mem_of_getElem? (i := 1197) (by decide +kernel), List.mem_of_getElem? (i := 1650) (by decide +kernel), List.mem_of_getElem? (i := 1651) (by decide +kernel)⟩
theorem lw_p56 : lw_okq (⟨"PensionHouseModel", "wrong", "()V"⟩, 89) := ⟨⟨by decide +kernel, by decide +kernel⟩, List.mem_of_getElem? (i := 1197) (by decide +kernel), List.mem_of_getElem? (i := 1654) (by decide +kernel), List.mem_of_getElem? (i := 1655) (by decide +kernel)⟩
theorem lw_p57 : lw_okq (⟨"PensionHouseModel", "fail", "(II)V"⟩, 89) := ⟨⟨by decide +kernel, by decide +kernel⟩, List.mem_of_getElem? (i := 1197) (by decide +kernel), List.mem_of_getElem? (i := 1658) (by decide +kernel), List.mem_of_getElem? (i := 1659) (by decide +kernel)⟩
theorem lw_p58 : lw_okq (⟨"PensionHouseModel", "want", "(I)V"⟩, 89) := ⟨⟨by decide +kernel, by decide +kernel⟩, List.mem_of_getElem? (i := 1197) (by decide +kernel), List.mem_of_getElem? (i := 1662) (by decide +kernel), List.mem_of_getElem? (i := 1663) (by decide +kernel)⟩
theorem lw_p59 : lw_okq (⟨"PensionHouseModel", "is", "(I)Z"⟩, 89) := ⟨⟨by decide +kernel, by decide +kernel⟩, List.mem_of_getElem? (i := 1197) (by decide +kernel), List.mem_of_getElem? (i := 1666) (by decide +kernel), List.mem_of_getElem? (i := 1667) (by decide +kernel)⟩
theorem lw_p60 : lw_okq (⟨"PensionHouseModel", "findRule", "(IJ)I"⟩, 89) := ⟨⟨by decide +kernel, by decide +kernel⟩, List.mem_of_getElem? (i := 1197) (by decide +kernel), List.mem_of_getElem? (i := 1670) (by decide +kernel), List.mem_of_getElem? (i := 1671) (by decide +kernel)⟩
theorem lw_p61 : lw_okq (⟨"PensionHouseModel", "expression", "(I)I"⟩, 89) := ⟨⟨by decide +kernel, by decide +kernel⟩, List.mem_of_getElem? (i := 1197) (by decide +kernel), List.mem_of_getElem? (i := 1674) (by decide +kernel), List.mem_of_getElem? (i := 1675) (by decide +kernel)⟩
theorem lw_p62 : lw_okq (⟨"PensionHouseModel", "beginsUnary", "()Z"⟩, 89) := ⟨⟨by decide +kernel, by decide +kernel⟩, List.mem_of_getElem? (i := 1197) (by decide +kernel), List.mem_of_getElem? (i := 1678) (by decide +kernel), List.mem_of_getElem? (i := 1679) (by decide +kernel)⟩
theorem lw_p63 : lw_okq (⟨"PensionHouseModel", "ifElse", "(I)I"⟩, 89) := ⟨⟨by decide +kernel, by decide +kernel⟩, List.mem_of_getElem? (i := 1197) (by decide +kernel), List.mem_of_getElem? (i := 1688) (by decide +kernel), List.mem_of_getElem? (i := 1689) (by decide +kernel)⟩
def lw_privs_4 : List (MethodName × Nat) := [(⟨"PensionHouseModel", "token", "(I)I"⟩, 89), (⟨"PensionHouseModel", "byteAt", "(I)I"⟩, 89), (⟨"PensionHouseModel", "number", "(I)I"⟩, 89), (⟨"PensionHouseModel", "copy", "(II)V"⟩, 89), (⟨"PensionHouseModel", "findKnown", "(IJII)I"⟩, 89), (⟨"PensionHouseModel", "slotOf", "(II)I"⟩, 89), (⟨"PensionHouseModel", "readText", "(I)V"⟩, 89), (⟨"PensionHouseModel", "now", "()I"⟩, 89), (⟨"PensionHouseModel", "wrong", "()V"⟩, 89), (⟨"PensionHouseModel", "fail", "(II)V"⟩, 89), (⟨"PensionHouseModel", "want", "(I)V"⟩, 89), (⟨"PensionHouseModel", "is", "(I)Z"⟩, 89), (⟨"PensionHouseModel", "findRule", "(IJ)I"⟩, 89), (⟨"PensionHouseModel", "expression", "(I)I"⟩, 89), (⟨"PensionHouseModel", "beginsUnary", "()Z"⟩, 89), (⟨"PensionHouseModel", "ifElse", "(I)I"⟩, 89)]
theorem lw_r4 : ∀ q ∈ lw_privs_4, lw_okq q := List.forall_mem_cons.mpr ⟨lw_p48, List.forall_mem_cons.mpr ⟨lw_p49, List.forall_mem_cons.mpr ⟨lw_p50, List.forall_mem_cons.mpr ⟨lw_p51, List.forall_mem_cons.mpr ⟨lw_p52, List.forall_mem_cons.mpr ⟨lw_p53, List.forall_mem_cons.mpr ⟨lw_p54, List.forall_mem_cons.mpr ⟨lw_p55, List.forall_mem_cons.mpr ⟨lw_p56, List.forall_mem_cons.mpr ⟨lw_p57, List.forall_mem_cons.mpr ⟨lw_p58, List.forall_mem_cons.mpr ⟨lw_p59, List.forall_mem_cons.mpr ⟨lw_p60, List.forall_mem_cons.mpr ⟨lw_p61, List.forall_mem_cons.mpr ⟨lw_p62, List.forall_mem_cons.mpr ⟨lw_p63, fun _ h => absurd h List.not_mem_nil⟩⟩⟩⟩⟩⟩⟩⟩⟩⟩⟩⟩⟩⟩⟩⟩
theorem lw_p64 : lw_okq (⟨"PensionHouseModel", "part", "()Z"⟩, 89) := ⟨⟨by decide +kernel, by decide +kernel⟩, List.mem_of_getElem? (i := 1197) (by decide +kernel), List.mem_of_getElem? (i := 1692) (by decide +kernel), List.mem_of_getElem? (i := 1693) (by decide +kernel)⟩
theorem lw_p65 : lw_okq (⟨"PensionHouseModel", "node", "(I)I"⟩, 89) := ⟨⟨by decide +kernel, by decide +kernel⟩, List.mem_of_getElem? (i := 1197) (by decide +kernel), List.mem_of_getElem? (i := 1696) (by decide +kernel), List.mem_of_getElem? (i := 1697) (by decide +kernel)⟩
theorem lw_p66 : lw_okq (⟨"PensionHouseModel", "compared", "(I)I"⟩, 89) := ⟨⟨by decide +kernel, by decide +kernel⟩, List.mem_of_getElem? (i := 1197) (by decide +kernel), List.mem_of_getElem? (i := 1700) (by decide +kernel), List.mem_of_getElem? (i := 1701) (by decide +kernel)⟩
theorem lw_p67 : lw_okq (⟨"PensionHouseModel", "added", "(I)I"⟩, 89) := ⟨⟨by decide +kernel, by decide +kernel⟩, List.mem_of_getElem? (i := 1197) (by decide +kernel), List.mem_of_getElem? (i := 1704) (by decide +kernel), List.mem_of_getElem? (i := 1705) (by decide +kernel)⟩
theorem lw_p68 : lw_okq (⟨"PensionHouseModel", "multiplied", "(I)I"⟩, 89) := ⟨⟨by decide +kernel, by decide +kernel⟩, List.mem_of_getElem? (i := 1197) (by decide +kernel), List.mem_of_getElem? (i := 1708) (by decide +kernel), List.mem_of_getElem? (i := 1709) (by decide +kernel)⟩
theorem lw_p69 : lw_okq (⟨"PensionHouseModel", "unary", "(I)I"⟩, 89) := ⟨⟨by decide +kernel, by decide +kernel⟩, List.mem_of_getElem? (i := 1197) (by decide +kernel), List.mem_of_getElem? (i := 1712) (by decide +kernel), List.mem_of_getElem? (i := 1713) (by decide +kernel)⟩
theorem lw_p70 : lw_okq (⟨"PensionHouseModel", "primary", "(I)I"⟩, 89) := ⟨⟨by decide +kernel, by decide +kernel⟩, List.mem_of_getElem? (i := 1197) (by decide +kernel), List.mem_of_getElem? (i := 1716) (by decide +kernel), List.mem_of_getElem? (i := 1717) (by decide +kernel)⟩
theorem lw_p71 : lw_okq (⟨"PensionHouseModel", "sum", "(I)I"⟩, 89) := ⟨⟨by decide +kernel, by decide +kernel⟩, List.mem_of_getElem? (i := 1197) (by decide +kernel), List.mem_of_getElem? (i := 1720) (by decide +kernel), List.mem_of_getElem? (i := 1721) (by decide +kernel)⟩
theorem lw_p72 : lw_okq (⟨"PensionHouseModel", "named", "()I"⟩, 89) := ⟨⟨by decide +kernel, by decide +kernel⟩, List.mem_of_getElem? (i := 1197) (by decide +kernel), List.mem_of_getElem? (i := 1724) (by decide +kernel), List.mem_of_getElem? (i := 1725) (by decide +kernel)⟩
theorem lw_p73 : lw_okq (⟨"PensionHouseModel", "operator", "(I)I"⟩, 89) := ⟨⟨by decide +kernel, by decide +kernel⟩, List.mem_of_getElem? (i := 1197) (by decide +kernel), List.mem_of_getElem? (i := 1728) (by decide +kernel), List.mem_of_getElem? (i := 1729) (by decide +kernel)⟩
theorem lw_p74 : lw_okq (⟨"PensionHouseModel", "toldText", "()I"⟩, 89) := ⟨⟨by decide +kernel, by decide +kernel⟩, List.mem_of_getElem? (i := 1197) (by decide +kernel), List.mem_of_getElem? (i := 1732) (by decide +kernel), List.mem_of_getElem? (i := 1733) (by decide +kernel)⟩
theorem lw_p75 : lw_okq (⟨"PensionHouseModel", "inForceAt", "(II)I"⟩, 89) := ⟨⟨by decide +kernel, by decide +kernel⟩, List.mem_of_getElem? (i := 1197) (by decide +kernel), List.mem_of_getElem? (i := 1744) (by decide +kernel), List.mem_of_getElem? (i := 1745) (by decide +kernel)⟩
theorem lw_p76 : lw_okq (⟨"PensionHouseModel", "beginCase", "(IIIII)I"⟩, 89) := ⟨⟨by decide +kernel, by decide +kernel⟩, List.mem_of_getElem? (i := 1197) (by decide +kernel), List.mem_of_getElem? (i := 1752) (by decide +kernel), List.mem_of_getElem? (i := 1753) (by decide +kernel)⟩
theorem lw_p77 : lw_okq (⟨"PensionHouseModel", "workRule", "(I)I"⟩, 89) := ⟨⟨by decide +kernel, by decide +kernel⟩, List.mem_of_getElem? (i := 1197) (by decide +kernel), List.mem_of_getElem? (i := 1756) (by decide +kernel), List.mem_of_getElem? (i := 1757) (by decide +kernel)⟩
theorem lw_p78 : lw_okq (⟨"PensionHouseModel", "workNode", "(I)I"⟩, 89) := ⟨⟨by decide +kernel, by decide +kernel⟩, List.mem_of_getElem? (i := 1197) (by decide +kernel), List.mem_of_getElem? (i := 1760) (by decide +kernel), List.mem_of_getElem? (i := 1761) (by decide +kernel)⟩
theorem lw_p79 : lw_okq (⟨"PensionHouseModel", "counted", "(I)Z"⟩, 89) := ⟨⟨by decide +kernel, by decide +kernel⟩, List.mem_of_getElem? (i := 1197) (by decide +kernel), List.mem_of_getElem? (i := 1764) (by decide +kernel), List.mem_of_getElem? (i := 1765) (by decide +kernel)⟩
def lw_privs_5 : List (MethodName × Nat) := [(⟨"PensionHouseModel", "part", "()Z"⟩, 89), (⟨"PensionHouseModel", "node", "(I)I"⟩, 89), (⟨"PensionHouseModel", "compared", "(I)I"⟩, 89), (⟨"PensionHouseModel", "added", "(I)I"⟩, 89), (⟨"PensionHouseModel", "multiplied", "(I)I"⟩, 89), (⟨"PensionHouseModel", "unary", "(I)I"⟩, 89), (⟨"PensionHouseModel", "primary", "(I)I"⟩, 89), (⟨"PensionHouseModel", "sum", "(I)I"⟩, 89), (⟨"PensionHouseModel", "named", "()I"⟩, 89), (⟨"PensionHouseModel", "operator", "(I)I"⟩, 89), (⟨"PensionHouseModel", "toldText", "()I"⟩, 89), (⟨"PensionHouseModel", "inForceAt", "(II)I"⟩, 89), (⟨"PensionHouseModel", "beginCase", "(IIIII)I"⟩, 89), (⟨"PensionHouseModel", "workRule", "(I)I"⟩, 89), (⟨"PensionHouseModel", "workNode", "(I)I"⟩, 89), (⟨"PensionHouseModel", "counted", "(I)Z"⟩, 89)]
theorem lw_r5 : ∀ q ∈ lw_privs_5, lw_okq q := List.forall_mem_cons.mpr ⟨lw_p64, List.forall_mem_cons.mpr ⟨lw_p65, List.forall_mem_cons.mpr ⟨lw_p66, List.forall_mem_cons.mpr ⟨lw_p67, List.forall_mem_cons.mpr ⟨lw_p68, List.forall_mem_cons.mpr ⟨lw_p69, List.forall_mem_cons.mpr ⟨lw_p70, List.forall_mem_cons.mpr ⟨lw_p71, List.forall_mem_cons.mpr ⟨lw_p72, List.forall_mem_cons.mpr ⟨lw_p73, List.forall_mem_cons.mpr ⟨lw_p74, List.forall_mem_cons.mpr ⟨lw_p75, List.forall_mem_cons.mpr ⟨lw_p76, List.forall_mem_cons.mpr ⟨lw_p77, List.forall_mem_cons.mpr ⟨lw_p78, List.forall_mem_cons.mpr ⟨lw_p79, fun _ h => absurd h List.not_mem_nil⟩⟩⟩⟩⟩⟩⟩⟩⟩⟩⟩⟩⟩⟩⟩⟩
theorem lw_p80 : lw_okq (⟨"PensionHouseModel", "failing", "(I)I"⟩, 89) := ⟨⟨by decide +kernel, by decide +kernel⟩, List.mem_of_getElem? (i := 1197) (by decide +kernel), List.mem_of_getElem? (i := 1768) (by decide +kernel), List.mem_of_getElem? (i := 1769) (by decide +kernel)⟩
theorem lw_p81 : lw_okq (⟨"PensionHouseModel", "ofWhole", "(J)I"⟩, 89) := ⟨⟨by decide +kernel, by decide +kernel⟩, List.mem_of_getElem? (i := 1197) (by decide +kernel), List.mem_of_getElem? (i := 1772) (by decide +kernel), List.mem_of_getElem? (i := 1773) (by decide +kernel)⟩
theorem lw_p82 : lw_okq (⟨"PensionHouseModel", "made", "(II)I"⟩, 89) := ⟨⟨by decide +kernel, by decide +kernel⟩, List.mem_of_getElem? (i := 1197) (by decide +kernel), List.mem_of_getElem? (i := 1776) (by decide +kernel), List.mem_of_getElem? (i := 1777) (by decide +kernel)⟩
theorem lw_p83 : lw_okq (⟨"PensionHouseModel", "ofReal", "(D)I"⟩, 89) := ⟨⟨by decide +kernel, by decide +kernel⟩, List.mem_of_getElem? (i := 1197) (by decide +kernel), List.mem_of_getElem? (i := 1784) (by decide +kernel), List.mem_of_getElem? (i := 1785) (by decide +kernel)⟩
theorem lw_p84 : lw_okq (⟨"PensionHouseModel", "workFact", "(J)I"⟩, 89) := ⟨⟨by decide +kernel, by decide +kernel⟩, List.mem_of_getElem? (i := 1197) (by decide +kernel), List.mem_of_getElem? (i := 1788) (by decide +kernel), List.mem_of_getElem? (i := 1789) (by decide +kernel)⟩
theorem lw_p85 : lw_okq (⟨"PensionHouseModel", "negative", "(I)I"⟩, 89) := ⟨⟨by decide +kernel, by decide +kernel⟩, List.mem_of_getElem? (i := 1197) (by decide +kernel), List.mem_of_getElem? (i := 1792) (by decide +kernel), List.mem_of_getElem? (i := 1793) (by decide +kernel)⟩
theorem lw_p86 : lw_okq (⟨"PensionHouseModel", "workIf", "(I)I"⟩, 89) := ⟨⟨by decide +kernel, by decide +kernel⟩, List.mem_of_getElem? (i := 1197) (by decide +kernel), List.mem_of_getElem? (i := 1799) (by decide +kernel), List.mem_of_getElem? (i := 1800) (by decide +kernel)⟩
theorem lw_p87 : lw_okq (⟨"PensionHouseModel", "workTry", "(I)I"⟩, 89) := ⟨⟨by decide +kernel, by decide +kernel⟩, List.mem_of_getElem? (i := 1197) (by decide +kernel), List.mem_of_getElem? (i := 1803) (by decide +kernel), List.mem_of_getElem? (i := 1804) (by decide +kernel)⟩
theorem lw_p88 : lw_okq (⟨"PensionHouseModel", "workSum", "(I)I"⟩, 89) := ⟨⟨by decide +kernel, by decide +kernel⟩, List.mem_of_getElem? (i := 1197) (by decide +kernel), List.mem_of_getElem? (i := 1807) (by decide +kernel), List.mem_of_getElem? (i := 1808) (by decide +kernel)⟩
theorem lw_p89 : lw_okq (⟨"PensionHouseModel", "arithmetic", "(III)I"⟩, 89) := ⟨⟨by decide +kernel, by decide +kernel⟩, List.mem_of_getElem? (i := 1197) (by decide +kernel), List.mem_of_getElem? (i := 1811) (by decide +kernel), List.mem_of_getElem? (i := 1812) (by decide +kernel)⟩
theorem lw_p90 : lw_okq (⟨"PensionHouseModel", "asReal", "(I)D"⟩, 89) := ⟨⟨by decide +kernel, by decide +kernel⟩, List.mem_of_getElem? (i := 1197) (by decide +kernel), List.mem_of_getElem? (i := 1815) (by decide +kernel), List.mem_of_getElem? (i := 1816) (by decide +kernel)⟩
theorem lw_p91 : lw_okq (⟨"PensionHouseModel", "whole", "(IJJ)I"⟩, 89) := ⟨⟨by decide +kernel, by decide +kernel⟩, List.mem_of_getElem? (i := 1197) (by decide +kernel), List.mem_of_getElem? (i := 1837) (by decide +kernel), List.mem_of_getElem? (i := 1838) (by decide +kernel)⟩
theorem lw_p92 : lw_okq (⟨"PensionHouseModel", "workMore", "(II)I"⟩, 89) := ⟨⟨by decide +kernel, by decide +kernel⟩, List.mem_of_getElem? (i := 1197) (by decide +kernel), List.mem_of_getElem? (i := 1841) (by decide +kernel), List.mem_of_getElem? (i := 1842) (by decide +kernel)⟩
theorem lw_p93 : lw_okq (⟨"PensionHouseModel", "compare", "(III)I"⟩, 89) := ⟨⟨by decide +kernel, by decide +kernel⟩, List.mem_of_getElem? (i := 1197) (by decide +kernel), List.mem_of_getElem? (i := 1845) (by decide +kernel), List.mem_of_getElem? (i := 1846) (by decide +kernel)⟩
theorem lw_p94 : lw_okq (⟨"PensionHouseModel", "item", "(II)I"⟩, 89) := ⟨⟨by decide +kernel, by decide +kernel⟩, List.mem_of_getElem? (i := 1197) (by decide +kernel), List.mem_of_getElem? (i := 1849) (by decide +kernel), List.mem_of_getElem? (i := 1850) (by decide +kernel)⟩
theorem lw_p95 : lw_okq (⟨"PensionHouseModel", "extreme", "(III)I"⟩, 89) := ⟨⟨by decide +kernel, by decide +kernel⟩, List.mem_of_getElem? (i := 1197) (by decide +kernel), List.mem_of_getElem? (i := 1853) (by decide +kernel), List.mem_of_getElem? (i := 1854) (by decide +kernel)⟩
def lw_privs_6 : List (MethodName × Nat) := [(⟨"PensionHouseModel", "failing", "(I)I"⟩, 89), (⟨"PensionHouseModel", "ofWhole", "(J)I"⟩, 89), (⟨"PensionHouseModel", "made", "(II)I"⟩, 89), (⟨"PensionHouseModel", "ofReal", "(D)I"⟩, 89), (⟨"PensionHouseModel", "workFact", "(J)I"⟩, 89), (⟨"PensionHouseModel", "negative", "(I)I"⟩, 89), (⟨"PensionHouseModel", "workIf", "(I)I"⟩, 89), (⟨"PensionHouseModel", "workTry", "(I)I"⟩, 89), (⟨"PensionHouseModel", "workSum", "(I)I"⟩, 89), (⟨"PensionHouseModel", "arithmetic", "(III)I"⟩, 89), (⟨"PensionHouseModel", "asReal", "(I)D"⟩, 89), (⟨"PensionHouseModel", "whole", "(IJJ)I"⟩, 89), (⟨"PensionHouseModel", "workMore", "(II)I"⟩, 89), (⟨"PensionHouseModel", "compare", "(III)I"⟩, 89), (⟨"PensionHouseModel", "item", "(II)I"⟩, 89), (⟨"PensionHouseModel", "extreme", "(III)I"⟩, 89)]
theorem lw_r6 : ∀ q ∈ lw_privs_6, lw_okq q := List.forall_mem_cons.mpr ⟨lw_p80, List.forall_mem_cons.mpr ⟨lw_p81, List.forall_mem_cons.mpr ⟨lw_p82, List.forall_mem_cons.mpr ⟨lw_p83, List.forall_mem_cons.mpr ⟨lw_p84, List.forall_mem_cons.mpr ⟨lw_p85, List.forall_mem_cons.mpr ⟨lw_p86, List.forall_mem_cons.mpr ⟨lw_p87, List.forall_mem_cons.mpr ⟨lw_p88, List.forall_mem_cons.mpr ⟨lw_p89, List.forall_mem_cons.mpr ⟨lw_p90, List.forall_mem_cons.mpr ⟨lw_p91, List.forall_mem_cons.mpr ⟨lw_p92, List.forall_mem_cons.mpr ⟨lw_p93, List.forall_mem_cons.mpr ⟨lw_p94, List.forall_mem_cons.mpr ⟨lw_p95, fun _ h => absurd h List.not_mem_nil⟩⟩⟩⟩⟩⟩⟩⟩⟩⟩⟩⟩⟩⟩⟩⟩
theorem lw_p96 : lw_okq (⟨"PensionHouseModel", "last", "(II)I"⟩, 89) := ⟨⟨by decide +kernel, by decide +kernel⟩, List.mem_of_getElem? (i := 1197) (by decide +kernel), List.mem_of_getElem? (i := 1863) (by decide +kernel), List.mem_of_getElem? (i := 1864) (by decide +kernel)⟩
theorem lw_p97 : lw_okq (⟨"PensionHouseModel", "put", "(IIIII)V"⟩, 89) := ⟨⟨by decide +kernel, by decide +kernel⟩, List.mem_of_getElem? (i := 1197) (by decide +kernel), List.mem_of_getElem? (i := 1867) (by decide +kernel), List.mem_of_getElem? (i := 1868) (by decide +kernel)⟩
theorem lw_p98 : lw_okq (⟨"PensionHouseModel", "join", "(II)I"⟩, 89) := ⟨⟨by decide +kernel, by decide +kernel⟩, List.mem_of_getElem? (i := 1197) (by decide +kernel), List.mem_of_getElem? (i := 1871) (by decide +kernel), List.mem_of_getElem? (i := 1872) (by decide +kernel)⟩
theorem lw_p99 : lw_okq (⟨"PensionHouseModel", "with", "(III)I"⟩, 89) := ⟨⟨by decide +kernel, by decide +kernel⟩, List.mem_of_getElem? (i := 1197) (by decide +kernel), List.mem_of_getElem? (i := 1875) (by decide +kernel), List.mem_of_getElem? (i := 1876) (by decide +kernel)⟩
theorem lw_p100 : lw_okq (⟨"PensionHouseModel", "best", "(II)I"⟩, 89) := ⟨⟨by decide +kernel, by decide +kernel⟩, List.mem_of_getElem? (i := 1197) (by decide +kernel), List.mem_of_getElem? (i := 1879) (by decide +kernel), List.mem_of_getElem? (i := 1880) (by decide +kernel)⟩
theorem lw_p101 : lw_okq (⟨"PensionHouseModel", "function", "(II)I"⟩, 89) := ⟨⟨by decide +kernel, by decide +kernel⟩, List.mem_of_getElem? (i := 1197) (by decide +kernel), List.mem_of_getElem? (i := 1883) (by decide +kernel), List.mem_of_getElem? (i := 1884) (by decide +kernel)⟩
theorem lw_p102 : lw_okq (⟨"PensionHouseModel", "workDue", "(IIII)I"⟩, 89) := ⟨⟨by decide +kernel, by decide +kernel⟩, List.mem_of_getElem? (i := 1197) (by decide +kernel), List.mem_of_getElem? (i := 1911) (by decide +kernel), List.mem_of_getElem? (i := 1912) (by decide +kernel)⟩
theorem lw_p103 : lw_okq (⟨"PensionHouseModel", "areAlike", "(II)Z"⟩, 89) := ⟨⟨by decide +kernel, by decide +kernel⟩, List.mem_of_getElem? (i := 1197) (by decide +kernel), List.mem_of_getElem? (i := 1916) (by decide +kernel), List.mem_of_getElem? (i := 1917) (by decide +kernel)⟩
theorem lw_p104 : lw_okq (⟨"PensionHouseModel", "dueOf", "(III)J"⟩, 89) := ⟨⟨by decide +kernel, by decide +kernel⟩, List.mem_of_getElem? (i := 1197) (by decide +kernel), List.mem_of_getElem? (i := 1928) (by decide +kernel), List.mem_of_getElem? (i := 1929) (by decide +kernel)⟩
theorem lw_p105 : lw_okq (⟨"PensionHouseModel", "pay", "(I)V"⟩, 89) := ⟨⟨by decide +kernel, by decide +kernel⟩, List.mem_of_getElem? (i := 1197) (by decide +kernel), List.mem_of_getElem? (i := 1952) (by decide +kernel), List.mem_of_getElem? (i := 1953) (by decide +kernel)⟩
theorem lw_p106 : lw_okq (⟨"PensionHouseModel", "paid", "(I)J"⟩, 89) := ⟨⟨by decide +kernel, by decide +kernel⟩, List.mem_of_getElem? (i := 1197) (by decide +kernel), List.mem_of_getElem? (i := 1956) (by decide +kernel), List.mem_of_getElem? (i := 1957) (by decide +kernel)⟩
def lw_privs_7 : List (MethodName × Nat) := [(⟨"PensionHouseModel", "last", "(II)I"⟩, 89), (⟨"PensionHouseModel", "put", "(IIIII)V"⟩, 89), (⟨"PensionHouseModel", "join", "(II)I"⟩, 89), (⟨"PensionHouseModel", "with", "(III)I"⟩, 89), (⟨"PensionHouseModel", "best", "(II)I"⟩, 89), (⟨"PensionHouseModel", "function", "(II)I"⟩, 89), (⟨"PensionHouseModel", "workDue", "(IIII)I"⟩, 89), (⟨"PensionHouseModel", "areAlike", "(II)Z"⟩, 89), (⟨"PensionHouseModel", "dueOf", "(III)J"⟩, 89), (⟨"PensionHouseModel", "pay", "(I)V"⟩, 89), (⟨"PensionHouseModel", "paid", "(I)J"⟩, 89)]
theorem lw_r7 : ∀ q ∈ lw_privs_7, lw_okq q := List.forall_mem_cons.mpr ⟨lw_p96, List.forall_mem_cons.mpr ⟨lw_p97, List.forall_mem_cons.mpr ⟨lw_p98, List.forall_mem_cons.mpr ⟨lw_p99, List.forall_mem_cons.mpr ⟨lw_p100, List.forall_mem_cons.mpr ⟨lw_p101, List.forall_mem_cons.mpr ⟨lw_p102, List.forall_mem_cons.mpr ⟨lw_p103, List.forall_mem_cons.mpr ⟨lw_p104, List.forall_mem_cons.mpr ⟨lw_p105, List.forall_mem_cons.mpr ⟨lw_p106, fun _ h => absurd h List.not_mem_nil⟩⟩⟩⟩⟩⟩⟩⟩⟩⟩⟩
def lw_privs : List (MethodName × Nat) := lw_privs_1 ++ (lw_privs_2 ++ (lw_privs_3 ++ (lw_privs_4 ++ (lw_privs_5 ++ (lw_privs_6 ++ (lw_privs_7))))))
def lw_tbl : List Cond := k2_sels lw_privs ++ tables_1
theorem lw_privs_ok : ∀ q ∈ lw_privs, lw_okq q := by
  show ∀ q ∈ lw_privs_1 ++ (lw_privs_2 ++ (lw_privs_3 ++ (lw_privs_4 ++ (lw_privs_5 ++ (lw_privs_6 ++ (lw_privs_7)))))), lw_okq q
  exact List.forall_mem_append.mpr ⟨lw_r1, List.forall_mem_append.mpr ⟨lw_r2, List.forall_mem_append.mpr ⟨lw_r3, List.forall_mem_append.mpr ⟨lw_r4, List.forall_mem_append.mpr ⟨lw_r5, List.forall_mem_append.mpr ⟨lw_r6, lw_r7⟩⟩⟩⟩⟩⟩
/-- the streams that the claim lets the run draw from -/
abbrev lw_cs : List Choice := [Jvm.Choice.named "NaN.bits"]
theorem lw_bits : nanBits ∈ lw_cs := by first | decide | exact List.mem_cons_self | simp [lw_cs, nanBits]
-- ===== end of PART A; then your names; then what follows =====

theorem goodIn_r {big : List Cond} (ws : List Cond) (ps : List Nat) (hp : ws = ps.filterMap (fun i => big[i]?)) (h : ws.all goodWord = true) : GoodIn big ws := by
  intro w hw
  have h1 := List.all_eq_true.mp h w hw
  rw [hp] at hw
  obtain ⟨i, -, hi⟩ := List.mem_filterMap.mp hw
  have hm : w ∈ big := by first | exact List.mem_of_getElem? hi | exact List.getElem?_mem hi
  exact ⟨hm, good_of_word h1⟩
theorem goodIn_app {big a b : List Cond} (ha : GoodIn big a) (hb : GoodIn big b) : GoodIn big (a ++ b) := fun w h => (List.mem_append.mp h).elim (ha w) (hb w)
theorem goodIn_ca {big a b : List Cond} {c : Cond} (ha : GoodIn big (c :: a)) (hb : GoodIn big b) : GoodIn big (c :: (a ++ b)) := fun w h => (List.mem_cons.mp h).elim (fun e => ha w (List.mem_cons.mpr (Or.inl e))) (fun h => (List.mem_append.mp h).elim (fun h => ha w (List.mem_cons.mpr (Or.inr h))) (hb w))
def RX0 : String := "PensionHouse$Award"
def TX0 : u_T := fun k => match k with
  | 0 => ("PensionHouse$Award", "member", "I", false)
  | 1 => ("PensionHouse$Award", "scheme", "I", false)
  | 2 => ("PensionHouse$Award", "first", "I", false)
  | 3 => ("PensionHouse$Award", "deductions", "I", false)
  | 4 => ("PensionHouse$Award", "cents", "[I", true)
  | _ => ("PensionHouse$Award", "ranks", "[I", true)
def tyX0 : Nat → FieldType := fun k => match k with
  | 0 => .int
  | 1 => .int
  | 2 => .int
  | 3 => .int
  | 4 => .array .int
  | _ => .array .int
theorem nmX0 : ∀ a, a < 6 → ∀ b, b < 6 → a ≠ b → (TX0 a).2.1 ≠ (TX0 b).2.1 := by decide +kernel
theorem tyX0_ok : ∀ k, k < 6 → parseFieldDescriptor (TX0 k).2.2.1 = some (tyX0 k) := by decide +kernel
abbrev cX0_init : ByteArray := prog_2_method_1_code
def yX0_init : MethodName := ⟨RX0, "<init>", "()V"⟩
abbrev cX0_addDeduction : ByteArray := prog_2_method_2_code
def yX0_addDeduction : MethodName := ⟨RX0, "addDeduction", "(II)I"⟩
abbrev cX0_takeFrom : ByteArray := prog_2_method_3_code
def yX0_takeFrom : MethodName := ⟨RX0, "takeFrom", "(J[JI)J"⟩
def RX1 : String := "PensionHouse$Case"
def TX1 : u_T := fun k => match k with
  | 0 => ("PensionHouse$Case", "wanted", "I", false)
  | 1 => ("PensionHouse$Case", "failure", "I", false)
  | 2 => ("PensionHouse$Case", "line", "I", false)
  | 3 => ("PensionHouse$Case", "work", "I", false)
  | 4 => ("PensionHouse$Case", "asked", "I", false)
  | 5 => ("PensionHouse$Case", "tried", "I", false)
  | 6 => ("PensionHouse$Case", "failures", "[I", true)
  | 7 => ("PensionHouse$Case", "lines", "[I", true)
  | 8 => ("PensionHouse$Case", "figures", "[LPensionHouse$Value;", true)
  | 9 => ("PensionHouse$Case", "steps", "[I", true)
  | _ => ("PensionHouse$Case", "stepCount", "I", false)
def tyX1 : Nat → FieldType := fun k => match k with
  | 0 => .int
  | 1 => .int
  | 2 => .int
  | 3 => .int
  | 4 => .int
  | 5 => .int
  | 6 => .array .int
  | 7 => .array .int
  | 8 => .array (.object "PensionHouse$Value")
  | 9 => .array .int
  | _ => .int
theorem nmX1 : ∀ a, a < 11 → ∀ b, b < 11 → a ≠ b → (TX1 a).2.1 ≠ (TX1 b).2.1 := by decide +kernel
theorem tyX1_ok : ∀ k, k < 11 → parseFieldDescriptor (TX1 k).2.2.1 = some (tyX1 k) := by decide +kernel
abbrev cX1_init : ByteArray := prog_3_method_1_code
def yX1_init : MethodName := ⟨RX1, "<init>", "()V"⟩
abbrev cX1_clear : ByteArray := prog_3_method_2_code
def yX1_clear : MethodName := ⟨RX1, "clear", "()V"⟩
abbrev cX1_isWorked : ByteArray := prog_3_method_3_code
def yX1_isWorked : MethodName := ⟨RX1, "isWorked", "(I)Z"⟩
abbrev cX1_endRule : ByteArray := prog_3_method_4_code
def yX1_endRule : MethodName := ⟨RX1, "endRule", "(ILPensionHouse$Value;)V"⟩
abbrev cX1_endsLike : ByteArray := prog_3_method_5_code
def yX1_endsLike : MethodName := ⟨RX1, "endsLike", "(LPensionHouse$Case;)Z"⟩
abbrev cX1_cents : ByteArray := prog_3_method_6_code
def yX1_cents : MethodName := ⟨RX1, "cents", "()I"⟩
def RX2 : String := "PensionHouse$Fact"
def TX2 : u_T := fun k => match k with
  | 0 => ("PensionHouse$Fact", "member", "I", false)
  | 1 => ("PensionHouse$Fact", "name", "J", false)
  | 2 => ("PensionHouse$Fact", "from", "I", false)
  | 3 => ("PensionHouse$Fact", "to", "I", false)
  | 4 => ("PensionHouse$Fact", "toldOn", "I", false)
  | 5 => ("PensionHouse$Fact", "voidFrom", "I", false)
  | _ => ("PensionHouse$Fact", "value", "LPensionHouse$Value;", true)
def tyX2 : Nat → FieldType := fun k => match k with
  | 0 => .int
  | 1 => .long
  | 2 => .int
  | 3 => .int
  | 4 => .int
  | 5 => .int
  | _ => .object "PensionHouse$Value"
theorem nmX2 : ∀ a, a < 7 → ∀ b, b < 7 → a ≠ b → (TX2 a).2.1 ≠ (TX2 b).2.1 := by decide +kernel
theorem tyX2_ok : ∀ k, k < 7 → parseFieldDescriptor (TX2 k).2.2.1 = some (tyX2 k) := by decide +kernel
abbrev cX2_init : ByteArray := prog_4_method_1_code
def yX2_init : MethodName := ⟨RX2, "<init>", "()V"⟩
abbrev cX2_isKnown : ByteArray := prog_4_method_2_code
def yX2_isKnown : MethodName := ⟨RX2, "isKnown", "(II)Z"⟩
def RX3 : String := "PensionHouse$Ops"
def TX3 : u_T := fun k => match k with
  | _ => ("", "", "", false)
def tyX3 : Nat → FieldType := fun k => match k with
  | _ => .int
theorem nmX3 : ∀ a, a < 0 → ∀ b, b < 0 → a ≠ b → (TX3 a).2.1 ≠ (TX3 b).2.1 := by decide +kernel
theorem tyX3_ok : ∀ k, k < 0 → parseFieldDescriptor (TX3 k).2.2.1 = some (tyX3 k) := by decide +kernel
abbrev cX3_arithmetic : ByteArray := prog_5_method_2_code
def yX3_arithmetic : MethodName := ⟨RX3, "arithmetic", "(ILPensionHouse$Value;LPensionHouse$Value;)I"⟩
abbrev cX3_isBeyond : ByteArray := prog_5_method_3_code
def yX3_isBeyond : MethodName := ⟨RX3, "isBeyond", "(IJJ)Z"⟩
abbrev cX3_wholeArithmetic : ByteArray := prog_5_method_4_code
def yX3_wholeArithmetic : MethodName := ⟨RX3, "wholeArithmetic", "(IJJ)J"⟩
abbrev cX3_compare : ByteArray := prog_5_method_5_code
def yX3_compare : MethodName := ⟨RX3, "compare", "(ILPensionHouse$Value;LPensionHouse$Value;)I"⟩
abbrev cX3_tells : ByteArray := prog_5_method_6_code
def yX3_tells : MethodName := ⟨RX3, "tells", "(IJJ)Z"⟩
abbrev cX3_extreme : ByteArray := prog_5_method_7_code
def yX3_extreme : MethodName := ⟨RX3, "extreme", "(ZLPensionHouse$Value;LPensionHouse$Value;)I"⟩
abbrev cX3_negative : ByteArray := prog_5_method_8_code
def yX3_negative : MethodName := ⟨RX3, "negative", "(LPensionHouse$Value;)I"⟩
abbrev cX3_item : ByteArray := prog_5_method_9_code
def yX3_item : MethodName := ⟨RX3, "item", "(LPensionHouse$Value;LPensionHouse$Value;)I"⟩
abbrev cX3_born : ByteArray := prog_5_method_10_code
def yX3_born : MethodName := ⟨RX3, "born", "(LPensionHouse$Register;LPensionHouse$Value;)I"⟩
abbrev cX3_len : ByteArray := prog_5_method_11_code
def yX3_len : MethodName := ⟨RX3, "len", "(LPensionHouse$Value;)I"⟩
abbrev cX3_whole : ByteArray := prog_5_method_12_code
def yX3_whole : MethodName := ⟨RX3, "whole", "(LPensionHouse$Value;)I"⟩
abbrev cX3_real : ByteArray := prog_5_method_13_code
def yX3_real : MethodName := ⟨RX3, "real", "(ILPensionHouse$Value;)I"⟩
abbrev cX3_zeros : ByteArray := prog_5_method_14_code
def yX3_zeros : MethodName := ⟨RX3, "zeros", "(LPensionHouse$Value;)I"⟩
abbrev cX3_last : ByteArray := prog_5_method_15_code
def yX3_last : MethodName := ⟨RX3, "last", "(LPensionHouse$Value;LPensionHouse$Value;)I"⟩
abbrev cX3_join : ByteArray := prog_5_method_16_code
def yX3_join : MethodName := ⟨RX3, "join", "(LPensionHouse$Register;LPensionHouse$Value;LPensionHouse$Value;)I"⟩
abbrev cX3_with : ByteArray := prog_5_method_17_code
def yX3_with : MethodName := ⟨RX3, "with", "(LPensionHouse$Register;LPensionHouse$Value;LPensionHouse$Value;LPensionHouse$Value;)I"⟩
abbrev cX3_fitsSort : ByteArray := prog_5_method_18_code
def yX3_fitsSort : MethodName := ⟨RX3, "fitsSort", "(LPensionHouse$Value;LPensionHouse$Value;)Z"⟩
abbrev cX3_best : ByteArray := prog_5_method_19_code
def yX3_best : MethodName := ⟨RX3, "best", "(LPensionHouse$Value;LPensionHouse$Value;)I"⟩
abbrev cX3_takeGreatest : ByteArray := prog_5_method_20_code
def yX3_takeGreatest : MethodName := ⟨RX3, "takeGreatest", "(LPensionHouse$Value;I)J"⟩
def RX4 : String := "PensionHouse$Parser"
def TX4 : u_T := fun k => match k with
  | 0 => ("PensionHouse$Parser", "tape", "LPensionHouse$Tape;", true)
  | 1 => ("PensionHouse$Parser", "text", "LPensionHouse$Text;", false)
  | 2 => ("PensionHouse$Parser", "fault", "I", false)
  | 3 => ("PensionHouse$Parser", "faultPlace", "I", false)
  | 4 => ("PensionHouse$Parser", "counterNames", "[J", true)
  | 5 => ("PensionHouse$Parser", "counterSums", "[I", true)
  | _ => ("PensionHouse$Parser", "counters", "I", false)
def tyX4 : Nat → FieldType := fun k => match k with
  | 0 => .object "PensionHouse$Tape"
  | 1 => .object "PensionHouse$Text"
  | 2 => .int
  | 3 => .int
  | 4 => .array .long
  | 5 => .array .int
  | _ => .int
theorem nmX4 : ∀ a, a < 7 → ∀ b, b < 7 → a ≠ b → (TX4 a).2.1 ≠ (TX4 b).2.1 := by decide +kernel
theorem tyX4_ok : ∀ k, k < 7 → parseFieldDescriptor (TX4 k).2.2.1 = some (tyX4 k) := by decide +kernel
abbrev cX4_init : ByteArray := prog_6_method_1_code
def yX4_init : MethodName := ⟨RX4, "<init>", "()V"⟩
abbrev cX4_parse : ByteArray := prog_6_method_2_code
def yX4_parse : MethodName := ⟨RX4, "parse", "()V"⟩
abbrev cX4_refuse : ByteArray := prog_6_method_3_code
def yX4_refuse : MethodName := ⟨RX4, "refuse", "(I)V"⟩
abbrev cX4_refuseToken : ByteArray := prog_6_method_4_code
def yX4_refuseToken : MethodName := ⟨RX4, "refuseToken", "()V"⟩
abbrev cX4_take : ByteArray := prog_6_method_5_code
def yX4_take : MethodName := ⟨RX4, "take", "(I)V"⟩
abbrev cX4_part : ByteArray := prog_6_method_6_code
def yX4_part : MethodName := ⟨RX4, "part", "(IJ)I"⟩
abbrev cX4_isNext : ByteArray := prog_6_method_7_code
def yX4_isNext : MethodName := ⟨RX4, "isNext", "(I)Z"⟩
abbrev cX4_beginsU : ByteArray := prog_6_method_8_code
def yX4_beginsU : MethodName := ⟨RX4, "beginsU", "()Z"⟩
abbrev cX4_mayBegin : ByteArray := prog_6_method_9_code
def yX4_mayBegin : MethodName := ⟨RX4, "mayBegin", "(ZI)Z"⟩
abbrev cX4_readE : ByteArray := prog_6_method_10_code
def yX4_readE : MethodName := ⟨RX4, "readE", "(I)I"⟩
abbrev cX4_readC : ByteArray := prog_6_method_11_code
def yX4_readC : MethodName := ⟨RX4, "readC", "(I)I"⟩
abbrev cX4_readA : ByteArray := prog_6_method_12_code
def yX4_readA : MethodName := ⟨RX4, "readA", "(I)I"⟩
abbrev cX4_readM : ByteArray := prog_6_method_13_code
def yX4_readM : MethodName := ⟨RX4, "readM", "(I)I"⟩
abbrev cX4_readU : ByteArray := prog_6_method_14_code
def yX4_readU : MethodName := ⟨RX4, "readU", "(I)I"⟩
abbrev cX4_readP : ByteArray := prog_6_method_15_code
def yX4_readP : MethodName := ⟨RX4, "readP", "(I)I"⟩
abbrev cX4_sumOf : ByteArray := prog_6_method_16_code
def yX4_sumOf : MethodName := ⟨RX4, "sumOf", "(J)I"⟩
abbrev cX4_readSum : ByteArray := prog_6_method_17_code
def yX4_readSum : MethodName := ⟨RX4, "readSum", "(I)I"⟩
abbrev cX4_readFunction : ByteArray := prog_6_method_18_code
def yX4_readFunction : MethodName := ⟨RX4, "readFunction", "(I)I"⟩
def RX5 : String := "PensionHouse$Real"
def TX5 : u_T := fun k => match k with
  | _ => ("", "", "", false)
def tyX5 : Nat → FieldType := fun k => match k with
  | _ => .int
theorem nmX5 : ∀ a, a < 0 → ∀ b, b < 0 → a ≠ b → (TX5 a).2.1 ≠ (TX5 b).2.1 := by decide +kernel
theorem tyX5_ok : ∀ k, k < 0 → parseFieldDescriptor (TX5 k).2.2.1 = some (tyX5 k) := by decide +kernel
abbrev cX5_isNot : ByteArray := prog_7_method_2_code
def yX5_isNot : MethodName := ⟨RX5, "isNot", "(J)Z"⟩
abbrev cX5_order : ByteArray := prog_7_method_3_code
def yX5_order : MethodName := ⟨RX5, "order", "(J)J"⟩
abbrev cX5_orderWithoutSignOfZero : ByteArray := prog_7_method_4_code
def yX5_orderWithoutSignOfZero : MethodName := ⟨RX5, "orderWithoutSignOfZero", "(J)J"⟩
abbrev cX5_mantissa : ByteArray := prog_7_method_5_code
def yX5_mantissa : MethodName := ⟨RX5, "mantissa", "(J)J"⟩
abbrev cX5_exponent : ByteArray := prog_7_method_6_code
def yX5_exponent : MethodName := ⟨RX5, "exponent", "(J)I"⟩
abbrev cX5_rounded : ByteArray := prog_7_method_7_code
def yX5_rounded : MethodName := ⟨RX5, "rounded", "(JIJ)J"⟩
abbrev cX5_nearest : ByteArray := prog_7_method_8_code
def yX5_nearest : MethodName := ⟨RX5, "nearest", "(J)J"⟩
abbrev cX5_decimal : ByteArray := prog_7_method_9_code
def yX5_decimal : MethodName := ⟨RX5, "decimal", "(JI)J"⟩
abbrev cX5_plus : ByteArray := prog_7_method_10_code
def yX5_plus : MethodName := ⟨RX5, "plus", "(JJ)J"⟩
abbrev cX5_times : ByteArray := prog_7_method_11_code
def yX5_times : MethodName := ⟨RX5, "times", "(JJ)J"⟩
abbrev cX5_over : ByteArray := prog_7_method_12_code
def yX5_over : MethodName := ⟨RX5, "over", "(JJ)J"⟩
abbrev cX5_remainder : ByteArray := prog_7_method_13_code
def yX5_remainder : MethodName := ⟨RX5, "remainder", "(JJ)J"⟩
abbrev cX5_root : ByteArray := prog_7_method_14_code
def yX5_root : MethodName := ⟨RX5, "root", "(J)J"⟩
abbrev cX5_power : ByteArray := prog_7_method_15_code
def yX5_power : MethodName := ⟨RX5, "power", "(J)I"⟩
abbrev cX5_below : ByteArray := prog_7_method_16_code
def yX5_below : MethodName := ⟨RX5, "below", "(J)J"⟩
abbrev cX5_near : ByteArray := prog_7_method_17_code
def yX5_near : MethodName := ⟨RX5, "near", "(J)J"⟩
abbrev cX5_cutOff : ByteArray := prog_7_method_18_code
def yX5_cutOff : MethodName := ⟨RX5, "cutOff", "(J)J"⟩
def RX6 : String := "PensionHouse$Register"
def TX6 : u_T := fun k => match k with
  | 0 => ("PensionHouse$Register", "persons", "I", false)
  | 1 => ("PensionHouse$Register", "isChild", "[Z", true)
  | 2 => ("PensionHouse$Register", "births", "[I", true)
  | 3 => ("PensionHouse$Register", "facts", "I", false)
  | _ => ("PensionHouse$Register", "book", "[LPensionHouse$Fact;", true)
def tyX6 : Nat → FieldType := fun k => match k with
  | 0 => .int
  | 1 => .array .boolean
  | 2 => .array .int
  | 3 => .int
  | _ => .array (.object "PensionHouse$Fact")
theorem nmX6 : ∀ a, a < 5 → ∀ b, b < 5 → a ≠ b → (TX6 a).2.1 ≠ (TX6 b).2.1 := by decide +kernel
theorem tyX6_ok : ∀ k, k < 5 → parseFieldDescriptor (TX6 k).2.2.1 = some (tyX6 k) := by decide +kernel
abbrev cX6_init : ByteArray := prog_8_method_1_code
def yX6_init : MethodName := ⟨RX6, "<init>", "()V"⟩
abbrev cX6_addPerson : ByteArray := prog_8_method_2_code
def yX6_addPerson : MethodName := ⟨RX6, "addPerson", "(ZI)I"⟩
abbrev cX6_hasPerson : ByteArray := prog_8_method_3_code
def yX6_hasPerson : MethodName := ⟨RX6, "hasPerson", "(J)Z"⟩
abbrev cX6_belongs : ByteArray := prog_8_method_4_code
def yX6_belongs : MethodName := ⟨RX6, "belongs", "(IJ)Z"⟩
abbrev cX6_latest : ByteArray := prog_8_method_5_code
def yX6_latest : MethodName := ⟨RX6, "latest", "(IJII)I"⟩
def RX7 : String := "PensionHouse$Tape"
def TX7 : u_T := fun k => match k with
  | 0 => ("PensionHouse$Tape", "bytes", "[B", true)
  | 1 => ("PensionHouse$Tape", "size", "I", false)
  | 2 => ("PensionHouse$Tape", "end", "I", false)
  | 3 => ("PensionHouse$Tape", "at", "I", false)
  | 4 => ("PensionHouse$Tape", "token", "I", false)
  | 5 => ("PensionHouse$Tape", "place", "I", false)
  | 6 => ("PensionHouse$Tape", "content", "J", false)
  | _ => ("PensionHouse$Tape", "decimals", "I", false)
def tyX7 : Nat → FieldType := fun k => match k with
  | 0 => .array .byte
  | 1 => .int
  | 2 => .int
  | 3 => .int
  | 4 => .int
  | 5 => .int
  | 6 => .long
  | _ => .int
theorem nmX7 : ∀ a, a < 8 → ∀ b, b < 8 → a ≠ b → (TX7 a).2.1 ≠ (TX7 b).2.1 := by decide +kernel
theorem tyX7_ok : ∀ k, k < 8 → parseFieldDescriptor (TX7 k).2.2.1 = some (tyX7 k) := by decide +kernel
abbrev cX7_init : ByteArray := prog_9_method_1_code
def yX7_init : MethodName := ⟨RX7, "<init>", "()V"⟩
abbrev cX7_add : ByteArray := prog_9_method_2_code
def yX7_add : MethodName := ⟨RX7, "add", "(B)V"⟩
abbrev cX7_open : ByteArray := prog_9_method_3_code
def yX7_open : MethodName := ⟨RX7, "open", "()V"⟩
abbrev cX7_takeName : ByteArray := prog_9_method_4_code
def yX7_takeName : MethodName := ⟨RX7, "takeName", "()J"⟩
abbrev cX7_next : ByteArray := prog_9_method_5_code
def yX7_next : MethodName := ⟨RX7, "next", "()V"⟩
abbrev cX7_byteAt : ByteArray := prog_9_method_6_code
def yX7_byteAt : MethodName := ⟨RX7, "byteAt", "(I)I"⟩
abbrev cX7_isLetter : ByteArray := prog_9_method_7_code
def yX7_isLetter : MethodName := ⟨RX7, "isLetter", "(I)Z"⟩
abbrev cX7_isDigit : ByteArray := prog_9_method_8_code
def yX7_isDigit : MethodName := ⟨RX7, "isDigit", "(I)Z"⟩
abbrev cX7_readLetters : ByteArray := prog_9_method_9_code
def yX7_readLetters : MethodName := ⟨RX7, "readLetters", "()V"⟩
abbrev cX7_wordOrName : ByteArray := prog_9_method_10_code
def yX7_wordOrName : MethodName := ⟨RX7, "wordOrName", "(J)I"⟩
abbrev cX7_readDigits : ByteArray := prog_9_method_11_code
def yX7_readDigits : MethodName := ⟨RX7, "readDigits", "()V"⟩
abbrev cX7_readSign : ByteArray := prog_9_method_12_code
def yX7_readSign : MethodName := ⟨RX7, "readSign", "(I)V"⟩
abbrev cX7_arity : ByteArray := prog_9_method_13_code
def yX7_arity : MethodName := ⟨RX7, "arity", "(I)I"⟩
def RX8 : String := "PensionHouse$Text"
def TX8 : u_T := fun k => match k with
  | 0 => ("PensionHouse$Text", "first", "I", false)
  | 1 => ("PensionHouse$Text", "parts", "I", false)
  | 2 => ("PensionHouse$Text", "kinds", "[I", true)
  | 3 => ("PensionHouse$Text", "contents", "[J", true)
  | 4 => ("PensionHouse$Text", "inners", "[I", true)
  | 5 => ("PensionHouse$Text", "rules", "I", false)
  | 6 => ("PensionHouse$Text", "names", "[J", true)
  | _ => ("PensionHouse$Text", "roots", "[I", true)
def tyX8 : Nat → FieldType := fun k => match k with
  | 0 => .int
  | 1 => .int
  | 2 => .array .int
  | 3 => .array .long
  | 4 => .array .int
  | 5 => .int
  | 6 => .array .long
  | _ => .array .int
theorem nmX8 : ∀ a, a < 8 → ∀ b, b < 8 → a ≠ b → (TX8 a).2.1 ≠ (TX8 b).2.1 := by decide +kernel
theorem tyX8_ok : ∀ k, k < 8 → parseFieldDescriptor (TX8 k).2.2.1 = some (tyX8 k) := by decide +kernel
abbrev cX8_init : ByteArray := prog_10_method_1_code
def yX8_init : MethodName := ⟨RX8, "<init>", "()V"⟩
abbrev cX8_clear : ByteArray := prog_10_method_2_code
def yX8_clear : MethodName := ⟨RX8, "clear", "()V"⟩
abbrev cX8_addPart : ByteArray := prog_10_method_3_code
def yX8_addPart : MethodName := ⟨RX8, "addPart", "(IJ)I"⟩
abbrev cX8_setInner : ByteArray := prog_10_method_4_code
def yX8_setInner : MethodName := ⟨RX8, "setInner", "(III)V"⟩
abbrev cX8_inner : ByteArray := prog_10_method_5_code
def yX8_inner : MethodName := ⟨RX8, "inner", "(II)I"⟩
abbrev cX8_addRule : ByteArray := prog_10_method_6_code
def yX8_addRule : MethodName := ⟨RX8, "addRule", "(JI)V"⟩
abbrev cX8_ruleNamed : ByteArray := prog_10_method_7_code
def yX8_ruleNamed : MethodName := ⟨RX8, "ruleNamed", "(J)I"⟩
def RX9 : String := "PensionHouse$Value"
def TX9 : u_T := fun k => match k with
  | 0 => ("PensionHouse$Value", "sort", "I", false)
  | 1 => ("PensionHouse$Value", "size", "I", false)
  | _ => ("PensionHouse$Value", "bits", "[J", true)
def tyX9 : Nat → FieldType := fun k => match k with
  | 0 => .int
  | 1 => .int
  | _ => .array .long
theorem nmX9 : ∀ a, a < 3 → ∀ b, b < 3 → a ≠ b → (TX9 a).2.1 ≠ (TX9 b).2.1 := by decide +kernel
theorem tyX9_ok : ∀ k, k < 3 → parseFieldDescriptor (TX9 k).2.2.1 = some (tyX9 k) := by decide +kernel
abbrev cX9_init : ByteArray := prog_11_method_1_code
def yX9_init : MethodName := ⟨RX9, "<init>", "()V"⟩
abbrev cX9_setNumber : ByteArray := prog_11_method_2_code
def yX9_setNumber : MethodName := ⟨RX9, "setNumber", "(IJ)V"⟩
abbrev cX9_setRow : ByteArray := prog_11_method_3_code
def yX9_setRow : MethodName := ⟨RX9, "setRow", "(II)V"⟩
abbrev cX9_setTo : ByteArray := prog_11_method_4_code
def yX9_setTo : MethodName := ⟨RX9, "setTo", "(LPensionHouse$Value;)V"⟩
abbrev cX9_setBits : ByteArray := prog_11_method_5_code
def yX9_setBits : MethodName := ⟨RX9, "setBits", "(IJ)V"⟩
abbrev cX9_isNumber : ByteArray := prog_11_method_6_code
def yX9_isNumber : MethodName := ⟨RX9, "isNumber", "()Z"⟩
abbrev cX9_isRow : ByteArray := prog_11_method_7_code
def yX9_isRow : MethodName := ⟨RX9, "isRow", "()Z"⟩
abbrev cX9_isRowOfNumbers : ByteArray := prog_11_method_8_code
def yX9_isRowOfNumbers : MethodName := ⟨RX9, "isRowOfNumbers", "()Z"⟩
abbrev cX9_isKin : ByteArray := prog_11_method_9_code
def yX9_isKin : MethodName := ⟨RX9, "isKin", "()Z"⟩
abbrev cX9_hasItem : ByteArray := prog_11_method_10_code
def yX9_hasItem : MethodName := ⟨RX9, "hasItem", "(J)Z"⟩
abbrev cX9_isLike : ByteArray := prog_11_method_11_code
def yX9_isLike : MethodName := ⟨RX9, "isLike", "(LPensionHouse$Value;)Z"⟩
def RX10 : String := "PensionHouse$Worker"
def TX10 : u_T := fun k => match k with
  | 0 => ("PensionHouse$Worker", "register", "LPensionHouse$Register;", true)
  | 1 => ("PensionHouse$Worker", "frameParts", "[I", true)
  | 2 => ("PensionHouse$Worker", "frameStages", "[I", true)
  | 3 => ("PensionHouse$Worker", "frameHeights", "[I", true)
  | 4 => ("PensionHouse$Worker", "frameRules", "[I", true)
  | 5 => ("PensionHouse$Worker", "frames", "I", false)
  | 6 => ("PensionHouse$Worker", "pile", "[LPensionHouse$Value;", true)
  | 7 => ("PensionHouse$Worker", "height", "I", false)
  | 8 => ("PensionHouse$Worker", "counters", "[J", true)
  | 9 => ("PensionHouse$Worker", "file", "LPensionHouse$Case;", false)
  | 10 => ("PensionHouse$Worker", "text", "LPensionHouse$Text;", false)
  | 11 => ("PensionHouse$Worker", "member", "I", false)
  | 12 => ("PensionHouse$Worker", "day", "I", false)
  | _ => ("PensionHouse$Worker", "asOf", "I", false)
def tyX10 : Nat → FieldType := fun k => match k with
  | 0 => .object "PensionHouse$Register"
  | 1 => .array .int
  | 2 => .array .int
  | 3 => .array .int
  | 4 => .array .int
  | 5 => .int
  | 6 => .array (.object "PensionHouse$Value")
  | 7 => .int
  | 8 => .array .long
  | 9 => .object "PensionHouse$Case"
  | 10 => .object "PensionHouse$Text"
  | 11 => .int
  | 12 => .int
  | _ => .int
theorem nmX10 : ∀ a, a < 14 → ∀ b, b < 14 → a ≠ b → (TX10 a).2.1 ≠ (TX10 b).2.1 := by decide +kernel
theorem tyX10_ok : ∀ k, k < 14 → parseFieldDescriptor (TX10 k).2.2.1 = some (tyX10 k) := by decide +kernel
abbrev cX10_init : ByteArray := prog_12_method_1_code
def yX10_init : MethodName := ⟨RX10, "<init>", "(LPensionHouse$Register;)V"⟩
abbrev cX10_work : ByteArray := prog_12_method_2_code
def yX10_work : MethodName := ⟨RX10, "work", "(LPensionHouse$Case;LPensionHouse$Text;JIII)V"⟩
abbrev cX10_turn : ByteArray := prog_12_method_3_code
def yX10_turn : MethodName := ⟨RX10, "turn", "()V"⟩
abbrev cX10_workOf : ByteArray := prog_12_method_4_code
def yX10_workOf : MethodName := ⟨RX10, "workOf", "(I)I"⟩
abbrev cX10_spend : ByteArray := prog_12_method_5_code
def yX10_spend : MethodName := ⟨RX10, "spend", "(I)Z"⟩
abbrev cX10_fail : ByteArray := prog_12_method_6_code
def yX10_fail : MethodName := ⟨RX10, "fail", "(I)V"⟩
abbrev cX10_enter : ByteArray := prog_12_method_7_code
def yX10_enter : MethodName := ⟨RX10, "enter", "(II)V"⟩
abbrev cX10_enterInner : ByteArray := prog_12_method_8_code
def yX10_enterInner : MethodName := ⟨RX10, "enterInner", "(II)V"⟩
abbrev cX10_leave : ByteArray := prog_12_method_9_code
def yX10_leave : MethodName := ⟨RX10, "leave", "()V"⟩
abbrev cX10_leaveFailed : ByteArray := prog_12_method_10_code
def yX10_leaveFailed : MethodName := ⟨RX10, "leaveFailed", "()V"⟩
abbrev cX10_pushed : ByteArray := prog_12_method_11_code
def yX10_pushed : MethodName := ⟨RX10, "pushed", "()LPensionHouse$Value;"⟩
abbrev cX10_pushNumber : ByteArray := prog_12_method_12_code
def yX10_pushNumber : MethodName := ⟨RX10, "pushNumber", "(IJ)V"⟩
abbrev cX10_counterOf : ByteArray := prog_12_method_13_code
def yX10_counterOf : MethodName := ⟨RX10, "counterOf", "(J)J"⟩
abbrev cX10_askFact : ByteArray := prog_12_method_14_code
def yX10_askFact : MethodName := ⟨RX10, "askFact", "(J)V"⟩
abbrev cX10_wantRule : ByteArray := prog_12_method_15_code
def yX10_wantRule : MethodName := ⟨RX10, "wantRule", "(II)V"⟩
abbrev cX10_decide : ByteArray := prog_12_method_16_code
def yX10_decide : MethodName := ⟨RX10, "decide", "(II)V"⟩
abbrev cX10_attempt : ByteArray := prog_12_method_17_code
def yX10_attempt : MethodName := ⟨RX10, "attempt", "(II)V"⟩
abbrev cX10_addUp : ByteArray := prog_12_method_18_code
def yX10_addUp : MethodName := ⟨RX10, "addUp", "(II)V"⟩
abbrev cX10_arityOf : ByteArray := prog_12_method_19_code
def yX10_arityOf : MethodName := ⟨RX10, "arityOf", "(I)I"⟩
abbrev cX10_finish : ByteArray := prog_12_method_20_code
def yX10_finish : MethodName := ⟨RX10, "finish", "(II)V"⟩
def RX11 : String := "PensionHouse"
def TX11 : u_T := fun k => match k with
  | 0 => ("PensionHouse", "register", "LPensionHouse$Register;", true)
  | 1 => ("PensionHouse", "desk", "LPensionHouse$Value;", true)
  | 2 => ("PensionHouse", "parser", "LPensionHouse$Parser;", true)
  | 3 => ("PensionHouse", "tape", "LPensionHouse$Tape;", true)
  | 4 => ("PensionHouse", "editions", "[LPensionHouse$Text;", true)
  | 5 => ("PensionHouse", "worker", "LPensionHouse$Worker;", true)
  | 6 => ("PensionHouse", "shown", "LPensionHouse$Case;", true)
  | 7 => ("PensionHouse", "scratch", "LPensionHouse$Case;", true)
  | 8 => ("PensionHouse", "rival", "LPensionHouse$Case;", true)
  | 9 => ("PensionHouse", "awards", "[LPensionHouse$Award;", true)
  | 10 => ("PensionHouse", "awardCount", "I", false)
  | 11 => ("PensionHouse", "payments", "[[J", true)
  | 12 => ("PensionHouse", "paymentCount", "I", false)
  | 13 => ("PensionHouse", "now", "I", false)
  | 14 => ("PensionHouse", "percent", "I", false)
  | 15 => ("PensionHouse", "runMonth", "I", false)
  | 16 => ("PensionHouse", "runAwards", "[I", true)
  | 17 => ("PensionHouse", "runSize", "I", false)
  | _ => ("PensionHouse", "runPaid", "I", false)
def tyX11 : Nat → FieldType := fun k => match k with
  | 0 => .object "PensionHouse$Register"
  | 1 => .object "PensionHouse$Value"
  | 2 => .object "PensionHouse$Parser"
  | 3 => .object "PensionHouse$Tape"
  | 4 => .array (.object "PensionHouse$Text")
  | 5 => .object "PensionHouse$Worker"
  | 6 => .object "PensionHouse$Case"
  | 7 => .object "PensionHouse$Case"
  | 8 => .object "PensionHouse$Case"
  | 9 => .array (.object "PensionHouse$Award")
  | 10 => .int
  | 11 => .array (.array .long)
  | 12 => .int
  | 13 => .int
  | 14 => .int
  | 15 => .int
  | 16 => .array .int
  | 17 => .int
  | _ => .int
theorem nmX11 : ∀ a, a < 19 → ∀ b, b < 19 → a ≠ b → (TX11 a).2.1 ≠ (TX11 b).2.1 := by decide +kernel
theorem tyX11_ok : ∀ k, k < 19 → parseFieldDescriptor (TX11 k).2.2.1 = some (tyX11 k) := by decide +kernel
abbrev cX11_init : ByteArray := prog_1_method_1_code
def yX11_init : MethodName := ⟨RX11, "<init>", "()V"⟩
abbrev cX11_feed : ByteArray := prog_1_method_2_code
def yX11_feed : MethodName := ⟨RX11, "feed", "(JI)I"⟩
abbrev cX11_cut : ByteArray := prog_1_method_3_code
def yX11_cut : MethodName := ⟨RX11, "cut", "(I)I"⟩
abbrev cX11_clock : ByteArray := prog_1_method_4_code
def yX11_clock : MethodName := ⟨RX11, "clock", "(I)I"⟩
abbrev cX11_person : ByteArray := prog_1_method_5_code
def yX11_person : MethodName := ⟨RX11, "person", "(ZI)I"⟩
abbrev cX11_desk : ByteArray := prog_1_method_6_code
def yX11_desk : MethodName := ⟨RX11, "desk", "(II)I"⟩
abbrev cX11_write : ByteArray := prog_1_method_7_code
def yX11_write : MethodName := ⟨RX11, "write", "(IJ)I"⟩
abbrev cX11_seat : ByteArray := prog_1_method_8_code
def yX11_seat : MethodName := ⟨RX11, "seat", "(II)I"⟩
abbrev cX11_sort : ByteArray := prog_1_method_9_code
def yX11_sort : MethodName := ⟨RX11, "sort", "()I"⟩
abbrev cX11_length : ByteArray := prog_1_method_10_code
def yX11_length : MethodName := ⟨RX11, "length", "()I"⟩
abbrev cX11_read : ByteArray := prog_1_method_11_code
def yX11_read : MethodName := ⟨RX11, "read", "(I)J"⟩
abbrev cX11_fact : ByteArray := prog_1_method_12_code
def yX11_fact : MethodName := ⟨RX11, "fact", "(III)I"⟩
abbrev cX11_annul : ByteArray := prog_1_method_13_code
def yX11_annul : MethodName := ⟨RX11, "annul", "(I)I"⟩
abbrev cX11_known : ByteArray := prog_1_method_14_code
def yX11_known : MethodName := ⟨RX11, "known", "(III)I"⟩
abbrev cX11_edition : ByteArray := prog_1_method_15_code
def yX11_edition : MethodName := ⟨RX11, "edition", "(II)I"⟩
abbrev cX11_fault : ByteArray := prog_1_method_16_code
def yX11_fault : MethodName := ⟨RX11, "fault", "()I"⟩
abbrev cX11_inForce : ByteArray := prog_1_method_17_code
def yX11_inForce : MethodName := ⟨RX11, "inForce", "(II)I"⟩
abbrev cX11_figure : ByteArray := prog_1_method_18_code
def yX11_figure : MethodName := ⟨RX11, "figure", "(IIII)I"⟩
abbrev cX11_told : ByteArray := prog_1_method_19_code
def yX11_told : MethodName := ⟨RX11, "told", "(I)I"⟩
abbrev cX11_step : ByteArray := prog_1_method_20_code
def yX11_step : MethodName := ⟨RX11, "step", "(I)I"⟩
abbrev cX11_trial : ByteArray := prog_1_method_21_code
def yX11_trial : MethodName := ⟨RX11, "trial", "(III)I"⟩
abbrev cX11_award : ByteArray := prog_1_method_22_code
def yX11_award : MethodName := ⟨RX11, "award", "(III)I"⟩
abbrev cX11_due : ByteArray := prog_1_method_23_code
def yX11_due : MethodName := ⟨RX11, "due", "(III)I"⟩
abbrev cX11_deduct : ByteArray := prog_1_method_24_code
def yX11_deduct : MethodName := ⟨RX11, "deduct", "(III)I"⟩
abbrev cX11_share : ByteArray := prog_1_method_25_code
def yX11_share : MethodName := ⟨RX11, "share", "(I)I"⟩
abbrev cX11_run : ByteArray := prog_1_method_26_code
def yX11_run : MethodName := ⟨RX11, "run", "(I)I"⟩
abbrev cX11_advance : ByteArray := prog_1_method_27_code
def yX11_advance : MethodName := ⟨RX11, "advance", "(I)I"⟩
abbrev cX11_payment : ByteArray := prog_1_method_28_code
def yX11_payment : MethodName := ⟨RX11, "payment", "(II)J"⟩
abbrev cX11_taken : ByteArray := prog_1_method_29_code
def yX11_taken : MethodName := ⟨RX11, "taken", "(II)I"⟩
abbrev cX11_returned : ByteArray := prog_1_method_30_code
def yX11_returned : MethodName := ⟨RX11, "returned", "(I)I"⟩
abbrev cX11_balance : ByteArray := prog_1_method_31_code
def yX11_balance : MethodName := ⟨RX11, "balance", "(II)J"⟩
abbrev cX11_count : ByteArray := prog_1_method_32_code
def yX11_count : MethodName := ⟨RX11, "count", "(I)I"⟩
abbrev cX11_isDay : ByteArray := prog_1_method_33_code
def yX11_isDay : MethodName := ⟨RX11, "isDay", "(I)Z"⟩
abbrev cX11_isPast : ByteArray := prog_1_method_34_code
def yX11_isPast : MethodName := ⟨RX11, "isPast", "(I)Z"⟩
abbrev cX11_isMonth : ByteArray := prog_1_method_35_code
def yX11_isMonth : MethodName := ⟨RX11, "isMonth", "(I)Z"⟩
abbrev cX11_isMember : ByteArray := prog_1_method_36_code
def yX11_isMember : MethodName := ⟨RX11, "isMember", "(I)Z"⟩
abbrev cX11_isScheme : ByteArray := prog_1_method_37_code
def yX11_isScheme : MethodName := ⟨RX11, "isScheme", "(I)Z"⟩
abbrev cX11_isAward : ByteArray := prog_1_method_38_code
def yX11_isAward : MethodName := ⟨RX11, "isAward", "(I)Z"⟩
abbrev cX11_placeForEdition : ByteArray := prog_1_method_39_code
def yX11_placeForEdition : MethodName := ⟨RX11, "placeForEdition", "(II)I"⟩
abbrev cX11_textInForce : ByteArray := prog_1_method_40_code
def yX11_textInForce : MethodName := ⟨RX11, "textInForce", "(II)LPensionHouse$Text;"⟩
abbrev cX11_dues : ByteArray := prog_1_method_41_code
def yX11_dues : MethodName := ⟨RX11, "dues", "(LPensionHouse$Award;III)J"⟩
abbrev cX11_paidTo : ByteArray := prog_1_method_42_code
def yX11_paidTo : MethodName := ⟨RX11, "paidTo", "(I)J"⟩
abbrev cX11_beginRun : ByteArray := prog_1_method_43_code
def yX11_beginRun : MethodName := ⟨RX11, "beginRun", "(I)V"⟩
abbrev cX11_pay : ByteArray := prog_1_method_44_code
def yX11_pay : MethodName := ⟨RX11, "pay", "(IJJ)V"⟩
def RX12 : String := "PensionHouseModel"
def TX12 : u_T := fun k => match k with
  | 0 => ("PensionHouseModel", "sorts", "[I", true)
  | 1 => ("PensionHouseModel", "lengths", "[I", true)
  | 2 => ("PensionHouseModel", "wholes", "[J", true)
  | 3 => ("PensionHouseModel", "reals", "[D", true)
  | 4 => ("PensionHouseModel", "pool", "I", false)
  | 5 => ("PensionHouseModel", "tape", "[I", true)
  | 6 => ("PensionHouseModel", "taped", "I", false)
  | 7 => ("PensionHouseModel", "kinds", "[I", true)
  | 8 => ("PensionHouseModel", "ats", "[I", true)
  | 9 => ("PensionHouseModel", "values", "[J", true)
  | 10 => ("PensionHouseModel", "scales", "[I", true)
  | 11 => ("PensionHouseModel", "tokens", "I", false)
  | 12 => ("PensionHouseModel", "pos", "I", false)
  | 13 => ("PensionHouseModel", "fault", "I", false)
  | 14 => ("PensionHouseModel", "place", "I", false)
  | 15 => ("PensionHouseModel", "op", "[I", true)
  | 16 => ("PensionHouseModel", "one", "[I", true)
  | 17 => ("PensionHouseModel", "two", "[I", true)
  | 18 => ("PensionHouseModel", "three", "[I", true)
  | 19 => ("PensionHouseModel", "constant", "[J", true)
  | 20 => ("PensionHouseModel", "scale", "[I", true)
  | 21 => ("PensionHouseModel", "nodes", "[I", true)
  | 22 => ("PensionHouseModel", "rules", "[I", true)
  | 23 => ("PensionHouseModel", "ruleNames", "[J", true)
  | 24 => ("PensionHouseModel", "roots", "[I", true)
  | 25 => ("PensionHouseModel", "text", "I", false)
  | 26 => ("PensionHouseModel", "parts", "I", false)
  | 27 => ("PensionHouseModel", "around", "[J", true)
  | 28 => ("PensionHouseModel", "aroundAt", "[I", true)
  | 29 => ("PensionHouseModel", "arounds", "I", false)
  | 30 => ("PensionHouseModel", "caseText", "I", false)
  | 31 => ("PensionHouseModel", "caseMember", "I", false)
  | 32 => ("PensionHouseModel", "caseDay", "I", false)
  | 33 => ("PensionHouseModel", "caseAsOf", "I", false)
  | 34 => ("PensionHouseModel", "rule", "I", false)
  | 35 => ("PensionHouseModel", "work", "I", false)
  | 36 => ("PensionHouseModel", "asked", "I", false)
  | 37 => ("PensionHouseModel", "tries", "I", false)
  | 38 => ("PensionHouseModel", "kind", "I", false)
  | 39 => ("PensionHouseModel", "line", "I", false)
  | 40 => ("PensionHouseModel", "ruleState", "[I", true)
  | 41 => ("PensionHouseModel", "ruleSlot", "[I", true)
  | 42 => ("PensionHouseModel", "ruleKind", "[I", true)
  | 43 => ("PensionHouseModel", "ruleLine", "[I", true)
  | 44 => ("PensionHouseModel", "steps", "[I", true)
  | 45 => ("PensionHouseModel", "stepCount", "I", false)
  | 46 => ("PensionHouseModel", "counters", "[J", true)
  | 47 => ("PensionHouseModel", "used", "[Z", true)
  | 48 => ("PensionHouseModel", "children", "[Z", true)
  | 49 => ("PensionHouseModel", "births", "[I", true)
  | 50 => ("PensionHouseModel", "persons", "I", false)
  | 51 => ("PensionHouseModel", "today", "I", false)
  | 52 => ("PensionHouseModel", "factMember", "[I", true)
  | 53 => ("PensionHouseModel", "factName", "[J", true)
  | 54 => ("PensionHouseModel", "factFrom", "[I", true)
  | 55 => ("PensionHouseModel", "factTo", "[I", true)
  | 56 => ("PensionHouseModel", "factTold", "[I", true)
  | 57 => ("PensionHouseModel", "factVoid", "[I", true)
  | 58 => ("PensionHouseModel", "facts", "I", false)
  | 59 => ("PensionHouseModel", "firsts", "[I", true)
  | 60 => ("PensionHouseModel", "editions", "[I", true)
  | 61 => ("PensionHouseModel", "textFault", "I", false)
  | 62 => ("PensionHouseModel", "toldLine", "I", false)
  | 63 => ("PensionHouseModel", "toldWork", "I", false)
  | 64 => ("PensionHouseModel", "toldSteps", "I", false)
  | 65 => ("PensionHouseModel", "toldAsked", "I", false)
  | 66 => ("PensionHouseModel", "toldTries", "I", false)
  | 67 => ("PensionHouseModel", "keptSteps", "[I", true)
  | 68 => ("PensionHouseModel", "slot", "I", false)
  | 69 => ("PensionHouseModel", "awardMember", "[I", true)
  | 70 => ("PensionHouseModel", "awardScheme", "[I", true)
  | 71 => ("PensionHouseModel", "awardMonth", "[I", true)
  | 72 => ("PensionHouseModel", "awards", "I", false)
  | 73 => ("PensionHouseModel", "cents", "[I", true)
  | 74 => ("PensionHouseModel", "ranks", "[I", true)
  | 75 => ("PensionHouseModel", "deductions", "[I", true)
  | 76 => ("PensionHouseModel", "share", "I", false)
  | 77 => ("PensionHouseModel", "runMonth", "I", false)
  | 78 => ("PensionHouseModel", "running", "[I", true)
  | 79 => ("PensionHouseModel", "runs", "I", false)
  | 80 => ("PensionHouseModel", "ran", "I", false)
  | 81 => ("PensionHouseModel", "payAward", "[I", true)
  | 82 => ("PensionHouseModel", "payMonth", "[I", true)
  | 83 => ("PensionHouseModel", "payNumbers", "[J", true)
  | 84 => ("PensionHouseModel", "payBack", "[Z", true)
  | 85 => ("PensionHouseModel", "payUnclear", "[Z", true)
  | 86 => ("PensionHouseModel", "payTaken", "[I", true)
  | 87 => ("PensionHouseModel", "payments", "I", false)
  | _ => ("PensionHouseModel", "unclear", "Z", false)
def tyX12 : Nat → FieldType := fun k => match k with
  | 0 => .array .int
  | 1 => .array .int
  | 2 => .array .long
  | 3 => .array .double
  | 4 => .int
  | 5 => .array .int
  | 6 => .int
  | 7 => .array .int
  | 8 => .array .int
  | 9 => .array .long
  | 10 => .array .int
  | 11 => .int
  | 12 => .int
  | 13 => .int
  | 14 => .int
  | 15 => .array .int
  | 16 => .array .int
  | 17 => .array .int
  | 18 => .array .int
  | 19 => .array .long
  | 20 => .array .int
  | 21 => .array .int
  | 22 => .array .int
  | 23 => .array .long
  | 24 => .array .int
  | 25 => .int
  | 26 => .int
  | 27 => .array .long
  | 28 => .array .int
  | 29 => .int
  | 30 => .int
  | 31 => .int
  | 32 => .int
  | 33 => .int
  | 34 => .int
  | 35 => .int
  | 36 => .int
  | 37 => .int
  | 38 => .int
  | 39 => .int
  | 40 => .array .int
  | 41 => .array .int
  | 42 => .array .int
  | 43 => .array .int
  | 44 => .array .int
  | 45 => .int
  | 46 => .array .long
  | 47 => .array .boolean
  | 48 => .array .boolean
  | 49 => .array .int
  | 50 => .int
  | 51 => .int
  | 52 => .array .int
  | 53 => .array .long
  | 54 => .array .int
  | 55 => .array .int
  | 56 => .array .int
  | 57 => .array .int
  | 58 => .int
  | 59 => .array .int
  | 60 => .array .int
  | 61 => .int
  | 62 => .int
  | 63 => .int
  | 64 => .int
  | 65 => .int
  | 66 => .int
  | 67 => .array .int
  | 68 => .int
  | 69 => .array .int
  | 70 => .array .int
  | 71 => .array .int
  | 72 => .int
  | 73 => .array .int
  | 74 => .array .int
  | 75 => .array .int
  | 76 => .int
  | 77 => .int
  | 78 => .array .int
  | 79 => .int
  | 80 => .int
  | 81 => .array .int
  | 82 => .array .int
  | 83 => .array .long
  | 84 => .array .boolean
  | 85 => .array .boolean
  | 86 => .array .int
  | 87 => .int
  | _ => .boolean
theorem nmX12 : ∀ a, a < 89 → ∀ b, b < 89 → a ≠ b → (TX12 a).2.1 ≠ (TX12 b).2.1 := by decide +kernel
theorem tyX12_ok : ∀ k, k < 89 → parseFieldDescriptor (TX12 k).2.2.1 = some (tyX12 k) := by decide +kernel
abbrev cX12_init : ByteArray := prog_14_method_1_code
def yX12_init : MethodName := ⟨RX12, "<init>", "()V"⟩
abbrev cX12_copy : ByteArray := prog_14_method_2_code
def yX12_copy : MethodName := ⟨RX12, "copy", "(II)V"⟩
abbrev cX12_made : ByteArray := prog_14_method_3_code
def yX12_made : MethodName := ⟨RX12, "made", "(II)I"⟩
abbrev cX12_shape : ByteArray := prog_14_method_4_code
def yX12_shape : MethodName := ⟨RX12, "shape", "(III)V"⟩
abbrev cX12_ofWhole : ByteArray := prog_14_method_5_code
def yX12_ofWhole : MethodName := ⟨RX12, "ofWhole", "(J)I"⟩
abbrev cX12_ofReal : ByteArray := prog_14_method_6_code
def yX12_ofReal : MethodName := ⟨RX12, "ofReal", "(D)I"⟩
abbrev cX12_isKin : ByteArray := prog_14_method_7_code
def yX12_isKin : MethodName := ⟨RX12, "isKin", "(I)Z"⟩
abbrev cX12_isRow : ByteArray := prog_14_method_8_code
def yX12_isRow : MethodName := ⟨RX12, "isRow", "(I)Z"⟩
abbrev cX12_isNumber : ByteArray := prog_14_method_9_code
def yX12_isNumber : MethodName := ⟨RX12, "isNumber", "(I)Z"⟩
abbrev cX12_in : ByteArray := prog_14_method_10_code
def yX12_in : MethodName := ⟨RX12, "in", "(JJJ)Z"⟩
abbrev cX12_asReal : ByteArray := prog_14_method_11_code
def yX12_asReal : MethodName := ⟨RX12, "asReal", "(I)D"⟩
abbrev cX12_bitsOf : ByteArray := prog_14_method_12_code
def yX12_bitsOf : MethodName := ⟨RX12, "bitsOf", "(D)J"⟩
abbrev cX12_ofBits : ByteArray := prog_14_method_13_code
def yX12_ofBits : MethodName := ⟨RX12, "ofBits", "(J)D"⟩
abbrev cX12_isBelowZero : ByteArray := prog_14_method_14_code
def yX12_isBelowZero : MethodName := ⟨RX12, "isBelowZero", "(D)Z"⟩
abbrev cX12_floor : ByteArray := prog_14_method_15_code
def yX12_floor : MethodName := ⟨RX12, "floor", "(D)D"⟩
abbrev cX12_near : ByteArray := prog_14_method_16_code
def yX12_near : MethodName := ⟨RX12, "near", "(D)D"⟩
abbrev cX12_root : ByteArray := prog_14_method_17_code
def yX12_root : MethodName := ⟨RX12, "root", "(D)D"⟩
abbrev cX12_isLetter : ByteArray := prog_14_method_18_code
def yX12_isLetter : MethodName := ⟨RX12, "isLetter", "(I)Z"⟩
abbrev cX12_isFigure : ByteArray := prog_14_method_19_code
def yX12_isFigure : MethodName := ⟨RX12, "isFigure", "(I)Z"⟩
abbrev cX12_word : ByteArray := prog_14_method_20_code
def yX12_word : MethodName := ⟨RX12, "word", "(J)I"⟩
abbrev cX12_byteAt : ByteArray := prog_14_method_21_code
def yX12_byteAt : MethodName := ⟨RX12, "byteAt", "(I)I"⟩
abbrev cX12_tokenize : ByteArray := prog_14_method_22_code
def yX12_tokenize : MethodName := ⟨RX12, "tokenize", "()V"⟩
abbrev cX12_token : ByteArray := prog_14_method_23_code
def yX12_token : MethodName := ⟨RX12, "token", "(I)I"⟩
abbrev cX12_number : ByteArray := prog_14_method_24_code
def yX12_number : MethodName := ⟨RX12, "number", "(I)I"⟩
abbrev cX12_fail : ByteArray := prog_14_method_25_code
def yX12_fail : MethodName := ⟨RX12, "fail", "(II)V"⟩
abbrev cX12_now : ByteArray := prog_14_method_26_code
def yX12_now : MethodName := ⟨RX12, "now", "()I"⟩
abbrev cX12_is : ByteArray := prog_14_method_27_code
def yX12_is : MethodName := ⟨RX12, "is", "(I)Z"⟩
abbrev cX12_wrong : ByteArray := prog_14_method_28_code
def yX12_wrong : MethodName := ⟨RX12, "wrong", "()V"⟩
abbrev cX12_want : ByteArray := prog_14_method_29_code
def yX12_want : MethodName := ⟨RX12, "want", "(I)V"⟩
abbrev cX12_takeName : ByteArray := prog_14_method_30_code
def yX12_takeName : MethodName := ⟨RX12, "takeName", "()J"⟩
abbrev cX12_node : ByteArray := prog_14_method_31_code
def yX12_node : MethodName := ⟨RX12, "node", "(I)I"⟩
abbrev cX12_part : ByteArray := prog_14_method_32_code
def yX12_part : MethodName := ⟨RX12, "part", "()Z"⟩
abbrev cX12_findRule : ByteArray := prog_14_method_33_code
def yX12_findRule : MethodName := ⟨RX12, "findRule", "(IJ)I"⟩
abbrev cX12_readText : ByteArray := prog_14_method_34_code
def yX12_readText : MethodName := ⟨RX12, "readText", "(I)V"⟩
abbrev cX12_isFunction : ByteArray := prog_14_method_35_code
def yX12_isFunction : MethodName := ⟨RX12, "isFunction", "(I)Z"⟩
abbrev cX12_arguments : ByteArray := prog_14_method_36_code
def yX12_arguments : MethodName := ⟨RX12, "arguments", "(I)I"⟩
abbrev cX12_beginsUnary : ByteArray := prog_14_method_37_code
def yX12_beginsUnary : MethodName := ⟨RX12, "beginsUnary", "()Z"⟩
abbrev cX12_expression : ByteArray := prog_14_method_38_code
def yX12_expression : MethodName := ⟨RX12, "expression", "(I)I"⟩
abbrev cX12_ifElse : ByteArray := prog_14_method_39_code
def yX12_ifElse : MethodName := ⟨RX12, "ifElse", "(I)I"⟩
abbrev cX12_operator : ByteArray := prog_14_method_40_code
def yX12_operator : MethodName := ⟨RX12, "operator", "(I)I"⟩
abbrev cX12_compared : ByteArray := prog_14_method_41_code
def yX12_compared : MethodName := ⟨RX12, "compared", "(I)I"⟩
abbrev cX12_added : ByteArray := prog_14_method_42_code
def yX12_added : MethodName := ⟨RX12, "added", "(I)I"⟩
abbrev cX12_multiplied : ByteArray := prog_14_method_43_code
def yX12_multiplied : MethodName := ⟨RX12, "multiplied", "(I)I"⟩
abbrev cX12_unary : ByteArray := prog_14_method_44_code
def yX12_unary : MethodName := ⟨RX12, "unary", "(I)I"⟩
abbrev cX12_primary : ByteArray := prog_14_method_45_code
def yX12_primary : MethodName := ⟨RX12, "primary", "(I)I"⟩
abbrev cX12_sum : ByteArray := prog_14_method_46_code
def yX12_sum : MethodName := ⟨RX12, "sum", "(I)I"⟩
abbrev cX12_named : ByteArray := prog_14_method_47_code
def yX12_named : MethodName := ⟨RX12, "named", "()I"⟩
abbrev cX12_failing : ByteArray := prog_14_method_48_code
def yX12_failing : MethodName := ⟨RX12, "failing", "(I)I"⟩
abbrev cX12_counted : ByteArray := prog_14_method_49_code
def yX12_counted : MethodName := ⟨RX12, "counted", "(I)Z"⟩
abbrev cX12_workRule : ByteArray := prog_14_method_50_code
def yX12_workRule : MethodName := ⟨RX12, "workRule", "(I)I"⟩
abbrev cX12_beginCase : ByteArray := prog_14_method_51_code
def yX12_beginCase : MethodName := ⟨RX12, "beginCase", "(IIIII)I"⟩
abbrev cX12_workNode : ByteArray := prog_14_method_52_code
def yX12_workNode : MethodName := ⟨RX12, "workNode", "(I)I"⟩
abbrev cX12_decimal : ByteArray := prog_14_method_53_code
def yX12_decimal : MethodName := ⟨RX12, "decimal", "(JI)D"⟩
abbrev cX12_workFact : ByteArray := prog_14_method_54_code
def yX12_workFact : MethodName := ⟨RX12, "workFact", "(J)I"⟩
abbrev cX12_negative : ByteArray := prog_14_method_55_code
def yX12_negative : MethodName := ⟨RX12, "negative", "(I)I"⟩
abbrev cX12_workIf : ByteArray := prog_14_method_56_code
def yX12_workIf : MethodName := ⟨RX12, "workIf", "(I)I"⟩
abbrev cX12_workTry : ByteArray := prog_14_method_57_code
def yX12_workTry : MethodName := ⟨RX12, "workTry", "(I)I"⟩
abbrev cX12_workSum : ByteArray := prog_14_method_58_code
def yX12_workSum : MethodName := ⟨RX12, "workSum", "(I)I"⟩
abbrev cX12_workMore : ByteArray := prog_14_method_59_code
def yX12_workMore : MethodName := ⟨RX12, "workMore", "(II)I"⟩
abbrev cX12_isEndless : ByteArray := prog_14_method_60_code
def yX12_isEndless : MethodName := ⟨RX12, "isEndless", "(D)Z"⟩
abbrev cX12_plus : ByteArray := prog_14_method_61_code
def yX12_plus : MethodName := ⟨RX12, "plus", "(DD)D"⟩
abbrev cX12_minus : ByteArray := prog_14_method_62_code
def yX12_minus : MethodName := ⟨RX12, "minus", "(DD)D"⟩
abbrev cX12_times : ByteArray := prog_14_method_63_code
def yX12_times : MethodName := ⟨RX12, "times", "(DD)D"⟩
abbrev cX12_by : ByteArray := prog_14_method_64_code
def yX12_by : MethodName := ⟨RX12, "by", "(DD)D"⟩
abbrev cX12_rest : ByteArray := prog_14_method_65_code
def yX12_rest : MethodName := ⟨RX12, "rest", "(DD)D"⟩
abbrev cX12_arithmetic : ByteArray := prog_14_method_66_code
def yX12_arithmetic : MethodName := ⟨RX12, "arithmetic", "(III)I"⟩
abbrev cX12_whole : ByteArray := prog_14_method_67_code
def yX12_whole : MethodName := ⟨RX12, "whole", "(IJJ)I"⟩
abbrev cX12_compare : ByteArray := prog_14_method_68_code
def yX12_compare : MethodName := ⟨RX12, "compare", "(III)I"⟩
abbrev cX12_item : ByteArray := prog_14_method_69_code
def yX12_item : MethodName := ⟨RX12, "item", "(II)I"⟩
abbrev cX12_isAbove : ByteArray := prog_14_method_70_code
def yX12_isAbove : MethodName := ⟨RX12, "isAbove", "(DD)Z"⟩
abbrev cX12_extreme : ByteArray := prog_14_method_71_code
def yX12_extreme : MethodName := ⟨RX12, "extreme", "(III)I"⟩
abbrev cX12_last : ByteArray := prog_14_method_72_code
def yX12_last : MethodName := ⟨RX12, "last", "(II)I"⟩
abbrev cX12_put : ByteArray := prog_14_method_73_code
def yX12_put : MethodName := ⟨RX12, "put", "(IIIII)V"⟩
abbrev cX12_belongs : ByteArray := prog_14_method_74_code
def yX12_belongs : MethodName := ⟨RX12, "belongs", "(JI)Z"⟩
abbrev cX12_join : ByteArray := prog_14_method_75_code
def yX12_join : MethodName := ⟨RX12, "join", "(II)I"⟩
abbrev cX12_with : ByteArray := prog_14_method_76_code
def yX12_with : MethodName := ⟨RX12, "with", "(III)I"⟩
abbrev cX12_best : ByteArray := prog_14_method_77_code
def yX12_best : MethodName := ⟨RX12, "best", "(II)I"⟩
abbrev cX12_function : ByteArray := prog_14_method_78_code
def yX12_function : MethodName := ⟨RX12, "function", "(II)I"⟩
abbrev cX12_findKnown : ByteArray := prog_14_method_79_code
def yX12_findKnown : MethodName := ⟨RX12, "findKnown", "(IJII)I"⟩
abbrev cX12_feed : ByteArray := prog_14_method_80_code
def yX12_feed : MethodName := ⟨RX12, "feed", "(JI)I"⟩
abbrev cX12_cut : ByteArray := prog_14_method_81_code
def yX12_cut : MethodName := ⟨RX12, "cut", "(I)I"⟩
abbrev cX12_clock : ByteArray := prog_14_method_82_code
def yX12_clock : MethodName := ⟨RX12, "clock", "(I)I"⟩
abbrev cX12_person : ByteArray := prog_14_method_83_code
def yX12_person : MethodName := ⟨RX12, "person", "(ZI)I"⟩
abbrev cX12_desk : ByteArray := prog_14_method_84_code
def yX12_desk : MethodName := ⟨RX12, "desk", "(II)I"⟩
abbrev cX12_write : ByteArray := prog_14_method_85_code
def yX12_write : MethodName := ⟨RX12, "write", "(IJ)I"⟩
abbrev cX12_seat : ByteArray := prog_14_method_86_code
def yX12_seat : MethodName := ⟨RX12, "seat", "(II)I"⟩
abbrev cX12_sort : ByteArray := prog_14_method_87_code
def yX12_sort : MethodName := ⟨RX12, "sort", "()I"⟩
abbrev cX12_length : ByteArray := prog_14_method_88_code
def yX12_length : MethodName := ⟨RX12, "length", "()I"⟩
abbrev cX12_read : ByteArray := prog_14_method_89_code
def yX12_read : MethodName := ⟨RX12, "read", "(I)J"⟩
abbrev cX12_isDay : ByteArray := prog_14_method_90_code
def yX12_isDay : MethodName := ⟨RX12, "isDay", "(I)Z"⟩
abbrev cX12_fact : ByteArray := prog_14_method_91_code
def yX12_fact : MethodName := ⟨RX12, "fact", "(III)I"⟩
abbrev cX12_annul : ByteArray := prog_14_method_92_code
def yX12_annul : MethodName := ⟨RX12, "annul", "(I)I"⟩
abbrev cX12_known : ByteArray := prog_14_method_93_code
def yX12_known : MethodName := ⟨RX12, "known", "(III)I"⟩
abbrev cX12_toldText : ByteArray := prog_14_method_94_code
def yX12_toldText : MethodName := ⟨RX12, "toldText", "()I"⟩
abbrev cX12_slotOf : ByteArray := prog_14_method_95_code
def yX12_slotOf : MethodName := ⟨RX12, "slotOf", "(II)I"⟩
abbrev cX12_edition : ByteArray := prog_14_method_96_code
def yX12_edition : MethodName := ⟨RX12, "edition", "(II)I"⟩
abbrev cX12_fault : ByteArray := prog_14_method_97_code
def yX12_fault : MethodName := ⟨RX12, "fault", "()I"⟩
abbrev cX12_inForceAt : ByteArray := prog_14_method_98_code
def yX12_inForceAt : MethodName := ⟨RX12, "inForceAt", "(II)I"⟩
abbrev cX12_inForce : ByteArray := prog_14_method_99_code
def yX12_inForce : MethodName := ⟨RX12, "inForce", "(II)I"⟩
abbrev cX12_figure : ByteArray := prog_14_method_100_code
def yX12_figure : MethodName := ⟨RX12, "figure", "(IIII)I"⟩
abbrev cX12_told : ByteArray := prog_14_method_101_code
def yX12_told : MethodName := ⟨RX12, "told", "(I)I"⟩
abbrev cX12_step : ByteArray := prog_14_method_102_code
def yX12_step : MethodName := ⟨RX12, "step", "(I)I"⟩
abbrev cX12_workDue : ByteArray := prog_14_method_103_code
def yX12_workDue : MethodName := ⟨RX12, "workDue", "(IIII)I"⟩
abbrev cX12_areAlike : ByteArray := prog_14_method_104_code
def yX12_areAlike : MethodName := ⟨RX12, "areAlike", "(II)Z"⟩
abbrev cX12_trial : ByteArray := prog_14_method_105_code
def yX12_trial : MethodName := ⟨RX12, "trial", "(III)I"⟩
abbrev cX12_dueOf : ByteArray := prog_14_method_106_code
def yX12_dueOf : MethodName := ⟨RX12, "dueOf", "(III)J"⟩
abbrev cX12_award : ByteArray := prog_14_method_107_code
def yX12_award : MethodName := ⟨RX12, "award", "(III)I"⟩
abbrev cX12_due : ByteArray := prog_14_method_108_code
def yX12_due : MethodName := ⟨RX12, "due", "(III)I"⟩
abbrev cX12_deduct : ByteArray := prog_14_method_109_code
def yX12_deduct : MethodName := ⟨RX12, "deduct", "(III)I"⟩
abbrev cX12_share : ByteArray := prog_14_method_110_code
def yX12_share : MethodName := ⟨RX12, "share", "(I)I"⟩
abbrev cX12_run : ByteArray := prog_14_method_111_code
def yX12_run : MethodName := ⟨RX12, "run", "(I)I"⟩
abbrev cX12_paid : ByteArray := prog_14_method_112_code
def yX12_paid : MethodName := ⟨RX12, "paid", "(I)J"⟩
abbrev cX12_pay : ByteArray := prog_14_method_113_code
def yX12_pay : MethodName := ⟨RX12, "pay", "(I)V"⟩
abbrev cX12_advance : ByteArray := prog_14_method_114_code
def yX12_advance : MethodName := ⟨RX12, "advance", "(I)I"⟩
abbrev cX12_payment : ByteArray := prog_14_method_115_code
def yX12_payment : MethodName := ⟨RX12, "payment", "(II)J"⟩
abbrev cX12_taken : ByteArray := prog_14_method_116_code
def yX12_taken : MethodName := ⟨RX12, "taken", "(II)I"⟩
abbrev cX12_returned : ByteArray := prog_14_method_117_code
def yX12_returned : MethodName := ⟨RX12, "returned", "(I)I"⟩
abbrev cX12_balance : ByteArray := prog_14_method_118_code
def yX12_balance : MethodName := ⟨RX12, "balance", "(II)J"⟩
abbrev cX12_count : ByteArray := prog_14_method_119_code
def yX12_count : MethodName := ⟨RX12, "count", "(I)I"⟩
def RJx145de : String := "java/io/Serializable"
def RJx9f9b0 : String := "java/lang/CharSequence"
def RJ11 : String := "java/lang/Character"
abbrev cJ11_isValidCodePoint_9a6ad : ByteArray := prog_15_method_11_code
def yJ11_isValidCodePoint_9a6ad : MethodName := ⟨RJ11, "isValidCodePoint", "(I)Z"⟩
abbrev cJ11_highSurrogate_5068e : ByteArray := prog_15_method_28_code
def yJ11_highSurrogate_5068e : MethodName := ⟨RJ11, "highSurrogate", "(I)C"⟩
abbrev cJ11_lowSurrogate_5068e : ByteArray := prog_15_method_29_code
def yJ11_lowSurrogate_5068e : MethodName := ⟨RJ11, "lowSurrogate", "(I)C"⟩
def RJxb160c : String := "java/lang/Comparable"
def RJ9 : String := "java/lang/Math"
abbrev cJ9_max_7cf53 : ByteArray := prog_16_method_65_code
def yJ9_max_7cf53 : MethodName := ⟨RJ9, "max", "(II)I"⟩
abbrev cJ9_max_f86c9 : ByteArray := prog_16_method_66_code
def yJ9_max_f86c9 : MethodName := ⟨RJ9, "max", "(JJ)J"⟩
abbrev cJ9_min_7cf53 : ByteArray := prog_16_method_69_code
def yJ9_min_7cf53 : MethodName := ⟨RJ9, "min", "(II)I"⟩
abbrev cJ9_min_f86c9 : ByteArray := prog_16_method_70_code
def yJ9_min_f86c9 : MethodName := ⟨RJ9, "min", "(JJ)J"⟩
def RJ0 : String := "java/lang/String"
abbrev cJ0_length_8abf5 : ByteArray := prog_17_method_54_code
def yJ0_length_8abf5 : MethodName := ⟨RJ0, "length", "()I"⟩
abbrev cJ0_charAt_5068e : ByteArray := prog_17_method_56_code
def yJ0_charAt_5068e : MethodName := ⟨RJ0, "charAt", "(I)C"⟩
abbrev cJ0_indexOf_0f7a4 : ByteArray := prog_17_method_79_code
def yJ0_indexOf_0f7a4 : MethodName := ⟨RJ0, "indexOf", "(I)I"⟩
abbrev cJ0_indexOf_7cf53 : ByteArray := prog_17_method_80_code
def yJ0_indexOf_7cf53 : MethodName := ⟨RJ0, "indexOf", "(II)I"⟩
abbrev cJ0_coder_7d493 : ByteArray := prog_17_method_152_code
def yJ0_coder_7d493 : MethodName := ⟨RJ0, "coder", "()B"⟩
abbrev cJ0_isLatin1_aae02 : ByteArray := prog_17_method_154_code
def yJ0_isLatin1_aae02 : MethodName := ⟨RJ0, "isLatin1", "()Z"⟩
abbrev cJ0_checkIndex_df160 : ByteArray := prog_17_method_155_code
def yJ0_checkIndex_df160 : MethodName := ⟨RJ0, "checkIndex", "(II)V"⟩
abbrev cJ0_checkBoundsBeginEnd_23922 : ByteArray := prog_17_method_158_code
def yJ0_checkBoundsBeginEnd_23922 : MethodName := ⟨RJ0, "checkBoundsBeginEnd", "(III)V"⟩
def RJ1 : String := "java/lang/StringLatin1"
abbrev cJ1_charAt_3b067 : ByteArray := prog_18_method_2_code
def yJ1_charAt_3b067 : MethodName := ⟨RJ1, "charAt", "([BI)C"⟩
abbrev cJ1_canEncode_9a6ad : ByteArray := prog_18_method_4_code
def yJ1_canEncode_9a6ad : MethodName := ⟨RJ1, "canEncode", "(I)Z"⟩
abbrev cJ1_indexOf_4cfef : ByteArray := prog_18_method_22_code
def yJ1_indexOf_4cfef : MethodName := ⟨RJ1, "indexOf", "([BIII)I"⟩
abbrev cJ1_indexOfChar_4cfef : ByteArray := prog_18_method_23_code
def yJ1_indexOfChar_4cfef : MethodName := ⟨RJ1, "indexOfChar", "([BIII)I"⟩
def RJ2 : String := "java/lang/StringUTF16"
abbrev cJ2_getChar_3b067 : ByteArray := prog_19_method_5_code
def yJ2_getChar_3b067 : MethodName := ⟨RJ2, "getChar", "([BI)C"⟩
abbrev cJ2_length_9d52b : ByteArray := prog_19_method_6_code
def yJ2_length_9d52b : MethodName := ⟨RJ2, "length", "([B)I"⟩
abbrev cJ2_indexOf_4cfef : ByteArray := prog_19_method_40_code
def yJ2_indexOf_4cfef : MethodName := ⟨RJ2, "indexOf", "([BIII)I"⟩
abbrev cJ2_indexOfChar_4cfef : ByteArray := prog_19_method_47_code
def yJ2_indexOfChar_4cfef : MethodName := ⟨RJ2, "indexOfChar", "([BIII)I"⟩
abbrev cJ2_indexOfCharUnsafe_4cfef : ByteArray := prog_19_method_48_code
def yJ2_indexOfCharUnsafe_4cfef : MethodName := ⟨RJ2, "indexOfCharUnsafe", "([BIII)I"⟩
abbrev cJ2_indexOfSupplementary_4cfef : ByteArray := prog_19_method_49_code
def yJ2_indexOfSupplementary_4cfef : MethodName := ⟨RJ2, "indexOfSupplementary", "([BIII)I"⟩
abbrev cJ2_charAt_3b067 : ByteArray := prog_19_method_83_code
def yJ2_charAt_3b067 : MethodName := ⟨RJ2, "charAt", "([BI)C"⟩
abbrev cJ2_checkIndex_2214a : ByteArray := prog_19_method_91_code
def yJ2_checkIndex_2214a : MethodName := ⟨RJ2, "checkIndex", "(I[B)V"⟩
abbrev cJ2_checkBoundsBeginEnd_d044e : ByteArray := prog_19_method_93_code
def yJ2_checkBoundsBeginEnd_d044e : MethodName := ⟨RJ2, "checkBoundsBeginEnd", "(II[B)V"⟩
def RJ10 : String := "java/lang/System"
def RJxfd54e : String := "java/lang/constant/Constable"
def RJx3cf43 : String := "java/lang/constant/ConstantDesc"
def RJ7 : String := "java/util/Arrays"
abbrev cJ7_fill_d0a16 : ByteArray := prog_21_method_101_code
def yJ7_fill_d0a16 : MethodName := ⟨RJ7, "fill", "([JJ)V"⟩
abbrev cJ7_fill_53178 : ByteArray := prog_21_method_103_code
def yJ7_fill_53178 : MethodName := ⟨RJ7, "fill", "([II)V"⟩
def RJ3 : String := "jdk/internal/util/Preconditions"
abbrev cJ3_checkIndex_8e157 : ByteArray := prog_22_method_11_code
def yJ3_checkIndex_8e157 : MethodName := ⟨RJ3, "checkIndex", "(IILjava/util/function/BiFunction;)I"⟩
abbrev cJ3_checkFromToIndex_8c36e : ByteArray := prog_22_method_12_code
def yJ3_checkFromToIndex_8c36e : MethodName := ⟨RJ3, "checkFromToIndex", "(IIILjava/util/function/BiFunction;)I"⟩
def RL : String := "PensionHouseLaw"
abbrev cL_law : ByteArray := code
def yL_law : MethodName := ⟨RL, "law", "([I)Z"⟩
abbrev vwCl : List vw_C := [(RX0, TX0, 6), (RX1, TX1, 11), (RX2, TX2, 7), (RX4, TX4, 7), (RX6, TX6, 5), (RX7, TX7, 8), (RX8, TX8, 8), (RX9, TX9, 3), (RX10, TX10, 14), (RX11, TX11, 19), (RX12, TX12, 89)]
def jw : List Cond := lw_tbl.filter goodWord
theorem jmem {w : Cond} (h : w ∈ lw_tbl) (hg : goodWord w = true) : w ∈ jw := List.mem_filter.mpr ⟨h, hg⟩
theorem jw_in {w : Cond} (h : w ∈ jw) : w ∈ lw_tbl := (List.mem_filter.mp h).1
theorem jw_good {w : Cond} (h : w ∈ jw) : goodWord w = true := (List.mem_filter.mp h).2
theorem jt1 {w : Cond} (h : w ∈ tables_1_1) (hg : goodWord w = true) : w ∈ jw := jmem (List.mem_append_right _ (List.mem_append_left _ h)) hg
theorem jt2 {w : Cond} (h : w ∈ tables_1_2) (hg : goodWord w = true) : w ∈ jw := jmem (List.mem_append_right _ (List.mem_append_right _ (List.mem_append_left _ h))) hg
theorem jt3 {w : Cond} (h : w ∈ tables_1_3) (hg : goodWord w = true) : w ∈ jw := jmem (List.mem_append_right _ (List.mem_append_right _ (List.mem_append_right _ (List.mem_append_left _ h)))) hg
theorem jt4 {w : Cond} (h : w ∈ tables_1_4) (hg : goodWord w = true) : w ∈ jw := jmem (List.mem_append_right _ (List.mem_append_right _ (List.mem_append_right _ (List.mem_append_right _ (List.mem_append_left _ h))))) hg
theorem jt5 {w : Cond} (h : w ∈ tables_1_5) (hg : goodWord w = true) : w ∈ jw := jmem (List.mem_append_right _ (List.mem_append_right _ (List.mem_append_right _ (List.mem_append_right _ (List.mem_append_right _ (List.mem_append_left _ h)))))) hg
theorem jt6 {w : Cond} (h : w ∈ tables_1_6) (hg : goodWord w = true) : w ∈ jw := jmem (List.mem_append_right _ (List.mem_append_right _ (List.mem_append_right _ (List.mem_append_right _ (List.mem_append_right _ (List.mem_append_right _ (List.mem_append_left _ h))))))) hg
theorem jt7 {w : Cond} (h : w ∈ tables_1_7) (hg : goodWord w = true) : w ∈ jw := jmem (List.mem_append_right _ (List.mem_append_right _ (List.mem_append_right _ (List.mem_append_right _ (List.mem_append_right _ (List.mem_append_right _ (List.mem_append_right _ (List.mem_append_left _ h)))))))) hg
theorem jt8 {w : Cond} (h : w ∈ tables_1_8) (hg : goodWord w = true) : w ∈ jw := jmem (List.mem_append_right _ (List.mem_append_right _ (List.mem_append_right _ (List.mem_append_right _ (List.mem_append_right _ (List.mem_append_right _ (List.mem_append_right _ (List.mem_append_right _ (List.mem_append_left _ h))))))))) hg
theorem jt9 {w : Cond} (h : w ∈ tables_1_9) (hg : goodWord w = true) : w ∈ jw := jmem (List.mem_append_right _ (List.mem_append_right _ (List.mem_append_right _ (List.mem_append_right _ (List.mem_append_right _ (List.mem_append_right _ (List.mem_append_right _ (List.mem_append_right _ (List.mem_append_right _ (h)))))))))) hg
theorem jsel {q : MethodName × Nat} (h : q ∈ lw_privs) : Cond.selects q.1.cls q.1 q.1 ∈ jw := jmem (List.mem_append_left _ (List.mem_map.mpr ⟨q, h, rfl⟩)) rfl
