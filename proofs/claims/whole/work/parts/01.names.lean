/-- a private method of a class that the tables say can be made, by its rows of tables_1 -/
def lw_okq (q : MethodName × Nat) : Prop := (q.1.cls ≠ "java/lang/invoke/MethodHandle" ∧ q.1.cls ≠ "java/lang/invoke/VarHandle") ∧ Cond.instantiable q.1.cls q.2 ∈ tables_1 ∧ Cond.privateMethod q.1 ∈ tables_1 ∧ Cond.instanceMethod q.1 ∈ tables_1
theorem lw_p0 : lw_okq (⟨"AskingCourt$Hearing", "rebuild", "()V"⟩, 7) := ⟨⟨by decide +kernel, by decide +kernel⟩, List.mem_of_getElem? (i := 381) (by decide +kernel), List.mem_of_getElem? (i := 425) (by decide +kernel), List.mem_of_getElem? (i := 426) (by decide +kernel)⟩
theorem lw_p1 : lw_okq (⟨"AskingCourt$Hearing", "narrow", "(I)V"⟩, 7) := ⟨⟨by decide +kernel, by decide +kernel⟩, List.mem_of_getElem? (i := 381) (by decide +kernel), List.mem_of_getElem? (i := 434) (by decide +kernel), List.mem_of_getElem? (i := 435) (by decide +kernel)⟩
theorem lw_p2 : lw_okq (⟨"AskingCourt", "deny", "(I)Z"⟩, 20) := ⟨⟨by decide +kernel, by decide +kernel⟩, List.mem_of_getElem? (i := 23) (by decide +kernel), List.mem_of_getElem? (i := 646) (by decide +kernel), List.mem_of_getElem? (i := 647) (by decide +kernel)⟩
theorem lw_p3 : lw_okq (⟨"AskingCourt", "grant", "()Z"⟩, 20) := ⟨⟨by decide +kernel, by decide +kernel⟩, List.mem_of_getElem? (i := 23) (by decide +kernel), List.mem_of_getElem? (i := 656) (by decide +kernel), List.mem_of_getElem? (i := 657) (by decide +kernel)⟩
theorem lw_p4 : lw_okq (⟨"AskingCourt", "whyNoPlace", "(II)I"⟩, 20) := ⟨⟨by decide +kernel, by decide +kernel⟩, List.mem_of_getElem? (i := 23) (by decide +kernel), List.mem_of_getElem? (i := 664) (by decide +kernel), List.mem_of_getElem? (i := 665) (by decide +kernel)⟩
theorem lw_p5 : lw_okq (⟨"AskingCourt", "refuse", "(I)I"⟩, 20) := ⟨⟨by decide +kernel, by decide +kernel⟩, List.mem_of_getElem? (i := 23) (by decide +kernel), List.mem_of_getElem? (i := 675) (by decide +kernel), List.mem_of_getElem? (i := 676) (by decide +kernel)⟩
theorem lw_p6 : lw_okq (⟨"AskingCourt", "freeCase", "()LAskingCourt$Case;"⟩, 20) := ⟨⟨by decide +kernel, by decide +kernel⟩, List.mem_of_getElem? (i := 23) (by decide +kernel), List.mem_of_getElem? (i := 698) (by decide +kernel), List.mem_of_getElem? (i := 699) (by decide +kernel)⟩
theorem lw_p7 : lw_okq (⟨"AskingCourt", "isMarked", "(LAskingCourt$Case;)Z"⟩, 20) := ⟨⟨by decide +kernel, by decide +kernel⟩, List.mem_of_getElem? (i := 23) (by decide +kernel), List.mem_of_getElem? (i := 702) (by decide +kernel), List.mem_of_getElem? (i := 703) (by decide +kernel)⟩
theorem lw_p8 : lw_okq (⟨"AskingCourt$Lexer", "scan", "(I)I"⟩, 14) := ⟨⟨by decide +kernel, by decide +kernel⟩, List.mem_of_getElem? (i := 31) (by decide +kernel), List.mem_of_getElem? (i := 710) (by decide +kernel), List.mem_of_getElem? (i := 711) (by decide +kernel)⟩
theorem lw_p9 : lw_okq (⟨"AskingCourt$Lexer", "scanWord", "(I)I"⟩, 14) := ⟨⟨by decide +kernel, by decide +kernel⟩, List.mem_of_getElem? (i := 31) (by decide +kernel), List.mem_of_getElem? (i := 720) (by decide +kernel), List.mem_of_getElem? (i := 721) (by decide +kernel)⟩
theorem lw_p10 : lw_okq (⟨"AskingCourt$Lexer", "scanNumber", "(I)I"⟩, 14) := ⟨⟨by decide +kernel, by decide +kernel⟩, List.mem_of_getElem? (i := 31) (by decide +kernel), List.mem_of_getElem? (i := 727) (by decide +kernel), List.mem_of_getElem? (i := 728) (by decide +kernel)⟩
theorem lw_p11 : lw_okq (⟨"AskingCourt$CaseReader", "readFact", "()Z"⟩, 8) := ⟨⟨by decide +kernel, by decide +kernel⟩, List.mem_of_getElem? (i := 328) (by decide +kernel), List.mem_of_getElem? (i := 744) (by decide +kernel), List.mem_of_getElem? (i := 745) (by decide +kernel)⟩
theorem lw_p12 : lw_okq (⟨"AskingCourt$CaseReader", "takeNewName", "(II)Z"⟩, 8) := ⟨⟨by decide +kernel, by decide +kernel⟩, List.mem_of_getElem? (i := 328) (by decide +kernel), List.mem_of_getElem? (i := 753) (by decide +kernel), List.mem_of_getElem? (i := 754) (by decide +kernel)⟩
theorem lw_p13 : lw_okq (⟨"AskingCourt$CaseReader", "isNewName", "()Z"⟩, 8) := ⟨⟨by decide +kernel, by decide +kernel⟩, List.mem_of_getElem? (i := 328) (by decide +kernel), List.mem_of_getElem? (i := 757) (by decide +kernel), List.mem_of_getElem? (i := 758) (by decide +kernel)⟩
theorem lw_p14 : lw_okq (⟨"AskingCourt$CaseReader", "readValue", "(I)Z"⟩, 8) := ⟨⟨by decide +kernel, by decide +kernel⟩, List.mem_of_getElem? (i := 328) (by decide +kernel), List.mem_of_getElem? (i := 774) (by decide +kernel), List.mem_of_getElem? (i := 775) (by decide +kernel)⟩
theorem lw_p15 : lw_okq (⟨"AskingCourt$CaseReader", "closeFact", "()Z"⟩, 8) := ⟨⟨by decide +kernel, by decide +kernel⟩, List.mem_of_getElem? (i := 328) (by decide +kernel), List.mem_of_getElem? (i := 782) (by decide +kernel), List.mem_of_getElem? (i := 783) (by decide +kernel)⟩
def lw_privs_1 : List (MethodName × Nat) := [(⟨"AskingCourt$Hearing", "rebuild", "()V"⟩, 7), (⟨"AskingCourt$Hearing", "narrow", "(I)V"⟩, 7), (⟨"AskingCourt", "deny", "(I)Z"⟩, 20), (⟨"AskingCourt", "grant", "()Z"⟩, 20), (⟨"AskingCourt", "whyNoPlace", "(II)I"⟩, 20), (⟨"AskingCourt", "refuse", "(I)I"⟩, 20), (⟨"AskingCourt", "freeCase", "()LAskingCourt$Case;"⟩, 20), (⟨"AskingCourt", "isMarked", "(LAskingCourt$Case;)Z"⟩, 20), (⟨"AskingCourt$Lexer", "scan", "(I)I"⟩, 14), (⟨"AskingCourt$Lexer", "scanWord", "(I)I"⟩, 14), (⟨"AskingCourt$Lexer", "scanNumber", "(I)I"⟩, 14), (⟨"AskingCourt$CaseReader", "readFact", "()Z"⟩, 8), (⟨"AskingCourt$CaseReader", "takeNewName", "(II)Z"⟩, 8), (⟨"AskingCourt$CaseReader", "isNewName", "()Z"⟩, 8), (⟨"AskingCourt$CaseReader", "readValue", "(I)Z"⟩, 8), (⟨"AskingCourt$CaseReader", "closeFact", "()Z"⟩, 8)]
theorem lw_r1 : ∀ q ∈ lw_privs_1, lw_okq q := List.forall_mem_cons.mpr ⟨lw_p0, List.forall_mem_cons.mpr ⟨lw_p1, List.forall_mem_cons.mpr ⟨lw_p2, List.forall_mem_cons.mpr ⟨lw_p3, List.forall_mem_cons.mpr ⟨lw_p4, List.forall_mem_cons.mpr ⟨lw_p5, List.forall_mem_cons.mpr ⟨lw_p6, List.forall_mem_cons.mpr ⟨lw_p7, List.forall_mem_cons.mpr ⟨lw_p8, List.forall_mem_cons.mpr ⟨lw_p9, List.forall_mem_cons.mpr ⟨lw_p10, List.forall_mem_cons.mpr ⟨lw_p11, List.forall_mem_cons.mpr ⟨lw_p12, List.forall_mem_cons.mpr ⟨lw_p13, List.forall_mem_cons.mpr ⟨lw_p14, List.forall_mem_cons.mpr ⟨lw_p15, fun _ h => absurd h List.not_mem_nil⟩⟩⟩⟩⟩⟩⟩⟩⟩⟩⟩⟩⟩⟩⟩⟩
theorem lw_p16 : lw_okq (⟨"AskingCourt$CaseReader", "readNever", "()Z"⟩, 8) := ⟨⟨by decide +kernel, by decide +kernel⟩, List.mem_of_getElem? (i := 328) (by decide +kernel), List.mem_of_getElem? (i := 786) (by decide +kernel), List.mem_of_getElem? (i := 787) (by decide +kernel)⟩
theorem lw_p17 : lw_okq (⟨"AskingCourt$CaseReader", "readQuestion", "()Z"⟩, 8) := ⟨⟨by decide +kernel, by decide +kernel⟩, List.mem_of_getElem? (i := 328) (by decide +kernel), List.mem_of_getElem? (i := 803) (by decide +kernel), List.mem_of_getElem? (i := 804) (by decide +kernel)⟩
theorem lw_p18 : lw_okq (⟨"AskingCourt$CaseReader", "makeWorldsOnce", "()V"⟩, 8) := ⟨⟨by decide +kernel, by decide +kernel⟩, List.mem_of_getElem? (i := 328) (by decide +kernel), List.mem_of_getElem? (i := 807) (by decide +kernel), List.mem_of_getElem? (i := 808) (by decide +kernel)⟩
theorem lw_p19 : lw_okq (⟨"AskingCourt$Case", "weigh", "(I[I)I"⟩, 19) := ⟨⟨by decide +kernel, by decide +kernel⟩, List.mem_of_getElem? (i := 184) (by decide +kernel), List.mem_of_getElem? (i := 818) (by decide +kernel), List.mem_of_getElem? (i := 819) (by decide +kernel)⟩
theorem lw_p20 : lw_okq (⟨"AskingCourt$CaseReader", "readEither", "(I)Z"⟩, 8) := ⟨⟨by decide +kernel, by decide +kernel⟩, List.mem_of_getElem? (i := 328) (by decide +kernel), List.mem_of_getElem? (i := 831) (by decide +kernel), List.mem_of_getElem? (i := 832) (by decide +kernel)⟩
theorem lw_p21 : lw_okq (⟨"AskingCourt$CaseReader", "readBoth", "(I)Z"⟩, 8) := ⟨⟨by decide +kernel, by decide +kernel⟩, List.mem_of_getElem? (i := 328) (by decide +kernel), List.mem_of_getElem? (i := 835) (by decide +kernel), List.mem_of_getElem? (i := 836) (by decide +kernel)⟩
theorem lw_p22 : lw_okq (⟨"AskingCourt$CaseReader", "readOne", "(I)Z"⟩, 8) := ⟨⟨by decide +kernel, by decide +kernel⟩, List.mem_of_getElem? (i := 328) (by decide +kernel), List.mem_of_getElem? (i := 839) (by decide +kernel), List.mem_of_getElem? (i := 840) (by decide +kernel)⟩
theorem lw_p23 : lw_okq (⟨"AskingCourt$CaseReader", "readWitness", "()Z"⟩, 8) := ⟨⟨by decide +kernel, by decide +kernel⟩, List.mem_of_getElem? (i := 328) (by decide +kernel), List.mem_of_getElem? (i := 845) (by decide +kernel), List.mem_of_getElem? (i := 846) (by decide +kernel)⟩
theorem lw_p24 : lw_okq (⟨"AskingCourt$CaseReader", "takeNames", "(II)I"⟩, 8) := ⟨⟨by decide +kernel, by decide +kernel⟩, List.mem_of_getElem? (i := 328) (by decide +kernel), List.mem_of_getElem? (i := 849) (by decide +kernel), List.mem_of_getElem? (i := 850) (by decide +kernel)⟩
theorem lw_p25 : lw_okq (⟨"AskingCourt$CaseReader", "readKinds", "(I)Z"⟩, 8) := ⟨⟨by decide +kernel, by decide +kernel⟩, List.mem_of_getElem? (i := 328) (by decide +kernel), List.mem_of_getElem? (i := 853) (by decide +kernel), List.mem_of_getElem? (i := 854) (by decide +kernel)⟩
theorem lw_p26 : lw_okq (⟨"AskingCourt$AnswerMaker", "relateSayings", "(LAskingCourt$Case;)V"⟩, 5) := ⟨⟨by decide +kernel, by decide +kernel⟩, List.mem_of_getElem? (i := 334) (by decide +kernel), List.mem_of_getElem? (i := 864) (by decide +kernel), List.mem_of_getElem? (i := 865) (by decide +kernel)⟩
theorem lw_p27 : lw_okq (⟨"AskingCourt$AnswerMaker", "gatherKnown", "(LAskingCourt$Case;I)V"⟩, 5) := ⟨⟨by decide +kernel, by decide +kernel⟩, List.mem_of_getElem? (i := 334) (by decide +kernel), List.mem_of_getElem? (i := 877) (by decide +kernel), List.mem_of_getElem? (i := 878) (by decide +kernel)⟩
theorem lw_p28 : lw_okq (⟨"AskingCourt$AnswerMaker", "fillWorld", "(LAskingCourt$Case;II)V"⟩, 5) := ⟨⟨by decide +kernel, by decide +kernel⟩, List.mem_of_getElem? (i := 334) (by decide +kernel), List.mem_of_getElem? (i := 885) (by decide +kernel), List.mem_of_getElem? (i := 886) (by decide +kernel)⟩
theorem lw_p29 : lw_okq (⟨"AskingCourt$AnswerMaker", "otherThan", "(I)I"⟩, 5) := ⟨⟨by decide +kernel, by decide +kernel⟩, List.mem_of_getElem? (i := 334) (by decide +kernel), List.mem_of_getElem? (i := 889) (by decide +kernel), List.mem_of_getElem? (i := 890) (by decide +kernel)⟩
theorem lw_p30 : lw_okq (⟨"AskingCourt$AnswerMaker", "honestTo", "(II)I"⟩, 5) := ⟨⟨by decide +kernel, by decide +kernel⟩, List.mem_of_getElem? (i := 334) (by decide +kernel), List.mem_of_getElem? (i := 902) (by decide +kernel), List.mem_of_getElem? (i := 903) (by decide +kernel)⟩
theorem lw_p31 : lw_okq (⟨"AskingCourt", "give", "(I)I"⟩, 20) := ⟨⟨by decide +kernel, by decide +kernel⟩, List.mem_of_getElem? (i := 23) (by decide +kernel), List.mem_of_getElem? (i := 914) (by decide +kernel), List.mem_of_getElem? (i := 915) (by decide +kernel)⟩
def lw_privs_2 : List (MethodName × Nat) := [(⟨"AskingCourt$CaseReader", "readNever", "()Z"⟩, 8), (⟨"AskingCourt$CaseReader", "readQuestion", "()Z"⟩, 8), (⟨"AskingCourt$CaseReader", "makeWorldsOnce", "()V"⟩, 8), (⟨"AskingCourt$Case", "weigh", "(I[I)I"⟩, 19), (⟨"AskingCourt$CaseReader", "readEither", "(I)Z"⟩, 8), (⟨"AskingCourt$CaseReader", "readBoth", "(I)Z"⟩, 8), (⟨"AskingCourt$CaseReader", "readOne", "(I)Z"⟩, 8), (⟨"AskingCourt$CaseReader", "readWitness", "()Z"⟩, 8), (⟨"AskingCourt$CaseReader", "takeNames", "(II)I"⟩, 8), (⟨"AskingCourt$CaseReader", "readKinds", "(I)Z"⟩, 8), (⟨"AskingCourt$AnswerMaker", "relateSayings", "(LAskingCourt$Case;)V"⟩, 5), (⟨"AskingCourt$AnswerMaker", "gatherKnown", "(LAskingCourt$Case;I)V"⟩, 5), (⟨"AskingCourt$AnswerMaker", "fillWorld", "(LAskingCourt$Case;II)V"⟩, 5), (⟨"AskingCourt$AnswerMaker", "otherThan", "(I)I"⟩, 5), (⟨"AskingCourt$AnswerMaker", "honestTo", "(II)I"⟩, 5), (⟨"AskingCourt", "give", "(I)I"⟩, 20)]
theorem lw_r2 : ∀ q ∈ lw_privs_2, lw_okq q := List.forall_mem_cons.mpr ⟨lw_p16, List.forall_mem_cons.mpr ⟨lw_p17, List.forall_mem_cons.mpr ⟨lw_p18, List.forall_mem_cons.mpr ⟨lw_p19, List.forall_mem_cons.mpr ⟨lw_p20, List.forall_mem_cons.mpr ⟨lw_p21, List.forall_mem_cons.mpr ⟨lw_p22, List.forall_mem_cons.mpr ⟨lw_p23, List.forall_mem_cons.mpr ⟨lw_p24, List.forall_mem_cons.mpr ⟨lw_p25, List.forall_mem_cons.mpr ⟨lw_p26, List.forall_mem_cons.mpr ⟨lw_p27, List.forall_mem_cons.mpr ⟨lw_p28, List.forall_mem_cons.mpr ⟨lw_p29, List.forall_mem_cons.mpr ⟨lw_p30, List.forall_mem_cons.mpr ⟨lw_p31, fun _ h => absurd h List.not_mem_nil⟩⟩⟩⟩⟩⟩⟩⟩⟩⟩⟩⟩⟩⟩⟩⟩
theorem lw_p32 : lw_okq (⟨"AskingCourt$Plan", "readEnd", "(LAskingCourt$Lexer;)Z"⟩, 8) := ⟨⟨by decide +kernel, by decide +kernel⟩, List.mem_of_getElem? (i := 147) (by decide +kernel), List.mem_of_getElem? (i := 926) (by decide +kernel), List.mem_of_getElem? (i := 927) (by decide +kernel)⟩
theorem lw_p33 : lw_okq (⟨"AskingCourt$Plan", "readStep", "(LAskingCourt$Lexer;LAskingCourt$Names;)Z"⟩, 8) := ⟨⟨by decide +kernel, by decide +kernel⟩, List.mem_of_getElem? (i := 147) (by decide +kernel), List.mem_of_getElem? (i := 933) (by decide +kernel), List.mem_of_getElem? (i := 934) (by decide +kernel)⟩
theorem lw_p34 : lw_okq (⟨"AskingCourt$Plan", "readTest", "(LAskingCourt$Lexer;LAskingCourt$Names;)Z"⟩, 8) := ⟨⟨by decide +kernel, by decide +kernel⟩, List.mem_of_getElem? (i := 147) (by decide +kernel), List.mem_of_getElem? (i := 937) (by decide +kernel), List.mem_of_getElem? (i := 938) (by decide +kernel)⟩
theorem lw_p35 : lw_okq (⟨"AskingCourt$Plan", "readNames", "(LAskingCourt$Lexer;LAskingCourt$Names;)Z"⟩, 8) := ⟨⟨by decide +kernel, by decide +kernel⟩, List.mem_of_getElem? (i := 147) (by decide +kernel), List.mem_of_getElem? (i := 943) (by decide +kernel), List.mem_of_getElem? (i := 944) (by decide +kernel)⟩
theorem lw_p36 : lw_okq (⟨"AskingCourt$Hearing", "weightOf", "(III)J"⟩, 7) := ⟨⟨by decide +kernel, by decide +kernel⟩, List.mem_of_getElem? (i := 381) (by decide +kernel), List.mem_of_getElem? (i := 1060) (by decide +kernel), List.mem_of_getElem? (i := 1061) (by decide +kernel)⟩
theorem lw_p37 : lw_okq (⟨"AskingCourt", "tell", "(JJ)V"⟩, 20) := ⟨⟨by decide +kernel, by decide +kernel⟩, List.mem_of_getElem? (i := 23) (by decide +kernel), List.mem_of_getElem? (i := 1072) (by decide +kernel), List.mem_of_getElem? (i := 1073) (by decide +kernel)⟩
theorem lw_p38 : lw_okq (⟨"AskingCourt$Search", "gatherAgainst", "(II)V"⟩, 9) := ⟨⟨by decide +kernel, by decide +kernel⟩, List.mem_of_getElem? (i := 486) (by decide +kernel), List.mem_of_getElem? (i := 1089) (by decide +kernel), List.mem_of_getElem? (i := 1090) (by decide +kernel)⟩
theorem lw_p39 : lw_okq (⟨"AskingCourt$Search", "isProof", "(I)Z"⟩, 9) := ⟨⟨by decide +kernel, by decide +kernel⟩, List.mem_of_getElem? (i := 486) (by decide +kernel), List.mem_of_getElem? (i := 1097) (by decide +kernel), List.mem_of_getElem? (i := 1098) (by decide +kernel)⟩
theorem lw_p40 : lw_okq (⟨"AskingCourt$Search", "standsAgainst", "(II)Z"⟩, 9) := ⟨⟨by decide +kernel, by decide +kernel⟩, List.mem_of_getElem? (i := 486) (by decide +kernel), List.mem_of_getElem? (i := 1101) (by decide +kernel), List.mem_of_getElem? (i := 1102) (by decide +kernel)⟩
theorem lw_p41 : lw_okq (⟨"AskingCourt$Search", "firstOf", "(III)I"⟩, 9) := ⟨⟨by decide +kernel, by decide +kernel⟩, List.mem_of_getElem? (i := 486) (by decide +kernel), List.mem_of_getElem? (i := 1151) (by decide +kernel), List.mem_of_getElem? (i := 1152) (by decide +kernel)⟩
theorem lw_p42 : lw_okq (⟨"AskingCourt$Search", "settles", "(IIIII)Z"⟩, 9) := ⟨⟨by decide +kernel, by decide +kernel⟩, List.mem_of_getElem? (i := 486) (by decide +kernel), List.mem_of_getElem? (i := 1155) (by decide +kernel), List.mem_of_getElem? (i := 1156) (by decide +kernel)⟩
theorem lw_p43 : lw_okq (⟨"AskingCourt$Search", "openBehind", "(IIIZ)I"⟩, 9) := ⟨⟨by decide +kernel, by decide +kernel⟩, List.mem_of_getElem? (i := 486) (by decide +kernel), List.mem_of_getElem? (i := 1159) (by decide +kernel), List.mem_of_getElem? (i := 1160) (by decide +kernel)⟩
theorem lw_p44 : lw_okq (⟨"AskingCourt$Search", "descend", "(IIII)V"⟩, 9) := ⟨⟨by decide +kernel, by decide +kernel⟩, List.mem_of_getElem? (i := 486) (by decide +kernel), List.mem_of_getElem? (i := 1167) (by decide +kernel), List.mem_of_getElem? (i := 1168) (by decide +kernel)⟩
theorem lw_p45 : lw_okq (⟨"AskingCourt$Hearing", "firstDoubt", "(I)I"⟩, 7) := ⟨⟨by decide +kernel, by decide +kernel⟩, List.mem_of_getElem? (i := 381) (by decide +kernel), List.mem_of_getElem? (i := 1197) (by decide +kernel), List.mem_of_getElem? (i := 1198) (by decide +kernel)⟩
theorem lw_p46 : lw_okq (⟨"AskingCourt", "canSit", "()Z"⟩, 20) := ⟨⟨by decide +kernel, by decide +kernel⟩, List.mem_of_getElem? (i := 23) (by decide +kernel), List.mem_of_getElem? (i := 1213) (by decide +kernel), List.mem_of_getElem? (i := 1214) (by decide +kernel)⟩
theorem lw_p47 : lw_okq (⟨"AskingCourt$Sitting", "drawTruth", "(LAskingCourt$Case;I)V"⟩, 4) := ⟨⟨by decide +kernel, by decide +kernel⟩, List.mem_of_getElem? (i := 520) (by decide +kernel), List.mem_of_getElem? (i := 1222) (by decide +kernel), List.mem_of_getElem? (i := 1223) (by decide +kernel)⟩
def lw_privs_3 : List (MethodName × Nat) := [(⟨"AskingCourt$Plan", "readEnd", "(LAskingCourt$Lexer;)Z"⟩, 8), (⟨"AskingCourt$Plan", "readStep", "(LAskingCourt$Lexer;LAskingCourt$Names;)Z"⟩, 8), (⟨"AskingCourt$Plan", "readTest", "(LAskingCourt$Lexer;LAskingCourt$Names;)Z"⟩, 8), (⟨"AskingCourt$Plan", "readNames", "(LAskingCourt$Lexer;LAskingCourt$Names;)Z"⟩, 8), (⟨"AskingCourt$Hearing", "weightOf", "(III)J"⟩, 7), (⟨"AskingCourt", "tell", "(JJ)V"⟩, 20), (⟨"AskingCourt$Search", "gatherAgainst", "(II)V"⟩, 9), (⟨"AskingCourt$Search", "isProof", "(I)Z"⟩, 9), (⟨"AskingCourt$Search", "standsAgainst", "(II)Z"⟩, 9), (⟨"AskingCourt$Search", "firstOf", "(III)I"⟩, 9), (⟨"AskingCourt$Search", "settles", "(IIIII)Z"⟩, 9), (⟨"AskingCourt$Search", "openBehind", "(IIIZ)I"⟩, 9), (⟨"AskingCourt$Search", "descend", "(IIII)V"⟩, 9), (⟨"AskingCourt$Hearing", "firstDoubt", "(I)I"⟩, 7), (⟨"AskingCourt", "canSit", "()Z"⟩, 20), (⟨"AskingCourt$Sitting", "drawTruth", "(LAskingCourt$Case;I)V"⟩, 4)]
theorem lw_r3 : ∀ q ∈ lw_privs_3, lw_okq q := List.forall_mem_cons.mpr ⟨lw_p32, List.forall_mem_cons.mpr ⟨lw_p33, List.forall_mem_cons.mpr ⟨lw_p34, List.forall_mem_cons.mpr ⟨lw_p35, List.forall_mem_cons.mpr ⟨lw_p36, List.forall_mem_cons.mpr ⟨lw_p37, List.forall_mem_cons.mpr ⟨lw_p38, List.forall_mem_cons.mpr ⟨lw_p39, List.forall_mem_cons.mpr ⟨lw_p40, List.forall_mem_cons.mpr ⟨lw_p41, List.forall_mem_cons.mpr ⟨lw_p42, List.forall_mem_cons.mpr ⟨lw_p43, List.forall_mem_cons.mpr ⟨lw_p44, List.forall_mem_cons.mpr ⟨lw_p45, List.forall_mem_cons.mpr ⟨lw_p46, List.forall_mem_cons.mpr ⟨lw_p47, fun _ h => absurd h List.not_mem_nil⟩⟩⟩⟩⟩⟩⟩⟩⟩⟩⟩⟩⟩⟩⟩⟩
theorem lw_p48 : lw_okq (⟨"AskingCourt$Sitting", "draw", "(I)I"⟩, 4) := ⟨⟨by decide +kernel, by decide +kernel⟩, List.mem_of_getElem? (i := 520) (by decide +kernel), List.mem_of_getElem? (i := 1226) (by decide +kernel), List.mem_of_getElem? (i := 1227) (by decide +kernel)⟩
theorem lw_p49 : lw_okq (⟨"AskingCourt$Sitting", "put", "(II)V"⟩, 4) := ⟨⟨by decide +kernel, by decide +kernel⟩, List.mem_of_getElem? (i := 520) (by decide +kernel), List.mem_of_getElem? (i := 1234) (by decide +kernel), List.mem_of_getElem? (i := 1235) (by decide +kernel)⟩
theorem lw_p50 : lw_okq (⟨"AskingCourt$Sitting", "judge", "(I)I"⟩, 4) := ⟨⟨by decide +kernel, by decide +kernel⟩, List.mem_of_getElem? (i := 520) (by decide +kernel), List.mem_of_getElem? (i := 1244) (by decide +kernel), List.mem_of_getElem? (i := 1245) (by decide +kernel)⟩
theorem lw_p51 : lw_okq (⟨"AskingCourt$Sitting", "passes", "(II)Z"⟩, 4) := ⟨⟨by decide +kernel, by decide +kernel⟩, List.mem_of_getElem? (i := 520) (by decide +kernel), List.mem_of_getElem? (i := 1253) (by decide +kernel), List.mem_of_getElem? (i := 1254) (by decide +kernel)⟩
theorem lw_p52 : lw_okq (⟨"AskingCourtModel", "asNew", "()V"⟩, 48) := ⟨⟨by decide +kernel, by decide +kernel⟩, List.mem_of_getElem? (i := 1297) (by decide +kernel), List.mem_of_getElem? (i := 1304) (by decide +kernel), List.mem_of_getElem? (i := 1305) (by decide +kernel)⟩
theorem lw_p53 : lw_okq (⟨"AskingCourtModel", "takes", "()V"⟩, 48) := ⟨⟨by decide +kernel, by decide +kernel⟩, List.mem_of_getElem? (i := 1297) (by decide +kernel), List.mem_of_getElem? (i := 1308) (by decide +kernel), List.mem_of_getElem? (i := 1309) (by decide +kernel)⟩
theorem lw_p54 : lw_okq (⟨"AskingCourtModel", "laysAnswers", "()V"⟩, 48) := ⟨⟨by decide +kernel, by decide +kernel⟩, List.mem_of_getElem? (i := 1297) (by decide +kernel), List.mem_of_getElem? (i := 1312) (by decide +kernel), List.mem_of_getElem? (i := 1313) (by decide +kernel)⟩
theorem lw_p55 : lw_okq (⟨"AskingCourtModel", "isPossible", "(I)Z"⟩, 48) := ⟨⟨by decide +kernel, by decide +kernel⟩, List.mem_of_getElem? (i := 1297) (by decide +kernel), List.mem_of_getElem? (i := 1316) (by decide +kernel), List.mem_of_getElem? (i := 1317) (by decide +kernel)⟩
theorem lw_p56 : lw_okq (⟨"AskingCourtModel", "knowsIn", "(II)V"⟩, 48) := ⟨⟨by decide +kernel, by decide +kernel⟩, List.mem_of_getElem? (i := 1297) (by decide +kernel), List.mem_of_getElem? (i := 1323) (by decide +kernel), List.mem_of_getElem? (i := 1324) (by decide +kernel)⟩
theorem lw_p57 : lw_okq (⟨"AskingCourtModel", "ofWitness", "(II)I"⟩, 48) := ⟨⟨by decide +kernel, by decide +kernel⟩, List.mem_of_getElem? (i := 1297) (by decide +kernel), List.mem_of_getElem? (i := 1327) (by decide +kernel), List.mem_of_getElem? (i := 1328) (by decide +kernel)⟩
theorem lw_p58 : lw_okq (⟨"AskingCourtModel", "valueIn", "(III)I"⟩, 48) := ⟨⟨by decide +kernel, by decide +kernel⟩, List.mem_of_getElem? (i := 1297) (by decide +kernel), List.mem_of_getElem? (i := 1331) (by decide +kernel), List.mem_of_getElem? (i := 1332) (by decide +kernel)⟩
theorem lw_p59 : lw_okq (⟨"AskingCourtModel", "honestly", "(I)I"⟩, 48) := ⟨⟨by decide +kernel, by decide +kernel⟩, List.mem_of_getElem? (i := 1297) (by decide +kernel), List.mem_of_getElem? (i := 1335) (by decide +kernel), List.mem_of_getElem? (i := 1336) (by decide +kernel)⟩
theorem lw_p60 : lw_okq (⟨"AskingCourtModel", "meansBy", "(I)V"⟩, 48) := ⟨⟨by decide +kernel, by decide +kernel⟩, List.mem_of_getElem? (i := 1297) (by decide +kernel), List.mem_of_getElem? (i := 1340) (by decide +kernel), List.mem_of_getElem? (i := 1341) (by decide +kernel)⟩
theorem lw_p61 : lw_okq (⟨"AskingCourtModel", "isMeant", "()Z"⟩, 48) := ⟨⟨by decide +kernel, by decide +kernel⟩, List.mem_of_getElem? (i := 1297) (by decide +kernel), List.mem_of_getElem? (i := 1344) (by decide +kernel), List.mem_of_getElem? (i := 1345) (by decide +kernel)⟩
theorem lw_p62 : lw_okq (⟨"AskingCourtModel", "liesTo", "(I)I"⟩, 48) := ⟨⟨by decide +kernel, by decide +kernel⟩, List.mem_of_getElem? (i := 1297) (by decide +kernel), List.mem_of_getElem? (i := 1348) (by decide +kernel), List.mem_of_getElem? (i := 1349) (by decide +kernel)⟩
theorem lw_p63 : lw_okq (⟨"AskingCourtModel", "otherwise", "(I)I"⟩, 48) := ⟨⟨by decide +kernel, by decide +kernel⟩, List.mem_of_getElem? (i := 1297) (by decide +kernel), List.mem_of_getElem? (i := 1352) (by decide +kernel), List.mem_of_getElem? (i := 1353) (by decide +kernel)⟩
def lw_privs_4 : List (MethodName × Nat) := [(⟨"AskingCourt$Sitting", "draw", "(I)I"⟩, 4), (⟨"AskingCourt$Sitting", "put", "(II)V"⟩, 4), (⟨"AskingCourt$Sitting", "judge", "(I)I"⟩, 4), (⟨"AskingCourt$Sitting", "passes", "(II)Z"⟩, 4), (⟨"AskingCourtModel", "asNew", "()V"⟩, 48), (⟨"AskingCourtModel", "takes", "()V"⟩, 48), (⟨"AskingCourtModel", "laysAnswers", "()V"⟩, 48), (⟨"AskingCourtModel", "isPossible", "(I)Z"⟩, 48), (⟨"AskingCourtModel", "knowsIn", "(II)V"⟩, 48), (⟨"AskingCourtModel", "ofWitness", "(II)I"⟩, 48), (⟨"AskingCourtModel", "valueIn", "(III)I"⟩, 48), (⟨"AskingCourtModel", "honestly", "(I)I"⟩, 48), (⟨"AskingCourtModel", "meansBy", "(I)V"⟩, 48), (⟨"AskingCourtModel", "isMeant", "()Z"⟩, 48), (⟨"AskingCourtModel", "liesTo", "(I)I"⟩, 48), (⟨"AskingCourtModel", "otherwise", "(I)I"⟩, 48)]
theorem lw_r4 : ∀ q ∈ lw_privs_4, lw_okq q := List.forall_mem_cons.mpr ⟨lw_p48, List.forall_mem_cons.mpr ⟨lw_p49, List.forall_mem_cons.mpr ⟨lw_p50, List.forall_mem_cons.mpr ⟨lw_p51, List.forall_mem_cons.mpr ⟨lw_p52, List.forall_mem_cons.mpr ⟨lw_p53, List.forall_mem_cons.mpr ⟨lw_p54, List.forall_mem_cons.mpr ⟨lw_p55, List.forall_mem_cons.mpr ⟨lw_p56, List.forall_mem_cons.mpr ⟨lw_p57, List.forall_mem_cons.mpr ⟨lw_p58, List.forall_mem_cons.mpr ⟨lw_p59, List.forall_mem_cons.mpr ⟨lw_p60, List.forall_mem_cons.mpr ⟨lw_p61, List.forall_mem_cons.mpr ⟨lw_p62, List.forall_mem_cons.mpr ⟨lw_p63, fun _ h => absurd h List.not_mem_nil⟩⟩⟩⟩⟩⟩⟩⟩⟩⟩⟩⟩⟩⟩⟩⟩
theorem lw_p64 : lw_okq (⟨"AskingCourtModel", "is", "(I)Z"⟩, 48) := ⟨⟨by decide +kernel, by decide +kernel⟩, List.mem_of_getElem? (i := 1297) (by decide +kernel), List.mem_of_getElem? (i := 1521) (by decide +kernel), List.mem_of_getElem? (i := 1522) (by decide +kernel)⟩
theorem lw_p65 : lw_okq (⟨"AskingCourtModel", "wrongPlace", "(II)I"⟩, 48) := ⟨⟨by decide +kernel, by decide +kernel⟩, List.mem_of_getElem? (i := 1297) (by decide +kernel), List.mem_of_getElem? (i := 1529) (by decide +kernel), List.mem_of_getElem? (i := 1530) (by decide +kernel)⟩
theorem lw_p66 : lw_okq (⟨"AskingCourtModel", "four", "(I)V"⟩, 48) := ⟨⟨by decide +kernel, by decide +kernel⟩, List.mem_of_getElem? (i := 1297) (by decide +kernel), List.mem_of_getElem? (i := 1548) (by decide +kernel), List.mem_of_getElem? (i := 1549) (by decide +kernel)⟩
theorem lw_p67 : lw_okq (⟨"AskingCourtModel", "begins", "(II)Z"⟩, 48) := ⟨⟨by decide +kernel, by decide +kernel⟩, List.mem_of_getElem? (i := 1297) (by decide +kernel), List.mem_of_getElem? (i := 1560) (by decide +kernel), List.mem_of_getElem? (i := 1561) (by decide +kernel)⟩
theorem lw_p68 : lw_okq (⟨"AskingCourtModel", "ahead", "()V"⟩, 48) := ⟨⟨by decide +kernel, by decide +kernel⟩, List.mem_of_getElem? (i := 1297) (by decide +kernel), List.mem_of_getElem? (i := 1564) (by decide +kernel), List.mem_of_getElem? (i := 1565) (by decide +kernel)⟩
theorem lw_p69 : lw_okq (⟨"AskingCourtModel", "byteAt", "(I)I"⟩, 48) := ⟨⟨by decide +kernel, by decide +kernel⟩, List.mem_of_getElem? (i := 1297) (by decide +kernel), List.mem_of_getElem? (i := 1568) (by decide +kernel), List.mem_of_getElem? (i := 1569) (by decide +kernel)⟩
theorem lw_p70 : lw_okq (⟨"AskingCourtModel", "refuse", "(I)I"⟩, 48) := ⟨⟨by decide +kernel, by decide +kernel⟩, List.mem_of_getElem? (i := 1297) (by decide +kernel), List.mem_of_getElem? (i := 1580) (by decide +kernel), List.mem_of_getElem? (i := 1581) (by decide +kernel)⟩
theorem lw_p71 : lw_okq (⟨"AskingCourtModel", "casePart", "()Z"⟩, 48) := ⟨⟨by decide +kernel, by decide +kernel⟩, List.mem_of_getElem? (i := 1297) (by decide +kernel), List.mem_of_getElem? (i := 1584) (by decide +kernel), List.mem_of_getElem? (i := 1585) (by decide +kernel)⟩
theorem lw_p72 : lw_okq (⟨"AskingCourtModel", "inWords", "(Ljava/lang/String;)I"⟩, 48) := ⟨⟨by decide +kernel, by decide +kernel⟩, List.mem_of_getElem? (i := 1297) (by decide +kernel), List.mem_of_getElem? (i := 1589) (by decide +kernel), List.mem_of_getElem? (i := 1590) (by decide +kernel)⟩
theorem lw_p73 : lw_okq (⟨"AskingCourtModel", "aFact", "()Z"⟩, 48) := ⟨⟨by decide +kernel, by decide +kernel⟩, List.mem_of_getElem? (i := 1297) (by decide +kernel), List.mem_of_getElem? (i := 1595) (by decide +kernel), List.mem_of_getElem? (i := 1596) (by decide +kernel)⟩
theorem lw_p74 : lw_okq (⟨"AskingCourtModel", "fails", "(I)Z"⟩, 48) := ⟨⟨by decide +kernel, by decide +kernel⟩, List.mem_of_getElem? (i := 1297) (by decide +kernel), List.mem_of_getElem? (i := 1599) (by decide +kernel), List.mem_of_getElem? (i := 1600) (by decide +kernel)⟩
theorem lw_p75 : lw_okq (⟨"AskingCourtModel", "newName", "(II)Z"⟩, 48) := ⟨⟨by decide +kernel, by decide +kernel⟩, List.mem_of_getElem? (i := 1297) (by decide +kernel), List.mem_of_getElem? (i := 1603) (by decide +kernel), List.mem_of_getElem? (i := 1604) (by decide +kernel)⟩
theorem lw_p76 : lw_okq (⟨"AskingCourtModel", "isName", "(Ljava/lang/String;)Z"⟩, 48) := ⟨⟨by decide +kernel, by decide +kernel⟩, List.mem_of_getElem? (i := 1297) (by decide +kernel), List.mem_of_getElem? (i := 1607) (by decide +kernel), List.mem_of_getElem? (i := 1608) (by decide +kernel)⟩
theorem lw_p77 : lw_okq (⟨"AskingCourtModel", "isFree", "()Z"⟩, 48) := ⟨⟨by decide +kernel, by decide +kernel⟩, List.mem_of_getElem? (i := 1297) (by decide +kernel), List.mem_of_getElem? (i := 1611) (by decide +kernel), List.mem_of_getElem? (i := 1612) (by decide +kernel)⟩
theorem lw_p78 : lw_okq (⟨"AskingCourtModel", "findHere", "(II)I"⟩, 48) := ⟨⟨by decide +kernel, by decide +kernel⟩, List.mem_of_getElem? (i := 1297) (by decide +kernel), List.mem_of_getElem? (i := 1615) (by decide +kernel), List.mem_of_getElem? (i := 1616) (by decide +kernel)⟩
theorem lw_p79 : lw_okq (⟨"AskingCourtModel", "nameHere", "()J"⟩, 48) := ⟨⟨by decide +kernel, by decide +kernel⟩, List.mem_of_getElem? (i := 1297) (by decide +kernel), List.mem_of_getElem? (i := 1619) (by decide +kernel), List.mem_of_getElem? (i := 1620) (by decide +kernel)⟩
def lw_privs_5 : List (MethodName × Nat) := [(⟨"AskingCourtModel", "is", "(I)Z"⟩, 48), (⟨"AskingCourtModel", "wrongPlace", "(II)I"⟩, 48), (⟨"AskingCourtModel", "four", "(I)V"⟩, 48), (⟨"AskingCourtModel", "begins", "(II)Z"⟩, 48), (⟨"AskingCourtModel", "ahead", "()V"⟩, 48), (⟨"AskingCourtModel", "byteAt", "(I)I"⟩, 48), (⟨"AskingCourtModel", "refuse", "(I)I"⟩, 48), (⟨"AskingCourtModel", "casePart", "()Z"⟩, 48), (⟨"AskingCourtModel", "inWords", "(Ljava/lang/String;)I"⟩, 48), (⟨"AskingCourtModel", "aFact", "()Z"⟩, 48), (⟨"AskingCourtModel", "fails", "(I)Z"⟩, 48), (⟨"AskingCourtModel", "newName", "(II)Z"⟩, 48), (⟨"AskingCourtModel", "isName", "(Ljava/lang/String;)Z"⟩, 48), (⟨"AskingCourtModel", "isFree", "()Z"⟩, 48), (⟨"AskingCourtModel", "findHere", "(II)I"⟩, 48), (⟨"AskingCourtModel", "nameHere", "()J"⟩, 48)]
theorem lw_r5 : ∀ q ∈ lw_privs_5, lw_okq q := List.forall_mem_cons.mpr ⟨lw_p64, List.forall_mem_cons.mpr ⟨lw_p65, List.forall_mem_cons.mpr ⟨lw_p66, List.forall_mem_cons.mpr ⟨lw_p67, List.forall_mem_cons.mpr ⟨lw_p68, List.forall_mem_cons.mpr ⟨lw_p69, List.forall_mem_cons.mpr ⟨lw_p70, List.forall_mem_cons.mpr ⟨lw_p71, List.forall_mem_cons.mpr ⟨lw_p72, List.forall_mem_cons.mpr ⟨lw_p73, List.forall_mem_cons.mpr ⟨lw_p74, List.forall_mem_cons.mpr ⟨lw_p75, List.forall_mem_cons.mpr ⟨lw_p76, List.forall_mem_cons.mpr ⟨lw_p77, List.forall_mem_cons.mpr ⟨lw_p78, List.forall_mem_cons.mpr ⟨lw_p79, fun _ h => absurd h List.not_mem_nil⟩⟩⟩⟩⟩⟩⟩⟩⟩⟩⟩⟩⟩⟩⟩⟩
theorem lw_p80 : lw_okq (⟨"AskingCourtModel", "wantWord", "(Ljava/lang/String;I)Z"⟩, 48) := ⟨⟨by decide +kernel, by decide +kernel⟩, List.mem_of_getElem? (i := 1297) (by decide +kernel), List.mem_of_getElem? (i := 1623) (by decide +kernel), List.mem_of_getElem? (i := 1624) (by decide +kernel)⟩
theorem lw_p81 : lw_okq (⟨"AskingCourtModel", "number", "(III)Z"⟩, 48) := ⟨⟨by decide +kernel, by decide +kernel⟩, List.mem_of_getElem? (i := 1297) (by decide +kernel), List.mem_of_getElem? (i := 1627) (by decide +kernel), List.mem_of_getElem? (i := 1628) (by decide +kernel)⟩
theorem lw_p82 : lw_okq (⟨"AskingCourtModel", "isSign", "(I)Z"⟩, 48) := ⟨⟨by decide +kernel, by decide +kernel⟩, List.mem_of_getElem? (i := 1297) (by decide +kernel), List.mem_of_getElem? (i := 1631) (by decide +kernel), List.mem_of_getElem? (i := 1632) (by decide +kernel)⟩
theorem lw_p83 : lw_okq (⟨"AskingCourtModel", "aNever", "()Z"⟩, 48) := ⟨⟨by decide +kernel, by decide +kernel⟩, List.mem_of_getElem? (i := 1297) (by decide +kernel), List.mem_of_getElem? (i := 1635) (by decide +kernel), List.mem_of_getElem? (i := 1636) (by decide +kernel)⟩
theorem lw_p84 : lw_okq (⟨"AskingCourtModel", "oldName", "(III)Z"⟩, 48) := ⟨⟨by decide +kernel, by decide +kernel⟩, List.mem_of_getElem? (i := 1297) (by decide +kernel), List.mem_of_getElem? (i := 1639) (by decide +kernel), List.mem_of_getElem? (i := 1640) (by decide +kernel)⟩
theorem lw_p85 : lw_okq (⟨"AskingCourtModel", "aQuestion", "()Z"⟩, 48) := ⟨⟨by decide +kernel, by decide +kernel⟩, List.mem_of_getElem? (i := 1297) (by decide +kernel), List.mem_of_getElem? (i := 1643) (by decide +kernel), List.mem_of_getElem? (i := 1644) (by decide +kernel)⟩
theorem lw_p86 : lw_okq (⟨"AskingCourtModel", "conditions", "()Z"⟩, 48) := ⟨⟨by decide +kernel, by decide +kernel⟩, List.mem_of_getElem? (i := 1297) (by decide +kernel), List.mem_of_getElem? (i := 1647) (by decide +kernel), List.mem_of_getElem? (i := 1648) (by decide +kernel)⟩
theorem lw_p87 : lw_okq (⟨"AskingCourtModel", "aOne", "()Z"⟩, 48) := ⟨⟨by decide +kernel, by decide +kernel⟩, List.mem_of_getElem? (i := 1297) (by decide +kernel), List.mem_of_getElem? (i := 1651) (by decide +kernel), List.mem_of_getElem? (i := 1652) (by decide +kernel)⟩
theorem lw_p88 : lw_okq (⟨"AskingCourtModel", "does", "(I)V"⟩, 48) := ⟨⟨by decide +kernel, by decide +kernel⟩, List.mem_of_getElem? (i := 1297) (by decide +kernel), List.mem_of_getElem? (i := 1655) (by decide +kernel), List.mem_of_getElem? (i := 1656) (by decide +kernel)⟩
theorem lw_p89 : lw_okq (⟨"AskingCourtModel", "pushes", "(I)V"⟩, 48) := ⟨⟨by decide +kernel, by decide +kernel⟩, List.mem_of_getElem? (i := 1297) (by decide +kernel), List.mem_of_getElem? (i := 1659) (by decide +kernel), List.mem_of_getElem? (i := 1660) (by decide +kernel)⟩
theorem lw_p90 : lw_okq (⟨"AskingCourtModel", "turnsRound", "()V"⟩, 48) := ⟨⟨by decide +kernel, by decide +kernel⟩, List.mem_of_getElem? (i := 1297) (by decide +kernel), List.mem_of_getElem? (i := 1663) (by decide +kernel), List.mem_of_getElem? (i := 1664) (by decide +kernel)⟩
theorem lw_p91 : lw_okq (⟨"AskingCourtModel", "isDoing", "(I)Z"⟩, 48) := ⟨⟨by decide +kernel, by decide +kernel⟩, List.mem_of_getElem? (i := 1297) (by decide +kernel), List.mem_of_getElem? (i := 1667) (by decide +kernel), List.mem_of_getElem? (i := 1668) (by decide +kernel)⟩
theorem lw_p92 : lw_okq (⟨"AskingCourtModel", "isOpen", "()Z"⟩, 48) := ⟨⟨by decide +kernel, by decide +kernel⟩, List.mem_of_getElem? (i := 1297) (by decide +kernel), List.mem_of_getElem? (i := 1671) (by decide +kernel), List.mem_of_getElem? (i := 1672) (by decide +kernel)⟩
theorem lw_p93 : lw_okq (⟨"AskingCourtModel", "joins", "()V"⟩, 48) := ⟨⟨by decide +kernel, by decide +kernel⟩, List.mem_of_getElem? (i := 1297) (by decide +kernel), List.mem_of_getElem? (i := 1675) (by decide +kernel), List.mem_of_getElem? (i := 1676) (by decide +kernel)⟩
theorem lw_p94 : lw_okq (⟨"AskingCourtModel", "finds", "()V"⟩, 48) := ⟨⟨by decide +kernel, by decide +kernel⟩, List.mem_of_getElem? (i := 1297) (by decide +kernel), List.mem_of_getElem? (i := 1679) (by decide +kernel), List.mem_of_getElem? (i := 1680) (by decide +kernel)⟩
theorem lw_p95 : lw_okq (⟨"AskingCourtModel", "aWitness", "()Z"⟩, 48) := ⟨⟨by decide +kernel, by decide +kernel⟩, List.mem_of_getElem? (i := 1297) (by decide +kernel), List.mem_of_getElem? (i := 1683) (by decide +kernel), List.mem_of_getElem? (i := 1684) (by decide +kernel)⟩
def lw_privs_6 : List (MethodName × Nat) := [(⟨"AskingCourtModel", "wantWord", "(Ljava/lang/String;I)Z"⟩, 48), (⟨"AskingCourtModel", "number", "(III)Z"⟩, 48), (⟨"AskingCourtModel", "isSign", "(I)Z"⟩, 48), (⟨"AskingCourtModel", "aNever", "()Z"⟩, 48), (⟨"AskingCourtModel", "oldName", "(III)Z"⟩, 48), (⟨"AskingCourtModel", "aQuestion", "()Z"⟩, 48), (⟨"AskingCourtModel", "conditions", "()Z"⟩, 48), (⟨"AskingCourtModel", "aOne", "()Z"⟩, 48), (⟨"AskingCourtModel", "does", "(I)V"⟩, 48), (⟨"AskingCourtModel", "pushes", "(I)V"⟩, 48), (⟨"AskingCourtModel", "turnsRound", "()V"⟩, 48), (⟨"AskingCourtModel", "isDoing", "(I)Z"⟩, 48), (⟨"AskingCourtModel", "isOpen", "()Z"⟩, 48), (⟨"AskingCourtModel", "joins", "()V"⟩, 48), (⟨"AskingCourtModel", "finds", "()V"⟩, 48), (⟨"AskingCourtModel", "aWitness", "()Z"⟩, 48)]
theorem lw_r6 : ∀ q ∈ lw_privs_6, lw_okq q := List.forall_mem_cons.mpr ⟨lw_p80, List.forall_mem_cons.mpr ⟨lw_p81, List.forall_mem_cons.mpr ⟨lw_p82, List.forall_mem_cons.mpr ⟨lw_p83, List.forall_mem_cons.mpr ⟨lw_p84, List.forall_mem_cons.mpr ⟨lw_p85, List.forall_mem_cons.mpr ⟨lw_p86, List.forall_mem_cons.mpr ⟨lw_p87, List.forall_mem_cons.mpr ⟨lw_p88, List.forall_mem_cons.mpr ⟨lw_p89, List.forall_mem_cons.mpr ⟨lw_p90, List.forall_mem_cons.mpr ⟨lw_p91, List.forall_mem_cons.mpr ⟨lw_p92, List.forall_mem_cons.mpr ⟨lw_p93, List.forall_mem_cons.mpr ⟨lw_p94, List.forall_mem_cons.mpr ⟨lw_p95, fun _ h => absurd h List.not_mem_nil⟩⟩⟩⟩⟩⟩⟩⟩⟩⟩⟩⟩⟩⟩⟩⟩
theorem lw_p96 : lw_okq (⟨"AskingCourtModel", "several", "(III)Z"⟩, 48) := ⟨⟨by decide +kernel, by decide +kernel⟩, List.mem_of_getElem? (i := 1297) (by decide +kernel), List.mem_of_getElem? (i := 1687) (by decide +kernel), List.mem_of_getElem? (i := 1688) (by decide +kernel)⟩
theorem lw_p97 : lw_okq (⟨"AskingCourtModel", "wantSign", "(I)Z"⟩, 48) := ⟨⟨by decide +kernel, by decide +kernel⟩, List.mem_of_getElem? (i := 1297) (by decide +kernel), List.mem_of_getElem? (i := 1691) (by decide +kernel), List.mem_of_getElem? (i := 1692) (by decide +kernel)⟩
theorem lw_p98 : lw_okq (⟨"AskingCourtModel", "size", "(I)I"⟩, 48) := ⟨⟨by decide +kernel, by decide +kernel⟩, List.mem_of_getElem? (i := 1297) (by decide +kernel), List.mem_of_getElem? (i := 1695) (by decide +kernel), List.mem_of_getElem? (i := 1696) (by decide +kernel)⟩
theorem lw_p99 : lw_okq (⟨"AskingCourtModel", "taken", "(I)I"⟩, 48) := ⟨⟨by decide +kernel, by decide +kernel⟩, List.mem_of_getElem? (i := 1297) (by decide +kernel), List.mem_of_getElem? (i := 1699) (by decide +kernel), List.mem_of_getElem? (i := 1700) (by decide +kernel)⟩
theorem lw_p100 : lw_okq (⟨"AskingCourtModel", "gives", "(I)I"⟩, 48) := ⟨⟨by decide +kernel, by decide +kernel⟩, List.mem_of_getElem? (i := 1297) (by decide +kernel), List.mem_of_getElem? (i := 1703) (by decide +kernel), List.mem_of_getElem? (i := 1704) (by decide +kernel)⟩
theorem lw_p101 : lw_okq (⟨"AskingCourtModel", "step", "()Z"⟩, 48) := ⟨⟨by decide +kernel, by decide +kernel⟩, List.mem_of_getElem? (i := 1297) (by decide +kernel), List.mem_of_getElem? (i := 1711) (by decide +kernel), List.mem_of_getElem? (i := 1712) (by decide +kernel)⟩
theorem lw_p102 : lw_okq (⟨"AskingCourtModel", "name", "(III)Z"⟩, 48) := ⟨⟨by decide +kernel, by decide +kernel⟩, List.mem_of_getElem? (i := 1297) (by decide +kernel), List.mem_of_getElem? (i := 1715) (by decide +kernel), List.mem_of_getElem? (i := 1716) (by decide +kernel)⟩
theorem lw_p103 : lw_okq (⟨"AskingCourtModel", "aTest", "(I)Z"⟩, 48) := ⟨⟨by decide +kernel, by decide +kernel⟩, List.mem_of_getElem? (i := 1297) (by decide +kernel), List.mem_of_getElem? (i := 1719) (by decide +kernel), List.mem_of_getElem? (i := 1720) (by decide +kernel)⟩
theorem lw_p104 : lw_okq (⟨"AskingCourtModel", "putToday", "()I"⟩, 48) := ⟨⟨by decide +kernel, by decide +kernel⟩, List.mem_of_getElem? (i := 1297) (by decide +kernel), List.mem_of_getElem? (i := 1727) (by decide +kernel), List.mem_of_getElem? (i := 1728) (by decide +kernel)⟩
theorem lw_p105 : lw_okq (⟨"AskingCourtModel", "ofHeard", "(II)I"⟩, 48) := ⟨⟨by decide +kernel, by decide +kernel⟩, List.mem_of_getElem? (i := 1297) (by decide +kernel), List.mem_of_getElem? (i := 1731) (by decide +kernel), List.mem_of_getElem? (i := 1732) (by decide +kernel)⟩
theorem lw_p106 : lw_okq (⟨"AskingCourtModel", "isWorld", "(I)Z"⟩, 48) := ⟨⟨by decide +kernel, by decide +kernel⟩, List.mem_of_getElem? (i := 1297) (by decide +kernel), List.mem_of_getElem? (i := 1743) (by decide +kernel), List.mem_of_getElem? (i := 1744) (by decide +kernel)⟩
theorem lw_p107 : lw_okq (⟨"AskingCourtModel", "isQuestion", "(I)Z"⟩, 48) := ⟨⟨by decide +kernel, by decide +kernel⟩, List.mem_of_getElem? (i := 1297) (by decide +kernel), List.mem_of_getElem? (i := 1755) (by decide +kernel), List.mem_of_getElem? (i := 1756) (by decide +kernel)⟩
theorem lw_p108 : lw_okq (⟨"AskingCourtModel", "isIn", "(II)Z"⟩, 48) := ⟨⟨by decide +kernel, by decide +kernel⟩, List.mem_of_getElem? (i := 1297) (by decide +kernel), List.mem_of_getElem? (i := 1759) (by decide +kernel), List.mem_of_getElem? (i := 1760) (by decide +kernel)⟩
theorem lw_p109 : lw_okq (⟨"AskingCourtModel", "isWitness", "(I)Z"⟩, 48) := ⟨⟨by decide +kernel, by decide +kernel⟩, List.mem_of_getElem? (i := 1297) (by decide +kernel), List.mem_of_getElem? (i := 1771) (by decide +kernel), List.mem_of_getElem? (i := 1772) (by decide +kernel)⟩
theorem lw_p110 : lw_okq (⟨"AskingCourtModel", "saysAs", "(IIII)I"⟩, 48) := ⟨⟨by decide +kernel, by decide +kernel⟩, List.mem_of_getElem? (i := 1297) (by decide +kernel), List.mem_of_getElem? (i := 1782) (by decide +kernel), List.mem_of_getElem? (i := 1783) (by decide +kernel)⟩
theorem lw_p111 : lw_okq (⟨"AskingCourtModel", "hears", "(III)V"⟩, 48) := ⟨⟨by decide +kernel, by decide +kernel⟩, List.mem_of_getElem? (i := 1297) (by decide +kernel), List.mem_of_getElem? (i := 1790) (by decide +kernel), List.mem_of_getElem? (i := 1791) (by decide +kernel)⟩
def lw_privs_7 : List (MethodName × Nat) := [(⟨"AskingCourtModel", "several", "(III)Z"⟩, 48), (⟨"AskingCourtModel", "wantSign", "(I)Z"⟩, 48), (⟨"AskingCourtModel", "size", "(I)I"⟩, 48), (⟨"AskingCourtModel", "taken", "(I)I"⟩, 48), (⟨"AskingCourtModel", "gives", "(I)I"⟩, 48), (⟨"AskingCourtModel", "step", "()Z"⟩, 48), (⟨"AskingCourtModel", "name", "(III)Z"⟩, 48), (⟨"AskingCourtModel", "aTest", "(I)Z"⟩, 48), (⟨"AskingCourtModel", "putToday", "()I"⟩, 48), (⟨"AskingCourtModel", "ofHeard", "(II)I"⟩, 48), (⟨"AskingCourtModel", "isWorld", "(I)Z"⟩, 48), (⟨"AskingCourtModel", "isQuestion", "(I)Z"⟩, 48), (⟨"AskingCourtModel", "isIn", "(II)Z"⟩, 48), (⟨"AskingCourtModel", "isWitness", "(I)Z"⟩, 48), (⟨"AskingCourtModel", "saysAs", "(IIII)I"⟩, 48), (⟨"AskingCourtModel", "hears", "(III)V"⟩, 48)]
theorem lw_r7 : ∀ q ∈ lw_privs_7, lw_okq q := List.forall_mem_cons.mpr ⟨lw_p96, List.forall_mem_cons.mpr ⟨lw_p97, List.forall_mem_cons.mpr ⟨lw_p98, List.forall_mem_cons.mpr ⟨lw_p99, List.forall_mem_cons.mpr ⟨lw_p100, List.forall_mem_cons.mpr ⟨lw_p101, List.forall_mem_cons.mpr ⟨lw_p102, List.forall_mem_cons.mpr ⟨lw_p103, List.forall_mem_cons.mpr ⟨lw_p104, List.forall_mem_cons.mpr ⟨lw_p105, List.forall_mem_cons.mpr ⟨lw_p106, List.forall_mem_cons.mpr ⟨lw_p107, List.forall_mem_cons.mpr ⟨lw_p108, List.forall_mem_cons.mpr ⟨lw_p109, List.forall_mem_cons.mpr ⟨lw_p110, List.forall_mem_cons.mpr ⟨lw_p111, fun _ h => absurd h List.not_mem_nil⟩⟩⟩⟩⟩⟩⟩⟩⟩⟩⟩⟩⟩⟩⟩⟩
theorem lw_p112 : lw_okq (⟨"AskingCourtModel", "fitsAll", "()V"⟩, 48) := ⟨⟨by decide +kernel, by decide +kernel⟩, List.mem_of_getElem? (i := 1297) (by decide +kernel), List.mem_of_getElem? (i := 1810) (by decide +kernel), List.mem_of_getElem? (i := 1811) (by decide +kernel)⟩
theorem lw_p113 : lw_okq (⟨"AskingCourtModel", "fitsBy", "(I)V"⟩, 48) := ⟨⟨by decide +kernel, by decide +kernel⟩, List.mem_of_getElem? (i := 1297) (by decide +kernel), List.mem_of_getElem? (i := 1814) (by decide +kernel), List.mem_of_getElem? (i := 1815) (by decide +kernel)⟩
theorem lw_p114 : lw_okq (⟨"AskingCourtModel", "mayBe", "(I)I"⟩, 48) := ⟨⟨by decide +kernel, by decide +kernel⟩, List.mem_of_getElem? (i := 1297) (by decide +kernel), List.mem_of_getElem? (i := 1818) (by decide +kernel), List.mem_of_getElem? (i := 1819) (by decide +kernel)⟩
theorem lw_p115 : lw_okq (⟨"AskingCourtModel", "kindsFor", "(IIII)I"⟩, 48) := ⟨⟨by decide +kernel, by decide +kernel⟩, List.mem_of_getElem? (i := 1297) (by decide +kernel), List.mem_of_getElem? (i := 1822) (by decide +kernel), List.mem_of_getElem? (i := 1823) (by decide +kernel)⟩
theorem lw_p116 : lw_okq (⟨"AskingCourtModel", "leftAt", "(I)I"⟩, 48) := ⟨⟨by decide +kernel, by decide +kernel⟩, List.mem_of_getElem? (i := 1297) (by decide +kernel), List.mem_of_getElem? (i := 1826) (by decide +kernel), List.mem_of_getElem? (i := 1827) (by decide +kernel)⟩
theorem lw_p117 : lw_okq (⟨"AskingCourtModel", "isLeftAt", "(II)Z"⟩, 48) := ⟨⟨by decide +kernel, by decide +kernel⟩, List.mem_of_getElem? (i := 1297) (by decide +kernel), List.mem_of_getElem? (i := 1830) (by decide +kernel), List.mem_of_getElem? (i := 1831) (by decide +kernel)⟩
theorem lw_p118 : lw_okq (⟨"AskingCourtModel", "sureAt", "(II)I"⟩, 48) := ⟨⟨by decide +kernel, by decide +kernel⟩, List.mem_of_getElem? (i := 1297) (by decide +kernel), List.mem_of_getElem? (i := 1846) (by decide +kernel), List.mem_of_getElem? (i := 1847) (by decide +kernel)⟩
theorem lw_p119 : lw_okq (⟨"AskingCourtModel", "weightAll", "(III)J"⟩, 48) := ⟨⟨by decide +kernel, by decide +kernel⟩, List.mem_of_getElem? (i := 1297) (by decide +kernel), List.mem_of_getElem? (i := 1854) (by decide +kernel), List.mem_of_getElem? (i := 1855) (by decide +kernel)⟩
theorem lw_p120 : lw_okq (⟨"AskingCourtModel", "weightBy", "(III)J"⟩, 48) := ⟨⟨by decide +kernel, by decide +kernel⟩, List.mem_of_getElem? (i := 1297) (by decide +kernel), List.mem_of_getElem? (i := 1858) (by decide +kernel), List.mem_of_getElem? (i := 1859) (by decide +kernel)⟩
theorem lw_p121 : lw_okq (⟨"AskingCourtModel", "weightOf", "(I)J"⟩, 48) := ⟨⟨by decide +kernel, by decide +kernel⟩, List.mem_of_getElem? (i := 1297) (by decide +kernel), List.mem_of_getElem? (i := 1862) (by decide +kernel), List.mem_of_getElem? (i := 1863) (by decide +kernel)⟩
theorem lw_p122 : lw_okq (⟨"AskingCourtModel", "tellsBy", "(JJ)Z"⟩, 48) := ⟨⟨by decide +kernel, by decide +kernel⟩, List.mem_of_getElem? (i := 1297) (by decide +kernel), List.mem_of_getElem? (i := 1866) (by decide +kernel), List.mem_of_getElem? (i := 1867) (by decide +kernel)⟩
theorem lw_p123 : lw_okq (⟨"AskingCourtModel", "isSureBy", "(III)Z"⟩, 48) := ⟨⟨by decide +kernel, by decide +kernel⟩, List.mem_of_getElem? (i := 1297) (by decide +kernel), List.mem_of_getElem? (i := 1881) (by decide +kernel), List.mem_of_getElem? (i := 1882) (by decide +kernel)⟩
theorem lw_p124 : lw_okq (⟨"AskingCourtModel", "feesOf", "()I"⟩, 48) := ⟨⟨by decide +kernel, by decide +kernel⟩, List.mem_of_getElem? (i := 1297) (by decide +kernel), List.mem_of_getElem? (i := 1893) (by decide +kernel), List.mem_of_getElem? (i := 1894) (by decide +kernel)⟩
theorem lw_p125 : lw_okq (⟨"AskingCourtModel", "worstOf", "(II)I"⟩, 48) := ⟨⟨by decide +kernel, by decide +kernel⟩, List.mem_of_getElem? (i := 1297) (by decide +kernel), List.mem_of_getElem? (i := 1901) (by decide +kernel), List.mem_of_getElem? (i := 1902) (by decide +kernel)⟩
theorem lw_p126 : lw_okq (⟨"AskingCourtModel", "answered", "(IIII)I"⟩, 48) := ⟨⟨by decide +kernel, by decide +kernel⟩, List.mem_of_getElem? (i := 1297) (by decide +kernel), List.mem_of_getElem? (i := 1905) (by decide +kernel), List.mem_of_getElem? (i := 1906) (by decide +kernel)⟩
theorem lw_p127 : lw_okq (⟨"AskingCourtModel", "bestOf", "(I)I"⟩, 48) := ⟨⟨by decide +kernel, by decide +kernel⟩, List.mem_of_getElem? (i := 1297) (by decide +kernel), List.mem_of_getElem? (i := 1914) (by decide +kernel), List.mem_of_getElem? (i := 1915) (by decide +kernel)⟩
def lw_privs_8 : List (MethodName × Nat) := [(⟨"AskingCourtModel", "fitsAll", "()V"⟩, 48), (⟨"AskingCourtModel", "fitsBy", "(I)V"⟩, 48), (⟨"AskingCourtModel", "mayBe", "(I)I"⟩, 48), (⟨"AskingCourtModel", "kindsFor", "(IIII)I"⟩, 48), (⟨"AskingCourtModel", "leftAt", "(I)I"⟩, 48), (⟨"AskingCourtModel", "isLeftAt", "(II)Z"⟩, 48), (⟨"AskingCourtModel", "sureAt", "(II)I"⟩, 48), (⟨"AskingCourtModel", "weightAll", "(III)J"⟩, 48), (⟨"AskingCourtModel", "weightBy", "(III)J"⟩, 48), (⟨"AskingCourtModel", "weightOf", "(I)J"⟩, 48), (⟨"AskingCourtModel", "tellsBy", "(JJ)Z"⟩, 48), (⟨"AskingCourtModel", "isSureBy", "(III)Z"⟩, 48), (⟨"AskingCourtModel", "feesOf", "()I"⟩, 48), (⟨"AskingCourtModel", "worstOf", "(II)I"⟩, 48), (⟨"AskingCourtModel", "answered", "(IIII)I"⟩, 48), (⟨"AskingCourtModel", "bestOf", "(I)I"⟩, 48)]
theorem lw_r8 : ∀ q ∈ lw_privs_8, lw_okq q := List.forall_mem_cons.mpr ⟨lw_p112, List.forall_mem_cons.mpr ⟨lw_p113, List.forall_mem_cons.mpr ⟨lw_p114, List.forall_mem_cons.mpr ⟨lw_p115, List.forall_mem_cons.mpr ⟨lw_p116, List.forall_mem_cons.mpr ⟨lw_p117, List.forall_mem_cons.mpr ⟨lw_p118, List.forall_mem_cons.mpr ⟨lw_p119, List.forall_mem_cons.mpr ⟨lw_p120, List.forall_mem_cons.mpr ⟨lw_p121, List.forall_mem_cons.mpr ⟨lw_p122, List.forall_mem_cons.mpr ⟨lw_p123, List.forall_mem_cons.mpr ⟨lw_p124, List.forall_mem_cons.mpr ⟨lw_p125, List.forall_mem_cons.mpr ⟨lw_p126, List.forall_mem_cons.mpr ⟨lw_p127, fun _ h => absurd h List.not_mem_nil⟩⟩⟩⟩⟩⟩⟩⟩⟩⟩⟩⟩⟩⟩⟩⟩
theorem lw_p128 : lw_okq (⟨"AskingCourtModel", "areEnough", "(III)Z"⟩, 48) := ⟨⟨by decide +kernel, by decide +kernel⟩, List.mem_of_getElem? (i := 1297) (by decide +kernel), List.mem_of_getElem? (i := 1922) (by decide +kernel), List.mem_of_getElem? (i := 1923) (by decide +kernel)⟩
theorem lw_p129 : lw_okq (⟨"AskingCourtModel", "isAsked", "(II)Z"⟩, 48) := ⟨⟨by decide +kernel, by decide +kernel⟩, List.mem_of_getElem? (i := 1297) (by decide +kernel), List.mem_of_getElem? (i := 1926) (by decide +kernel), List.mem_of_getElem? (i := 1927) (by decide +kernel)⟩
theorem lw_p130 : lw_okq (⟨"AskingCourtModel", "oneIs", "(IIII)Z"⟩, 48) := ⟨⟨by decide +kernel, by decide +kernel⟩, List.mem_of_getElem? (i := 1297) (by decide +kernel), List.mem_of_getElem? (i := 1930) (by decide +kernel), List.mem_of_getElem? (i := 1931) (by decide +kernel)⟩
theorem lw_p131 : lw_okq (⟨"AskingCourtModel", "twoAre", "(IIIII)Z"⟩, 48) := ⟨⟨by decide +kernel, by decide +kernel⟩, List.mem_of_getElem? (i := 1297) (by decide +kernel), List.mem_of_getElem? (i := 1934) (by decide +kernel), List.mem_of_getElem? (i := 1935) (by decide +kernel)⟩
theorem lw_p132 : lw_okq (⟨"AskingCourtModel", "byOne", "(III)Z"⟩, 48) := ⟨⟨by decide +kernel, by decide +kernel⟩, List.mem_of_getElem? (i := 1297) (by decide +kernel), List.mem_of_getElem? (i := 1938) (by decide +kernel), List.mem_of_getElem? (i := 1939) (by decide +kernel)⟩
theorem lw_p133 : lw_okq (⟨"AskingCourtModel", "threeAre", "(IIII)Z"⟩, 48) := ⟨⟨by decide +kernel, by decide +kernel⟩, List.mem_of_getElem? (i := 1297) (by decide +kernel), List.mem_of_getElem? (i := 1942) (by decide +kernel), List.mem_of_getElem? (i := 1943) (by decide +kernel)⟩
theorem lw_p134 : lw_okq (⟨"AskingCourtModel", "byTwo", "(III)Z"⟩, 48) := ⟨⟨by decide +kernel, by decide +kernel⟩, List.mem_of_getElem? (i := 1297) (by decide +kernel), List.mem_of_getElem? (i := 1946) (by decide +kernel), List.mem_of_getElem? (i := 1947) (by decide +kernel)⟩
theorem lw_p135 : lw_okq (⟨"AskingCourtModel", "benchBy", "(I)I"⟩, 48) := ⟨⟨by decide +kernel, by decide +kernel⟩, List.mem_of_getElem? (i := 1297) (by decide +kernel), List.mem_of_getElem? (i := 1962) (by decide +kernel), List.mem_of_getElem? (i := 1963) (by decide +kernel)⟩
theorem lw_p136 : lw_okq (⟨"AskingCourtModel", "answersHonestly", "(II)Z"⟩, 48) := ⟨⟨by decide +kernel, by decide +kernel⟩, List.mem_of_getElem? (i := 1297) (by decide +kernel), List.mem_of_getElem? (i := 1974) (by decide +kernel), List.mem_of_getElem? (i := 1975) (by decide +kernel)⟩
theorem lw_p137 : lw_okq (⟨"AskingCourtModel", "canSit", "()Z"⟩, 48) := ⟨⟨by decide +kernel, by decide +kernel⟩, List.mem_of_getElem? (i := 1297) (by decide +kernel), List.mem_of_getElem? (i := 1986) (by decide +kernel), List.mem_of_getElem? (i := 1987) (by decide +kernel)⟩
theorem lw_p138 : lw_okq (⟨"AskingCourtModel", "sits", "(I)V"⟩, 48) := ⟨⟨by decide +kernel, by decide +kernel⟩, List.mem_of_getElem? (i := 1297) (by decide +kernel), List.mem_of_getElem? (i := 1990) (by decide +kernel), List.mem_of_getElem? (i := 1991) (by decide +kernel)⟩
theorem lw_p139 : lw_okq (⟨"AskingCourtModel", "drawsTruth", "()V"⟩, 48) := ⟨⟨by decide +kernel, by decide +kernel⟩, List.mem_of_getElem? (i := 1297) (by decide +kernel), List.mem_of_getElem? (i := 1994) (by decide +kernel), List.mem_of_getElem? (i := 1995) (by decide +kernel)⟩
theorem lw_p140 : lw_okq (⟨"AskingCourtModel", "draw", "(J)I"⟩, 48) := ⟨⟨by decide +kernel, by decide +kernel⟩, List.mem_of_getElem? (i := 1297) (by decide +kernel), List.mem_of_getElem? (i := 1998) (by decide +kernel), List.mem_of_getElem? (i := 1999) (by decide +kernel)⟩
theorem lw_p141 : lw_okq (⟨"AskingCourtModel", "doesStep", "(I)I"⟩, 48) := ⟨⟨by decide +kernel, by decide +kernel⟩, List.mem_of_getElem? (i := 1297) (by decide +kernel), List.mem_of_getElem? (i := 2004) (by decide +kernel), List.mem_of_getElem? (i := 2005) (by decide +kernel)⟩
theorem lw_p142 : lw_okq (⟨"AskingCourtModel", "puts", "(II)V"⟩, 48) := ⟨⟨by decide +kernel, by decide +kernel⟩, List.mem_of_getElem? (i := 1297) (by decide +kernel), List.mem_of_getElem? (i := 2008) (by decide +kernel), List.mem_of_getElem? (i := 2009) (by decide +kernel)⟩
theorem lw_p143 : lw_okq (⟨"AskingCourtModel", "rules", "(I)V"⟩, 48) := ⟨⟨by decide +kernel, by decide +kernel⟩, List.mem_of_getElem? (i := 1297) (by decide +kernel), List.mem_of_getElem? (i := 2012) (by decide +kernel), List.mem_of_getElem? (i := 2013) (by decide +kernel)⟩
def lw_privs_9 : List (MethodName × Nat) := [(⟨"AskingCourtModel", "areEnough", "(III)Z"⟩, 48), (⟨"AskingCourtModel", "isAsked", "(II)Z"⟩, 48), (⟨"AskingCourtModel", "oneIs", "(IIII)Z"⟩, 48), (⟨"AskingCourtModel", "twoAre", "(IIIII)Z"⟩, 48), (⟨"AskingCourtModel", "byOne", "(III)Z"⟩, 48), (⟨"AskingCourtModel", "threeAre", "(IIII)Z"⟩, 48), (⟨"AskingCourtModel", "byTwo", "(III)Z"⟩, 48), (⟨"AskingCourtModel", "benchBy", "(I)I"⟩, 48), (⟨"AskingCourtModel", "answersHonestly", "(II)Z"⟩, 48), (⟨"AskingCourtModel", "canSit", "()Z"⟩, 48), (⟨"AskingCourtModel", "sits", "(I)V"⟩, 48), (⟨"AskingCourtModel", "drawsTruth", "()V"⟩, 48), (⟨"AskingCourtModel", "draw", "(J)I"⟩, 48), (⟨"AskingCourtModel", "doesStep", "(I)I"⟩, 48), (⟨"AskingCourtModel", "puts", "(II)V"⟩, 48), (⟨"AskingCourtModel", "rules", "(I)V"⟩, 48)]
theorem lw_r9 : ∀ q ∈ lw_privs_9, lw_okq q := List.forall_mem_cons.mpr ⟨lw_p128, List.forall_mem_cons.mpr ⟨lw_p129, List.forall_mem_cons.mpr ⟨lw_p130, List.forall_mem_cons.mpr ⟨lw_p131, List.forall_mem_cons.mpr ⟨lw_p132, List.forall_mem_cons.mpr ⟨lw_p133, List.forall_mem_cons.mpr ⟨lw_p134, List.forall_mem_cons.mpr ⟨lw_p135, List.forall_mem_cons.mpr ⟨lw_p136, List.forall_mem_cons.mpr ⟨lw_p137, List.forall_mem_cons.mpr ⟨lw_p138, List.forall_mem_cons.mpr ⟨lw_p139, List.forall_mem_cons.mpr ⟨lw_p140, List.forall_mem_cons.mpr ⟨lw_p141, List.forall_mem_cons.mpr ⟨lw_p142, List.forall_mem_cons.mpr ⟨lw_p143, fun _ h => absurd h List.not_mem_nil⟩⟩⟩⟩⟩⟩⟩⟩⟩⟩⟩⟩⟩⟩⟩⟩
theorem lw_p144 : lw_okq (⟨"AskingCourtModel", "holdsNow", "(I)Z"⟩, 48) := ⟨⟨by decide +kernel, by decide +kernel⟩, List.mem_of_getElem? (i := 1297) (by decide +kernel), List.mem_of_getElem? (i := 2017) (by decide +kernel), List.mem_of_getElem? (i := 2018) (by decide +kernel)⟩
theorem lw_p145 : lw_okq (⟨"AskingCourtModel", "copies", "(II)V"⟩, 48) := ⟨⟨by decide +kernel, by decide +kernel⟩, List.mem_of_getElem? (i := 1297) (by decide +kernel), List.mem_of_getElem? (i := 2034) (by decide +kernel), List.mem_of_getElem? (i := 2035) (by decide +kernel)⟩
def lw_privs_10 : List (MethodName × Nat) := [(⟨"AskingCourtModel", "holdsNow", "(I)Z"⟩, 48), (⟨"AskingCourtModel", "copies", "(II)V"⟩, 48)]
theorem lw_r10 : ∀ q ∈ lw_privs_10, lw_okq q := List.forall_mem_cons.mpr ⟨lw_p144, List.forall_mem_cons.mpr ⟨lw_p145, fun _ h => absurd h List.not_mem_nil⟩⟩
def lw_privs : List (MethodName × Nat) := lw_privs_1 ++ (lw_privs_2 ++ (lw_privs_3 ++ (lw_privs_4 ++ (lw_privs_5 ++ (lw_privs_6 ++ (lw_privs_7 ++ (lw_privs_8 ++ (lw_privs_9 ++ (lw_privs_10)))))))))
def lw_tbl : List Cond := k2_sels lw_privs ++ tables_1
theorem lw_privs_ok : ∀ q ∈ lw_privs, lw_okq q := by
  show ∀ q ∈ lw_privs_1 ++ (lw_privs_2 ++ (lw_privs_3 ++ (lw_privs_4 ++ (lw_privs_5 ++ (lw_privs_6 ++ (lw_privs_7 ++ (lw_privs_8 ++ (lw_privs_9 ++ (lw_privs_10))))))))), lw_okq q
  exact List.forall_mem_append.mpr ⟨lw_r1, List.forall_mem_append.mpr ⟨lw_r2, List.forall_mem_append.mpr ⟨lw_r3, List.forall_mem_append.mpr ⟨lw_r4, List.forall_mem_append.mpr ⟨lw_r5, List.forall_mem_append.mpr ⟨lw_r6, List.forall_mem_append.mpr ⟨lw_r7, List.forall_mem_append.mpr ⟨lw_r8, List.forall_mem_append.mpr ⟨lw_r9, lw_r10⟩⟩⟩⟩⟩⟩⟩⟩⟩
def RX0 : String := "AskingCourt$AnswerMaker"
def TX0 : u_T := fun k => match k with
  | 0 => ("AskingCourt$AnswerMaker", "holdAll", "[I", true)
  | 1 => ("AskingCourt$AnswerMaker", "holdSome", "[I", true)
  | 2 => ("AskingCourt$AnswerMaker", "meeting", "[I", true)
  | 3 => ("AskingCourt$AnswerMaker", "leaving", "[I", true)
  | _ => ("AskingCourt$AnswerMaker", "notEverything", "I", false)
def tyX0 : Nat → FieldType := fun k => match k with
  | 0 => .array .int
  | 1 => .array .int
  | 2 => .array .int
  | 3 => .array .int
  | _ => .int
abbrev wsX00 : List Cond := u_ws RX0 TX0 5
theorem nmX0 : ∀ a, a < 5 → ∀ b, b < 5 → a ≠ b → (TX0 a).2.1 ≠ (TX0 b).2.1 := by decide +kernel
theorem tyX0_ok : ∀ k, k < 5 → parseFieldDescriptor (TX0 k).2.2.1 = some (tyX0 k) := by decide +kernel
abbrev cX0_init : ByteArray := prog_2_method_1_code
def yX0_init : MethodName := ⟨RX0, "<init>", "()V"⟩
abbrev cX0_fillAnswers : ByteArray := prog_2_method_2_code
def yX0_fillAnswers : MethodName := ⟨RX0, "fillAnswers", "(LAskingCourt$Case;)V"⟩
abbrev cX0_relateSayings : ByteArray := prog_2_method_3_code
def yX0_relateSayings : MethodName := ⟨RX0, "relateSayings", "(LAskingCourt$Case;)V"⟩
abbrev cX0_gatherKnown : ByteArray := prog_2_method_4_code
def yX0_gatherKnown : MethodName := ⟨RX0, "gatherKnown", "(LAskingCourt$Case;I)V"⟩
abbrev cX0_knownIn : ByteArray := prog_2_method_5_code
def yX0_knownIn : MethodName := ⟨RX0, "knownIn", "(LAskingCourt$Case;II)I"⟩
abbrev cX0_fillWorld : ByteArray := prog_2_method_6_code
def yX0_fillWorld : MethodName := ⟨RX0, "fillWorld", "(LAskingCourt$Case;II)V"⟩
abbrev cX0_honestTo : ByteArray := prog_2_method_7_code
def yX0_honestTo : MethodName := ⟨RX0, "honestTo", "(II)I"⟩
abbrev cX0_otherThan : ByteArray := prog_2_method_8_code
def yX0_otherThan : MethodName := ⟨RX0, "otherThan", "(I)I"⟩
abbrev cX0_sayingsOf : ByteArray := prog_2_method_9_code
def yX0_sayingsOf : MethodName := ⟨RX0, "sayingsOf", "(II)I"⟩
abbrev cX0_firstOr : ByteArray := prog_2_method_10_code
def yX0_firstOr : MethodName := ⟨RX0, "firstOr", "(II)I"⟩
def RX1 : String := "AskingCourt$Case"
def TX1 : u_T := fun k => match k with
  | 0 => ("AskingCourt$Case", "names", "LAskingCourt$Names;", true)
  | 1 => ("AskingCourt$Case", "firstValue", "[I", true)
  | 2 => ("AskingCourt$Case", "stride", "[I", true)
  | 3 => ("AskingCourt$Case", "valueFact", "[I", true)
  | 4 => ("AskingCourt$Case", "valueWeight", "[I", true)
  | 5 => ("AskingCourt$Case", "weight", "[I", true)
  | 6 => ("AskingCourt$Case", "questionsWith", "[I", true)
  | 7 => ("AskingCourt$Case", "fee", "[I", true)
  | 8 => ("AskingCourt$Case", "sixteenths", "[I", true)
  | 9 => ("AskingCourt$Case", "knows", "[I", true)
  | 10 => ("AskingCourt$Case", "hides", "[I", true)
  | 11 => ("AskingCourt$Case", "answers", "[I", true)
  | 12 => ("AskingCourt$Case", "facts", "I", false)
  | 13 => ("AskingCourt$Case", "values", "I", false)
  | 14 => ("AskingCourt$Case", "worlds", "I", false)
  | 15 => ("AskingCourt$Case", "possible", "I", false)
  | 16 => ("AskingCourt$Case", "questions", "I", false)
  | 17 => ("AskingCourt$Case", "witnesses", "I", false)
  | _ => ("AskingCourt$Case", "may", "I", false)
def tyX1 : Nat → FieldType := fun k => match k with
  | 0 => .object "AskingCourt$Names"
  | 1 => .array .int
  | 2 => .array .int
  | 3 => .array .int
  | 4 => .array .int
  | 5 => .array .int
  | 6 => .array .int
  | 7 => .array .int
  | 8 => .array .int
  | 9 => .array .int
  | 10 => .array .int
  | 11 => .array .int
  | 12 => .int
  | 13 => .int
  | 14 => .int
  | 15 => .int
  | 16 => .int
  | 17 => .int
  | _ => .int
abbrev wsX10 : List Cond := u_ws RX1 TX1 19
theorem nmX1 : ∀ a, a < 19 → ∀ b, b < 19 → a ≠ b → (TX1 a).2.1 ≠ (TX1 b).2.1 := by decide +kernel
theorem tyX1_ok : ∀ k, k < 19 → parseFieldDescriptor (TX1 k).2.2.1 = some (tyX1 k) := by decide +kernel
abbrev cX1_init : ByteArray := prog_3_method_1_code
def yX1_init : MethodName := ⟨RX1, "<init>", "()V"⟩
abbrev cX1_clear : ByteArray := prog_3_method_2_code
def yX1_clear : MethodName := ⟨RX1, "clear", "()V"⟩
abbrev cX1_valueIn : ByteArray := prog_3_method_3_code
def yX1_valueIn : MethodName := ⟨RX1, "valueIn", "(II)I"⟩
abbrev cX1_canBe : ByteArray := prog_3_method_4_code
def yX1_canBe : MethodName := ⟨RX1, "canBe", "(I)Z"⟩
abbrev cX1_inQuestion : ByteArray := prog_3_method_5_code
def yX1_inQuestion : MethodName := ⟨RX1, "inQuestion", "(II)I"⟩
abbrev cX1_makeWorlds : ByteArray := prog_3_method_6_code
def yX1_makeWorlds : MethodName := ⟨RX1, "makeWorlds", "([I)V"⟩
abbrev cX1_weigh : ByteArray := prog_3_method_7_code
def yX1_weigh : MethodName := ⟨RX1, "weigh", "(I[I)I"⟩
abbrev cX1_keepAnswers : ByteArray := prog_3_method_8_code
def yX1_keepAnswers : MethodName := ⟨RX1, "keepAnswers", "(IIII)V"⟩
abbrev cX1_packedAnswers : ByteArray := prog_3_method_9_code
def yX1_packedAnswers : MethodName := ⟨RX1, "packedAnswers", "(III)I"⟩
abbrev cX1_answerOf : ByteArray := prog_3_method_10_code
def yX1_answerOf : MethodName := ⟨RX1, "answerOf", "(II)I"⟩
abbrev cX1_kindsAnswering : ByteArray := prog_3_method_11_code
def yX1_kindsAnswering : MethodName := ⟨RX1, "kindsAnswering", "(II)I"⟩
abbrev cX1_answersOf : ByteArray := prog_3_method_12_code
def yX1_answersOf : MethodName := ⟨RX1, "answersOf", "(II)I"⟩
def RX2 : String := "AskingCourt$CaseReader"
def TX2 : u_T := fun k => match k with
  | 0 => ("AskingCourt$CaseReader", "lexer", "LAskingCourt$Lexer;", true)
  | 1 => ("AskingCourt$CaseReader", "answerMaker", "LAskingCourt$AnswerMaker;", true)
  | 2 => ("AskingCourt$CaseReader", "never", "[I", true)
  | 3 => ("AskingCourt$CaseReader", "valueSets", "[J", true)
  | 4 => ("AskingCourt$CaseReader", "all", "[J", true)
  | 5 => ("AskingCourt$CaseReader", "sets", "[J", true)
  | 6 => ("AskingCourt$CaseReader", "file", "LAskingCourt$Case;", false)
  | _ => ("AskingCourt$CaseReader", "worldsMade", "Z", false)
def tyX2 : Nat → FieldType := fun k => match k with
  | 0 => .object "AskingCourt$Lexer"
  | 1 => .object "AskingCourt$AnswerMaker"
  | 2 => .array .int
  | 3 => .array .long
  | 4 => .array .long
  | 5 => .array .long
  | 6 => .object "AskingCourt$Case"
  | _ => .boolean
abbrev wsX20 : List Cond := u_ws RX2 TX2 8
theorem nmX2 : ∀ a, a < 8 → ∀ b, b < 8 → a ≠ b → (TX2 a).2.1 ≠ (TX2 b).2.1 := by decide +kernel
theorem tyX2_ok : ∀ k, k < 8 → parseFieldDescriptor (TX2 k).2.2.1 = some (tyX2 k) := by decide +kernel
abbrev cX2_init : ByteArray := prog_4_method_1_code
def yX2_init : MethodName := ⟨RX2, "<init>", "(LAskingCourt$Lexer;LAskingCourt$Case;)V"⟩
abbrev cX2_readCase : ByteArray := prog_4_method_2_code
def yX2_readCase : MethodName := ⟨RX2, "readCase", "(LAskingCourt$Case;)Z"⟩
abbrev cX2_readFact : ByteArray := prog_4_method_3_code
def yX2_readFact : MethodName := ⟨RX2, "readFact", "()Z"⟩
abbrev cX2_readValue : ByteArray := prog_4_method_4_code
def yX2_readValue : MethodName := ⟨RX2, "readValue", "(I)Z"⟩
abbrev cX2_closeFact : ByteArray := prog_4_method_5_code
def yX2_closeFact : MethodName := ⟨RX2, "closeFact", "()Z"⟩
abbrev cX2_readNever : ByteArray := prog_4_method_6_code
def yX2_readNever : MethodName := ⟨RX2, "readNever", "()Z"⟩
abbrev cX2_readQuestion : ByteArray := prog_4_method_7_code
def yX2_readQuestion : MethodName := ⟨RX2, "readQuestion", "()Z"⟩
abbrev cX2_readWitness : ByteArray := prog_4_method_8_code
def yX2_readWitness : MethodName := ⟨RX2, "readWitness", "()Z"⟩
abbrev cX2_takeNames : ByteArray := prog_4_method_9_code
def yX2_takeNames : MethodName := ⟨RX2, "takeNames", "(II)I"⟩
abbrev cX2_readKinds : ByteArray := prog_4_method_10_code
def yX2_readKinds : MethodName := ⟨RX2, "readKinds", "(I)Z"⟩
abbrev cX2_isKind : ByteArray := prog_4_method_11_code
def yX2_isKind : MethodName := ⟨RX2, "isKind", "(I)Z"⟩
abbrev cX2_isNewName : ByteArray := prog_4_method_12_code
def yX2_isNewName : MethodName := ⟨RX2, "isNewName", "()Z"⟩
abbrev cX2_takeNewName : ByteArray := prog_4_method_13_code
def yX2_takeNewName : MethodName := ⟨RX2, "takeNewName", "(II)Z"⟩
abbrev cX2_makeWorldsOnce : ByteArray := prog_4_method_14_code
def yX2_makeWorldsOnce : MethodName := ⟨RX2, "makeWorldsOnce", "()V"⟩
abbrev cX2_readEither : ByteArray := prog_4_method_15_code
def yX2_readEither : MethodName := ⟨RX2, "readEither", "(I)Z"⟩
abbrev cX2_readBoth : ByteArray := prog_4_method_16_code
def yX2_readBoth : MethodName := ⟨RX2, "readBoth", "(I)Z"⟩
abbrev cX2_readOne : ByteArray := prog_4_method_17_code
def yX2_readOne : MethodName := ⟨RX2, "readOne", "(I)Z"⟩
def RX3 : String := "AskingCourt$Hearing"
def TX3 : u_T := fun k => match k with
  | 0 => ("AskingCourt$Hearing", "minutes", "LAskingCourt$Minutes;", true)
  | 1 => ("AskingCourt$Hearing", "fit", "[I", true)
  | 2 => ("AskingCourt$Hearing", "alive", "[I", true)
  | 3 => ("AskingCourt$Hearing", "behindAnswer", "[I", true)
  | 4 => ("AskingCourt$Hearing", "file", "LAskingCourt$Case;", false)
  | 5 => ("AskingCourt$Hearing", "living", "I", false)
  | _ => ("AskingCourt$Hearing", "put", "I", false)
def tyX3 : Nat → FieldType := fun k => match k with
  | 0 => .object "AskingCourt$Minutes"
  | 1 => .array .int
  | 2 => .array .int
  | 3 => .array .int
  | 4 => .object "AskingCourt$Case"
  | 5 => .int
  | _ => .int
abbrev wsX30 : List Cond := u_ws RX3 TX3 7
theorem nmX3 : ∀ a, a < 7 → ∀ b, b < 7 → a ≠ b → (TX3 a).2.1 ≠ (TX3 b).2.1 := by decide +kernel
theorem tyX3_ok : ∀ k, k < 7 → parseFieldDescriptor (TX3 k).2.2.1 = some (tyX3 k) := by decide +kernel
abbrev cX3_init : ByteArray := prog_5_method_1_code
def yX3_init : MethodName := ⟨RX3, "<init>", "(LAskingCourt$Case;)V"⟩
abbrev cX3_begin : ByteArray := prog_5_method_2_code
def yX3_begin : MethodName := ⟨RX3, "begin", "(LAskingCourt$Case;)V"⟩
abbrev cX3_resume : ByteArray := prog_5_method_3_code
def yX3_resume : MethodName := ⟨RX3, "resume", "(LAskingCourt$Case;LAskingCourt$Minutes;)V"⟩
abbrev cX3_enter : ByteArray := prog_5_method_4_code
def yX3_enter : MethodName := ⟨RX3, "enter", "(III)V"⟩
abbrev cX3_strike : ByteArray := prog_5_method_5_code
def yX3_strike : MethodName := ⟨RX3, "strike", "()V"⟩
abbrev cX3_rebuild : ByteArray := prog_5_method_6_code
def yX3_rebuild : MethodName := ⟨RX3, "rebuild", "()V"⟩
abbrev cX3_narrow : ByteArray := prog_5_method_7_code
def yX3_narrow : MethodName := ⟨RX3, "narrow", "(I)V"⟩
abbrev cX3_agreeing : ByteArray := prog_5_method_8_code
def yX3_agreeing : MethodName := ⟨RX3, "agreeing", "(II)I"⟩
abbrev cX3_kindsLeft : ByteArray := prog_5_method_9_code
def yX3_kindsLeft : MethodName := ⟨RX3, "kindsLeft", "(II)I"⟩
abbrev cX3_lives : ByteArray := prog_5_method_10_code
def yX3_lives : MethodName := ⟨RX3, "lives", "(I)Z"⟩
abbrev cX3_wasPut : ByteArray := prog_5_method_11_code
def yX3_wasPut : MethodName := ⟨RX3, "wasPut", "(I)Z"⟩
abbrev cX3_certainty : ByteArray := prog_5_method_12_code
def yX3_certainty : MethodName := ⟨RX3, "certainty", "(I)I"⟩
abbrev cX3_weightOfAll : ByteArray := prog_5_method_13_code
def yX3_weightOfAll : MethodName := ⟨RX3, "weightOfAll", "()J"⟩
abbrev cX3_weightIn : ByteArray := prog_5_method_14_code
def yX3_weightIn : MethodName := ⟨RX3, "weightIn", "(I)J"⟩
abbrev cX3_weightWith : ByteArray := prog_5_method_15_code
def yX3_weightWith : MethodName := ⟨RX3, "weightWith", "(II)J"⟩
abbrev cX3_weightOf : ByteArray := prog_5_method_16_code
def yX3_weightOf : MethodName := ⟨RX3, "weightOf", "(III)J"⟩
abbrev cX3_takenAwayBy : ByteArray := prog_5_method_17_code
def yX3_takenAwayBy : MethodName := ⟨RX3, "takenAwayBy", "(I)I"⟩
abbrev cX3_costs : ByteArray := prog_5_method_18_code
def yX3_costs : MethodName := ⟨RX3, "costs", "()I"⟩
abbrev cX3_mostLeftBehind : ByteArray := prog_5_method_19_code
def yX3_mostLeftBehind : MethodName := ⟨RX3, "mostLeftBehind", "(II)I"⟩
abbrev cX3_bestFor : ByteArray := prog_5_method_20_code
def yX3_bestFor : MethodName := ⟨RX3, "bestFor", "(I)I"⟩
abbrev cX3_leftIfHonest : ByteArray := prog_5_method_21_code
def yX3_leftIfHonest : MethodName := ⟨RX3, "leftIfHonest", "()I"⟩
abbrev cX3_firstClash : ByteArray := prog_5_method_22_code
def yX3_firstClash : MethodName := ⟨RX3, "firstClash", "()I"⟩
abbrev cX3_firstDoubt : ByteArray := prog_5_method_23_code
def yX3_firstDoubt : MethodName := ⟨RX3, "firstDoubt", "(I)I"⟩
abbrev cX3_neverHonest : ByteArray := prog_5_method_24_code
def yX3_neverHonest : MethodName := ⟨RX3, "neverHonest", "()I"⟩
def RX4 : String := "AskingCourt$Lexer"
def TX4 : u_T := fun k => match k with
  | 0 => ("AskingCourt$Lexer", "tape", "[B", true)
  | 1 => ("AskingCourt$Lexer", "words", "[J", true)
  | 2 => ("AskingCourt$Lexer", "tokens", "[I", true)
  | 3 => ("AskingCourt$Lexer", "places", "[I", true)
  | 4 => ("AskingCourt$Lexer", "numbers", "[I", true)
  | 5 => ("AskingCourt$Lexer", "codes", "[J", true)
  | 6 => ("AskingCourt$Lexer", "taped", "I", false)
  | 7 => ("AskingCourt$Lexer", "length", "I", false)
  | 8 => ("AskingCourt$Lexer", "behind", "I", false)
  | 9 => ("AskingCourt$Lexer", "at", "I", false)
  | 10 => ("AskingCourt$Lexer", "token", "I", false)
  | 11 => ("AskingCourt$Lexer", "name", "J", false)
  | 12 => ("AskingCourt$Lexer", "fault", "I", false)
  | _ => ("AskingCourt$Lexer", "faultPlace", "I", false)
def tyX4 : Nat → FieldType := fun k => match k with
  | 0 => .array .byte
  | 1 => .array .long
  | 2 => .array .int
  | 3 => .array .int
  | 4 => .array .int
  | 5 => .array .long
  | 6 => .int
  | 7 => .int
  | 8 => .int
  | 9 => .int
  | 10 => .int
  | 11 => .long
  | 12 => .int
  | _ => .int
abbrev wsX40 : List Cond := u_ws RX4 TX4 14
theorem nmX4 : ∀ a, a < 14 → ∀ b, b < 14 → a ≠ b → (TX4 a).2.1 ≠ (TX4 b).2.1 := by decide +kernel
theorem tyX4_ok : ∀ k, k < 14 → parseFieldDescriptor (TX4 k).2.2.1 = some (tyX4 k) := by decide +kernel
abbrev cX4_init : ByteArray := prog_6_method_1_code
def yX4_init : MethodName := ⟨RX4, "<init>", "()V"⟩
abbrev cX4_putBytes : ByteArray := prog_6_method_2_code
def yX4_putBytes : MethodName := ⟨RX4, "putBytes", "(I)V"⟩
abbrev cX4_open : ByteArray := prog_6_method_3_code
def yX4_open : MethodName := ⟨RX4, "open", "(I)V"⟩
abbrev cX4_scan : ByteArray := prog_6_method_4_code
def yX4_scan : MethodName := ⟨RX4, "scan", "(I)I"⟩
abbrev cX4_scanWord : ByteArray := prog_6_method_5_code
def yX4_scanWord : MethodName := ⟨RX4, "scanWord", "(I)I"⟩
abbrev cX4_scanNumber : ByteArray := prog_6_method_6_code
def yX4_scanNumber : MethodName := ⟨RX4, "scanNumber", "(I)I"⟩
abbrev cX4_advance : ByteArray := prog_6_method_7_code
def yX4_advance : MethodName := ⟨RX4, "advance", "()V"⟩
abbrev cX4_take : ByteArray := prog_6_method_8_code
def yX4_take : MethodName := ⟨RX4, "take", "(I)Z"⟩
abbrev cX4_takeNumber : ByteArray := prog_6_method_9_code
def yX4_takeNumber : MethodName := ⟨RX4, "takeNumber", "(II)I"⟩
abbrev cX4_seekName : ByteArray := prog_6_method_10_code
def yX4_seekName : MethodName := ⟨RX4, "seekName", "(LAskingCourt$Names;I)I"⟩
abbrev cX4_takeName : ByteArray := prog_6_method_11_code
def yX4_takeName : MethodName := ⟨RX4, "takeName", "(LAskingCourt$Names;I)I"⟩
abbrev cX4_refuseHere : ByteArray := prog_6_method_12_code
def yX4_refuseHere : MethodName := ⟨RX4, "refuseHere", "(I)Z"⟩
abbrev cX4_isBlank : ByteArray := prog_6_method_13_code
def yX4_isBlank : MethodName := ⟨RX4, "isBlank", "(I)Z"⟩
abbrev cX4_isLetter : ByteArray := prog_6_method_14_code
def yX4_isLetter : MethodName := ⟨RX4, "isLetter", "(I)Z"⟩
abbrev cX4_isDigit : ByteArray := prog_6_method_15_code
def yX4_isDigit : MethodName := ⟨RX4, "isDigit", "(I)Z"⟩
abbrev cX4_signOf : ByteArray := prog_6_method_16_code
def yX4_signOf : MethodName := ⟨RX4, "signOf", "(I)I"⟩
abbrev cX4_withLetter : ByteArray := prog_6_method_17_code
def yX4_withLetter : MethodName := ⟨RX4, "withLetter", "(JI)J"⟩
def RX5 : String := "AskingCourt$Mark"
def TX5 : u_T := fun k => match k with
  | 0 => ("AskingCourt$Mark", "plan", "LAskingCourt$Plan;", true)
  | 1 => ("AskingCourt$Mark", "minutes", "LAskingCourt$Minutes;", true)
  | _ => ("AskingCourt$Mark", "file", "LAskingCourt$Case;", false)
def tyX5 : Nat → FieldType := fun k => match k with
  | 0 => .object "AskingCourt$Plan"
  | 1 => .object "AskingCourt$Minutes"
  | _ => .object "AskingCourt$Case"
abbrev wsX50 : List Cond := u_ws RX5 TX5 3
theorem nmX5 : ∀ a, a < 3 → ∀ b, b < 3 → a ≠ b → (TX5 a).2.1 ≠ (TX5 b).2.1 := by decide +kernel
theorem tyX5_ok : ∀ k, k < 3 → parseFieldDescriptor (TX5 k).2.2.1 = some (tyX5 k) := by decide +kernel
abbrev cX5_init : ByteArray := prog_7_method_1_code
def yX5_init : MethodName := ⟨RX5, "<init>", "(LAskingCourt$Case;)V"⟩
abbrev cX5_keep : ByteArray := prog_7_method_2_code
def yX5_keep : MethodName := ⟨RX5, "keep", "(LAskingCourt$Case;LAskingCourt$Plan;LAskingCourt$Minutes;)V"⟩
def RX6 : String := "AskingCourt$Minutes"
def TX6 : u_T := fun k => match k with
  | 0 => ("AskingCourt$Minutes", "who", "[I", true)
  | 1 => ("AskingCourt$Minutes", "asked", "[I", true)
  | 2 => ("AskingCourt$Minutes", "said", "[I", true)
  | 3 => ("AskingCourt$Minutes", "days", "[I", true)
  | 4 => ("AskingCourt$Minutes", "count", "I", false)
  | _ => ("AskingCourt$Minutes", "day", "I", false)
def tyX6 : Nat → FieldType := fun k => match k with
  | 0 => .array .int
  | 1 => .array .int
  | 2 => .array .int
  | 3 => .array .int
  | 4 => .int
  | _ => .int
abbrev wsX60 : List Cond := u_ws RX6 TX6 6
theorem nmX6 : ∀ a, a < 6 → ∀ b, b < 6 → a ≠ b → (TX6 a).2.1 ≠ (TX6 b).2.1 := by decide +kernel
theorem tyX6_ok : ∀ k, k < 6 → parseFieldDescriptor (TX6 k).2.2.1 = some (tyX6 k) := by decide +kernel
abbrev cX6_init : ByteArray := prog_8_method_1_code
def yX6_init : MethodName := ⟨RX6, "<init>", "()V"⟩
abbrev cX6_add : ByteArray := prog_8_method_2_code
def yX6_add : MethodName := ⟨RX6, "add", "(III)V"⟩
abbrev cX6_putToday : ByteArray := prog_8_method_3_code
def yX6_putToday : MethodName := ⟨RX6, "putToday", "()I"⟩
abbrev cX6_copyFrom : ByteArray := prog_8_method_4_code
def yX6_copyFrom : MethodName := ⟨RX6, "copyFrom", "(LAskingCourt$Minutes;)V"⟩
def RX7 : String := "AskingCourt$Names"
def TX7 : u_T := fun k => match k with
  | 0 => ("AskingCourt$Names", "codes", "[J", true)
  | 1 => ("AskingCourt$Names", "sorts", "[I", true)
  | 2 => ("AskingCourt$Names", "numbers", "[I", true)
  | _ => ("AskingCourt$Names", "count", "I", false)
def tyX7 : Nat → FieldType := fun k => match k with
  | 0 => .array .long
  | 1 => .array .int
  | 2 => .array .int
  | _ => .int
abbrev wsX70 : List Cond := u_ws RX7 TX7 4
theorem nmX7 : ∀ a, a < 4 → ∀ b, b < 4 → a ≠ b → (TX7 a).2.1 ≠ (TX7 b).2.1 := by decide +kernel
theorem tyX7_ok : ∀ k, k < 4 → parseFieldDescriptor (TX7 k).2.2.1 = some (tyX7 k) := by decide +kernel
abbrev cX7_init : ByteArray := prog_9_method_1_code
def yX7_init : MethodName := ⟨RX7, "<init>", "()V"⟩
abbrev cX7_add : ByteArray := prog_9_method_2_code
def yX7_add : MethodName := ⟨RX7, "add", "(JII)V"⟩
abbrev cX7_isTaken : ByteArray := prog_9_method_3_code
def yX7_isTaken : MethodName := ⟨RX7, "isTaken", "(J)Z"⟩
abbrev cX7_numberOf : ByteArray := prog_9_method_4_code
def yX7_numberOf : MethodName := ⟨RX7, "numberOf", "(JI)I"⟩
def RX8 : String := "AskingCourt$Plan"
def TX8 : u_T := fun k => match k with
  | 0 => ("AskingCourt$Plan", "what", "[I", true)
  | 1 => ("AskingCourt$Plan", "first", "[I", true)
  | 2 => ("AskingCourt$Plan", "second", "[I", true)
  | 3 => ("AskingCourt$Plan", "behindEnd", "[I", true)
  | 4 => ("AskingCourt$Plan", "opened", "[I", true)
  | 5 => ("AskingCourt$Plan", "open", "I", false)
  | 6 => ("AskingCourt$Plan", "steps", "I", false)
  | _ => ("AskingCourt$Plan", "there", "Z", false)
def tyX8 : Nat → FieldType := fun k => match k with
  | 0 => .array .int
  | 1 => .array .int
  | 2 => .array .int
  | 3 => .array .int
  | 4 => .array .int
  | 5 => .int
  | 6 => .int
  | _ => .boolean
abbrev wsX80 : List Cond := u_ws RX8 TX8 8
theorem nmX8 : ∀ a, a < 8 → ∀ b, b < 8 → a ≠ b → (TX8 a).2.1 ≠ (TX8 b).2.1 := by decide +kernel
theorem tyX8_ok : ∀ k, k < 8 → parseFieldDescriptor (TX8 k).2.2.1 = some (tyX8 k) := by decide +kernel
abbrev cX8_init : ByteArray := prog_10_method_1_code
def yX8_init : MethodName := ⟨RX8, "<init>", "()V"⟩
abbrev cX8_readSteps : ByteArray := prog_10_method_2_code
def yX8_readSteps : MethodName := ⟨RX8, "readSteps", "(LAskingCourt$Lexer;LAskingCourt$Names;)Z"⟩
abbrev cX8_readEnd : ByteArray := prog_10_method_3_code
def yX8_readEnd : MethodName := ⟨RX8, "readEnd", "(LAskingCourt$Lexer;)Z"⟩
abbrev cX8_readStep : ByteArray := prog_10_method_4_code
def yX8_readStep : MethodName := ⟨RX8, "readStep", "(LAskingCourt$Lexer;LAskingCourt$Names;)Z"⟩
abbrev cX8_readNames : ByteArray := prog_10_method_5_code
def yX8_readNames : MethodName := ⟨RX8, "readNames", "(LAskingCourt$Lexer;LAskingCourt$Names;)Z"⟩
abbrev cX8_readTest : ByteArray := prog_10_method_6_code
def yX8_readTest : MethodName := ⟨RX8, "readTest", "(LAskingCourt$Lexer;LAskingCourt$Names;)Z"⟩
abbrev cX8_copyFrom : ByteArray := prog_10_method_7_code
def yX8_copyFrom : MethodName := ⟨RX8, "copyFrom", "(LAskingCourt$Plan;)V"⟩
def RX9 : String := "AskingCourt$Search"
def TX9 : u_T := fun k => match k with
  | 0 => ("AskingCourt$Search", "hearing", "LAskingCourt$Hearing;", true)
  | 1 => ("AskingCourt$Search", "worlds", "[I", true)
  | 2 => ("AskingCourt$Search", "kinds", "[I", true)
  | 3 => ("AskingCourt$Search", "sizes", "[I", true)
  | 4 => ("AskingCourt$Search", "agreeing", "[I", true)
  | 5 => ("AskingCourt$Search", "against", "I", false)
  | 6 => ("AskingCourt$Search", "lastStanding", "I", false)
  | 7 => ("AskingCourt$Search", "target", "I", false)
  | _ => ("AskingCourt$Search", "onlyWitness", "I", false)
def tyX9 : Nat → FieldType := fun k => match k with
  | 0 => .object "AskingCourt$Hearing"
  | 1 => .array .int
  | 2 => .array .int
  | 3 => .array .int
  | 4 => .array .int
  | 5 => .int
  | 6 => .int
  | 7 => .int
  | _ => .int
abbrev wsX90 : List Cond := u_ws RX9 TX9 9
theorem nmX9 : ∀ a, a < 9 → ∀ b, b < 9 → a ≠ b → (TX9 a).2.1 ≠ (TX9 b).2.1 := by decide +kernel
theorem tyX9_ok : ∀ k, k < 9 → parseFieldDescriptor (TX9 k).2.2.1 = some (tyX9 k) := by decide +kernel
abbrev cX9_init : ByteArray := prog_11_method_1_code
def yX9_init : MethodName := ⟨RX9, "<init>", "(LAskingCourt$Hearing;)V"⟩
abbrev cX9_begin : ByteArray := prog_11_method_2_code
def yX9_begin : MethodName := ⟨RX9, "begin", "(II)V"⟩
abbrev cX9_firstOf : ByteArray := prog_11_method_3_code
def yX9_firstOf : MethodName := ⟨RX9, "firstOf", "(III)I"⟩
abbrev cX9_settles : ByteArray := prog_11_method_4_code
def yX9_settles : MethodName := ⟨RX9, "settles", "(IIIII)Z"⟩
abbrev cX9_openBehind : ByteArray := prog_11_method_5_code
def yX9_openBehind : MethodName := ⟨RX9, "openBehind", "(IIIZ)I"⟩
abbrev cX9_descend : ByteArray := prog_11_method_6_code
def yX9_descend : MethodName := ⟨RX9, "descend", "(IIII)V"⟩
abbrev cX9_leastProof : ByteArray := prog_11_method_7_code
def yX9_leastProof : MethodName := ⟨RX9, "leastProof", "(II)I"⟩
abbrev cX9_gatherAgainst : ByteArray := prog_11_method_8_code
def yX9_gatherAgainst : MethodName := ⟨RX9, "gatherAgainst", "(II)V"⟩
abbrev cX9_isProof : ByteArray := prog_11_method_9_code
def yX9_isProof : MethodName := ⟨RX9, "isProof", "(I)Z"⟩
abbrev cX9_standsAgainst : ByteArray := prog_11_method_10_code
def yX9_standsAgainst : MethodName := ⟨RX9, "standsAgainst", "(II)Z"⟩
def RX10 : String := "AskingCourt$Sitting"
def TX10 : u_T := fun k => match k with
  | 0 => ("AskingCourt$Sitting", "hearing", "LAskingCourt$Hearing;", true)
  | 1 => ("AskingCourt$Sitting", "kinds", "[I", true)
  | 2 => ("AskingCourt$Sitting", "trueWorld", "I", false)
  | _ => ("AskingCourt$Sitting", "drawn", "I", false)
def tyX10 : Nat → FieldType := fun k => match k with
  | 0 => .object "AskingCourt$Hearing"
  | 1 => .array .int
  | 2 => .int
  | _ => .int
abbrev wsX100 : List Cond := u_ws RX10 TX10 4
theorem nmX10 : ∀ a, a < 4 → ∀ b, b < 4 → a ≠ b → (TX10 a).2.1 ≠ (TX10 b).2.1 := by decide +kernel
theorem tyX10_ok : ∀ k, k < 4 → parseFieldDescriptor (TX10 k).2.2.1 = some (tyX10 k) := by decide +kernel
abbrev cX10_init : ByteArray := prog_12_method_1_code
def yX10_init : MethodName := ⟨RX10, "<init>", "(LAskingCourt$Case;)V"⟩
abbrev cX10_holdCourt : ByteArray := prog_12_method_2_code
def yX10_holdCourt : MethodName := ⟨RX10, "holdCourt", "(LAskingCourt$Case;LAskingCourt$Plan;I)I"⟩
abbrev cX10_drawTruth : ByteArray := prog_12_method_3_code
def yX10_drawTruth : MethodName := ⟨RX10, "drawTruth", "(LAskingCourt$Case;I)V"⟩
abbrev cX10_draw : ByteArray := prog_12_method_4_code
def yX10_draw : MethodName := ⟨RX10, "draw", "(I)I"⟩
abbrev cX10_firstAbove : ByteArray := prog_12_method_5_code
def yX10_firstAbove : MethodName := ⟨RX10, "firstAbove", "([IIII)I"⟩
abbrev cX10_put : ByteArray := prog_12_method_6_code
def yX10_put : MethodName := ⟨RX10, "put", "(II)V"⟩
abbrev cX10_passes : ByteArray := prog_12_method_7_code
def yX10_passes : MethodName := ⟨RX10, "passes", "(II)Z"⟩
abbrev cX10_judge : ByteArray := prog_12_method_8_code
def yX10_judge : MethodName := ⟨RX10, "judge", "(I)I"⟩
abbrev cX10_dishonest : ByteArray := prog_12_method_9_code
def yX10_dishonest : MethodName := ⟨RX10, "dishonest", "()I"⟩
def RX11 : String := "AskingCourt"
def TX11 : u_T := fun k => match k with
  | 0 => ("AskingCourt", "traySorts", "[I", true)
  | 1 => ("AskingCourt", "traySizes", "[I", true)
  | 2 => ("AskingCourt", "trayPlaces", "[J", true)
  | 3 => ("AskingCourt", "lexer", "LAskingCourt$Lexer;", true)
  | 4 => ("AskingCourt", "cases", "[LAskingCourt$Case;", true)
  | 5 => ("AskingCourt", "caseReader", "LAskingCourt$CaseReader;", true)
  | 6 => ("AskingCourt", "hearing", "LAskingCourt$Hearing;", true)
  | 7 => ("AskingCourt", "search", "LAskingCourt$Search;", true)
  | 8 => ("AskingCourt", "sitting", "LAskingCourt$Sitting;", true)
  | 9 => ("AskingCourt", "marks", "[LAskingCourt$Mark;", true)
  | 10 => ("AskingCourt", "satRow", "[I", true)
  | 11 => ("AskingCourt", "caseNow", "LAskingCourt$Case;", false)
  | 12 => ("AskingCourt", "planNow", "LAskingCourt$Plan;", false)
  | 13 => ("AskingCourt", "planDraft", "LAskingCourt$Plan;", false)
  | 14 => ("AskingCourt", "marked", "I", false)
  | 15 => ("AskingCourt", "firstPut", "I", false)
  | 16 => ("AskingCourt", "everSat", "Z", false)
  | 17 => ("AskingCourt", "status", "I", false)
  | 18 => ("AskingCourt", "top", "J", false)
  | _ => ("AskingCourt", "bottom", "J", false)
def tyX11 : Nat → FieldType := fun k => match k with
  | 0 => .array .int
  | 1 => .array .int
  | 2 => .array .long
  | 3 => .object "AskingCourt$Lexer"
  | 4 => .array (.object "AskingCourt$Case")
  | 5 => .object "AskingCourt$CaseReader"
  | 6 => .object "AskingCourt$Hearing"
  | 7 => .object "AskingCourt$Search"
  | 8 => .object "AskingCourt$Sitting"
  | 9 => .array (.object "AskingCourt$Mark")
  | 10 => .array .int
  | 11 => .object "AskingCourt$Case"
  | 12 => .object "AskingCourt$Plan"
  | 13 => .object "AskingCourt$Plan"
  | 14 => .int
  | 15 => .int
  | 16 => .boolean
  | 17 => .int
  | 18 => .long
  | _ => .long
abbrev wsX110 : List Cond := u_ws RX11 TX11 20
theorem nmX11 : ∀ a, a < 20 → ∀ b, b < 20 → a ≠ b → (TX11 a).2.1 ≠ (TX11 b).2.1 := by decide +kernel
theorem tyX11_ok : ∀ k, k < 20 → parseFieldDescriptor (TX11 k).2.2.1 = some (tyX11 k) := by decide +kernel
abbrev cX11_init : ByteArray := prog_1_method_1_code
def yX11_init : MethodName := ⟨RX11, "<init>", "()V"⟩
abbrev cX11_status : ByteArray := prog_1_method_2_code
def yX11_status : MethodName := ⟨RX11, "status", "()I"⟩
abbrev cX11_top : ByteArray := prog_1_method_3_code
def yX11_top : MethodName := ⟨RX11, "top", "()J"⟩
abbrev cX11_bottom : ByteArray := prog_1_method_4_code
def yX11_bottom : MethodName := ⟨RX11, "bottom", "()J"⟩
abbrev cX11_tray : ByteArray := prog_1_method_5_code
def yX11_tray : MethodName := ⟨RX11, "tray", "(III)Z"⟩
abbrev cX11_write : ByteArray := prog_1_method_6_code
def yX11_write : MethodName := ⟨RX11, "write", "(IIJ)Z"⟩
abbrev cX11_read : ByteArray := prog_1_method_7_code
def yX11_read : MethodName := ⟨RX11, "read", "(II)J"⟩
abbrev cX11_pour : ByteArray := prog_1_method_8_code
def yX11_pour : MethodName := ⟨RX11, "pour", "(IIIII)Z"⟩
abbrev cX11_whyNoPlace : ByteArray := prog_1_method_9_code
def yX11_whyNoPlace : MethodName := ⟨RX11, "whyNoPlace", "(II)I"⟩
abbrev cX11_cut : ByteArray := prog_1_method_10_code
def yX11_cut : MethodName := ⟨RX11, "cut", "(JI)J"⟩
abbrev cX11_feed : ByteArray := prog_1_method_11_code
def yX11_feed : MethodName := ⟨RX11, "feed", "(IIIII)I"⟩
abbrev cX11_court : ByteArray := prog_1_method_12_code
def yX11_court : MethodName := ⟨RX11, "court", "(I)I"⟩
abbrev cX11_plan : ByteArray := prog_1_method_13_code
def yX11_plan : MethodName := ⟨RX11, "plan", "(I)I"⟩
abbrev cX11_fault : ByteArray := prog_1_method_14_code
def yX11_fault : MethodName := ⟨RX11, "fault", "(I)I"⟩
abbrev cX11_told : ByteArray := prog_1_method_15_code
def yX11_told : MethodName := ⟨RX11, "told", "(I)I"⟩
abbrev cX11_value : ByteArray := prog_1_method_16_code
def yX11_value : MethodName := ⟨RX11, "value", "(II)I"⟩
abbrev cX11_world : ByteArray := prog_1_method_17_code
def yX11_world : MethodName := ⟨RX11, "world", "(II)I"⟩
abbrev cX11_possible : ByteArray := prog_1_method_18_code
def yX11_possible : MethodName := ⟨RX11, "possible", "(I)I"⟩
abbrev cX11_holds : ByteArray := prog_1_method_19_code
def yX11_holds : MethodName := ⟨RX11, "holds", "(II)I"⟩
abbrev cX11_fee : ByteArray := prog_1_method_20_code
def yX11_fee : MethodName := ⟨RX11, "fee", "(I)I"⟩
abbrev cX11_witness : ByteArray := prog_1_method_21_code
def yX11_witness : MethodName := ⟨RX11, "witness", "(II)I"⟩
abbrev cX11_answer : ByteArray := prog_1_method_22_code
def yX11_answer : MethodName := ⟨RX11, "answer", "(IIII)I"⟩
abbrev cX11_freeCase : ByteArray := prog_1_method_23_code
def yX11_freeCase : MethodName := ⟨RX11, "freeCase", "()LAskingCourt$Case;"⟩
abbrev cX11_isMarked : ByteArray := prog_1_method_24_code
def yX11_isMarked : MethodName := ⟨RX11, "isMarked", "(LAskingCourt$Case;)Z"⟩
abbrev cX11_hear : ByteArray := prog_1_method_25_code
def yX11_hear : MethodName := ⟨RX11, "hear", "(III)Z"⟩
abbrev cX11_unsay : ByteArray := prog_1_method_26_code
def yX11_unsay : MethodName := ⟨RX11, "unsay", "()I"⟩
abbrev cX11_nextDay : ByteArray := prog_1_method_27_code
def yX11_nextDay : MethodName := ⟨RX11, "nextDay", "()I"⟩
abbrev cX11_heard : ByteArray := prog_1_method_28_code
def yX11_heard : MethodName := ⟨RX11, "heard", "(II)I"⟩
abbrev cX11_left : ByteArray := prog_1_method_29_code
def yX11_left : MethodName := ⟨RX11, "left", "()I"⟩
abbrev cX11_isLeft : ByteArray := prog_1_method_30_code
def yX11_isLeft : MethodName := ⟨RX11, "isLeft", "(I)I"⟩
abbrev cX11_fits : ByteArray := prog_1_method_31_code
def yX11_fits : MethodName := ⟨RX11, "fits", "(III)I"⟩
abbrev cX11_sure : ByteArray := prog_1_method_32_code
def yX11_sure : MethodName := ⟨RX11, "sure", "(I)I"⟩
abbrev cX11_chance : ByteArray := prog_1_method_33_code
def yX11_chance : MethodName := ⟨RX11, "chance", "(I)Z"⟩
abbrev cX11_trust : ByteArray := prog_1_method_34_code
def yX11_trust : MethodName := ⟨RX11, "trust", "(II)Z"⟩
abbrev cX11_because : ByteArray := prog_1_method_35_code
def yX11_because : MethodName := ⟨RX11, "because", "(I)I"⟩
abbrev cX11_gave : ByteArray := prog_1_method_36_code
def yX11_gave : MethodName := ⟨RX11, "gave", "(I)I"⟩
abbrev cX11_fees : ByteArray := prog_1_method_37_code
def yX11_fees : MethodName := ⟨RX11, "fees", "()I"⟩
abbrev cX11_tell : ByteArray := prog_1_method_38_code
def yX11_tell : MethodName := ⟨RX11, "tell", "(JJ)V"⟩
abbrev cX11_worst : ByteArray := prog_1_method_39_code
def yX11_worst : MethodName := ⟨RX11, "worst", "(II)I"⟩
abbrev cX11_best : ByteArray := prog_1_method_40_code
def yX11_best : MethodName := ⟨RX11, "best", "(I)I"⟩
abbrev cX11_shortest : ByteArray := prog_1_method_41_code
def yX11_shortest : MethodName := ⟨RX11, "shortest", "(II)I"⟩
abbrev cX11_shortestFirst : ByteArray := prog_1_method_42_code
def yX11_shortestFirst : MethodName := ⟨RX11, "shortestFirst", "(I)I"⟩
abbrev cX11_settled : ByteArray := prog_1_method_43_code
def yX11_settled : MethodName := ⟨RX11, "settled", "()I"⟩
abbrev cX11_bench : ByteArray := prog_1_method_44_code
def yX11_bench : MethodName := ⟨RX11, "bench", "()I"⟩
abbrev cX11_clash : ByteArray := prog_1_method_45_code
def yX11_clash : MethodName := ⟨RX11, "clash", "()I"⟩
abbrev cX11_liars : ByteArray := prog_1_method_46_code
def yX11_liars : MethodName := ⟨RX11, "liars", "()I"⟩
abbrev cX11_sit : ByteArray := prog_1_method_47_code
def yX11_sit : MethodName := ⟨RX11, "sit", "(I)I"⟩
abbrev cX11_sat : ByteArray := prog_1_method_48_code
def yX11_sat : MethodName := ⟨RX11, "sat", "(I)I"⟩
abbrev cX11_tally : ByteArray := prog_1_method_49_code
def yX11_tally : MethodName := ⟨RX11, "tally", "(III)I"⟩
abbrev cX11_canSit : ByteArray := prog_1_method_50_code
def yX11_canSit : MethodName := ⟨RX11, "canSit", "()Z"⟩
abbrev cX11_mark : ByteArray := prog_1_method_51_code
def yX11_mark : MethodName := ⟨RX11, "mark", "()I"⟩
abbrev cX11_back : ByteArray := prog_1_method_52_code
def yX11_back : MethodName := ⟨RX11, "back", "()I"⟩
abbrev cX11_below : ByteArray := prog_1_method_53_code
def yX11_below : MethodName := ⟨RX11, "below", "(II)Z"⟩
abbrev cX11_give : ByteArray := prog_1_method_54_code
def yX11_give : MethodName := ⟨RX11, "give", "(I)I"⟩
abbrev cX11_refuse : ByteArray := prog_1_method_55_code
def yX11_refuse : MethodName := ⟨RX11, "refuse", "(I)I"⟩
abbrev cX11_grant : ByteArray := prog_1_method_56_code
def yX11_grant : MethodName := ⟨RX11, "grant", "()Z"⟩
abbrev cX11_deny : ByteArray := prog_1_method_57_code
def yX11_deny : MethodName := ⟨RX11, "deny", "(I)Z"⟩
def RX12 : String := "AskingCourtModel"
def TX12 : u_T := fun k => match k with
  | 0 => ("AskingCourtModel", "at", "[I", true)
  | 1 => ("AskingCourtModel", "sets", "[J", true)
  | 2 => ("AskingCourtModel", "names", "[J", true)
  | 3 => ("AskingCourtModel", "status", "I", false)
  | 4 => ("AskingCourtModel", "top", "J", false)
  | 5 => ("AskingCourtModel", "bottom", "J", false)
  | 6 => ("AskingCourtModel", "sort", "[I", true)
  | 7 => ("AskingCourtModel", "trayMany", "[I", true)
  | 8 => ("AskingCourtModel", "trays", "[J", true)
  | 9 => ("AskingCourtModel", "tape", "[B", true)
  | 10 => ("AskingCourtModel", "text", "[B", true)
  | 11 => ("AskingCourtModel", "taped", "I", false)
  | 12 => ("AskingCourtModel", "size", "I", false)
  | 13 => ("AskingCourtModel", "token", "I", false)
  | 14 => ("AskingCourtModel", "from", "I", false)
  | 15 => ("AskingCourtModel", "end", "I", false)
  | 16 => ("AskingCourtModel", "value", "I", false)
  | 17 => ("AskingCourtModel", "faultKind", "I", false)
  | 18 => ("AskingCourtModel", "faultPlace", "I", false)
  | 19 => ("AskingCourtModel", "faults", "I", false)
  | 20 => ("AskingCourtModel", "seen", "I", false)
  | 21 => ("AskingCourtModel", "found", "I", false)
  | 22 => ("AskingCourtModel", "bars", "[I", true)
  | 23 => ("AskingCourtModel", "stack", "[J", true)
  | 24 => ("AskingCourtModel", "doing", "[I", true)
  | 25 => ("AskingCourtModel", "stacked", "I", false)
  | 26 => ("AskingCourtModel", "toDo", "I", false)
  | 27 => ("AskingCourtModel", "within", "I", false)
  | 28 => ("AskingCourtModel", "opened", "[I", true)
  | 29 => ("AskingCourtModel", "depth", "I", false)
  | 30 => ("AskingCourtModel", "steps", "I", false)
  | 31 => ("AskingCourtModel", "says", "[I", true)
  | 32 => ("AskingCourtModel", "known", "[J", true)
  | 33 => ("AskingCourtModel", "means", "[J", true)
  | 34 => ("AskingCourtModel", "fit", "[I", true)
  | 35 => ("AskingCourtModel", "put", "[Z", true)
  | 36 => ("AskingCourtModel", "kindsBy", "[I", true)
  | 37 => ("AskingCourtModel", "firstWho", "I", false)
  | 38 => ("AskingCourtModel", "firstWhat", "I", false)
  | 39 => ("AskingCourtModel", "drawn", "I", false)
  | 40 => ("AskingCourtModel", "truth", "I", false)
  | 41 => ("AskingCourtModel", "verdict", "I", false)
  | 42 => ("AskingCourtModel", "trueKind", "[I", true)
  | 43 => ("AskingCourtModel", "keptHeard", "[I", true)
  | 44 => ("AskingCourtModel", "told", "[I", true)
  | 45 => ("AskingCourtModel", "isTold", "Z", false)
  | 46 => ("AskingCourtModel", "lastTold", "[I", true)
  | _ => ("AskingCourtModel", "marks", "I", false)
def tyX12 : Nat → FieldType := fun k => match k with
  | 0 => .array .int
  | 1 => .array .long
  | 2 => .array .long
  | 3 => .int
  | 4 => .long
  | 5 => .long
  | 6 => .array .int
  | 7 => .array .int
  | 8 => .array .long
  | 9 => .array .byte
  | 10 => .array .byte
  | 11 => .int
  | 12 => .int
  | 13 => .int
  | 14 => .int
  | 15 => .int
  | 16 => .int
  | 17 => .int
  | 18 => .int
  | 19 => .int
  | 20 => .int
  | 21 => .int
  | 22 => .array .int
  | 23 => .array .long
  | 24 => .array .int
  | 25 => .int
  | 26 => .int
  | 27 => .int
  | 28 => .array .int
  | 29 => .int
  | 30 => .int
  | 31 => .array .int
  | 32 => .array .long
  | 33 => .array .long
  | 34 => .array .int
  | 35 => .array .boolean
  | 36 => .array .int
  | 37 => .int
  | 38 => .int
  | 39 => .int
  | 40 => .int
  | 41 => .int
  | 42 => .array .int
  | 43 => .array .int
  | 44 => .array .int
  | 45 => .boolean
  | 46 => .array .int
  | _ => .int
abbrev wsX120 : List Cond := u_ws RX12 TX12 48
theorem nmX12 : ∀ a, a < 48 → ∀ b, b < 48 → a ≠ b → (TX12 a).2.1 ≠ (TX12 b).2.1 := by decide +kernel
theorem tyX12_ok : ∀ k, k < 48 → parseFieldDescriptor (TX12 k).2.2.1 = some (tyX12 k) := by decide +kernel
abbrev cX12_init : ByteArray := prog_14_method_1_code
def yX12_init : MethodName := ⟨RX12, "<init>", "()V"⟩
abbrev cX12_asNew : ByteArray := prog_14_method_2_code
def yX12_asNew : MethodName := ⟨RX12, "asNew", "()V"⟩
abbrev cX12_takes : ByteArray := prog_14_method_3_code
def yX12_takes : MethodName := ⟨RX12, "takes", "()V"⟩
abbrev cX12_status : ByteArray := prog_14_method_4_code
def yX12_status : MethodName := ⟨RX12, "status", "()I"⟩
abbrev cX12_top : ByteArray := prog_14_method_5_code
def yX12_top : MethodName := ⟨RX12, "top", "()J"⟩
abbrev cX12_bottom : ByteArray := prog_14_method_6_code
def yX12_bottom : MethodName := ⟨RX12, "bottom", "()J"⟩
abbrev cX12_is : ByteArray := prog_14_method_7_code
def yX12_is : MethodName := ⟨RX12, "is", "(I)Z"⟩
abbrev cX12_refuse : ByteArray := prog_14_method_8_code
def yX12_refuse : MethodName := ⟨RX12, "refuse", "(I)I"⟩
abbrev cX12_gives : ByteArray := prog_14_method_9_code
def yX12_gives : MethodName := ⟨RX12, "gives", "(I)I"⟩
abbrev cX12_tellsBy : ByteArray := prog_14_method_10_code
def yX12_tellsBy : MethodName := ⟨RX12, "tellsBy", "(JJ)Z"⟩
abbrev cX12_isTray : ByteArray := prog_14_method_11_code
def yX12_isTray : MethodName := ⟨RX12, "isTray", "(I)Z"⟩
abbrev cX12_cut : ByteArray := prog_14_method_12_code
def yX12_cut : MethodName := ⟨RX12, "cut", "(JI)J"⟩
abbrev cX12_tray : ByteArray := prog_14_method_13_code
def yX12_tray : MethodName := ⟨RX12, "tray", "(III)Z"⟩
abbrev cX12_wrongPlace : ByteArray := prog_14_method_14_code
def yX12_wrongPlace : MethodName := ⟨RX12, "wrongPlace", "(II)I"⟩
abbrev cX12_write : ByteArray := prog_14_method_15_code
def yX12_write : MethodName := ⟨RX12, "write", "(IIJ)Z"⟩
abbrev cX12_read : ByteArray := prog_14_method_16_code
def yX12_read : MethodName := ⟨RX12, "read", "(II)J"⟩
abbrev cX12_pour : ByteArray := prog_14_method_17_code
def yX12_pour : MethodName := ⟨RX12, "pour", "(IIIII)Z"⟩
abbrev cX12_isFrom : ByteArray := prog_14_method_18_code
def yX12_isFrom : MethodName := ⟨RX12, "isFrom", "(JJJ)Z"⟩
abbrev cX12_feed : ByteArray := prog_14_method_19_code
def yX12_feed : MethodName := ⟨RX12, "feed", "(IIIII)I"⟩
abbrev cX12_four : ByteArray := prog_14_method_20_code
def yX12_four : MethodName := ⟨RX12, "four", "(I)V"⟩
abbrev cX12_byteAt : ByteArray := prog_14_method_21_code
def yX12_byteAt : MethodName := ⟨RX12, "byteAt", "(I)I"⟩
abbrev cX12_isSmall : ByteArray := prog_14_method_22_code
def yX12_isSmall : MethodName := ⟨RX12, "isSmall", "(I)Z"⟩
abbrev cX12_isDigit : ByteArray := prog_14_method_23_code
def yX12_isDigit : MethodName := ⟨RX12, "isDigit", "(I)Z"⟩
abbrev cX12_ahead : ByteArray := prog_14_method_24_code
def yX12_ahead : MethodName := ⟨RX12, "ahead", "()V"⟩
abbrev cX12_isSign : ByteArray := prog_14_method_25_code
def yX12_isSign : MethodName := ⟨RX12, "isSign", "(I)Z"⟩
abbrev cX12_inWords : ByteArray := prog_14_method_26_code
def yX12_inWords : MethodName := ⟨RX12, "inWords", "(Ljava/lang/String;)I"⟩
abbrev cX12_fails : ByteArray := prog_14_method_27_code
def yX12_fails : MethodName := ⟨RX12, "fails", "(I)Z"⟩
abbrev cX12_begins : ByteArray := prog_14_method_28_code
def yX12_begins : MethodName := ⟨RX12, "begins", "(II)Z"⟩
abbrev cX12_wantSign : ByteArray := prog_14_method_29_code
def yX12_wantSign : MethodName := ⟨RX12, "wantSign", "(I)Z"⟩
abbrev cX12_wantWord : ByteArray := prog_14_method_30_code
def yX12_wantWord : MethodName := ⟨RX12, "wantWord", "(Ljava/lang/String;I)Z"⟩
abbrev cX12_number : ByteArray := prog_14_method_31_code
def yX12_number : MethodName := ⟨RX12, "number", "(III)Z"⟩
abbrev cX12_isName : ByteArray := prog_14_method_32_code
def yX12_isName : MethodName := ⟨RX12, "isName", "(Ljava/lang/String;)Z"⟩
abbrev cX12_nameHere : ByteArray := prog_14_method_33_code
def yX12_nameHere : MethodName := ⟨RX12, "nameHere", "()J"⟩
abbrev cX12_findHere : ByteArray := prog_14_method_34_code
def yX12_findHere : MethodName := ⟨RX12, "findHere", "(II)I"⟩
abbrev cX12_fault : ByteArray := prog_14_method_35_code
def yX12_fault : MethodName := ⟨RX12, "fault", "(I)I"⟩
abbrev cX12_taken : ByteArray := prog_14_method_36_code
def yX12_taken : MethodName := ⟨RX12, "taken", "(I)I"⟩
abbrev cX12_isFree : ByteArray := prog_14_method_37_code
def yX12_isFree : MethodName := ⟨RX12, "isFree", "()Z"⟩
abbrev cX12_newName : ByteArray := prog_14_method_38_code
def yX12_newName : MethodName := ⟨RX12, "newName", "(II)Z"⟩
abbrev cX12_oldName : ByteArray := prog_14_method_39_code
def yX12_oldName : MethodName := ⟨RX12, "oldName", "(III)Z"⟩
abbrev cX12_aFact : ByteArray := prog_14_method_40_code
def yX12_aFact : MethodName := ⟨RX12, "aFact", "()Z"⟩
abbrev cX12_aNever : ByteArray := prog_14_method_41_code
def yX12_aNever : MethodName := ⟨RX12, "aNever", "()Z"⟩
abbrev cX12_valueIn : ByteArray := prog_14_method_42_code
def yX12_valueIn : MethodName := ⟨RX12, "valueIn", "(III)I"⟩
abbrev cX12_inSet : ByteArray := prog_14_method_43_code
def yX12_inSet : MethodName := ⟨RX12, "inSet", "([JII)Z"⟩
abbrev cX12_finds : ByteArray := prog_14_method_44_code
def yX12_finds : MethodName := ⟨RX12, "finds", "()V"⟩
abbrev cX12_isDoing : ByteArray := prog_14_method_45_code
def yX12_isDoing : MethodName := ⟨RX12, "isDoing", "(I)Z"⟩
abbrev cX12_does : ByteArray := prog_14_method_46_code
def yX12_does : MethodName := ⟨RX12, "does", "(I)V"⟩
abbrev cX12_joins : ByteArray := prog_14_method_47_code
def yX12_joins : MethodName := ⟨RX12, "joins", "()V"⟩
abbrev cX12_turnsRound : ByteArray := prog_14_method_48_code
def yX12_turnsRound : MethodName := ⟨RX12, "turnsRound", "()V"⟩
abbrev cX12_pushes : ByteArray := prog_14_method_49_code
def yX12_pushes : MethodName := ⟨RX12, "pushes", "(I)V"⟩
abbrev cX12_aOne : ByteArray := prog_14_method_50_code
def yX12_aOne : MethodName := ⟨RX12, "aOne", "()Z"⟩
abbrev cX12_isOpen : ByteArray := prog_14_method_51_code
def yX12_isOpen : MethodName := ⟨RX12, "isOpen", "()Z"⟩
abbrev cX12_conditions : ByteArray := prog_14_method_52_code
def yX12_conditions : MethodName := ⟨RX12, "conditions", "()Z"⟩
abbrev cX12_aQuestion : ByteArray := prog_14_method_53_code
def yX12_aQuestion : MethodName := ⟨RX12, "aQuestion", "()Z"⟩
abbrev cX12_several : ByteArray := prog_14_method_54_code
def yX12_several : MethodName := ⟨RX12, "several", "(III)Z"⟩
abbrev cX12_aWitness : ByteArray := prog_14_method_55_code
def yX12_aWitness : MethodName := ⟨RX12, "aWitness", "()Z"⟩
abbrev cX12_casePart : ByteArray := prog_14_method_56_code
def yX12_casePart : MethodName := ⟨RX12, "casePart", "()Z"⟩
abbrev cX12_court : ByteArray := prog_14_method_57_code
def yX12_court : MethodName := ⟨RX12, "court", "(I)I"⟩
abbrev cX12_size : ByteArray := prog_14_method_58_code
def yX12_size : MethodName := ⟨RX12, "size", "(I)I"⟩
abbrev cX12_name : ByteArray := prog_14_method_59_code
def yX12_name : MethodName := ⟨RX12, "name", "(III)Z"⟩
abbrev cX12_aTest : ByteArray := prog_14_method_60_code
def yX12_aTest : MethodName := ⟨RX12, "aTest", "(I)Z"⟩
abbrev cX12_step : ByteArray := prog_14_method_61_code
def yX12_step : MethodName := ⟨RX12, "step", "()Z"⟩
abbrev cX12_plan : ByteArray := prog_14_method_62_code
def yX12_plan : MethodName := ⟨RX12, "plan", "(I)I"⟩
abbrev cX12_isWorld : ByteArray := prog_14_method_63_code
def yX12_isWorld : MethodName := ⟨RX12, "isWorld", "(I)Z"⟩
abbrev cX12_isQuestion : ByteArray := prog_14_method_64_code
def yX12_isQuestion : MethodName := ⟨RX12, "isQuestion", "(I)Z"⟩
abbrev cX12_isWitness : ByteArray := prog_14_method_65_code
def yX12_isWitness : MethodName := ⟨RX12, "isWitness", "(I)Z"⟩
abbrev cX12_isKind : ByteArray := prog_14_method_66_code
def yX12_isKind : MethodName := ⟨RX12, "isKind", "(I)Z"⟩
abbrev cX12_isPossible : ByteArray := prog_14_method_67_code
def yX12_isPossible : MethodName := ⟨RX12, "isPossible", "(I)Z"⟩
abbrev cX12_isIn : ByteArray := prog_14_method_68_code
def yX12_isIn : MethodName := ⟨RX12, "isIn", "(II)Z"⟩
abbrev cX12_ofWitness : ByteArray := prog_14_method_69_code
def yX12_ofWitness : MethodName := ⟨RX12, "ofWitness", "(II)I"⟩
abbrev cX12_ofHeard : ByteArray := prog_14_method_70_code
def yX12_ofHeard : MethodName := ⟨RX12, "ofHeard", "(II)I"⟩
abbrev cX12_putToday : ByteArray := prog_14_method_71_code
def yX12_putToday : MethodName := ⟨RX12, "putToday", "()I"⟩
abbrev cX12_told : ByteArray := prog_14_method_72_code
def yX12_told : MethodName := ⟨RX12, "told", "(I)I"⟩
abbrev cX12_value : ByteArray := prog_14_method_73_code
def yX12_value : MethodName := ⟨RX12, "value", "(II)I"⟩
abbrev cX12_world : ByteArray := prog_14_method_74_code
def yX12_world : MethodName := ⟨RX12, "world", "(II)I"⟩
abbrev cX12_possible : ByteArray := prog_14_method_75_code
def yX12_possible : MethodName := ⟨RX12, "possible", "(I)I"⟩
abbrev cX12_holds : ByteArray := prog_14_method_76_code
def yX12_holds : MethodName := ⟨RX12, "holds", "(II)I"⟩
abbrev cX12_fee : ByteArray := prog_14_method_77_code
def yX12_fee : MethodName := ⟨RX12, "fee", "(I)I"⟩
abbrev cX12_witness : ByteArray := prog_14_method_78_code
def yX12_witness : MethodName := ⟨RX12, "witness", "(II)I"⟩
abbrev cX12_saysAs : ByteArray := prog_14_method_79_code
def yX12_saysAs : MethodName := ⟨RX12, "saysAs", "(IIII)I"⟩
abbrev cX12_knowsIn : ByteArray := prog_14_method_80_code
def yX12_knowsIn : MethodName := ⟨RX12, "knowsIn", "(II)V"⟩
abbrev cX12_meansBy : ByteArray := prog_14_method_81_code
def yX12_meansBy : MethodName := ⟨RX12, "meansBy", "(I)V"⟩
abbrev cX12_isMeant : ByteArray := prog_14_method_82_code
def yX12_isMeant : MethodName := ⟨RX12, "isMeant", "()Z"⟩
abbrev cX12_liesTo : ByteArray := prog_14_method_83_code
def yX12_liesTo : MethodName := ⟨RX12, "liesTo", "(I)I"⟩
abbrev cX12_honestly : ByteArray := prog_14_method_84_code
def yX12_honestly : MethodName := ⟨RX12, "honestly", "(I)I"⟩
abbrev cX12_otherwise : ByteArray := prog_14_method_85_code
def yX12_otherwise : MethodName := ⟨RX12, "otherwise", "(I)I"⟩
abbrev cX12_laysAnswers : ByteArray := prog_14_method_86_code
def yX12_laysAnswers : MethodName := ⟨RX12, "laysAnswers", "()V"⟩
abbrev cX12_answer : ByteArray := prog_14_method_87_code
def yX12_answer : MethodName := ⟨RX12, "answer", "(IIII)I"⟩
abbrev cX12_mayBe : ByteArray := prog_14_method_88_code
def yX12_mayBe : MethodName := ⟨RX12, "mayBe", "(I)I"⟩
abbrev cX12_kindsFor : ByteArray := prog_14_method_89_code
def yX12_kindsFor : MethodName := ⟨RX12, "kindsFor", "(IIII)I"⟩
abbrev cX12_fitsBy : ByteArray := prog_14_method_90_code
def yX12_fitsBy : MethodName := ⟨RX12, "fitsBy", "(I)V"⟩
abbrev cX12_fitsAll : ByteArray := prog_14_method_91_code
def yX12_fitsAll : MethodName := ⟨RX12, "fitsAll", "()V"⟩
abbrev cX12_isLeftAt : ByteArray := prog_14_method_92_code
def yX12_isLeftAt : MethodName := ⟨RX12, "isLeftAt", "(II)Z"⟩
abbrev cX12_leftAt : ByteArray := prog_14_method_93_code
def yX12_leftAt : MethodName := ⟨RX12, "leftAt", "(I)I"⟩
abbrev cX12_sureAt : ByteArray := prog_14_method_94_code
def yX12_sureAt : MethodName := ⟨RX12, "sureAt", "(II)I"⟩
abbrev cX12_hear : ByteArray := prog_14_method_95_code
def yX12_hear : MethodName := ⟨RX12, "hear", "(III)Z"⟩
abbrev cX12_hears : ByteArray := prog_14_method_96_code
def yX12_hears : MethodName := ⟨RX12, "hears", "(III)V"⟩
abbrev cX12_unsay : ByteArray := prog_14_method_97_code
def yX12_unsay : MethodName := ⟨RX12, "unsay", "()I"⟩
abbrev cX12_nextDay : ByteArray := prog_14_method_98_code
def yX12_nextDay : MethodName := ⟨RX12, "nextDay", "()I"⟩
abbrev cX12_heard : ByteArray := prog_14_method_99_code
def yX12_heard : MethodName := ⟨RX12, "heard", "(II)I"⟩
abbrev cX12_left : ByteArray := prog_14_method_100_code
def yX12_left : MethodName := ⟨RX12, "left", "()I"⟩
abbrev cX12_isLeft : ByteArray := prog_14_method_101_code
def yX12_isLeft : MethodName := ⟨RX12, "isLeft", "(I)I"⟩
abbrev cX12_fits : ByteArray := prog_14_method_102_code
def yX12_fits : MethodName := ⟨RX12, "fits", "(III)I"⟩
abbrev cX12_sure : ByteArray := prog_14_method_103_code
def yX12_sure : MethodName := ⟨RX12, "sure", "(I)I"⟩
abbrev cX12_weightOf : ByteArray := prog_14_method_104_code
def yX12_weightOf : MethodName := ⟨RX12, "weightOf", "(I)J"⟩
abbrev cX12_weightBy : ByteArray := prog_14_method_105_code
def yX12_weightBy : MethodName := ⟨RX12, "weightBy", "(III)J"⟩
abbrev cX12_weightAll : ByteArray := prog_14_method_106_code
def yX12_weightAll : MethodName := ⟨RX12, "weightAll", "(III)J"⟩
abbrev cX12_chance : ByteArray := prog_14_method_107_code
def yX12_chance : MethodName := ⟨RX12, "chance", "(I)Z"⟩
abbrev cX12_trust : ByteArray := prog_14_method_108_code
def yX12_trust : MethodName := ⟨RX12, "trust", "(II)Z"⟩
abbrev cX12_bits : ByteArray := prog_14_method_109_code
def yX12_bits : MethodName := ⟨RX12, "bits", "(I)I"⟩
abbrev cX12_isSureBy : ByteArray := prog_14_method_110_code
def yX12_isSureBy : MethodName := ⟨RX12, "isSureBy", "(III)Z"⟩
abbrev cX12_because : ByteArray := prog_14_method_111_code
def yX12_because : MethodName := ⟨RX12, "because", "(I)I"⟩
abbrev cX12_gave : ByteArray := prog_14_method_112_code
def yX12_gave : MethodName := ⟨RX12, "gave", "(I)I"⟩
abbrev cX12_feesOf : ByteArray := prog_14_method_113_code
def yX12_feesOf : MethodName := ⟨RX12, "feesOf", "()I"⟩
abbrev cX12_fees : ByteArray := prog_14_method_114_code
def yX12_fees : MethodName := ⟨RX12, "fees", "()I"⟩
abbrev cX12_answered : ByteArray := prog_14_method_115_code
def yX12_answered : MethodName := ⟨RX12, "answered", "(IIII)I"⟩
abbrev cX12_worstOf : ByteArray := prog_14_method_116_code
def yX12_worstOf : MethodName := ⟨RX12, "worstOf", "(II)I"⟩
abbrev cX12_worst : ByteArray := prog_14_method_117_code
def yX12_worst : MethodName := ⟨RX12, "worst", "(II)I"⟩
abbrev cX12_bestOf : ByteArray := prog_14_method_118_code
def yX12_bestOf : MethodName := ⟨RX12, "bestOf", "(I)I"⟩
abbrev cX12_best : ByteArray := prog_14_method_119_code
def yX12_best : MethodName := ⟨RX12, "best", "(I)I"⟩
abbrev cX12_isAsked : ByteArray := prog_14_method_120_code
def yX12_isAsked : MethodName := ⟨RX12, "isAsked", "(II)Z"⟩
abbrev cX12_byOne : ByteArray := prog_14_method_121_code
def yX12_byOne : MethodName := ⟨RX12, "byOne", "(III)Z"⟩
abbrev cX12_oneIs : ByteArray := prog_14_method_122_code
def yX12_oneIs : MethodName := ⟨RX12, "oneIs", "(IIII)Z"⟩
abbrev cX12_byTwo : ByteArray := prog_14_method_123_code
def yX12_byTwo : MethodName := ⟨RX12, "byTwo", "(III)Z"⟩
abbrev cX12_twoAre : ByteArray := prog_14_method_124_code
def yX12_twoAre : MethodName := ⟨RX12, "twoAre", "(IIIII)Z"⟩
abbrev cX12_threeAre : ByteArray := prog_14_method_125_code
def yX12_threeAre : MethodName := ⟨RX12, "threeAre", "(IIII)Z"⟩
abbrev cX12_areEnough : ByteArray := prog_14_method_126_code
def yX12_areEnough : MethodName := ⟨RX12, "areEnough", "(III)Z"⟩
abbrev cX12_shortest : ByteArray := prog_14_method_127_code
def yX12_shortest : MethodName := ⟨RX12, "shortest", "(II)I"⟩
abbrev cX12_shortestFirst : ByteArray := prog_14_method_128_code
def yX12_shortestFirst : MethodName := ⟨RX12, "shortestFirst", "(I)I"⟩
abbrev cX12_settled : ByteArray := prog_14_method_129_code
def yX12_settled : MethodName := ⟨RX12, "settled", "()I"⟩
abbrev cX12_benchBy : ByteArray := prog_14_method_130_code
def yX12_benchBy : MethodName := ⟨RX12, "benchBy", "(I)I"⟩
abbrev cX12_bench : ByteArray := prog_14_method_131_code
def yX12_bench : MethodName := ⟨RX12, "bench", "()I"⟩
abbrev cX12_clash : ByteArray := prog_14_method_132_code
def yX12_clash : MethodName := ⟨RX12, "clash", "()I"⟩
abbrev cX12_answersHonestly : ByteArray := prog_14_method_133_code
def yX12_answersHonestly : MethodName := ⟨RX12, "answersHonestly", "(II)Z"⟩
abbrev cX12_liars : ByteArray := prog_14_method_134_code
def yX12_liars : MethodName := ⟨RX12, "liars", "()I"⟩
abbrev cX12_draw : ByteArray := prog_14_method_135_code
def yX12_draw : MethodName := ⟨RX12, "draw", "(J)I"⟩
abbrev cX12_drawsTruth : ByteArray := prog_14_method_136_code
def yX12_drawsTruth : MethodName := ⟨RX12, "drawsTruth", "()V"⟩
abbrev cX12_puts : ByteArray := prog_14_method_137_code
def yX12_puts : MethodName := ⟨RX12, "puts", "(II)V"⟩
abbrev cX12_holdsNow : ByteArray := prog_14_method_138_code
def yX12_holdsNow : MethodName := ⟨RX12, "holdsNow", "(I)Z"⟩
abbrev cX12_rules : ByteArray := prog_14_method_139_code
def yX12_rules : MethodName := ⟨RX12, "rules", "(I)V"⟩
abbrev cX12_doesStep : ByteArray := prog_14_method_140_code
def yX12_doesStep : MethodName := ⟨RX12, "doesStep", "(I)I"⟩
abbrev cX12_sits : ByteArray := prog_14_method_141_code
def yX12_sits : MethodName := ⟨RX12, "sits", "(I)V"⟩
abbrev cX12_canSit : ByteArray := prog_14_method_142_code
def yX12_canSit : MethodName := ⟨RX12, "canSit", "()Z"⟩
abbrev cX12_sit : ByteArray := prog_14_method_143_code
def yX12_sit : MethodName := ⟨RX12, "sit", "(I)I"⟩
abbrev cX12_sat : ByteArray := prog_14_method_144_code
def yX12_sat : MethodName := ⟨RX12, "sat", "(I)I"⟩
abbrev cX12_tally : ByteArray := prog_14_method_145_code
def yX12_tally : MethodName := ⟨RX12, "tally", "(III)I"⟩
abbrev cX12_copies : ByteArray := prog_14_method_146_code
def yX12_copies : MethodName := ⟨RX12, "copies", "(II)V"⟩
abbrev cX12_mark : ByteArray := prog_14_method_147_code
def yX12_mark : MethodName := ⟨RX12, "mark", "()I"⟩
abbrev cX12_back : ByteArray := prog_14_method_148_code
def yX12_back : MethodName := ⟨RX12, "back", "()I"⟩
def RJx145de : String := "java/io/Serializable"
def RJx9f9b0 : String := "java/lang/CharSequence"
def RJxb160c : String := "java/lang/Comparable"
def RJ6 : String := "java/lang/Integer"
abbrev cJ6_bitCount_0f7a4 : ByteArray := prog_15_method_49_code
def yJ6_bitCount_0f7a4 : MethodName := ⟨RJ6, "bitCount", "(I)I"⟩
def RJ9 : String := "java/lang/Math"
abbrev cJ9_max_7cf53 : ByteArray := prog_16_method_65_code
def yJ9_max_7cf53 : MethodName := ⟨RJ9, "max", "(II)I"⟩
abbrev cJ9_min_7cf53 : ByteArray := prog_16_method_69_code
def yJ9_min_7cf53 : MethodName := ⟨RJ9, "min", "(II)I"⟩
def RJ0 : String := "java/lang/String"
abbrev cJ0_length_8abf5 : ByteArray := prog_17_method_54_code
def yJ0_length_8abf5 : MethodName := ⟨RJ0, "length", "()I"⟩
abbrev cJ0_charAt_5068e : ByteArray := prog_17_method_56_code
def yJ0_charAt_5068e : MethodName := ⟨RJ0, "charAt", "(I)C"⟩
abbrev cJ0_coder_7d493 : ByteArray := prog_17_method_152_code
def yJ0_coder_7d493 : MethodName := ⟨RJ0, "coder", "()B"⟩
abbrev cJ0_isLatin1_aae02 : ByteArray := prog_17_method_154_code
def yJ0_isLatin1_aae02 : MethodName := ⟨RJ0, "isLatin1", "()Z"⟩
abbrev cJ0_checkIndex_df160 : ByteArray := prog_17_method_155_code
def yJ0_checkIndex_df160 : MethodName := ⟨RJ0, "checkIndex", "(II)V"⟩
def RJ1 : String := "java/lang/StringLatin1"
abbrev cJ1_charAt_3b067 : ByteArray := prog_18_method_2_code
def yJ1_charAt_3b067 : MethodName := ⟨RJ1, "charAt", "([BI)C"⟩
def RJ2 : String := "java/lang/StringUTF16"
abbrev cJ2_getChar_3b067 : ByteArray := prog_19_method_5_code
def yJ2_getChar_3b067 : MethodName := ⟨RJ2, "getChar", "([BI)C"⟩
abbrev cJ2_length_9d52b : ByteArray := prog_19_method_6_code
def yJ2_length_9d52b : MethodName := ⟨RJ2, "length", "([B)I"⟩
abbrev cJ2_charAt_3b067 : ByteArray := prog_19_method_83_code
def yJ2_charAt_3b067 : MethodName := ⟨RJ2, "charAt", "([BI)C"⟩
abbrev cJ2_checkIndex_2214a : ByteArray := prog_19_method_91_code
def yJ2_checkIndex_2214a : MethodName := ⟨RJ2, "checkIndex", "(I[B)V"⟩
def RJ10 : String := "java/lang/System"
def RJxfd54e : String := "java/lang/constant/Constable"
def RJx3cf43 : String := "java/lang/constant/ConstantDesc"
def RJ7 : String := "java/util/Arrays"
abbrev cJ7_rangeCheck_23922 : ByteArray := prog_21_method_30_code
def yJ7_rangeCheck_23922 : MethodName := ⟨RJ7, "rangeCheck", "(III)V"⟩
abbrev cJ7_fill_d0a16 : ByteArray := prog_21_method_101_code
def yJ7_fill_d0a16 : MethodName := ⟨RJ7, "fill", "([JJ)V"⟩
abbrev cJ7_fill_bad5a : ByteArray := prog_21_method_102_code
def yJ7_fill_bad5a : MethodName := ⟨RJ7, "fill", "([JIIJ)V"⟩
abbrev cJ7_fill_53178 : ByteArray := prog_21_method_103_code
def yJ7_fill_53178 : MethodName := ⟨RJ7, "fill", "([II)V"⟩
def RJ3 : String := "jdk/internal/util/Preconditions"
abbrev cJ3_checkIndex_8e157 : ByteArray := prog_22_method_11_code
def yJ3_checkIndex_8e157 : MethodName := ⟨RJ3, "checkIndex", "(IILjava/util/function/BiFunction;)I"⟩
def RL : String := "AskingCourtLaw"
abbrev cL_law : ByteArray := code
def yL_law : MethodName := ⟨RL, "law", "([I)Z"⟩
abbrev vwCl : List vw_C := [(RX0, TX0, 5), (RX1, TX1, 19), (RX2, TX2, 8), (RX3, TX3, 7), (RX4, TX4, 14), (RX5, TX5, 3), (RX6, TX6, 6), (RX7, TX7, 4), (RX8, TX8, 8), (RX9, TX9, 9), (RX10, TX10, 4), (RX11, TX11, 20), (RX12, TX12, 48)]

theorem me_in {big : List Cond} (ws : List Cond) (ps : List Nat) (hp : ws = ps.filterMap (fun i => big[i]?)) : ∀ w ∈ ws, w ∈ big := by
  intro w hw
  rw [hp] at hw
  obtain ⟨i, -, hi⟩ := List.mem_filterMap.mp hw
  exact List.mem_of_getElem? hi
theorem inX0 : ∀ w ∈ wsX00, w ∈ lw_tbl := me_in _ [490, 492, 494, 496, 498] (by decide +kernel)
theorem inX1 : ∀ w ∈ wsX10, w ∈ lw_tbl := me_in _ [434, 436, 438, 440, 442, 444, 446, 448, 450, 452, 454, 456, 458, 460, 462, 464, 466, 468, 470] (by decide +kernel)
theorem inX2 : ∀ w ∈ wsX20, w ∈ lw_tbl := me_in _ [509, 511, 513, 515, 517, 519, 521, 523] (by decide +kernel)
theorem inX3 : ∀ w ∈ wsX30, w ∈ lw_tbl := me_in _ [616, 618, 620, 622, 624, 626, 628] (by decide +kernel)
theorem inX4 : ∀ w ∈ wsX40, w ∈ lw_tbl := me_in _ [256, 258, 260, 262, 264, 266, 268, 270, 272, 274, 276, 278, 280, 282] (by decide +kernel)
theorem inX5 : ∀ w ∈ wsX50, w ∈ lw_tbl := me_in _ [703, 705, 707] (by decide +kernel)
theorem inX6 : ∀ w ∈ wsX60, w ∈ lw_tbl := me_in _ [557, 559, 561, 563, 565, 567] (by decide +kernel)
theorem inX7 : ∀ w ∈ wsX70, w ∈ lw_tbl := me_in _ [346, 348, 350, 352] (by decide +kernel)
theorem inX8 : ∀ w ∈ wsX80, w ∈ lw_tbl := me_in _ [313, 315, 317, 319, 321, 323, 325, 327] (by decide +kernel)
theorem inX9 : ∀ w ∈ wsX90, w ∈ lw_tbl := me_in _ [646, 648, 650, 652, 654, 656, 658, 660, 662] (by decide +kernel)
theorem inX10 : ∀ w ∈ wsX100, w ∈ lw_tbl := me_in _ [679, 681, 683, 685] (by decide +kernel)
theorem inX11 : ∀ w ∈ wsX110, w ∈ lw_tbl := me_in _ [731, 733, 735, 737, 739, 741, 743, 745, 747, 749, 751, 753, 755, 757, 759, 761, 763, 765, 767, 769] (by decide +kernel)
theorem inX12 : ∀ w ∈ wsX120, w ∈ lw_tbl := me_in _ [1549, 1551, 1553, 1555, 1557, 1559, 1561, 1563, 1565, 1567, 1569, 1571, 1573, 1575, 1577, 1579, 1581, 1583, 1585, 1587, 1589, 1591, 1593, 1595, 1597, 1599, 1601, 1603, 1605, 1607, 1609, 1611, 1613, 1615, 1617, 1619, 1621, 1623, 1625, 1627, 1629, 1631, 1633, 1635, 1637, 1639, 1641, 1643] (by decide +kernel)
def tB : List Cond := lw_tbl.filter goodWord
theorem in_tB {w : Cond} (i : Nat) (h : lw_tbl[i]? = some w) (hg : goodWord w = true) : w ∈ tB := List.mem_filter.mpr ⟨List.mem_of_getElem? h, hg⟩
theorem inT {ws : List Cond} (h : ∀ w ∈ ws, w ∈ lw_tbl) (hg : ws.all goodWord = true) : ∀ w ∈ ws, w ∈ tB := fun w hw => List.mem_filter.mpr ⟨h w hw, List.all_eq_true.mp hg w hw⟩
theorem itX0 : ∀ w ∈ wsX00, w ∈ tB := inT inX0 (by decide +kernel)
theorem itX1 : ∀ w ∈ wsX10, w ∈ tB := inT inX1 (by decide +kernel)
theorem itX2 : ∀ w ∈ wsX20, w ∈ tB := inT inX2 (by decide +kernel)
theorem itX3 : ∀ w ∈ wsX30, w ∈ tB := inT inX3 (by decide +kernel)
theorem itX4 : ∀ w ∈ wsX40, w ∈ tB := inT inX4 (by decide +kernel)
theorem itX5 : ∀ w ∈ wsX50, w ∈ tB := inT inX5 (by decide +kernel)
theorem itX6 : ∀ w ∈ wsX60, w ∈ tB := inT inX6 (by decide +kernel)
theorem itX7 : ∀ w ∈ wsX70, w ∈ tB := inT inX7 (by decide +kernel)
theorem itX8 : ∀ w ∈ wsX80, w ∈ tB := inT inX8 (by decide +kernel)
theorem itX9 : ∀ w ∈ wsX90, w ∈ tB := inT inX9 (by decide +kernel)
theorem itX10 : ∀ w ∈ wsX100, w ∈ tB := inT inX10 (by decide +kernel)
theorem itX11 : ∀ w ∈ wsX110, w ∈ tB := inT inX11 (by decide +kernel)
theorem itX12 : ∀ w ∈ wsX120, w ∈ tB := inT inX12 (by decide +kernel)
