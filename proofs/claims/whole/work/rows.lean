section
-- ===== PART A: goes FIRST, ahead of the names: the tables' words, and 'selects' of the private methods out of them =====
/-- a private method of a class that the tables say can be made, by its rows of tables_1 -/
def lw_okq (q : MethodName × Nat) : Prop := (q.1.cls ≠ "java/lang/invoke/MethodHandle" ∧ q.1.cls ≠ "java/lang/invoke/VarHandle") ∧ Cond.instantiable q.1.cls q.2 ∈ tables_1 ∧ Cond.privateMethod q.1 ∈ tables_1 ∧ Cond.instanceMethod q.1 ∈ tables_1
theorem lw_p0 : lw_okq (⟨"SamePassers$Tape", "stepWord", "()V"⟩, 8) := ⟨⟨by decide +kernel, by decide +kernel⟩, List.mem_of_getElem? (i := 36) (by decide +kernel), List.mem_of_getElem? (i := 632) (by decide +kernel), List.mem_of_getElem? (i := 633) (by decide +kernel)⟩
theorem lw_p1 : lw_okq (⟨"SamePassers$Tape", "stepNumber", "()V"⟩, 8) := ⟨⟨by decide +kernel, by decide +kernel⟩, List.mem_of_getElem? (i := 36) (by decide +kernel), List.mem_of_getElem? (i := 636) (by decide +kernel), List.mem_of_getElem? (i := 637) (by decide +kernel)⟩
theorem lw_p2 : lw_okq (⟨"SamePassers$Reader", "readGround", "()Z"⟩, 7) := ⟨⟨by decide +kernel, by decide +kernel⟩, List.mem_of_getElem? (i := 349) (by decide +kernel), List.mem_of_getElem? (i := 700) (by decide +kernel), List.mem_of_getElem? (i := 701) (by decide +kernel)⟩
theorem lw_p3 : lw_okq (⟨"SamePassers$Reader", "readNumberBehind", "(III)Z"⟩, 7) := ⟨⟨by decide +kernel, by decide +kernel⟩, List.mem_of_getElem? (i := 349) (by decide +kernel), List.mem_of_getElem? (i := 704) (by decide +kernel), List.mem_of_getElem? (i := 705) (by decide +kernel)⟩
theorem lw_p4 : lw_okq (⟨"SamePassers$Reader", "readToken", "(I)Z"⟩, 7) := ⟨⟨by decide +kernel, by decide +kernel⟩, List.mem_of_getElem? (i := 349) (by decide +kernel), List.mem_of_getElem? (i := 708) (by decide +kernel), List.mem_of_getElem? (i := 709) (by decide +kernel)⟩
theorem lw_p5 : lw_okq (⟨"SamePassers$Reader", "fail", "(I)Z"⟩, 7) := ⟨⟨by decide +kernel, by decide +kernel⟩, List.mem_of_getElem? (i := 349) (by decide +kernel), List.mem_of_getElem? (i := 712) (by decide +kernel), List.mem_of_getElem? (i := 713) (by decide +kernel)⟩
theorem lw_p6 : lw_okq (⟨"SamePassers$Reader", "readNumber", "(II)Z"⟩, 7) := ⟨⟨by decide +kernel, by decide +kernel⟩, List.mem_of_getElem? (i := 349) (by decide +kernel), List.mem_of_getElem? (i := 717) (by decide +kernel), List.mem_of_getElem? (i := 718) (by decide +kernel)⟩
theorem lw_p7 : lw_okq (⟨"SamePassers$Reader", "readSay", "()Z"⟩, 7) := ⟨⟨by decide +kernel, by decide +kernel⟩, List.mem_of_getElem? (i := 349) (by decide +kernel), List.mem_of_getElem? (i := 721) (by decide +kernel), List.mem_of_getElem? (i := 722) (by decide +kernel)⟩
theorem lw_p8 : lw_okq (⟨"SamePassers$Reader", "readNewName", "()Z"⟩, 7) := ⟨⟨by decide +kernel, by decide +kernel⟩, List.mem_of_getElem? (i := 349) (by decide +kernel), List.mem_of_getElem? (i := 725) (by decide +kernel), List.mem_of_getElem? (i := 726) (by decide +kernel)⟩
theorem lw_p9 : lw_okq (⟨"SamePassers$Reader", "readWalker", "()Z"⟩, 7) := ⟨⟨by decide +kernel, by decide +kernel⟩, List.mem_of_getElem? (i := 349) (by decide +kernel), List.mem_of_getElem? (i := 737) (by decide +kernel), List.mem_of_getElem? (i := 738) (by decide +kernel)⟩
theorem lw_p10 : lw_okq (⟨"SamePassers$Reader", "readKind", "(LSamePassers$Walker;)Z"⟩, 7) := ⟨⟨by decide +kernel, by decide +kernel⟩, List.mem_of_getElem? (i := 349) (by decide +kernel), List.mem_of_getElem? (i := 741) (by decide +kernel), List.mem_of_getElem? (i := 742) (by decide +kernel)⟩
theorem lw_p11 : lw_okq (⟨"SamePassers$Reader", "readPlace", "(LSamePassers$Walker;)Z"⟩, 7) := ⟨⟨by decide +kernel, by decide +kernel⟩, List.mem_of_getElem? (i := 349) (by decide +kernel), List.mem_of_getElem? (i := 745) (by decide +kernel), List.mem_of_getElem? (i := 746) (by decide +kernel)⟩
theorem lw_p12 : lw_okq (⟨"SamePassers$Reader", "readGait", "(LSamePassers$Walker;)Z"⟩, 7) := ⟨⟨by decide +kernel, by decide +kernel⟩, List.mem_of_getElem? (i := 349) (by decide +kernel), List.mem_of_getElem? (i := 749) (by decide +kernel), List.mem_of_getElem? (i := 750) (by decide +kernel)⟩
theorem lw_p13 : lw_okq (⟨"SamePassers$Reader", "readCue", "(LSamePassers$Walker;)Z"⟩, 7) := ⟨⟨by decide +kernel, by decide +kernel⟩, List.mem_of_getElem? (i := 349) (by decide +kernel), List.mem_of_getElem? (i := 753) (by decide +kernel), List.mem_of_getElem? (i := 754) (by decide +kernel)⟩
theorem lw_p14 : lw_okq (⟨"SamePassers$Reader", "seeWordName", "()Z"⟩, 7) := ⟨⟨by decide +kernel, by decide +kernel⟩, List.mem_of_getElem? (i := 349) (by decide +kernel), List.mem_of_getElem? (i := 757) (by decide +kernel), List.mem_of_getElem? (i := 758) (by decide +kernel)⟩
theorem lw_p15 : lw_okq (⟨"SamePassers$Reader", "readMust", "()Z"⟩, 7) := ⟨⟨by decide +kernel, by decide +kernel⟩, List.mem_of_getElem? (i := 349) (by decide +kernel), List.mem_of_getElem? (i := 761) (by decide +kernel), List.mem_of_getElem? (i := 762) (by decide +kernel)⟩
def lw_privs_1 : List (MethodName × Nat) := [(⟨"SamePassers$Tape", "stepWord", "()V"⟩, 8), (⟨"SamePassers$Tape", "stepNumber", "()V"⟩, 8), (⟨"SamePassers$Reader", "readGround", "()Z"⟩, 7), (⟨"SamePassers$Reader", "readNumberBehind", "(III)Z"⟩, 7), (⟨"SamePassers$Reader", "readToken", "(I)Z"⟩, 7), (⟨"SamePassers$Reader", "fail", "(I)Z"⟩, 7), (⟨"SamePassers$Reader", "readNumber", "(II)Z"⟩, 7), (⟨"SamePassers$Reader", "readSay", "()Z"⟩, 7), (⟨"SamePassers$Reader", "readNewName", "()Z"⟩, 7), (⟨"SamePassers$Reader", "readWalker", "()Z"⟩, 7), (⟨"SamePassers$Reader", "readKind", "(LSamePassers$Walker;)Z"⟩, 7), (⟨"SamePassers$Reader", "readPlace", "(LSamePassers$Walker;)Z"⟩, 7), (⟨"SamePassers$Reader", "readGait", "(LSamePassers$Walker;)Z"⟩, 7), (⟨"SamePassers$Reader", "readCue", "(LSamePassers$Walker;)Z"⟩, 7), (⟨"SamePassers$Reader", "seeWordName", "()Z"⟩, 7), (⟨"SamePassers$Reader", "readMust", "()Z"⟩, 7)]
theorem lw_r1 : ∀ q ∈ lw_privs_1, lw_okq q := List.forall_mem_cons.mpr ⟨lw_p0, List.forall_mem_cons.mpr ⟨lw_p1, List.forall_mem_cons.mpr ⟨lw_p2, List.forall_mem_cons.mpr ⟨lw_p3, List.forall_mem_cons.mpr ⟨lw_p4, List.forall_mem_cons.mpr ⟨lw_p5, List.forall_mem_cons.mpr ⟨lw_p6, List.forall_mem_cons.mpr ⟨lw_p7, List.forall_mem_cons.mpr ⟨lw_p8, List.forall_mem_cons.mpr ⟨lw_p9, List.forall_mem_cons.mpr ⟨lw_p10, List.forall_mem_cons.mpr ⟨lw_p11, List.forall_mem_cons.mpr ⟨lw_p12, List.forall_mem_cons.mpr ⟨lw_p13, List.forall_mem_cons.mpr ⟨lw_p14, List.forall_mem_cons.mpr ⟨lw_p15, fun _ h => absurd h List.not_mem_nil⟩⟩⟩⟩⟩⟩⟩⟩⟩⟩⟩⟩⟩⟩⟩⟩
theorem lw_p16 : lw_okq (⟨"SamePassers$Reader", "readWalkerName", "()Z"⟩, 7) := ⟨⟨by decide +kernel, by decide +kernel⟩, List.mem_of_getElem? (i := 349) (by decide +kernel), List.mem_of_getElem? (i := 765) (by decide +kernel), List.mem_of_getElem? (i := 766) (by decide +kernel)⟩
theorem lw_p17 : lw_okq (⟨"SamePassers$Reader", "readRound", "()Z"⟩, 7) := ⟨⟨by decide +kernel, by decide +kernel⟩, List.mem_of_getElem? (i := 349) (by decide +kernel), List.mem_of_getElem? (i := 777) (by decide +kernel), List.mem_of_getElem? (i := 778) (by decide +kernel)⟩
theorem lw_p18 : lw_okq (⟨"SamePassers$Reader", "readLaw", "(LSamePassers$Law;)Z"⟩, 7) := ⟨⟨by decide +kernel, by decide +kernel⟩, List.mem_of_getElem? (i := 349) (by decide +kernel), List.mem_of_getElem? (i := 781) (by decide +kernel), List.mem_of_getElem? (i := 782) (by decide +kernel)⟩
theorem lw_p19 : lw_okq (⟨"SamePassers$Reader", "readLevel", "(LSamePassers$Law;II)Z"⟩, 7) := ⟨⟨by decide +kernel, by decide +kernel⟩, List.mem_of_getElem? (i := 349) (by decide +kernel), List.mem_of_getElem? (i := 786) (by decide +kernel), List.mem_of_getElem? (i := 787) (by decide +kernel)⟩
theorem lw_p20 : lw_okq (⟨"SamePassers$Reader", "readPart", "(LSamePassers$Law;I)Z"⟩, 7) := ⟨⟨by decide +kernel, by decide +kernel⟩, List.mem_of_getElem? (i := 349) (by decide +kernel), List.mem_of_getElem? (i := 790) (by decide +kernel), List.mem_of_getElem? (i := 791) (by decide +kernel)⟩
theorem lw_p21 : lw_okq (⟨"SamePassers$Reader", "partOf", "(LSamePassers$Law;)I"⟩, 7) := ⟨⟨by decide +kernel, by decide +kernel⟩, List.mem_of_getElem? (i := 349) (by decide +kernel), List.mem_of_getElem? (i := 794) (by decide +kernel), List.mem_of_getElem? (i := 795) (by decide +kernel)⟩
theorem lw_p22 : lw_okq (⟨"SamePassers", "beginStreet", "()V"⟩, 19) := ⟨⟨by decide +kernel, by decide +kernel⟩, List.mem_of_getElem? (i := 28) (by decide +kernel), List.mem_of_getElem? (i := 809) (by decide +kernel), List.mem_of_getElem? (i := 810) (by decide +kernel)⟩
theorem lw_p23 : lw_okq (⟨"SamePassers", "forgetPast", "()V"⟩, 19) := ⟨⟨by decide +kernel, by decide +kernel⟩, List.mem_of_getElem? (i := 28) (by decide +kernel), List.mem_of_getElem? (i := 820) (by decide +kernel), List.mem_of_getElem? (i := 821) (by decide +kernel)⟩
theorem lw_p24 : lw_okq (⟨"SamePassers", "setNow", "()V"⟩, 19) := ⟨⟨by decide +kernel, by decide +kernel⟩, List.mem_of_getElem? (i := 28) (by decide +kernel), List.mem_of_getElem? (i := 824) (by decide +kernel), List.mem_of_getElem? (i := 825) (by decide +kernel)⟩
theorem lw_p25 : lw_okq (⟨"SamePassers$Reader", "readTakesLine", "()Z"⟩, 7) := ⟨⟨by decide +kernel, by decide +kernel⟩, List.mem_of_getElem? (i := 349) (by decide +kernel), List.mem_of_getElem? (i := 857) (by decide +kernel), List.mem_of_getElem? (i := 858) (by decide +kernel)⟩
theorem lw_p26 : lw_okq (⟨"SamePassers", "isWalker", "(I)Z"⟩, 19) := ⟨⟨by decide +kernel, by decide +kernel⟩, List.mem_of_getElem? (i := 28) (by decide +kernel), List.mem_of_getElem? (i := 869) (by decide +kernel), List.mem_of_getElem? (i := 870) (by decide +kernel)⟩
theorem lw_p27 : lw_okq (⟨"SamePassers$Walks", "along", "(IIII)I"⟩, 6) := ⟨⟨by decide +kernel, by decide +kernel⟩, List.mem_of_getElem? (i := 458) (by decide +kernel), List.mem_of_getElem? (i := 885) (by decide +kernel), List.mem_of_getElem? (i := 886) (by decide +kernel)⟩
theorem lw_p28 : lw_okq (⟨"SamePassers", "isWord", "(I)Z"⟩, 19) := ⟨⟨by decide +kernel, by decide +kernel⟩, List.mem_of_getElem? (i := 28) (by decide +kernel), List.mem_of_getElem? (i := 906) (by decide +kernel), List.mem_of_getElem? (i := 907) (by decide +kernel)⟩
theorem lw_p29 : lw_okq (⟨"SamePassers", "isCell", "(I)Z"⟩, 19) := ⟨⟨by decide +kernel, by decide +kernel⟩, List.mem_of_getElem? (i := 28) (by decide +kernel), List.mem_of_getElem? (i := 914) (by decide +kernel), List.mem_of_getElem? (i := 915) (by decide +kernel)⟩
theorem lw_p30 : lw_okq (⟨"SamePassers", "remember", "()V"⟩, 19) := ⟨⟨by decide +kernel, by decide +kernel⟩, List.mem_of_getElem? (i := 28) (by decide +kernel), List.mem_of_getElem? (i := 918) (by decide +kernel), List.mem_of_getElem? (i := 919) (by decide +kernel)⟩
theorem lw_p31 : lw_okq (⟨"SamePassers$Walks", "bumpsAt", "(I)Z"⟩, 6) := ⟨⟨by decide +kernel, by decide +kernel⟩, List.mem_of_getElem? (i := 458) (by decide +kernel), List.mem_of_getElem? (i := 973) (by decide +kernel), List.mem_of_getElem? (i := 974) (by decide +kernel)⟩
def lw_privs_2 : List (MethodName × Nat) := [(⟨"SamePassers$Reader", "readWalkerName", "()Z"⟩, 7), (⟨"SamePassers$Reader", "readRound", "()Z"⟩, 7), (⟨"SamePassers$Reader", "readLaw", "(LSamePassers$Law;)Z"⟩, 7), (⟨"SamePassers$Reader", "readLevel", "(LSamePassers$Law;II)Z"⟩, 7), (⟨"SamePassers$Reader", "readPart", "(LSamePassers$Law;I)Z"⟩, 7), (⟨"SamePassers$Reader", "partOf", "(LSamePassers$Law;)I"⟩, 7), (⟨"SamePassers", "beginStreet", "()V"⟩, 19), (⟨"SamePassers", "forgetPast", "()V"⟩, 19), (⟨"SamePassers", "setNow", "()V"⟩, 19), (⟨"SamePassers$Reader", "readTakesLine", "()Z"⟩, 7), (⟨"SamePassers", "isWalker", "(I)Z"⟩, 19), (⟨"SamePassers$Walks", "along", "(IIII)I"⟩, 6), (⟨"SamePassers", "isWord", "(I)Z"⟩, 19), (⟨"SamePassers", "isCell", "(I)Z"⟩, 19), (⟨"SamePassers", "remember", "()V"⟩, 19), (⟨"SamePassers$Walks", "bumpsAt", "(I)Z"⟩, 6)]
theorem lw_r2 : ∀ q ∈ lw_privs_2, lw_okq q := List.forall_mem_cons.mpr ⟨lw_p16, List.forall_mem_cons.mpr ⟨lw_p17, List.forall_mem_cons.mpr ⟨lw_p18, List.forall_mem_cons.mpr ⟨lw_p19, List.forall_mem_cons.mpr ⟨lw_p20, List.forall_mem_cons.mpr ⟨lw_p21, List.forall_mem_cons.mpr ⟨lw_p22, List.forall_mem_cons.mpr ⟨lw_p23, List.forall_mem_cons.mpr ⟨lw_p24, List.forall_mem_cons.mpr ⟨lw_p25, List.forall_mem_cons.mpr ⟨lw_p26, List.forall_mem_cons.mpr ⟨lw_p27, List.forall_mem_cons.mpr ⟨lw_p28, List.forall_mem_cons.mpr ⟨lw_p29, List.forall_mem_cons.mpr ⟨lw_p30, List.forall_mem_cons.mpr ⟨lw_p31, fun _ h => absurd h List.not_mem_nil⟩⟩⟩⟩⟩⟩⟩⟩⟩⟩⟩⟩⟩⟩⟩⟩
theorem lw_p32 : lw_okq (⟨"SamePassers", "isMust", "(I)Z"⟩, 19) := ⟨⟨by decide +kernel, by decide +kernel⟩, List.mem_of_getElem? (i := 28) (by decide +kernel), List.mem_of_getElem? (i := 1017) (by decide +kernel), List.mem_of_getElem? (i := 1018) (by decide +kernel)⟩
theorem lw_p33 : lw_okq (⟨"SamePassers", "areWalkers", "(I)Z"⟩, 19) := ⟨⟨by decide +kernel, by decide +kernel⟩, List.mem_of_getElem? (i := 28) (by decide +kernel), List.mem_of_getElem? (i := 1042) (by decide +kernel), List.mem_of_getElem? (i := 1043) (by decide +kernel)⟩
theorem lw_p34 : lw_okq (⟨"SamePassers$LagSearch", "fillRow", "(ILSamePassers$Walks;)V"⟩, 9) := ⟨⟨by decide +kernel, by decide +kernel⟩, List.mem_of_getElem? (i := 484) (by decide +kernel), List.mem_of_getElem? (i := 1050) (by decide +kernel), List.mem_of_getElem? (i := 1051) (by decide +kernel)⟩
theorem lw_p35 : lw_okq (⟨"SamePassers$LagSearch", "lagsForMusts", "(I)I"⟩, 9) := ⟨⟨by decide +kernel, by decide +kernel⟩, List.mem_of_getElem? (i := 484) (by decide +kernel), List.mem_of_getElem? (i := 1056) (by decide +kernel), List.mem_of_getElem? (i := 1057) (by decide +kernel)⟩
theorem lw_p36 : lw_okq (⟨"SamePassers$LagSearch", "cellWith", "(III)I"⟩, 9) := ⟨⟨by decide +kernel, by decide +kernel⟩, List.mem_of_getElem? (i := 484) (by decide +kernel), List.mem_of_getElem? (i := 1061) (by decide +kernel), List.mem_of_getElem? (i := 1062) (by decide +kernel)⟩
theorem lw_p37 : lw_okq (⟨"SamePassers$LagSearch", "fillTogether", "()V"⟩, 9) := ⟨⟨by decide +kernel, by decide +kernel⟩, List.mem_of_getElem? (i := 484) (by decide +kernel), List.mem_of_getElem? (i := 1066) (by decide +kernel), List.mem_of_getElem? (i := 1067) (by decide +kernel)⟩
theorem lw_p38 : lw_okq (⟨"SamePassers$LagSearch", "forbidBumps", "(II)V"⟩, 9) := ⟨⟨by decide +kernel, by decide +kernel⟩, List.mem_of_getElem? (i := 484) (by decide +kernel), List.mem_of_getElem? (i := 1071) (by decide +kernel), List.mem_of_getElem? (i := 1072) (by decide +kernel)⟩
theorem lw_p39 : lw_okq (⟨"SamePassers$LagSearch", "firstBump", "(IIII)I"⟩, 9) := ⟨⟨by decide +kernel, by decide +kernel⟩, List.mem_of_getElem? (i := 484) (by decide +kernel), List.mem_of_getElem? (i := 1075) (by decide +kernel), List.mem_of_getElem? (i := 1076) (by decide +kernel)⟩
theorem lw_p40 : lw_okq (⟨"SamePassers$LagSearch", "forbid", "(IIII)V"⟩, 9) := ⟨⟨by decide +kernel, by decide +kernel⟩, List.mem_of_getElem? (i := 484) (by decide +kernel), List.mem_of_getElem? (i := 1079) (by decide +kernel), List.mem_of_getElem? (i := 1080) (by decide +kernel)⟩
theorem lw_p41 : lw_okq (⟨"SamePassers$LagSearch", "search", "(II)V"⟩, 9) := ⟨⟨by decide +kernel, by decide +kernel⟩, List.mem_of_getElem? (i := 484) (by decide +kernel), List.mem_of_getElem? (i := 1084) (by decide +kernel), List.mem_of_getElem? (i := 1085) (by decide +kernel)⟩
theorem lw_p42 : lw_okq (⟨"SamePassers", "seenOnWords", "()J"⟩, 19) := ⟨⟨by decide +kernel, by decide +kernel⟩, List.mem_of_getElem? (i := 28) (by decide +kernel), List.mem_of_getElem? (i := 1093) (by decide +kernel), List.mem_of_getElem? (i := 1094) (by decide +kernel)⟩
theorem lw_p43 : lw_okq (⟨"SamePassers", "fills", "(IIJ)Z"⟩, 19) := ⟨⟨by decide +kernel, by decide +kernel⟩, List.mem_of_getElem? (i := 28) (by decide +kernel), List.mem_of_getElem? (i := 1101) (by decide +kernel), List.mem_of_getElem? (i := 1102) (by decide +kernel)⟩
theorem lw_p44 : lw_okq (⟨"SamePassers", "shoot", "(III)V"⟩, 19) := ⟨⟨by decide +kernel, by decide +kernel⟩, List.mem_of_getElem? (i := 28) (by decide +kernel), List.mem_of_getElem? (i := 1112) (by decide +kernel), List.mem_of_getElem? (i := 1113) (by decide +kernel)⟩
theorem lw_p45 : lw_okq (⟨"SamePassers", "isLane", "(I)Z"⟩, 19) := ⟨⟨by decide +kernel, by decide +kernel⟩, List.mem_of_getElem? (i := 28) (by decide +kernel), List.mem_of_getElem? (i := 1144) (by decide +kernel), List.mem_of_getElem? (i := 1145) (by decide +kernel)⟩
theorem lw_p46 : lw_okq (⟨"SamePassers", "canStandFor", "(III)Z"⟩, 19) := ⟨⟨by decide +kernel, by decide +kernel⟩, List.mem_of_getElem? (i := 28) (by decide +kernel), List.mem_of_getElem? (i := 1157) (by decide +kernel), List.mem_of_getElem? (i := 1158) (by decide +kernel)⟩
theorem lw_p47 : lw_okq (⟨"SamePassers", "secondsOf", "(I)I"⟩, 19) := ⟨⟨by decide +kernel, by decide +kernel⟩, List.mem_of_getElem? (i := 28) (by decide +kernel), List.mem_of_getElem? (i := 1178) (by decide +kernel), List.mem_of_getElem? (i := 1179) (by decide +kernel)⟩
def lw_privs_3 : List (MethodName × Nat) := [(⟨"SamePassers", "isMust", "(I)Z"⟩, 19), (⟨"SamePassers", "areWalkers", "(I)Z"⟩, 19), (⟨"SamePassers$LagSearch", "fillRow", "(ILSamePassers$Walks;)V"⟩, 9), (⟨"SamePassers$LagSearch", "lagsForMusts", "(I)I"⟩, 9), (⟨"SamePassers$LagSearch", "cellWith", "(III)I"⟩, 9), (⟨"SamePassers$LagSearch", "fillTogether", "()V"⟩, 9), (⟨"SamePassers$LagSearch", "forbidBumps", "(II)V"⟩, 9), (⟨"SamePassers$LagSearch", "firstBump", "(IIII)I"⟩, 9), (⟨"SamePassers$LagSearch", "forbid", "(IIII)V"⟩, 9), (⟨"SamePassers$LagSearch", "search", "(II)V"⟩, 9), (⟨"SamePassers", "seenOnWords", "()J"⟩, 19), (⟨"SamePassers", "fills", "(IIJ)Z"⟩, 19), (⟨"SamePassers", "shoot", "(III)V"⟩, 19), (⟨"SamePassers", "isLane", "(I)Z"⟩, 19), (⟨"SamePassers", "canStandFor", "(III)Z"⟩, 19), (⟨"SamePassers", "secondsOf", "(I)I"⟩, 19)]
theorem lw_r3 : ∀ q ∈ lw_privs_3, lw_okq q := List.forall_mem_cons.mpr ⟨lw_p32, List.forall_mem_cons.mpr ⟨lw_p33, List.forall_mem_cons.mpr ⟨lw_p34, List.forall_mem_cons.mpr ⟨lw_p35, List.forall_mem_cons.mpr ⟨lw_p36, List.forall_mem_cons.mpr ⟨lw_p37, List.forall_mem_cons.mpr ⟨lw_p38, List.forall_mem_cons.mpr ⟨lw_p39, List.forall_mem_cons.mpr ⟨lw_p40, List.forall_mem_cons.mpr ⟨lw_p41, List.forall_mem_cons.mpr ⟨lw_p42, List.forall_mem_cons.mpr ⟨lw_p43, List.forall_mem_cons.mpr ⟨lw_p44, List.forall_mem_cons.mpr ⟨lw_p45, List.forall_mem_cons.mpr ⟨lw_p46, List.forall_mem_cons.mpr ⟨lw_p47, fun _ h => absurd h List.not_mem_nil⟩⟩⟩⟩⟩⟩⟩⟩⟩⟩⟩⟩⟩⟩⟩⟩
theorem lw_p48 : lw_okq (⟨"SamePassers", "worthOf", "(I)I"⟩, 19) := ⟨⟨by decide +kernel, by decide +kernel⟩, List.mem_of_getElem? (i := 28) (by decide +kernel), List.mem_of_getElem? (i := 1182) (by decide +kernel), List.mem_of_getElem? (i := 1183) (by decide +kernel)⟩
theorem lw_p49 : lw_okq (⟨"SamePassers$Film", "mostPairs", "(II)I"⟩, 6) := ⟨⟨by decide +kernel, by decide +kernel⟩, List.mem_of_getElem? (i := 522) (by decide +kernel), List.mem_of_getElem? (i := 1212) (by decide +kernel), List.mem_of_getElem? (i := 1213) (by decide +kernel)⟩
theorem lw_p50 : lw_okq (⟨"SamePassers$Film", "findPlace", "(II)Z"⟩, 6) := ⟨⟨by decide +kernel, by decide +kernel⟩, List.mem_of_getElem? (i := 522) (by decide +kernel), List.mem_of_getElem? (i := 1217) (by decide +kernel), List.mem_of_getElem? (i := 1218) (by decide +kernel)⟩
theorem lw_p51 : lw_okq (⟨"SamePassers", "drawLates", "(J)J"⟩, 19) := ⟨⟨by decide +kernel, by decide +kernel⟩, List.mem_of_getElem? (i := 28) (by decide +kernel), List.mem_of_getElem? (i := 1225) (by decide +kernel), List.mem_of_getElem? (i := 1226) (by decide +kernel)⟩
theorem lw_p52 : lw_okq (⟨"java/lang/Throwable", "fillInStackTrace", "(I)Ljava/lang/Throwable;"⟩, 6) := ⟨⟨by decide +kernel, by decide +kernel⟩, List.mem_of_getElem? (i := 1296) (by decide +kernel), List.mem_of_getElem? (i := 1294) (by decide +kernel), List.mem_of_getElem? (i := 1295) (by decide +kernel)⟩
theorem lw_p53 : lw_okq (⟨"SamePassers$Papers", "holds", "(II)Z"⟩, 11) := ⟨⟨by decide +kernel, by decide +kernel⟩, List.mem_of_getElem? (i := 406) (by decide +kernel), List.mem_of_getElem? (i := 1331) (by decide +kernel), List.mem_of_getElem? (i := 1332) (by decide +kernel)⟩
theorem lw_p54 : lw_okq (⟨"SamePassers$Papers", "addLaw", "(III)V"⟩, 11) := ⟨⟨by decide +kernel, by decide +kernel⟩, List.mem_of_getElem? (i := 406) (by decide +kernel), List.mem_of_getElem? (i := 1335) (by decide +kernel), List.mem_of_getElem? (i := 1336) (by decide +kernel)⟩
theorem lw_p55 : lw_okq (⟨"SamePassersModel", "lay", "(J)V"⟩, 40) := ⟨⟨by decide +kernel, by decide +kernel⟩, List.mem_of_getElem? (i := 1351) (by decide +kernel), List.mem_of_getElem? (i := 1349) (by decide +kernel), List.mem_of_getElem? (i := 1350) (by decide +kernel)⟩
theorem lw_p56 : lw_okq (⟨"SamePassersModel", "standsAsAlways", "(I)V"⟩, 40) := ⟨⟨by decide +kernel, by decide +kernel⟩, List.mem_of_getElem? (i := 1351) (by decide +kernel), List.mem_of_getElem? (i := 1393) (by decide +kernel), List.mem_of_getElem? (i := 1394) (by decide +kernel)⟩
theorem lw_p57 : lw_okq (⟨"SamePassersModel", "begins", "()V"⟩, 40) := ⟨⟨by decide +kernel, by decide +kernel⟩, List.mem_of_getElem? (i := 1351) (by decide +kernel), List.mem_of_getElem? (i := 1397) (by decide +kernel), List.mem_of_getElem? (i := 1398) (by decide +kernel)⟩
theorem lw_p58 : lw_okq (⟨"SamePassersModel", "starts", "(I)V"⟩, 40) := ⟨⟨by decide +kernel, by decide +kernel⟩, List.mem_of_getElem? (i := 1351) (by decide +kernel), List.mem_of_getElem? (i := 1401) (by decide +kernel), List.mem_of_getElem? (i := 1402) (by decide +kernel)⟩
theorem lw_p59 : lw_okq (⟨"SamePassersModel", "walkerOf", "(II)I"⟩, 40) := ⟨⟨by decide +kernel, by decide +kernel⟩, List.mem_of_getElem? (i := 1351) (by decide +kernel), List.mem_of_getElem? (i := 1405) (by decide +kernel), List.mem_of_getElem? (i := 1406) (by decide +kernel)⟩
theorem lw_p60 : lw_okq (⟨"SamePassersModel", "cutAll", "()V"⟩, 40) := ⟨⟨by decide +kernel, by decide +kernel⟩, List.mem_of_getElem? (i := 1351) (by decide +kernel), List.mem_of_getElem? (i := 1535) (by decide +kernel), List.mem_of_getElem? (i := 1536) (by decide +kernel)⟩
theorem lw_p61 : lw_okq (⟨"SamePassersModel", "takeWord", "(I)V"⟩, 40) := ⟨⟨by decide +kernel, by decide +kernel⟩, List.mem_of_getElem? (i := 1351) (by decide +kernel), List.mem_of_getElem? (i := 1554) (by decide +kernel), List.mem_of_getElem? (i := 1555) (by decide +kernel)⟩
theorem lw_p62 : lw_okq (⟨"SamePassersModel", "hasWord", "(I)Z"⟩, 40) := ⟨⟨by decide +kernel, by decide +kernel⟩, List.mem_of_getElem? (i := 1351) (by decide +kernel), List.mem_of_getElem? (i := 1558) (by decide +kernel), List.mem_of_getElem? (i := 1559) (by decide +kernel)⟩
theorem lw_p63 : lw_okq (⟨"SamePassersModel", "isWord", "(I)Z"⟩, 40) := ⟨⟨by decide +kernel, by decide +kernel⟩, List.mem_of_getElem? (i := 1351) (by decide +kernel), List.mem_of_getElem? (i := 1562) (by decide +kernel), List.mem_of_getElem? (i := 1563) (by decide +kernel)⟩
def lw_privs_4 : List (MethodName × Nat) := [(⟨"SamePassers", "worthOf", "(I)I"⟩, 19), (⟨"SamePassers$Film", "mostPairs", "(II)I"⟩, 6), (⟨"SamePassers$Film", "findPlace", "(II)Z"⟩, 6), (⟨"SamePassers", "drawLates", "(J)J"⟩, 19), (⟨"java/lang/Throwable", "fillInStackTrace", "(I)Ljava/lang/Throwable;"⟩, 6), (⟨"SamePassers$Papers", "holds", "(II)Z"⟩, 11), (⟨"SamePassers$Papers", "addLaw", "(III)V"⟩, 11), (⟨"SamePassersModel", "lay", "(J)V"⟩, 40), (⟨"SamePassersModel", "standsAsAlways", "(I)V"⟩, 40), (⟨"SamePassersModel", "begins", "()V"⟩, 40), (⟨"SamePassersModel", "starts", "(I)V"⟩, 40), (⟨"SamePassersModel", "walkerOf", "(II)I"⟩, 40), (⟨"SamePassersModel", "cutAll", "()V"⟩, 40), (⟨"SamePassersModel", "takeWord", "(I)V"⟩, 40), (⟨"SamePassersModel", "hasWord", "(I)Z"⟩, 40), (⟨"SamePassersModel", "isWord", "(I)Z"⟩, 40)]
theorem lw_r4 : ∀ q ∈ lw_privs_4, lw_okq q := List.forall_mem_cons.mpr ⟨lw_p48, List.forall_mem_cons.mpr ⟨lw_p49, List.forall_mem_cons.mpr ⟨lw_p50, List.forall_mem_cons.mpr ⟨lw_p51, List.forall_mem_cons.mpr ⟨lw_p52, List.forall_mem_cons.mpr ⟨lw_p53, List.forall_mem_cons.mpr ⟨lw_p54, List.forall_mem_cons.mpr ⟨lw_p55, List.forall_mem_cons.mpr ⟨lw_p56, List.forall_mem_cons.mpr ⟨lw_p57, List.forall_mem_cons.mpr ⟨lw_p58, List.forall_mem_cons.mpr ⟨lw_p59, List.forall_mem_cons.mpr ⟨lw_p60, List.forall_mem_cons.mpr ⟨lw_p61, List.forall_mem_cons.mpr ⟨lw_p62, List.forall_mem_cons.mpr ⟨lw_p63, fun _ h => absurd h List.not_mem_nil⟩⟩⟩⟩⟩⟩⟩⟩⟩⟩⟩⟩⟩⟩⟩⟩
theorem lw_p64 : lw_okq (⟨"SamePassersModel", "wrong", "(I)V"⟩, 40) := ⟨⟨by decide +kernel, by decide +kernel⟩, List.mem_of_getElem? (i := 1351) (by decide +kernel), List.mem_of_getElem? (i := 1566) (by decide +kernel), List.mem_of_getElem? (i := 1567) (by decide +kernel)⟩
theorem lw_p65 : lw_okq (⟨"SamePassersModel", "takeNumber", "(II)I"⟩, 40) := ⟨⟨by decide +kernel, by decide +kernel⟩, List.mem_of_getElem? (i := 1351) (by decide +kernel), List.mem_of_getElem? (i := 1570) (by decide +kernel), List.mem_of_getElem? (i := 1571) (by decide +kernel)⟩
theorem lw_p66 : lw_okq (⟨"SamePassersModel", "takeAfter", "(III)I"⟩, 40) := ⟨⟨by decide +kernel, by decide +kernel⟩, List.mem_of_getElem? (i := 1351) (by decide +kernel), List.mem_of_getElem? (i := 1574) (by decide +kernel), List.mem_of_getElem? (i := 1575) (by decide +kernel)⟩
theorem lw_p67 : lw_okq (⟨"SamePassersModel", "takeSign", "(I)V"⟩, 40) := ⟨⟨by decide +kernel, by decide +kernel⟩, List.mem_of_getElem? (i := 1351) (by decide +kernel), List.mem_of_getElem? (i := 1578) (by decide +kernel), List.mem_of_getElem? (i := 1579) (by decide +kernel)⟩
theorem lw_p68 : lw_okq (⟨"SamePassersModel", "isSign", "(I)Z"⟩, 40) := ⟨⟨by decide +kernel, by decide +kernel⟩, List.mem_of_getElem? (i := 1351) (by decide +kernel), List.mem_of_getElem? (i := 1582) (by decide +kernel), List.mem_of_getElem? (i := 1583) (by decide +kernel)⟩
theorem lw_p69 : lw_okq (⟨"SamePassersModel", "readLine", "()V"⟩, 40) := ⟨⟨by decide +kernel, by decide +kernel⟩, List.mem_of_getElem? (i := 1351) (by decide +kernel), List.mem_of_getElem? (i := 1586) (by decide +kernel), List.mem_of_getElem? (i := 1587) (by decide +kernel)⟩
theorem lw_p70 : lw_okq (⟨"SamePassersModel", "readSay", "()V"⟩, 40) := ⟨⟨by decide +kernel, by decide +kernel⟩, List.mem_of_getElem? (i := 1351) (by decide +kernel), List.mem_of_getElem? (i := 1590) (by decide +kernel), List.mem_of_getElem? (i := 1591) (by decide +kernel)⟩
theorem lw_p71 : lw_okq (⟨"SamePassersModel", "readName", "(I)V"⟩, 40) := ⟨⟨by decide +kernel, by decide +kernel⟩, List.mem_of_getElem? (i := 1351) (by decide +kernel), List.mem_of_getElem? (i := 1594) (by decide +kernel), List.mem_of_getElem? (i := 1595) (by decide +kernel)⟩
theorem lw_p72 : lw_okq (⟨"SamePassersModel", "isName", "()Z"⟩, 40) := ⟨⟨by decide +kernel, by decide +kernel⟩, List.mem_of_getElem? (i := 1351) (by decide +kernel), List.mem_of_getElem? (i := 1598) (by decide +kernel), List.mem_of_getElem? (i := 1599) (by decide +kernel)⟩
theorem lw_p73 : lw_okq (⟨"SamePassersModel", "wordHere", "(II)I"⟩, 40) := ⟨⟨by decide +kernel, by decide +kernel⟩, List.mem_of_getElem? (i := 1351) (by decide +kernel), List.mem_of_getElem? (i := 1602) (by decide +kernel), List.mem_of_getElem? (i := 1603) (by decide +kernel)⟩
theorem lw_p74 : lw_okq (⟨"SamePassersModel", "find", "(Z)I"⟩, 40) := ⟨⟨by decide +kernel, by decide +kernel⟩, List.mem_of_getElem? (i := 1351) (by decide +kernel), List.mem_of_getElem? (i := 1606) (by decide +kernel), List.mem_of_getElem? (i := 1607) (by decide +kernel)⟩
theorem lw_p75 : lw_okq (⟨"SamePassersModel", "readWalker", "()V"⟩, 40) := ⟨⟨by decide +kernel, by decide +kernel⟩, List.mem_of_getElem? (i := 1351) (by decide +kernel), List.mem_of_getElem? (i := 1610) (by decide +kernel), List.mem_of_getElem? (i := 1611) (by decide +kernel)⟩
theorem lw_p76 : lw_okq (⟨"SamePassersModel", "takeOne", "(II)I"⟩, 40) := ⟨⟨by decide +kernel, by decide +kernel⟩, List.mem_of_getElem? (i := 1351) (by decide +kernel), List.mem_of_getElem? (i := 1614) (by decide +kernel), List.mem_of_getElem? (i := 1615) (by decide +kernel)⟩
theorem lw_p77 : lw_okq (⟨"SamePassersModel", "lastCell", "()I"⟩, 40) := ⟨⟨by decide +kernel, by decide +kernel⟩, List.mem_of_getElem? (i := 1351) (by decide +kernel), List.mem_of_getElem? (i := 1618) (by decide +kernel), List.mem_of_getElem? (i := 1619) (by decide +kernel)⟩
theorem lw_p78 : lw_okq (⟨"SamePassersModel", "takeTold", "(ZII)I"⟩, 40) := ⟨⟨by decide +kernel, by decide +kernel⟩, List.mem_of_getElem? (i := 1351) (by decide +kernel), List.mem_of_getElem? (i := 1622) (by decide +kernel), List.mem_of_getElem? (i := 1623) (by decide +kernel)⟩
theorem lw_p79 : lw_okq (⟨"SamePassersModel", "toldHere", "(ZII)I"⟩, 40) := ⟨⟨by decide +kernel, by decide +kernel⟩, List.mem_of_getElem? (i := 1351) (by decide +kernel), List.mem_of_getElem? (i := 1626) (by decide +kernel), List.mem_of_getElem? (i := 1627) (by decide +kernel)⟩
def lw_privs_5 : List (MethodName × Nat) := [(⟨"SamePassersModel", "wrong", "(I)V"⟩, 40), (⟨"SamePassersModel", "takeNumber", "(II)I"⟩, 40), (⟨"SamePassersModel", "takeAfter", "(III)I"⟩, 40), (⟨"SamePassersModel", "takeSign", "(I)V"⟩, 40), (⟨"SamePassersModel", "isSign", "(I)Z"⟩, 40), (⟨"SamePassersModel", "readLine", "()V"⟩, 40), (⟨"SamePassersModel", "readSay", "()V"⟩, 40), (⟨"SamePassersModel", "readName", "(I)V"⟩, 40), (⟨"SamePassersModel", "isName", "()Z"⟩, 40), (⟨"SamePassersModel", "wordHere", "(II)I"⟩, 40), (⟨"SamePassersModel", "find", "(Z)I"⟩, 40), (⟨"SamePassersModel", "readWalker", "()V"⟩, 40), (⟨"SamePassersModel", "takeOne", "(II)I"⟩, 40), (⟨"SamePassersModel", "lastCell", "()I"⟩, 40), (⟨"SamePassersModel", "takeTold", "(ZII)I"⟩, 40), (⟨"SamePassersModel", "toldHere", "(ZII)I"⟩, 40)]
theorem lw_r5 : ∀ q ∈ lw_privs_5, lw_okq q := List.forall_mem_cons.mpr ⟨lw_p64, List.forall_mem_cons.mpr ⟨lw_p65, List.forall_mem_cons.mpr ⟨lw_p66, List.forall_mem_cons.mpr ⟨lw_p67, List.forall_mem_cons.mpr ⟨lw_p68, List.forall_mem_cons.mpr ⟨lw_p69, List.forall_mem_cons.mpr ⟨lw_p70, List.forall_mem_cons.mpr ⟨lw_p71, List.forall_mem_cons.mpr ⟨lw_p72, List.forall_mem_cons.mpr ⟨lw_p73, List.forall_mem_cons.mpr ⟨lw_p74, List.forall_mem_cons.mpr ⟨lw_p75, List.forall_mem_cons.mpr ⟨lw_p76, List.forall_mem_cons.mpr ⟨lw_p77, List.forall_mem_cons.mpr ⟨lw_p78, List.forall_mem_cons.mpr ⟨lw_p79, fun _ h => absurd h List.not_mem_nil⟩⟩⟩⟩⟩⟩⟩⟩⟩⟩⟩⟩⟩⟩⟩⟩
theorem lw_p80 : lw_okq (⟨"SamePassersModel", "readMust", "()V"⟩, 40) := ⟨⟨by decide +kernel, by decide +kernel⟩, List.mem_of_getElem? (i := 1351) (by decide +kernel), List.mem_of_getElem? (i := 1633) (by decide +kernel), List.mem_of_getElem? (i := 1634) (by decide +kernel)⟩
theorem lw_p81 : lw_okq (⟨"SamePassersModel", "readOnce", "()V"⟩, 40) := ⟨⟨by decide +kernel, by decide +kernel⟩, List.mem_of_getElem? (i := 1351) (by decide +kernel), List.mem_of_getElem? (i := 1637) (by decide +kernel), List.mem_of_getElem? (i := 1638) (by decide +kernel)⟩
theorem lw_p82 : lw_okq (⟨"SamePassersModel", "all", "(I)V"⟩, 40) := ⟨⟨by decide +kernel, by decide +kernel⟩, List.mem_of_getElem? (i := 1351) (by decide +kernel), List.mem_of_getElem? (i := 1641) (by decide +kernel), List.mem_of_getElem? (i := 1642) (by decide +kernel)⟩
theorem lw_p83 : lw_okq (⟨"SamePassersModel", "test", "(I)V"⟩, 40) := ⟨⟨by decide +kernel, by decide +kernel⟩, List.mem_of_getElem? (i := 1351) (by decide +kernel), List.mem_of_getElem? (i := 1645) (by decide +kernel), List.mem_of_getElem? (i := 1646) (by decide +kernel)⟩
theorem lw_p84 : lw_okq (⟨"SamePassersModel", "sums", "(I)V"⟩, 40) := ⟨⟨by decide +kernel, by decide +kernel⟩, List.mem_of_getElem? (i := 1351) (by decide +kernel), List.mem_of_getElem? (i := 1649) (by decide +kernel), List.mem_of_getElem? (i := 1650) (by decide +kernel)⟩
theorem lw_p85 : lw_okq (⟨"SamePassersModel", "products", "(I)V"⟩, 40) := ⟨⟨by decide +kernel, by decide +kernel⟩, List.mem_of_getElem? (i := 1351) (by decide +kernel), List.mem_of_getElem? (i := 1653) (by decide +kernel), List.mem_of_getElem? (i := 1654) (by decide +kernel)⟩
theorem lw_p86 : lw_okq (⟨"SamePassersModel", "takePart", "(I)V"⟩, 40) := ⟨⟨by decide +kernel, by decide +kernel⟩, List.mem_of_getElem? (i := 1351) (by decide +kernel), List.mem_of_getElem? (i := 1657) (by decide +kernel), List.mem_of_getElem? (i := 1658) (by decide +kernel)⟩
theorem lw_p87 : lw_okq (⟨"SamePassersModel", "emit", "(II)V"⟩, 40) := ⟨⟨by decide +kernel, by decide +kernel⟩, List.mem_of_getElem? (i := 1351) (by decide +kernel), List.mem_of_getElem? (i := 1661) (by decide +kernel), List.mem_of_getElem? (i := 1662) (by decide +kernel)⟩
theorem lw_p88 : lw_okq (⟨"SamePassersModel", "hasSign", "(I)Z"⟩, 40) := ⟨⟨by decide +kernel, by decide +kernel⟩, List.mem_of_getElem? (i := 1351) (by decide +kernel), List.mem_of_getElem? (i := 1665) (by decide +kernel), List.mem_of_getElem? (i := 1666) (by decide +kernel)⟩
theorem lw_p89 : lw_okq (⟨"SamePassersModel", "isWalker", "(I)Z"⟩, 40) := ⟨⟨by decide +kernel, by decide +kernel⟩, List.mem_of_getElem? (i := 1351) (by decide +kernel), List.mem_of_getElem? (i := 1677) (by decide +kernel), List.mem_of_getElem? (i := 1678) (by decide +kernel)⟩
theorem lw_p90 : lw_okq (⟨"SamePassersModel", "walkers", "()I"⟩, 40) := ⟨⟨by decide +kernel, by decide +kernel⟩, List.mem_of_getElem? (i := 1351) (by decide +kernel), List.mem_of_getElem? (i := 1681) (by decide +kernel), List.mem_of_getElem? (i := 1682) (by decide +kernel)⟩
theorem lw_p91 : lw_okq (⟨"SamePassersModel", "tempoOf", "(II)I"⟩, 40) := ⟨⟨by decide +kernel, by decide +kernel⟩, List.mem_of_getElem? (i := 1351) (by decide +kernel), List.mem_of_getElem? (i := 1685) (by decide +kernel), List.mem_of_getElem? (i := 1686) (by decide +kernel)⟩
theorem lw_p92 : lw_okq (⟨"SamePassersModel", "worthAt", "(I)I"⟩, 40) := ⟨⟨by decide +kernel, by decide +kernel⟩, List.mem_of_getElem? (i := 1351) (by decide +kernel), List.mem_of_getElem? (i := 1689) (by decide +kernel), List.mem_of_getElem? (i := 1690) (by decide +kernel)⟩
theorem lw_p93 : lw_okq (⟨"SamePassersModel", "passesOf", "(I)I"⟩, 40) := ⟨⟨by decide +kernel, by decide +kernel⟩, List.mem_of_getElem? (i := 1351) (by decide +kernel), List.mem_of_getElem? (i := 1696) (by decide +kernel), List.mem_of_getElem? (i := 1697) (by decide +kernel)⟩
theorem lw_p94 : lw_okq (⟨"SamePassersModel", "behindOf", "(II)I"⟩, 40) := ⟨⟨by decide +kernel, by decide +kernel⟩, List.mem_of_getElem? (i := 1351) (by decide +kernel), List.mem_of_getElem? (i := 1700) (by decide +kernel), List.mem_of_getElem? (i := 1701) (by decide +kernel)⟩
theorem lw_p95 : lw_okq (⟨"SamePassersModel", "placeOf", "(IIIIII)I"⟩, 40) := ⟨⟨by decide +kernel, by decide +kernel⟩, List.mem_of_getElem? (i := 1351) (by decide +kernel), List.mem_of_getElem? (i := 1704) (by decide +kernel), List.mem_of_getElem? (i := 1705) (by decide +kernel)⟩
def lw_privs_6 : List (MethodName × Nat) := [(⟨"SamePassersModel", "readMust", "()V"⟩, 40), (⟨"SamePassersModel", "readOnce", "()V"⟩, 40), (⟨"SamePassersModel", "all", "(I)V"⟩, 40), (⟨"SamePassersModel", "test", "(I)V"⟩, 40), (⟨"SamePassersModel", "sums", "(I)V"⟩, 40), (⟨"SamePassersModel", "products", "(I)V"⟩, 40), (⟨"SamePassersModel", "takePart", "(I)V"⟩, 40), (⟨"SamePassersModel", "emit", "(II)V"⟩, 40), (⟨"SamePassersModel", "hasSign", "(I)Z"⟩, 40), (⟨"SamePassersModel", "isWalker", "(I)Z"⟩, 40), (⟨"SamePassersModel", "walkers", "()I"⟩, 40), (⟨"SamePassersModel", "tempoOf", "(II)I"⟩, 40), (⟨"SamePassersModel", "worthAt", "(I)I"⟩, 40), (⟨"SamePassersModel", "passesOf", "(I)I"⟩, 40), (⟨"SamePassersModel", "behindOf", "(II)I"⟩, 40), (⟨"SamePassersModel", "placeOf", "(IIIIII)I"⟩, 40)]
theorem lw_r6 : ∀ q ∈ lw_privs_6, lw_okq q := List.forall_mem_cons.mpr ⟨lw_p80, List.forall_mem_cons.mpr ⟨lw_p81, List.forall_mem_cons.mpr ⟨lw_p82, List.forall_mem_cons.mpr ⟨lw_p83, List.forall_mem_cons.mpr ⟨lw_p84, List.forall_mem_cons.mpr ⟨lw_p85, List.forall_mem_cons.mpr ⟨lw_p86, List.forall_mem_cons.mpr ⟨lw_p87, List.forall_mem_cons.mpr ⟨lw_p88, List.forall_mem_cons.mpr ⟨lw_p89, List.forall_mem_cons.mpr ⟨lw_p90, List.forall_mem_cons.mpr ⟨lw_p91, List.forall_mem_cons.mpr ⟨lw_p92, List.forall_mem_cons.mpr ⟨lw_p93, List.forall_mem_cons.mpr ⟨lw_p94, List.forall_mem_cons.mpr ⟨lw_p95, fun _ h => absurd h List.not_mem_nil⟩⟩⟩⟩⟩⟩⟩⟩⟩⟩⟩⟩⟩⟩⟩⟩
theorem lw_p96 : lw_okq (⟨"SamePassersModel", "cells", "()I"⟩, 40) := ⟨⟨by decide +kernel, by decide +kernel⟩, List.mem_of_getElem? (i := 1351) (by decide +kernel), List.mem_of_getElem? (i := 1708) (by decide +kernel), List.mem_of_getElem? (i := 1709) (by decide +kernel)⟩
theorem lw_p97 : lw_okq (⟨"SamePassersModel", "cueOf", "(I)I"⟩, 40) := ⟨⟨by decide +kernel, by decide +kernel⟩, List.mem_of_getElem? (i := 1351) (by decide +kernel), List.mem_of_getElem? (i := 1712) (by decide +kernel), List.mem_of_getElem? (i := 1713) (by decide +kernel)⟩
theorem lw_p98 : lw_okq (⟨"SamePassersModel", "tenthOf", "(I)I"⟩, 40) := ⟨⟨by decide +kernel, by decide +kernel⟩, List.mem_of_getElem? (i := 1351) (by decide +kernel), List.mem_of_getElem? (i := 1716) (by decide +kernel), List.mem_of_getElem? (i := 1717) (by decide +kernel)⟩
theorem lw_p99 : lw_okq (⟨"SamePassersModel", "sightOf", "(II)I"⟩, 40) := ⟨⟨by decide +kernel, by decide +kernel⟩, List.mem_of_getElem? (i := 1351) (by decide +kernel), List.mem_of_getElem? (i := 1720) (by decide +kernel), List.mem_of_getElem? (i := 1721) (by decide +kernel)⟩
theorem lw_p100 : lw_okq (⟨"SamePassersModel", "isFramed", "(I)Z"⟩, 40) := ⟨⟨by decide +kernel, by decide +kernel⟩, List.mem_of_getElem? (i := 1351) (by decide +kernel), List.mem_of_getElem? (i := 1724) (by decide +kernel), List.mem_of_getElem? (i := 1725) (by decide +kernel)⟩
theorem lw_p101 : lw_okq (⟨"SamePassersModel", "knownOf", "(I)I"⟩, 40) := ⟨⟨by decide +kernel, by decide +kernel⟩, List.mem_of_getElem? (i := 1351) (by decide +kernel), List.mem_of_getElem? (i := 1728) (by decide +kernel), List.mem_of_getElem? (i := 1729) (by decide +kernel)⟩
theorem lw_p102 : lw_okq (⟨"SamePassersModel", "isSaid", "(I)Z"⟩, 40) := ⟨⟨by decide +kernel, by decide +kernel⟩, List.mem_of_getElem? (i := 1351) (by decide +kernel), List.mem_of_getElem? (i := 1736) (by decide +kernel), List.mem_of_getElem? (i := 1737) (by decide +kernel)⟩
theorem lw_p103 : lw_okq (⟨"SamePassersModel", "saidMany", "()I"⟩, 40) := ⟨⟨by decide +kernel, by decide +kernel⟩, List.mem_of_getElem? (i := 1351) (by decide +kernel), List.mem_of_getElem? (i := 1740) (by decide +kernel), List.mem_of_getElem? (i := 1741) (by decide +kernel)⟩
theorem lw_p104 : lw_okq (⟨"SamePassersModel", "keeps", "()V"⟩, 40) := ⟨⟨by decide +kernel, by decide +kernel⟩, List.mem_of_getElem? (i := 1351) (by decide +kernel), List.mem_of_getElem? (i := 1748) (by decide +kernel), List.mem_of_getElem? (i := 1749) (by decide +kernel)⟩
theorem lw_p105 : lw_okq (⟨"SamePassersModel", "copies", "(III)V"⟩, 40) := ⟨⟨by decide +kernel, by decide +kernel⟩, List.mem_of_getElem? (i := 1351) (by decide +kernel), List.mem_of_getElem? (i := 1752) (by decide +kernel), List.mem_of_getElem? (i := 1753) (by decide +kernel)⟩
theorem lw_p106 : lw_okq (⟨"SamePassersModel", "next", "(I)V"⟩, 40) := ⟨⟨by decide +kernel, by decide +kernel⟩, List.mem_of_getElem? (i := 1351) (by decide +kernel), List.mem_of_getElem? (i := 1768) (by decide +kernel), List.mem_of_getElem? (i := 1769) (by decide +kernel)⟩
theorem lw_p107 : lw_okq (⟨"SamePassersModel", "isGood", "(I)Z"⟩, 40) := ⟨⟨by decide +kernel, by decide +kernel⟩, List.mem_of_getElem? (i := 1351) (by decide +kernel), List.mem_of_getElem? (i := 1780) (by decide +kernel), List.mem_of_getElem? (i := 1781) (by decide +kernel)⟩
theorem lw_p108 : lw_okq (⟨"SamePassersModel", "missedIn", "(I)I"⟩, 40) := ⟨⟨by decide +kernel, by decide +kernel⟩, List.mem_of_getElem? (i := 1351) (by decide +kernel), List.mem_of_getElem? (i := 1784) (by decide +kernel), List.mem_of_getElem? (i := 1785) (by decide +kernel)⟩
theorem lw_p109 : lw_okq (⟨"SamePassersModel", "musts", "()I"⟩, 40) := ⟨⟨by decide +kernel, by decide +kernel⟩, List.mem_of_getElem? (i := 1351) (by decide +kernel), List.mem_of_getElem? (i := 1788) (by decide +kernel), List.mem_of_getElem? (i := 1789) (by decide +kernel)⟩
theorem lw_p110 : lw_okq (⟨"SamePassersModel", "offIn", "(IIZI)I"⟩, 40) := ⟨⟨by decide +kernel, by decide +kernel⟩, List.mem_of_getElem? (i := 1351) (by decide +kernel), List.mem_of_getElem? (i := 1792) (by decide +kernel), List.mem_of_getElem? (i := 1793) (by decide +kernel)⟩
theorem lw_p111 : lw_okq (⟨"SamePassersModel", "mustOf", "(II)I"⟩, 40) := ⟨⟨by decide +kernel, by decide +kernel⟩, List.mem_of_getElem? (i := 1351) (by decide +kernel), List.mem_of_getElem? (i := 1796) (by decide +kernel), List.mem_of_getElem? (i := 1797) (by decide +kernel)⟩
def lw_privs_7 : List (MethodName × Nat) := [(⟨"SamePassersModel", "cells", "()I"⟩, 40), (⟨"SamePassersModel", "cueOf", "(I)I"⟩, 40), (⟨"SamePassersModel", "tenthOf", "(I)I"⟩, 40), (⟨"SamePassersModel", "sightOf", "(II)I"⟩, 40), (⟨"SamePassersModel", "isFramed", "(I)Z"⟩, 40), (⟨"SamePassersModel", "knownOf", "(I)I"⟩, 40), (⟨"SamePassersModel", "isSaid", "(I)Z"⟩, 40), (⟨"SamePassersModel", "saidMany", "()I"⟩, 40), (⟨"SamePassersModel", "keeps", "()V"⟩, 40), (⟨"SamePassersModel", "copies", "(III)V"⟩, 40), (⟨"SamePassersModel", "next", "(I)V"⟩, 40), (⟨"SamePassersModel", "isGood", "(I)Z"⟩, 40), (⟨"SamePassersModel", "missedIn", "(I)I"⟩, 40), (⟨"SamePassersModel", "musts", "()I"⟩, 40), (⟨"SamePassersModel", "offIn", "(IIZI)I"⟩, 40), (⟨"SamePassersModel", "mustOf", "(II)I"⟩, 40)]
theorem lw_r7 : ∀ q ∈ lw_privs_7, lw_okq q := List.forall_mem_cons.mpr ⟨lw_p96, List.forall_mem_cons.mpr ⟨lw_p97, List.forall_mem_cons.mpr ⟨lw_p98, List.forall_mem_cons.mpr ⟨lw_p99, List.forall_mem_cons.mpr ⟨lw_p100, List.forall_mem_cons.mpr ⟨lw_p101, List.forall_mem_cons.mpr ⟨lw_p102, List.forall_mem_cons.mpr ⟨lw_p103, List.forall_mem_cons.mpr ⟨lw_p104, List.forall_mem_cons.mpr ⟨lw_p105, List.forall_mem_cons.mpr ⟨lw_p106, List.forall_mem_cons.mpr ⟨lw_p107, List.forall_mem_cons.mpr ⟨lw_p108, List.forall_mem_cons.mpr ⟨lw_p109, List.forall_mem_cons.mpr ⟨lw_p110, List.forall_mem_cons.mpr ⟨lw_p111, fun _ h => absurd h List.not_mem_nil⟩⟩⟩⟩⟩⟩⟩⟩⟩⟩⟩⟩⟩⟩⟩⟩
theorem lw_p112 : lw_okq (⟨"SamePassersModel", "placeIn", "(IIZII)I"⟩, 40) := ⟨⟨by decide +kernel, by decide +kernel⟩, List.mem_of_getElem? (i := 1351) (by decide +kernel), List.mem_of_getElem? (i := 1800) (by decide +kernel), List.mem_of_getElem? (i := 1801) (by decide +kernel)⟩
theorem lw_p113 : lw_okq (⟨"SamePassersModel", "bumpOf", "(III)I"⟩, 40) := ⟨⟨by decide +kernel, by decide +kernel⟩, List.mem_of_getElem? (i := 1351) (by decide +kernel), List.mem_of_getElem? (i := 1804) (by decide +kernel), List.mem_of_getElem? (i := 1805) (by decide +kernel)⟩
theorem lw_p114 : lw_okq (⟨"SamePassersModel", "placeNow", "(II)I"⟩, 40) := ⟨⟨by decide +kernel, by decide +kernel⟩, List.mem_of_getElem? (i := 1351) (by decide +kernel), List.mem_of_getElem? (i := 1812) (by decide +kernel), List.mem_of_getElem? (i := 1813) (by decide +kernel)⟩
theorem lw_p115 : lw_okq (⟨"SamePassersModel", "lanes", "()I"⟩, 40) := ⟨⟨by decide +kernel, by decide +kernel⟩, List.mem_of_getElem? (i := 1351) (by decide +kernel), List.mem_of_getElem? (i := 1845) (by decide +kernel), List.mem_of_getElem? (i := 1846) (by decide +kernel)⟩
theorem lw_p116 : lw_okq (⟨"SamePassersModel", "laysFits", "()V"⟩, 40) := ⟨⟨by decide +kernel, by decide +kernel⟩, List.mem_of_getElem? (i := 1351) (by decide +kernel), List.mem_of_getElem? (i := 1861) (by decide +kernel), List.mem_of_getElem? (i := 1862) (by decide +kernel)⟩
theorem lw_p117 : lw_okq (⟨"SamePassersModel", "doHold", "(II)Z"⟩, 40) := ⟨⟨by decide +kernel, by decide +kernel⟩, List.mem_of_getElem? (i := 1351) (by decide +kernel), List.mem_of_getElem? (i := 1865) (by decide +kernel), List.mem_of_getElem? (i := 1866) (by decide +kernel)⟩
theorem lw_p118 : lw_okq (⟨"SamePassersModel", "laggedPlace", "(III)I"⟩, 40) := ⟨⟨by decide +kernel, by decide +kernel⟩, List.mem_of_getElem? (i := 1351) (by decide +kernel), List.mem_of_getElem? (i := 1869) (by decide +kernel), List.mem_of_getElem? (i := 1870) (by decide +kernel)⟩
theorem lw_p119 : lw_okq (⟨"SamePassersModel", "fitAt", "(IIII)I"⟩, 40) := ⟨⟨by decide +kernel, by decide +kernel⟩, List.mem_of_getElem? (i := 1351) (by decide +kernel), List.mem_of_getElem? (i := 1873) (by decide +kernel), List.mem_of_getElem? (i := 1874) (by decide +kernel)⟩
theorem lw_p120 : lw_okq (⟨"SamePassersModel", "goTogether", "(IIII)Z"⟩, 40) := ⟨⟨by decide +kernel, by decide +kernel⟩, List.mem_of_getElem? (i := 1351) (by decide +kernel), List.mem_of_getElem? (i := 1877) (by decide +kernel), List.mem_of_getElem? (i := 1878) (by decide +kernel)⟩
theorem lw_p121 : lw_okq (⟨"SamePassersModel", "goesThrough", "(II)V"⟩, 40) := ⟨⟨by decide +kernel, by decide +kernel⟩, List.mem_of_getElem? (i := 1351) (by decide +kernel), List.mem_of_getElem? (i := 1881) (by decide +kernel), List.mem_of_getElem? (i := 1882) (by decide +kernel)⟩
theorem lw_p122 : lw_okq (⟨"SamePassersModel", "allJumps", "(IIII)I"⟩, 40) := ⟨⟨by decide +kernel, by decide +kernel⟩, List.mem_of_getElem? (i := 1351) (by decide +kernel), List.mem_of_getElem? (i := 1893) (by decide +kernel), List.mem_of_getElem? (i := 1894) (by decide +kernel)⟩
theorem lw_p123 : lw_okq (⟨"SamePassersModel", "jumpOf", "(IIIII)I"⟩, 40) := ⟨⟨by decide +kernel, by decide +kernel⟩, List.mem_of_getElem? (i := 1351) (by decide +kernel), List.mem_of_getElem? (i := 1897) (by decide +kernel), List.mem_of_getElem? (i := 1898) (by decide +kernel)⟩
theorem lw_p124 : lw_okq (⟨"SamePassersModel", "isAlike", "(III)Z"⟩, 40) := ⟨⟨by decide +kernel, by decide +kernel⟩, List.mem_of_getElem? (i := 1351) (by decide +kernel), List.mem_of_getElem? (i := 1913) (by decide +kernel), List.mem_of_getElem? (i := 1914) (by decide +kernel)⟩
theorem lw_p125 : lw_okq (⟨"SamePassersModel", "isLaw", "(II)Z"⟩, 40) := ⟨⟨by decide +kernel, by decide +kernel⟩, List.mem_of_getElem? (i := 1351) (by decide +kernel), List.mem_of_getElem? (i := 1929) (by decide +kernel), List.mem_of_getElem? (i := 1930) (by decide +kernel)⟩
theorem lw_p126 : lw_okq (⟨"SamePassersModel", "matched", "()I"⟩, 40) := ⟨⟨by decide +kernel, by decide +kernel⟩, List.mem_of_getElem? (i := 1351) (by decide +kernel), List.mem_of_getElem? (i := 1945) (by decide +kernel), List.mem_of_getElem? (i := 1946) (by decide +kernel)⟩
theorem lw_p127 : lw_okq (⟨"SamePassersModel", "finds", "(I)Z"⟩, 40) := ⟨⟨by decide +kernel, by decide +kernel⟩, List.mem_of_getElem? (i := 1351) (by decide +kernel), List.mem_of_getElem? (i := 1949) (by decide +kernel), List.mem_of_getElem? (i := 1950) (by decide +kernel)⟩
def lw_privs_8 : List (MethodName × Nat) := [(⟨"SamePassersModel", "placeIn", "(IIZII)I"⟩, 40), (⟨"SamePassersModel", "bumpOf", "(III)I"⟩, 40), (⟨"SamePassersModel", "placeNow", "(II)I"⟩, 40), (⟨"SamePassersModel", "lanes", "()I"⟩, 40), (⟨"SamePassersModel", "laysFits", "()V"⟩, 40), (⟨"SamePassersModel", "doHold", "(II)Z"⟩, 40), (⟨"SamePassersModel", "laggedPlace", "(III)I"⟩, 40), (⟨"SamePassersModel", "fitAt", "(IIII)I"⟩, 40), (⟨"SamePassersModel", "goTogether", "(IIII)Z"⟩, 40), (⟨"SamePassersModel", "goesThrough", "(II)V"⟩, 40), (⟨"SamePassersModel", "allJumps", "(IIII)I"⟩, 40), (⟨"SamePassersModel", "jumpOf", "(IIIII)I"⟩, 40), (⟨"SamePassersModel", "isAlike", "(III)Z"⟩, 40), (⟨"SamePassersModel", "isLaw", "(II)Z"⟩, 40), (⟨"SamePassersModel", "matched", "()I"⟩, 40), (⟨"SamePassersModel", "finds", "(I)Z"⟩, 40)]
theorem lw_r8 : ∀ q ∈ lw_privs_8, lw_okq q := List.forall_mem_cons.mpr ⟨lw_p112, List.forall_mem_cons.mpr ⟨lw_p113, List.forall_mem_cons.mpr ⟨lw_p114, List.forall_mem_cons.mpr ⟨lw_p115, List.forall_mem_cons.mpr ⟨lw_p116, List.forall_mem_cons.mpr ⟨lw_p117, List.forall_mem_cons.mpr ⟨lw_p118, List.forall_mem_cons.mpr ⟨lw_p119, List.forall_mem_cons.mpr ⟨lw_p120, List.forall_mem_cons.mpr ⟨lw_p121, List.forall_mem_cons.mpr ⟨lw_p122, List.forall_mem_cons.mpr ⟨lw_p123, List.forall_mem_cons.mpr ⟨lw_p124, List.forall_mem_cons.mpr ⟨lw_p125, List.forall_mem_cons.mpr ⟨lw_p126, List.forall_mem_cons.mpr ⟨lw_p127, fun _ h => absurd h List.not_mem_nil⟩⟩⟩⟩⟩⟩⟩⟩⟩⟩⟩⟩⟩⟩⟩⟩
theorem lw_p128 : lw_okq (⟨"SamePassersModel", "mayBe", "(II)Z"⟩, 40) := ⟨⟨by decide +kernel, by decide +kernel⟩, List.mem_of_getElem? (i := 1351) (by decide +kernel), List.mem_of_getElem? (i := 1953) (by decide +kernel), List.mem_of_getElem? (i := 1954) (by decide +kernel)⟩
theorem lw_p129 : lw_okq (⟨"SamePassersModel", "canFollow", "(II)Z"⟩, 40) := ⟨⟨by decide +kernel, by decide +kernel⟩, List.mem_of_getElem? (i := 1351) (by decide +kernel), List.mem_of_getElem? (i := 1957) (by decide +kernel), List.mem_of_getElem? (i := 1958) (by decide +kernel)⟩
theorem lw_p130 : lw_okq (⟨"SamePassersModel", "laysNext", "(I)V"⟩, 40) := ⟨⟨by decide +kernel, by decide +kernel⟩, List.mem_of_getElem? (i := 1351) (by decide +kernel), List.mem_of_getElem? (i := 1961) (by decide +kernel), List.mem_of_getElem? (i := 1962) (by decide +kernel)⟩
theorem lw_p131 : lw_okq (⟨"SamePassersModel", "isTaken", "(II)Z"⟩, 40) := ⟨⟨by decide +kernel, by decide +kernel⟩, List.mem_of_getElem? (i := 1351) (by decide +kernel), List.mem_of_getElem? (i := 1965) (by decide +kernel), List.mem_of_getElem? (i := 1966) (by decide +kernel)⟩
theorem lw_p132 : lw_okq (⟨"SamePassersModel", "draw", "(I)I"⟩, 40) := ⟨⟨by decide +kernel, by decide +kernel⟩, List.mem_of_getElem? (i := 1351) (by decide +kernel), List.mem_of_getElem? (i := 1973) (by decide +kernel), List.mem_of_getElem? (i := 1974) (by decide +kernel)⟩
def lw_privs_9 : List (MethodName × Nat) := [(⟨"SamePassersModel", "mayBe", "(II)Z"⟩, 40), (⟨"SamePassersModel", "canFollow", "(II)Z"⟩, 40), (⟨"SamePassersModel", "laysNext", "(I)V"⟩, 40), (⟨"SamePassersModel", "isTaken", "(II)Z"⟩, 40), (⟨"SamePassersModel", "draw", "(I)I"⟩, 40)]
theorem lw_r9 : ∀ q ∈ lw_privs_9, lw_okq q := List.forall_mem_cons.mpr ⟨lw_p128, List.forall_mem_cons.mpr ⟨lw_p129, List.forall_mem_cons.mpr ⟨lw_p130, List.forall_mem_cons.mpr ⟨lw_p131, List.forall_mem_cons.mpr ⟨lw_p132, fun _ h => absurd h List.not_mem_nil⟩⟩⟩⟩⟩
def lw_privs : List (MethodName × Nat) := lw_privs_1 ++ (lw_privs_2 ++ (lw_privs_3 ++ (lw_privs_4 ++ (lw_privs_5 ++ (lw_privs_6 ++ (lw_privs_7 ++ (lw_privs_8 ++ (lw_privs_9))))))))
def lw_tbl : List Cond := k2_sels lw_privs ++ tables_1
theorem lw_privs_ok : ∀ q ∈ lw_privs, lw_okq q := by
  show ∀ q ∈ lw_privs_1 ++ (lw_privs_2 ++ (lw_privs_3 ++ (lw_privs_4 ++ (lw_privs_5 ++ (lw_privs_6 ++ (lw_privs_7 ++ (lw_privs_8 ++ (lw_privs_9)))))))), lw_okq q
  exact List.forall_mem_append.mpr ⟨lw_r1, List.forall_mem_append.mpr ⟨lw_r2, List.forall_mem_append.mpr ⟨lw_r3, List.forall_mem_append.mpr ⟨lw_r4, List.forall_mem_append.mpr ⟨lw_r5, List.forall_mem_append.mpr ⟨lw_r6, List.forall_mem_append.mpr ⟨lw_r7, List.forall_mem_append.mpr ⟨lw_r8, lw_r9⟩⟩⟩⟩⟩⟩⟩⟩
end
section
theorem goodIn_r {big : List Cond} (ws : List Cond) (ps : List Nat) (hp : ws = ps.filterMap (fun i => big[i]?)) (h : ws.all goodWord = true) : GoodIn big ws := by
  intro w hw
  have h1 := List.all_eq_true.mp h w hw
  rw [hp] at hw
  obtain ⟨i, -, hi⟩ := List.mem_filterMap.mp hw
  have hm : w ∈ big := by first | exact List.mem_of_getElem? hi | exact List.getElem?_mem hi
  exact ⟨hm, good_of_word h1⟩
theorem goodIn_app {big a b : List Cond} (ha : GoodIn big a) (hb : GoodIn big b) : GoodIn big (a ++ b) := fun w h => (List.mem_append.mp h).elim (ha w) (hb w)
theorem goodIn_ca {big a b : List Cond} {c : Cond} (ha : GoodIn big (c :: a)) (hb : GoodIn big b) : GoodIn big (c :: (a ++ b)) := fun w h => (List.mem_cons.mp h).elim (fun e => ha w (List.mem_cons.mpr (Or.inl e))) (fun h => (List.mem_append.mp h).elim (fun h => ha w (List.mem_cons.mpr (Or.inr h))) (hb w))
theorem goodIn_sub {big ws : List Cond} (hm : ∀ w ∈ ws, w ∈ big) (h : ws.all goodWord = true) : GoodIn big ws := fun w hw => ⟨hm w hw, good_of_word (List.all_eq_true.mp h w hw)⟩
end
section
/-! ===== BEGIN printed: names, fields, word lists, decode rows ===== -/
def RX0 : String := "SamePassers$Film"
def TX0 : u_T := fun k => match k with
  | 0 => ("SamePassers$Film", "shots", "[[I", true)
  | 1 => ("SamePassers$Film", "canFollow", "[I", true)
  | 2 => ("SamePassers$Film", "before", "[I", true)
  | 3 => ("SamePassers$Film", "sights", "I", false)
  | 4 => ("SamePassers$Film", "closed", "I", false)
  | _ => ("SamePassers$Film", "next", "[I", true)
def tyX0 : Nat → FieldType := fun k => match k with
  | 0 => .array (.array .int)
  | 1 => .array .int
  | 2 => .array .int
  | 3 => .int
  | 4 => .int
  | _ => .array .int
abbrev wsX00 : List Cond := u_ws RX0 TX0 6
theorem nmX0 : ∀ a, a < 6 → ∀ b, b < 6 → a ≠ b → (TX0 a).2.1 ≠ (TX0 b).2.1 := by decide +kernel
theorem tyX0_ok : ∀ k, k < 6 → parseFieldDescriptor (TX0 k).2.2.1 = some (tyX0 k) := by decide +kernel
abbrev cX0_init : ByteArray := prog_2_method_1_code
def yX0_init : MethodName := ⟨RX0, "<init>", "()V"⟩
abbrev cX0_shoot : ByteArray := prog_2_method_2_code
def yX0_shoot : MethodName := ⟨RX0, "shoot", "(ILSamePassers$Walks;LSamePassers$Street;I)V"⟩
abbrev cX0_jumpOf : ByteArray := prog_2_method_3_code
def yX0_jumpOf : MethodName := ⟨RX0, "jumpOf", "(LSamePassers$Street;III)I"⟩
abbrev cX0_allJumps : ByteArray := prog_2_method_4_code
def yX0_allJumps : MethodName := ⟨RX0, "allJumps", "(LSamePassers$Street;II)I"⟩
abbrev cX0_findNext : ByteArray := prog_2_method_5_code
def yX0_findNext : MethodName := ⟨RX0, "findNext", "(LSamePassers$Papers;LSamePassers$Street;)I"⟩
abbrev cX0_followersOf : ByteArray := prog_2_method_6_code
def yX0_followersOf : MethodName := ⟨RX0, "followersOf", "(ILSamePassers$Papers;LSamePassers$Street;)I"⟩
abbrev cX0_canWalk : ByteArray := prog_2_method_7_code
def yX0_canWalk : MethodName := ⟨RX0, "canWalk", "(II)Z"⟩
abbrev cX0_mostPairs : ByteArray := prog_2_method_8_code
def yX0_mostPairs : MethodName := ⟨RX0, "mostPairs", "(II)I"⟩
abbrev cX0_findPlace : ByteArray := prog_2_method_9_code
def yX0_findPlace : MethodName := ⟨RX0, "findPlace", "(II)Z"⟩
def RX1 : String := "SamePassers$Hands"
def TX1 : u_T := fun k => match k with
  | 0 => ("SamePassers$Hands", "take", "I", false)
  | 1 => ("SamePassers$Hands", "starts", "[I", true)
  | 2 => ("SamePassers$Hands", "rights", "[I", true)
  | _ => ("SamePassers$Hands", "lates", "[I", true)
def tyX1 : Nat → FieldType := fun k => match k with
  | 0 => .int
  | 1 => .array .int
  | 2 => .array .int
  | _ => .array .int
abbrev wsX10 : List Cond := u_ws RX1 TX1 4
theorem nmX1 : ∀ a, a < 4 → ∀ b, b < 4 → a ≠ b → (TX1 a).2.1 ≠ (TX1 b).2.1 := by decide +kernel
theorem tyX1_ok : ∀ k, k < 4 → parseFieldDescriptor (TX1 k).2.2.1 = some (tyX1 k) := by decide +kernel
abbrev cX1_init : ByteArray := prog_3_method_1_code
def yX1_init : MethodName := ⟨RX1, "<init>", "()V"⟩
abbrev cX1_asTold : ByteArray := prog_3_method_2_code
def yX1_asTold : MethodName := ⟨RX1, "asTold", "(LSamePassers$Street;)V"⟩
abbrev cX1_goOn : ByteArray := prog_3_method_3_code
def yX1_goOn : MethodName := ⟨RX1, "goOn", "()V"⟩
abbrev cX1_copyFrom : ByteArray := prog_3_method_4_code
def yX1_copyFrom : MethodName := ⟨RX1, "copyFrom", "(LSamePassers$Hands;)V"⟩
def RX2 : String := "SamePassers$LagSearch"
def TX2 : u_T := fun k => match k with
  | 0 => ("SamePassers$LagSearch", "chosen", "[I", true)
  | 1 => ("SamePassers$LagSearch", "rows", "[[I", true)
  | 2 => ("SamePassers$LagSearch", "fitAlone", "[I", true)
  | 3 => ("SamePassers$LagSearch", "fitTogether", "[I", true)
  | 4 => ("SamePassers$LagSearch", "tried", "[I", true)
  | 5 => ("SamePassers$LagSearch", "many", "I", false)
  | 6 => ("SamePassers$LagSearch", "street", "LSamePassers$Street;", false)
  | 7 => ("SamePassers$LagSearch", "best", "[I", true)
  | _ => ("SamePassers$LagSearch", "bestSum", "I", false)
def tyX2 : Nat → FieldType := fun k => match k with
  | 0 => .array .int
  | 1 => .array (.array .int)
  | 2 => .array .int
  | 3 => .array .int
  | 4 => .array .int
  | 5 => .int
  | 6 => .object "SamePassers$Street"
  | 7 => .array .int
  | _ => .int
abbrev wsX20 : List Cond := u_ws RX2 TX2 9
theorem nmX2 : ∀ a, a < 9 → ∀ b, b < 9 → a ≠ b → (TX2 a).2.1 ≠ (TX2 b).2.1 := by decide +kernel
theorem tyX2_ok : ∀ k, k < 9 → parseFieldDescriptor (TX2 k).2.2.1 = some (tyX2 k) := by decide +kernel
abbrev cX2_init : ByteArray := prog_4_method_1_code
def yX2_init : MethodName := ⟨RX2, "<init>", "(LSamePassers$Street;)V"⟩
abbrev cX2_find : ByteArray := prog_4_method_2_code
def yX2_find : MethodName := ⟨RX2, "find", "(LSamePassers$Street;LSamePassers$Walks;I)Z"⟩
abbrev cX2_fillRow : ByteArray := prog_4_method_3_code
def yX2_fillRow : MethodName := ⟨RX2, "fillRow", "(ILSamePassers$Walks;)V"⟩
abbrev cX2_cellWith : ByteArray := prog_4_method_4_code
def yX2_cellWith : MethodName := ⟨RX2, "cellWith", "(III)I"⟩
abbrev cX2_lagsForMusts : ByteArray := prog_4_method_5_code
def yX2_lagsForMusts : MethodName := ⟨RX2, "lagsForMusts", "(I)I"⟩
abbrev cX2_fillTogether : ByteArray := prog_4_method_6_code
def yX2_fillTogether : MethodName := ⟨RX2, "fillTogether", "()V"⟩
abbrev cX2_forbidBumps : ByteArray := prog_4_method_7_code
def yX2_forbidBumps : MethodName := ⟨RX2, "forbidBumps", "(II)V"⟩
abbrev cX2_forbid : ByteArray := prog_4_method_8_code
def yX2_forbid : MethodName := ⟨RX2, "forbid", "(IIII)V"⟩
abbrev cX2_firstBump : ByteArray := prog_4_method_9_code
def yX2_firstBump : MethodName := ⟨RX2, "firstBump", "(IIII)I"⟩
abbrev cX2_search : ByteArray := prog_4_method_10_code
def yX2_search : MethodName := ⟨RX2, "search", "(II)V"⟩
def RX3 : String := "SamePassers$Law"
def TX3 : u_T := fun k => match k with
  | 0 => ("SamePassers$Law", "factName", "J", true)
  | 1 => ("SamePassers$Law", "otherName", "J", true)
  | 2 => ("SamePassers$Law", "code", "[I", true)
  | 3 => ("SamePassers$Law", "stack", "[I", true)
  | 4 => ("SamePassers$Law", "length", "I", false)
  | _ => ("SamePassers$Law", "told", "Z", false)
def tyX3 : Nat → FieldType := fun k => match k with
  | 0 => .long
  | 1 => .long
  | 2 => .array .int
  | 3 => .array .int
  | 4 => .int
  | _ => .boolean
abbrev wsX30 : List Cond := u_ws RX3 TX3 6
theorem nmX3 : ∀ a, a < 6 → ∀ b, b < 6 → a ≠ b → (TX3 a).2.1 ≠ (TX3 b).2.1 := by decide +kernel
theorem tyX3_ok : ∀ k, k < 6 → parseFieldDescriptor (TX3 k).2.2.1 = some (tyX3 k) := by decide +kernel
abbrev cX3_init : ByteArray := prog_5_method_1_code
def yX3_init : MethodName := ⟨RX3, "<init>", "(Ljava/lang/String;Ljava/lang/String;)V"⟩
abbrev cX3_clear : ByteArray := prog_5_method_2_code
def yX3_clear : MethodName := ⟨RX3, "clear", "()V"⟩
abbrev cX3_add : ByteArray := prog_5_method_3_code
def yX3_add : MethodName := ⟨RX3, "add", "(I)V"⟩
abbrev cX3_valueFor : ByteArray := prog_5_method_4_code
def yX3_valueFor : MethodName := ⟨RX3, "valueFor", "(II)I"⟩
abbrev cX3_act : ByteArray := prog_5_method_5_code
def yX3_act : MethodName := ⟨RX3, "act", "(III)I"⟩
def RX4 : String := "SamePassers$Papers"
def TX4 : u_T := fun k => match k with
  | 0 => ("SamePassers$Papers", "toldCount", "I", false)
  | 1 => ("SamePassers$Papers", "toldTakes", "[I", true)
  | 2 => ("SamePassers$Papers", "toldTenths", "[I", true)
  | 3 => ("SamePassers$Papers", "sightCount", "I", false)
  | 4 => ("SamePassers$Papers", "sightTenths", "[I", true)
  | 5 => ("SamePassers$Papers", "sightCells", "[I", true)
  | 6 => ("SamePassers$Papers", "sightRights", "[I", true)
  | 7 => ("SamePassers$Papers", "lawCount", "I", false)
  | 8 => ("SamePassers$Papers", "firstLaw", "I", false)
  | 9 => ("SamePassers$Papers", "lawTenth", "I", false)
  | _ => ("SamePassers$Papers", "lawsAgree", "Z", false)
def tyX4 : Nat → FieldType := fun k => match k with
  | 0 => .int
  | 1 => .array .int
  | 2 => .array .int
  | 3 => .int
  | 4 => .array .int
  | 5 => .array .int
  | 6 => .array .int
  | 7 => .int
  | 8 => .int
  | 9 => .int
  | _ => .boolean
abbrev wsX40 : List Cond := u_ws RX4 TX4 11
theorem nmX4 : ∀ a, a < 11 → ∀ b, b < 11 → a ≠ b → (TX4 a).2.1 ≠ (TX4 b).2.1 := by decide +kernel
theorem tyX4_ok : ∀ k, k < 11 → parseFieldDescriptor (TX4 k).2.2.1 = some (tyX4 k) := by decide +kernel
abbrev cX4_init : ByteArray := prog_6_method_1_code
def yX4_init : MethodName := ⟨RX4, "<init>", "()V"⟩
abbrev cX4_addTold : ByteArray := prog_6_method_2_code
def yX4_addTold : MethodName := ⟨RX4, "addTold", "(II)Z"⟩
abbrev cX4_addSight : ByteArray := prog_6_method_3_code
def yX4_addSight : MethodName := ⟨RX4, "addSight", "(IIZ)Z"⟩
abbrev cX4_copyFrom : ByteArray := prog_6_method_4_code
def yX4_copyFrom : MethodName := ⟨RX4, "copyFrom", "(LSamePassers$Papers;)V"⟩
abbrev cX4_seekLaws : ByteArray := prog_6_method_5_code
def yX4_seekLaws : MethodName := ⟨RX4, "seekLaws", "(I)V"⟩
abbrev cX4_holds : ByteArray := prog_6_method_6_code
def yX4_holds : MethodName := ⟨RX4, "holds", "(II)Z"⟩
abbrev cX4_addLaw : ByteArray := prog_6_method_7_code
def yX4_addLaw : MethodName := ⟨RX4, "addLaw", "(III)V"⟩
def RX5 : String := "SamePassers$Reader"
def TX5 : u_T := fun k => match k with
  | 0 => ("SamePassers$Reader", "tape", "LSamePassers$Tape;", true)
  | 1 => ("SamePassers$Reader", "street", "LSamePassers$Street;", false)
  | 2 => ("SamePassers$Reader", "script", "LSamePassers$Script;", false)
  | 3 => ("SamePassers$Reader", "fault", "I", false)
  | 4 => ("SamePassers$Reader", "number", "I", false)
  | 5 => ("SamePassers$Reader", "index", "I", false)
  | _ => ("SamePassers$Reader", "name", "J", false)
def tyX5 : Nat → FieldType := fun k => match k with
  | 0 => .object "SamePassers$Tape"
  | 1 => .object "SamePassers$Street"
  | 2 => .object "SamePassers$Script"
  | 3 => .int
  | 4 => .int
  | 5 => .int
  | _ => .long
abbrev wsX50 : List Cond := u_ws RX5 TX5 7
theorem nmX5 : ∀ a, a < 7 → ∀ b, b < 7 → a ≠ b → (TX5 a).2.1 ≠ (TX5 b).2.1 := by decide +kernel
theorem tyX5_ok : ∀ k, k < 7 → parseFieldDescriptor (TX5 k).2.2.1 = some (tyX5 k) := by decide +kernel
abbrev cX5_init : ByteArray := prog_7_method_1_code
def yX5_init : MethodName := ⟨RX5, "<init>", "(LSamePassers$Tape;LSamePassers$Street;LSamePassers$Script;)V"⟩
abbrev cX5_readStreet : ByteArray := prog_7_method_2_code
def yX5_readStreet : MethodName := ⟨RX5, "readStreet", "(LSamePassers$Street;)I"⟩
abbrev cX5_readTakes : ByteArray := prog_7_method_3_code
def yX5_readTakes : MethodName := ⟨RX5, "readTakes", "(LSamePassers$Street;LSamePassers$Script;)I"⟩
abbrev cX5_fail : ByteArray := prog_7_method_4_code
def yX5_fail : MethodName := ⟨RX5, "fail", "(I)Z"⟩
abbrev cX5_readToken : ByteArray := prog_7_method_5_code
def yX5_readToken : MethodName := ⟨RX5, "readToken", "(I)Z"⟩
abbrev cX5_readNumber : ByteArray := prog_7_method_6_code
def yX5_readNumber : MethodName := ⟨RX5, "readNumber", "(II)Z"⟩
abbrev cX5_readNumberBehind : ByteArray := prog_7_method_7_code
def yX5_readNumberBehind : MethodName := ⟨RX5, "readNumberBehind", "(III)Z"⟩
abbrev cX5_readNewName : ByteArray := prog_7_method_8_code
def yX5_readNewName : MethodName := ⟨RX5, "readNewName", "()Z"⟩
abbrev cX5_readWalkerName : ByteArray := prog_7_method_9_code
def yX5_readWalkerName : MethodName := ⟨RX5, "readWalkerName", "()Z"⟩
abbrev cX5_seeWordName : ByteArray := prog_7_method_10_code
def yX5_seeWordName : MethodName := ⟨RX5, "seeWordName", "()Z"⟩
abbrev cX5_readGround : ByteArray := prog_7_method_11_code
def yX5_readGround : MethodName := ⟨RX5, "readGround", "()Z"⟩
abbrev cX5_readSay : ByteArray := prog_7_method_12_code
def yX5_readSay : MethodName := ⟨RX5, "readSay", "()Z"⟩
abbrev cX5_readWalker : ByteArray := prog_7_method_13_code
def yX5_readWalker : MethodName := ⟨RX5, "readWalker", "()Z"⟩
abbrev cX5_readKind : ByteArray := prog_7_method_14_code
def yX5_readKind : MethodName := ⟨RX5, "readKind", "(LSamePassers$Walker;)Z"⟩
abbrev cX5_readPlace : ByteArray := prog_7_method_15_code
def yX5_readPlace : MethodName := ⟨RX5, "readPlace", "(LSamePassers$Walker;)Z"⟩
abbrev cX5_readGait : ByteArray := prog_7_method_16_code
def yX5_readGait : MethodName := ⟨RX5, "readGait", "(LSamePassers$Walker;)Z"⟩
abbrev cX5_readCue : ByteArray := prog_7_method_17_code
def yX5_readCue : MethodName := ⟨RX5, "readCue", "(LSamePassers$Walker;)Z"⟩
abbrev cX5_readMust : ByteArray := prog_7_method_18_code
def yX5_readMust : MethodName := ⟨RX5, "readMust", "()Z"⟩
abbrev cX5_readRound : ByteArray := prog_7_method_19_code
def yX5_readRound : MethodName := ⟨RX5, "readRound", "()Z"⟩
abbrev cX5_readLaw : ByteArray := prog_7_method_20_code
def yX5_readLaw : MethodName := ⟨RX5, "readLaw", "(LSamePassers$Law;)Z"⟩
abbrev cX5_readLevel : ByteArray := prog_7_method_21_code
def yX5_readLevel : MethodName := ⟨RX5, "readLevel", "(LSamePassers$Law;II)Z"⟩
abbrev cX5_readPart : ByteArray := prog_7_method_22_code
def yX5_readPart : MethodName := ⟨RX5, "readPart", "(LSamePassers$Law;I)Z"⟩
abbrev cX5_partOf : ByteArray := prog_7_method_23_code
def yX5_partOf : MethodName := ⟨RX5, "partOf", "(LSamePassers$Law;)I"⟩
abbrev cX5_levelOf : ByteArray := prog_7_method_24_code
def yX5_levelOf : MethodName := ⟨RX5, "levelOf", "(I)I"⟩
abbrev cX5_actOf : ByteArray := prog_7_method_25_code
def yX5_actOf : MethodName := ⟨RX5, "actOf", "(I)I"⟩
abbrev cX5_readTakesLine : ByteArray := prog_7_method_26_code
def yX5_readTakesLine : MethodName := ⟨RX5, "readTakesLine", "()Z"⟩
def RX6 : String := "SamePassers$Script"
def TX6 : u_T := fun k => match k with
  | 0 => ("SamePassers$Script", "count", "I", false)
  | 1 => ("SamePassers$Script", "acts", "[I", true)
  | 2 => ("SamePassers$Script", "walkers", "[I", true)
  | _ => ("SamePassers$Script", "numbers", "[I", true)
def tyX6 : Nat → FieldType := fun k => match k with
  | 0 => .int
  | 1 => .array .int
  | 2 => .array .int
  | _ => .array .int
abbrev wsX60 : List Cond := u_ws RX6 TX6 4
theorem nmX6 : ∀ a, a < 4 → ∀ b, b < 4 → a ≠ b → (TX6 a).2.1 ≠ (TX6 b).2.1 := by decide +kernel
theorem tyX6_ok : ∀ k, k < 4 → parseFieldDescriptor (TX6 k).2.2.1 = some (tyX6 k) := by decide +kernel
abbrev cX6_init : ByteArray := prog_8_method_1_code
def yX6_init : MethodName := ⟨RX6, "<init>", "()V"⟩
abbrev cX6_add : ByteArray := prog_8_method_2_code
def yX6_add : MethodName := ⟨RX6, "add", "(III)V"⟩
abbrev cX6_play : ByteArray := prog_8_method_3_code
def yX6_play : MethodName := ⟨RX6, "play", "(ILSamePassers$Hands;)V"⟩
def RX7 : String := "SamePassers$Street"
def TX7 : u_T := fun k => match k with
  | 0 => ("SamePassers$Street", "cells", "I", false)
  | 1 => ("SamePassers$Street", "lanes", "I", false)
  | 2 => ("SamePassers$Street", "frameFrom", "I", false)
  | 3 => ("SamePassers$Street", "frameTo", "I", false)
  | 4 => ("SamePassers$Street", "sharp", "I", false)
  | 5 => ("SamePassers$Street", "round", "I", false)
  | 6 => ("SamePassers$Street", "roundTold", "Z", false)
  | 7 => ("SamePassers$Street", "wordCount", "I", false)
  | 8 => ("SamePassers$Street", "wordNames", "[J", true)
  | 9 => ("SamePassers$Street", "wordTenths", "[I", true)
  | 10 => ("SamePassers$Street", "walkerCount", "I", false)
  | 11 => ("SamePassers$Street", "walkers", "[LSamePassers$Walker;", true)
  | 12 => ("SamePassers$Street", "mustCount", "I", false)
  | 13 => ("SamePassers$Street", "mustWalkers", "[I", true)
  | 14 => ("SamePassers$Street", "mustWords", "[I", true)
  | 15 => ("SamePassers$Street", "mustCells", "[I", true)
  | 16 => ("SamePassers$Street", "quick", "LSamePassers$Law;", true)
  | _ => ("SamePassers$Street", "odd", "LSamePassers$Law;", true)
def tyX7 : Nat → FieldType := fun k => match k with
  | 0 => .int
  | 1 => .int
  | 2 => .int
  | 3 => .int
  | 4 => .int
  | 5 => .int
  | 6 => .boolean
  | 7 => .int
  | 8 => .array .long
  | 9 => .array .int
  | 10 => .int
  | 11 => .array (.object "SamePassers$Walker")
  | 12 => .int
  | 13 => .array .int
  | 14 => .array .int
  | 15 => .array .int
  | 16 => .object "SamePassers$Law"
  | _ => .object "SamePassers$Law"
abbrev wsX70 : List Cond := u_ws RX7 TX7 18
theorem nmX7 : ∀ a, a < 18 → ∀ b, b < 18 → a ≠ b → (TX7 a).2.1 ≠ (TX7 b).2.1 := by decide +kernel
theorem tyX7_ok : ∀ k, k < 18 → parseFieldDescriptor (TX7 k).2.2.1 = some (tyX7 k) := by decide +kernel
abbrev cX7_init : ByteArray := prog_9_method_1_code
def yX7_init : MethodName := ⟨RX7, "<init>", "()V"⟩
abbrev cX7_clear : ByteArray := prog_9_method_2_code
def yX7_clear : MethodName := ⟨RX7, "clear", "()V"⟩
abbrev cX7_findWord : ByteArray := prog_9_method_3_code
def yX7_findWord : MethodName := ⟨RX7, "findWord", "(J)I"⟩
abbrev cX7_findWalker : ByteArray := prog_9_method_4_code
def yX7_findWalker : MethodName := ⟨RX7, "findWalker", "(J)I"⟩
abbrev cX7_hasMust : ByteArray := prog_9_method_5_code
def yX7_hasMust : MethodName := ⟨RX7, "hasMust", "(II)Z"⟩
abbrev cX7_addMust : ByteArray := prog_9_method_6_code
def yX7_addMust : MethodName := ⟨RX7, "addMust", "(III)V"⟩
abbrev cX7_tempoOf : ByteArray := prog_9_method_7_code
def yX7_tempoOf : MethodName := ⟨RX7, "tempoOf", "(II)I"⟩
abbrev cX7_knownBy : ByteArray := prog_9_method_8_code
def yX7_knownBy : MethodName := ⟨RX7, "knownBy", "(II)I"⟩
abbrev cX7_cueOf : ByteArray := prog_9_method_9_code
def yX7_cueOf : MethodName := ⟨RX7, "cueOf", "(I)I"⟩
abbrev cX7_inFrame : ByteArray := prog_9_method_10_code
def yX7_inFrame : MethodName := ⟨RX7, "inFrame", "(I)Z"⟩
abbrev cX7_jumpBetween : ByteArray := prog_9_method_11_code
def yX7_jumpBetween : MethodName := ⟨RX7, "jumpBetween", "(II)I"⟩
def RX8 : String := "SamePassers$Tape"
def TX8 : u_T := fun k => match k with
  | 0 => ("SamePassers$Tape", "signs", "[C", true)
  | 1 => ("SamePassers$Tape", "keywords", "[J", true)
  | 2 => ("SamePassers$Tape", "next", "I", false)
  | 3 => ("SamePassers$Tape", "length", "I", false)
  | 4 => ("SamePassers$Tape", "type", "I", false)
  | 5 => ("SamePassers$Tape", "place", "I", false)
  | 6 => ("SamePassers$Tape", "number", "I", false)
  | _ => ("SamePassers$Tape", "word", "J", false)
def tyX8 : Nat → FieldType := fun k => match k with
  | 0 => .array .char
  | 1 => .array .long
  | 2 => .int
  | 3 => .int
  | 4 => .int
  | 5 => .int
  | 6 => .int
  | _ => .long
abbrev wsX80 : List Cond := u_ws RX8 TX8 8
theorem nmX8 : ∀ a, a < 8 → ∀ b, b < 8 → a ≠ b → (TX8 a).2.1 ≠ (TX8 b).2.1 := by decide +kernel
theorem tyX8_ok : ∀ k, k < 8 → parseFieldDescriptor (TX8 k).2.2.1 = some (tyX8 k) := by decide +kernel
abbrev cX8_init : ByteArray := prog_10_method_1_code
def yX8_init : MethodName := ⟨RX8, "<init>", "()V"⟩
abbrev cX8_asWord : ByteArray := prog_10_method_2_code
def yX8_asWord : MethodName := ⟨RX8, "asWord", "(Ljava/lang/String;)J"⟩
abbrev cX8_add : ByteArray := prog_10_method_3_code
def yX8_add : MethodName := ⟨RX8, "add", "(J)V"⟩
abbrev cX8_rewind : ByteArray := prog_10_method_4_code
def yX8_rewind : MethodName := ⟨RX8, "rewind", "()V"⟩
abbrev cX8_empty : ByteArray := prog_10_method_5_code
def yX8_empty : MethodName := ⟨RX8, "empty", "()V"⟩
abbrev cX8_step : ByteArray := prog_10_method_6_code
def yX8_step : MethodName := ⟨RX8, "step", "()V"⟩
abbrev cX8_stepWord : ByteArray := prog_10_method_7_code
def yX8_stepWord : MethodName := ⟨RX8, "stepWord", "()V"⟩
abbrev cX8_stepNumber : ByteArray := prog_10_method_8_code
def yX8_stepNumber : MethodName := ⟨RX8, "stepNumber", "()V"⟩
def RX9 : String := "SamePassers$Walker"
def TX9 : u_T := fun k => match k with
  | 0 => ("SamePassers$Walker", "name", "J", false)
  | 1 => ("SamePassers$Walker", "kind", "I", false)
  | 2 => ("SamePassers$Walker", "lane", "I", false)
  | 3 => ("SamePassers$Walker", "from", "I", false)
  | 4 => ("SamePassers$Walker", "right", "I", false)
  | 5 => ("SamePassers$Walker", "pace", "I", false)
  | 6 => ("SamePassers$Walker", "lag", "I", false)
  | _ => ("SamePassers$Walker", "word", "I", false)
def tyX9 : Nat → FieldType := fun k => match k with
  | 0 => .long
  | 1 => .int
  | 2 => .int
  | 3 => .int
  | 4 => .int
  | 5 => .int
  | 6 => .int
  | _ => .int
abbrev wsX90 : List Cond := u_ws RX9 TX9 8
theorem nmX9 : ∀ a, a < 8 → ∀ b, b < 8 → a ≠ b → (TX9 a).2.1 ≠ (TX9 b).2.1 := by decide +kernel
theorem tyX9_ok : ∀ k, k < 8 → parseFieldDescriptor (TX9 k).2.2.1 = some (tyX9 k) := by decide +kernel
abbrev cX9_init : ByteArray := prog_11_method_1_code
def yX9_init : MethodName := ⟨RX9, "<init>", "()V"⟩
def RX10 : String := "SamePassers$Walks"
def TX10 : u_T := fun k => match k with
  | 0 => ("SamePassers$Walks", "starts", "[I", true)
  | 1 => ("SamePassers$Walks", "rights", "[I", true)
  | 2 => ("SamePassers$Walks", "cues", "[I", true)
  | 3 => ("SamePassers$Walks", "taken", "[J", true)
  | 4 => ("SamePassers$Walks", "street", "LSamePassers$Street;", false)
  | _ => ("SamePassers$Walks", "tempos", "[I", true)
def tyX10 : Nat → FieldType := fun k => match k with
  | 0 => .array .int
  | 1 => .array .int
  | 2 => .array .int
  | 3 => .array .long
  | 4 => .object "SamePassers$Street"
  | _ => .array .int
abbrev wsX100 : List Cond := u_ws RX10 TX10 6
theorem nmX10 : ∀ a, a < 6 → ∀ b, b < 6 → a ≠ b → (TX10 a).2.1 ≠ (TX10 b).2.1 := by decide +kernel
theorem tyX10_ok : ∀ k, k < 6 → parseFieldDescriptor (TX10 k).2.2.1 = some (tyX10 k) := by decide +kernel
abbrev cX10_init : ByteArray := prog_12_method_1_code
def yX10_init : MethodName := ⟨RX10, "<init>", "(LSamePassers$Street;)V"⟩
abbrev cX10_set : ByteArray := prog_12_method_2_code
def yX10_set : MethodName := ⟨RX10, "set", "(LSamePassers$Street;LSamePassers$Hands;IZ)V"⟩
abbrev cX10_cellOf : ByteArray := prog_12_method_3_code
def yX10_cellOf : MethodName := ⟨RX10, "cellOf", "(II)I"⟩
abbrev cX10_cellAfter : ByteArray := prog_12_method_4_code
def yX10_cellAfter : MethodName := ⟨RX10, "cellAfter", "(II)I"⟩
abbrev cX10_along : ByteArray := prog_12_method_5_code
def yX10_along : MethodName := ⟨RX10, "along", "(IIII)I"⟩
abbrev cX10_seenCell : ByteArray := prog_12_method_6_code
def yX10_seenCell : MethodName := ⟨RX10, "seenCell", "(II)I"⟩
abbrev cX10_sharpness : ByteArray := prog_12_method_7_code
def yX10_sharpness : MethodName := ⟨RX10, "sharpness", "(II)I"⟩
abbrev cX10_passesOf : ByteArray := prog_12_method_8_code
def yX10_passesOf : MethodName := ⟨RX10, "passesOf", "(I)I"⟩
abbrev cX10_knownOf : ByteArray := prog_12_method_9_code
def yX10_knownOf : MethodName := ⟨RX10, "knownOf", "(I)I"⟩
abbrev cX10_firstBump : ByteArray := prog_12_method_10_code
def yX10_firstBump : MethodName := ⟨RX10, "firstBump", "(II)I"⟩
abbrev cX10_anyBump : ByteArray := prog_12_method_11_code
def yX10_anyBump : MethodName := ⟨RX10, "anyBump", "()Z"⟩
abbrev cX10_bumpsAt : ByteArray := prog_12_method_12_code
def yX10_bumpsAt : MethodName := ⟨RX10, "bumpsAt", "(I)Z"⟩
abbrev cX10_offOf : ByteArray := prog_12_method_13_code
def yX10_offOf : MethodName := ⟨RX10, "offOf", "(I)I"⟩
abbrev cX10_missedMusts : ByteArray := prog_12_method_14_code
def yX10_missedMusts : MethodName := ⟨RX10, "missedMusts", "()I"⟩
abbrev cX10_isGood : ByteArray := prog_12_method_15_code
def yX10_isGood : MethodName := ⟨RX10, "isGood", "()Z"⟩
def RX11 : String := "SamePassers"
def TX11 : u_T := fun k => match k with
  | 0 => ("SamePassers", "tape", "LSamePassers$Tape;", true)
  | 1 => ("SamePassers", "street", "LSamePassers$Street;", false)
  | 2 => ("SamePassers", "draftStreet", "LSamePassers$Street;", false)
  | 3 => ("SamePassers", "script", "LSamePassers$Script;", false)
  | 4 => ("SamePassers", "draftScript", "LSamePassers$Script;", false)
  | 5 => ("SamePassers", "reader", "LSamePassers$Reader;", true)
  | 6 => ("SamePassers", "hands", "LSamePassers$Hands;", true)
  | 7 => ("SamePassers", "trial", "LSamePassers$Hands;", true)
  | 8 => ("SamePassers", "papers", "LSamePassers$Papers;", true)
  | 9 => ("SamePassers", "past", "[LSamePassers$Hands;", true)
  | 10 => ("SamePassers", "pastCount", "I", false)
  | 11 => ("SamePassers", "pastEnd", "I", false)
  | 12 => ("SamePassers", "markedHands", "[LSamePassers$Hands;", true)
  | 13 => ("SamePassers", "markedPapers", "[LSamePassers$Papers;", true)
  | 14 => ("SamePassers", "markedBits", "I", false)
  | 15 => ("SamePassers", "now", "LSamePassers$Walks;", true)
  | 16 => ("SamePassers", "here", "LSamePassers$Walks;", true)
  | 17 => ("SamePassers", "lagSearch", "LSamePassers$LagSearch;", true)
  | _ => ("SamePassers", "film", "LSamePassers$Film;", true)
def tyX11 : Nat → FieldType := fun k => match k with
  | 0 => .object "SamePassers$Tape"
  | 1 => .object "SamePassers$Street"
  | 2 => .object "SamePassers$Street"
  | 3 => .object "SamePassers$Script"
  | 4 => .object "SamePassers$Script"
  | 5 => .object "SamePassers$Reader"
  | 6 => .object "SamePassers$Hands"
  | 7 => .object "SamePassers$Hands"
  | 8 => .object "SamePassers$Papers"
  | 9 => .array (.object "SamePassers$Hands")
  | 10 => .int
  | 11 => .int
  | 12 => .array (.object "SamePassers$Hands")
  | 13 => .array (.object "SamePassers$Papers")
  | 14 => .int
  | 15 => .object "SamePassers$Walks"
  | 16 => .object "SamePassers$Walks"
  | 17 => .object "SamePassers$LagSearch"
  | _ => .object "SamePassers$Film"
abbrev wsX110 : List Cond := u_ws RX11 TX11 19
theorem nmX11 : ∀ a, a < 19 → ∀ b, b < 19 → a ≠ b → (TX11 a).2.1 ≠ (TX11 b).2.1 := by decide +kernel
theorem tyX11_ok : ∀ k, k < 19 → parseFieldDescriptor (TX11 k).2.2.1 = some (tyX11 k) := by decide +kernel
abbrev cX11_init : ByteArray := prog_1_method_1_code
def yX11_init : MethodName := ⟨RX11, "<init>", "()V"⟩
abbrev cX11_feed : ByteArray := prog_1_method_2_code
def yX11_feed : MethodName := ⟨RX11, "feed", "(JJJ)I"⟩
abbrev cX11_street : ByteArray := prog_1_method_3_code
def yX11_street : MethodName := ⟨RX11, "street", "()I"⟩
abbrev cX11_takes : ByteArray := prog_1_method_4_code
def yX11_takes : MethodName := ⟨RX11, "takes", "()I"⟩
abbrev cX11_walker : ByteArray := prog_1_method_5_code
def yX11_walker : MethodName := ⟨RX11, "walker", "(II)I"⟩
abbrev cX11_tenth : ByteArray := prog_1_method_6_code
def yX11_tenth : MethodName := ⟨RX11, "tenth", "(I)I"⟩
abbrev cX11_start : ByteArray := prog_1_method_7_code
def yX11_start : MethodName := ⟨RX11, "start", "(II)Z"⟩
abbrev cX11_turn : ByteArray := prog_1_method_8_code
def yX11_turn : MethodName := ⟨RX11, "turn", "(I)Z"⟩
abbrev cX11_late : ByteArray := prog_1_method_9_code
def yX11_late : MethodName := ⟨RX11, "late", "(II)Z"⟩
abbrev cX11_take : ByteArray := prog_1_method_10_code
def yX11_take : MethodName := ⟨RX11, "take", "()I"⟩
abbrev cX11_undo : ByteArray := prog_1_method_11_code
def yX11_undo : MethodName := ⟨RX11, "undo", "()Z"⟩
abbrev cX11_judged : ByteArray := prog_1_method_12_code
def yX11_judged : MethodName := ⟨RX11, "judged", "(I)I"⟩
abbrev cX11_where : ByteArray := prog_1_method_13_code
def yX11_where : MethodName := ⟨RX11, "where", "(II)I"⟩
abbrev cX11_seen : ByteArray := prog_1_method_14_code
def yX11_seen : MethodName := ⟨RX11, "seen", "(II)I"⟩
abbrev cX11_first : ByteArray := prog_1_method_15_code
def yX11_first : MethodName := ⟨RX11, "first", "(II)I"⟩
abbrev cX11_good : ByteArray := prog_1_method_16_code
def yX11_good : MethodName := ⟨RX11, "good", "()Z"⟩
abbrev cX11_off : ByteArray := prog_1_method_17_code
def yX11_off : MethodName := ⟨RX11, "off", "(I)I"⟩
abbrev cX11_until : ByteArray := prog_1_method_18_code
def yX11_until : MethodName := ⟨RX11, "until", "(II)I"⟩
abbrev cX11_unknown : ByteArray := prog_1_method_19_code
def yX11_unknown : MethodName := ⟨RX11, "unknown", "()I"⟩
abbrev cX11_lags : ByteArray := prog_1_method_20_code
def yX11_lags : MethodName := ⟨RX11, "lags", "(II)I"⟩
abbrev cX11_full : ByteArray := prog_1_method_21_code
def yX11_full : MethodName := ⟨RX11, "full", "(I)I"⟩
abbrev cX11_jump : ByteArray := prog_1_method_22_code
def yX11_jump : MethodName := ⟨RX11, "jump", "(IIIII)I"⟩
abbrev cX11_best : ByteArray := prog_1_method_23_code
def yX11_best : MethodName := ⟨RX11, "best", "(II)I"⟩
abbrev cX11_row : ByteArray := prog_1_method_24_code
def yX11_row : MethodName := ⟨RX11, "row", "(II)J"⟩
abbrev cX11_wrong : ByteArray := prog_1_method_25_code
def yX11_wrong : MethodName := ⟨RX11, "wrong", "()I"⟩
abbrev cX11_change : ByteArray := prog_1_method_26_code
def yX11_change : MethodName := ⟨RX11, "change", "(II)I"⟩
abbrev cX11_other : ByteArray := prog_1_method_27_code
def yX11_other : MethodName := ⟨RX11, "other", "(III)I"⟩
abbrev cX11_tell : ByteArray := prog_1_method_28_code
def yX11_tell : MethodName := ⟨RX11, "tell", "(II)Z"⟩
abbrev cX11_laws : ByteArray := prog_1_method_29_code
def yX11_laws : MethodName := ⟨RX11, "laws", "(I)I"⟩
abbrev cX11_notes : ByteArray := prog_1_method_30_code
def yX11_notes : MethodName := ⟨RX11, "notes", "(I)I"⟩
abbrev cX11_whose : ByteArray := prog_1_method_31_code
def yX11_whose : MethodName := ⟨RX11, "whose", "(III)I"⟩
abbrev cX11_sight : ByteArray := prog_1_method_32_code
def yX11_sight : MethodName := ⟨RX11, "sight", "(IIZ)Z"⟩
abbrev cX11_hired : ByteArray := prog_1_method_33_code
def yX11_hired : MethodName := ⟨RX11, "hired", "(I)I"⟩
abbrev cX11_days : ByteArray := prog_1_method_34_code
def yX11_days : MethodName := ⟨RX11, "days", "(III)I"⟩
abbrev cX11_mark : ByteArray := prog_1_method_35_code
def yX11_mark : MethodName := ⟨RX11, "mark", "(IZ)Z"⟩
abbrev cX11_count : ByteArray := prog_1_method_36_code
def yX11_count : MethodName := ⟨RX11, "count", "(I)I"⟩
abbrev cX11_isWalker : ByteArray := prog_1_method_37_code
def yX11_isWalker : MethodName := ⟨RX11, "isWalker", "(I)Z"⟩
abbrev cX11_areWalkers : ByteArray := prog_1_method_38_code
def yX11_areWalkers : MethodName := ⟨RX11, "areWalkers", "(I)Z"⟩
abbrev cX11_isWord : ByteArray := prog_1_method_39_code
def yX11_isWord : MethodName := ⟨RX11, "isWord", "(I)Z"⟩
abbrev cX11_isMust : ByteArray := prog_1_method_40_code
def yX11_isMust : MethodName := ⟨RX11, "isMust", "(I)Z"⟩
abbrev cX11_isCell : ByteArray := prog_1_method_41_code
def yX11_isCell : MethodName := ⟨RX11, "isCell", "(I)Z"⟩
abbrev cX11_isLane : ByteArray := prog_1_method_42_code
def yX11_isLane : MethodName := ⟨RX11, "isLane", "(I)Z"⟩
abbrev cX11_isTenth : ByteArray := prog_1_method_43_code
def yX11_isTenth : MethodName := ⟨RX11, "isTenth", "(I)Z"⟩
abbrev cX11_isTake : ByteArray := prog_1_method_44_code
def yX11_isTake : MethodName := ⟨RX11, "isTake", "(I)Z"⟩
abbrev cX11_beginStreet : ByteArray := prog_1_method_45_code
def yX11_beginStreet : MethodName := ⟨RX11, "beginStreet", "()V"⟩
abbrev cX11_remember : ByteArray := prog_1_method_46_code
def yX11_remember : MethodName := ⟨RX11, "remember", "()V"⟩
abbrev cX11_forgetPast : ByteArray := prog_1_method_47_code
def yX11_forgetPast : MethodName := ⟨RX11, "forgetPast", "()V"⟩
abbrev cX11_setNow : ByteArray := prog_1_method_48_code
def yX11_setNow : MethodName := ⟨RX11, "setNow", "()V"⟩
abbrev cX11_seenOnWords : ByteArray := prog_1_method_49_code
def yX11_seenOnWords : MethodName := ⟨RX11, "seenOnWords", "()J"⟩
abbrev cX11_fills : ByteArray := prog_1_method_50_code
def yX11_fills : MethodName := ⟨RX11, "fills", "(IIJ)Z"⟩
abbrev cX11_shoot : ByteArray := prog_1_method_51_code
def yX11_shoot : MethodName := ⟨RX11, "shoot", "(III)V"⟩
abbrev cX11_canStandFor : ByteArray := prog_1_method_52_code
def yX11_canStandFor : MethodName := ⟨RX11, "canStandFor", "(III)Z"⟩
abbrev cX11_secondsOf : ByteArray := prog_1_method_53_code
def yX11_secondsOf : MethodName := ⟨RX11, "secondsOf", "(I)I"⟩
abbrev cX11_worthOf : ByteArray := prog_1_method_54_code
def yX11_worthOf : MethodName := ⟨RX11, "worthOf", "(I)I"⟩
abbrev cX11_drawLates : ByteArray := prog_1_method_55_code
def yX11_drawLates : MethodName := ⟨RX11, "drawLates", "(J)J"⟩
abbrev cX11_nextDraw : ByteArray := prog_1_method_56_code
def yX11_nextDraw : MethodName := ⟨RX11, "nextDraw", "(J)J"⟩
def RX12 : String := "SamePassersModel"
def TX12 : u_T := fun k => match k with
  | 0 => ("SamePassersModel", "thrown", "I", false)
  | 1 => ("SamePassersModel", "tape", "[I", true)
  | 2 => ("SamePassersModel", "taped", "I", false)
  | 3 => ("SamePassersModel", "size", "I", false)
  | 4 => ("SamePassersModel", "sort", "[I", true)
  | 5 => ("SamePassersModel", "place", "[I", true)
  | 6 => ("SamePassersModel", "value", "[J", true)
  | 7 => ("SamePassersModel", "at", "I", false)
  | 8 => ("SamePassersModel", "fault", "I", false)
  | 9 => ("SamePassersModel", "words", "[J", true)
  | 10 => ("SamePassersModel", "streets", "[I", true)
  | 11 => ("SamePassersModel", "op", "[I", true)
  | 12 => ("SamePassersModel", "arg", "[I", true)
  | 13 => ("SamePassersModel", "codes", "I", false)
  | 14 => ("SamePassersModel", "names", "[J", true)
  | 15 => ("SamePassersModel", "readNames", "[J", true)
  | 16 => ("SamePassersModel", "nameOf", "[I", true)
  | 17 => ("SamePassersModel", "readNameOf", "[I", true)
  | 18 => ("SamePassersModel", "namesMany", "I", false)
  | 19 => ("SamePassersModel", "readMany", "I", false)
  | 20 => ("SamePassersModel", "hasRound", "Z", false)
  | 21 => ("SamePassersModel", "factsHere", "I", false)
  | 22 => ("SamePassersModel", "lines", "[I", true)
  | 23 => ("SamePassersModel", "facts", "[I", true)
  | 24 => ("SamePassersModel", "pile", "[I", true)
  | 25 => ("SamePassersModel", "state", "[I", true)
  | 26 => ("SamePassersModel", "undos", "I", false)
  | 27 => ("SamePassersModel", "isMarked", "[Z", true)
  | 28 => ("SamePassersModel", "chosen", "[I", true)
  | 29 => ("SamePassersModel", "chosenTempo", "[I", true)
  | 30 => ("SamePassersModel", "fits", "[Z", true)
  | 31 => ("SamePassersModel", "holds", "[Z", true)
  | 32 => ("SamePassersModel", "lag", "[I", true)
  | 33 => ("SamePassersModel", "bestLag", "[I", true)
  | 34 => ("SamePassersModel", "bestSum", "I", false)
  | 35 => ("SamePassersModel", "chosenMany", "I", false)
  | 36 => ("SamePassersModel", "before", "[I", true)
  | 37 => ("SamePassersModel", "asked", "[Z", true)
  | 38 => ("SamePassersModel", "nextOf", "[I", true)
  | _ => ("SamePassersModel", "g", "J", false)
def tyX12 : Nat → FieldType := fun k => match k with
  | 0 => .int
  | 1 => .array .int
  | 2 => .int
  | 3 => .int
  | 4 => .array .int
  | 5 => .array .int
  | 6 => .array .long
  | 7 => .int
  | 8 => .int
  | 9 => .array .long
  | 10 => .array .int
  | 11 => .array .int
  | 12 => .array .int
  | 13 => .int
  | 14 => .array .long
  | 15 => .array .long
  | 16 => .array .int
  | 17 => .array .int
  | 18 => .int
  | 19 => .int
  | 20 => .boolean
  | 21 => .int
  | 22 => .array .int
  | 23 => .array .int
  | 24 => .array .int
  | 25 => .array .int
  | 26 => .int
  | 27 => .array .boolean
  | 28 => .array .int
  | 29 => .array .int
  | 30 => .array .boolean
  | 31 => .array .boolean
  | 32 => .array .int
  | 33 => .array .int
  | 34 => .int
  | 35 => .int
  | 36 => .array .int
  | 37 => .array .boolean
  | 38 => .array .int
  | _ => .long
abbrev wsX120 : List Cond := u_ws RX12 TX12 40
theorem nmX12 : ∀ a, a < 40 → ∀ b, b < 40 → a ≠ b → (TX12 a).2.1 ≠ (TX12 b).2.1 := by decide +kernel
theorem tyX12_ok : ∀ k, k < 40 → parseFieldDescriptor (TX12 k).2.2.1 = some (tyX12 k) := by decide +kernel
abbrev cX12_thrown : ByteArray := prog_14_method_1_code
def yX12_thrown : MethodName := ⟨RX12, "thrown", "()I"⟩
abbrev cX12_feed : ByteArray := prog_14_method_2_code
def yX12_feed : MethodName := ⟨RX12, "feed", "(JJJ)I"⟩
abbrev cX12_lay : ByteArray := prog_14_method_3_code
def yX12_lay : MethodName := ⟨RX12, "lay", "(J)V"⟩
abbrev cX12_init : ByteArray := prog_14_method_4_code
def yX12_init : MethodName := ⟨RX12, "<init>", "()V"⟩
abbrev cX12_isLetter : ByteArray := prog_14_method_5_code
def yX12_isLetter : MethodName := ⟨RX12, "isLetter", "(I)Z"⟩
abbrev cX12_isDigit : ByteArray := prog_14_method_6_code
def yX12_isDigit : MethodName := ⟨RX12, "isDigit", "(I)Z"⟩
abbrev cX12_rank : ByteArray := prog_14_method_7_code
def yX12_rank : MethodName := ⟨RX12, "rank", "(I)I"⟩
abbrev cX12_isSignOf : ByteArray := prog_14_method_8_code
def yX12_isSignOf : MethodName := ⟨RX12, "isSignOf", "(I)Z"⟩
abbrev cX12_cutAll : ByteArray := prog_14_method_9_code
def yX12_cutAll : MethodName := ⟨RX12, "cutAll", "()V"⟩
abbrev cX12_wrong : ByteArray := prog_14_method_10_code
def yX12_wrong : MethodName := ⟨RX12, "wrong", "(I)V"⟩
abbrev cX12_isSign : ByteArray := prog_14_method_11_code
def yX12_isSign : MethodName := ⟨RX12, "isSign", "(I)Z"⟩
abbrev cX12_isWord : ByteArray := prog_14_method_12_code
def yX12_isWord : MethodName := ⟨RX12, "isWord", "(I)Z"⟩
abbrev cX12_takeSign : ByteArray := prog_14_method_13_code
def yX12_takeSign : MethodName := ⟨RX12, "takeSign", "(I)V"⟩
abbrev cX12_hasSign : ByteArray := prog_14_method_14_code
def yX12_hasSign : MethodName := ⟨RX12, "hasSign", "(I)Z"⟩
abbrev cX12_hasWord : ByteArray := prog_14_method_15_code
def yX12_hasWord : MethodName := ⟨RX12, "hasWord", "(I)Z"⟩
abbrev cX12_takeWord : ByteArray := prog_14_method_16_code
def yX12_takeWord : MethodName := ⟨RX12, "takeWord", "(I)V"⟩
abbrev cX12_within : ByteArray := prog_14_method_17_code
def yX12_within : MethodName := ⟨RX12, "within", "(III)Z"⟩
abbrev cX12_standsAsAlways : ByteArray := prog_14_method_18_code
def yX12_standsAsAlways : MethodName := ⟨RX12, "standsAsAlways", "(I)V"⟩
abbrev cX12_takeNumber : ByteArray := prog_14_method_19_code
def yX12_takeNumber : MethodName := ⟨RX12, "takeNumber", "(II)I"⟩
abbrev cX12_takeAfter : ByteArray := prog_14_method_20_code
def yX12_takeAfter : MethodName := ⟨RX12, "takeAfter", "(III)I"⟩
abbrev cX12_wordHere : ByteArray := prog_14_method_21_code
def yX12_wordHere : MethodName := ⟨RX12, "wordHere", "(II)I"⟩
abbrev cX12_takeOne : ByteArray := prog_14_method_22_code
def yX12_takeOne : MethodName := ⟨RX12, "takeOne", "(II)I"⟩
abbrev cX12_isName : ByteArray := prog_14_method_23_code
def yX12_isName : MethodName := ⟨RX12, "isName", "()Z"⟩
abbrev cX12_find : ByteArray := prog_14_method_24_code
def yX12_find : MethodName := ⟨RX12, "find", "(Z)I"⟩
abbrev cX12_toldHere : ByteArray := prog_14_method_25_code
def yX12_toldHere : MethodName := ⟨RX12, "toldHere", "(ZII)I"⟩
abbrev cX12_takeTold : ByteArray := prog_14_method_26_code
def yX12_takeTold : MethodName := ⟨RX12, "takeTold", "(ZII)I"⟩
abbrev cX12_street : ByteArray := prog_14_method_27_code
def yX12_street : MethodName := ⟨RX12, "street", "()I"⟩
abbrev cX12_readLine : ByteArray := prog_14_method_28_code
def yX12_readLine : MethodName := ⟨RX12, "readLine", "()V"⟩
abbrev cX12_readName : ByteArray := prog_14_method_29_code
def yX12_readName : MethodName := ⟨RX12, "readName", "(I)V"⟩
abbrev cX12_lastCell : ByteArray := prog_14_method_30_code
def yX12_lastCell : MethodName := ⟨RX12, "lastCell", "()I"⟩
abbrev cX12_readSay : ByteArray := prog_14_method_31_code
def yX12_readSay : MethodName := ⟨RX12, "readSay", "()V"⟩
abbrev cX12_readWalker : ByteArray := prog_14_method_32_code
def yX12_readWalker : MethodName := ⟨RX12, "readWalker", "()V"⟩
abbrev cX12_readMust : ByteArray := prog_14_method_33_code
def yX12_readMust : MethodName := ⟨RX12, "readMust", "()V"⟩
abbrev cX12_readOnce : ByteArray := prog_14_method_34_code
def yX12_readOnce : MethodName := ⟨RX12, "readOnce", "()V"⟩
abbrev cX12_takes : ByteArray := prog_14_method_35_code
def yX12_takes : MethodName := ⟨RX12, "takes", "()I"⟩
abbrev cX12_emit : ByteArray := prog_14_method_36_code
def yX12_emit : MethodName := ⟨RX12, "emit", "(II)V"⟩
abbrev cX12_all : ByteArray := prog_14_method_37_code
def yX12_all : MethodName := ⟨RX12, "all", "(I)V"⟩
abbrev cX12_test : ByteArray := prog_14_method_38_code
def yX12_test : MethodName := ⟨RX12, "test", "(I)V"⟩
abbrev cX12_sums : ByteArray := prog_14_method_39_code
def yX12_sums : MethodName := ⟨RX12, "sums", "(I)V"⟩
abbrev cX12_products : ByteArray := prog_14_method_40_code
def yX12_products : MethodName := ⟨RX12, "products", "(I)V"⟩
abbrev cX12_takePart : ByteArray := prog_14_method_41_code
def yX12_takePart : MethodName := ⟨RX12, "takePart", "(I)V"⟩
abbrev cX12_worthAt : ByteArray := prog_14_method_42_code
def yX12_worthAt : MethodName := ⟨RX12, "worthAt", "(I)I"⟩
abbrev cX12_both : ByteArray := prog_14_method_43_code
def yX12_both : MethodName := ⟨RX12, "both", "(III)I"⟩
abbrev cX12_copies : ByteArray := prog_14_method_44_code
def yX12_copies : MethodName := ⟨RX12, "copies", "(III)V"⟩
abbrev cX12_starts : ByteArray := prog_14_method_45_code
def yX12_starts : MethodName := ⟨RX12, "starts", "(I)V"⟩
abbrev cX12_begins : ByteArray := prog_14_method_46_code
def yX12_begins : MethodName := ⟨RX12, "begins", "()V"⟩
abbrev cX12_keeps : ByteArray := prog_14_method_47_code
def yX12_keeps : MethodName := ⟨RX12, "keeps", "()V"⟩
abbrev cX12_cells : ByteArray := prog_14_method_48_code
def yX12_cells : MethodName := ⟨RX12, "cells", "()I"⟩
abbrev cX12_lanes : ByteArray := prog_14_method_49_code
def yX12_lanes : MethodName := ⟨RX12, "lanes", "()I"⟩
abbrev cX12_saidMany : ByteArray := prog_14_method_50_code
def yX12_saidMany : MethodName := ⟨RX12, "saidMany", "()I"⟩
abbrev cX12_walkers : ByteArray := prog_14_method_51_code
def yX12_walkers : MethodName := ⟨RX12, "walkers", "()I"⟩
abbrev cX12_musts : ByteArray := prog_14_method_52_code
def yX12_musts : MethodName := ⟨RX12, "musts", "()I"⟩
abbrev cX12_walkerOf : ByteArray := prog_14_method_53_code
def yX12_walkerOf : MethodName := ⟨RX12, "walkerOf", "(II)I"⟩
abbrev cX12_mustOf : ByteArray := prog_14_method_54_code
def yX12_mustOf : MethodName := ⟨RX12, "mustOf", "(II)I"⟩
abbrev cX12_tenthOf : ByteArray := prog_14_method_55_code
def yX12_tenthOf : MethodName := ⟨RX12, "tenthOf", "(I)I"⟩
abbrev cX12_isWalker : ByteArray := prog_14_method_56_code
def yX12_isWalker : MethodName := ⟨RX12, "isWalker", "(I)Z"⟩
abbrev cX12_isSaid : ByteArray := prog_14_method_57_code
def yX12_isSaid : MethodName := ⟨RX12, "isSaid", "(I)Z"⟩
abbrev cX12_tempoOf : ByteArray := prog_14_method_58_code
def yX12_tempoOf : MethodName := ⟨RX12, "tempoOf", "(II)I"⟩
abbrev cX12_cueOf : ByteArray := prog_14_method_59_code
def yX12_cueOf : MethodName := ⟨RX12, "cueOf", "(I)I"⟩
abbrev cX12_placeOf : ByteArray := prog_14_method_60_code
def yX12_placeOf : MethodName := ⟨RX12, "placeOf", "(IIIIII)I"⟩
abbrev cX12_placeIn : ByteArray := prog_14_method_61_code
def yX12_placeIn : MethodName := ⟨RX12, "placeIn", "(IIZII)I"⟩
abbrev cX12_placeNow : ByteArray := prog_14_method_62_code
def yX12_placeNow : MethodName := ⟨RX12, "placeNow", "(II)I"⟩
abbrev cX12_isFramed : ByteArray := prog_14_method_63_code
def yX12_isFramed : MethodName := ⟨RX12, "isFramed", "(I)Z"⟩
abbrev cX12_sightOf : ByteArray := prog_14_method_64_code
def yX12_sightOf : MethodName := ⟨RX12, "sightOf", "(II)I"⟩
abbrev cX12_passesOf : ByteArray := prog_14_method_65_code
def yX12_passesOf : MethodName := ⟨RX12, "passesOf", "(I)I"⟩
abbrev cX12_knownOf : ByteArray := prog_14_method_66_code
def yX12_knownOf : MethodName := ⟨RX12, "knownOf", "(I)I"⟩
abbrev cX12_walker : ByteArray := prog_14_method_67_code
def yX12_walker : MethodName := ⟨RX12, "walker", "(II)I"⟩
abbrev cX12_tenth : ByteArray := prog_14_method_68_code
def yX12_tenth : MethodName := ⟨RX12, "tenth", "(I)I"⟩
abbrev cX12_start : ByteArray := prog_14_method_69_code
def yX12_start : MethodName := ⟨RX12, "start", "(II)Z"⟩
abbrev cX12_turn : ByteArray := prog_14_method_70_code
def yX12_turn : MethodName := ⟨RX12, "turn", "(I)Z"⟩
abbrev cX12_late : ByteArray := prog_14_method_71_code
def yX12_late : MethodName := ⟨RX12, "late", "(II)Z"⟩
abbrev cX12_next : ByteArray := prog_14_method_72_code
def yX12_next : MethodName := ⟨RX12, "next", "(I)V"⟩
abbrev cX12_take : ByteArray := prog_14_method_73_code
def yX12_take : MethodName := ⟨RX12, "take", "()I"⟩
abbrev cX12_undo : ByteArray := prog_14_method_74_code
def yX12_undo : MethodName := ⟨RX12, "undo", "()Z"⟩
abbrev cX12_offIn : ByteArray := prog_14_method_75_code
def yX12_offIn : MethodName := ⟨RX12, "offIn", "(IIZI)I"⟩
abbrev cX12_missedIn : ByteArray := prog_14_method_76_code
def yX12_missedIn : MethodName := ⟨RX12, "missedIn", "(I)I"⟩
abbrev cX12_behindOf : ByteArray := prog_14_method_77_code
def yX12_behindOf : MethodName := ⟨RX12, "behindOf", "(II)I"⟩
abbrev cX12_bumpOf : ByteArray := prog_14_method_78_code
def yX12_bumpOf : MethodName := ⟨RX12, "bumpOf", "(III)I"⟩
abbrev cX12_isGood : ByteArray := prog_14_method_79_code
def yX12_isGood : MethodName := ⟨RX12, "isGood", "(I)Z"⟩
abbrev cX12_judged : ByteArray := prog_14_method_80_code
def yX12_judged : MethodName := ⟨RX12, "judged", "(I)I"⟩
abbrev cX12_where : ByteArray := prog_14_method_81_code
def yX12_where : MethodName := ⟨RX12, "where", "(II)I"⟩
abbrev cX12_seen : ByteArray := prog_14_method_82_code
def yX12_seen : MethodName := ⟨RX12, "seen", "(II)I"⟩
abbrev cX12_first : ByteArray := prog_14_method_83_code
def yX12_first : MethodName := ⟨RX12, "first", "(II)I"⟩
abbrev cX12_good : ByteArray := prog_14_method_84_code
def yX12_good : MethodName := ⟨RX12, "good", "()Z"⟩
abbrev cX12_off : ByteArray := prog_14_method_85_code
def yX12_off : MethodName := ⟨RX12, "off", "(I)I"⟩
abbrev cX12_until : ByteArray := prog_14_method_86_code
def yX12_until : MethodName := ⟨RX12, "until", "(II)I"⟩
abbrev cX12_unknown : ByteArray := prog_14_method_87_code
def yX12_unknown : MethodName := ⟨RX12, "unknown", "()I"⟩
abbrev cX12_row : ByteArray := prog_14_method_88_code
def yX12_row : MethodName := ⟨RX12, "row", "(II)J"⟩
abbrev cX12_whose : ByteArray := prog_14_method_89_code
def yX12_whose : MethodName := ⟨RX12, "whose", "(III)I"⟩
abbrev cX12_laggedPlace : ByteArray := prog_14_method_90_code
def yX12_laggedPlace : MethodName := ⟨RX12, "laggedPlace", "(III)I"⟩
abbrev cX12_doHold : ByteArray := prog_14_method_91_code
def yX12_doHold : MethodName := ⟨RX12, "doHold", "(II)Z"⟩
abbrev cX12_goTogether : ByteArray := prog_14_method_92_code
def yX12_goTogether : MethodName := ⟨RX12, "goTogether", "(IIII)Z"⟩
abbrev cX12_fitAt : ByteArray := prog_14_method_93_code
def yX12_fitAt : MethodName := ⟨RX12, "fitAt", "(IIII)I"⟩
abbrev cX12_laysFits : ByteArray := prog_14_method_94_code
def yX12_laysFits : MethodName := ⟨RX12, "laysFits", "()V"⟩
abbrev cX12_goesThrough : ByteArray := prog_14_method_95_code
def yX12_goesThrough : MethodName := ⟨RX12, "goesThrough", "(II)V"⟩
abbrev cX12_bits : ByteArray := prog_14_method_96_code
def yX12_bits : MethodName := ⟨RX12, "bits", "(I)I"⟩
abbrev cX12_lags : ByteArray := prog_14_method_97_code
def yX12_lags : MethodName := ⟨RX12, "lags", "(II)I"⟩
abbrev cX12_full : ByteArray := prog_14_method_98_code
def yX12_full : MethodName := ⟨RX12, "full", "(I)I"⟩
abbrev cX12_jumpOf : ByteArray := prog_14_method_99_code
def yX12_jumpOf : MethodName := ⟨RX12, "jumpOf", "(IIIII)I"⟩
abbrev cX12_allJumps : ByteArray := prog_14_method_100_code
def yX12_allJumps : MethodName := ⟨RX12, "allJumps", "(IIII)I"⟩
abbrev cX12_jump : ByteArray := prog_14_method_101_code
def yX12_jump : MethodName := ⟨RX12, "jump", "(IIIII)I"⟩
abbrev cX12_best : ByteArray := prog_14_method_102_code
def yX12_best : MethodName := ⟨RX12, "best", "(II)I"⟩
abbrev cX12_wrong_ : ByteArray := prog_14_method_103_code
def yX12_wrong_ : MethodName := ⟨RX12, "wrong", "()I"⟩
abbrev cX12_isAlike : ByteArray := prog_14_method_104_code
def yX12_isAlike : MethodName := ⟨RX12, "isAlike", "(III)Z"⟩
abbrev cX12_change : ByteArray := prog_14_method_105_code
def yX12_change : MethodName := ⟨RX12, "change", "(II)I"⟩
abbrev cX12_other : ByteArray := prog_14_method_106_code
def yX12_other : MethodName := ⟨RX12, "other", "(III)I"⟩
abbrev cX12_tell : ByteArray := prog_14_method_107_code
def yX12_tell : MethodName := ⟨RX12, "tell", "(II)Z"⟩
abbrev cX12_isLaw : ByteArray := prog_14_method_108_code
def yX12_isLaw : MethodName := ⟨RX12, "isLaw", "(II)Z"⟩
abbrev cX12_laws : ByteArray := prog_14_method_109_code
def yX12_laws : MethodName := ⟨RX12, "laws", "(I)I"⟩
abbrev cX12_notes : ByteArray := prog_14_method_110_code
def yX12_notes : MethodName := ⟨RX12, "notes", "(I)I"⟩
abbrev cX12_sight : ByteArray := prog_14_method_111_code
def yX12_sight : MethodName := ⟨RX12, "sight", "(IIZ)Z"⟩
abbrev cX12_canFollow : ByteArray := prog_14_method_112_code
def yX12_canFollow : MethodName := ⟨RX12, "canFollow", "(II)Z"⟩
abbrev cX12_mayBe : ByteArray := prog_14_method_113_code
def yX12_mayBe : MethodName := ⟨RX12, "mayBe", "(II)Z"⟩
abbrev cX12_finds : ByteArray := prog_14_method_114_code
def yX12_finds : MethodName := ⟨RX12, "finds", "(I)Z"⟩
abbrev cX12_matched : ByteArray := prog_14_method_115_code
def yX12_matched : MethodName := ⟨RX12, "matched", "()I"⟩
abbrev cX12_isTaken : ByteArray := prog_14_method_116_code
def yX12_isTaken : MethodName := ⟨RX12, "isTaken", "(II)Z"⟩
abbrev cX12_laysNext : ByteArray := prog_14_method_117_code
def yX12_laysNext : MethodName := ⟨RX12, "laysNext", "(I)V"⟩
abbrev cX12_hired : ByteArray := prog_14_method_118_code
def yX12_hired : MethodName := ⟨RX12, "hired", "(I)I"⟩
abbrev cX12_draw : ByteArray := prog_14_method_119_code
def yX12_draw : MethodName := ⟨RX12, "draw", "(I)I"⟩
abbrev cX12_days : ByteArray := prog_14_method_120_code
def yX12_days : MethodName := ⟨RX12, "days", "(III)I"⟩
abbrev cX12_mark : ByteArray := prog_14_method_121_code
def yX12_mark : MethodName := ⟨RX12, "mark", "(IZ)Z"⟩
abbrev cX12_count : ByteArray := prog_14_method_122_code
def yX12_count : MethodName := ⟨RX12, "count", "(I)I"⟩
def RJx145de : String := "java/io/Serializable"
def TJx145de : u_T := fun k => match k with
  | _ => ("", "", "", false)
def tyJx145de : Nat → FieldType := fun k => match k with
  | _ => .int
abbrev wsJx145de0 : List Cond := u_ws RJx145de TJx145de 0
theorem nmJx145de : ∀ a, a < 0 → ∀ b, b < 0 → a ≠ b → (TJx145de a).2.1 ≠ (TJx145de b).2.1 := by decide +kernel
theorem tyJx145de_ok : ∀ k, k < 0 → parseFieldDescriptor (TJx145de k).2.2.1 = some (tyJx145de k) := by decide +kernel
def RJx9f9b0 : String := "java/lang/CharSequence"
def TJx9f9b0 : u_T := fun k => match k with
  | _ => ("", "", "", false)
def tyJx9f9b0 : Nat → FieldType := fun k => match k with
  | _ => .int
abbrev wsJx9f9b00 : List Cond := u_ws RJx9f9b0 TJx9f9b0 0
theorem nmJx9f9b0 : ∀ a, a < 0 → ∀ b, b < 0 → a ≠ b → (TJx9f9b0 a).2.1 ≠ (TJx9f9b0 b).2.1 := by decide +kernel
theorem tyJx9f9b0_ok : ∀ k, k < 0 → parseFieldDescriptor (TJx9f9b0 k).2.2.1 = some (tyJx9f9b0 k) := by decide +kernel
def RJ11 : String := "java/lang/Character"
def TJ11 : u_T := fun k => match k with
  | _ => ("", "", "", false)
def tyJ11 : Nat → FieldType := fun k => match k with
  | _ => .int
abbrev wsJ110 : List Cond := u_ws RJ11 TJ11 0
theorem nmJ11 : ∀ a, a < 0 → ∀ b, b < 0 → a ≠ b → (TJ11 a).2.1 ≠ (TJ11 b).2.1 := by decide +kernel
theorem tyJ11_ok : ∀ k, k < 0 → parseFieldDescriptor (TJ11 k).2.2.1 = some (tyJ11 k) := by decide +kernel
abbrev cJ11_isValidCodePoint_9a6ad : ByteArray := prog_17_method_11_code
def yJ11_isValidCodePoint_9a6ad : MethodName := ⟨RJ11, "isValidCodePoint", "(I)Z"⟩
abbrev cJ11_highSurrogate_5068e : ByteArray := prog_17_method_28_code
def yJ11_highSurrogate_5068e : MethodName := ⟨RJ11, "highSurrogate", "(I)C"⟩
abbrev cJ11_lowSurrogate_5068e : ByteArray := prog_17_method_29_code
def yJ11_lowSurrogate_5068e : MethodName := ⟨RJ11, "lowSurrogate", "(I)C"⟩
def RJxb160c : String := "java/lang/Comparable"
def TJxb160c : u_T := fun k => match k with
  | _ => ("", "", "", false)
def tyJxb160c : Nat → FieldType := fun k => match k with
  | _ => .int
abbrev wsJxb160c0 : List Cond := u_ws RJxb160c TJxb160c 0
theorem nmJxb160c : ∀ a, a < 0 → ∀ b, b < 0 → a ≠ b → (TJxb160c a).2.1 ≠ (TJxb160c b).2.1 := by decide +kernel
theorem tyJxb160c_ok : ∀ k, k < 0 → parseFieldDescriptor (TJxb160c k).2.2.1 = some (tyJxb160c k) := by decide +kernel
def RJ6 : String := "java/lang/Integer"
def TJ6 : u_T := fun k => match k with
  | _ => ("", "", "", false)
def tyJ6 : Nat → FieldType := fun k => match k with
  | _ => .int
abbrev wsJ60 : List Cond := u_ws RJ6 TJ6 0
theorem nmJ6 : ∀ a, a < 0 → ∀ b, b < 0 → a ≠ b → (TJ6 a).2.1 ≠ (TJ6 b).2.1 := by decide +kernel
theorem tyJ6_ok : ∀ k, k < 0 → parseFieldDescriptor (TJ6 k).2.2.1 = some (tyJ6 k) := by decide +kernel
abbrev cJ6_bitCount_0f7a4 : ByteArray := prog_20_method_49_code
def yJ6_bitCount_0f7a4 : MethodName := ⟨RJ6, "bitCount", "(I)I"⟩
def RJ9 : String := "java/lang/Math"
def TJ9 : u_T := fun k => match k with
  | _ => ("", "", "", false)
def tyJ9 : Nat → FieldType := fun k => match k with
  | _ => .int
abbrev wsJ90 : List Cond := u_ws RJ9 TJ9 0
theorem nmJ9 : ∀ a, a < 0 → ∀ b, b < 0 → a ≠ b → (TJ9 a).2.1 ≠ (TJ9 b).2.1 := by decide +kernel
theorem tyJ9_ok : ∀ k, k < 0 → parseFieldDescriptor (TJ9 k).2.2.1 = some (tyJ9 k) := by decide +kernel
abbrev cJ9_abs_0f7a4 : ByteArray := prog_21_method_59_code
def yJ9_abs_0f7a4 : MethodName := ⟨RJ9, "abs", "(I)I"⟩
abbrev cJ9_max_7cf53 : ByteArray := prog_21_method_65_code
def yJ9_max_7cf53 : MethodName := ⟨RJ9, "max", "(II)I"⟩
abbrev cJ9_min_7cf53 : ByteArray := prog_21_method_69_code
def yJ9_min_7cf53 : MethodName := ⟨RJ9, "min", "(II)I"⟩
def RJ0 : String := "java/lang/String"
def TJ0 : u_T := fun k => match k with
  | _ => ("", "", "", false)
def tyJ0 : Nat → FieldType := fun k => match k with
  | _ => .int
abbrev wsJ00 : List Cond := u_ws RJ0 TJ0 0
theorem nmJ0 : ∀ a, a < 0 → ∀ b, b < 0 → a ≠ b → (TJ0 a).2.1 ≠ (TJ0 b).2.1 := by decide +kernel
theorem tyJ0_ok : ∀ k, k < 0 → parseFieldDescriptor (TJ0 k).2.2.1 = some (tyJ0 k) := by decide +kernel
abbrev cJ0_length_8abf5 : ByteArray := prog_23_method_54_code
def yJ0_length_8abf5 : MethodName := ⟨RJ0, "length", "()I"⟩
abbrev cJ0_charAt_5068e : ByteArray := prog_23_method_56_code
def yJ0_charAt_5068e : MethodName := ⟨RJ0, "charAt", "(I)C"⟩
abbrev cJ0_indexOf_0f7a4 : ByteArray := prog_23_method_79_code
def yJ0_indexOf_0f7a4 : MethodName := ⟨RJ0, "indexOf", "(I)I"⟩
abbrev cJ0_indexOf_7cf53 : ByteArray := prog_23_method_80_code
def yJ0_indexOf_7cf53 : MethodName := ⟨RJ0, "indexOf", "(II)I"⟩
abbrev cJ0_coder_7d493 : ByteArray := prog_23_method_152_code
def yJ0_coder_7d493 : MethodName := ⟨RJ0, "coder", "()B"⟩
abbrev cJ0_isLatin1_aae02 : ByteArray := prog_23_method_154_code
def yJ0_isLatin1_aae02 : MethodName := ⟨RJ0, "isLatin1", "()Z"⟩
abbrev cJ0_checkIndex_df160 : ByteArray := prog_23_method_155_code
def yJ0_checkIndex_df160 : MethodName := ⟨RJ0, "checkIndex", "(II)V"⟩
abbrev cJ0_checkBoundsBeginEnd_23922 : ByteArray := prog_23_method_158_code
def yJ0_checkBoundsBeginEnd_23922 : MethodName := ⟨RJ0, "checkBoundsBeginEnd", "(III)V"⟩
def RJ1 : String := "java/lang/StringLatin1"
def TJ1 : u_T := fun k => match k with
  | _ => ("", "", "", false)
def tyJ1 : Nat → FieldType := fun k => match k with
  | _ => .int
abbrev wsJ10 : List Cond := u_ws RJ1 TJ1 0
theorem nmJ1 : ∀ a, a < 0 → ∀ b, b < 0 → a ≠ b → (TJ1 a).2.1 ≠ (TJ1 b).2.1 := by decide +kernel
theorem tyJ1_ok : ∀ k, k < 0 → parseFieldDescriptor (TJ1 k).2.2.1 = some (tyJ1 k) := by decide +kernel
abbrev cJ1_charAt_3b067 : ByteArray := prog_24_method_2_code
def yJ1_charAt_3b067 : MethodName := ⟨RJ1, "charAt", "([BI)C"⟩
abbrev cJ1_canEncode_9a6ad : ByteArray := prog_24_method_4_code
def yJ1_canEncode_9a6ad : MethodName := ⟨RJ1, "canEncode", "(I)Z"⟩
abbrev cJ1_indexOf_4cfef : ByteArray := prog_24_method_22_code
def yJ1_indexOf_4cfef : MethodName := ⟨RJ1, "indexOf", "([BIII)I"⟩
abbrev cJ1_indexOfChar_4cfef : ByteArray := prog_24_method_23_code
def yJ1_indexOfChar_4cfef : MethodName := ⟨RJ1, "indexOfChar", "([BIII)I"⟩
def RJ2 : String := "java/lang/StringUTF16"
def TJ2 : u_T := fun k => match k with
  | _ => ("", "", "", false)
def tyJ2 : Nat → FieldType := fun k => match k with
  | _ => .int
abbrev wsJ20 : List Cond := u_ws RJ2 TJ2 0
theorem nmJ2 : ∀ a, a < 0 → ∀ b, b < 0 → a ≠ b → (TJ2 a).2.1 ≠ (TJ2 b).2.1 := by decide +kernel
theorem tyJ2_ok : ∀ k, k < 0 → parseFieldDescriptor (TJ2 k).2.2.1 = some (tyJ2 k) := by decide +kernel
abbrev cJ2_getChar_3b067 : ByteArray := prog_25_method_5_code
def yJ2_getChar_3b067 : MethodName := ⟨RJ2, "getChar", "([BI)C"⟩
abbrev cJ2_length_9d52b : ByteArray := prog_25_method_6_code
def yJ2_length_9d52b : MethodName := ⟨RJ2, "length", "([B)I"⟩
abbrev cJ2_indexOf_4cfef : ByteArray := prog_25_method_40_code
def yJ2_indexOf_4cfef : MethodName := ⟨RJ2, "indexOf", "([BIII)I"⟩
abbrev cJ2_indexOfChar_4cfef : ByteArray := prog_25_method_47_code
def yJ2_indexOfChar_4cfef : MethodName := ⟨RJ2, "indexOfChar", "([BIII)I"⟩
abbrev cJ2_indexOfCharUnsafe_4cfef : ByteArray := prog_25_method_48_code
def yJ2_indexOfCharUnsafe_4cfef : MethodName := ⟨RJ2, "indexOfCharUnsafe", "([BIII)I"⟩
abbrev cJ2_indexOfSupplementary_4cfef : ByteArray := prog_25_method_49_code
def yJ2_indexOfSupplementary_4cfef : MethodName := ⟨RJ2, "indexOfSupplementary", "([BIII)I"⟩
abbrev cJ2_charAt_3b067 : ByteArray := prog_25_method_83_code
def yJ2_charAt_3b067 : MethodName := ⟨RJ2, "charAt", "([BI)C"⟩
abbrev cJ2_checkIndex_2214a : ByteArray := prog_25_method_91_code
def yJ2_checkIndex_2214a : MethodName := ⟨RJ2, "checkIndex", "(I[B)V"⟩
abbrev cJ2_checkBoundsBeginEnd_d044e : ByteArray := prog_25_method_93_code
def yJ2_checkBoundsBeginEnd_d044e : MethodName := ⟨RJ2, "checkBoundsBeginEnd", "(II[B)V"⟩
def RJ10 : String := "java/lang/System"
def TJ10 : u_T := fun k => match k with
  | _ => ("", "", "", false)
def tyJ10 : Nat → FieldType := fun k => match k with
  | _ => .int
abbrev wsJ100 : List Cond := u_ws RJ10 TJ10 0
theorem nmJ10 : ∀ a, a < 0 → ∀ b, b < 0 → a ≠ b → (TJ10 a).2.1 ≠ (TJ10 b).2.1 := by decide +kernel
theorem tyJ10_ok : ∀ k, k < 0 → parseFieldDescriptor (TJ10 k).2.2.1 = some (tyJ10 k) := by decide +kernel
def RJxfd54e : String := "java/lang/constant/Constable"
def TJxfd54e : u_T := fun k => match k with
  | _ => ("", "", "", false)
def tyJxfd54e : Nat → FieldType := fun k => match k with
  | _ => .int
abbrev wsJxfd54e0 : List Cond := u_ws RJxfd54e TJxfd54e 0
theorem nmJxfd54e : ∀ a, a < 0 → ∀ b, b < 0 → a ≠ b → (TJxfd54e a).2.1 ≠ (TJxfd54e b).2.1 := by decide +kernel
theorem tyJxfd54e_ok : ∀ k, k < 0 → parseFieldDescriptor (TJxfd54e k).2.2.1 = some (tyJxfd54e k) := by decide +kernel
def RJx3cf43 : String := "java/lang/constant/ConstantDesc"
def TJx3cf43 : u_T := fun k => match k with
  | _ => ("", "", "", false)
def tyJx3cf43 : Nat → FieldType := fun k => match k with
  | _ => .int
abbrev wsJx3cf430 : List Cond := u_ws RJx3cf43 TJx3cf43 0
theorem nmJx3cf43 : ∀ a, a < 0 → ∀ b, b < 0 → a ≠ b → (TJx3cf43 a).2.1 ≠ (TJx3cf43 b).2.1 := by decide +kernel
theorem tyJx3cf43_ok : ∀ k, k < 0 → parseFieldDescriptor (TJx3cf43 k).2.2.1 = some (tyJx3cf43 k) := by decide +kernel
def RJ7 : String := "java/util/Arrays"
def TJ7 : u_T := fun k => match k with
  | _ => ("", "", "", false)
def tyJ7 : Nat → FieldType := fun k => match k with
  | _ => .int
abbrev wsJ70 : List Cond := u_ws RJ7 TJ7 0
theorem nmJ7 : ∀ a, a < 0 → ∀ b, b < 0 → a ≠ b → (TJ7 a).2.1 ≠ (TJ7 b).2.1 := by decide +kernel
theorem tyJ7_ok : ∀ k, k < 0 → parseFieldDescriptor (TJ7 k).2.2.1 = some (tyJ7 k) := by decide +kernel
abbrev cJ7_fill_d0a16 : ByteArray := prog_30_method_101_code
def yJ7_fill_d0a16 : MethodName := ⟨RJ7, "fill", "([JJ)V"⟩
abbrev cJ7_fill_53178 : ByteArray := prog_30_method_103_code
def yJ7_fill_53178 : MethodName := ⟨RJ7, "fill", "([II)V"⟩
def RJ3 : String := "jdk/internal/util/Preconditions"
def TJ3 : u_T := fun k => match k with
  | _ => ("", "", "", false)
def tyJ3 : Nat → FieldType := fun k => match k with
  | _ => .int
abbrev wsJ30 : List Cond := u_ws RJ3 TJ3 0
theorem nmJ3 : ∀ a, a < 0 → ∀ b, b < 0 → a ≠ b → (TJ3 a).2.1 ≠ (TJ3 b).2.1 := by decide +kernel
theorem tyJ3_ok : ∀ k, k < 0 → parseFieldDescriptor (TJ3 k).2.2.1 = some (tyJ3 k) := by decide +kernel
abbrev cJ3_checkIndex_8e157 : ByteArray := prog_32_method_11_code
def yJ3_checkIndex_8e157 : MethodName := ⟨RJ3, "checkIndex", "(IILjava/util/function/BiFunction;)I"⟩
abbrev cJ3_checkFromToIndex_8c36e : ByteArray := prog_32_method_12_code
def yJ3_checkFromToIndex_8c36e : MethodName := ⟨RJ3, "checkFromToIndex", "(IIILjava/util/function/BiFunction;)I"⟩
def RL : String := "SamePassersLaw"
abbrev cL_laws : ByteArray := method_3_code
def yL_laws : MethodName := ⟨RL, "laws", "(LSamePassers;I[J)I"⟩
abbrev cL_law : ByteArray := code
def yL_law : MethodName := ⟨RL, "law", "([I)Z"⟩
abbrev vwCl : List vw_C := [(RX0, TX0, 6), (RX1, TX1, 4), (RX2, TX2, 9), (RX3, TX3, 6), (RX4, TX4, 11), (RX5, TX5, 7), (RX6, TX6, 4), (RX7, TX7, 18), (RX8, TX8, 8), (RX9, TX9, 8), (RX10, TX10, 6), (RX11, TX11, 19), (RX12, TX12, 40)]
end
section
abbrev mm_E : Type := Instr × Nat × Nat × Nat × Int
/-- SamePassers$Film.<init>()V -/
def mm_c0 : List (Nat × mm_E) := [(0, .aload_n 0, 1, 0, 0, 0), (1, .invokespecial 3, 3, 0, 0, 4), (4, .aload_n 0, 1, 0, 0, 0), (5, .bipush 12, 2, 0, 0, 0), (7, .bipush 8, 2, 0, 0, 0), (9, .multianewarray 9 2, 4, 27, 0, 0), (13, .putfield 11, 3, 0, 0, 2), (16, .aload_n 0, 1, 0, 0, 0),
  (17, .bipush 10, 2, 0, 0, 0), (19, .newarray .int, 2, 0, 0, 0), (21, .putfield 16, 3, 0, 1, 2), (24, .aload_n 0, 1, 0, 0, 0), (25, .bipush 10, 2, 0, 0, 0), (27, .newarray .int, 2, 0, 0, 0), (29, .putfield 20, 3, 0, 2, 2), (32, .aload_n 0, 1, 0, 0, 0),
  (33, .bipush 10, 2, 0, 0, 0), (35, .newarray .int, 2, 0, 0, 0), (37, .putfield 23, 3, 0, 5, 2), (40, .return_, 1, 0, 0, 0)]
/-- SamePassers$Film.shoot(ILSamePassers$Walks;LSamePassers$Street;I)V -/
def mm_c1 : List (Nat × mm_E) := [(0, .iconst 0, 1, 0, 0, 0), (1, .istore 5, 2, 0, 0, 0), (3, .iload 5, 2, 0, 0, 0), (5, .aload_n 3, 1, 0, 0, 0), (6, .getfield 26, 3, 7, 10, 0), (9, .if_icmp .ge 26, 3, 35, 0, 0), (12, .aload_n 0, 1, 0, 0, 0), (13, .getfield 11, 3, 0, 0, 2),
  (16, .iload_n 1, 1, 0, 0, 0), (17, .aaload, 1, 0, 0, 0), (18, .iload 5, 2, 0, 0, 0), (20, .aload_n 2, 1, 0, 0, 0), (21, .iload 5, 2, 0, 0, 0), (23, .iload 4, 2, 0, 0, 0), (25, .invokevirtual 32, 3, 98, 3, 2), (28, .iastore, 1, 0, 0, 0),
  (29, .iinc 5 1, 3, 0, 0, 0), (32, .goto (-29), 3, 3, 0, 0), (35, .return_, 1, 0, 0, 0)]
/-- SamePassers$Film.allJumps(LSamePassers$Street;II)I -/
def mm_c2 : List (Nat × mm_E) := [(0, .iconst 0, 1, 0, 0, 0), (1, .istore 4, 2, 0, 0, 0), (3, .iconst 0, 1, 0, 0, 0), (4, .istore 5, 2, 0, 0, 0), (6, .iload 5, 2, 0, 0, 0), (8, .aload_n 1, 1, 0, 0, 0), (9, .getfield 26, 3, 7, 10, 0), (12, .if_icmp .ge 23, 3, 35, 0, 0),
  (15, .iload 4, 2, 0, 0, 0), (17, .aload_n 0, 1, 0, 0, 0), (18, .aload_n 1, 1, 0, 0, 0), (19, .iload 5, 2, 0, 0, 0), (21, .iload_n 2, 1, 0, 0, 0), (22, .iload_n 3, 1, 0, 0, 0), (23, .invokevirtual 41, 3, 3, 5, 2), (26, .iadd, 1, 0, 0, 0),
  (27, .istore 4, 2, 0, 0, 0), (29, .iinc 5 1, 3, 0, 0, 0), (32, .goto (-26), 3, 6, 0, 0), (35, .iload 4, 2, 0, 0, 0), (37, .ireturn, 1, 0, 0, 0)]
/-- SamePassers$Film.jumpOf(LSamePassers$Street;III)I -/
def mm_c3 : List (Nat × mm_E) := [(0, .aload_n 1, 1, 0, 0, 0), (1, .aload_n 0, 1, 0, 0, 0), (2, .getfield 11, 3, 0, 0, 2), (5, .iload_n 3, 1, 0, 0, 0), (6, .aaload, 1, 0, 0, 0), (7, .iload_n 2, 1, 0, 0, 0), (8, .iaload, 1, 0, 0, 0), (9, .aload_n 0, 1, 0, 0, 0),
  (10, .getfield 11, 3, 0, 0, 2), (13, .iload 4, 2, 0, 0, 0), (15, .aaload, 1, 0, 0, 0), (16, .iload_n 2, 1, 0, 0, 0), (17, .iaload, 1, 0, 0, 0), (18, .invokevirtual 38, 3, 74, 3, 2), (21, .ireturn, 1, 0, 0, 0)]
/-- SamePassers$Film.findNext(LSamePassers$Papers;LSamePassers$Street;)I -/
def mm_c4 : List (Nat × mm_E) := [(0, .aload_n 0, 1, 0, 0, 0), (1, .aload_n 1, 1, 0, 0, 0), (2, .getfield 45, 3, 4, 3, 0), (5, .putfield 50, 3, 0, 3, 0), (8, .iconst 0, 1, 0, 0, 0), (9, .istore_n 3, 1, 0, 0, 0), (10, .iload_n 3, 1, 0, 0, 0), (11, .aload_n 0, 1, 0, 0, 0),
  (12, .getfield 50, 3, 0, 3, 0), (15, .if_icmp .ge 21, 3, 36, 0, 0), (18, .aload_n 0, 1, 0, 0, 0), (19, .getfield 16, 3, 0, 1, 2), (22, .iload_n 3, 1, 0, 0, 0), (23, .iload_n 3, 1, 0, 0, 0), (24, .aload_n 1, 1, 0, 0, 0), (25, .aload_n 2, 1, 0, 0, 0),
  (26, .invokestatic 53, 3, 5, 3, 0), (29, .iastore, 1, 0, 0, 0), (30, .iinc 3 1, 3, 0, 0, 0), (33, .goto (-23), 3, 10, 0, 0), (36, .iconst 1, 1, 0, 0, 0), (37, .aload_n 0, 1, 0, 0, 0), (38, .getfield 50, 3, 0, 3, 0), (41, .ishl, 1, 0, 0, 0),
  (42, .iconst 1, 1, 0, 0, 0), (43, .isub, 1, 0, 0, 0), (44, .istore_n 3, 1, 0, 0, 0), (45, .aload_n 0, 1, 0, 0, 0), (46, .iconst 0, 1, 0, 0, 0), (47, .iload_n 3, 1, 0, 0, 0), (48, .invokevirtual 57, 3, 7, 3, 2), (51, .istore 4, 2, 0, 0, 0),
  (53, .iconst 0, 1, 0, 0, 0), (54, .istore 5, 2, 0, 0, 0), (56, .iconst 0, 1, 0, 0, 0), (57, .istore 6, 2, 0, 0, 0), (59, .iload 6, 2, 0, 0, 0), (61, .aload_n 0, 1, 0, 0, 0), (62, .getfield 50, 3, 0, 3, 0), (65, .if_icmp .ge 138, 3, 203, 0, 0),
  (68, .aload_n 0, 1, 0, 0, 0), (69, .getfield 23, 3, 0, 5, 2), (72, .iload 6, 2, 0, 0, 0), (74, .iconst (-1), 1, 0, 0, 0), (75, .iastore, 1, 0, 0, 0), (76, .iconst 0, 1, 0, 0, 0), (77, .istore 7, 2, 0, 0, 0), (79, .iload 7, 2, 0, 0, 0),
  (81, .aload_n 0, 1, 0, 0, 0), (82, .getfield 50, 3, 0, 3, 0), (85, .if_icmp .ge 84, 3, 169, 0, 0), (88, .aload_n 0, 1, 0, 0, 0), (89, .getfield 23, 3, 0, 5, 2), (92, .iload 6, 2, 0, 0, 0), (94, .iaload, 1, 0, 0, 0), (95, .iconst (-1), 1, 0, 0, 0),
  (96, .if_icmp .ne 73, 3, 169, 0, 0), (99, .aload_n 0, 1, 0, 0, 0), (100, .getfield 16, 3, 0, 1, 2), (103, .iload 6, 2, 0, 0, 0), (105, .iaload, 1, 0, 0, 0), (106, .iload_n 3, 1, 0, 0, 0), (107, .iand, 1, 0, 0, 0), (108, .iconst 1, 1, 0, 0, 0),
  (109, .iload 7, 2, 0, 0, 0), (111, .ishl, 1, 0, 0, 0), (112, .iand, 1, 0, 0, 0), (113, .ifCond .eq 7, 3, 120, 0, 0), (116, .iconst 1, 1, 0, 0, 0), (117, .goto 4, 3, 121, 0, 0), (120, .iconst 0, 1, 0, 0, 0), (121, .istore 8, 2, 0, 0, 0),
  (123, .iload 8, 2, 0, 0, 0), (125, .ifCond .eq 38, 3, 163, 0, 0), (128, .iload 5, 2, 0, 0, 0), (130, .iconst 1, 1, 0, 0, 0), (131, .iadd, 1, 0, 0, 0), (132, .aload_n 0, 1, 0, 0, 0), (133, .iload 6, 2, 0, 0, 0), (135, .iconst 1, 1, 0, 0, 0),
  (136, .iadd, 1, 0, 0, 0), (137, .iload_n 3, 1, 0, 0, 0), (138, .iconst 1, 1, 0, 0, 0), (139, .iload 7, 2, 0, 0, 0), (141, .ishl, 1, 0, 0, 0), (142, .iconst (-1), 1, 0, 0, 0), (143, .ixor, 1, 0, 0, 0), (144, .iand, 1, 0, 0, 0),
  (145, .invokevirtual 57, 3, 7, 3, 2), (148, .iadd, 1, 0, 0, 0), (149, .iload 4, 2, 0, 0, 0), (151, .if_icmp .ne 12, 3, 163, 0, 0), (154, .aload_n 0, 1, 0, 0, 0), (155, .getfield 23, 3, 0, 5, 2), (158, .iload 6, 2, 0, 0, 0), (160, .iload 7, 2, 0, 0, 0),
  (162, .iastore, 1, 0, 0, 0), (163, .iinc 7 1, 3, 0, 0, 0), (166, .goto (-87), 3, 79, 0, 0), (169, .aload_n 0, 1, 0, 0, 0), (170, .getfield 23, 3, 0, 5, 2), (173, .iload 6, 2, 0, 0, 0), (175, .iaload, 1, 0, 0, 0), (176, .iconst (-1), 1, 0, 0, 0),
  (177, .if_icmp .eq 20, 3, 197, 0, 0), (180, .iload_n 3, 1, 0, 0, 0), (181, .iconst 1, 1, 0, 0, 0), (182, .aload_n 0, 1, 0, 0, 0), (183, .getfield 23, 3, 0, 5, 2), (186, .iload 6, 2, 0, 0, 0), (188, .iaload, 1, 0, 0, 0), (189, .ishl, 1, 0, 0, 0),
  (190, .iconst (-1), 1, 0, 0, 0), (191, .ixor, 1, 0, 0, 0), (192, .iand, 1, 0, 0, 0), (193, .istore_n 3, 1, 0, 0, 0), (194, .iinc 5 1, 3, 0, 0, 0), (197, .iinc 6 1, 3, 0, 0, 0), (200, .goto (-141), 3, 59, 0, 0), (203, .iload 4, 2, 0, 0, 0),
  (205, .ireturn, 1, 0, 0, 0)]
/-- SamePassers$Film.followersOf(ILSamePassers$Papers;LSamePassers$Street;)I -/
def mm_c5 : List (Nat × mm_E) := [(0, .iconst 0, 1, 0, 0, 0), (1, .istore_n 3, 1, 0, 0, 0), (2, .iconst 0, 1, 0, 0, 0), (3, .istore 4, 2, 0, 0, 0), (5, .iload 4, 2, 0, 0, 0), (7, .aload_n 1, 1, 0, 0, 0), (8, .getfield 45, 3, 4, 3, 0), (11, .if_icmp .ge 138, 3, 149, 0, 0),
  (14, .aload_n 1, 1, 0, 0, 0), (15, .getfield 60, 3, 4, 5, 2), (18, .iload 4, 2, 0, 0, 0), (20, .iaload, 1, 0, 0, 0), (21, .aload_n 1, 1, 0, 0, 0), (22, .getfield 60, 3, 4, 5, 2), (25, .iload_n 0, 1, 0, 0, 0), (26, .iaload, 1, 0, 0, 0),
  (27, .isub, 1, 0, 0, 0), (28, .istore 5, 2, 0, 0, 0), (30, .aload_n 1, 1, 0, 0, 0), (31, .getfield 63, 3, 4, 6, 2), (34, .iload_n 0, 1, 0, 0, 0), (35, .iaload, 1, 0, 0, 0), (36, .iconst 1, 1, 0, 0, 0), (37, .if_icmp .ne 8, 3, 45, 0, 0),
  (40, .iload 5, 2, 0, 0, 0), (42, .goto 6, 3, 48, 0, 0), (45, .iload 5, 2, 0, 0, 0), (47, .ineg, 1, 0, 0, 0), (48, .istore 6, 2, 0, 0, 0), (50, .aload_n 1, 1, 0, 0, 0), (51, .getfield 66, 3, 4, 4, 2), (54, .iload 4, 2, 0, 0, 0),
  (56, .iaload, 1, 0, 0, 0), (57, .aload_n 1, 1, 0, 0, 0), (58, .getfield 66, 3, 4, 4, 2), (61, .iload_n 0, 1, 0, 0, 0), (62, .iaload, 1, 0, 0, 0), (63, .isub, 1, 0, 0, 0), (64, .istore 7, 2, 0, 0, 0), (66, .aload_n 1, 1, 0, 0, 0),
  (67, .getfield 63, 3, 4, 6, 2), (70, .iload 4, 2, 0, 0, 0), (72, .iaload, 1, 0, 0, 0), (73, .aload_n 1, 1, 0, 0, 0), (74, .getfield 63, 3, 4, 6, 2), (77, .iload_n 0, 1, 0, 0, 0), (78, .iaload, 1, 0, 0, 0), (79, .if_icmp .ne 7, 3, 86, 0, 0),
  (82, .iconst 1, 1, 0, 0, 0), (83, .goto 4, 3, 87, 0, 0), (86, .iconst 0, 1, 0, 0, 0), (87, .istore 8, 2, 0, 0, 0), (89, .iload 6, 2, 0, 0, 0), (91, .iload 7, 2, 0, 0, 0), (93, .invokestatic 69, 3, 6, 2, 0), (96, .ifCond .ne 23, 3, 119, 0, 0),
  (99, .iload 6, 2, 0, 0, 0), (101, .aload_n 2, 1, 0, 0, 0), (102, .getfield 73, 3, 7, 0, 0), (105, .iadd, 1, 0, 0, 0), (106, .iload 7, 2, 0, 0, 0), (108, .aload_n 2, 1, 0, 0, 0), (109, .getfield 76, 3, 7, 5, 0), (112, .isub, 1, 0, 0, 0),
  (113, .invokestatic 69, 3, 6, 2, 0), (116, .ifCond .eq 7, 3, 123, 0, 0), (119, .iconst 1, 1, 0, 0, 0), (120, .goto 4, 3, 124, 0, 0), (123, .iconst 0, 1, 0, 0, 0), (124, .istore 9, 2, 0, 0, 0), (126, .iload 8, 2, 0, 0, 0), (128, .ifCond .eq 15, 3, 143, 0, 0),
  (131, .iload 9, 2, 0, 0, 0), (133, .ifCond .eq 10, 3, 143, 0, 0), (136, .iload_n 3, 1, 0, 0, 0), (137, .iconst 1, 1, 0, 0, 0), (138, .iload 4, 2, 0, 0, 0), (140, .ishl, 1, 0, 0, 0), (141, .ior, 1, 0, 0, 0), (142, .istore_n 3, 1, 0, 0, 0),
  (143, .iinc 4 1, 3, 0, 0, 0), (146, .goto (-141), 3, 5, 0, 0), (149, .iload_n 3, 1, 0, 0, 0), (150, .ireturn, 1, 0, 0, 0)]
/-- SamePassers$Film.canWalk(II)Z -/
def mm_c6 : List (Nat × mm_E) := [(0, .iload_n 0, 1, 0, 0, 0), (1, .iconst 1, 1, 0, 0, 0), (2, .if_icmp .lt 20, 3, 22, 0, 0), (5, .iload_n 1, 1, 0, 0, 0), (6, .iload_n 0, 1, 0, 0, 0), (7, .if_icmp .lt 15, 3, 22, 0, 0), (10, .iload_n 1, 1, 0, 0, 0), (11, .bipush 9, 2, 0, 0, 0),
  (13, .iload_n 0, 1, 0, 0, 0), (14, .imul, 1, 0, 0, 0), (15, .if_icmp .gt 7, 3, 22, 0, 0), (18, .iconst 1, 1, 0, 0, 0), (19, .goto 4, 3, 23, 0, 0), (22, .iconst 0, 1, 0, 0, 0), (23, .ireturn, 1, 0, 0, 0)]
/-- SamePassers$Film.mostPairs(II)I -/
def mm_c7 : List (Nat × mm_E) := [(0, .iconst 0, 1, 0, 0, 0), (1, .istore_n 3, 1, 0, 0, 0), (2, .aload_n 0, 1, 0, 0, 0), (3, .getfield 20, 3, 0, 2, 2), (6, .iconst (-1), 1, 0, 0, 0), (7, .invokestatic 79, 3, 280, 2, 1), (10, .iload_n 1, 1, 0, 0, 0), (11, .istore 4, 2, 0, 0, 0),
  (13, .iload 4, 2, 0, 0, 0), (15, .aload_n 0, 1, 0, 0, 0), (16, .getfield 50, 3, 0, 3, 0), (19, .if_icmp .ge 29, 3, 48, 0, 0), (22, .aload_n 0, 1, 0, 0, 0), (23, .iload_n 2, 1, 0, 0, 0), (24, .iconst (-1), 1, 0, 0, 0), (25, .ixor, 1, 0, 0, 0),
  (26, .putfield 85, 3, 0, 4, 0), (29, .aload_n 0, 1, 0, 0, 0), (30, .iload 4, 2, 0, 0, 0), (32, .iconst 0, 1, 0, 0, 0), (33, .invokevirtual 88, 3, 8, 3, 2), (36, .ifCond .eq 6, 3, 42, 0, 0), (39, .iinc 3 1, 3, 0, 0, 0), (42, .iinc 4 1, 3, 0, 0, 0),
  (45, .goto (-32), 3, 13, 0, 0), (48, .iload_n 3, 1, 0, 0, 0), (49, .ireturn, 1, 0, 0, 0)]
/-- SamePassers$Film.findPlace(II)Z -/
def mm_c8 : List (Nat × mm_E) := [(0, .iload_n 2, 1, 0, 0, 0), (1, .aload_n 0, 1, 0, 0, 0), (2, .getfield 50, 3, 0, 3, 0), (5, .if_icmp .le 5, 3, 10, 0, 0), (8, .iconst 0, 1, 0, 0, 0), (9, .ireturn, 1, 0, 0, 0), (10, .iconst 0, 1, 0, 0, 0), (11, .istore_n 3, 1, 0, 0, 0),
  (12, .iload_n 3, 1, 0, 0, 0), (13, .aload_n 0, 1, 0, 0, 0), (14, .getfield 50, 3, 0, 3, 0), (17, .if_icmp .ge 79, 3, 96, 0, 0), (20, .iconst 1, 1, 0, 0, 0), (21, .iload_n 3, 1, 0, 0, 0), (22, .ishl, 1, 0, 0, 0), (23, .istore 4, 2, 0, 0, 0),
  (25, .aload_n 0, 1, 0, 0, 0), (26, .getfield 16, 3, 0, 1, 2), (29, .iload_n 1, 1, 0, 0, 0), (30, .iaload, 1, 0, 0, 0), (31, .aload_n 0, 1, 0, 0, 0), (32, .getfield 85, 3, 0, 4, 0), (35, .iconst (-1), 1, 0, 0, 0), (36, .ixor, 1, 0, 0, 0),
  (37, .iand, 1, 0, 0, 0), (38, .iload 4, 2, 0, 0, 0), (40, .iand, 1, 0, 0, 0), (41, .ifCond .eq 49, 3, 90, 0, 0), (44, .aload_n 0, 1, 0, 0, 0), (45, .dup, 1, 0, 0, 0), (46, .getfield 85, 3, 0, 4, 0), (49, .iload 4, 2, 0, 0, 0),
  (51, .ior, 1, 0, 0, 0), (52, .putfield 85, 3, 0, 4, 0), (55, .aload_n 0, 1, 0, 0, 0), (56, .getfield 20, 3, 0, 2, 2), (59, .iload_n 3, 1, 0, 0, 0), (60, .iaload, 1, 0, 0, 0), (61, .iconst (-1), 1, 0, 0, 0), (62, .if_icmp .eq 19, 3, 81, 0, 0),
  (65, .aload_n 0, 1, 0, 0, 0), (66, .aload_n 0, 1, 0, 0, 0), (67, .getfield 20, 3, 0, 2, 2), (70, .iload_n 3, 1, 0, 0, 0), (71, .iaload, 1, 0, 0, 0), (72, .iload_n 2, 1, 0, 0, 0), (73, .iconst 1, 1, 0, 0, 0), (74, .iadd, 1, 0, 0, 0),
  (75, .invokevirtual 88, 3, 8, 3, 2), (78, .ifCond .eq 12, 3, 90, 0, 0), (81, .aload_n 0, 1, 0, 0, 0), (82, .getfield 20, 3, 0, 2, 2), (85, .iload_n 3, 1, 0, 0, 0), (86, .iload_n 1, 1, 0, 0, 0), (87, .iastore, 1, 0, 0, 0), (88, .iconst 1, 1, 0, 0, 0),
  (89, .ireturn, 1, 0, 0, 0), (90, .iinc 3 1, 3, 0, 0, 0), (93, .goto (-81), 3, 12, 0, 0), (96, .iconst 0, 1, 0, 0, 0), (97, .ireturn, 1, 0, 0, 0)]
/-- SamePassers$Hands.<init>()V -/
def mm_c9 : List (Nat × mm_E) := [(0, .aload_n 0, 1, 0, 0, 0), (1, .invokespecial 3, 3, 0, 0, 4), (4, .aload_n 0, 1, 0, 0, 0), (5, .bipush 8, 2, 0, 0, 0), (7, .newarray .int, 2, 0, 0, 0), (9, .putfield 9, 3, 1, 1, 2), (12, .aload_n 0, 1, 0, 0, 0), (13, .bipush 8, 2, 0, 0, 0),
  (15, .newarray .int, 2, 0, 0, 0), (17, .putfield 15, 3, 1, 2, 2), (20, .aload_n 0, 1, 0, 0, 0), (21, .bipush 8, 2, 0, 0, 0), (23, .newarray .int, 2, 0, 0, 0), (25, .putfield 18, 3, 1, 3, 2), (28, .return_, 1, 0, 0, 0)]
/-- SamePassers$Hands.asTold(LSamePassers$Street;)V -/
def mm_c10 : List (Nat × mm_E) := [(0, .aload_n 0, 1, 0, 0, 0), (1, .iconst 0, 1, 0, 0, 0), (2, .putfield 21, 3, 1, 0, 0), (5, .iconst 0, 1, 0, 0, 0), (6, .istore_n 2, 1, 0, 0, 0), (7, .iload_n 2, 1, 0, 0, 0), (8, .aload_n 1, 1, 0, 0, 0), (9, .getfield 25, 3, 7, 10, 0),
  (12, .if_icmp .ge 39, 3, 51, 0, 0), (15, .aload_n 0, 1, 0, 0, 0), (16, .getfield 9, 3, 1, 1, 2), (19, .iload_n 2, 1, 0, 0, 0), (20, .aload_n 1, 1, 0, 0, 0), (21, .getfield 30, 3, 7, 11, 2), (24, .iload_n 2, 1, 0, 0, 0), (25, .aaload, 1, 0, 0, 0),
  (26, .getfield 34, 3, 9, 3, 0), (29, .iastore, 1, 0, 0, 0), (30, .aload_n 0, 1, 0, 0, 0), (31, .getfield 15, 3, 1, 2, 2), (34, .iload_n 2, 1, 0, 0, 0), (35, .aload_n 1, 1, 0, 0, 0), (36, .getfield 30, 3, 7, 11, 2), (39, .iload_n 2, 1, 0, 0, 0),
  (40, .aaload, 1, 0, 0, 0), (41, .getfield 39, 3, 9, 4, 0), (44, .iastore, 1, 0, 0, 0), (45, .iinc 2 1, 3, 0, 0, 0), (48, .goto (-41), 3, 7, 0, 0), (51, .aload_n 0, 1, 0, 0, 0), (52, .getfield 18, 3, 1, 3, 2), (55, .iconst 0, 1, 0, 0, 0),
  (56, .invokestatic 42, 3, 280, 2, 1), (59, .return_, 1, 0, 0, 0)]
/-- SamePassers$Hands.copyFrom(LSamePassers$Hands;)V -/
def mm_c11 : List (Nat × mm_E) := [(0, .aload_n 0, 1, 0, 0, 0), (1, .aload_n 1, 1, 0, 0, 0), (2, .getfield 21, 3, 1, 0, 0), (5, .putfield 21, 3, 1, 0, 0), (8, .aload_n 1, 1, 0, 0, 0), (9, .getfield 9, 3, 1, 1, 2), (12, .iconst 0, 1, 0, 0, 0), (13, .aload_n 0, 1, 0, 0, 0),
  (14, .getfield 9, 3, 1, 1, 2), (17, .iconst 0, 1, 0, 0, 0), (18, .bipush 8, 2, 0, 0, 0), (20, .invokestatic 48, 3, 0, 0, 13), (23, .aload_n 1, 1, 0, 0, 0), (24, .getfield 15, 3, 1, 2, 2), (27, .iconst 0, 1, 0, 0, 0), (28, .aload_n 0, 1, 0, 0, 0),
  (29, .getfield 15, 3, 1, 2, 2), (32, .iconst 0, 1, 0, 0, 0), (33, .bipush 8, 2, 0, 0, 0), (35, .invokestatic 48, 3, 0, 0, 13), (38, .aload_n 1, 1, 0, 0, 0), (39, .getfield 18, 3, 1, 3, 2), (42, .iconst 0, 1, 0, 0, 0), (43, .aload_n 0, 1, 0, 0, 0),
  (44, .getfield 18, 3, 1, 3, 2), (47, .iconst 0, 1, 0, 0, 0), (48, .bipush 8, 2, 0, 0, 0), (50, .invokestatic 48, 3, 0, 0, 13), (53, .return_, 1, 0, 0, 0)]
/-- SamePassers$Hands.goOn()V -/
def mm_c12 : List (Nat × mm_E) := [(0, .aload_n 0, 1, 0, 0, 0), (1, .dup, 1, 0, 0, 0), (2, .getfield 21, 3, 1, 0, 0), (5, .iconst 1, 1, 0, 0, 0), (6, .iadd, 1, 0, 0, 0), (7, .putfield 21, 3, 1, 0, 0), (10, .aload_n 0, 1, 0, 0, 0), (11, .getfield 18, 3, 1, 3, 2),
  (14, .iconst 0, 1, 0, 0, 0), (15, .invokestatic 42, 3, 280, 2, 1), (18, .return_, 1, 0, 0, 0)]
/-- SamePassers$LagSearch.<init>(LSamePassers$Street;)V -/
def mm_c13 : List (Nat × mm_E) := [(0, .aload_n 0, 1, 0, 0, 0), (1, .invokespecial 3, 3, 0, 0, 4), (4, .aload_n 0, 1, 0, 0, 0), (5, .iconst 4, 1, 0, 0, 0), (6, .newarray .int, 2, 0, 0, 0), (8, .putfield 11, 3, 2, 0, 2), (11, .aload_n 0, 1, 0, 0, 0), (12, .iconst 4, 1, 0, 0, 0),
  (13, .sipush 601, 3, 0, 0, 0), (16, .multianewarray 15 2, 4, 27, 0, 0), (20, .putfield 17, 3, 2, 1, 2), (23, .aload_n 0, 1, 0, 0, 0), (24, .iconst 4, 1, 0, 0, 0), (25, .newarray .int, 2, 0, 0, 0), (27, .putfield 20, 3, 2, 2, 2), (30, .aload_n 0, 1, 0, 0, 0),
  (31, .sipush 384, 3, 0, 0, 0), (34, .newarray .int, 2, 0, 0, 0), (36, .putfield 23, 3, 2, 3, 2), (39, .aload_n 0, 1, 0, 0, 0), (40, .iconst 4, 1, 0, 0, 0), (41, .newarray .int, 2, 0, 0, 0), (43, .putfield 26, 3, 2, 4, 2), (46, .aload_n 0, 1, 0, 0, 0),
  (47, .iconst 4, 1, 0, 0, 0), (48, .newarray .int, 2, 0, 0, 0), (50, .putfield 29, 3, 2, 7, 2), (53, .aload_n 0, 1, 0, 0, 0), (54, .aload_n 1, 1, 0, 0, 0), (55, .putfield 32, 3, 2, 6, 2), (58, .return_, 1, 0, 0, 0)]
/-- SamePassers$LagSearch.find(LSamePassers$Street;LSamePassers$Walks;I)Z -/
def mm_c14 : List (Nat × mm_E) := [(0, .aload_n 0, 1, 0, 0, 0), (1, .aload_n 1, 1, 0, 0, 0), (2, .putfield 32, 3, 2, 6, 2), (5, .aload_n 0, 1, 0, 0, 0), (6, .iconst 0, 1, 0, 0, 0), (7, .putfield 36, 3, 2, 5, 0), (10, .iconst 0, 1, 0, 0, 0), (11, .istore 4, 2, 0, 0, 0),
  (13, .iload 4, 2, 0, 0, 0), (15, .aload_n 0, 1, 0, 0, 0), (16, .getfield 32, 3, 2, 6, 2), (19, .getfield 40, 3, 7, 10, 0), (22, .if_icmp .ge 73, 3, 95, 0, 0), (25, .aload_n 0, 1, 0, 0, 0), (26, .getfield 36, 3, 2, 5, 0), (29, .iconst 4, 1, 0, 0, 0),
  (30, .if_icmp .ge 65, 3, 95, 0, 0), (33, .iload_n 3, 1, 0, 0, 0), (34, .iload 4, 2, 0, 0, 0), (36, .ishr, 1, 0, 0, 0), (37, .iconst 1, 1, 0, 0, 0), (38, .iand, 1, 0, 0, 0), (39, .ifCond .eq 50, 3, 89, 0, 0), (42, .aload_n 0, 1, 0, 0, 0),
  (43, .getfield 11, 3, 2, 0, 2), (46, .aload_n 0, 1, 0, 0, 0), (47, .getfield 36, 3, 2, 5, 0), (50, .iload 4, 2, 0, 0, 0), (52, .iastore, 1, 0, 0, 0), (53, .aload_n 0, 1, 0, 0, 0), (54, .aload_n 0, 1, 0, 0, 0), (55, .getfield 36, 3, 2, 5, 0),
  (58, .aload_n 2, 1, 0, 0, 0), (59, .invokevirtual 45, 3, 15, 3, 2), (62, .aload_n 0, 1, 0, 0, 0), (63, .getfield 20, 3, 2, 2, 2), (66, .aload_n 0, 1, 0, 0, 0), (67, .getfield 36, 3, 2, 5, 0), (70, .aload_n 0, 1, 0, 0, 0), (71, .aload_n 0, 1, 0, 0, 0),
  (72, .getfield 36, 3, 2, 5, 0), (75, .invokevirtual 49, 3, 16, 2, 2), (78, .iastore, 1, 0, 0, 0), (79, .aload_n 0, 1, 0, 0, 0), (80, .dup, 1, 0, 0, 0), (81, .getfield 36, 3, 2, 5, 0), (84, .iconst 1, 1, 0, 0, 0), (85, .iadd, 1, 0, 0, 0),
  (86, .putfield 36, 3, 2, 5, 0), (89, .iinc 4 1, 3, 0, 0, 0), (92, .goto (-79), 3, 13, 0, 0), (95, .aload_n 0, 1, 0, 0, 0), (96, .invokevirtual 53, 3, 18, 1, 2), (99, .aload_n 0, 1, 0, 0, 0), (100, .ldc 58, 2, 0, 0, 2147483647), (102, .putfield 59, 3, 2, 8, 0),
  (105, .aload_n 0, 1, 0, 0, 0), (106, .iconst 0, 1, 0, 0, 0), (107, .iconst 0, 1, 0, 0, 0), (108, .invokevirtual 62, 3, 22, 3, 2), (111, .aload_n 0, 1, 0, 0, 0), (112, .getfield 59, 3, 2, 8, 0), (115, .ldc 58, 2, 0, 0, 2147483647), (117, .if_icmp .eq 7, 3, 124, 0, 0),
  (120, .iconst 1, 1, 0, 0, 0), (121, .goto 4, 3, 125, 0, 0), (124, .iconst 0, 1, 0, 0, 0), (125, .ireturn, 1, 0, 0, 0)]
/-- SamePassers$LagSearch.fillRow(ILSamePassers$Walks;)V -/
def mm_c15 : List (Nat × mm_E) := [(0, .aload_n 0, 1, 0, 0, 0), (1, .getfield 11, 3, 2, 0, 2), (4, .iload_n 1, 1, 0, 0, 0), (5, .iaload, 1, 0, 0, 0), (6, .istore_n 3, 1, 0, 0, 0), (7, .aload_n 0, 1, 0, 0, 0), (8, .getfield 32, 3, 2, 6, 2), (11, .iload_n 3, 1, 0, 0, 0),
  (12, .invokevirtual 66, 3, 71, 2, 2), (15, .aload_n 0, 1, 0, 0, 0), (16, .getfield 32, 3, 2, 6, 2), (19, .getfield 69, 3, 7, 11, 2), (22, .iload_n 3, 1, 0, 0, 0), (23, .aaload, 1, 0, 0, 0), (24, .getfield 73, 3, 9, 6, 0), (27, .isub, 1, 0, 0, 0),
  (28, .istore 4, 2, 0, 0, 0), (30, .iconst 0, 1, 0, 0, 0), (31, .istore 5, 2, 0, 0, 0), (33, .iload 5, 2, 0, 0, 0), (35, .sipush 600, 3, 0, 0, 0), (38, .if_icmp .gt 28, 3, 66, 0, 0), (41, .aload_n 0, 1, 0, 0, 0), (42, .getfield 17, 3, 2, 1, 2),
  (45, .iload_n 1, 1, 0, 0, 0), (46, .aaload, 1, 0, 0, 0), (47, .iload 5, 2, 0, 0, 0), (49, .aload_n 2, 1, 0, 0, 0), (50, .iload_n 3, 1, 0, 0, 0), (51, .iload 5, 2, 0, 0, 0), (53, .iload 4, 2, 0, 0, 0), (55, .isub, 1, 0, 0, 0),
  (56, .invokevirtual 78, 3, 88, 3, 2), (59, .iastore, 1, 0, 0, 0), (60, .iinc 5 1, 3, 0, 0, 0), (63, .goto (-30), 3, 33, 0, 0), (66, .return_, 1, 0, 0, 0)]
/-- SamePassers$LagSearch.lagsForMusts(I)I -/
def mm_c16 : List (Nat × mm_E) := [(0, .ldc 89, 2, 0, 0, 16777215), (2, .istore_n 2, 1, 0, 0, 0), (3, .iconst 0, 1, 0, 0, 0), (4, .istore_n 3, 1, 0, 0, 0), (5, .iload_n 3, 1, 0, 0, 0), (6, .aload_n 0, 1, 0, 0, 0), (7, .getfield 32, 3, 2, 6, 2), (10, .getfield 90, 3, 7, 12, 0),
  (13, .if_icmp .ge 92, 3, 105, 0, 0), (16, .aload_n 0, 1, 0, 0, 0), (17, .getfield 32, 3, 2, 6, 2), (20, .getfield 93, 3, 7, 9, 2), (23, .aload_n 0, 1, 0, 0, 0), (24, .getfield 32, 3, 2, 6, 2), (27, .getfield 96, 3, 7, 14, 2), (30, .iload_n 3, 1, 0, 0, 0),
  (31, .iaload, 1, 0, 0, 0), (32, .iaload, 1, 0, 0, 0), (33, .istore 4, 2, 0, 0, 0), (35, .iconst 0, 1, 0, 0, 0), (36, .istore 5, 2, 0, 0, 0), (38, .iload 5, 2, 0, 0, 0), (40, .bipush 24, 2, 0, 0, 0), (42, .if_icmp .ge 57, 3, 99, 0, 0),
  (45, .aload_n 0, 1, 0, 0, 0), (46, .getfield 32, 3, 2, 6, 2), (49, .getfield 99, 3, 7, 13, 2), (52, .iload_n 3, 1, 0, 0, 0), (53, .iaload, 1, 0, 0, 0), (54, .aload_n 0, 1, 0, 0, 0), (55, .getfield 11, 3, 2, 0, 2), (58, .iload_n 1, 1, 0, 0, 0),
  (59, .iaload, 1, 0, 0, 0), (60, .if_icmp .ne 39, 3, 99, 0, 0), (63, .aload_n 0, 1, 0, 0, 0), (64, .iload_n 1, 1, 0, 0, 0), (65, .iload 5, 2, 0, 0, 0), (67, .iload 4, 2, 0, 0, 0), (69, .invokevirtual 102, 3, 17, 4, 2), (72, .aload_n 0, 1, 0, 0, 0),
  (73, .getfield 32, 3, 2, 6, 2), (76, .getfield 106, 3, 7, 15, 2), (79, .iload_n 3, 1, 0, 0, 0), (80, .iaload, 1, 0, 0, 0), (81, .if_icmp .eq 12, 3, 93, 0, 0), (84, .iload_n 2, 1, 0, 0, 0), (85, .iconst 1, 1, 0, 0, 0), (86, .iload 5, 2, 0, 0, 0),
  (88, .ishl, 1, 0, 0, 0), (89, .iconst (-1), 1, 0, 0, 0), (90, .ixor, 1, 0, 0, 0), (91, .iand, 1, 0, 0, 0), (92, .istore_n 2, 1, 0, 0, 0), (93, .iinc 5 1, 3, 0, 0, 0), (96, .goto (-58), 3, 38, 0, 0), (99, .iinc 3 1, 3, 0, 0, 0),
  (102, .goto (-97), 3, 5, 0, 0), (105, .iload_n 2, 1, 0, 0, 0), (106, .ireturn, 1, 0, 0, 0)]
/-- SamePassers$LagSearch.cellWith(III)I -/
def mm_c17 : List (Nat × mm_E) := [(0, .aload_n 0, 1, 0, 0, 0), (1, .getfield 17, 3, 2, 1, 2), (4, .iload_n 1, 1, 0, 0, 0), (5, .aaload, 1, 0, 0, 0), (6, .iconst 0, 1, 0, 0, 0), (7, .iload_n 3, 1, 0, 0, 0), (8, .iload_n 2, 1, 0, 0, 0), (9, .isub, 1, 0, 0, 0),
  (10, .invokestatic 84, 3, 0, 0, 10), (13, .iaload, 1, 0, 0, 0), (14, .ireturn, 1, 0, 0, 0)]
/-- SamePassers$LagSearch.fillTogether()V -/
def mm_c18 : List (Nat × mm_E) := [(0, .aload_n 0, 1, 0, 0, 0), (1, .getfield 23, 3, 2, 3, 2), (4, .ldc 89, 2, 0, 0, 16777215), (6, .invokestatic 109, 3, 280, 2, 1), (9, .iconst 0, 1, 0, 0, 0), (10, .istore_n 1, 1, 0, 0, 0), (11, .iload_n 1, 1, 0, 0, 0), (12, .aload_n 0, 1, 0, 0, 0),
  (13, .getfield 36, 3, 2, 5, 0), (16, .if_icmp .ge 70, 3, 86, 0, 0), (19, .iload_n 1, 1, 0, 0, 0), (20, .iconst 1, 1, 0, 0, 0), (21, .iadd, 1, 0, 0, 0), (22, .istore_n 2, 1, 0, 0, 0), (23, .iload_n 2, 1, 0, 0, 0), (24, .aload_n 0, 1, 0, 0, 0),
  (25, .getfield 36, 3, 2, 5, 0), (28, .if_icmp .ge 52, 3, 80, 0, 0), (31, .aload_n 0, 1, 0, 0, 0), (32, .getfield 32, 3, 2, 6, 2), (35, .getfield 69, 3, 7, 11, 2), (38, .aload_n 0, 1, 0, 0, 0), (39, .getfield 11, 3, 2, 0, 2), (42, .iload_n 1, 1, 0, 0, 0),
  (43, .iaload, 1, 0, 0, 0), (44, .aaload, 1, 0, 0, 0), (45, .getfield 115, 3, 9, 2, 0), (48, .aload_n 0, 1, 0, 0, 0), (49, .getfield 32, 3, 2, 6, 2), (52, .getfield 69, 3, 7, 11, 2), (55, .aload_n 0, 1, 0, 0, 0), (56, .getfield 11, 3, 2, 0, 2),
  (59, .iload_n 2, 1, 0, 0, 0), (60, .iaload, 1, 0, 0, 0), (61, .aaload, 1, 0, 0, 0), (62, .getfield 115, 3, 9, 2, 0), (65, .if_icmp .ne 9, 3, 74, 0, 0), (68, .aload_n 0, 1, 0, 0, 0), (69, .iload_n 1, 1, 0, 0, 0), (70, .iload_n 2, 1, 0, 0, 0),
  (71, .invokevirtual 118, 3, 19, 3, 2), (74, .iinc 2 1, 3, 0, 0, 0), (77, .goto (-54), 3, 23, 0, 0), (80, .iinc 1 1, 3, 0, 0, 0), (83, .goto (-72), 3, 11, 0, 0), (86, .return_, 1, 0, 0, 0)]
/-- SamePassers$LagSearch.forbidBumps(II)V -/
def mm_c19 : List (Nat × mm_E) := [(0, .iconst 0, 1, 0, 0, 0), (1, .istore_n 3, 1, 0, 0, 0), (2, .iload_n 3, 1, 0, 0, 0), (3, .bipush 24, 2, 0, 0, 0), (5, .if_icmp .ge 93, 3, 98, 0, 0), (8, .aload_n 0, 1, 0, 0, 0), (9, .iload_n 1, 1, 0, 0, 0), (10, .iload_n 3, 1, 0, 0, 0),
  (11, .iload_n 2, 1, 0, 0, 0), (12, .iconst 0, 1, 0, 0, 0), (13, .invokevirtual 121, 3, 20, 5, 2), (16, .istore 4, 2, 0, 0, 0), (18, .aload_n 0, 1, 0, 0, 0), (19, .iload_n 1, 1, 0, 0, 0), (20, .iconst 0, 1, 0, 0, 0), (21, .iload_n 2, 1, 0, 0, 0),
  (22, .iload_n 3, 1, 0, 0, 0), (23, .invokevirtual 121, 3, 20, 5, 2), (26, .istore 5, 2, 0, 0, 0), (28, .iconst 0, 1, 0, 0, 0), (29, .istore 6, 2, 0, 0, 0), (31, .iload 6, 2, 0, 0, 0), (33, .iload_n 3, 1, 0, 0, 0), (34, .iadd, 1, 0, 0, 0),
  (35, .bipush 24, 2, 0, 0, 0), (37, .if_icmp .ge 55, 3, 92, 0, 0), (40, .iload 4, 2, 0, 0, 0), (42, .iload 6, 2, 0, 0, 0), (44, .iadd, 1, 0, 0, 0), (45, .sipush 600, 3, 0, 0, 0), (48, .if_icmp .gt 15, 3, 63, 0, 0), (51, .aload_n 0, 1, 0, 0, 0),
  (52, .iload_n 1, 1, 0, 0, 0), (53, .iload 6, 2, 0, 0, 0), (55, .iload_n 3, 1, 0, 0, 0), (56, .iadd, 1, 0, 0, 0), (57, .iload_n 2, 1, 0, 0, 0), (58, .iload 6, 2, 0, 0, 0), (60, .invokevirtual 125, 3, 21, 5, 2), (63, .iload 5, 2, 0, 0, 0),
  (65, .iload 6, 2, 0, 0, 0), (67, .iadd, 1, 0, 0, 0), (68, .sipush 600, 3, 0, 0, 0), (71, .if_icmp .gt 15, 3, 86, 0, 0), (74, .aload_n 0, 1, 0, 0, 0), (75, .iload_n 1, 1, 0, 0, 0), (76, .iload 6, 2, 0, 0, 0), (78, .iload_n 2, 1, 0, 0, 0),
  (79, .iload 6, 2, 0, 0, 0), (81, .iload_n 3, 1, 0, 0, 0), (82, .iadd, 1, 0, 0, 0), (83, .invokevirtual 125, 3, 21, 5, 2), (86, .iinc 6 1, 3, 0, 0, 0), (89, .goto (-58), 3, 31, 0, 0), (92, .iinc 3 1, 3, 0, 0, 0), (95, .goto (-93), 3, 2, 0, 0),
  (98, .return_, 1, 0, 0, 0)]
/-- SamePassers$LagSearch.firstBump(IIII)I -/
def mm_c20 : List (Nat × mm_E) := [(0, .iconst 0, 1, 0, 0, 0), (1, .istore 5, 2, 0, 0, 0), (3, .iload 5, 2, 0, 0, 0), (5, .sipush 600, 3, 0, 0, 0), (8, .if_icmp .gt 42, 3, 50, 0, 0), (11, .aload_n 0, 1, 0, 0, 0), (12, .iload_n 1, 1, 0, 0, 0), (13, .iload_n 2, 1, 0, 0, 0),
  (14, .iload 5, 2, 0, 0, 0), (16, .invokevirtual 102, 3, 17, 4, 2), (19, .istore 6, 2, 0, 0, 0), (21, .iload 6, 2, 0, 0, 0), (23, .iconst (-1), 1, 0, 0, 0), (24, .if_icmp .eq 20, 3, 44, 0, 0), (27, .iload 6, 2, 0, 0, 0), (29, .aload_n 0, 1, 0, 0, 0),
  (30, .iload_n 3, 1, 0, 0, 0), (31, .iload 4, 2, 0, 0, 0), (33, .iload 5, 2, 0, 0, 0), (35, .invokevirtual 102, 3, 17, 4, 2), (38, .if_icmp .ne 6, 3, 44, 0, 0), (41, .iload 5, 2, 0, 0, 0), (43, .ireturn, 1, 0, 0, 0), (44, .iinc 5 1, 3, 0, 0, 0),
  (47, .goto (-44), 3, 3, 0, 0), (50, .sipush 601, 3, 0, 0, 0), (53, .ireturn, 1, 0, 0, 0)]
/-- SamePassers$LagSearch.forbid(IIII)V -/
def mm_c21 : List (Nat × mm_E) := [(0, .aload_n 0, 1, 0, 0, 0), (1, .getfield 23, 3, 2, 3, 2), (4, .iload_n 1, 1, 0, 0, 0), (5, .iconst 4, 1, 0, 0, 0), (6, .imul, 1, 0, 0, 0), (7, .iload_n 3, 1, 0, 0, 0), (8, .iadd, 1, 0, 0, 0), (9, .bipush 24, 2, 0, 0, 0),
  (11, .imul, 1, 0, 0, 0), (12, .iload_n 2, 1, 0, 0, 0), (13, .iadd, 1, 0, 0, 0), (14, .dup2, 1, 0, 0, 0), (15, .iaload, 1, 0, 0, 0), (16, .iconst 1, 1, 0, 0, 0), (17, .iload 4, 2, 0, 0, 0), (19, .ishl, 1, 0, 0, 0),
  (20, .iconst (-1), 1, 0, 0, 0), (21, .ixor, 1, 0, 0, 0), (22, .iand, 1, 0, 0, 0), (23, .iastore, 1, 0, 0, 0), (24, .return_, 1, 0, 0, 0)]
/-- SamePassers$LagSearch.search(II)V -/
def mm_c22 : List (Nat × mm_E) := [(0, .iload_n 1, 1, 0, 0, 0), (1, .aload_n 0, 1, 0, 0, 0), (2, .getfield 36, 3, 2, 5, 0), (5, .if_icmp .ge 8, 3, 13, 0, 0), (8, .iload_n 1, 1, 0, 0, 0), (9, .iconst 4, 1, 0, 0, 0), (10, .if_icmp .lt 23, 3, 33, 0, 0), (13, .aload_n 0, 1, 0, 0, 0),
  (14, .iload_n 2, 1, 0, 0, 0), (15, .putfield 59, 3, 2, 8, 0), (18, .aload_n 0, 1, 0, 0, 0), (19, .getfield 26, 3, 2, 4, 2), (22, .iconst 0, 1, 0, 0, 0), (23, .aload_n 0, 1, 0, 0, 0), (24, .getfield 29, 3, 2, 7, 2), (27, .iconst 0, 1, 0, 0, 0),
  (28, .iconst 4, 1, 0, 0, 0), (29, .invokestatic 129, 3, 0, 0, 13), (32, .return_, 1, 0, 0, 0), (33, .aload_n 0, 1, 0, 0, 0), (34, .getfield 20, 3, 2, 2, 2), (37, .iload_n 1, 1, 0, 0, 0), (38, .iaload, 1, 0, 0, 0), (39, .istore_n 3, 1, 0, 0, 0),
  (40, .iconst 0, 1, 0, 0, 0), (41, .istore 4, 2, 0, 0, 0), (43, .iload 4, 2, 0, 0, 0), (45, .iload_n 1, 1, 0, 0, 0), (46, .if_icmp .ge 34, 3, 80, 0, 0), (49, .iload_n 3, 1, 0, 0, 0), (50, .aload_n 0, 1, 0, 0, 0), (51, .getfield 23, 3, 2, 3, 2),
  (54, .iload 4, 2, 0, 0, 0), (56, .iconst 4, 1, 0, 0, 0), (57, .imul, 1, 0, 0, 0), (58, .iload_n 1, 1, 0, 0, 0), (59, .iadd, 1, 0, 0, 0), (60, .bipush 24, 2, 0, 0, 0), (62, .imul, 1, 0, 0, 0), (63, .aload_n 0, 1, 0, 0, 0),
  (64, .getfield 26, 3, 2, 4, 2), (67, .iload 4, 2, 0, 0, 0), (69, .iaload, 1, 0, 0, 0), (70, .iadd, 1, 0, 0, 0), (71, .iaload, 1, 0, 0, 0), (72, .iand, 1, 0, 0, 0), (73, .istore_n 3, 1, 0, 0, 0), (74, .iinc 4 1, 3, 0, 0, 0),
  (77, .goto (-34), 3, 43, 0, 0), (80, .iconst 0, 1, 0, 0, 0), (81, .istore 4, 2, 0, 0, 0), (83, .iload 4, 2, 0, 0, 0), (85, .bipush 24, 2, 0, 0, 0), (87, .if_icmp .ge 48, 3, 135, 0, 0), (90, .iload_n 2, 1, 0, 0, 0), (91, .iload 4, 2, 0, 0, 0),
  (93, .iadd, 1, 0, 0, 0), (94, .aload_n 0, 1, 0, 0, 0), (95, .getfield 59, 3, 2, 8, 0), (98, .if_icmp .ge 37, 3, 135, 0, 0), (101, .iload_n 3, 1, 0, 0, 0), (102, .iload 4, 2, 0, 0, 0), (104, .ishr, 1, 0, 0, 0), (105, .iconst 1, 1, 0, 0, 0),
  (106, .iand, 1, 0, 0, 0), (107, .ifCond .eq 22, 3, 129, 0, 0), (110, .aload_n 0, 1, 0, 0, 0), (111, .getfield 26, 3, 2, 4, 2), (114, .iload_n 1, 1, 0, 0, 0), (115, .iload 4, 2, 0, 0, 0), (117, .iastore, 1, 0, 0, 0), (118, .aload_n 0, 1, 0, 0, 0),
  (119, .iload_n 1, 1, 0, 0, 0), (120, .iconst 1, 1, 0, 0, 0), (121, .iadd, 1, 0, 0, 0), (122, .iload_n 2, 1, 0, 0, 0), (123, .iload 4, 2, 0, 0, 0), (125, .iadd, 1, 0, 0, 0), (126, .invokevirtual 62, 3, 22, 3, 2), (129, .iinc 4 1, 3, 0, 0, 0),
  (132, .goto (-49), 3, 83, 0, 0), (135, .return_, 1, 0, 0, 0)]
/-- SamePassers$Law.<init>(Ljava/lang/String;Ljava/lang/String;)V -/
def mm_c23 : List (Nat × mm_E) := [(0, .aload_n 0, 1, 0, 0, 0), (1, .invokespecial 3, 3, 0, 0, 4), (4, .aload_n 0, 1, 0, 0, 0), (5, .sipush 1000, 3, 0, 0, 0), (8, .newarray .int, 2, 0, 0, 0), (10, .putfield 9, 3, 3, 2, 2), (13, .aload_n 0, 1, 0, 0, 0), (14, .bipush 32, 2, 0, 0, 0),
  (16, .newarray .int, 2, 0, 0, 0), (18, .putfield 15, 3, 3, 3, 2), (21, .aload_n 0, 1, 0, 0, 0), (22, .aload_n 1, 1, 0, 0, 0), (23, .invokestatic 18, 3, 76, 1, 1), (26, .putfield 24, 3, 3, 0, 1), (29, .aload_n 0, 1, 0, 0, 0), (30, .aload_n 2, 1, 0, 0, 0),
  (31, .invokestatic 18, 3, 76, 1, 1), (34, .putfield 28, 3, 3, 1, 1), (37, .return_, 1, 0, 0, 0)]
/-- SamePassers$Law.clear()V -/
def mm_c24 : List (Nat × mm_E) := [(0, .aload_n 0, 1, 0, 0, 0), (1, .iconst 0, 1, 0, 0, 0), (2, .putfield 31, 3, 3, 4, 0), (5, .aload_n 0, 1, 0, 0, 0), (6, .iconst 0, 1, 0, 0, 0), (7, .putfield 35, 3, 3, 5, 3), (10, .return_, 1, 0, 0, 0)]
/-- SamePassers$Law.add(I)V -/
def mm_c25 : List (Nat × mm_E) := [(0, .aload_n 0, 1, 0, 0, 0), (1, .getfield 31, 3, 3, 4, 0), (4, .aload_n 0, 1, 0, 0, 0), (5, .getfield 9, 3, 3, 2, 2), (8, .arraylength, 1, 0, 0, 0), (9, .if_icmp .ge 23, 3, 32, 0, 0), (12, .aload_n 0, 1, 0, 0, 0), (13, .getfield 9, 3, 3, 2, 2),
  (16, .aload_n 0, 1, 0, 0, 0), (17, .getfield 31, 3, 3, 4, 0), (20, .iload_n 1, 1, 0, 0, 0), (21, .iastore, 1, 0, 0, 0), (22, .aload_n 0, 1, 0, 0, 0), (23, .dup, 1, 0, 0, 0), (24, .getfield 31, 3, 3, 4, 0), (27, .iconst 1, 1, 0, 0, 0),
  (28, .iadd, 1, 0, 0, 0), (29, .putfield 31, 3, 3, 4, 0), (32, .return_, 1, 0, 0, 0)]
/-- SamePassers$Law.valueFor(II)I -/
def mm_c26 : List (Nat × mm_E) := [(0, .iconst 0, 1, 0, 0, 0), (1, .istore_n 3, 1, 0, 0, 0), (2, .iconst 0, 1, 0, 0, 0), (3, .istore 4, 2, 0, 0, 0), (5, .iload 4, 2, 0, 0, 0), (7, .aload_n 0, 1, 0, 0, 0), (8, .getfield 31, 3, 3, 4, 0), (11, .if_icmp .ge 140, 3, 151, 0, 0),
  (14, .aload_n 0, 1, 0, 0, 0), (15, .getfield 9, 3, 3, 2, 2), (18, .iload 4, 2, 0, 0, 0), (20, .iaload, 1, 0, 0, 0), (21, .istore 5, 2, 0, 0, 0), (23, .iload 5, 2, 0, 0, 0), (25, .bipush (-3), 2, 0, 0, 0), (27, .if_icmp .lt 45, 3, 72, 0, 0),
  (30, .iload_n 3, 1, 0, 0, 0), (31, .bipush 32, 2, 0, 0, 0), (33, .if_icmp .ge 112, 3, 145, 0, 0), (36, .aload_n 0, 1, 0, 0, 0), (37, .getfield 15, 3, 3, 3, 2), (40, .iload_n 3, 1, 0, 0, 0), (41, .iload 5, 2, 0, 0, 0), (43, .bipush (-2), 2, 0, 0, 0),
  (45, .if_icmp .ne 7, 3, 52, 0, 0), (48, .iload_n 1, 1, 0, 0, 0), (49, .goto 16, 3, 65, 0, 0), (52, .iload 5, 2, 0, 0, 0), (54, .bipush (-3), 2, 0, 0, 0), (56, .if_icmp .ne 7, 3, 63, 0, 0), (59, .iload_n 2, 1, 0, 0, 0), (60, .goto 5, 3, 65, 0, 0),
  (63, .iload 5, 2, 0, 0, 0), (65, .iastore, 1, 0, 0, 0), (66, .iinc 3 1, 3, 0, 0, 0), (69, .goto 76, 3, 145, 0, 0), (72, .iload 5, 2, 0, 0, 0), (74, .bipush (-4), 2, 0, 0, 0), (76, .if_icmp .ne 34, 3, 110, 0, 0), (79, .iload_n 3, 1, 0, 0, 0),
  (80, .ifCond .le 30, 3, 110, 0, 0), (83, .aload_n 0, 1, 0, 0, 0), (84, .getfield 15, 3, 3, 3, 2), (87, .iload_n 3, 1, 0, 0, 0), (88, .iconst 1, 1, 0, 0, 0), (89, .isub, 1, 0, 0, 0), (90, .aload_n 0, 1, 0, 0, 0), (91, .getfield 15, 3, 3, 3, 2),
  (94, .iload_n 3, 1, 0, 0, 0), (95, .iconst 1, 1, 0, 0, 0), (96, .isub, 1, 0, 0, 0), (97, .iaload, 1, 0, 0, 0), (98, .ifCond .ne 7, 3, 105, 0, 0), (101, .iconst 1, 1, 0, 0, 0), (102, .goto 4, 3, 106, 0, 0), (105, .iconst 0, 1, 0, 0, 0),
  (106, .iastore, 1, 0, 0, 0), (107, .goto 38, 3, 145, 0, 0), (110, .iload_n 3, 1, 0, 0, 0), (111, .iconst 1, 1, 0, 0, 0), (112, .if_icmp .le 33, 3, 145, 0, 0), (115, .iinc 3 (-1), 3, 0, 0, 0), (118, .aload_n 0, 1, 0, 0, 0), (119, .getfield 15, 3, 3, 3, 2),
  (122, .iload_n 3, 1, 0, 0, 0), (123, .iconst 1, 1, 0, 0, 0), (124, .isub, 1, 0, 0, 0), (125, .iload 5, 2, 0, 0, 0), (127, .aload_n 0, 1, 0, 0, 0), (128, .getfield 15, 3, 3, 3, 2), (131, .iload_n 3, 1, 0, 0, 0), (132, .iconst 1, 1, 0, 0, 0),
  (133, .isub, 1, 0, 0, 0), (134, .iaload, 1, 0, 0, 0), (135, .aload_n 0, 1, 0, 0, 0), (136, .getfield 15, 3, 3, 3, 2), (139, .iload_n 3, 1, 0, 0, 0), (140, .iaload, 1, 0, 0, 0), (141, .invokestatic 39, 3, 27, 3, 0), (144, .iastore, 1, 0, 0, 0),
  (145, .iinc 4 1, 3, 0, 0, 0), (148, .goto (-143), 3, 5, 0, 0), (151, .aload_n 0, 1, 0, 0, 0), (152, .getfield 15, 3, 3, 3, 2), (155, .iconst 0, 1, 0, 0, 0), (156, .iaload, 1, 0, 0, 0), (157, .ireturn, 1, 0, 0, 0)]
/-- SamePassers$Law.act(III)I -/
def mm_c27 : List (Nat × mm_E) := [(0, .iload_n 0, 1, 0, 0, 0), (1, .tableswitch 97 (-10) (-5) #[93, 89, 78, 67, 53, 39], 39, 0, 0, 0), (40, .iload_n 1, 1, 0, 0, 0), (41, .ifCond .eq 11, 3, 52, 0, 0), (44, .iload_n 2, 1, 0, 0, 0), (45, .ifCond .eq 7, 3, 52, 0, 0), (48, .iconst 1, 1, 0, 0, 0), (49, .goto 4, 3, 53, 0, 0),
  (52, .iconst 0, 1, 0, 0, 0), (53, .ireturn, 1, 0, 0, 0), (54, .iload_n 1, 1, 0, 0, 0), (55, .ifCond .ne 7, 3, 62, 0, 0), (58, .iload_n 2, 1, 0, 0, 0), (59, .ifCond .eq 7, 3, 66, 0, 0), (62, .iconst 1, 1, 0, 0, 0), (63, .goto 4, 3, 67, 0, 0),
  (66, .iconst 0, 1, 0, 0, 0), (67, .ireturn, 1, 0, 0, 0), (68, .iload_n 1, 1, 0, 0, 0), (69, .iload_n 2, 1, 0, 0, 0), (70, .if_icmp .ge 7, 3, 77, 0, 0), (73, .iconst 1, 1, 0, 0, 0), (74, .goto 4, 3, 78, 0, 0), (77, .iconst 0, 1, 0, 0, 0),
  (78, .ireturn, 1, 0, 0, 0), (79, .iload_n 1, 1, 0, 0, 0), (80, .iload_n 2, 1, 0, 0, 0), (81, .if_icmp .ne 7, 3, 88, 0, 0), (84, .iconst 1, 1, 0, 0, 0), (85, .goto 4, 3, 89, 0, 0), (88, .iconst 0, 1, 0, 0, 0), (89, .ireturn, 1, 0, 0, 0),
  (90, .iload_n 1, 1, 0, 0, 0), (91, .iload_n 2, 1, 0, 0, 0), (92, .iadd, 1, 0, 0, 0), (93, .ireturn, 1, 0, 0, 0), (94, .iload_n 1, 1, 0, 0, 0), (95, .iload_n 2, 1, 0, 0, 0), (96, .isub, 1, 0, 0, 0), (97, .ireturn, 1, 0, 0, 0),
  (98, .iload_n 1, 1, 0, 0, 0), (99, .iload_n 2, 1, 0, 0, 0), (100, .imul, 1, 0, 0, 0), (101, .ireturn, 1, 0, 0, 0)]
/-- SamePassers$Papers.<init>()V -/
def mm_c28 : List (Nat × mm_E) := [(0, .aload_n 0, 1, 0, 0, 0), (1, .invokespecial 3, 3, 0, 0, 4), (4, .aload_n 0, 1, 0, 0, 0), (5, .bipush 10, 2, 0, 0, 0), (7, .newarray .int, 2, 0, 0, 0), (9, .putfield 9, 3, 4, 1, 2), (12, .aload_n 0, 1, 0, 0, 0), (13, .bipush 10, 2, 0, 0, 0),
  (15, .newarray .int, 2, 0, 0, 0), (17, .putfield 15, 3, 4, 2, 2), (20, .aload_n 0, 1, 0, 0, 0), (21, .bipush 10, 2, 0, 0, 0), (23, .newarray .int, 2, 0, 0, 0), (25, .putfield 18, 3, 4, 4, 2), (28, .aload_n 0, 1, 0, 0, 0), (29, .bipush 10, 2, 0, 0, 0),
  (31, .newarray .int, 2, 0, 0, 0), (33, .putfield 21, 3, 4, 5, 2), (36, .aload_n 0, 1, 0, 0, 0), (37, .bipush 10, 2, 0, 0, 0), (39, .newarray .int, 2, 0, 0, 0), (41, .putfield 24, 3, 4, 6, 2), (44, .return_, 1, 0, 0, 0)]
/-- SamePassers$Papers.addTold(II)Z -/
def mm_c29 : List (Nat × mm_E) := [(0, .aload_n 0, 1, 0, 0, 0), (1, .getfield 27, 3, 4, 0, 0), (4, .bipush 10, 2, 0, 0, 0), (6, .if_icmp .lt 5, 3, 11, 0, 0), (9, .iconst 0, 1, 0, 0, 0), (10, .ireturn, 1, 0, 0, 0), (11, .aload_n 0, 1, 0, 0, 0), (12, .getfield 9, 3, 4, 1, 2),
  (15, .aload_n 0, 1, 0, 0, 0), (16, .getfield 27, 3, 4, 0, 0), (19, .iload_n 1, 1, 0, 0, 0), (20, .iastore, 1, 0, 0, 0), (21, .aload_n 0, 1, 0, 0, 0), (22, .getfield 15, 3, 4, 2, 2), (25, .aload_n 0, 1, 0, 0, 0), (26, .getfield 27, 3, 4, 0, 0),
  (29, .iload_n 2, 1, 0, 0, 0), (30, .iastore, 1, 0, 0, 0), (31, .aload_n 0, 1, 0, 0, 0), (32, .dup, 1, 0, 0, 0), (33, .getfield 27, 3, 4, 0, 0), (36, .iconst 1, 1, 0, 0, 0), (37, .iadd, 1, 0, 0, 0), (38, .putfield 27, 3, 4, 0, 0),
  (41, .iconst 1, 1, 0, 0, 0), (42, .ireturn, 1, 0, 0, 0)]
/-- SamePassers$Papers.addSight(IIZ)Z -/
def mm_c30 : List (Nat × mm_E) := [(0, .aload_n 0, 1, 0, 0, 0), (1, .getfield 31, 3, 4, 3, 0), (4, .bipush 10, 2, 0, 0, 0), (6, .if_icmp .lt 5, 3, 11, 0, 0), (9, .iconst 0, 1, 0, 0, 0), (10, .ireturn, 1, 0, 0, 0), (11, .aload_n 0, 1, 0, 0, 0), (12, .getfield 18, 3, 4, 4, 2),
  (15, .aload_n 0, 1, 0, 0, 0), (16, .getfield 31, 3, 4, 3, 0), (19, .iload_n 1, 1, 0, 0, 0), (20, .iastore, 1, 0, 0, 0), (21, .aload_n 0, 1, 0, 0, 0), (22, .getfield 21, 3, 4, 5, 2), (25, .aload_n 0, 1, 0, 0, 0), (26, .getfield 31, 3, 4, 3, 0),
  (29, .iload_n 2, 1, 0, 0, 0), (30, .iastore, 1, 0, 0, 0), (31, .aload_n 0, 1, 0, 0, 0), (32, .getfield 24, 3, 4, 6, 2), (35, .aload_n 0, 1, 0, 0, 0), (36, .getfield 31, 3, 4, 3, 0), (39, .iload_n 3, 1, 0, 0, 0), (40, .ifCond .eq 7, 3, 47, 0, 0),
  (43, .iconst 1, 1, 0, 0, 0), (44, .goto 4, 3, 48, 0, 0), (47, .iconst 0, 1, 0, 0, 0), (48, .iastore, 1, 0, 0, 0), (49, .aload_n 0, 1, 0, 0, 0), (50, .dup, 1, 0, 0, 0), (51, .getfield 31, 3, 4, 3, 0), (54, .iconst 1, 1, 0, 0, 0),
  (55, .iadd, 1, 0, 0, 0), (56, .putfield 31, 3, 4, 3, 0), (59, .iconst 1, 1, 0, 0, 0), (60, .ireturn, 1, 0, 0, 0)]
/-- SamePassers$Papers.copyFrom(LSamePassers$Papers;)V -/
def mm_c31 : List (Nat × mm_E) := [(0, .aload_n 0, 1, 0, 0, 0), (1, .aload_n 1, 1, 0, 0, 0), (2, .getfield 27, 3, 4, 0, 0), (5, .putfield 27, 3, 4, 0, 0), (8, .aload_n 1, 1, 0, 0, 0), (9, .getfield 9, 3, 4, 1, 2), (12, .iconst 0, 1, 0, 0, 0), (13, .aload_n 0, 1, 0, 0, 0),
  (14, .getfield 9, 3, 4, 1, 2), (17, .iconst 0, 1, 0, 0, 0), (18, .bipush 10, 2, 0, 0, 0), (20, .invokestatic 34, 3, 0, 0, 13), (23, .aload_n 1, 1, 0, 0, 0), (24, .getfield 15, 3, 4, 2, 2), (27, .iconst 0, 1, 0, 0, 0), (28, .aload_n 0, 1, 0, 0, 0),
  (29, .getfield 15, 3, 4, 2, 2), (32, .iconst 0, 1, 0, 0, 0), (33, .bipush 10, 2, 0, 0, 0), (35, .invokestatic 34, 3, 0, 0, 13), (38, .aload_n 0, 1, 0, 0, 0), (39, .aload_n 1, 1, 0, 0, 0), (40, .getfield 31, 3, 4, 3, 0), (43, .putfield 31, 3, 4, 3, 0),
  (46, .aload_n 1, 1, 0, 0, 0), (47, .getfield 18, 3, 4, 4, 2), (50, .iconst 0, 1, 0, 0, 0), (51, .aload_n 0, 1, 0, 0, 0), (52, .getfield 18, 3, 4, 4, 2), (55, .iconst 0, 1, 0, 0, 0), (56, .bipush 10, 2, 0, 0, 0), (58, .invokestatic 34, 3, 0, 0, 13),
  (61, .aload_n 1, 1, 0, 0, 0), (62, .getfield 21, 3, 4, 5, 2), (65, .iconst 0, 1, 0, 0, 0), (66, .aload_n 0, 1, 0, 0, 0), (67, .getfield 21, 3, 4, 5, 2), (70, .iconst 0, 1, 0, 0, 0), (71, .bipush 10, 2, 0, 0, 0), (73, .invokestatic 34, 3, 0, 0, 13),
  (76, .aload_n 1, 1, 0, 0, 0), (77, .getfield 24, 3, 4, 6, 2), (80, .iconst 0, 1, 0, 0, 0), (81, .aload_n 0, 1, 0, 0, 0), (82, .getfield 24, 3, 4, 6, 2), (85, .iconst 0, 1, 0, 0, 0), (86, .bipush 10, 2, 0, 0, 0), (88, .invokestatic 34, 3, 0, 0, 13),
  (91, .return_, 1, 0, 0, 0)]
/-- SamePassers$Papers.seekLaws(I)V -/
def mm_c32 : List (Nat × mm_E) := [(0, .aload_n 0, 1, 0, 0, 0), (1, .iconst 0, 1, 0, 0, 0), (2, .putfield 40, 3, 4, 7, 0), (5, .aload_n 0, 1, 0, 0, 0), (6, .iconst 1, 1, 0, 0, 0), (7, .putfield 43, 3, 4, 10, 3), (10, .iconst 0, 1, 0, 0, 0), (11, .istore_n 2, 1, 0, 0, 0),
  (12, .iload_n 2, 1, 0, 0, 0), (13, .bipush 9, 2, 0, 0, 0), (15, .if_icmp .gt 92, 3, 107, 0, 0), (18, .aload_n 0, 1, 0, 0, 0), (19, .getfield 27, 3, 4, 0, 0), (22, .ifCond .ne 7, 3, 29, 0, 0), (25, .iconst 0, 1, 0, 0, 0), (26, .goto 18, 3, 44, 0, 0),
  (29, .aload_n 0, 1, 0, 0, 0), (30, .getfield 15, 3, 4, 2, 2), (33, .iconst 0, 1, 0, 0, 0), (34, .iaload, 1, 0, 0, 0), (35, .iload_n 2, 1, 0, 0, 0), (36, .aload_n 0, 1, 0, 0, 0), (37, .getfield 9, 3, 4, 1, 2), (40, .iconst 0, 1, 0, 0, 0),
  (41, .iaload, 1, 0, 0, 0), (42, .imul, 1, 0, 0, 0), (43, .iadd, 1, 0, 0, 0), (44, .istore_n 3, 1, 0, 0, 0), (45, .aload_n 0, 1, 0, 0, 0), (46, .getfield 27, 3, 4, 0, 0), (49, .ifCond .ne 9, 3, 58, 0, 0), (52, .sipush 600, 3, 0, 0, 0),
  (55, .goto 10, 3, 65, 0, 0), (58, .iload_n 3, 1, 0, 0, 0), (59, .sipush 600, 3, 0, 0, 0), (62, .invokestatic 47, 3, 0, 0, 11), (65, .istore 4, 2, 0, 0, 0), (67, .iload_n 3, 1, 0, 0, 0), (68, .istore 5, 2, 0, 0, 0), (70, .iload 5, 2, 0, 0, 0),
  (72, .iload 4, 2, 0, 0, 0), (74, .if_icmp .gt 27, 3, 101, 0, 0), (77, .aload_n 0, 1, 0, 0, 0), (78, .iload 5, 2, 0, 0, 0), (80, .iload_n 2, 1, 0, 0, 0), (81, .invokevirtual 53, 3, 33, 3, 2), (84, .ifCond .eq 11, 3, 95, 0, 0), (87, .aload_n 0, 1, 0, 0, 0),
  (88, .iload 5, 2, 0, 0, 0), (90, .iload_n 2, 1, 0, 0, 0), (91, .iload_n 1, 1, 0, 0, 0), (92, .invokevirtual 57, 3, 34, 4, 2), (95, .iinc 5 1, 3, 0, 0, 0), (98, .goto (-28), 3, 70, 0, 0), (101, .iinc 2 1, 3, 0, 0, 0), (104, .goto (-92), 3, 12, 0, 0),
  (107, .return_, 1, 0, 0, 0)]
/-- SamePassers$Papers.holds(II)Z -/
def mm_c33 : List (Nat × mm_E) := [(0, .iconst 0, 1, 0, 0, 0), (1, .istore_n 3, 1, 0, 0, 0), (2, .iload_n 3, 1, 0, 0, 0), (3, .aload_n 0, 1, 0, 0, 0), (4, .getfield 27, 3, 4, 0, 0), (7, .if_icmp .ge 30, 3, 37, 0, 0), (10, .aload_n 0, 1, 0, 0, 0), (11, .getfield 15, 3, 4, 2, 2),
  (14, .iload_n 3, 1, 0, 0, 0), (15, .iaload, 1, 0, 0, 0), (16, .iload_n 1, 1, 0, 0, 0), (17, .iload_n 2, 1, 0, 0, 0), (18, .aload_n 0, 1, 0, 0, 0), (19, .getfield 9, 3, 4, 1, 2), (22, .iload_n 3, 1, 0, 0, 0), (23, .iaload, 1, 0, 0, 0),
  (24, .imul, 1, 0, 0, 0), (25, .isub, 1, 0, 0, 0), (26, .if_icmp .eq 5, 3, 31, 0, 0), (29, .iconst 0, 1, 0, 0, 0), (30, .ireturn, 1, 0, 0, 0), (31, .iinc 3 1, 3, 0, 0, 0), (34, .goto (-32), 3, 2, 0, 0), (37, .iconst 1, 1, 0, 0, 0),
  (38, .ireturn, 1, 0, 0, 0)]
/-- SamePassers$Papers.addLaw(III)V -/
def mm_c34 : List (Nat × mm_E) := [(0, .iload_n 1, 1, 0, 0, 0), (1, .iload_n 2, 1, 0, 0, 0), (2, .iload_n 3, 1, 0, 0, 0), (3, .imul, 1, 0, 0, 0), (4, .isub, 1, 0, 0, 0), (5, .istore 4, 2, 0, 0, 0), (7, .aload_n 0, 1, 0, 0, 0), (8, .getfield 40, 3, 4, 7, 0),
  (11, .ifCond .ne 20, 3, 31, 0, 0), (14, .aload_n 0, 1, 0, 0, 0), (15, .iload_n 2, 1, 0, 0, 0), (16, .sipush 1000, 3, 0, 0, 0), (19, .imul, 1, 0, 0, 0), (20, .iload_n 1, 1, 0, 0, 0), (21, .iadd, 1, 0, 0, 0), (22, .putfield 61, 3, 4, 8, 0),
  (25, .aload_n 0, 1, 0, 0, 0), (26, .iload 4, 2, 0, 0, 0), (28, .putfield 64, 3, 4, 9, 0), (31, .aload_n 0, 1, 0, 0, 0), (32, .aload_n 0, 1, 0, 0, 0), (33, .getfield 43, 3, 4, 10, 3), (36, .ifCond .eq 16, 3, 52, 0, 0), (39, .iload 4, 2, 0, 0, 0),
  (41, .aload_n 0, 1, 0, 0, 0), (42, .getfield 64, 3, 4, 9, 0), (45, .if_icmp .ne 7, 3, 52, 0, 0), (48, .iconst 1, 1, 0, 0, 0), (49, .goto 4, 3, 53, 0, 0), (52, .iconst 0, 1, 0, 0, 0), (53, .putfield 43, 3, 4, 10, 3), (56, .aload_n 0, 1, 0, 0, 0),
  (57, .dup, 1, 0, 0, 0), (58, .getfield 40, 3, 4, 7, 0), (61, .iconst 1, 1, 0, 0, 0), (62, .iadd, 1, 0, 0, 0), (63, .putfield 40, 3, 4, 7, 0), (66, .return_, 1, 0, 0, 0)]
/-- SamePassers$Reader.<init>(LSamePassers$Tape;LSamePassers$Street;LSamePassers$Script;)V -/
def mm_c35 : List (Nat × mm_E) := [(0, .aload_n 0, 1, 0, 0, 0), (1, .invokespecial 3, 3, 0, 0, 4), (4, .aload_n 0, 1, 0, 0, 0), (5, .aload_n 1, 1, 0, 0, 0), (6, .putfield 9, 3, 5, 0, 2), (9, .aload_n 0, 1, 0, 0, 0), (10, .aload_n 2, 1, 0, 0, 0), (11, .putfield 15, 3, 5, 1, 2),
  (14, .aload_n 0, 1, 0, 0, 0), (15, .aload_n 3, 1, 0, 0, 0), (16, .putfield 19, 3, 5, 2, 2), (19, .return_, 1, 0, 0, 0)]
/-- SamePassers$Reader.readStreet(LSamePassers$Street;)I -/
def mm_c36 : List (Nat × mm_E) := [(0, .aload_n 0, 1, 0, 0, 0), (1, .aload_n 1, 1, 0, 0, 0), (2, .putfield 15, 3, 5, 1, 2), (5, .aload_n 0, 1, 0, 0, 0), (6, .getfield 15, 3, 5, 1, 2), (9, .invokevirtual 23, 3, 65, 1, 2), (12, .aload_n 0, 1, 0, 0, 0), (13, .iconst 0, 1, 0, 0, 0),
  (14, .putfield 28, 3, 5, 3, 0), (17, .aload_n 0, 1, 0, 0, 0), (18, .getfield 9, 3, 5, 0, 2), (21, .invokevirtual 32, 3, 78, 1, 2), (24, .aload_n 0, 1, 0, 0, 0), (25, .invokevirtual 37, 3, 37, 1, 2), (28, .istore_n 2, 1, 0, 0, 0), (29, .iconst 0, 1, 0, 0, 0),
  (30, .istore_n 3, 1, 0, 0, 0), (31, .iload_n 2, 1, 0, 0, 0), (32, .ifCond .eq 185, 3, 217, 0, 0), (35, .iload_n 3, 1, 0, 0, 0), (36, .sipush 1000, 3, 0, 0, 0), (39, .if_icmp .ge 178, 3, 217, 0, 0), (42, .aload_n 0, 1, 0, 0, 0), (43, .getfield 9, 3, 5, 0, 2),
  (46, .getfield 41, 3, 8, 4, 0), (49, .sipush 128, 3, 0, 0, 0), (52, .if_icmp .eq 165, 3, 217, 0, 0), (55, .aload_n 0, 1, 0, 0, 0), (56, .getfield 9, 3, 5, 0, 2), (59, .getfield 41, 3, 8, 4, 0), (62, .tableswitch 124 5 16 #[62, 124, 70, 124, 124, 124, 124, 124, 78, 86, 94, 109], 62, 0, 0, 0), (124, .aload_n 0, 1, 0, 0, 0),
  (125, .invokevirtual 44, 3, 42, 1, 2), (128, .istore_n 2, 1, 0, 0, 0), (129, .goto 63, 3, 192, 0, 0), (132, .aload_n 0, 1, 0, 0, 0), (133, .invokevirtual 47, 3, 44, 1, 2), (136, .istore_n 2, 1, 0, 0, 0), (137, .goto 55, 3, 192, 0, 0), (140, .aload_n 0, 1, 0, 0, 0),
  (141, .invokevirtual 50, 3, 50, 1, 2), (144, .istore_n 2, 1, 0, 0, 0), (145, .goto 47, 3, 192, 0, 0), (148, .aload_n 0, 1, 0, 0, 0), (149, .invokevirtual 53, 3, 52, 1, 2), (152, .istore_n 2, 1, 0, 0, 0), (153, .goto 39, 3, 192, 0, 0), (156, .aload_n 0, 1, 0, 0, 0),
  (157, .aload_n 0, 1, 0, 0, 0), (158, .getfield 15, 3, 5, 1, 2), (161, .getfield 56, 3, 7, 16, 2), (164, .invokevirtual 60, 3, 53, 2, 2), (167, .istore_n 2, 1, 0, 0, 0), (168, .goto 24, 3, 192, 0, 0), (171, .aload_n 0, 1, 0, 0, 0), (172, .aload_n 0, 1, 0, 0, 0),
  (173, .getfield 15, 3, 5, 1, 2), (176, .getfield 64, 3, 7, 17, 2), (179, .invokevirtual 60, 3, 53, 2, 2), (182, .istore_n 2, 1, 0, 0, 0), (183, .goto 9, 3, 192, 0, 0), (186, .aload_n 0, 1, 0, 0, 0), (187, .iconst 1, 1, 0, 0, 0), (188, .invokevirtual 67, 3, 40, 2, 2),
  (191, .istore_n 2, 1, 0, 0, 0), (192, .iload_n 2, 1, 0, 0, 0), (193, .ifCond .eq 16, 3, 209, 0, 0), (196, .aload_n 0, 1, 0, 0, 0), (197, .bipush 59, 2, 0, 0, 0), (199, .invokevirtual 71, 3, 39, 2, 2), (202, .ifCond .eq 7, 3, 209, 0, 0), (205, .iconst 1, 1, 0, 0, 0),
  (206, .goto 4, 3, 210, 0, 0), (209, .iconst 0, 1, 0, 0, 0), (210, .istore_n 2, 1, 0, 0, 0), (211, .iinc 3 1, 3, 0, 0, 0), (214, .goto (-183), 3, 31, 0, 0), (217, .aload_n 0, 1, 0, 0, 0), (218, .getfield 9, 3, 5, 0, 2), (221, .invokevirtual 74, 3, 82, 1, 2),
  (224, .aload_n 0, 1, 0, 0, 0), (225, .getfield 28, 3, 5, 3, 0), (228, .ireturn, 1, 0, 0, 0)]
/-- SamePassers$Reader.readGround()Z -/
def mm_c37 : List (Nat × mm_E) := [(0, .aload_n 0, 1, 0, 0, 0), (1, .iconst 0, 1, 0, 0, 0), (2, .iconst 4, 1, 0, 0, 0), (3, .bipush 40, 2, 0, 0, 0), (5, .invokevirtual 116, 3, 38, 4, 2), (8, .ifCond .ne 5, 3, 13, 0, 0), (11, .iconst 0, 1, 0, 0, 0), (12, .ireturn, 1, 0, 0, 0),
  (13, .aload_n 0, 1, 0, 0, 0), (14, .getfield 15, 3, 5, 1, 2), (17, .aload_n 0, 1, 0, 0, 0), (18, .getfield 94, 3, 5, 4, 0), (21, .putfield 120, 3, 7, 0, 0), (24, .aload_n 0, 1, 0, 0, 0), (25, .iconst 1, 1, 0, 0, 0), (26, .iconst 1, 1, 0, 0, 0),
  (27, .iconst 4, 1, 0, 0, 0), (28, .invokevirtual 116, 3, 38, 4, 2), (31, .ifCond .ne 5, 3, 36, 0, 0), (34, .iconst 0, 1, 0, 0, 0), (35, .ireturn, 1, 0, 0, 0), (36, .aload_n 0, 1, 0, 0, 0), (37, .getfield 15, 3, 5, 1, 2), (40, .aload_n 0, 1, 0, 0, 0),
  (41, .getfield 94, 3, 5, 4, 0), (44, .putfield 123, 3, 7, 1, 0), (47, .aload_n 0, 1, 0, 0, 0), (48, .iconst 2, 1, 0, 0, 0), (49, .iconst 0, 1, 0, 0, 0), (50, .aload_n 0, 1, 0, 0, 0), (51, .getfield 15, 3, 5, 1, 2), (54, .getfield 120, 3, 7, 0, 0),
  (57, .iconst 1, 1, 0, 0, 0), (58, .isub, 1, 0, 0, 0), (59, .invokevirtual 116, 3, 38, 4, 2), (62, .ifCond .ne 5, 3, 67, 0, 0), (65, .iconst 0, 1, 0, 0, 0), (66, .ireturn, 1, 0, 0, 0), (67, .aload_n 0, 1, 0, 0, 0), (68, .getfield 15, 3, 5, 1, 2),
  (71, .aload_n 0, 1, 0, 0, 0), (72, .getfield 94, 3, 5, 4, 0), (75, .putfield 126, 3, 7, 2, 0), (78, .aload_n 0, 1, 0, 0, 0), (79, .iconst 3, 1, 0, 0, 0), (80, .aload_n 0, 1, 0, 0, 0), (81, .getfield 15, 3, 5, 1, 2), (84, .getfield 126, 3, 7, 2, 0),
  (87, .aload_n 0, 1, 0, 0, 0), (88, .getfield 15, 3, 5, 1, 2), (91, .getfield 120, 3, 7, 0, 0), (94, .iconst 1, 1, 0, 0, 0), (95, .isub, 1, 0, 0, 0), (96, .invokevirtual 116, 3, 38, 4, 2), (99, .ifCond .ne 5, 3, 104, 0, 0), (102, .iconst 0, 1, 0, 0, 0),
  (103, .ireturn, 1, 0, 0, 0), (104, .aload_n 0, 1, 0, 0, 0), (105, .getfield 15, 3, 5, 1, 2), (108, .aload_n 0, 1, 0, 0, 0), (109, .getfield 94, 3, 5, 4, 0), (112, .putfield 129, 3, 7, 3, 0), (115, .aload_n 0, 1, 0, 0, 0), (116, .iconst 4, 1, 0, 0, 0),
  (117, .iconst 0, 1, 0, 0, 0), (118, .aload_n 0, 1, 0, 0, 0), (119, .getfield 15, 3, 5, 1, 2), (122, .getfield 123, 3, 7, 1, 0), (125, .invokevirtual 116, 3, 38, 4, 2), (128, .ifCond .ne 5, 3, 133, 0, 0), (131, .iconst 0, 1, 0, 0, 0), (132, .ireturn, 1, 0, 0, 0),
  (133, .aload_n 0, 1, 0, 0, 0), (134, .getfield 15, 3, 5, 1, 2), (137, .aload_n 0, 1, 0, 0, 0), (138, .getfield 94, 3, 5, 4, 0), (141, .putfield 132, 3, 7, 4, 0), (144, .aload_n 0, 1, 0, 0, 0), (145, .bipush 59, 2, 0, 0, 0), (147, .invokevirtual 71, 3, 39, 2, 2),
  (150, .ireturn, 1, 0, 0, 0)]
/-- SamePassers$Reader.readNumberBehind(III)Z -/
def mm_c38 : List (Nat × mm_E) := [(0, .aload_n 0, 1, 0, 0, 0), (1, .iload_n 1, 1, 0, 0, 0), (2, .invokevirtual 71, 3, 39, 2, 2), (5, .ifCond .eq 16, 3, 21, 0, 0), (8, .aload_n 0, 1, 0, 0, 0), (9, .iload_n 2, 1, 0, 0, 0), (10, .iload_n 3, 1, 0, 0, 0), (11, .invokevirtual 95, 3, 41, 3, 2),
  (14, .ifCond .eq 7, 3, 21, 0, 0), (17, .iconst 1, 1, 0, 0, 0), (18, .goto 4, 3, 22, 0, 0), (21, .iconst 0, 1, 0, 0, 0), (22, .ireturn, 1, 0, 0, 0)]
/-- SamePassers$Reader.readToken(I)Z -/
def mm_c39 : List (Nat × mm_E) := [(0, .aload_n 0, 1, 0, 0, 0), (1, .getfield 9, 3, 5, 0, 2), (4, .getfield 41, 3, 8, 4, 0), (7, .iload_n 1, 1, 0, 0, 0), (8, .if_icmp .eq 9, 3, 17, 0, 0), (11, .aload_n 0, 1, 0, 0, 0), (12, .iconst 1, 1, 0, 0, 0), (13, .invokevirtual 67, 3, 40, 2, 2),
  (16, .ireturn, 1, 0, 0, 0), (17, .aload_n 0, 1, 0, 0, 0), (18, .getfield 9, 3, 5, 0, 2), (21, .invokevirtual 88, 3, 79, 1, 2), (24, .iconst 1, 1, 0, 0, 0), (25, .ireturn, 1, 0, 0, 0)]
/-- SamePassers$Reader.fail(I)Z -/
def mm_c40 : List (Nat × mm_E) := [(0, .aload_n 0, 1, 0, 0, 0), (1, .iload_n 1, 1, 0, 0, 0), (2, .bipush 16, 2, 0, 0, 0), (4, .aload_n 0, 1, 0, 0, 0), (5, .getfield 9, 3, 5, 0, 2), (8, .getfield 85, 3, 8, 5, 0), (11, .imul, 1, 0, 0, 0), (12, .iadd, 1, 0, 0, 0),
  (13, .putfield 28, 3, 5, 3, 0), (16, .iconst 0, 1, 0, 0, 0), (17, .ireturn, 1, 0, 0, 0)]
/-- SamePassers$Reader.readNumber(II)Z -/
def mm_c41 : List (Nat × mm_E) := [(0, .aload_n 0, 1, 0, 0, 0), (1, .getfield 9, 3, 5, 0, 2), (4, .getfield 41, 3, 8, 4, 0), (7, .bipush 31, 2, 0, 0, 0), (9, .if_icmp .eq 9, 3, 18, 0, 0), (12, .aload_n 0, 1, 0, 0, 0), (13, .iconst 1, 1, 0, 0, 0), (14, .invokevirtual 67, 3, 40, 2, 2),
  (17, .ireturn, 1, 0, 0, 0), (18, .aload_n 0, 1, 0, 0, 0), (19, .getfield 9, 3, 5, 0, 2), (22, .getfield 91, 3, 8, 6, 0), (25, .iload_n 1, 1, 0, 0, 0), (26, .if_icmp .lt 14, 3, 40, 0, 0), (29, .aload_n 0, 1, 0, 0, 0), (30, .getfield 9, 3, 5, 0, 2),
  (33, .getfield 91, 3, 8, 6, 0), (36, .iload_n 2, 1, 0, 0, 0), (37, .if_icmp .le 9, 3, 46, 0, 0), (40, .aload_n 0, 1, 0, 0, 0), (41, .iconst 4, 1, 0, 0, 0), (42, .invokevirtual 67, 3, 40, 2, 2), (45, .ireturn, 1, 0, 0, 0), (46, .aload_n 0, 1, 0, 0, 0),
  (47, .aload_n 0, 1, 0, 0, 0), (48, .getfield 9, 3, 5, 0, 2), (51, .getfield 91, 3, 8, 6, 0), (54, .putfield 94, 3, 5, 4, 0), (57, .aload_n 0, 1, 0, 0, 0), (58, .getfield 9, 3, 5, 0, 2), (61, .invokevirtual 88, 3, 79, 1, 2), (64, .iconst 1, 1, 0, 0, 0),
  (65, .ireturn, 1, 0, 0, 0)]
/-- SamePassers$Reader.readSay()Z -/
def mm_c42 : List (Nat × mm_E) := [(0, .aload_n 0, 1, 0, 0, 0), (1, .getfield 15, 3, 5, 1, 2), (4, .getfield 135, 3, 7, 7, 0), (7, .bipush 6, 2, 0, 0, 0), (9, .if_icmp .lt 9, 3, 18, 0, 0), (12, .aload_n 0, 1, 0, 0, 0), (13, .iconst 5, 1, 0, 0, 0), (14, .invokevirtual 67, 3, 40, 2, 2),
  (17, .ireturn, 1, 0, 0, 0), (18, .aload_n 0, 1, 0, 0, 0), (19, .getfield 9, 3, 5, 0, 2), (22, .invokevirtual 88, 3, 79, 1, 2), (25, .aload_n 0, 1, 0, 0, 0), (26, .invokevirtual 138, 3, 43, 1, 2), (29, .ifCond .eq 16, 3, 45, 0, 0), (32, .aload_n 0, 1, 0, 0, 0),
  (33, .bipush 6, 2, 0, 0, 0), (35, .iconst 0, 1, 0, 0, 0), (36, .sipush 600, 3, 0, 0, 0), (39, .invokevirtual 116, 3, 38, 4, 2), (42, .ifCond .ne 5, 3, 47, 0, 0), (45, .iconst 0, 1, 0, 0, 0), (46, .ireturn, 1, 0, 0, 0), (47, .aload_n 0, 1, 0, 0, 0),
  (48, .getfield 15, 3, 5, 1, 2), (51, .getfield 141, 3, 7, 8, 2), (54, .aload_n 0, 1, 0, 0, 0), (55, .getfield 15, 3, 5, 1, 2), (58, .getfield 135, 3, 7, 7, 0), (61, .aload_n 0, 1, 0, 0, 0), (62, .getfield 110, 3, 5, 6, 1), (65, .lastore, 1, 0, 0, 0),
  (66, .aload_n 0, 1, 0, 0, 0), (67, .getfield 15, 3, 5, 1, 2), (70, .getfield 145, 3, 7, 9, 2), (73, .aload_n 0, 1, 0, 0, 0), (74, .getfield 15, 3, 5, 1, 2), (77, .getfield 135, 3, 7, 7, 0), (80, .aload_n 0, 1, 0, 0, 0), (81, .getfield 94, 3, 5, 4, 0),
  (84, .iastore, 1, 0, 0, 0), (85, .aload_n 0, 1, 0, 0, 0), (86, .getfield 15, 3, 5, 1, 2), (89, .dup, 1, 0, 0, 0), (90, .getfield 135, 3, 7, 7, 0), (93, .iconst 1, 1, 0, 0, 0), (94, .iadd, 1, 0, 0, 0), (95, .putfield 135, 3, 7, 7, 0),
  (98, .iconst 1, 1, 0, 0, 0), (99, .ireturn, 1, 0, 0, 0)]
/-- SamePassers$Reader.readNewName()Z -/
def mm_c43 : List (Nat × mm_E) := [(0, .aload_n 0, 1, 0, 0, 0), (1, .getfield 9, 3, 5, 0, 2), (4, .getfield 41, 3, 8, 4, 0), (7, .bipush 30, 2, 0, 0, 0), (9, .if_icmp .eq 9, 3, 18, 0, 0), (12, .aload_n 0, 1, 0, 0, 0), (13, .iconst 1, 1, 0, 0, 0), (14, .invokevirtual 67, 3, 40, 2, 2),
  (17, .ireturn, 1, 0, 0, 0), (18, .aload_n 0, 1, 0, 0, 0), (19, .getfield 15, 3, 5, 1, 2), (22, .aload_n 0, 1, 0, 0, 0), (23, .getfield 9, 3, 5, 0, 2), (26, .getfield 99, 3, 8, 7, 1), (29, .invokevirtual 103, 3, 66, 2, 2), (32, .iconst (-1), 1, 0, 0, 0),
  (33, .if_icmp .ne 21, 3, 54, 0, 0), (36, .aload_n 0, 1, 0, 0, 0), (37, .getfield 15, 3, 5, 1, 2), (40, .aload_n 0, 1, 0, 0, 0), (41, .getfield 9, 3, 5, 0, 2), (44, .getfield 99, 3, 8, 7, 1), (47, .invokevirtual 107, 3, 67, 2, 2), (50, .iconst (-1), 1, 0, 0, 0),
  (51, .if_icmp .eq 9, 3, 60, 0, 0), (54, .aload_n 0, 1, 0, 0, 0), (55, .iconst 3, 1, 0, 0, 0), (56, .invokevirtual 67, 3, 40, 2, 2), (59, .ireturn, 1, 0, 0, 0), (60, .aload_n 0, 1, 0, 0, 0), (61, .aload_n 0, 1, 0, 0, 0), (62, .getfield 9, 3, 5, 0, 2),
  (65, .getfield 99, 3, 8, 7, 1), (68, .putfield 110, 3, 5, 6, 1), (71, .aload_n 0, 1, 0, 0, 0), (72, .getfield 9, 3, 5, 0, 2), (75, .invokevirtual 88, 3, 79, 1, 2), (78, .iconst 1, 1, 0, 0, 0), (79, .ireturn, 1, 0, 0, 0)]
/-- SamePassers$Reader.readWalker()Z -/
def mm_c44 : List (Nat × mm_E) := [(0, .aload_n 0, 1, 0, 0, 0), (1, .getfield 15, 3, 5, 1, 2), (4, .getfield 149, 3, 7, 10, 0), (7, .bipush 8, 2, 0, 0, 0), (9, .if_icmp .lt 9, 3, 18, 0, 0), (12, .aload_n 0, 1, 0, 0, 0), (13, .iconst 5, 1, 0, 0, 0), (14, .invokevirtual 67, 3, 40, 2, 2),
  (17, .ireturn, 1, 0, 0, 0), (18, .aload_n 0, 1, 0, 0, 0), (19, .getfield 9, 3, 5, 0, 2), (22, .invokevirtual 88, 3, 79, 1, 2), (25, .aload_n 0, 1, 0, 0, 0), (26, .getfield 15, 3, 5, 1, 2), (29, .getfield 152, 3, 7, 11, 2), (32, .aload_n 0, 1, 0, 0, 0),
  (33, .getfield 15, 3, 5, 1, 2), (36, .getfield 149, 3, 7, 10, 0), (39, .aaload, 1, 0, 0, 0), (40, .astore_n 1, 1, 0, 0, 0), (41, .aload_n 0, 1, 0, 0, 0), (42, .invokevirtual 138, 3, 43, 1, 2), (45, .ifCond .eq 39, 3, 84, 0, 0), (48, .aload_n 0, 1, 0, 0, 0),
  (49, .aload_n 1, 1, 0, 0, 0), (50, .invokevirtual 156, 3, 45, 2, 2), (53, .ifCond .eq 31, 3, 84, 0, 0), (56, .aload_n 0, 1, 0, 0, 0), (57, .aload_n 1, 1, 0, 0, 0), (58, .invokevirtual 160, 3, 46, 2, 2), (61, .ifCond .eq 23, 3, 84, 0, 0), (64, .aload_n 0, 1, 0, 0, 0),
  (65, .aload_n 1, 1, 0, 0, 0), (66, .invokevirtual 163, 3, 47, 2, 2), (69, .ifCond .eq 15, 3, 84, 0, 0), (72, .aload_n 0, 1, 0, 0, 0), (73, .aload_n 1, 1, 0, 0, 0), (74, .invokevirtual 166, 3, 48, 2, 2), (77, .ifCond .eq 7, 3, 84, 0, 0), (80, .iconst 1, 1, 0, 0, 0),
  (81, .goto 4, 3, 85, 0, 0), (84, .iconst 0, 1, 0, 0, 0), (85, .istore_n 2, 1, 0, 0, 0), (86, .iload_n 2, 1, 0, 0, 0), (87, .ifCond .eq 24, 3, 111, 0, 0), (90, .aload_n 1, 1, 0, 0, 0), (91, .aload_n 0, 1, 0, 0, 0), (92, .getfield 110, 3, 5, 6, 1),
  (95, .putfield 169, 3, 9, 0, 1), (98, .aload_n 0, 1, 0, 0, 0), (99, .getfield 15, 3, 5, 1, 2), (102, .dup, 1, 0, 0, 0), (103, .getfield 149, 3, 7, 10, 0), (106, .iconst 1, 1, 0, 0, 0), (107, .iadd, 1, 0, 0, 0), (108, .putfield 149, 3, 7, 10, 0),
  (111, .iload_n 2, 1, 0, 0, 0), (112, .ireturn, 1, 0, 0, 0)]
/-- SamePassers$Reader.readKind(LSamePassers$Walker;)Z -/
def mm_c45 : List (Nat × mm_E) := [(0, .aload_n 0, 1, 0, 0, 0), (1, .getfield 9, 3, 5, 0, 2), (4, .getfield 41, 3, 8, 4, 0), (7, .bipush 23, 2, 0, 0, 0), (9, .if_icmp .lt 15, 3, 24, 0, 0), (12, .aload_n 0, 1, 0, 0, 0), (13, .getfield 9, 3, 5, 0, 2), (16, .getfield 41, 3, 8, 4, 0),
  (19, .bipush 26, 2, 0, 0, 0), (21, .if_icmp .le 9, 3, 30, 0, 0), (24, .aload_n 0, 1, 0, 0, 0), (25, .iconst 1, 1, 0, 0, 0), (26, .invokevirtual 67, 3, 40, 2, 2), (29, .ireturn, 1, 0, 0, 0), (30, .aload_n 1, 1, 0, 0, 0), (31, .aload_n 0, 1, 0, 0, 0),
  (32, .getfield 9, 3, 5, 0, 2), (35, .getfield 41, 3, 8, 4, 0), (38, .bipush 23, 2, 0, 0, 0), (40, .isub, 1, 0, 0, 0), (41, .putfield 172, 3, 9, 1, 0), (44, .aload_n 0, 1, 0, 0, 0), (45, .getfield 9, 3, 5, 0, 2), (48, .invokevirtual 88, 3, 79, 1, 2),
  (51, .iconst 1, 1, 0, 0, 0), (52, .ireturn, 1, 0, 0, 0)]
/-- SamePassers$Reader.readPlace(LSamePassers$Walker;)Z -/
def mm_c46 : List (Nat × mm_E) := [(0, .aload_n 0, 1, 0, 0, 0), (1, .bipush 8, 2, 0, 0, 0), (3, .iconst 0, 1, 0, 0, 0), (4, .aload_n 0, 1, 0, 0, 0), (5, .getfield 15, 3, 5, 1, 2), (8, .getfield 123, 3, 7, 1, 0), (11, .iconst 1, 1, 0, 0, 0), (12, .isub, 1, 0, 0, 0),
  (13, .invokevirtual 116, 3, 38, 4, 2), (16, .ifCond .ne 5, 3, 21, 0, 0), (19, .iconst 0, 1, 0, 0, 0), (20, .ireturn, 1, 0, 0, 0), (21, .aload_n 1, 1, 0, 0, 0), (22, .aload_n 0, 1, 0, 0, 0), (23, .getfield 94, 3, 5, 4, 0), (26, .putfield 175, 3, 9, 2, 0),
  (29, .aload_n 0, 1, 0, 0, 0), (30, .bipush 9, 2, 0, 0, 0), (32, .iconst 0, 1, 0, 0, 0), (33, .aload_n 0, 1, 0, 0, 0), (34, .getfield 15, 3, 5, 1, 2), (37, .getfield 120, 3, 7, 0, 0), (40, .iconst 1, 1, 0, 0, 0), (41, .isub, 1, 0, 0, 0),
  (42, .invokevirtual 116, 3, 38, 4, 2), (45, .ifCond .ne 5, 3, 50, 0, 0), (48, .iconst 0, 1, 0, 0, 0), (49, .ireturn, 1, 0, 0, 0), (50, .aload_n 1, 1, 0, 0, 0), (51, .aload_n 0, 1, 0, 0, 0), (52, .getfield 94, 3, 5, 4, 0), (55, .putfield 178, 3, 9, 3, 0),
  (58, .aload_n 0, 1, 0, 0, 0), (59, .getfield 9, 3, 5, 0, 2), (62, .getfield 41, 3, 8, 4, 0), (65, .bipush 21, 2, 0, 0, 0), (67, .if_icmp .eq 21, 3, 88, 0, 0), (70, .aload_n 0, 1, 0, 0, 0), (71, .getfield 9, 3, 5, 0, 2), (74, .getfield 41, 3, 8, 4, 0),
  (77, .bipush 22, 2, 0, 0, 0), (79, .if_icmp .eq 9, 3, 88, 0, 0), (82, .aload_n 0, 1, 0, 0, 0), (83, .iconst 1, 1, 0, 0, 0), (84, .invokevirtual 67, 3, 40, 2, 2), (87, .ireturn, 1, 0, 0, 0), (88, .aload_n 1, 1, 0, 0, 0), (89, .aload_n 0, 1, 0, 0, 0),
  (90, .getfield 9, 3, 5, 0, 2), (93, .getfield 41, 3, 8, 4, 0), (96, .bipush 22, 2, 0, 0, 0), (98, .if_icmp .ne 7, 3, 105, 0, 0), (101, .iconst 1, 1, 0, 0, 0), (102, .goto 4, 3, 106, 0, 0), (105, .iconst 0, 1, 0, 0, 0), (106, .putfield 181, 3, 9, 4, 0),
  (109, .aload_n 0, 1, 0, 0, 0), (110, .getfield 9, 3, 5, 0, 2), (113, .invokevirtual 88, 3, 79, 1, 2), (116, .iconst 1, 1, 0, 0, 0), (117, .ireturn, 1, 0, 0, 0)]
/-- SamePassers$Reader.readGait(LSamePassers$Walker;)Z -/
def mm_c47 : List (Nat × mm_E) := [(0, .aload_n 0, 1, 0, 0, 0), (1, .bipush 10, 2, 0, 0, 0), (3, .iconst 1, 1, 0, 0, 0), (4, .bipush 9, 2, 0, 0, 0), (6, .invokevirtual 116, 3, 38, 4, 2), (9, .ifCond .ne 5, 3, 14, 0, 0), (12, .iconst 0, 1, 0, 0, 0), (13, .ireturn, 1, 0, 0, 0),
  (14, .aload_n 1, 1, 0, 0, 0), (15, .aload_n 0, 1, 0, 0, 0), (16, .getfield 94, 3, 5, 4, 0), (19, .putfield 184, 3, 9, 5, 0), (22, .aload_n 0, 1, 0, 0, 0), (23, .bipush 11, 2, 0, 0, 0), (25, .iconst 0, 1, 0, 0, 0), (26, .bipush 99, 2, 0, 0, 0),
  (28, .invokevirtual 116, 3, 38, 4, 2), (31, .ifCond .ne 5, 3, 36, 0, 0), (34, .iconst 0, 1, 0, 0, 0), (35, .ireturn, 1, 0, 0, 0), (36, .aload_n 1, 1, 0, 0, 0), (37, .aload_n 0, 1, 0, 0, 0), (38, .getfield 94, 3, 5, 4, 0), (41, .putfield 187, 3, 9, 6, 0),
  (44, .iconst 1, 1, 0, 0, 0), (45, .ireturn, 1, 0, 0, 0)]
/-- SamePassers$Reader.readCue(LSamePassers$Walker;)Z -/
def mm_c48 : List (Nat × mm_E) := [(0, .aload_n 1, 1, 0, 0, 0), (1, .iconst (-1), 1, 0, 0, 0), (2, .putfield 190, 3, 9, 7, 0), (5, .aload_n 0, 1, 0, 0, 0), (6, .getfield 9, 3, 5, 0, 2), (9, .getfield 41, 3, 8, 4, 0), (12, .bipush 12, 2, 0, 0, 0), (14, .if_icmp .eq 5, 3, 19, 0, 0),
  (17, .iconst 1, 1, 0, 0, 0), (18, .ireturn, 1, 0, 0, 0), (19, .aload_n 0, 1, 0, 0, 0), (20, .getfield 9, 3, 5, 0, 2), (23, .invokevirtual 88, 3, 79, 1, 2), (26, .aload_n 0, 1, 0, 0, 0), (27, .invokevirtual 192, 3, 49, 1, 2), (30, .ifCond .ne 5, 3, 35, 0, 0),
  (33, .iconst 0, 1, 0, 0, 0), (34, .ireturn, 1, 0, 0, 0), (35, .aload_n 1, 1, 0, 0, 0), (36, .aload_n 0, 1, 0, 0, 0), (37, .getfield 113, 3, 5, 5, 0), (40, .putfield 190, 3, 9, 7, 0), (43, .aload_n 0, 1, 0, 0, 0), (44, .getfield 9, 3, 5, 0, 2),
  (47, .invokevirtual 88, 3, 79, 1, 2), (50, .iconst 1, 1, 0, 0, 0), (51, .ireturn, 1, 0, 0, 0)]
/-- SamePassers$Reader.seeWordName()Z -/
def mm_c49 : List (Nat × mm_E) := [(0, .aload_n 0, 1, 0, 0, 0), (1, .getfield 9, 3, 5, 0, 2), (4, .getfield 41, 3, 8, 4, 0), (7, .bipush 30, 2, 0, 0, 0), (9, .if_icmp .eq 9, 3, 18, 0, 0), (12, .aload_n 0, 1, 0, 0, 0), (13, .iconst 1, 1, 0, 0, 0), (14, .invokevirtual 67, 3, 40, 2, 2),
  (17, .ireturn, 1, 0, 0, 0), (18, .aload_n 0, 1, 0, 0, 0), (19, .aload_n 0, 1, 0, 0, 0), (20, .getfield 15, 3, 5, 1, 2), (23, .aload_n 0, 1, 0, 0, 0), (24, .getfield 9, 3, 5, 0, 2), (27, .getfield 99, 3, 8, 7, 1), (30, .invokevirtual 103, 3, 66, 2, 2),
  (33, .putfield 113, 3, 5, 5, 0), (36, .aload_n 0, 1, 0, 0, 0), (37, .getfield 113, 3, 5, 5, 0), (40, .iconst (-1), 1, 0, 0, 0), (41, .if_icmp .ne 11, 3, 52, 0, 0), (44, .aload_n 0, 1, 0, 0, 0), (45, .iconst 2, 1, 0, 0, 0), (46, .invokevirtual 67, 3, 40, 2, 2),
  (49, .ifCond .eq 7, 3, 56, 0, 0), (52, .iconst 1, 1, 0, 0, 0), (53, .goto 4, 3, 57, 0, 0), (56, .iconst 0, 1, 0, 0, 0), (57, .ireturn, 1, 0, 0, 0)]
/-- SamePassers$Reader.readMust()Z -/
def mm_c50 : List (Nat × mm_E) := [(0, .aload_n 0, 1, 0, 0, 0), (1, .getfield 15, 3, 5, 1, 2), (4, .getfield 195, 3, 7, 12, 0), (7, .bipush 8, 2, 0, 0, 0), (9, .if_icmp .lt 9, 3, 18, 0, 0), (12, .aload_n 0, 1, 0, 0, 0), (13, .iconst 5, 1, 0, 0, 0), (14, .invokevirtual 67, 3, 40, 2, 2),
  (17, .ireturn, 1, 0, 0, 0), (18, .aload_n 0, 1, 0, 0, 0), (19, .getfield 9, 3, 5, 0, 2), (22, .invokevirtual 88, 3, 79, 1, 2), (25, .aload_n 0, 1, 0, 0, 0), (26, .invokevirtual 198, 3, 51, 1, 2), (29, .ifCond .ne 5, 3, 34, 0, 0), (32, .iconst 0, 1, 0, 0, 0),
  (33, .ireturn, 1, 0, 0, 0), (34, .aload_n 0, 1, 0, 0, 0), (35, .getfield 113, 3, 5, 5, 0), (38, .istore_n 1, 1, 0, 0, 0), (39, .aload_n 0, 1, 0, 0, 0), (40, .invokevirtual 192, 3, 49, 1, 2), (43, .ifCond .ne 5, 3, 48, 0, 0), (46, .iconst 0, 1, 0, 0, 0),
  (47, .ireturn, 1, 0, 0, 0), (48, .aload_n 0, 1, 0, 0, 0), (49, .getfield 113, 3, 5, 5, 0), (52, .istore_n 2, 1, 0, 0, 0), (53, .aload_n 0, 1, 0, 0, 0), (54, .getfield 15, 3, 5, 1, 2), (57, .iload_n 1, 1, 0, 0, 0), (58, .iload_n 2, 1, 0, 0, 0),
  (59, .invokevirtual 201, 3, 68, 3, 2), (62, .ifCond .eq 9, 3, 71, 0, 0), (65, .aload_n 0, 1, 0, 0, 0), (66, .iconst 3, 1, 0, 0, 0), (67, .invokevirtual 67, 3, 40, 2, 2), (70, .ireturn, 1, 0, 0, 0), (71, .aload_n 0, 1, 0, 0, 0), (72, .getfield 9, 3, 5, 0, 2),
  (75, .invokevirtual 88, 3, 79, 1, 2), (78, .aload_n 0, 1, 0, 0, 0), (79, .iconst 0, 1, 0, 0, 0), (80, .aload_n 0, 1, 0, 0, 0), (81, .getfield 15, 3, 5, 1, 2), (84, .getfield 120, 3, 7, 0, 0), (87, .iconst 1, 1, 0, 0, 0), (88, .isub, 1, 0, 0, 0),
  (89, .invokevirtual 95, 3, 41, 3, 2), (92, .ifCond .ne 5, 3, 97, 0, 0), (95, .iconst 0, 1, 0, 0, 0), (96, .ireturn, 1, 0, 0, 0), (97, .aload_n 0, 1, 0, 0, 0), (98, .getfield 15, 3, 5, 1, 2), (101, .iload_n 1, 1, 0, 0, 0), (102, .iload_n 2, 1, 0, 0, 0),
  (103, .aload_n 0, 1, 0, 0, 0), (104, .getfield 94, 3, 5, 4, 0), (107, .invokevirtual 204, 3, 69, 4, 2), (110, .iconst 1, 1, 0, 0, 0), (111, .ireturn, 1, 0, 0, 0)]
/-- SamePassers$Reader.readWalkerName()Z -/
def mm_c51 : List (Nat × mm_E) := [(0, .aload_n 0, 1, 0, 0, 0), (1, .getfield 9, 3, 5, 0, 2), (4, .getfield 41, 3, 8, 4, 0), (7, .bipush 30, 2, 0, 0, 0), (9, .if_icmp .eq 9, 3, 18, 0, 0), (12, .aload_n 0, 1, 0, 0, 0), (13, .iconst 1, 1, 0, 0, 0), (14, .invokevirtual 67, 3, 40, 2, 2),
  (17, .ireturn, 1, 0, 0, 0), (18, .aload_n 0, 1, 0, 0, 0), (19, .aload_n 0, 1, 0, 0, 0), (20, .getfield 15, 3, 5, 1, 2), (23, .aload_n 0, 1, 0, 0, 0), (24, .getfield 9, 3, 5, 0, 2), (27, .getfield 99, 3, 8, 7, 1), (30, .invokevirtual 107, 3, 67, 2, 2),
  (33, .putfield 113, 3, 5, 5, 0), (36, .aload_n 0, 1, 0, 0, 0), (37, .getfield 113, 3, 5, 5, 0), (40, .iconst (-1), 1, 0, 0, 0), (41, .if_icmp .ne 9, 3, 50, 0, 0), (44, .aload_n 0, 1, 0, 0, 0), (45, .iconst 2, 1, 0, 0, 0), (46, .invokevirtual 67, 3, 40, 2, 2),
  (49, .ireturn, 1, 0, 0, 0), (50, .aload_n 0, 1, 0, 0, 0), (51, .getfield 9, 3, 5, 0, 2), (54, .invokevirtual 88, 3, 79, 1, 2), (57, .iconst 1, 1, 0, 0, 0), (58, .ireturn, 1, 0, 0, 0)]
/-- SamePassers$Reader.readRound()Z -/
def mm_c52 : List (Nat × mm_E) := [(0, .aload_n 0, 1, 0, 0, 0), (1, .getfield 15, 3, 5, 1, 2), (4, .getfield 208, 3, 7, 6, 3), (7, .ifCond .eq 9, 3, 16, 0, 0), (10, .aload_n 0, 1, 0, 0, 0), (11, .iconst 3, 1, 0, 0, 0), (12, .invokevirtual 67, 3, 40, 2, 2), (15, .ireturn, 1, 0, 0, 0),
  (16, .aload_n 0, 1, 0, 0, 0), (17, .bipush 14, 2, 0, 0, 0), (19, .iconst 0, 1, 0, 0, 0), (20, .bipush 99, 2, 0, 0, 0), (22, .invokevirtual 116, 3, 38, 4, 2), (25, .ifCond .ne 5, 3, 30, 0, 0), (28, .iconst 0, 1, 0, 0, 0), (29, .ireturn, 1, 0, 0, 0),
  (30, .aload_n 0, 1, 0, 0, 0), (31, .getfield 15, 3, 5, 1, 2), (34, .aload_n 0, 1, 0, 0, 0), (35, .getfield 94, 3, 5, 4, 0), (38, .putfield 212, 3, 7, 5, 0), (41, .aload_n 0, 1, 0, 0, 0), (42, .getfield 15, 3, 5, 1, 2), (45, .iconst 1, 1, 0, 0, 0),
  (46, .putfield 208, 3, 7, 6, 3), (49, .iconst 1, 1, 0, 0, 0), (50, .ireturn, 1, 0, 0, 0)]
/-- SamePassers$Reader.readLaw(LSamePassers$Law;)Z -/
def mm_c53 : List (Nat × mm_E) := [(0, .aload_n 1, 1, 0, 0, 0), (1, .getfield 215, 3, 3, 5, 3), (4, .ifCond .eq 9, 3, 13, 0, 0), (7, .aload_n 0, 1, 0, 0, 0), (8, .iconst 3, 1, 0, 0, 0), (9, .invokevirtual 67, 3, 40, 2, 2), (12, .ireturn, 1, 0, 0, 0), (13, .aload_n 0, 1, 0, 0, 0),
  (14, .getfield 9, 3, 5, 0, 2), (17, .invokevirtual 88, 3, 79, 1, 2), (20, .aload_n 1, 1, 0, 0, 0), (21, .invokevirtual 220, 3, 24, 1, 2), (24, .aload_n 1, 1, 0, 0, 0), (25, .iconst 1, 1, 0, 0, 0), (26, .putfield 215, 3, 3, 5, 3), (29, .aload_n 0, 1, 0, 0, 0),
  (30, .aload_n 1, 1, 0, 0, 0), (31, .iconst 0, 1, 0, 0, 0), (32, .iconst 0, 1, 0, 0, 0), (33, .invokevirtual 221, 3, 54, 4, 2), (36, .ireturn, 1, 0, 0, 0)]
/-- SamePassers$Reader.readLevel(LSamePassers$Law;II)Z -/
def mm_c54 : List (Nat × mm_E) := [(0, .iload_n 2, 1, 0, 0, 0), (1, .iconst 4, 1, 0, 0, 0), (2, .if_icmp .lt 10, 3, 12, 0, 0), (5, .aload_n 0, 1, 0, 0, 0), (6, .aload_n 1, 1, 0, 0, 0), (7, .iload_n 3, 1, 0, 0, 0), (8, .invokevirtual 225, 3, 55, 3, 2), (11, .ireturn, 1, 0, 0, 0),
  (12, .aload_n 0, 1, 0, 0, 0), (13, .aload_n 1, 1, 0, 0, 0), (14, .iload_n 2, 1, 0, 0, 0), (15, .iconst 1, 1, 0, 0, 0), (16, .iadd, 1, 0, 0, 0), (17, .iload_n 3, 1, 0, 0, 0), (18, .invokevirtual 221, 3, 54, 4, 2), (21, .ifCond .ne 5, 3, 26, 0, 0),
  (24, .iconst 0, 1, 0, 0, 0), (25, .ireturn, 1, 0, 0, 0), (26, .iload_n 2, 1, 0, 0, 0), (27, .iconst 1, 1, 0, 0, 0), (28, .if_icmp .ne 7, 3, 35, 0, 0), (31, .iconst 1, 1, 0, 0, 0), (32, .goto 6, 3, 38, 0, 0), (35, .sipush 1000, 3, 0, 0, 0),
  (38, .istore 4, 2, 0, 0, 0), (40, .iconst 0, 1, 0, 0, 0), (41, .istore 5, 2, 0, 0, 0), (43, .iload 5, 2, 0, 0, 0), (45, .iload 4, 2, 0, 0, 0), (47, .if_icmp .ge 62, 3, 109, 0, 0), (50, .aload_n 0, 1, 0, 0, 0), (51, .getfield 9, 3, 5, 0, 2),
  (54, .getfield 41, 3, 8, 4, 0), (57, .invokestatic 229, 3, 57, 1, 0), (60, .iload_n 2, 1, 0, 0, 0), (61, .if_icmp .ne 48, 3, 109, 0, 0), (64, .aload_n 0, 1, 0, 0, 0), (65, .getfield 9, 3, 5, 0, 2), (68, .getfield 41, 3, 8, 4, 0), (71, .invokestatic 233, 3, 58, 1, 0),
  (74, .istore 6, 2, 0, 0, 0), (76, .aload_n 0, 1, 0, 0, 0), (77, .getfield 9, 3, 5, 0, 2), (80, .invokevirtual 88, 3, 79, 1, 2), (83, .aload_n 0, 1, 0, 0, 0), (84, .aload_n 1, 1, 0, 0, 0), (85, .iload_n 2, 1, 0, 0, 0), (86, .iconst 1, 1, 0, 0, 0),
  (87, .iadd, 1, 0, 0, 0), (88, .iload_n 3, 1, 0, 0, 0), (89, .invokevirtual 221, 3, 54, 4, 2), (92, .ifCond .ne 5, 3, 97, 0, 0), (95, .iconst 0, 1, 0, 0, 0), (96, .ireturn, 1, 0, 0, 0), (97, .aload_n 1, 1, 0, 0, 0), (98, .iload 6, 2, 0, 0, 0),
  (100, .invokevirtual 236, 3, 25, 2, 2), (103, .iinc 5 1, 3, 0, 0, 0), (106, .goto (-63), 3, 43, 0, 0), (109, .iconst 1, 1, 0, 0, 0), (110, .ireturn, 1, 0, 0, 0)]
/-- SamePassers$Reader.readPart(LSamePassers$Law;I)Z -/
def mm_c55 : List (Nat × mm_E) := [(0, .aload_n 0, 1, 0, 0, 0), (1, .aload_n 1, 1, 0, 0, 0), (2, .invokevirtual 240, 3, 56, 2, 2), (5, .istore_n 3, 1, 0, 0, 0), (6, .iload_n 3, 1, 0, 0, 0), (7, .iconst (-1), 1, 0, 0, 0), (8, .if_icmp .ne 9, 3, 17, 0, 0), (11, .aload_n 0, 1, 0, 0, 0),
  (12, .iconst 1, 1, 0, 0, 0), (13, .invokevirtual 67, 3, 40, 2, 2), (16, .ireturn, 1, 0, 0, 0), (17, .iload_n 2, 1, 0, 0, 0), (18, .iconst 5, 1, 0, 0, 0), (19, .if_icmp .lt 9, 3, 28, 0, 0), (22, .aload_n 0, 1, 0, 0, 0), (23, .iconst 5, 1, 0, 0, 0),
  (24, .invokevirtual 67, 3, 40, 2, 2), (27, .ireturn, 1, 0, 0, 0), (28, .aload_n 0, 1, 0, 0, 0), (29, .getfield 9, 3, 5, 0, 2), (32, .getfield 41, 3, 8, 4, 0), (35, .bipush 31, 2, 0, 0, 0), (37, .if_icmp .ne 13, 3, 50, 0, 0), (40, .aload_n 0, 1, 0, 0, 0),
  (41, .getfield 9, 3, 5, 0, 2), (44, .getfield 91, 3, 8, 6, 0), (47, .goto 4, 3, 51, 0, 0), (50, .iload_n 3, 1, 0, 0, 0), (51, .istore 4, 2, 0, 0, 0), (53, .aload_n 0, 1, 0, 0, 0), (54, .getfield 9, 3, 5, 0, 2), (57, .invokevirtual 88, 3, 79, 1, 2),
  (60, .iload_n 3, 1, 0, 0, 0), (61, .bipush 40, 2, 0, 0, 0), (63, .if_icmp .ne 44, 3, 107, 0, 0), (66, .aload_n 0, 1, 0, 0, 0), (67, .aload_n 1, 1, 0, 0, 0), (68, .iconst 0, 1, 0, 0, 0), (69, .iload_n 2, 1, 0, 0, 0), (70, .iconst 1, 1, 0, 0, 0),
  (71, .iadd, 1, 0, 0, 0), (72, .invokevirtual 221, 3, 54, 4, 2), (75, .ifCond .ne 5, 3, 80, 0, 0), (78, .iconst 0, 1, 0, 0, 0), (79, .ireturn, 1, 0, 0, 0), (80, .aload_n 0, 1, 0, 0, 0), (81, .getfield 9, 3, 5, 0, 2), (84, .getfield 41, 3, 8, 4, 0),
  (87, .bipush 41, 2, 0, 0, 0), (89, .if_icmp .eq 9, 3, 98, 0, 0), (92, .aload_n 0, 1, 0, 0, 0), (93, .iconst 1, 1, 0, 0, 0), (94, .invokevirtual 67, 3, 40, 2, 2), (97, .ireturn, 1, 0, 0, 0), (98, .aload_n 0, 1, 0, 0, 0), (99, .getfield 9, 3, 5, 0, 2),
  (102, .invokevirtual 88, 3, 79, 1, 2), (105, .iconst 1, 1, 0, 0, 0), (106, .ireturn, 1, 0, 0, 0), (107, .iload_n 3, 1, 0, 0, 0), (108, .bipush 27, 2, 0, 0, 0), (110, .if_icmp .ne 16, 3, 126, 0, 0), (113, .aload_n 0, 1, 0, 0, 0), (114, .aload_n 1, 1, 0, 0, 0),
  (115, .iload_n 2, 1, 0, 0, 0), (116, .iconst 1, 1, 0, 0, 0), (117, .iadd, 1, 0, 0, 0), (118, .invokevirtual 225, 3, 55, 3, 2), (121, .ifCond .ne 5, 3, 126, 0, 0), (124, .iconst 0, 1, 0, 0, 0), (125, .ireturn, 1, 0, 0, 0), (126, .aload_n 1, 1, 0, 0, 0),
  (127, .iload_n 3, 1, 0, 0, 0), (128, .bipush 27, 2, 0, 0, 0), (130, .if_icmp .ne 8, 3, 138, 0, 0), (133, .bipush (-4), 2, 0, 0, 0), (135, .goto 5, 3, 140, 0, 0), (138, .iload 4, 2, 0, 0, 0), (140, .invokevirtual 236, 3, 25, 2, 2), (143, .iconst 1, 1, 0, 0, 0),
  (144, .ireturn, 1, 0, 0, 0)]
/-- SamePassers$Reader.partOf(LSamePassers$Law;)I -/
def mm_c56 : List (Nat × mm_E) := [(0, .aload_n 0, 1, 0, 0, 0), (1, .getfield 9, 3, 5, 0, 2), (4, .getfield 41, 3, 8, 4, 0), (7, .bipush 31, 2, 0, 0, 0), (9, .if_icmp .eq 27, 3, 36, 0, 0), (12, .aload_n 0, 1, 0, 0, 0), (13, .getfield 9, 3, 5, 0, 2), (16, .getfield 41, 3, 8, 4, 0),
  (19, .bipush 27, 2, 0, 0, 0), (21, .if_icmp .eq 15, 3, 36, 0, 0), (24, .aload_n 0, 1, 0, 0, 0), (25, .getfield 9, 3, 5, 0, 2), (28, .getfield 41, 3, 8, 4, 0), (31, .bipush 40, 2, 0, 0, 0), (33, .if_icmp .ne 11, 3, 44, 0, 0), (36, .aload_n 0, 1, 0, 0, 0),
  (37, .getfield 9, 3, 5, 0, 2), (40, .getfield 41, 3, 8, 4, 0), (43, .ireturn, 1, 0, 0, 0), (44, .aload_n 0, 1, 0, 0, 0), (45, .getfield 9, 3, 5, 0, 2), (48, .getfield 41, 3, 8, 4, 0), (51, .bipush 30, 2, 0, 0, 0), (53, .if_icmp .eq 5, 3, 58, 0, 0),
  (56, .iconst (-1), 1, 0, 0, 0), (57, .ireturn, 1, 0, 0, 0), (58, .aload_n 0, 1, 0, 0, 0), (59, .getfield 9, 3, 5, 0, 2), (62, .getfield 99, 3, 8, 7, 1), (65, .aload_n 1, 1, 0, 0, 0), (66, .getfield 244, 3, 3, 0, 1), (69, .lcmp, 1, 0, 0, 0),
  (70, .ifCond .ne 8, 3, 78, 0, 0), (73, .bipush (-2), 2, 0, 0, 0), (75, .goto 24, 3, 99, 0, 0), (78, .aload_n 0, 1, 0, 0, 0), (79, .getfield 9, 3, 5, 0, 2), (82, .getfield 99, 3, 8, 7, 1), (85, .aload_n 1, 1, 0, 0, 0), (86, .getfield 247, 3, 3, 1, 1),
  (89, .lcmp, 1, 0, 0, 0), (90, .ifCond .ne 8, 3, 98, 0, 0), (93, .bipush (-3), 2, 0, 0, 0), (95, .goto 4, 3, 99, 0, 0), (98, .iconst (-1), 1, 0, 0, 0), (99, .ireturn, 1, 0, 0, 0)]
/-- SamePassers$Reader.levelOf(I)I -/
def mm_c57 : List (Nat × mm_E) := [(0, .iload_n 0, 1, 0, 0, 0), (1, .lookupswitch 75 #[(28, 67), (29, 67), (42, 73), (43, 71), (45, 71), (60, 69), (61, 69)], 67, 0, 0, 0), (68, .iconst 0, 1, 0, 0, 0), (69, .ireturn, 1, 0, 0, 0), (70, .iconst 1, 1, 0, 0, 0), (71, .ireturn, 1, 0, 0, 0), (72, .iconst 2, 1, 0, 0, 0), (73, .ireturn, 1, 0, 0, 0),
  (74, .iconst 3, 1, 0, 0, 0), (75, .ireturn, 1, 0, 0, 0), (76, .iconst (-1), 1, 0, 0, 0), (77, .ireturn, 1, 0, 0, 0)]
/-- SamePassers$Reader.actOf(I)I -/
def mm_c58 : List (Nat × mm_E) := [(0, .iload_n 0, 1, 0, 0, 0), (1, .lookupswitch 77 #[(28, 59), (29, 62), (43, 71), (45, 74), (60, 65), (61, 68)], 59, 0, 0, 0), (60, .bipush (-5), 2, 0, 0, 0), (62, .ireturn, 1, 0, 0, 0), (63, .bipush (-6), 2, 0, 0, 0), (65, .ireturn, 1, 0, 0, 0), (66, .bipush (-7), 2, 0, 0, 0), (68, .ireturn, 1, 0, 0, 0),
  (69, .bipush (-8), 2, 0, 0, 0), (71, .ireturn, 1, 0, 0, 0), (72, .bipush (-9), 2, 0, 0, 0), (74, .ireturn, 1, 0, 0, 0), (75, .bipush (-10), 2, 0, 0, 0), (77, .ireturn, 1, 0, 0, 0), (78, .bipush (-11), 2, 0, 0, 0), (80, .ireturn, 1, 0, 0, 0)]
/-- SamePassers$Reader.readTakes(LSamePassers$Street;LSamePassers$Script;)I -/
def mm_c59 : List (Nat × mm_E) := [(0, .aload_n 0, 1, 0, 0, 0), (1, .aload_n 1, 1, 0, 0, 0), (2, .putfield 15, 3, 5, 1, 2), (5, .aload_n 0, 1, 0, 0, 0), (6, .aload_n 2, 1, 0, 0, 0), (7, .putfield 19, 3, 5, 2, 2), (10, .aload_n 0, 1, 0, 0, 0), (11, .getfield 19, 3, 5, 2, 2),
  (14, .iconst 0, 1, 0, 0, 0), (15, .putfield 77, 3, 6, 0, 0), (18, .aload_n 0, 1, 0, 0, 0), (19, .iconst 0, 1, 0, 0, 0), (20, .putfield 28, 3, 5, 3, 0), (23, .aload_n 0, 1, 0, 0, 0), (24, .getfield 9, 3, 5, 0, 2), (27, .invokevirtual 32, 3, 78, 1, 2),
  (30, .iconst 1, 1, 0, 0, 0), (31, .istore_n 3, 1, 0, 0, 0), (32, .iconst 0, 1, 0, 0, 0), (33, .istore 4, 2, 0, 0, 0), (35, .iload_n 3, 1, 0, 0, 0), (36, .ifCond .eq 35, 3, 71, 0, 0), (39, .iload 4, 2, 0, 0, 0), (41, .sipush 1000, 3, 0, 0, 0),
  (44, .if_icmp .ge 27, 3, 71, 0, 0), (47, .aload_n 0, 1, 0, 0, 0), (48, .getfield 9, 3, 5, 0, 2), (51, .getfield 41, 3, 8, 4, 0), (54, .sipush 128, 3, 0, 0, 0), (57, .if_icmp .eq 14, 3, 71, 0, 0), (60, .aload_n 0, 1, 0, 0, 0), (61, .invokevirtual 82, 3, 60, 1, 2),
  (64, .istore_n 3, 1, 0, 0, 0), (65, .iinc 4 1, 3, 0, 0, 0), (68, .goto (-33), 3, 35, 0, 0), (71, .aload_n 0, 1, 0, 0, 0), (72, .getfield 9, 3, 5, 0, 2), (75, .invokevirtual 74, 3, 82, 1, 2), (78, .aload_n 0, 1, 0, 0, 0), (79, .getfield 28, 3, 5, 3, 0),
  (82, .ireturn, 1, 0, 0, 0)]
/-- SamePassers$Reader.readTakesLine()Z -/
def mm_c60 : List (Nat × mm_E) := [(0, .aload_n 0, 1, 0, 0, 0), (1, .getfield 9, 3, 5, 0, 2), (4, .getfield 41, 3, 8, 4, 0), (7, .istore_n 1, 1, 0, 0, 0), (8, .iload_n 1, 1, 0, 0, 0), (9, .bipush 17, 2, 0, 0, 0), (11, .if_icmp .lt 9, 3, 20, 0, 0), (14, .iload_n 1, 1, 0, 0, 0),
  (15, .bipush 20, 2, 0, 0, 0), (17, .if_icmp .le 9, 3, 26, 0, 0), (20, .aload_n 0, 1, 0, 0, 0), (21, .iconst 1, 1, 0, 0, 0), (22, .invokevirtual 67, 3, 40, 2, 2), (25, .ireturn, 1, 0, 0, 0), (26, .aload_n 0, 1, 0, 0, 0), (27, .getfield 19, 3, 5, 2, 2),
  (30, .getfield 77, 3, 6, 0, 0), (33, .bipush 30, 2, 0, 0, 0), (35, .if_icmp .lt 9, 3, 44, 0, 0), (38, .aload_n 0, 1, 0, 0, 0), (39, .iconst 5, 1, 0, 0, 0), (40, .invokevirtual 67, 3, 40, 2, 2), (43, .ireturn, 1, 0, 0, 0), (44, .aload_n 0, 1, 0, 0, 0),
  (45, .getfield 9, 3, 5, 0, 2), (48, .invokevirtual 88, 3, 79, 1, 2), (51, .aload_n 0, 1, 0, 0, 0), (52, .iconst (-1), 1, 0, 0, 0), (53, .putfield 113, 3, 5, 5, 0), (56, .aload_n 0, 1, 0, 0, 0), (57, .iconst 0, 1, 0, 0, 0), (58, .putfield 94, 3, 5, 4, 0),
  (61, .iload_n 1, 1, 0, 0, 0), (62, .bipush 20, 2, 0, 0, 0), (64, .if_icmp .eq 12, 3, 76, 0, 0), (67, .aload_n 0, 1, 0, 0, 0), (68, .invokevirtual 198, 3, 51, 1, 2), (71, .ifCond .ne 5, 3, 76, 0, 0), (74, .iconst 0, 1, 0, 0, 0), (75, .ireturn, 1, 0, 0, 0),
  (76, .iload_n 1, 1, 0, 0, 0), (77, .bipush 17, 2, 0, 0, 0), (79, .if_icmp .ne 22, 3, 101, 0, 0), (82, .aload_n 0, 1, 0, 0, 0), (83, .iconst 0, 1, 0, 0, 0), (84, .aload_n 0, 1, 0, 0, 0), (85, .getfield 15, 3, 5, 1, 2), (88, .getfield 120, 3, 7, 0, 0),
  (91, .iconst 1, 1, 0, 0, 0), (92, .isub, 1, 0, 0, 0), (93, .invokevirtual 95, 3, 41, 3, 2), (96, .ifCond .ne 5, 3, 101, 0, 0), (99, .iconst 0, 1, 0, 0, 0), (100, .ireturn, 1, 0, 0, 0), (101, .iload_n 1, 1, 0, 0, 0), (102, .bipush 19, 2, 0, 0, 0),
  (104, .if_icmp .ne 15, 3, 119, 0, 0), (107, .aload_n 0, 1, 0, 0, 0), (108, .iconst 0, 1, 0, 0, 0), (109, .bipush 99, 2, 0, 0, 0), (111, .invokevirtual 95, 3, 41, 3, 2), (114, .ifCond .ne 5, 3, 119, 0, 0), (117, .iconst 0, 1, 0, 0, 0), (118, .ireturn, 1, 0, 0, 0),
  (119, .aload_n 0, 1, 0, 0, 0), (120, .getfield 19, 3, 5, 2, 2), (123, .iload_n 1, 1, 0, 0, 0), (124, .aload_n 0, 1, 0, 0, 0), (125, .getfield 113, 3, 5, 5, 0), (128, .aload_n 0, 1, 0, 0, 0), (129, .getfield 94, 3, 5, 4, 0), (132, .invokevirtual 250, 3, 62, 4, 2),
  (135, .aload_n 0, 1, 0, 0, 0), (136, .bipush 59, 2, 0, 0, 0), (138, .invokevirtual 71, 3, 39, 2, 2), (141, .ireturn, 1, 0, 0, 0)]
/-- SamePassers$Script.<init>()V -/
def mm_c61 : List (Nat × mm_E) := [(0, .aload_n 0, 1, 0, 0, 0), (1, .invokespecial 3, 3, 0, 0, 4), (4, .aload_n 0, 1, 0, 0, 0), (5, .bipush 30, 2, 0, 0, 0), (7, .newarray .int, 2, 0, 0, 0), (9, .putfield 9, 3, 6, 1, 2), (12, .aload_n 0, 1, 0, 0, 0), (13, .bipush 30, 2, 0, 0, 0),
  (15, .newarray .int, 2, 0, 0, 0), (17, .putfield 15, 3, 6, 2, 2), (20, .aload_n 0, 1, 0, 0, 0), (21, .bipush 30, 2, 0, 0, 0), (23, .newarray .int, 2, 0, 0, 0), (25, .putfield 18, 3, 6, 3, 2), (28, .return_, 1, 0, 0, 0)]
/-- SamePassers$Script.add(III)V -/
def mm_c62 : List (Nat × mm_E) := [(0, .aload_n 0, 1, 0, 0, 0), (1, .getfield 21, 3, 6, 0, 0), (4, .bipush 30, 2, 0, 0, 0), (6, .if_icmp .ge 43, 3, 49, 0, 0), (9, .aload_n 0, 1, 0, 0, 0), (10, .getfield 9, 3, 6, 1, 2), (13, .aload_n 0, 1, 0, 0, 0), (14, .getfield 21, 3, 6, 0, 0),
  (17, .iload_n 1, 1, 0, 0, 0), (18, .iastore, 1, 0, 0, 0), (19, .aload_n 0, 1, 0, 0, 0), (20, .getfield 15, 3, 6, 2, 2), (23, .aload_n 0, 1, 0, 0, 0), (24, .getfield 21, 3, 6, 0, 0), (27, .iload_n 2, 1, 0, 0, 0), (28, .iastore, 1, 0, 0, 0),
  (29, .aload_n 0, 1, 0, 0, 0), (30, .getfield 18, 3, 6, 3, 2), (33, .aload_n 0, 1, 0, 0, 0), (34, .getfield 21, 3, 6, 0, 0), (37, .iload_n 3, 1, 0, 0, 0), (38, .iastore, 1, 0, 0, 0), (39, .aload_n 0, 1, 0, 0, 0), (40, .dup, 1, 0, 0, 0),
  (41, .getfield 21, 3, 6, 0, 0), (44, .iconst 1, 1, 0, 0, 0), (45, .iadd, 1, 0, 0, 0), (46, .putfield 21, 3, 6, 0, 0), (49, .return_, 1, 0, 0, 0)]
/-- SamePassers$Script.play(ILSamePassers$Hands;)V -/
def mm_c63 : List (Nat × mm_E) := [(0, .aload_n 0, 1, 0, 0, 0), (1, .getfield 15, 3, 6, 2, 2), (4, .iload_n 1, 1, 0, 0, 0), (5, .iaload, 1, 0, 0, 0), (6, .istore_n 3, 1, 0, 0, 0), (7, .aload_n 0, 1, 0, 0, 0), (8, .getfield 9, 3, 6, 1, 2), (11, .iload_n 1, 1, 0, 0, 0),
  (12, .iaload, 1, 0, 0, 0), (13, .bipush 20, 2, 0, 0, 0), (15, .if_icmp .ne 10, 3, 25, 0, 0), (18, .aload_n 2, 1, 0, 0, 0), (19, .invokevirtual 27, 3, 12, 1, 2), (22, .goto 90, 3, 112, 0, 0), (25, .iload_n 3, 1, 0, 0, 0), (26, .ifCond .lt 86, 3, 112, 0, 0),
  (29, .iload_n 3, 1, 0, 0, 0), (30, .bipush 8, 2, 0, 0, 0), (32, .if_icmp .ge 80, 3, 112, 0, 0), (35, .aload_n 0, 1, 0, 0, 0), (36, .getfield 9, 3, 6, 1, 2), (39, .iload_n 1, 1, 0, 0, 0), (40, .iaload, 1, 0, 0, 0), (41, .lookupswitch 59 #[(17, 27), (18, 42)], 27, 0, 0, 0),
  (68, .aload_n 2, 1, 0, 0, 0), (69, .getfield 32, 3, 1, 1, 2), (72, .iload_n 3, 1, 0, 0, 0), (73, .aload_n 0, 1, 0, 0, 0), (74, .getfield 18, 3, 6, 3, 2), (77, .iload_n 1, 1, 0, 0, 0), (78, .iaload, 1, 0, 0, 0), (79, .iastore, 1, 0, 0, 0),
  (80, .goto 32, 3, 112, 0, 0), (83, .aload_n 2, 1, 0, 0, 0), (84, .getfield 35, 3, 1, 2, 2), (87, .iload_n 3, 1, 0, 0, 0), (88, .iconst 1, 1, 0, 0, 0), (89, .aload_n 2, 1, 0, 0, 0), (90, .getfield 35, 3, 1, 2, 2), (93, .iload_n 3, 1, 0, 0, 0),
  (94, .iaload, 1, 0, 0, 0), (95, .isub, 1, 0, 0, 0), (96, .iastore, 1, 0, 0, 0), (97, .goto 15, 3, 112, 0, 0), (100, .aload_n 2, 1, 0, 0, 0), (101, .getfield 38, 3, 1, 3, 2), (104, .iload_n 3, 1, 0, 0, 0), (105, .aload_n 0, 1, 0, 0, 0),
  (106, .getfield 18, 3, 6, 3, 2), (109, .iload_n 1, 1, 0, 0, 0), (110, .iaload, 1, 0, 0, 0), (111, .iastore, 1, 0, 0, 0), (112, .return_, 1, 0, 0, 0)]
/-- SamePassers$Street.<init>()V -/
def mm_c64 : List (Nat × mm_E) := [(0, .aload_n 0, 1, 0, 0, 0), (1, .invokespecial 3, 3, 0, 0, 4), (4, .aload_n 0, 1, 0, 0, 0), (5, .bipush 6, 2, 0, 0, 0), (7, .newarray .long, 2, 0, 0, 0), (9, .putfield 9, 3, 7, 8, 2), (12, .aload_n 0, 1, 0, 0, 0), (13, .bipush 6, 2, 0, 0, 0),
  (15, .newarray .int, 2, 0, 0, 0), (17, .putfield 15, 3, 7, 9, 2), (20, .aload_n 0, 1, 0, 0, 0), (21, .bipush 8, 2, 0, 0, 0), (23, .anewarray 19, 3, 26, 0, 0), (26, .putfield 21, 3, 7, 11, 2), (29, .aload_n 0, 1, 0, 0, 0), (30, .bipush 8, 2, 0, 0, 0),
  (32, .newarray .int, 2, 0, 0, 0), (34, .putfield 25, 3, 7, 13, 2), (37, .aload_n 0, 1, 0, 0, 0), (38, .bipush 8, 2, 0, 0, 0), (40, .newarray .int, 2, 0, 0, 0), (42, .putfield 28, 3, 7, 14, 2), (45, .aload_n 0, 1, 0, 0, 0), (46, .bipush 8, 2, 0, 0, 0),
  (48, .newarray .int, 2, 0, 0, 0), (50, .putfield 31, 3, 7, 15, 2), (53, .aload_n 0, 1, 0, 0, 0), (54, .new 34, 3, 3, 0, 0), (57, .dup, 1, 0, 0, 0), (58, .ldc 36, 2, 2, 2, 0), (60, .ldc 38, 2, 2, 3, 0), (62, .invokespecial 40, 3, 23, 3, 3),
  (65, .putfield 43, 3, 7, 16, 2), (68, .aload_n 0, 1, 0, 0, 0), (69, .new 34, 3, 3, 0, 0), (72, .dup, 1, 0, 0, 0), (73, .ldc 47, 2, 2, 4, 0), (75, .ldc 49, 2, 2, 5, 0), (77, .invokespecial 40, 3, 23, 3, 3), (80, .putfield 51, 3, 7, 17, 2),
  (83, .iconst 0, 1, 0, 0, 0), (84, .istore_n 1, 1, 0, 0, 0), (85, .iload_n 1, 1, 0, 0, 0), (86, .bipush 8, 2, 0, 0, 0), (88, .if_icmp .ge 22, 3, 110, 0, 0), (91, .aload_n 0, 1, 0, 0, 0), (92, .getfield 21, 3, 7, 11, 2), (95, .iload_n 1, 1, 0, 0, 0),
  (96, .new 19, 3, 9, 0, 0), (99, .dup, 1, 0, 0, 0), (100, .invokespecial 54, 3, 83, 1, 5), (103, .aastore, 1, 0, 0, 0), (104, .iinc 1 1, 3, 0, 0, 0), (107, .goto (-22), 3, 85, 0, 0), (110, .aload_n 0, 1, 0, 0, 0), (111, .invokevirtual 55, 3, 65, 1, 2),
  (114, .return_, 1, 0, 0, 0)]
/-- SamePassers$Street.clear()V -/
def mm_c65 : List (Nat × mm_E) := [(0, .aload_n 0, 1, 0, 0, 0), (1, .iconst 4, 1, 0, 0, 0), (2, .putfield 58, 3, 7, 0, 0), (5, .aload_n 0, 1, 0, 0, 0), (6, .iconst 1, 1, 0, 0, 0), (7, .putfield 62, 3, 7, 1, 0), (10, .aload_n 0, 1, 0, 0, 0), (11, .iconst 0, 1, 0, 0, 0),
  (12, .putfield 65, 3, 7, 2, 0), (15, .aload_n 0, 1, 0, 0, 0), (16, .iconst 3, 1, 0, 0, 0), (17, .putfield 68, 3, 7, 3, 0), (20, .aload_n 0, 1, 0, 0, 0), (21, .iconst 1, 1, 0, 0, 0), (22, .putfield 71, 3, 7, 4, 0), (25, .aload_n 0, 1, 0, 0, 0),
  (26, .bipush 20, 2, 0, 0, 0), (28, .putfield 74, 3, 7, 5, 0), (31, .aload_n 0, 1, 0, 0, 0), (32, .iconst 0, 1, 0, 0, 0), (33, .putfield 77, 3, 7, 6, 3), (36, .aload_n 0, 1, 0, 0, 0), (37, .iconst 0, 1, 0, 0, 0), (38, .putfield 81, 3, 7, 7, 0),
  (41, .aload_n 0, 1, 0, 0, 0), (42, .iconst 0, 1, 0, 0, 0), (43, .putfield 84, 3, 7, 10, 0), (46, .aload_n 0, 1, 0, 0, 0), (47, .iconst 0, 1, 0, 0, 0), (48, .putfield 87, 3, 7, 12, 0), (51, .aload_n 0, 1, 0, 0, 0), (52, .getfield 43, 3, 7, 16, 2),
  (55, .invokevirtual 90, 3, 24, 1, 2), (58, .aload_n 0, 1, 0, 0, 0), (59, .getfield 43, 3, 7, 16, 2), (62, .bipush (-2), 2, 0, 0, 0), (64, .invokevirtual 91, 3, 25, 2, 2), (67, .aload_n 0, 1, 0, 0, 0), (68, .getfield 51, 3, 7, 17, 2), (71, .invokevirtual 90, 3, 24, 1, 2),
  (74, .aload_n 0, 1, 0, 0, 0), (75, .getfield 51, 3, 7, 17, 2), (78, .bipush (-3), 2, 0, 0, 0), (80, .invokevirtual 91, 3, 25, 2, 2), (83, .aload_n 0, 1, 0, 0, 0), (84, .getfield 51, 3, 7, 17, 2), (87, .iconst 1, 1, 0, 0, 0), (88, .invokevirtual 91, 3, 25, 2, 2),
  (91, .aload_n 0, 1, 0, 0, 0), (92, .getfield 51, 3, 7, 17, 2), (95, .bipush (-10), 2, 0, 0, 0), (97, .invokevirtual 91, 3, 25, 2, 2), (100, .return_, 1, 0, 0, 0)]
/-- SamePassers$Street.findWord(J)I -/
def mm_c66 : List (Nat × mm_E) := [(0, .iconst 0, 1, 0, 0, 0), (1, .istore_n 3, 1, 0, 0, 0), (2, .iload_n 3, 1, 0, 0, 0), (3, .aload_n 0, 1, 0, 0, 0), (4, .getfield 81, 3, 7, 7, 0), (7, .if_icmp .ge 22, 3, 29, 0, 0), (10, .aload_n 0, 1, 0, 0, 0), (11, .getfield 9, 3, 7, 8, 2),
  (14, .iload_n 3, 1, 0, 0, 0), (15, .laload, 1, 0, 0, 0), (16, .lload_n 1, 1, 0, 0, 0), (17, .lcmp, 1, 0, 0, 0), (18, .ifCond .ne 5, 3, 23, 0, 0), (21, .iload_n 3, 1, 0, 0, 0), (22, .ireturn, 1, 0, 0, 0), (23, .iinc 3 1, 3, 0, 0, 0),
  (26, .goto (-24), 3, 2, 0, 0), (29, .iconst (-1), 1, 0, 0, 0), (30, .ireturn, 1, 0, 0, 0)]
/-- SamePassers$Street.findWalker(J)I -/
def mm_c67 : List (Nat × mm_E) := [(0, .iconst 0, 1, 0, 0, 0), (1, .istore_n 3, 1, 0, 0, 0), (2, .iload_n 3, 1, 0, 0, 0), (3, .aload_n 0, 1, 0, 0, 0), (4, .getfield 84, 3, 7, 10, 0), (7, .if_icmp .ge 25, 3, 32, 0, 0), (10, .aload_n 0, 1, 0, 0, 0), (11, .getfield 21, 3, 7, 11, 2),
  (14, .iload_n 3, 1, 0, 0, 0), (15, .aaload, 1, 0, 0, 0), (16, .getfield 95, 3, 9, 0, 1), (19, .lload_n 1, 1, 0, 0, 0), (20, .lcmp, 1, 0, 0, 0), (21, .ifCond .ne 5, 3, 26, 0, 0), (24, .iload_n 3, 1, 0, 0, 0), (25, .ireturn, 1, 0, 0, 0),
  (26, .iinc 3 1, 3, 0, 0, 0), (29, .goto (-27), 3, 2, 0, 0), (32, .iconst (-1), 1, 0, 0, 0), (33, .ireturn, 1, 0, 0, 0)]
/-- SamePassers$Street.hasMust(II)Z -/
def mm_c68 : List (Nat × mm_E) := [(0, .iconst 0, 1, 0, 0, 0), (1, .istore_n 3, 1, 0, 0, 0), (2, .iload_n 3, 1, 0, 0, 0), (3, .aload_n 0, 1, 0, 0, 0), (4, .getfield 87, 3, 7, 12, 0), (7, .if_icmp .ge 31, 3, 38, 0, 0), (10, .aload_n 0, 1, 0, 0, 0), (11, .getfield 25, 3, 7, 13, 2),
  (14, .iload_n 3, 1, 0, 0, 0), (15, .iaload, 1, 0, 0, 0), (16, .iload_n 1, 1, 0, 0, 0), (17, .if_icmp .ne 15, 3, 32, 0, 0), (20, .aload_n 0, 1, 0, 0, 0), (21, .getfield 28, 3, 7, 14, 2), (24, .iload_n 3, 1, 0, 0, 0), (25, .iaload, 1, 0, 0, 0),
  (26, .iload_n 2, 1, 0, 0, 0), (27, .if_icmp .ne 5, 3, 32, 0, 0), (30, .iconst 1, 1, 0, 0, 0), (31, .ireturn, 1, 0, 0, 0), (32, .iinc 3 1, 3, 0, 0, 0), (35, .goto (-33), 3, 2, 0, 0), (38, .iconst 0, 1, 0, 0, 0), (39, .ireturn, 1, 0, 0, 0)]
/-- SamePassers$Street.addMust(III)V -/
def mm_c69 : List (Nat × mm_E) := [(0, .aload_n 0, 1, 0, 0, 0), (1, .getfield 87, 3, 7, 12, 0), (4, .bipush 8, 2, 0, 0, 0), (6, .if_icmp .ge 43, 3, 49, 0, 0), (9, .aload_n 0, 1, 0, 0, 0), (10, .getfield 25, 3, 7, 13, 2), (13, .aload_n 0, 1, 0, 0, 0), (14, .getfield 87, 3, 7, 12, 0),
  (17, .iload_n 1, 1, 0, 0, 0), (18, .iastore, 1, 0, 0, 0), (19, .aload_n 0, 1, 0, 0, 0), (20, .getfield 28, 3, 7, 14, 2), (23, .aload_n 0, 1, 0, 0, 0), (24, .getfield 87, 3, 7, 12, 0), (27, .iload_n 2, 1, 0, 0, 0), (28, .iastore, 1, 0, 0, 0),
  (29, .aload_n 0, 1, 0, 0, 0), (30, .getfield 31, 3, 7, 15, 2), (33, .aload_n 0, 1, 0, 0, 0), (34, .getfield 87, 3, 7, 12, 0), (37, .iload_n 3, 1, 0, 0, 0), (38, .iastore, 1, 0, 0, 0), (39, .aload_n 0, 1, 0, 0, 0), (40, .dup, 1, 0, 0, 0),
  (41, .getfield 87, 3, 7, 12, 0), (44, .iconst 1, 1, 0, 0, 0), (45, .iadd, 1, 0, 0, 0), (46, .putfield 87, 3, 7, 12, 0), (49, .return_, 1, 0, 0, 0)]
/-- SamePassers$Street.tempoOf(II)I -/
def mm_c70 : List (Nat × mm_E) := [(0, .aload_n 0, 1, 0, 0, 0), (1, .getfield 43, 3, 7, 16, 2), (4, .aload_n 0, 1, 0, 0, 0), (5, .getfield 21, 3, 7, 11, 2), (8, .iload_n 1, 1, 0, 0, 0), (9, .aaload, 1, 0, 0, 0), (10, .getfield 99, 3, 9, 5, 0), (13, .iload_n 2, 1, 0, 0, 0),
  (14, .invokevirtual 102, 3, 26, 3, 2), (17, .istore_n 3, 1, 0, 0, 0), (18, .iconst 1, 1, 0, 0, 0), (19, .bipush 99, 2, 0, 0, 0), (21, .iload_n 3, 1, 0, 0, 0), (22, .invokestatic 106, 3, 0, 0, 11), (25, .invokestatic 111, 3, 0, 0, 10), (28, .ireturn, 1, 0, 0, 0)]
/-- SamePassers$Street.cueOf(I)I -/
def mm_c71 : List (Nat × mm_E) := [(0, .aload_n 0, 1, 0, 0, 0), (1, .getfield 21, 3, 7, 11, 2), (4, .iload_n 1, 1, 0, 0, 0), (5, .aaload, 1, 0, 0, 0), (6, .astore_n 2, 1, 0, 0, 0), (7, .aload_n 2, 1, 0, 0, 0), (8, .getfield 114, 3, 9, 1, 0), (11, .iconst 3, 1, 0, 0, 0),
  (12, .if_icmp .eq 25, 3, 37, 0, 0), (15, .aload_n 2, 1, 0, 0, 0), (16, .getfield 116, 3, 9, 7, 0), (19, .ifCond .lt 18, 3, 37, 0, 0), (22, .aload_n 2, 1, 0, 0, 0), (23, .getfield 116, 3, 9, 7, 0), (26, .aload_n 0, 1, 0, 0, 0), (27, .getfield 81, 3, 7, 7, 0),
  (30, .if_icmp .ge 7, 3, 37, 0, 0), (33, .iconst 1, 1, 0, 0, 0), (34, .goto 4, 3, 38, 0, 0), (37, .iconst 0, 1, 0, 0, 0), (38, .istore_n 3, 1, 0, 0, 0), (39, .iload_n 3, 1, 0, 0, 0), (40, .ifCond .eq 20, 3, 60, 0, 0), (43, .aload_n 0, 1, 0, 0, 0),
  (44, .getfield 15, 3, 7, 9, 2), (47, .aload_n 2, 1, 0, 0, 0), (48, .getfield 116, 3, 9, 7, 0), (51, .iaload, 1, 0, 0, 0), (52, .aload_n 2, 1, 0, 0, 0), (53, .getfield 119, 3, 9, 6, 0), (56, .iadd, 1, 0, 0, 0), (57, .goto 7, 3, 64, 0, 0),
  (60, .aload_n 2, 1, 0, 0, 0), (61, .getfield 119, 3, 9, 6, 0), (64, .ireturn, 1, 0, 0, 0)]
/-- SamePassers$Street.inFrame(I)Z -/
def mm_c72 : List (Nat × mm_E) := [(0, .iload_n 1, 1, 0, 0, 0), (1, .aload_n 0, 1, 0, 0, 0), (2, .getfield 65, 3, 7, 2, 0), (5, .if_icmp .lt 15, 3, 20, 0, 0), (8, .iload_n 1, 1, 0, 0, 0), (9, .aload_n 0, 1, 0, 0, 0), (10, .getfield 68, 3, 7, 3, 0), (13, .if_icmp .gt 7, 3, 20, 0, 0),
  (16, .iconst 1, 1, 0, 0, 0), (17, .goto 4, 3, 21, 0, 0), (20, .iconst 0, 1, 0, 0, 0), (21, .ireturn, 1, 0, 0, 0)]
/-- SamePassers$Street.knownBy(II)I -/
def mm_c73 : List (Nat × mm_E) := [(0, .iload_n 2, 1, 0, 0, 0), (1, .iconst 2, 1, 0, 0, 0), (2, .if_icmp .ge 5, 3, 7, 0, 0), (5, .iconst 0, 1, 0, 0, 0), (6, .ireturn, 1, 0, 0, 0), (7, .iconst 0, 1, 0, 0, 0), (8, .bipush 10, 2, 0, 0, 0), (10, .aload_n 0, 1, 0, 0, 0),
  (11, .getfield 51, 3, 7, 17, 2), (14, .aload_n 0, 1, 0, 0, 0), (15, .getfield 21, 3, 7, 11, 2), (18, .iload_n 1, 1, 0, 0, 0), (19, .aaload, 1, 0, 0, 0), (20, .getfield 114, 3, 9, 1, 0), (23, .iload_n 2, 1, 0, 0, 0), (24, .invokevirtual 102, 3, 26, 3, 2),
  (27, .invokestatic 106, 3, 0, 0, 11), (30, .invokestatic 111, 3, 0, 0, 10), (33, .ireturn, 1, 0, 0, 0)]
/-- SamePassers$Street.jumpBetween(II)I -/
def mm_c74 : List (Nat × mm_E) := [(0, .iload_n 1, 1, 0, 0, 0), (1, .iconst (-1), 1, 0, 0, 0), (2, .if_icmp .eq 15, 3, 17, 0, 0), (5, .iload_n 2, 1, 0, 0, 0), (6, .iconst (-1), 1, 0, 0, 0), (7, .if_icmp .eq 10, 3, 17, 0, 0), (10, .iload_n 1, 1, 0, 0, 0), (11, .iload_n 2, 1, 0, 0, 0),
  (12, .isub, 1, 0, 0, 0), (13, .invokestatic 122, 3, 0, 0, 12), (16, .ireturn, 1, 0, 0, 0), (17, .iload_n 1, 1, 0, 0, 0), (18, .iload_n 2, 1, 0, 0, 0), (19, .if_icmp .ne 7, 3, 26, 0, 0), (22, .iconst 0, 1, 0, 0, 0), (23, .goto 14, 3, 37, 0, 0),
  (26, .aload_n 0, 1, 0, 0, 0), (27, .getfield 68, 3, 7, 3, 0), (30, .aload_n 0, 1, 0, 0, 0), (31, .getfield 65, 3, 7, 2, 0), (34, .isub, 1, 0, 0, 0), (35, .iconst 1, 1, 0, 0, 0), (36, .iadd, 1, 0, 0, 0), (37, .ireturn, 1, 0, 0, 0)]
/-- SamePassers$Tape.<init>()V -/
def mm_c75 : List (Nat × mm_E) := [(0, .aload_n 0, 1, 0, 0, 0), (1, .invokespecial 3, 3, 0, 0, 4), (4, .aload_n 0, 1, 0, 0, 0), (5, .sipush 1000, 3, 0, 0, 0), (8, .newarray .char, 2, 0, 0, 0), (10, .putfield 9, 3, 8, 0, 2), (13, .aload_n 0, 1, 0, 0, 0), (14, .bipush 30, 2, 0, 0, 0),
  (16, .newarray .long, 2, 0, 0, 0), (18, .putfield 15, 3, 8, 1, 2), (21, .iconst 0, 1, 0, 0, 0), (22, .istore_n 1, 1, 0, 0, 0), (23, .iconst 0, 1, 0, 0, 0), (24, .istore_n 2, 1, 0, 0, 0), (25, .iload_n 2, 1, 0, 0, 0), (26, .ldc 19, 2, 2, 1, 0),
  (28, .invokevirtual 21, 3, 282, 1, 2), (31, .if_icmp .ge 56, 3, 87, 0, 0), (34, .iload_n 1, 1, 0, 0, 0), (35, .bipush 30, 2, 0, 0, 0), (37, .if_icmp .ge 50, 3, 87, 0, 0), (40, .ldc 19, 2, 2, 1, 0), (42, .iload_n 2, 1, 0, 0, 0), (43, .invokevirtual 27, 3, 284, 2, 2),
  (46, .istore_n 3, 1, 0, 0, 0), (47, .iload_n 3, 1, 0, 0, 0), (48, .bipush 32, 2, 0, 0, 0), (50, .if_icmp .ne 9, 3, 59, 0, 0), (53, .iinc 1 1, 3, 0, 0, 0), (56, .goto 25, 3, 81, 0, 0), (59, .aload_n 0, 1, 0, 0, 0), (60, .getfield 15, 3, 8, 1, 2),
  (63, .iload_n 1, 1, 0, 0, 0), (64, .aload_n 0, 1, 0, 0, 0), (65, .getfield 15, 3, 8, 1, 2), (68, .iload_n 1, 1, 0, 0, 0), (69, .laload, 1, 0, 0, 0), (70, .ldc2_w 31, 3, 1, 0, 27), (73, .lmul, 1, 0, 0, 0), (74, .iload_n 3, 1, 0, 0, 0),
  (75, .bipush 96, 2, 0, 0, 0), (77, .isub, 1, 0, 0, 0), (78, .i2l, 1, 0, 0, 0), (79, .ladd, 1, 0, 0, 0), (80, .lastore, 1, 0, 0, 0), (81, .iinc 2 1, 3, 0, 0, 0), (84, .goto (-59), 3, 25, 0, 0), (87, .return_, 1, 0, 0, 0)]
/-- SamePassers$Tape.asWord(Ljava/lang/String;)J -/
def mm_c76 : List (Nat × mm_E) := [(0, .lconst 0, 1, 0, 0, 0), (1, .lstore_n 1, 1, 0, 0, 0), (2, .iconst 0, 1, 0, 0, 0), (3, .istore_n 3, 1, 0, 0, 0), (4, .iload_n 3, 1, 0, 0, 0), (5, .aload_n 0, 1, 0, 0, 0), (6, .invokevirtual 21, 3, 282, 1, 2), (9, .if_icmp .ge 25, 3, 34, 0, 0),
  (12, .lload_n 1, 1, 0, 0, 0), (13, .ldc2_w 31, 3, 1, 0, 27), (16, .lmul, 1, 0, 0, 0), (17, .aload_n 0, 1, 0, 0, 0), (18, .iload_n 3, 1, 0, 0, 0), (19, .invokevirtual 27, 3, 284, 2, 2), (22, .bipush 96, 2, 0, 0, 0), (24, .isub, 1, 0, 0, 0),
  (25, .i2l, 1, 0, 0, 0), (26, .ladd, 1, 0, 0, 0), (27, .lstore_n 1, 1, 0, 0, 0), (28, .iinc 3 1, 3, 0, 0, 0), (31, .goto (-27), 3, 4, 0, 0), (34, .lload_n 1, 1, 0, 0, 0), (35, .lreturn, 1, 0, 0, 0)]
/-- SamePassers$Tape.add(J)V -/
def mm_c77 : List (Nat × mm_E) := [(0, .bipush 56, 2, 0, 0, 0), (2, .istore_n 3, 1, 0, 0, 0), (3, .iload_n 3, 1, 0, 0, 0), (4, .ifCond .lt 86, 3, 90, 0, 0), (7, .lload_n 1, 1, 0, 0, 0), (8, .iload_n 3, 1, 0, 0, 0), (9, .lushr, 1, 0, 0, 0), (10, .l2i, 1, 0, 0, 0),
  (11, .sipush 255, 3, 0, 0, 0), (14, .iand, 1, 0, 0, 0), (15, .istore 4, 2, 0, 0, 0), (17, .iload 4, 2, 0, 0, 0), (19, .bipush 10, 2, 0, 0, 0), (21, .if_icmp .eq 17, 3, 38, 0, 0), (24, .iload 4, 2, 0, 0, 0), (26, .bipush 32, 2, 0, 0, 0),
  (28, .if_icmp .lt 14, 3, 42, 0, 0), (31, .iload 4, 2, 0, 0, 0), (33, .bipush 126, 2, 0, 0, 0), (35, .if_icmp .gt 7, 3, 42, 0, 0), (38, .iconst 1, 1, 0, 0, 0), (39, .goto 4, 3, 43, 0, 0), (42, .iconst 0, 1, 0, 0, 0), (43, .istore 5, 2, 0, 0, 0),
  (45, .iload 5, 2, 0, 0, 0), (47, .ifCond .eq 37, 3, 84, 0, 0), (50, .aload_n 0, 1, 0, 0, 0), (51, .getfield 33, 3, 8, 3, 0), (54, .aload_n 0, 1, 0, 0, 0), (55, .getfield 9, 3, 8, 0, 2), (58, .arraylength, 1, 0, 0, 0), (59, .if_icmp .ge 25, 3, 84, 0, 0),
  (62, .aload_n 0, 1, 0, 0, 0), (63, .getfield 9, 3, 8, 0, 2), (66, .aload_n 0, 1, 0, 0, 0), (67, .getfield 33, 3, 8, 3, 0), (70, .iload 4, 2, 0, 0, 0), (72, .i2c, 1, 0, 0, 0), (73, .castore, 1, 0, 0, 0), (74, .aload_n 0, 1, 0, 0, 0),
  (75, .dup, 1, 0, 0, 0), (76, .getfield 33, 3, 8, 3, 0), (79, .iconst 1, 1, 0, 0, 0), (80, .iadd, 1, 0, 0, 0), (81, .putfield 33, 3, 8, 3, 0), (84, .iinc 3 (-8), 3, 0, 0, 0), (87, .goto (-84), 3, 3, 0, 0), (90, .return_, 1, 0, 0, 0)]
/-- SamePassers$Tape.rewind()V -/
def mm_c78 : List (Nat × mm_E) := [(0, .aload_n 0, 1, 0, 0, 0), (1, .iconst 0, 1, 0, 0, 0), (2, .putfield 36, 3, 8, 2, 0), (5, .aload_n 0, 1, 0, 0, 0), (6, .invokevirtual 39, 3, 79, 1, 2), (9, .return_, 1, 0, 0, 0)]
/-- SamePassers$Tape.step()V -/
def mm_c79 : List (Nat × mm_E) := [(0, .aload_n 0, 1, 0, 0, 0), (1, .getfield 36, 3, 8, 2, 0), (4, .aload_n 0, 1, 0, 0, 0), (5, .getfield 33, 3, 8, 3, 0), (8, .if_icmp .ge 44, 3, 52, 0, 0), (11, .aload_n 0, 1, 0, 0, 0), (12, .getfield 9, 3, 8, 0, 2), (15, .aload_n 0, 1, 0, 0, 0),
  (16, .getfield 36, 3, 8, 2, 0), (19, .caload, 1, 0, 0, 0), (20, .bipush 10, 2, 0, 0, 0), (22, .if_icmp .eq 17, 3, 39, 0, 0), (25, .aload_n 0, 1, 0, 0, 0), (26, .getfield 9, 3, 8, 0, 2), (29, .aload_n 0, 1, 0, 0, 0), (30, .getfield 36, 3, 8, 2, 0),
  (33, .caload, 1, 0, 0, 0), (34, .bipush 32, 2, 0, 0, 0), (36, .if_icmp .ne 16, 3, 52, 0, 0), (39, .aload_n 0, 1, 0, 0, 0), (40, .dup, 1, 0, 0, 0), (41, .getfield 36, 3, 8, 2, 0), (44, .iconst 1, 1, 0, 0, 0), (45, .iadd, 1, 0, 0, 0),
  (46, .putfield 36, 3, 8, 2, 0), (49, .goto (-49), 3, 0, 0, 0), (52, .aload_n 0, 1, 0, 0, 0), (53, .aload_n 0, 1, 0, 0, 0), (54, .getfield 36, 3, 8, 2, 0), (57, .putfield 42, 3, 8, 5, 0), (60, .aload_n 0, 1, 0, 0, 0), (61, .getfield 36, 3, 8, 2, 0),
  (64, .aload_n 0, 1, 0, 0, 0), (65, .getfield 33, 3, 8, 3, 0), (68, .if_icmp .lt 11, 3, 79, 0, 0), (71, .aload_n 0, 1, 0, 0, 0), (72, .sipush 128, 3, 0, 0, 0), (75, .putfield 45, 3, 8, 4, 0), (78, .return_, 1, 0, 0, 0), (79, .aload_n 0, 1, 0, 0, 0),
  (80, .getfield 9, 3, 8, 0, 2), (83, .aload_n 0, 1, 0, 0, 0), (84, .getfield 36, 3, 8, 2, 0), (87, .caload, 1, 0, 0, 0), (88, .istore_n 1, 1, 0, 0, 0), (89, .iload_n 1, 1, 0, 0, 0), (90, .bipush 97, 2, 0, 0, 0), (92, .if_icmp .lt 16, 3, 108, 0, 0),
  (95, .iload_n 1, 1, 0, 0, 0), (96, .bipush 122, 2, 0, 0, 0), (98, .if_icmp .gt 10, 3, 108, 0, 0), (101, .aload_n 0, 1, 0, 0, 0), (102, .invokevirtual 48, 3, 80, 1, 2), (105, .goto 51, 3, 156, 0, 0), (108, .iload_n 1, 1, 0, 0, 0), (109, .bipush 48, 2, 0, 0, 0),
  (111, .if_icmp .lt 16, 3, 127, 0, 0), (114, .iload_n 1, 1, 0, 0, 0), (115, .bipush 57, 2, 0, 0, 0), (117, .if_icmp .gt 10, 3, 127, 0, 0), (120, .aload_n 0, 1, 0, 0, 0), (121, .invokevirtual 51, 3, 81, 1, 2), (124, .goto 32, 3, 156, 0, 0), (127, .aload_n 0, 1, 0, 0, 0),
  (128, .dup, 1, 0, 0, 0), (129, .getfield 36, 3, 8, 2, 0), (132, .iconst 1, 1, 0, 0, 0), (133, .iadd, 1, 0, 0, 0), (134, .putfield 36, 3, 8, 2, 0), (137, .aload_n 0, 1, 0, 0, 0), (138, .ldc 54, 2, 2, 6, 0), (140, .iload_n 1, 1, 0, 0, 0),
  (141, .invokevirtual 56, 3, 287, 2, 2), (144, .ifCond .ge 8, 3, 152, 0, 0), (147, .bipush 127, 2, 0, 0, 0), (149, .goto 4, 3, 153, 0, 0), (152, .iload_n 1, 1, 0, 0, 0), (153, .putfield 45, 3, 8, 4, 0), (156, .return_, 1, 0, 0, 0)]
/-- SamePassers$Tape.stepWord()V -/
def mm_c80 : List (Nat × mm_E) := [(0, .aload_n 0, 1, 0, 0, 0), (1, .lconst 0, 1, 0, 0, 0), (2, .putfield 60, 3, 8, 7, 1), (5, .aload_n 0, 1, 0, 0, 0), (6, .getfield 36, 3, 8, 2, 0), (9, .aload_n 0, 1, 0, 0, 0), (10, .getfield 33, 3, 8, 3, 0), (13, .if_icmp .ge 70, 3, 83, 0, 0),
  (16, .aload_n 0, 1, 0, 0, 0), (17, .getfield 9, 3, 8, 0, 2), (20, .aload_n 0, 1, 0, 0, 0), (21, .getfield 36, 3, 8, 2, 0), (24, .caload, 1, 0, 0, 0), (25, .bipush 97, 2, 0, 0, 0), (27, .if_icmp .lt 56, 3, 83, 0, 0), (30, .aload_n 0, 1, 0, 0, 0),
  (31, .getfield 9, 3, 8, 0, 2), (34, .aload_n 0, 1, 0, 0, 0), (35, .getfield 36, 3, 8, 2, 0), (38, .caload, 1, 0, 0, 0), (39, .bipush 122, 2, 0, 0, 0), (41, .if_icmp .gt 42, 3, 83, 0, 0), (44, .aload_n 0, 1, 0, 0, 0), (45, .aload_n 0, 1, 0, 0, 0),
  (46, .getfield 60, 3, 8, 7, 1), (49, .ldc2_w 31, 3, 1, 0, 27), (52, .lmul, 1, 0, 0, 0), (53, .aload_n 0, 1, 0, 0, 0), (54, .getfield 9, 3, 8, 0, 2), (57, .aload_n 0, 1, 0, 0, 0), (58, .getfield 36, 3, 8, 2, 0), (61, .caload, 1, 0, 0, 0),
  (62, .bipush 96, 2, 0, 0, 0), (64, .isub, 1, 0, 0, 0), (65, .i2l, 1, 0, 0, 0), (66, .ladd, 1, 0, 0, 0), (67, .putfield 60, 3, 8, 7, 1), (70, .aload_n 0, 1, 0, 0, 0), (71, .dup, 1, 0, 0, 0), (72, .getfield 36, 3, 8, 2, 0),
  (75, .iconst 1, 1, 0, 0, 0), (76, .iadd, 1, 0, 0, 0), (77, .putfield 36, 3, 8, 2, 0), (80, .goto (-75), 3, 5, 0, 0), (83, .aload_n 0, 1, 0, 0, 0), (84, .getfield 36, 3, 8, 2, 0), (87, .aload_n 0, 1, 0, 0, 0), (88, .getfield 42, 3, 8, 5, 0),
  (91, .isub, 1, 0, 0, 0), (92, .bipush 8, 2, 0, 0, 0), (94, .if_icmp .le 10, 3, 104, 0, 0), (97, .aload_n 0, 1, 0, 0, 0), (98, .bipush 127, 2, 0, 0, 0), (100, .putfield 45, 3, 8, 4, 0), (103, .return_, 1, 0, 0, 0), (104, .aload_n 0, 1, 0, 0, 0),
  (105, .bipush 30, 2, 0, 0, 0), (107, .putfield 45, 3, 8, 4, 0), (110, .iconst 0, 1, 0, 0, 0), (111, .istore_n 1, 1, 0, 0, 0), (112, .iload_n 1, 1, 0, 0, 0), (113, .bipush 30, 2, 0, 0, 0), (115, .if_icmp .ge 37, 3, 152, 0, 0), (118, .aload_n 0, 1, 0, 0, 0),
  (119, .getfield 45, 3, 8, 4, 0), (122, .bipush 30, 2, 0, 0, 0), (124, .if_icmp .ne 28, 3, 152, 0, 0), (127, .aload_n 0, 1, 0, 0, 0), (128, .getfield 15, 3, 8, 1, 2), (131, .iload_n 1, 1, 0, 0, 0), (132, .laload, 1, 0, 0, 0), (133, .aload_n 0, 1, 0, 0, 0),
  (134, .getfield 60, 3, 8, 7, 1), (137, .lcmp, 1, 0, 0, 0), (138, .ifCond .ne 8, 3, 146, 0, 0), (141, .aload_n 0, 1, 0, 0, 0), (142, .iload_n 1, 1, 0, 0, 0), (143, .putfield 45, 3, 8, 4, 0), (146, .iinc 1 1, 3, 0, 0, 0), (149, .goto (-37), 3, 112, 0, 0),
  (152, .return_, 1, 0, 0, 0)]
/-- SamePassers$Tape.stepNumber()V -/
def mm_c81 : List (Nat × mm_E) := [(0, .aload_n 0, 1, 0, 0, 0), (1, .iconst 0, 1, 0, 0, 0), (2, .putfield 64, 3, 8, 6, 0), (5, .aload_n 0, 1, 0, 0, 0), (6, .getfield 36, 3, 8, 2, 0), (9, .aload_n 0, 1, 0, 0, 0), (10, .getfield 33, 3, 8, 3, 0), (13, .if_icmp .ge 68, 3, 81, 0, 0),
  (16, .aload_n 0, 1, 0, 0, 0), (17, .getfield 9, 3, 8, 0, 2), (20, .aload_n 0, 1, 0, 0, 0), (21, .getfield 36, 3, 8, 2, 0), (24, .caload, 1, 0, 0, 0), (25, .bipush 48, 2, 0, 0, 0), (27, .if_icmp .lt 54, 3, 81, 0, 0), (30, .aload_n 0, 1, 0, 0, 0),
  (31, .getfield 9, 3, 8, 0, 2), (34, .aload_n 0, 1, 0, 0, 0), (35, .getfield 36, 3, 8, 2, 0), (38, .caload, 1, 0, 0, 0), (39, .bipush 57, 2, 0, 0, 0), (41, .if_icmp .gt 40, 3, 81, 0, 0), (44, .aload_n 0, 1, 0, 0, 0), (45, .aload_n 0, 1, 0, 0, 0),
  (46, .getfield 64, 3, 8, 6, 0), (49, .bipush 10, 2, 0, 0, 0), (51, .imul, 1, 0, 0, 0), (52, .aload_n 0, 1, 0, 0, 0), (53, .getfield 9, 3, 8, 0, 2), (56, .aload_n 0, 1, 0, 0, 0), (57, .getfield 36, 3, 8, 2, 0), (60, .caload, 1, 0, 0, 0),
  (61, .bipush 48, 2, 0, 0, 0), (63, .isub, 1, 0, 0, 0), (64, .iadd, 1, 0, 0, 0), (65, .putfield 64, 3, 8, 6, 0), (68, .aload_n 0, 1, 0, 0, 0), (69, .dup, 1, 0, 0, 0), (70, .getfield 36, 3, 8, 2, 0), (73, .iconst 1, 1, 0, 0, 0),
  (74, .iadd, 1, 0, 0, 0), (75, .putfield 36, 3, 8, 2, 0), (78, .goto (-73), 3, 5, 0, 0), (81, .aload_n 0, 1, 0, 0, 0), (82, .aload_n 0, 1, 0, 0, 0), (83, .getfield 36, 3, 8, 2, 0), (86, .aload_n 0, 1, 0, 0, 0), (87, .getfield 42, 3, 8, 5, 0),
  (90, .isub, 1, 0, 0, 0), (91, .iconst 4, 1, 0, 0, 0), (92, .if_icmp .le 8, 3, 100, 0, 0), (95, .bipush 127, 2, 0, 0, 0), (97, .goto 5, 3, 102, 0, 0), (100, .bipush 31, 2, 0, 0, 0), (102, .putfield 45, 3, 8, 4, 0), (105, .return_, 1, 0, 0, 0)]
/-- SamePassers$Tape.empty()V -/
def mm_c82 : List (Nat × mm_E) := [(0, .aload_n 0, 1, 0, 0, 0), (1, .iconst 0, 1, 0, 0, 0), (2, .putfield 33, 3, 8, 3, 0), (5, .return_, 1, 0, 0, 0)]
/-- SamePassers$Walker.<init>()V -/
def mm_c83 : List (Nat × mm_E) := [(0, .aload_n 0, 1, 0, 0, 0), (1, .invokespecial 1, 3, 0, 0, 4), (4, .return_, 1, 0, 0, 0)]
/-- SamePassers$Walks.<init>(LSamePassers$Street;)V -/
def mm_c84 : List (Nat × mm_E) := [(0, .aload_n 0, 1, 0, 0, 0), (1, .invokespecial 3, 3, 0, 0, 4), (4, .aload_n 0, 1, 0, 0, 0), (5, .bipush 8, 2, 0, 0, 0), (7, .newarray .int, 2, 0, 0, 0), (9, .putfield 9, 3, 10, 0, 2), (12, .aload_n 0, 1, 0, 0, 0), (13, .bipush 8, 2, 0, 0, 0),
  (15, .newarray .int, 2, 0, 0, 0), (17, .putfield 15, 3, 10, 1, 2), (20, .aload_n 0, 1, 0, 0, 0), (21, .bipush 8, 2, 0, 0, 0), (23, .newarray .int, 2, 0, 0, 0), (25, .putfield 18, 3, 10, 2, 2), (28, .aload_n 0, 1, 0, 0, 0), (29, .iconst 4, 1, 0, 0, 0),
  (30, .newarray .long, 2, 0, 0, 0), (32, .putfield 21, 3, 10, 3, 2), (35, .aload_n 0, 1, 0, 0, 0), (36, .bipush 8, 2, 0, 0, 0), (38, .newarray .int, 2, 0, 0, 0), (40, .putfield 25, 3, 10, 5, 2), (43, .aload_n 0, 1, 0, 0, 0), (44, .aload_n 1, 1, 0, 0, 0),
  (45, .putfield 28, 3, 10, 4, 2), (48, .return_, 1, 0, 0, 0)]
/-- SamePassers$Walks.set(LSamePassers$Street;LSamePassers$Hands;IZ)V -/
def mm_c85 : List (Nat × mm_E) := [(0, .aload_n 0, 1, 0, 0, 0), (1, .aload_n 1, 1, 0, 0, 0), (2, .putfield 28, 3, 10, 4, 2), (5, .iconst 0, 1, 0, 0, 0), (6, .istore 5, 2, 0, 0, 0), (8, .iload 5, 2, 0, 0, 0), (10, .aload_n 0, 1, 0, 0, 0), (11, .getfield 28, 3, 10, 4, 2),
  (14, .getfield 32, 3, 7, 10, 0), (17, .if_icmp .ge 87, 3, 104, 0, 0), (20, .aload_n 0, 1, 0, 0, 0), (21, .getfield 9, 3, 10, 0, 2), (24, .iload 5, 2, 0, 0, 0), (26, .aload_n 2, 1, 0, 0, 0), (27, .getfield 38, 3, 1, 1, 2), (30, .iload 5, 2, 0, 0, 0),
  (32, .iaload, 1, 0, 0, 0), (33, .iastore, 1, 0, 0, 0), (34, .aload_n 0, 1, 0, 0, 0), (35, .getfield 15, 3, 10, 1, 2), (38, .iload 5, 2, 0, 0, 0), (40, .aload_n 2, 1, 0, 0, 0), (41, .getfield 41, 3, 1, 2, 2), (44, .iload 5, 2, 0, 0, 0),
  (46, .iaload, 1, 0, 0, 0), (47, .iastore, 1, 0, 0, 0), (48, .aload_n 0, 1, 0, 0, 0), (49, .getfield 25, 3, 10, 5, 2), (52, .iload 5, 2, 0, 0, 0), (54, .aload_n 0, 1, 0, 0, 0), (55, .getfield 28, 3, 10, 4, 2), (58, .iload 5, 2, 0, 0, 0),
  (60, .iload_n 3, 1, 0, 0, 0), (61, .invokevirtual 42, 3, 70, 3, 2), (64, .iastore, 1, 0, 0, 0), (65, .aload_n 0, 1, 0, 0, 0), (66, .getfield 18, 3, 10, 2, 2), (69, .iload 5, 2, 0, 0, 0), (71, .aload_n 0, 1, 0, 0, 0), (72, .getfield 28, 3, 10, 4, 2),
  (75, .iload 5, 2, 0, 0, 0), (77, .invokevirtual 46, 3, 71, 2, 2), (80, .iload 4, 2, 0, 0, 0), (82, .ifCond .eq 13, 3, 95, 0, 0), (85, .aload_n 2, 1, 0, 0, 0), (86, .getfield 50, 3, 1, 3, 2), (89, .iload 5, 2, 0, 0, 0), (91, .iaload, 1, 0, 0, 0),
  (92, .goto 4, 3, 96, 0, 0), (95, .iconst 0, 1, 0, 0, 0), (96, .iadd, 1, 0, 0, 0), (97, .iastore, 1, 0, 0, 0), (98, .iinc 5 1, 3, 0, 0, 0), (101, .goto (-93), 3, 8, 0, 0), (104, .return_, 1, 0, 0, 0)]
/-- SamePassers$Walks.passesOf(I)I -/
def mm_c86 : List (Nat × mm_E) := [(0, .iconst 0, 1, 0, 0, 0), (1, .istore_n 2, 1, 0, 0, 0), (2, .iconst 0, 1, 0, 0, 0), (3, .istore_n 3, 1, 0, 0, 0), (4, .iconst 0, 1, 0, 0, 0), (5, .istore 4, 2, 0, 0, 0), (7, .iload 4, 2, 0, 0, 0), (9, .sipush 600, 3, 0, 0, 0),
  (12, .if_icmp .gt 40, 3, 52, 0, 0), (15, .aload_n 0, 1, 0, 0, 0), (16, .getfield 28, 3, 10, 4, 2), (19, .aload_n 0, 1, 0, 0, 0), (20, .iload_n 1, 1, 0, 0, 0), (21, .iload 4, 2, 0, 0, 0), (23, .invokevirtual 75, 3, 87, 3, 2), (26, .invokevirtual 78, 3, 72, 2, 2),
  (29, .istore 5, 2, 0, 0, 0), (31, .iload 5, 2, 0, 0, 0), (33, .ifCond .eq 10, 3, 43, 0, 0), (36, .iload_n 3, 1, 0, 0, 0), (37, .ifCond .ne 6, 3, 43, 0, 0), (40, .iinc 2 1, 3, 0, 0, 0), (43, .iload 5, 2, 0, 0, 0), (45, .istore_n 3, 1, 0, 0, 0),
  (46, .iinc 4 1, 3, 0, 0, 0), (49, .goto (-42), 3, 7, 0, 0), (52, .iload_n 2, 1, 0, 0, 0), (53, .ireturn, 1, 0, 0, 0)]
/-- SamePassers$Walks.cellOf(II)I -/
def mm_c87 : List (Nat × mm_E) := [(0, .aload_n 0, 1, 0, 0, 0), (1, .iload_n 1, 1, 0, 0, 0), (2, .iload_n 2, 1, 0, 0, 0), (3, .aload_n 0, 1, 0, 0, 0), (4, .getfield 18, 3, 10, 2, 2), (7, .iload_n 1, 1, 0, 0, 0), (8, .iaload, 1, 0, 0, 0), (9, .isub, 1, 0, 0, 0),
  (10, .invokevirtual 53, 3, 88, 3, 2), (13, .ireturn, 1, 0, 0, 0)]
/-- SamePassers$Walks.cellAfter(II)I -/
def mm_c88 : List (Nat × mm_E) := [(0, .aload_n 0, 1, 0, 0, 0), (1, .getfield 28, 3, 10, 4, 2), (4, .getfield 56, 3, 7, 0, 0), (7, .iconst 1, 1, 0, 0, 0), (8, .isub, 1, 0, 0, 0), (9, .istore_n 3, 1, 0, 0, 0), (10, .aload_n 0, 1, 0, 0, 0), (11, .getfield 15, 3, 10, 1, 2),
  (14, .iload_n 1, 1, 0, 0, 0), (15, .iaload, 1, 0, 0, 0), (16, .iconst 1, 1, 0, 0, 0), (17, .if_icmp .ne 7, 3, 24, 0, 0), (20, .iconst 1, 1, 0, 0, 0), (21, .goto 4, 3, 25, 0, 0), (24, .iconst 0, 1, 0, 0, 0), (25, .istore 4, 2, 0, 0, 0),
  (27, .iload 4, 2, 0, 0, 0), (29, .ifCond .eq 12, 3, 41, 0, 0), (32, .aload_n 0, 1, 0, 0, 0), (33, .getfield 9, 3, 10, 0, 2), (36, .iload_n 1, 1, 0, 0, 0), (37, .iaload, 1, 0, 0, 0), (38, .goto 11, 3, 49, 0, 0), (41, .iload_n 3, 1, 0, 0, 0),
  (42, .aload_n 0, 1, 0, 0, 0), (43, .getfield 9, 3, 10, 0, 2), (46, .iload_n 1, 1, 0, 0, 0), (47, .iaload, 1, 0, 0, 0), (48, .isub, 1, 0, 0, 0), (49, .istore 5, 2, 0, 0, 0), (51, .iload_n 2, 1, 0, 0, 0), (52, .ifCond .gt 8, 3, 60, 0, 0),
  (55, .iload 5, 2, 0, 0, 0), (57, .goto 28, 3, 85, 0, 0), (60, .aload_n 0, 1, 0, 0, 0), (61, .aload_n 0, 1, 0, 0, 0), (62, .getfield 28, 3, 10, 4, 2), (65, .getfield 59, 3, 7, 11, 2), (68, .iload_n 1, 1, 0, 0, 0), (69, .aaload, 1, 0, 0, 0),
  (70, .getfield 63, 3, 9, 1, 0), (73, .iload 5, 2, 0, 0, 0), (75, .iload_n 2, 1, 0, 0, 0), (76, .aload_n 0, 1, 0, 0, 0), (77, .getfield 25, 3, 10, 5, 2), (80, .iload_n 1, 1, 0, 0, 0), (81, .iaload, 1, 0, 0, 0), (82, .invokevirtual 68, 3, 89, 5, 2),
  (85, .istore 6, 2, 0, 0, 0), (87, .iload 6, 2, 0, 0, 0), (89, .iconst (-1), 1, 0, 0, 0), (90, .if_icmp .eq 8, 3, 98, 0, 0), (93, .iload 4, 2, 0, 0, 0), (95, .ifCond .eq 8, 3, 103, 0, 0), (98, .iload 6, 2, 0, 0, 0), (100, .goto 7, 3, 107, 0, 0),
  (103, .iload_n 3, 1, 0, 0, 0), (104, .iload 6, 2, 0, 0, 0), (106, .isub, 1, 0, 0, 0), (107, .ireturn, 1, 0, 0, 0)]
/-- SamePassers$Walks.along(IIII)I -/
def mm_c89 : List (Nat × mm_E) := [(0, .aload_n 0, 1, 0, 0, 0), (1, .getfield 28, 3, 10, 4, 2), (4, .getfield 56, 3, 7, 0, 0), (7, .istore 5, 2, 0, 0, 0), (9, .iload 4, 2, 0, 0, 0), (11, .iconst 1, 1, 0, 0, 0), (12, .if_icmp .lt 9, 3, 21, 0, 0), (15, .iload 5, 2, 0, 0, 0),
  (17, .iconst 1, 1, 0, 0, 0), (18, .if_icmp .ge 5, 3, 23, 0, 0), (21, .iconst (-1), 1, 0, 0, 0), (22, .ireturn, 1, 0, 0, 0), (23, .iload_n 2, 1, 0, 0, 0), (24, .iload_n 3, 1, 0, 0, 0), (25, .iload 4, 2, 0, 0, 0), (27, .idiv, 1, 0, 0, 0),
  (28, .iadd, 1, 0, 0, 0), (29, .istore 6, 2, 0, 0, 0), (31, .iload 6, 2, 0, 0, 0), (33, .iload 5, 2, 0, 0, 0), (35, .if_icmp .ge 6, 3, 41, 0, 0), (38, .iload 6, 2, 0, 0, 0), (40, .ireturn, 1, 0, 0, 0), (41, .iload_n 1, 1, 0, 0, 0),
  (42, .iconst 1, 1, 0, 0, 0), (43, .if_icmp .ne 5, 3, 48, 0, 0), (46, .iconst (-1), 1, 0, 0, 0), (47, .ireturn, 1, 0, 0, 0), (48, .iload_n 1, 1, 0, 0, 0), (49, .iconst 2, 1, 0, 0, 0), (50, .if_icmp .ne 34, 3, 84, 0, 0), (53, .iload 6, 2, 0, 0, 0),
  (55, .iconst 2, 1, 0, 0, 0), (56, .iload 5, 2, 0, 0, 0), (58, .imul, 1, 0, 0, 0), (59, .irem, 1, 0, 0, 0), (60, .istore 7, 2, 0, 0, 0), (62, .iload 7, 2, 0, 0, 0), (64, .iload 5, 2, 0, 0, 0), (66, .if_icmp .ge 8, 3, 74, 0, 0),
  (69, .iload 7, 2, 0, 0, 0), (71, .goto 12, 3, 83, 0, 0), (74, .iconst 2, 1, 0, 0, 0), (75, .iload 5, 2, 0, 0, 0), (77, .imul, 1, 0, 0, 0), (78, .iconst 1, 1, 0, 0, 0), (79, .isub, 1, 0, 0, 0), (80, .iload 7, 2, 0, 0, 0),
  (82, .isub, 1, 0, 0, 0), (83, .ireturn, 1, 0, 0, 0), (84, .iload_n 3, 1, 0, 0, 0), (85, .iload 5, 2, 0, 0, 0), (87, .iload_n 2, 1, 0, 0, 0), (88, .isub, 1, 0, 0, 0), (89, .iload 4, 2, 0, 0, 0), (91, .imul, 1, 0, 0, 0),
  (92, .isub, 1, 0, 0, 0), (93, .istore 7, 2, 0, 0, 0), (95, .iload 7, 2, 0, 0, 0), (97, .aload_n 0, 1, 0, 0, 0), (98, .getfield 28, 3, 10, 4, 2), (101, .getfield 72, 3, 7, 5, 0), (104, .iload 5, 2, 0, 0, 0), (106, .iload 4, 2, 0, 0, 0),
  (108, .imul, 1, 0, 0, 0), (109, .iadd, 1, 0, 0, 0), (110, .irem, 1, 0, 0, 0), (111, .aload_n 0, 1, 0, 0, 0), (112, .getfield 28, 3, 10, 4, 2), (115, .getfield 72, 3, 7, 5, 0), (118, .isub, 1, 0, 0, 0), (119, .istore 8, 2, 0, 0, 0),
  (121, .iload 8, 2, 0, 0, 0), (123, .ifCond .ge 7, 3, 130, 0, 0), (126, .iconst (-1), 1, 0, 0, 0), (127, .goto 8, 3, 135, 0, 0), (130, .iload 8, 2, 0, 0, 0), (132, .iload 4, 2, 0, 0, 0), (134, .idiv, 1, 0, 0, 0), (135, .ireturn, 1, 0, 0, 0)]
/-- SamePassers$Walks.knownOf(I)I -/
def mm_c90 : List (Nat × mm_E) := [(0, .aload_n 0, 1, 0, 0, 0), (1, .getfield 28, 3, 10, 4, 2), (4, .iload_n 1, 1, 0, 0, 0), (5, .aload_n 0, 1, 0, 0, 0), (6, .iload_n 1, 1, 0, 0, 0), (7, .invokevirtual 88, 3, 86, 2, 2), (10, .invokevirtual 91, 3, 73, 3, 2), (13, .ireturn, 1, 0, 0, 0)]
/-- SamePassers$Walks.isGood()Z -/
def mm_c91 : List (Nat × mm_E) := [(0, .aload_n 0, 1, 0, 0, 0), (1, .invokevirtual 126, 3, 92, 1, 2), (4, .ifCond .ne 14, 3, 18, 0, 0), (7, .aload_n 0, 1, 0, 0, 0), (8, .invokevirtual 130, 3, 94, 1, 2), (11, .ifCond .ne 7, 3, 18, 0, 0), (14, .iconst 1, 1, 0, 0, 0), (15, .goto 4, 3, 19, 0, 0),
  (18, .iconst 0, 1, 0, 0, 0), (19, .ireturn, 1, 0, 0, 0)]
/-- SamePassers$Walks.missedMusts()I -/
def mm_c92 : List (Nat × mm_E) := [(0, .iconst 0, 1, 0, 0, 0), (1, .istore_n 1, 1, 0, 0, 0), (2, .iconst 0, 1, 0, 0, 0), (3, .istore_n 2, 1, 0, 0, 0), (4, .iload_n 2, 1, 0, 0, 0), (5, .aload_n 0, 1, 0, 0, 0), (6, .getfield 28, 3, 10, 4, 2), (9, .getfield 120, 3, 7, 12, 0),
  (12, .if_icmp .ge 20, 3, 32, 0, 0), (15, .aload_n 0, 1, 0, 0, 0), (16, .iload_n 2, 1, 0, 0, 0), (17, .invokevirtual 123, 3, 93, 2, 2), (20, .ifCond .eq 6, 3, 26, 0, 0), (23, .iinc 1 1, 3, 0, 0, 0), (26, .iinc 2 1, 3, 0, 0, 0), (29, .goto (-25), 3, 4, 0, 0),
  (32, .iload_n 1, 1, 0, 0, 0), (33, .ireturn, 1, 0, 0, 0)]
/-- SamePassers$Walks.offOf(I)I -/
def mm_c93 : List (Nat × mm_E) := [(0, .aload_n 0, 1, 0, 0, 0), (1, .aload_n 0, 1, 0, 0, 0), (2, .getfield 28, 3, 10, 4, 2), (5, .getfield 103, 3, 7, 13, 2), (8, .iload_n 1, 1, 0, 0, 0), (9, .iaload, 1, 0, 0, 0), (10, .aload_n 0, 1, 0, 0, 0), (11, .getfield 28, 3, 10, 4, 2),
  (14, .getfield 106, 3, 7, 9, 2), (17, .aload_n 0, 1, 0, 0, 0), (18, .getfield 28, 3, 10, 4, 2), (21, .getfield 109, 3, 7, 14, 2), (24, .iload_n 1, 1, 0, 0, 0), (25, .iaload, 1, 0, 0, 0), (26, .iaload, 1, 0, 0, 0), (27, .invokevirtual 75, 3, 87, 3, 2),
  (30, .istore_n 2, 1, 0, 0, 0), (31, .iload_n 2, 1, 0, 0, 0), (32, .iconst (-1), 1, 0, 0, 0), (33, .if_icmp .ne 8, 3, 41, 0, 0), (36, .bipush 100, 2, 0, 0, 0), (38, .goto 17, 3, 55, 0, 0), (41, .iload_n 2, 1, 0, 0, 0), (42, .aload_n 0, 1, 0, 0, 0),
  (43, .getfield 28, 3, 10, 4, 2), (46, .getfield 112, 3, 7, 15, 2), (49, .iload_n 1, 1, 0, 0, 0), (50, .iaload, 1, 0, 0, 0), (51, .isub, 1, 0, 0, 0), (52, .invokestatic 115, 3, 0, 0, 12), (55, .ireturn, 1, 0, 0, 0)]
/-- SamePassers$Walks.anyBump()Z -/
def mm_c94 : List (Nat × mm_E) := [(0, .iconst 0, 1, 0, 0, 0), (1, .istore_n 1, 1, 0, 0, 0), (2, .iload_n 1, 1, 0, 0, 0), (3, .sipush 600, 3, 0, 0, 0), (6, .if_icmp .gt 19, 3, 25, 0, 0), (9, .aload_n 0, 1, 0, 0, 0), (10, .iload_n 1, 1, 0, 0, 0), (11, .invokevirtual 94, 3, 95, 2, 2),
  (14, .ifCond .eq 5, 3, 19, 0, 0), (17, .iconst 1, 1, 0, 0, 0), (18, .ireturn, 1, 0, 0, 0), (19, .iinc 1 1, 3, 0, 0, 0), (22, .goto (-20), 3, 2, 0, 0), (25, .iconst 0, 1, 0, 0, 0), (26, .ireturn, 1, 0, 0, 0)]
/-- SamePassers$Walks.bumpsAt(I)Z -/
def mm_c95 : List (Nat × mm_E) := [(0, .aload_n 0, 1, 0, 0, 0), (1, .getfield 21, 3, 10, 3, 2), (4, .lconst 0, 1, 0, 0, 0), (5, .invokestatic 97, 3, 281, 2, 1), (8, .iconst 0, 1, 0, 0, 0), (9, .istore_n 2, 1, 0, 0, 0), (10, .iload_n 2, 1, 0, 0, 0), (11, .aload_n 0, 1, 0, 0, 0),
  (12, .getfield 28, 3, 10, 4, 2), (15, .getfield 32, 3, 7, 10, 0), (18, .if_icmp .ge 73, 3, 91, 0, 0), (21, .aload_n 0, 1, 0, 0, 0), (22, .getfield 28, 3, 10, 4, 2), (25, .getfield 59, 3, 7, 11, 2), (28, .iload_n 2, 1, 0, 0, 0), (29, .aaload, 1, 0, 0, 0),
  (30, .getfield 82, 3, 9, 2, 0), (33, .istore_n 3, 1, 0, 0, 0), (34, .aload_n 0, 1, 0, 0, 0), (35, .iload_n 2, 1, 0, 0, 0), (36, .iload_n 1, 1, 0, 0, 0), (37, .invokevirtual 75, 3, 87, 3, 2), (40, .istore 4, 2, 0, 0, 0), (42, .iload 4, 2, 0, 0, 0),
  (44, .iconst (-1), 1, 0, 0, 0), (45, .if_icmp .ne 7, 3, 52, 0, 0), (48, .lconst 0, 1, 0, 0, 0), (49, .goto 7, 3, 56, 0, 0), (52, .lconst 1, 1, 0, 0, 0), (53, .iload 4, 2, 0, 0, 0), (55, .lshl, 1, 0, 0, 0), (56, .lstore 5, 2, 0, 0, 0),
  (58, .aload_n 0, 1, 0, 0, 0), (59, .getfield 21, 3, 10, 3, 2), (62, .iload_n 3, 1, 0, 0, 0), (63, .laload, 1, 0, 0, 0), (64, .lload 5, 2, 0, 0, 0), (66, .land, 1, 0, 0, 0), (67, .lconst 0, 1, 0, 0, 0), (68, .lcmp, 1, 0, 0, 0),
  (69, .ifCond .eq 5, 3, 74, 0, 0), (72, .iconst 1, 1, 0, 0, 0), (73, .ireturn, 1, 0, 0, 0), (74, .aload_n 0, 1, 0, 0, 0), (75, .getfield 21, 3, 10, 3, 2), (78, .iload_n 3, 1, 0, 0, 0), (79, .dup2, 1, 0, 0, 0), (80, .laload, 1, 0, 0, 0),
  (81, .lload 5, 2, 0, 0, 0), (83, .lor, 1, 0, 0, 0), (84, .lastore, 1, 0, 0, 0), (85, .iinc 2 1, 3, 0, 0, 0), (88, .goto (-78), 3, 10, 0, 0), (91, .iconst 0, 1, 0, 0, 0), (92, .ireturn, 1, 0, 0, 0)]
/-- SamePassers$Walks.sharpness(II)I -/
def mm_c96 : List (Nat × mm_E) := [(0, .aload_n 0, 1, 0, 0, 0), (1, .getfield 28, 3, 10, 4, 2), (4, .aload_n 0, 1, 0, 0, 0), (5, .iload_n 1, 1, 0, 0, 0), (6, .iload_n 2, 1, 0, 0, 0), (7, .invokevirtual 75, 3, 87, 3, 2), (10, .invokevirtual 78, 3, 72, 2, 2), (13, .ifCond .ne 5, 3, 18, 0, 0),
  (16, .iconst 0, 1, 0, 0, 0), (17, .ireturn, 1, 0, 0, 0), (18, .aload_n 0, 1, 0, 0, 0), (19, .getfield 28, 3, 10, 4, 2), (22, .getfield 59, 3, 7, 11, 2), (25, .iload_n 1, 1, 0, 0, 0), (26, .aaload, 1, 0, 0, 0), (27, .getfield 82, 3, 9, 2, 0),
  (30, .aload_n 0, 1, 0, 0, 0), (31, .getfield 28, 3, 10, 4, 2), (34, .getfield 85, 3, 7, 4, 0), (37, .if_icmp .ge 7, 3, 44, 0, 0), (40, .iconst 2, 1, 0, 0, 0), (41, .goto 4, 3, 45, 0, 0), (44, .iconst 1, 1, 0, 0, 0), (45, .ireturn, 1, 0, 0, 0)]
/-- SamePassers$Walks.firstBump(II)I -/
def mm_c97 : List (Nat × mm_E) := [(0, .aload_n 0, 1, 0, 0, 0), (1, .getfield 28, 3, 10, 4, 2), (4, .getfield 59, 3, 7, 11, 2), (7, .iload_n 1, 1, 0, 0, 0), (8, .aaload, 1, 0, 0, 0), (9, .getfield 82, 3, 9, 2, 0), (12, .aload_n 0, 1, 0, 0, 0), (13, .getfield 28, 3, 10, 4, 2),
  (16, .getfield 59, 3, 7, 11, 2), (19, .iload_n 2, 1, 0, 0, 0), (20, .aaload, 1, 0, 0, 0), (21, .getfield 82, 3, 9, 2, 0), (24, .if_icmp .eq 5, 3, 29, 0, 0), (27, .iconst (-1), 1, 0, 0, 0), (28, .ireturn, 1, 0, 0, 0), (29, .iconst 0, 1, 0, 0, 0),
  (30, .istore_n 3, 1, 0, 0, 0), (31, .iload_n 3, 1, 0, 0, 0), (32, .sipush 600, 3, 0, 0, 0), (35, .if_icmp .gt 36, 3, 71, 0, 0), (38, .aload_n 0, 1, 0, 0, 0), (39, .iload_n 1, 1, 0, 0, 0), (40, .iload_n 3, 1, 0, 0, 0), (41, .invokevirtual 75, 3, 87, 3, 2),
  (44, .istore 4, 2, 0, 0, 0), (46, .iload 4, 2, 0, 0, 0), (48, .iconst (-1), 1, 0, 0, 0), (49, .if_icmp .eq 16, 3, 65, 0, 0), (52, .iload 4, 2, 0, 0, 0), (54, .aload_n 0, 1, 0, 0, 0), (55, .iload_n 2, 1, 0, 0, 0), (56, .iload_n 3, 1, 0, 0, 0),
  (57, .invokevirtual 75, 3, 87, 3, 2), (60, .if_icmp .ne 5, 3, 65, 0, 0), (63, .iload_n 3, 1, 0, 0, 0), (64, .ireturn, 1, 0, 0, 0), (65, .iinc 3 1, 3, 0, 0, 0), (68, .goto (-37), 3, 31, 0, 0), (71, .iconst (-1), 1, 0, 0, 0), (72, .ireturn, 1, 0, 0, 0)]
/-- SamePassers$Walks.seenCell(II)I -/
def mm_c98 : List (Nat × mm_E) := [(0, .aload_n 0, 1, 0, 0, 0), (1, .iload_n 1, 1, 0, 0, 0), (2, .iload_n 2, 1, 0, 0, 0), (3, .invokevirtual 75, 3, 87, 3, 2), (6, .istore_n 3, 1, 0, 0, 0), (7, .aload_n 0, 1, 0, 0, 0), (8, .getfield 28, 3, 10, 4, 2), (11, .iload_n 3, 1, 0, 0, 0),
  (12, .invokevirtual 78, 3, 72, 2, 2), (15, .ifCond .eq 7, 3, 22, 0, 0), (18, .iload_n 3, 1, 0, 0, 0), (19, .goto 4, 3, 23, 0, 0), (22, .iconst (-1), 1, 0, 0, 0), (23, .ireturn, 1, 0, 0, 0)]
/-- SamePassers.<init>()V -/
def mm_c99 : List (Nat × mm_E) := [(0, .aload_n 0, 1, 0, 0, 0), (1, .invokespecial 1, 3, 0, 0, 4), (4, .aload_n 0, 1, 0, 0, 0), (5, .new 7, 3, 8, 0, 0), (8, .dup, 1, 0, 0, 0), (9, .invokespecial 9, 3, 75, 1, 3), (12, .putfield 10, 3, 11, 0, 2), (15, .aload_n 0, 1, 0, 0, 0),
  (16, .new 16, 3, 7, 0, 0), (19, .dup, 1, 0, 0, 0), (20, .invokespecial 18, 3, 64, 1, 3), (23, .putfield 19, 3, 11, 1, 2), (26, .aload_n 0, 1, 0, 0, 0), (27, .new 16, 3, 7, 0, 0), (30, .dup, 1, 0, 0, 0), (31, .invokespecial 18, 3, 64, 1, 3),
  (34, .putfield 23, 3, 11, 2, 2), (37, .aload_n 0, 1, 0, 0, 0), (38, .new 26, 3, 6, 0, 0), (41, .dup, 1, 0, 0, 0), (42, .invokespecial 28, 3, 61, 1, 5), (45, .putfield 29, 3, 11, 3, 2), (48, .aload_n 0, 1, 0, 0, 0), (49, .new 26, 3, 6, 0, 0),
  (52, .dup, 1, 0, 0, 0), (53, .invokespecial 28, 3, 61, 1, 5), (56, .putfield 33, 3, 11, 4, 2), (59, .aload_n 0, 1, 0, 0, 0), (60, .new 36, 3, 5, 0, 0), (63, .dup, 1, 0, 0, 0), (64, .aload_n 0, 1, 0, 0, 0), (65, .getfield 10, 3, 11, 0, 2),
  (68, .aload_n 0, 1, 0, 0, 0), (69, .getfield 23, 3, 11, 2, 2), (72, .aload_n 0, 1, 0, 0, 0), (73, .getfield 33, 3, 11, 4, 2), (76, .invokespecial 38, 3, 35, 4, 3), (79, .putfield 41, 3, 11, 5, 2), (82, .aload_n 0, 1, 0, 0, 0), (83, .new 45, 3, 1, 0, 0),
  (86, .dup, 1, 0, 0, 0), (87, .invokespecial 47, 3, 9, 1, 5), (90, .putfield 48, 3, 11, 6, 2), (93, .aload_n 0, 1, 0, 0, 0), (94, .new 45, 3, 1, 0, 0), (97, .dup, 1, 0, 0, 0), (98, .invokespecial 47, 3, 9, 1, 5), (101, .putfield 52, 3, 11, 7, 2),
  (104, .aload_n 0, 1, 0, 0, 0), (105, .new 55, 3, 4, 0, 0), (108, .dup, 1, 0, 0, 0), (109, .invokespecial 57, 3, 28, 1, 5), (112, .putfield 58, 3, 11, 8, 2), (115, .aload_n 0, 1, 0, 0, 0), (116, .bipush 16, 2, 0, 0, 0), (118, .anewarray 45, 3, 24, 0, 0),
  (121, .putfield 62, 3, 11, 9, 2), (124, .aload_n 0, 1, 0, 0, 0), (125, .iconst 4, 1, 0, 0, 0), (126, .anewarray 45, 3, 24, 0, 0), (129, .putfield 66, 3, 11, 12, 2), (132, .aload_n 0, 1, 0, 0, 0), (133, .iconst 4, 1, 0, 0, 0), (134, .anewarray 55, 3, 25, 0, 0),
  (137, .putfield 69, 3, 11, 13, 2), (140, .aload_n 0, 1, 0, 0, 0), (141, .new 73, 3, 10, 0, 0), (144, .dup, 1, 0, 0, 0), (145, .aload_n 0, 1, 0, 0, 0), (146, .getfield 19, 3, 11, 1, 2), (149, .invokespecial 75, 3, 84, 2, 3), (152, .putfield 78, 3, 11, 15, 2),
  (155, .aload_n 0, 1, 0, 0, 0), (156, .new 73, 3, 10, 0, 0), (159, .dup, 1, 0, 0, 0), (160, .aload_n 0, 1, 0, 0, 0), (161, .getfield 19, 3, 11, 1, 2), (164, .invokespecial 75, 3, 84, 2, 3), (167, .putfield 82, 3, 11, 16, 2), (170, .aload_n 0, 1, 0, 0, 0),
  (171, .new 85, 3, 2, 0, 0), (174, .dup, 1, 0, 0, 0), (175, .aload_n 0, 1, 0, 0, 0), (176, .getfield 19, 3, 11, 1, 2), (179, .invokespecial 87, 3, 13, 2, 3), (182, .putfield 88, 3, 11, 17, 2), (185, .aload_n 0, 1, 0, 0, 0), (186, .new 92, 3, 0, 0, 0),
  (189, .dup, 1, 0, 0, 0), (190, .invokespecial 94, 3, 0, 1, 5), (193, .putfield 95, 3, 11, 18, 2), (196, .iconst 0, 1, 0, 0, 0), (197, .istore_n 1, 1, 0, 0, 0), (198, .iload_n 1, 1, 0, 0, 0), (199, .bipush 16, 2, 0, 0, 0), (201, .if_icmp .ge 22, 3, 223, 0, 0),
  (204, .aload_n 0, 1, 0, 0, 0), (205, .getfield 62, 3, 11, 9, 2), (208, .iload_n 1, 1, 0, 0, 0), (209, .new 45, 3, 1, 0, 0), (212, .dup, 1, 0, 0, 0), (213, .invokespecial 47, 3, 9, 1, 5), (216, .aastore, 1, 0, 0, 0), (217, .iinc 1 1, 3, 0, 0, 0),
  (220, .goto (-22), 3, 198, 0, 0), (223, .iconst 0, 1, 0, 0, 0), (224, .istore_n 1, 1, 0, 0, 0), (225, .iload_n 1, 1, 0, 0, 0), (226, .iconst 4, 1, 0, 0, 0), (227, .if_icmp .ge 35, 3, 262, 0, 0), (230, .aload_n 0, 1, 0, 0, 0), (231, .getfield 66, 3, 11, 12, 2),
  (234, .iload_n 1, 1, 0, 0, 0), (235, .new 45, 3, 1, 0, 0), (238, .dup, 1, 0, 0, 0), (239, .invokespecial 47, 3, 9, 1, 5), (242, .aastore, 1, 0, 0, 0), (243, .aload_n 0, 1, 0, 0, 0), (244, .getfield 69, 3, 11, 13, 2), (247, .iload_n 1, 1, 0, 0, 0),
  (248, .new 55, 3, 4, 0, 0), (251, .dup, 1, 0, 0, 0), (252, .invokespecial 57, 3, 28, 1, 5), (255, .aastore, 1, 0, 0, 0), (256, .iinc 1 1, 3, 0, 0, 0), (259, .goto (-34), 3, 225, 0, 0), (262, .return_, 1, 0, 0, 0)]
/-- SamePassers.feed(JJJ)I -/
def mm_c100 : List (Nat × mm_E) := [(0, .aload_n 0, 1, 0, 0, 0), (1, .getfield 10, 3, 11, 0, 2), (4, .lload_n 1, 1, 0, 0, 0), (5, .invokevirtual 99, 3, 77, 2, 2), (8, .aload_n 0, 1, 0, 0, 0), (9, .getfield 10, 3, 11, 0, 2), (12, .lload_n 3, 1, 0, 0, 0), (13, .invokevirtual 99, 3, 77, 2, 2),
  (16, .aload_n 0, 1, 0, 0, 0), (17, .getfield 10, 3, 11, 0, 2), (20, .lload 5, 2, 0, 0, 0), (22, .invokevirtual 99, 3, 77, 2, 2), (25, .aload_n 0, 1, 0, 0, 0), (26, .getfield 10, 3, 11, 0, 2), (29, .getfield 103, 3, 8, 3, 0), (32, .ireturn, 1, 0, 0, 0)]
/-- SamePassers.street()I -/
def mm_c101 : List (Nat × mm_E) := [(0, .aload_n 0, 1, 0, 0, 0), (1, .getfield 41, 3, 11, 5, 2), (4, .aload_n 0, 1, 0, 0, 0), (5, .getfield 23, 3, 11, 2, 2), (8, .invokevirtual 107, 3, 36, 2, 2), (11, .istore_n 1, 1, 0, 0, 0), (12, .iload_n 1, 1, 0, 0, 0), (13, .ifCond .ne 25, 3, 38, 0, 0),
  (16, .aload_n 0, 1, 0, 0, 0), (17, .getfield 19, 3, 11, 1, 2), (20, .astore_n 2, 1, 0, 0, 0), (21, .aload_n 0, 1, 0, 0, 0), (22, .aload_n 0, 1, 0, 0, 0), (23, .getfield 23, 3, 11, 2, 2), (26, .putfield 19, 3, 11, 1, 2), (29, .aload_n 0, 1, 0, 0, 0),
  (30, .aload_n 2, 1, 0, 0, 0), (31, .putfield 23, 3, 11, 2, 2), (34, .aload_n 0, 1, 0, 0, 0), (35, .invokevirtual 111, 3, 102, 1, 2), (38, .iload_n 1, 1, 0, 0, 0), (39, .ireturn, 1, 0, 0, 0)]
/-- SamePassers.beginStreet()V -/
def mm_c102 : List (Nat × mm_E) := [(0, .aload_n 0, 1, 0, 0, 0), (1, .getfield 48, 3, 11, 6, 2), (4, .aload_n 0, 1, 0, 0, 0), (5, .getfield 19, 3, 11, 1, 2), (8, .invokevirtual 191, 3, 10, 2, 2), (11, .aload_n 0, 1, 0, 0, 0), (12, .getfield 29, 3, 11, 3, 2), (15, .iconst 0, 1, 0, 0, 0),
  (16, .putfield 194, 3, 6, 0, 0), (19, .aload_n 0, 1, 0, 0, 0), (20, .getfield 58, 3, 11, 8, 2), (23, .iconst 0, 1, 0, 0, 0), (24, .putfield 387, 3, 4, 0, 0), (27, .aload_n 0, 1, 0, 0, 0), (28, .getfield 58, 3, 11, 8, 2), (31, .iconst 0, 1, 0, 0, 0),
  (32, .putfield 351, 3, 4, 3, 0), (35, .aload_n 0, 1, 0, 0, 0), (36, .iconst 0, 1, 0, 0, 0), (37, .putfield 372, 3, 11, 14, 0), (40, .aload_n 0, 1, 0, 0, 0), (41, .invokevirtual 378, 3, 103, 1, 2), (44, .aload_n 0, 1, 0, 0, 0), (45, .invokevirtual 172, 3, 104, 1, 2),
  (48, .return_, 1, 0, 0, 0)]
/-- SamePassers.forgetPast()V -/
def mm_c103 : List (Nat × mm_E) := [(0, .aload_n 0, 1, 0, 0, 0), (1, .iconst 0, 1, 0, 0, 0), (2, .putfield 181, 3, 11, 10, 0), (5, .aload_n 0, 1, 0, 0, 0), (6, .iconst 0, 1, 0, 0, 0), (7, .putfield 184, 3, 11, 11, 0), (10, .return_, 1, 0, 0, 0)]
/-- SamePassers.setNow()V -/
def mm_c104 : List (Nat × mm_E) := [(0, .aload_n 0, 1, 0, 0, 0), (1, .getfield 78, 3, 11, 15, 2), (4, .aload_n 0, 1, 0, 0, 0), (5, .getfield 19, 3, 11, 1, 2), (8, .aload_n 0, 1, 0, 0, 0), (9, .getfield 48, 3, 11, 6, 2), (12, .aload_n 0, 1, 0, 0, 0), (13, .getfield 48, 3, 11, 6, 2),
  (16, .getfield 175, 3, 1, 0, 0), (19, .iconst 1, 1, 0, 0, 0), (20, .invokevirtual 200, 3, 85, 5, 2), (23, .return_, 1, 0, 0, 0)]
/-- SamePassers.takes()I -/
def mm_c105 : List (Nat × mm_E) := [(0, .aload_n 0, 1, 0, 0, 0), (1, .getfield 41, 3, 11, 5, 2), (4, .aload_n 0, 1, 0, 0, 0), (5, .getfield 19, 3, 11, 1, 2), (8, .aload_n 0, 1, 0, 0, 0), (9, .getfield 33, 3, 11, 4, 2), (12, .invokevirtual 114, 3, 59, 3, 2), (15, .istore_n 1, 1, 0, 0, 0),
  (16, .iload_n 1, 1, 0, 0, 0), (17, .ifCond .ne 21, 3, 38, 0, 0), (20, .aload_n 0, 1, 0, 0, 0), (21, .getfield 29, 3, 11, 3, 2), (24, .astore_n 2, 1, 0, 0, 0), (25, .aload_n 0, 1, 0, 0, 0), (26, .aload_n 0, 1, 0, 0, 0), (27, .getfield 33, 3, 11, 4, 2),
  (30, .putfield 29, 3, 11, 3, 2), (33, .aload_n 0, 1, 0, 0, 0), (34, .aload_n 2, 1, 0, 0, 0), (35, .putfield 33, 3, 11, 4, 2), (38, .iload_n 1, 1, 0, 0, 0), (39, .ireturn, 1, 0, 0, 0)]
/-- SamePassers.walker(II)I -/
def mm_c106 : List (Nat × mm_E) := [(0, .aload_n 0, 1, 0, 0, 0), (1, .iload_n 1, 1, 0, 0, 0), (2, .invokevirtual 118, 3, 107, 2, 2), (5, .ifCond .ne 5, 3, 10, 0, 0), (8, .iconst (-1), 1, 0, 0, 0), (9, .ireturn, 1, 0, 0, 0), (10, .aload_n 0, 1, 0, 0, 0), (11, .getfield 19, 3, 11, 1, 2),
  (14, .getfield 122, 3, 7, 11, 2), (17, .iload_n 1, 1, 0, 0, 0), (18, .aaload, 1, 0, 0, 0), (19, .astore_n 3, 1, 0, 0, 0), (20, .iload_n 2, 1, 0, 0, 0), (21, .tableswitch 133 0 9 #[55, 60, 65, 75, 85, 95, 100, 105, 115, 124], 55, 0, 0, 0), (76, .aload_n 3, 1, 0, 0, 0), (77, .getfield 126, 3, 9, 1, 0),
  (80, .ireturn, 1, 0, 0, 0), (81, .aload_n 3, 1, 0, 0, 0), (82, .getfield 131, 3, 9, 2, 0), (85, .ireturn, 1, 0, 0, 0), (86, .aload_n 0, 1, 0, 0, 0), (87, .getfield 48, 3, 11, 6, 2), (90, .getfield 134, 3, 1, 1, 2), (93, .iload_n 1, 1, 0, 0, 0),
  (94, .iaload, 1, 0, 0, 0), (95, .ireturn, 1, 0, 0, 0), (96, .aload_n 0, 1, 0, 0, 0), (97, .getfield 48, 3, 11, 6, 2), (100, .getfield 138, 3, 1, 2, 2), (103, .iload_n 1, 1, 0, 0, 0), (104, .iaload, 1, 0, 0, 0), (105, .ireturn, 1, 0, 0, 0),
  (106, .aload_n 0, 1, 0, 0, 0), (107, .getfield 78, 3, 11, 15, 2), (110, .getfield 141, 3, 10, 5, 2), (113, .iload_n 1, 1, 0, 0, 0), (114, .iaload, 1, 0, 0, 0), (115, .ireturn, 1, 0, 0, 0), (116, .aload_n 3, 1, 0, 0, 0), (117, .getfield 144, 3, 9, 6, 0),
  (120, .ireturn, 1, 0, 0, 0), (121, .aload_n 3, 1, 0, 0, 0), (122, .getfield 147, 3, 9, 7, 0), (125, .ireturn, 1, 0, 0, 0), (126, .aload_n 0, 1, 0, 0, 0), (127, .getfield 48, 3, 11, 6, 2), (130, .getfield 150, 3, 1, 3, 2), (133, .iload_n 1, 1, 0, 0, 0),
  (134, .iaload, 1, 0, 0, 0), (135, .ireturn, 1, 0, 0, 0), (136, .aload_n 0, 1, 0, 0, 0), (137, .getfield 78, 3, 11, 15, 2), (140, .iload_n 1, 1, 0, 0, 0), (141, .invokevirtual 153, 3, 86, 2, 2), (144, .ireturn, 1, 0, 0, 0), (145, .aload_n 0, 1, 0, 0, 0),
  (146, .getfield 78, 3, 11, 15, 2), (149, .iload_n 1, 1, 0, 0, 0), (150, .invokevirtual 157, 3, 90, 2, 2), (153, .ireturn, 1, 0, 0, 0), (154, .iconst (-1), 1, 0, 0, 0), (155, .ireturn, 1, 0, 0, 0)]
/-- SamePassers.isWalker(I)Z -/
def mm_c107 : List (Nat × mm_E) := [(0, .iload_n 1, 1, 0, 0, 0), (1, .ifCond .lt 18, 3, 19, 0, 0), (4, .iload_n 1, 1, 0, 0, 0), (5, .aload_n 0, 1, 0, 0, 0), (6, .getfield 19, 3, 11, 1, 2), (9, .getfield 233, 3, 7, 10, 0), (12, .if_icmp .ge 7, 3, 19, 0, 0), (15, .iconst 1, 1, 0, 0, 0),
  (16, .goto 4, 3, 20, 0, 0), (19, .iconst 0, 1, 0, 0, 0), (20, .ireturn, 1, 0, 0, 0)]
/-- SamePassers.tenth(I)I -/
def mm_c108 : List (Nat × mm_E) := [(0, .aload_n 0, 1, 0, 0, 0), (1, .iload_n 1, 1, 0, 0, 0), (2, .invokevirtual 160, 3, 109, 2, 2), (5, .ifCond .eq 15, 3, 20, 0, 0), (8, .aload_n 0, 1, 0, 0, 0), (9, .getfield 19, 3, 11, 1, 2), (12, .getfield 163, 3, 7, 9, 2), (15, .iload_n 1, 1, 0, 0, 0),
  (16, .iaload, 1, 0, 0, 0), (17, .goto 4, 3, 21, 0, 0), (20, .iconst (-1), 1, 0, 0, 0), (21, .ireturn, 1, 0, 0, 0)]
/-- SamePassers.isWord(I)Z -/
def mm_c109 : List (Nat × mm_E) := [(0, .iload_n 1, 1, 0, 0, 0), (1, .ifCond .lt 18, 3, 19, 0, 0), (4, .iload_n 1, 1, 0, 0, 0), (5, .aload_n 0, 1, 0, 0, 0), (6, .getfield 19, 3, 11, 1, 2), (9, .getfield 285, 3, 7, 7, 0), (12, .if_icmp .ge 7, 3, 19, 0, 0), (15, .iconst 1, 1, 0, 0, 0),
  (16, .goto 4, 3, 20, 0, 0), (19, .iconst 0, 1, 0, 0, 0), (20, .ireturn, 1, 0, 0, 0)]
/-- SamePassers.start(II)Z -/
def mm_c110 : List (Nat × mm_E) := [(0, .aload_n 0, 1, 0, 0, 0), (1, .iload_n 1, 1, 0, 0, 0), (2, .invokevirtual 118, 3, 107, 2, 2), (5, .ifCond .eq 11, 3, 16, 0, 0), (8, .aload_n 0, 1, 0, 0, 0), (9, .iload_n 2, 1, 0, 0, 0), (10, .invokevirtual 166, 3, 111, 2, 2), (13, .ifCond .ne 5, 3, 18, 0, 0),
  (16, .iconst 0, 1, 0, 0, 0), (17, .ireturn, 1, 0, 0, 0), (18, .aload_n 0, 1, 0, 0, 0), (19, .invokevirtual 169, 3, 112, 1, 2), (22, .aload_n 0, 1, 0, 0, 0), (23, .getfield 48, 3, 11, 6, 2), (26, .getfield 134, 3, 1, 1, 2), (29, .iload_n 1, 1, 0, 0, 0),
  (30, .iload_n 2, 1, 0, 0, 0), (31, .iastore, 1, 0, 0, 0), (32, .aload_n 0, 1, 0, 0, 0), (33, .invokevirtual 172, 3, 104, 1, 2), (36, .iconst 1, 1, 0, 0, 0), (37, .ireturn, 1, 0, 0, 0)]
/-- SamePassers.isCell(I)Z -/
def mm_c111 : List (Nat × mm_E) := [(0, .iload_n 1, 1, 0, 0, 0), (1, .ifCond .lt 18, 3, 19, 0, 0), (4, .iload_n 1, 1, 0, 0, 0), (5, .aload_n 0, 1, 0, 0, 0), (6, .getfield 19, 3, 11, 1, 2), (9, .getfield 381, 3, 7, 0, 0), (12, .if_icmp .ge 7, 3, 19, 0, 0), (15, .iconst 1, 1, 0, 0, 0),
  (16, .goto 4, 3, 20, 0, 0), (19, .iconst 0, 1, 0, 0, 0), (20, .ireturn, 1, 0, 0, 0)]
/-- SamePassers.remember()V -/
def mm_c112 : List (Nat × mm_E) := [(0, .aload_n 0, 1, 0, 0, 0), (1, .getfield 62, 3, 11, 9, 2), (4, .aload_n 0, 1, 0, 0, 0), (5, .getfield 184, 3, 11, 11, 0), (8, .aaload, 1, 0, 0, 0), (9, .aload_n 0, 1, 0, 0, 0), (10, .getfield 48, 3, 11, 6, 2), (13, .invokevirtual 187, 3, 11, 2, 2),
  (16, .aload_n 0, 1, 0, 0, 0), (17, .aload_n 0, 1, 0, 0, 0), (18, .getfield 184, 3, 11, 11, 0), (21, .bipush 15, 2, 0, 0, 0), (23, .if_icmp .ge 12, 3, 35, 0, 0), (26, .aload_n 0, 1, 0, 0, 0), (27, .getfield 184, 3, 11, 11, 0), (30, .iconst 1, 1, 0, 0, 0),
  (31, .iadd, 1, 0, 0, 0), (32, .goto 4, 3, 36, 0, 0), (35, .iconst 0, 1, 0, 0, 0), (36, .putfield 184, 3, 11, 11, 0), (39, .aload_n 0, 1, 0, 0, 0), (40, .aload_n 0, 1, 0, 0, 0), (41, .getfield 181, 3, 11, 10, 0), (44, .iconst 1, 1, 0, 0, 0),
  (45, .iadd, 1, 0, 0, 0), (46, .bipush 16, 2, 0, 0, 0), (48, .invokestatic 390, 3, 0, 0, 11), (51, .putfield 181, 3, 11, 10, 0), (54, .return_, 1, 0, 0, 0)]
/-- SamePassers.turn(I)Z -/
def mm_c113 : List (Nat × mm_E) := [(0, .aload_n 0, 1, 0, 0, 0), (1, .iload_n 1, 1, 0, 0, 0), (2, .invokevirtual 118, 3, 107, 2, 2), (5, .ifCond .ne 5, 3, 10, 0, 0), (8, .iconst 0, 1, 0, 0, 0), (9, .ireturn, 1, 0, 0, 0), (10, .aload_n 0, 1, 0, 0, 0), (11, .invokevirtual 169, 3, 112, 1, 2),
  (14, .aload_n 0, 1, 0, 0, 0), (15, .getfield 48, 3, 11, 6, 2), (18, .getfield 138, 3, 1, 2, 2), (21, .iload_n 1, 1, 0, 0, 0), (22, .iconst 1, 1, 0, 0, 0), (23, .aload_n 0, 1, 0, 0, 0), (24, .getfield 48, 3, 11, 6, 2), (27, .getfield 138, 3, 1, 2, 2),
  (30, .iload_n 1, 1, 0, 0, 0), (31, .iaload, 1, 0, 0, 0), (32, .isub, 1, 0, 0, 0), (33, .iastore, 1, 0, 0, 0), (34, .aload_n 0, 1, 0, 0, 0), (35, .invokevirtual 172, 3, 104, 1, 2), (38, .iconst 1, 1, 0, 0, 0), (39, .ireturn, 1, 0, 0, 0)]
/-- SamePassers.late(II)Z -/
def mm_c114 : List (Nat × mm_E) := [(0, .aload_n 0, 1, 0, 0, 0), (1, .iload_n 1, 1, 0, 0, 0), (2, .invokevirtual 118, 3, 107, 2, 2), (5, .ifCond .eq 13, 3, 18, 0, 0), (8, .iload_n 2, 1, 0, 0, 0), (9, .ifCond .lt 9, 3, 18, 0, 0), (12, .iload_n 2, 1, 0, 0, 0), (13, .bipush 99, 2, 0, 0, 0),
  (15, .if_icmp .le 5, 3, 20, 0, 0), (18, .iconst 0, 1, 0, 0, 0), (19, .ireturn, 1, 0, 0, 0), (20, .aload_n 0, 1, 0, 0, 0), (21, .invokevirtual 169, 3, 112, 1, 2), (24, .aload_n 0, 1, 0, 0, 0), (25, .getfield 48, 3, 11, 6, 2), (28, .getfield 150, 3, 1, 3, 2),
  (31, .iload_n 1, 1, 0, 0, 0), (32, .iload_n 2, 1, 0, 0, 0), (33, .iastore, 1, 0, 0, 0), (34, .aload_n 0, 1, 0, 0, 0), (35, .invokevirtual 172, 3, 104, 1, 2), (38, .iconst 1, 1, 0, 0, 0), (39, .ireturn, 1, 0, 0, 0)]
/-- SamePassers.take()I -/
def mm_c115 : List (Nat × mm_E) := [(0, .aload_n 0, 1, 0, 0, 0), (1, .getfield 48, 3, 11, 6, 2), (4, .getfield 175, 3, 1, 0, 0), (7, .bipush 60, 2, 0, 0, 0), (9, .if_icmp .lt 5, 3, 14, 0, 0), (12, .iconst (-1), 1, 0, 0, 0), (13, .ireturn, 1, 0, 0, 0), (14, .aload_n 0, 1, 0, 0, 0),
  (15, .invokevirtual 169, 3, 112, 1, 2), (18, .aload_n 0, 1, 0, 0, 0), (19, .getfield 48, 3, 11, 6, 2), (22, .invokevirtual 178, 3, 12, 1, 2), (25, .aload_n 0, 1, 0, 0, 0), (26, .invokevirtual 172, 3, 104, 1, 2), (29, .aload_n 0, 1, 0, 0, 0), (30, .getfield 48, 3, 11, 6, 2),
  (33, .getfield 175, 3, 1, 0, 0), (36, .ireturn, 1, 0, 0, 0)]
/-- SamePassers.undo()Z -/
def mm_c116 : List (Nat × mm_E) := [(0, .aload_n 0, 1, 0, 0, 0), (1, .getfield 181, 3, 11, 10, 0), (4, .ifCond .gt 5, 3, 9, 0, 0), (7, .iconst 0, 1, 0, 0, 0), (8, .ireturn, 1, 0, 0, 0), (9, .aload_n 0, 1, 0, 0, 0), (10, .dup, 1, 0, 0, 0), (11, .getfield 181, 3, 11, 10, 0),
  (14, .iconst 1, 1, 0, 0, 0), (15, .isub, 1, 0, 0, 0), (16, .putfield 181, 3, 11, 10, 0), (19, .aload_n 0, 1, 0, 0, 0), (20, .aload_n 0, 1, 0, 0, 0), (21, .getfield 184, 3, 11, 11, 0), (24, .ifCond .le 12, 3, 36, 0, 0), (27, .aload_n 0, 1, 0, 0, 0),
  (28, .getfield 184, 3, 11, 11, 0), (31, .iconst 1, 1, 0, 0, 0), (32, .isub, 1, 0, 0, 0), (33, .goto 5, 3, 38, 0, 0), (36, .bipush 15, 2, 0, 0, 0), (38, .putfield 184, 3, 11, 11, 0), (41, .aload_n 0, 1, 0, 0, 0), (42, .getfield 48, 3, 11, 6, 2),
  (45, .aload_n 0, 1, 0, 0, 0), (46, .getfield 62, 3, 11, 9, 2), (49, .aload_n 0, 1, 0, 0, 0), (50, .getfield 184, 3, 11, 11, 0), (53, .aaload, 1, 0, 0, 0), (54, .invokevirtual 187, 3, 11, 2, 2), (57, .aload_n 0, 1, 0, 0, 0), (58, .invokevirtual 172, 3, 104, 1, 2),
  (61, .iconst 1, 1, 0, 0, 0), (62, .ireturn, 1, 0, 0, 0)]
/-- SamePassers.judged(I)I -/
def mm_c117 : List (Nat × mm_E) := [(0, .iload_n 1, 1, 0, 0, 0), (1, .ifCond .lt 8, 3, 9, 0, 0), (4, .iload_n 1, 1, 0, 0, 0), (5, .iconst 2, 1, 0, 0, 0), (6, .if_icmp .le 6, 3, 12, 0, 0), (9, .bipush (-2), 2, 0, 0, 0), (11, .ireturn, 1, 0, 0, 0), (12, .aload_n 0, 1, 0, 0, 0),
  (13, .getfield 52, 3, 11, 7, 2), (16, .aload_n 0, 1, 0, 0, 0), (17, .getfield 19, 3, 11, 1, 2), (20, .invokevirtual 191, 3, 10, 2, 2), (23, .iconst (-1), 1, 0, 0, 0), (24, .istore_n 2, 1, 0, 0, 0), (25, .iconst 0, 1, 0, 0, 0), (26, .istore_n 3, 1, 0, 0, 0),
  (27, .iconst 0, 1, 0, 0, 0), (28, .istore 4, 2, 0, 0, 0), (30, .iload 4, 2, 0, 0, 0), (32, .aload_n 0, 1, 0, 0, 0), (33, .getfield 29, 3, 11, 3, 2), (36, .getfield 194, 3, 6, 0, 0), (39, .if_icmp .ge 84, 3, 123, 0, 0), (42, .aload_n 0, 1, 0, 0, 0),
  (43, .getfield 29, 3, 11, 3, 2), (46, .getfield 197, 3, 6, 1, 2), (49, .iload 4, 2, 0, 0, 0), (51, .iaload, 1, 0, 0, 0), (52, .bipush 20, 2, 0, 0, 0), (54, .if_icmp .ne 50, 3, 104, 0, 0), (57, .aload_n 0, 1, 0, 0, 0), (58, .getfield 82, 3, 11, 16, 2),
  (61, .aload_n 0, 1, 0, 0, 0), (62, .getfield 19, 3, 11, 1, 2), (65, .aload_n 0, 1, 0, 0, 0), (66, .getfield 52, 3, 11, 7, 2), (69, .aload_n 0, 1, 0, 0, 0), (70, .getfield 52, 3, 11, 7, 2), (73, .getfield 175, 3, 1, 0, 0), (76, .iconst 1, 1, 0, 0, 0),
  (77, .invokevirtual 200, 3, 85, 5, 2), (80, .aload_n 0, 1, 0, 0, 0), (81, .getfield 82, 3, 11, 16, 2), (84, .invokevirtual 204, 3, 91, 1, 2), (87, .ifCond .eq 9, 3, 96, 0, 0), (90, .iinc 3 1, 3, 0, 0, 0), (93, .goto 11, 3, 104, 0, 0), (96, .iload_n 2, 1, 0, 0, 0),
  (97, .iconst (-1), 1, 0, 0, 0), (98, .if_icmp .ne 6, 3, 104, 0, 0), (101, .iload 4, 2, 0, 0, 0), (103, .istore_n 2, 1, 0, 0, 0), (104, .aload_n 0, 1, 0, 0, 0), (105, .getfield 29, 3, 11, 3, 2), (108, .iload 4, 2, 0, 0, 0), (110, .aload_n 0, 1, 0, 0, 0),
  (111, .getfield 52, 3, 11, 7, 2), (114, .invokevirtual 208, 3, 63, 3, 2), (117, .iinc 4 1, 3, 0, 0, 0), (120, .goto (-90), 3, 30, 0, 0), (123, .iload_n 1, 1, 0, 0, 0), (124, .ifCond .ne 7, 3, 131, 0, 0), (127, .iload_n 2, 1, 0, 0, 0), (128, .goto 19, 3, 147, 0, 0),
  (131, .iload_n 1, 1, 0, 0, 0), (132, .iconst 1, 1, 0, 0, 0), (133, .if_icmp .ne 7, 3, 140, 0, 0), (136, .iload_n 3, 1, 0, 0, 0), (137, .goto 10, 3, 147, 0, 0), (140, .aload_n 0, 1, 0, 0, 0), (141, .getfield 52, 3, 11, 7, 2), (144, .getfield 175, 3, 1, 0, 0),
  (147, .ireturn, 1, 0, 0, 0)]
/-- SamePassers.where(II)I -/
def mm_c118 : List (Nat × mm_E) := [(0, .aload_n 0, 1, 0, 0, 0), (1, .iload_n 1, 1, 0, 0, 0), (2, .invokevirtual 118, 3, 107, 2, 2), (5, .ifCond .eq 22, 3, 27, 0, 0), (8, .iload_n 2, 1, 0, 0, 0), (9, .invokestatic 212, 3, 119, 1, 0), (12, .ifCond .eq 15, 3, 27, 0, 0), (15, .aload_n 0, 1, 0, 0, 0),
  (16, .getfield 78, 3, 11, 15, 2), (19, .iload_n 1, 1, 0, 0, 0), (20, .iload_n 2, 1, 0, 0, 0), (21, .invokevirtual 215, 3, 87, 3, 2), (24, .goto 4, 3, 28, 0, 0), (27, .iconst (-1), 1, 0, 0, 0), (28, .ireturn, 1, 0, 0, 0)]
/-- SamePassers.isTenth(I)Z -/
def mm_c119 : List (Nat × mm_E) := [(0, .iload_n 0, 1, 0, 0, 0), (1, .ifCond .lt 14, 3, 15, 0, 0), (4, .iload_n 0, 1, 0, 0, 0), (5, .sipush 600, 3, 0, 0, 0), (8, .if_icmp .gt 7, 3, 15, 0, 0), (11, .iconst 1, 1, 0, 0, 0), (12, .goto 4, 3, 16, 0, 0), (15, .iconst 0, 1, 0, 0, 0),
  (16, .ireturn, 1, 0, 0, 0)]
/-- SamePassers.seen(II)I -/
def mm_c120 : List (Nat × mm_E) := [(0, .aload_n 0, 1, 0, 0, 0), (1, .iload_n 1, 1, 0, 0, 0), (2, .invokevirtual 118, 3, 107, 2, 2), (5, .ifCond .eq 22, 3, 27, 0, 0), (8, .iload_n 2, 1, 0, 0, 0), (9, .invokestatic 212, 3, 119, 1, 0), (12, .ifCond .eq 15, 3, 27, 0, 0), (15, .aload_n 0, 1, 0, 0, 0),
  (16, .getfield 78, 3, 11, 15, 2), (19, .iload_n 1, 1, 0, 0, 0), (20, .iload_n 2, 1, 0, 0, 0), (21, .invokevirtual 219, 3, 96, 3, 2), (24, .goto 4, 3, 28, 0, 0), (27, .iconst (-1), 1, 0, 0, 0), (28, .ireturn, 1, 0, 0, 0)]
/-- SamePassers.first(II)I -/
def mm_c121 : List (Nat × mm_E) := [(0, .aload_n 0, 1, 0, 0, 0), (1, .iload_n 1, 1, 0, 0, 0), (2, .invokevirtual 118, 3, 107, 2, 2), (5, .ifCond .eq 16, 3, 21, 0, 0), (8, .aload_n 0, 1, 0, 0, 0), (9, .iload_n 2, 1, 0, 0, 0), (10, .invokevirtual 118, 3, 107, 2, 2), (13, .ifCond .eq 8, 3, 21, 0, 0),
  (16, .iload_n 1, 1, 0, 0, 0), (17, .iload_n 2, 1, 0, 0, 0), (18, .if_icmp .ne 5, 3, 23, 0, 0), (21, .iconst (-1), 1, 0, 0, 0), (22, .ireturn, 1, 0, 0, 0), (23, .aload_n 0, 1, 0, 0, 0), (24, .getfield 78, 3, 11, 15, 2), (27, .iload_n 1, 1, 0, 0, 0),
  (28, .iload_n 2, 1, 0, 0, 0), (29, .invokevirtual 222, 3, 97, 3, 2), (32, .ireturn, 1, 0, 0, 0)]
/-- SamePassers.good()Z -/
def mm_c122 : List (Nat × mm_E) := [(0, .aload_n 0, 1, 0, 0, 0), (1, .getfield 78, 3, 11, 15, 2), (4, .invokevirtual 204, 3, 91, 1, 2), (7, .ireturn, 1, 0, 0, 0)]
/-- SamePassers.off(I)I -/
def mm_c123 : List (Nat × mm_E) := [(0, .aload_n 0, 1, 0, 0, 0), (1, .iload_n 1, 1, 0, 0, 0), (2, .invokevirtual 225, 3, 124, 2, 2), (5, .ifCond .eq 14, 3, 19, 0, 0), (8, .aload_n 0, 1, 0, 0, 0), (9, .getfield 78, 3, 11, 15, 2), (12, .iload_n 1, 1, 0, 0, 0), (13, .invokevirtual 228, 3, 93, 2, 2),
  (16, .goto 4, 3, 20, 0, 0), (19, .iconst (-1), 1, 0, 0, 0), (20, .ireturn, 1, 0, 0, 0)]
/-- SamePassers.isMust(I)Z -/
def mm_c124 : List (Nat × mm_E) := [(0, .iload_n 1, 1, 0, 0, 0), (1, .ifCond .lt 18, 3, 19, 0, 0), (4, .iload_n 1, 1, 0, 0, 0), (5, .aload_n 0, 1, 0, 0, 0), (6, .getfield 19, 3, 11, 1, 2), (9, .getfield 384, 3, 7, 12, 0), (12, .if_icmp .ge 7, 3, 19, 0, 0), (15, .iconst 1, 1, 0, 0, 0),
  (16, .goto 4, 3, 20, 0, 0), (19, .iconst 0, 1, 0, 0, 0), (20, .ireturn, 1, 0, 0, 0)]
/-- SamePassers.until(II)I -/
def mm_c125 : List (Nat × mm_E) := [(0, .aload_n 0, 1, 0, 0, 0), (1, .iload_n 1, 1, 0, 0, 0), (2, .invokevirtual 225, 3, 124, 2, 2), (5, .ifCond .eq 14, 3, 19, 0, 0), (8, .iload_n 2, 1, 0, 0, 0), (9, .iconst 1, 1, 0, 0, 0), (10, .if_icmp .lt 9, 3, 19, 0, 0), (13, .iload_n 2, 1, 0, 0, 0),
  (14, .bipush 100, 2, 0, 0, 0), (16, .if_icmp .le 5, 3, 21, 0, 0), (19, .iconst (-1), 1, 0, 0, 0), (20, .ireturn, 1, 0, 0, 0), (21, .iconst 0, 1, 0, 0, 0), (22, .istore_n 3, 1, 0, 0, 0), (23, .iload_n 3, 1, 0, 0, 0), (24, .bipush 60, 2, 0, 0, 0),
  (26, .if_icmp .gt 56, 3, 82, 0, 0), (29, .aload_n 0, 1, 0, 0, 0), (30, .getfield 82, 3, 11, 16, 2), (33, .aload_n 0, 1, 0, 0, 0), (34, .getfield 19, 3, 11, 1, 2), (37, .aload_n 0, 1, 0, 0, 0), (38, .getfield 48, 3, 11, 6, 2), (41, .aload_n 0, 1, 0, 0, 0),
  (42, .getfield 48, 3, 11, 6, 2), (45, .getfield 175, 3, 1, 0, 0), (48, .iload_n 3, 1, 0, 0, 0), (49, .iadd, 1, 0, 0, 0), (50, .iload_n 3, 1, 0, 0, 0), (51, .ifCond .ne 7, 3, 58, 0, 0), (54, .iconst 1, 1, 0, 0, 0), (55, .goto 4, 3, 59, 0, 0),
  (58, .iconst 0, 1, 0, 0, 0), (59, .invokevirtual 200, 3, 85, 5, 2), (62, .aload_n 0, 1, 0, 0, 0), (63, .getfield 82, 3, 11, 16, 2), (66, .iload_n 1, 1, 0, 0, 0), (67, .invokevirtual 228, 3, 93, 2, 2), (70, .iload_n 2, 1, 0, 0, 0), (71, .if_icmp .lt 5, 3, 76, 0, 0),
  (74, .iload_n 3, 1, 0, 0, 0), (75, .ireturn, 1, 0, 0, 0), (76, .iinc 3 1, 3, 0, 0, 0), (79, .goto (-56), 3, 23, 0, 0), (82, .iconst (-1), 1, 0, 0, 0), (83, .ireturn, 1, 0, 0, 0)]
/-- SamePassers.unknown()I -/
def mm_c126 : List (Nat × mm_E) := [(0, .ldc2_w 231, 3, 1, 0, 1000000), (3, .lstore_n 1, 1, 0, 0, 0), (4, .lconst 1, 1, 0, 0, 0), (5, .lstore_n 3, 1, 0, 0, 0), (6, .iconst 0, 1, 0, 0, 0), (7, .istore 5, 2, 0, 0, 0), (9, .iload 5, 2, 0, 0, 0), (11, .aload_n 0, 1, 0, 0, 0),
  (12, .getfield 19, 3, 11, 1, 2), (15, .getfield 233, 3, 7, 10, 0), (18, .if_icmp .ge 31, 3, 49, 0, 0), (21, .lload_n 1, 1, 0, 0, 0), (22, .bipush 10, 2, 0, 0, 0), (24, .aload_n 0, 1, 0, 0, 0), (25, .getfield 78, 3, 11, 15, 2), (28, .iload 5, 2, 0, 0, 0),
  (30, .invokevirtual 157, 3, 90, 2, 2), (33, .isub, 1, 0, 0, 0), (34, .i2l, 1, 0, 0, 0), (35, .lmul, 1, 0, 0, 0), (36, .lstore_n 1, 1, 0, 0, 0), (37, .lload_n 3, 1, 0, 0, 0), (38, .ldc2_w 236, 3, 1, 0, 10), (41, .lmul, 1, 0, 0, 0),
  (42, .lstore_n 3, 1, 0, 0, 0), (43, .iinc 5 1, 3, 0, 0, 0), (46, .goto (-37), 3, 9, 0, 0), (49, .lload_n 3, 1, 0, 0, 0), (50, .lconst 0, 1, 0, 0, 0), (51, .lcmp, 1, 0, 0, 0), (52, .ifCond .le 10, 3, 62, 0, 0), (55, .lload_n 1, 1, 0, 0, 0),
  (56, .lload_n 3, 1, 0, 0, 0), (57, .ldiv, 1, 0, 0, 0), (58, .l2i, 1, 0, 0, 0), (59, .goto 4, 3, 63, 0, 0), (62, .iconst 0, 1, 0, 0, 0), (63, .ireturn, 1, 0, 0, 0)]
/-- SamePassers.lags(II)I -/
def mm_c127 : List (Nat × mm_E) := [(0, .iload_n 1, 1, 0, 0, 0), (1, .invokestatic 238, 3, 279, 1, 1), (4, .istore_n 3, 1, 0, 0, 0), (5, .aload_n 0, 1, 0, 0, 0), (6, .iload_n 1, 1, 0, 0, 0), (7, .invokevirtual 243, 3, 128, 2, 2), (10, .ifCond .eq 22, 3, 32, 0, 0), (13, .iload_n 3, 1, 0, 0, 0),
  (14, .iconst 1, 1, 0, 0, 0), (15, .if_icmp .lt 17, 3, 32, 0, 0), (18, .iload_n 3, 1, 0, 0, 0), (19, .iconst 4, 1, 0, 0, 0), (20, .if_icmp .gt 12, 3, 32, 0, 0), (23, .iload_n 2, 1, 0, 0, 0), (24, .ifCond .lt 8, 3, 32, 0, 0), (27, .iload_n 2, 1, 0, 0, 0),
  (28, .iload_n 3, 1, 0, 0, 0), (29, .if_icmp .le 5, 3, 34, 0, 0), (32, .iconst (-1), 1, 0, 0, 0), (33, .ireturn, 1, 0, 0, 0), (34, .aload_n 0, 1, 0, 0, 0), (35, .getfield 82, 3, 11, 16, 2), (38, .aload_n 0, 1, 0, 0, 0), (39, .getfield 19, 3, 11, 1, 2),
  (42, .aload_n 0, 1, 0, 0, 0), (43, .getfield 48, 3, 11, 6, 2), (46, .aload_n 0, 1, 0, 0, 0), (47, .getfield 48, 3, 11, 6, 2), (50, .getfield 175, 3, 1, 0, 0), (53, .iconst 0, 1, 0, 0, 0), (54, .invokevirtual 200, 3, 85, 5, 2), (57, .aload_n 0, 1, 0, 0, 0),
  (58, .getfield 88, 3, 11, 17, 2), (61, .aload_n 0, 1, 0, 0, 0), (62, .getfield 19, 3, 11, 1, 2), (65, .aload_n 0, 1, 0, 0, 0), (66, .getfield 82, 3, 11, 16, 2), (69, .iload_n 1, 1, 0, 0, 0), (70, .invokevirtual 246, 3, 14, 4, 2), (73, .ifCond .ne 5, 3, 78, 0, 0),
  (76, .iconst (-1), 1, 0, 0, 0), (77, .ireturn, 1, 0, 0, 0), (78, .iload_n 2, 1, 0, 0, 0), (79, .ifCond .ne 13, 3, 92, 0, 0), (82, .aload_n 0, 1, 0, 0, 0), (83, .getfield 88, 3, 11, 17, 2), (86, .getfield 250, 3, 2, 8, 0), (89, .goto 14, 3, 103, 0, 0),
  (92, .aload_n 0, 1, 0, 0, 0), (93, .getfield 88, 3, 11, 17, 2), (96, .getfield 253, 3, 2, 7, 2), (99, .iload_n 2, 1, 0, 0, 0), (100, .iconst 1, 1, 0, 0, 0), (101, .isub, 1, 0, 0, 0), (102, .iaload, 1, 0, 0, 0), (103, .ireturn, 1, 0, 0, 0)]
/-- SamePassers.areWalkers(I)Z -/
def mm_c128 : List (Nat × mm_E) := [(0, .iload_n 1, 1, 0, 0, 0), (1, .ifCond .lt 20, 3, 21, 0, 0), (4, .iload_n 1, 1, 0, 0, 0), (5, .iconst 1, 1, 0, 0, 0), (6, .aload_n 0, 1, 0, 0, 0), (7, .getfield 19, 3, 11, 1, 2), (10, .getfield 233, 3, 7, 10, 0), (13, .ishl, 1, 0, 0, 0),
  (14, .if_icmp .ge 7, 3, 21, 0, 0), (17, .iconst 1, 1, 0, 0, 0), (18, .goto 4, 3, 22, 0, 0), (21, .iconst 0, 1, 0, 0, 0), (22, .ireturn, 1, 0, 0, 0)]
/-- SamePassers.full(I)I -/
def mm_c129 : List (Nat × mm_E) := [(0, .iload_n 1, 1, 0, 0, 0), (1, .ifCond .lt 9, 3, 10, 0, 0), (4, .iload_n 1, 1, 0, 0, 0), (5, .bipush 8, 2, 0, 0, 0), (7, .if_icmp .le 5, 3, 12, 0, 0), (10, .iconst (-1), 1, 0, 0, 0), (11, .ireturn, 1, 0, 0, 0), (12, .iconst (-1), 1, 0, 0, 0),
  (13, .istore_n 2, 1, 0, 0, 0), (14, .bipush 9, 2, 0, 0, 0), (16, .istore_n 3, 1, 0, 0, 0), (17, .iconst 1, 1, 0, 0, 0), (18, .aload_n 0, 1, 0, 0, 0), (19, .getfield 19, 3, 11, 1, 2), (22, .getfield 233, 3, 7, 10, 0), (25, .ishl, 1, 0, 0, 0),
  (26, .istore 4, 2, 0, 0, 0), (28, .aload_n 0, 1, 0, 0, 0), (29, .invokevirtual 256, 3, 130, 1, 2), (32, .lstore 5, 2, 0, 0, 0), (34, .iconst 0, 1, 0, 0, 0), (35, .istore 7, 2, 0, 0, 0), (37, .iload 7, 2, 0, 0, 0), (39, .iload 4, 2, 0, 0, 0),
  (41, .if_icmp .ge 40, 3, 81, 0, 0), (44, .iload 7, 2, 0, 0, 0), (46, .invokestatic 238, 3, 279, 1, 1), (49, .istore 8, 2, 0, 0, 0), (51, .iload 8, 2, 0, 0, 0), (53, .iload_n 3, 1, 0, 0, 0), (54, .if_icmp .ge 21, 3, 75, 0, 0), (57, .aload_n 0, 1, 0, 0, 0),
  (58, .iload 7, 2, 0, 0, 0), (60, .iload_n 1, 1, 0, 0, 0), (61, .lload 5, 2, 0, 0, 0), (63, .invokevirtual 260, 3, 131, 4, 2), (66, .ifCond .eq 9, 3, 75, 0, 0), (69, .iload 8, 2, 0, 0, 0), (71, .istore_n 3, 1, 0, 0, 0), (72, .iload 7, 2, 0, 0, 0),
  (74, .istore_n 2, 1, 0, 0, 0), (75, .iinc 7 1, 3, 0, 0, 0), (78, .goto (-41), 3, 37, 0, 0), (81, .iload_n 2, 1, 0, 0, 0), (82, .ireturn, 1, 0, 0, 0)]
/-- SamePassers.seenOnWords()J -/
def mm_c130 : List (Nat × mm_E) := [(0, .lconst 0, 1, 0, 0, 0), (1, .lstore_n 1, 1, 0, 0, 0), (2, .iconst 0, 1, 0, 0, 0), (3, .istore_n 3, 1, 0, 0, 0), (4, .iload_n 3, 1, 0, 0, 0), (5, .aload_n 0, 1, 0, 0, 0), (6, .getfield 19, 3, 11, 1, 2), (9, .getfield 285, 3, 7, 7, 0),
  (12, .if_icmp .ge 64, 3, 76, 0, 0), (15, .iconst 0, 1, 0, 0, 0), (16, .istore 4, 2, 0, 0, 0), (18, .iload 4, 2, 0, 0, 0), (20, .aload_n 0, 1, 0, 0, 0), (21, .getfield 19, 3, 11, 1, 2), (24, .getfield 233, 3, 7, 10, 0), (27, .if_icmp .ge 43, 3, 70, 0, 0),
  (30, .aload_n 0, 1, 0, 0, 0), (31, .getfield 78, 3, 11, 15, 2), (34, .iload 4, 2, 0, 0, 0), (36, .aload_n 0, 1, 0, 0, 0), (37, .getfield 19, 3, 11, 1, 2), (40, .getfield 163, 3, 7, 9, 2), (43, .iload_n 3, 1, 0, 0, 0), (44, .iaload, 1, 0, 0, 0),
  (45, .invokevirtual 295, 3, 98, 3, 2), (48, .iconst (-1), 1, 0, 0, 0), (49, .if_icmp .eq 15, 3, 64, 0, 0), (52, .lload_n 1, 1, 0, 0, 0), (53, .lconst 1, 1, 0, 0, 0), (54, .iload_n 3, 1, 0, 0, 0), (55, .bipush 8, 2, 0, 0, 0), (57, .imul, 1, 0, 0, 0),
  (58, .iload 4, 2, 0, 0, 0), (60, .iadd, 1, 0, 0, 0), (61, .lshl, 1, 0, 0, 0), (62, .lor, 1, 0, 0, 0), (63, .lstore_n 1, 1, 0, 0, 0), (64, .iinc 4 1, 3, 0, 0, 0), (67, .goto (-49), 3, 18, 0, 0), (70, .iinc 3 1, 3, 0, 0, 0),
  (73, .goto (-69), 3, 4, 0, 0), (76, .lload_n 1, 1, 0, 0, 0), (77, .lreturn, 1, 0, 0, 0)]
/-- SamePassers.fills(IIJ)Z -/
def mm_c131 : List (Nat × mm_E) := [(0, .iconst 0, 1, 0, 0, 0), (1, .istore 5, 2, 0, 0, 0), (3, .iload 5, 2, 0, 0, 0), (5, .aload_n 0, 1, 0, 0, 0), (6, .getfield 19, 3, 11, 1, 2), (9, .getfield 285, 3, 7, 7, 0), (12, .if_icmp .ge 32, 3, 44, 0, 0), (15, .lload_n 3, 1, 0, 0, 0),
  (16, .iload 5, 2, 0, 0, 0), (18, .bipush 8, 2, 0, 0, 0), (20, .imul, 1, 0, 0, 0), (21, .lshr, 1, 0, 0, 0), (22, .l2i, 1, 0, 0, 0), (23, .iload_n 1, 1, 0, 0, 0), (24, .iand, 1, 0, 0, 0), (25, .istore 6, 2, 0, 0, 0),
  (27, .iload 6, 2, 0, 0, 0), (29, .invokestatic 238, 3, 279, 1, 1), (32, .iload_n 2, 1, 0, 0, 0), (33, .if_icmp .ge 5, 3, 38, 0, 0), (36, .iconst 0, 1, 0, 0, 0), (37, .ireturn, 1, 0, 0, 0), (38, .iinc 5 1, 3, 0, 0, 0), (41, .goto (-38), 3, 3, 0, 0),
  (44, .iconst 1, 1, 0, 0, 0), (45, .ireturn, 1, 0, 0, 0)]
/-- SamePassers.jump(IIIII)I -/
def mm_c132 : List (Nat × mm_E) := [(0, .iload_n 2, 1, 0, 0, 0), (1, .invokestatic 264, 3, 133, 1, 0), (4, .ifCond .eq 15, 3, 19, 0, 0), (7, .iload 4, 2, 0, 0, 0), (9, .invokestatic 264, 3, 133, 1, 0), (12, .ifCond .eq 7, 3, 19, 0, 0), (15, .iconst 1, 1, 0, 0, 0), (16, .goto 4, 3, 20, 0, 0),
  (19, .iconst 0, 1, 0, 0, 0), (20, .istore 6, 2, 0, 0, 0), (22, .iload 6, 2, 0, 0, 0), (24, .ifCond .eq 33, 3, 57, 0, 0), (27, .aload_n 0, 1, 0, 0, 0), (28, .iload_n 3, 1, 0, 0, 0), (29, .invokevirtual 160, 3, 109, 2, 2), (32, .ifCond .eq 25, 3, 57, 0, 0),
  (35, .aload_n 0, 1, 0, 0, 0), (36, .iload 5, 2, 0, 0, 0), (38, .invokevirtual 160, 3, 109, 2, 2), (41, .ifCond .eq 16, 3, 57, 0, 0), (44, .iload_n 1, 1, 0, 0, 0), (45, .iconst (-1), 1, 0, 0, 0), (46, .if_icmp .eq 14, 3, 60, 0, 0), (49, .aload_n 0, 1, 0, 0, 0),
  (50, .iload_n 1, 1, 0, 0, 0), (51, .invokevirtual 118, 3, 107, 2, 2), (54, .ifCond .ne 6, 3, 60, 0, 0), (57, .bipush (-2), 2, 0, 0, 0), (59, .ireturn, 1, 0, 0, 0), (60, .aload_n 0, 1, 0, 0, 0), (61, .iconst 0, 1, 0, 0, 0), (62, .iload_n 2, 1, 0, 0, 0),
  (63, .iload_n 3, 1, 0, 0, 0), (64, .invokevirtual 267, 3, 134, 4, 2), (67, .aload_n 0, 1, 0, 0, 0), (68, .iconst 1, 1, 0, 0, 0), (69, .iload 4, 2, 0, 0, 0), (71, .iload 5, 2, 0, 0, 0), (73, .invokevirtual 267, 3, 134, 4, 2), (76, .iload_n 1, 1, 0, 0, 0),
  (77, .iconst (-1), 1, 0, 0, 0), (78, .if_icmp .ne 19, 3, 97, 0, 0), (81, .aload_n 0, 1, 0, 0, 0), (82, .getfield 95, 3, 11, 18, 2), (85, .aload_n 0, 1, 0, 0, 0), (86, .getfield 19, 3, 11, 1, 2), (89, .iconst 0, 1, 0, 0, 0), (90, .iconst 1, 1, 0, 0, 0),
  (91, .invokevirtual 271, 3, 2, 4, 2), (94, .goto 17, 3, 111, 0, 0), (97, .aload_n 0, 1, 0, 0, 0), (98, .getfield 95, 3, 11, 18, 2), (101, .aload_n 0, 1, 0, 0, 0), (102, .getfield 19, 3, 11, 1, 2), (105, .iload_n 1, 1, 0, 0, 0), (106, .iconst 0, 1, 0, 0, 0),
  (107, .iconst 1, 1, 0, 0, 0), (108, .invokevirtual 275, 3, 3, 5, 2), (111, .ireturn, 1, 0, 0, 0)]
/-- SamePassers.isTake(I)Z -/
def mm_c133 : List (Nat × mm_E) := [(0, .iload_n 0, 1, 0, 0, 0), (1, .ifCond .lt 13, 3, 14, 0, 0), (4, .iload_n 0, 1, 0, 0, 0), (5, .bipush 60, 2, 0, 0, 0), (7, .if_icmp .gt 7, 3, 14, 0, 0), (10, .iconst 1, 1, 0, 0, 0), (11, .goto 4, 3, 15, 0, 0), (14, .iconst 0, 1, 0, 0, 0),
  (15, .ireturn, 1, 0, 0, 0)]
/-- SamePassers.shoot(III)V -/
def mm_c134 : List (Nat × mm_E) := [(0, .aload_n 0, 1, 0, 0, 0), (1, .getfield 82, 3, 11, 16, 2), (4, .aload_n 0, 1, 0, 0, 0), (5, .getfield 19, 3, 11, 1, 2), (8, .aload_n 0, 1, 0, 0, 0), (9, .getfield 48, 3, 11, 6, 2), (12, .iload_n 2, 1, 0, 0, 0), (13, .iconst 0, 1, 0, 0, 0),
  (14, .invokevirtual 200, 3, 85, 5, 2), (17, .aload_n 0, 1, 0, 0, 0), (18, .getfield 95, 3, 11, 18, 2), (21, .iload_n 1, 1, 0, 0, 0), (22, .aload_n 0, 1, 0, 0, 0), (23, .getfield 82, 3, 11, 16, 2), (26, .aload_n 0, 1, 0, 0, 0), (27, .getfield 19, 3, 11, 1, 2),
  (30, .aload_n 0, 1, 0, 0, 0), (31, .getfield 19, 3, 11, 1, 2), (34, .getfield 163, 3, 7, 9, 2), (37, .iload_n 3, 1, 0, 0, 0), (38, .iaload, 1, 0, 0, 0), (39, .invokevirtual 393, 3, 1, 5, 2), (42, .return_, 1, 0, 0, 0)]
/-- SamePassers.best(II)I -/
def mm_c135 : List (Nat × mm_E) := [(0, .aload_n 0, 1, 0, 0, 0), (1, .iload_n 1, 1, 0, 0, 0), (2, .invokevirtual 160, 3, 109, 2, 2), (5, .ifCond .eq 12, 3, 17, 0, 0), (8, .iload_n 2, 1, 0, 0, 0), (9, .ifCond .lt 8, 3, 17, 0, 0), (12, .iload_n 2, 1, 0, 0, 0), (13, .iconst 2, 1, 0, 0, 0),
  (14, .if_icmp .le 5, 3, 19, 0, 0), (17, .iconst (-1), 1, 0, 0, 0), (18, .ireturn, 1, 0, 0, 0), (19, .ldc_w 279, 3, 0, 0, 2147483647), (22, .istore_n 3, 1, 0, 0, 0), (23, .iconst 0, 1, 0, 0, 0), (24, .istore 4, 2, 0, 0, 0), (26, .iconst 0, 1, 0, 0, 0),
  (27, .istore 5, 2, 0, 0, 0), (29, .iconst 0, 1, 0, 0, 0), (30, .istore 6, 2, 0, 0, 0), (32, .iload 6, 2, 0, 0, 0), (34, .bipush 12, 2, 0, 0, 0), (36, .if_icmp .ge 18, 3, 54, 0, 0), (39, .aload_n 0, 1, 0, 0, 0), (40, .iload 6, 2, 0, 0, 0),
  (42, .iload 6, 2, 0, 0, 0), (44, .iload_n 1, 1, 0, 0, 0), (45, .invokevirtual 267, 3, 134, 4, 2), (48, .iinc 6 1, 3, 0, 0, 0), (51, .goto (-19), 3, 32, 0, 0), (54, .iconst 0, 1, 0, 0, 0), (55, .istore 6, 2, 0, 0, 0), (57, .iload 6, 2, 0, 0, 0),
  (59, .bipush 12, 2, 0, 0, 0), (61, .if_icmp .ge 62, 3, 123, 0, 0), (64, .iload 6, 2, 0, 0, 0), (66, .iconst 1, 1, 0, 0, 0), (67, .iadd, 1, 0, 0, 0), (68, .istore 7, 2, 0, 0, 0), (70, .iload 7, 2, 0, 0, 0), (72, .bipush 12, 2, 0, 0, 0),
  (74, .if_icmp .ge 43, 3, 117, 0, 0), (77, .aload_n 0, 1, 0, 0, 0), (78, .getfield 95, 3, 11, 18, 2), (81, .aload_n 0, 1, 0, 0, 0), (82, .getfield 19, 3, 11, 1, 2), (85, .iload 6, 2, 0, 0, 0), (87, .iload 7, 2, 0, 0, 0), (89, .invokevirtual 271, 3, 2, 4, 2),
  (92, .istore 8, 2, 0, 0, 0), (94, .iload 8, 2, 0, 0, 0), (96, .iload_n 3, 1, 0, 0, 0), (97, .if_icmp .ge 14, 3, 111, 0, 0), (100, .iload 8, 2, 0, 0, 0), (102, .istore_n 3, 1, 0, 0, 0), (103, .iload 6, 2, 0, 0, 0), (105, .istore 4, 2, 0, 0, 0),
  (107, .iload 7, 2, 0, 0, 0), (109, .istore 5, 2, 0, 0, 0), (111, .iinc 7 1, 3, 0, 0, 0), (114, .goto (-44), 3, 70, 0, 0), (117, .iinc 6 1, 3, 0, 0, 0), (120, .goto (-63), 3, 57, 0, 0), (123, .iload_n 2, 1, 0, 0, 0), (124, .ifCond .ne 7, 3, 131, 0, 0),
  (127, .iload_n 3, 1, 0, 0, 0), (128, .goto 15, 3, 143, 0, 0), (131, .iload_n 2, 1, 0, 0, 0), (132, .iconst 1, 1, 0, 0, 0), (133, .if_icmp .ne 8, 3, 141, 0, 0), (136, .iload 4, 2, 0, 0, 0), (138, .goto 5, 3, 143, 0, 0), (141, .iload 5, 2, 0, 0, 0),
  (143, .ireturn, 1, 0, 0, 0)]
/-- SamePassers.row(II)J -/
def mm_c136 : List (Nat × mm_E) := [(0, .aload_n 0, 1, 0, 0, 0), (1, .iload_n 1, 1, 0, 0, 0), (2, .invokevirtual 280, 3, 137, 2, 2), (5, .ifCond .eq 10, 3, 15, 0, 0), (8, .iload_n 2, 1, 0, 0, 0), (9, .invokestatic 212, 3, 119, 1, 0), (12, .ifCond .ne 7, 3, 19, 0, 0), (15, .ldc2_w 283, 3, 1, 0, (-1)),
  (18, .lreturn, 1, 0, 0, 0), (19, .lconst 0, 1, 0, 0, 0), (20, .lstore_n 3, 1, 0, 0, 0), (21, .iconst 0, 1, 0, 0, 0), (22, .istore 5, 2, 0, 0, 0), (24, .iload 5, 2, 0, 0, 0), (26, .aload_n 0, 1, 0, 0, 0), (27, .getfield 19, 3, 11, 1, 2),
  (30, .getfield 233, 3, 7, 10, 0), (33, .if_icmp .ge 50, 3, 83, 0, 0), (36, .aload_n 0, 1, 0, 0, 0), (37, .getfield 78, 3, 11, 15, 2), (40, .iload 5, 2, 0, 0, 0), (42, .iload_n 2, 1, 0, 0, 0), (43, .invokevirtual 215, 3, 87, 3, 2), (46, .istore 6, 2, 0, 0, 0),
  (48, .iload 6, 2, 0, 0, 0), (50, .ifCond .lt 27, 3, 77, 0, 0), (53, .aload_n 0, 1, 0, 0, 0), (54, .getfield 19, 3, 11, 1, 2), (57, .getfield 122, 3, 7, 11, 2), (60, .iload 5, 2, 0, 0, 0), (62, .aaload, 1, 0, 0, 0), (63, .getfield 131, 3, 9, 2, 0),
  (66, .iload_n 1, 1, 0, 0, 0), (67, .if_icmp .ne 10, 3, 77, 0, 0), (70, .lload_n 3, 1, 0, 0, 0), (71, .lconst 1, 1, 0, 0, 0), (72, .iload 6, 2, 0, 0, 0), (74, .lshl, 1, 0, 0, 0), (75, .lor, 1, 0, 0, 0), (76, .lstore_n 3, 1, 0, 0, 0),
  (77, .iinc 5 1, 3, 0, 0, 0), (80, .goto (-56), 3, 24, 0, 0), (83, .lload_n 3, 1, 0, 0, 0), (84, .lreturn, 1, 0, 0, 0)]
/-- SamePassers.isLane(I)Z -/
def mm_c137 : List (Nat × mm_E) := [(0, .iload_n 1, 1, 0, 0, 0), (1, .ifCond .lt 18, 3, 19, 0, 0), (4, .iload_n 1, 1, 0, 0, 0), (5, .aload_n 0, 1, 0, 0, 0), (6, .getfield 19, 3, 11, 1, 2), (9, .getfield 292, 3, 7, 1, 0), (12, .if_icmp .ge 7, 3, 19, 0, 0), (15, .iconst 1, 1, 0, 0, 0),
  (16, .goto 4, 3, 20, 0, 0), (19, .iconst 0, 1, 0, 0, 0), (20, .ireturn, 1, 0, 0, 0)]
/-- SamePassers.wrong()I -/
def mm_c138 : List (Nat × mm_E) := [(0, .iconst 0, 1, 0, 0, 0), (1, .istore_n 1, 1, 0, 0, 0), (2, .iconst 0, 1, 0, 0, 0), (3, .istore_n 2, 1, 0, 0, 0), (4, .iload_n 2, 1, 0, 0, 0), (5, .aload_n 0, 1, 0, 0, 0), (6, .getfield 19, 3, 11, 1, 2), (9, .getfield 233, 3, 7, 10, 0),
  (12, .if_icmp .ge 74, 3, 86, 0, 0), (15, .iconst 0, 1, 0, 0, 0), (16, .istore_n 3, 1, 0, 0, 0), (17, .iconst 0, 1, 0, 0, 0), (18, .istore 4, 2, 0, 0, 0), (20, .iload 4, 2, 0, 0, 0), (22, .aload_n 0, 1, 0, 0, 0), (23, .getfield 19, 3, 11, 1, 2),
  (26, .getfield 285, 3, 7, 7, 0), (29, .if_icmp .ge 41, 3, 70, 0, 0), (32, .iload_n 3, 1, 0, 0, 0), (33, .ifCond .ne 25, 3, 58, 0, 0), (36, .aload_n 0, 1, 0, 0, 0), (37, .getfield 78, 3, 11, 15, 2), (40, .iload_n 2, 1, 0, 0, 0), (41, .aload_n 0, 1, 0, 0, 0),
  (42, .getfield 19, 3, 11, 1, 2), (45, .getfield 163, 3, 7, 9, 2), (48, .iload 4, 2, 0, 0, 0), (50, .iaload, 1, 0, 0, 0), (51, .invokevirtual 219, 3, 96, 3, 2), (54, .iconst 2, 1, 0, 0, 0), (55, .if_icmp .ne 7, 3, 62, 0, 0), (58, .iconst 1, 1, 0, 0, 0),
  (59, .goto 4, 3, 63, 0, 0), (62, .iconst 0, 1, 0, 0, 0), (63, .istore_n 3, 1, 0, 0, 0), (64, .iinc 4 1, 3, 0, 0, 0), (67, .goto (-47), 3, 20, 0, 0), (70, .iload_n 3, 1, 0, 0, 0), (71, .ifCond .ne 9, 3, 80, 0, 0), (74, .iload_n 1, 1, 0, 0, 0),
  (75, .iconst 1, 1, 0, 0, 0), (76, .iload_n 2, 1, 0, 0, 0), (77, .ishl, 1, 0, 0, 0), (78, .ior, 1, 0, 0, 0), (79, .istore_n 1, 1, 0, 0, 0), (80, .iinc 2 1, 3, 0, 0, 0), (83, .goto (-79), 3, 4, 0, 0), (86, .iload_n 1, 1, 0, 0, 0),
  (87, .ireturn, 1, 0, 0, 0)]
/-- SamePassers.change(II)I -/
def mm_c139 : List (Nat × mm_E) := [(0, .aload_n 0, 1, 0, 0, 0), (1, .iload_n 1, 1, 0, 0, 0), (2, .invokevirtual 118, 3, 107, 2, 2), (5, .ifCond .eq 13, 3, 18, 0, 0), (8, .iload_n 2, 1, 0, 0, 0), (9, .ifCond .lt 9, 3, 18, 0, 0), (12, .iload_n 2, 1, 0, 0, 0), (13, .bipush 40, 2, 0, 0, 0),
  (15, .if_icmp .le 5, 3, 20, 0, 0), (18, .iconst (-1), 1, 0, 0, 0), (19, .ireturn, 1, 0, 0, 0), (20, .iconst 0, 1, 0, 0, 0), (21, .istore_n 3, 1, 0, 0, 0), (22, .iconst 0, 1, 0, 0, 0), (23, .istore 4, 2, 0, 0, 0), (25, .iload 4, 2, 0, 0, 0),
  (27, .aload_n 0, 1, 0, 0, 0), (28, .getfield 19, 3, 11, 1, 2), (31, .getfield 233, 3, 7, 10, 0), (34, .if_icmp .ge 33, 3, 67, 0, 0), (37, .iload 4, 2, 0, 0, 0), (39, .iload_n 1, 1, 0, 0, 0), (40, .if_icmp .eq 21, 3, 61, 0, 0), (43, .aload_n 0, 1, 0, 0, 0),
  (44, .iload_n 1, 1, 0, 0, 0), (45, .iload 4, 2, 0, 0, 0), (47, .iload_n 2, 1, 0, 0, 0), (48, .invokevirtual 288, 3, 140, 4, 2), (51, .ifCond .eq 10, 3, 61, 0, 0), (54, .iload_n 3, 1, 0, 0, 0), (55, .iconst 1, 1, 0, 0, 0), (56, .iload 4, 2, 0, 0, 0),
  (58, .ishl, 1, 0, 0, 0), (59, .ior, 1, 0, 0, 0), (60, .istore_n 3, 1, 0, 0, 0), (61, .iinc 4 1, 3, 0, 0, 0), (64, .goto (-39), 3, 25, 0, 0), (67, .iload_n 3, 1, 0, 0, 0), (68, .ireturn, 1, 0, 0, 0)]
/-- SamePassers.canStandFor(III)Z -/
def mm_c140 : List (Nat × mm_E) := [(0, .aload_n 0, 1, 0, 0, 0), (1, .getfield 19, 3, 11, 1, 2), (4, .getfield 122, 3, 7, 11, 2), (7, .iload_n 1, 1, 0, 0, 0), (8, .aaload, 1, 0, 0, 0), (9, .getfield 126, 3, 9, 1, 0), (12, .aload_n 0, 1, 0, 0, 0), (13, .getfield 19, 3, 11, 1, 2),
  (16, .getfield 122, 3, 7, 11, 2), (19, .iload_n 2, 1, 0, 0, 0), (20, .aaload, 1, 0, 0, 0), (21, .getfield 126, 3, 9, 1, 0), (24, .if_icmp .eq 5, 3, 29, 0, 0), (27, .iconst 0, 1, 0, 0, 0), (28, .ireturn, 1, 0, 0, 0), (29, .iconst 0, 1, 0, 0, 0),
  (30, .istore 4, 2, 0, 0, 0), (32, .iload 4, 2, 0, 0, 0), (34, .aload_n 0, 1, 0, 0, 0), (35, .getfield 19, 3, 11, 1, 2), (38, .getfield 285, 3, 7, 7, 0), (41, .if_icmp .ge 97, 3, 138, 0, 0), (44, .aload_n 0, 1, 0, 0, 0), (45, .getfield 78, 3, 11, 15, 2),
  (48, .iload_n 1, 1, 0, 0, 0), (49, .aload_n 0, 1, 0, 0, 0), (50, .getfield 19, 3, 11, 1, 2), (53, .getfield 163, 3, 7, 9, 2), (56, .iload 4, 2, 0, 0, 0), (58, .iaload, 1, 0, 0, 0), (59, .invokevirtual 295, 3, 98, 3, 2), (62, .istore 5, 2, 0, 0, 0),
  (64, .aload_n 0, 1, 0, 0, 0), (65, .getfield 78, 3, 11, 15, 2), (68, .iload_n 2, 1, 0, 0, 0), (69, .aload_n 0, 1, 0, 0, 0), (70, .getfield 19, 3, 11, 1, 2), (73, .getfield 163, 3, 7, 9, 2), (76, .iload 4, 2, 0, 0, 0), (78, .iaload, 1, 0, 0, 0),
  (79, .invokevirtual 295, 3, 98, 3, 2), (82, .istore 6, 2, 0, 0, 0), (84, .iload 5, 2, 0, 0, 0), (86, .iconst (-1), 1, 0, 0, 0), (87, .if_icmp .eq 13, 3, 100, 0, 0), (90, .iload 6, 2, 0, 0, 0), (92, .iconst (-1), 1, 0, 0, 0), (93, .if_icmp .eq 7, 3, 100, 0, 0),
  (96, .iconst 1, 1, 0, 0, 0), (97, .goto 4, 3, 101, 0, 0), (100, .iconst 0, 1, 0, 0, 0), (101, .istore 7, 2, 0, 0, 0), (103, .iload 7, 2, 0, 0, 0), (105, .ifCond .eq 18, 3, 123, 0, 0), (108, .iload 5, 2, 0, 0, 0), (110, .iload 6, 2, 0, 0, 0),
  (112, .isub, 1, 0, 0, 0), (113, .invokestatic 396, 3, 0, 0, 12), (116, .iload_n 3, 1, 0, 0, 0), (117, .if_icmp .le 15, 3, 132, 0, 0), (120, .goto 10, 3, 130, 0, 0), (123, .iload 5, 2, 0, 0, 0), (125, .iload 6, 2, 0, 0, 0), (127, .if_icmp .eq 5, 3, 132, 0, 0),
  (130, .iconst 0, 1, 0, 0, 0), (131, .ireturn, 1, 0, 0, 0), (132, .iinc 4 1, 3, 0, 0, 0), (135, .goto (-103), 3, 32, 0, 0), (138, .iconst 1, 1, 0, 0, 0), (139, .ireturn, 1, 0, 0, 0)]
/-- SamePassers.other(III)I -/
def mm_c141 : List (Nat × mm_E) := [(0, .aload_n 0, 1, 0, 0, 0), (1, .iload_n 1, 1, 0, 0, 0), (2, .invokevirtual 118, 3, 107, 2, 2), (5, .ifCond .eq 20, 3, 25, 0, 0), (8, .aload_n 0, 1, 0, 0, 0), (9, .iload_n 2, 1, 0, 0, 0), (10, .invokevirtual 160, 3, 109, 2, 2), (13, .ifCond .eq 12, 3, 25, 0, 0),
  (16, .iload_n 3, 1, 0, 0, 0), (17, .ifCond .lt 8, 3, 25, 0, 0), (20, .iload_n 3, 1, 0, 0, 0), (21, .iconst 1, 1, 0, 0, 0), (22, .if_icmp .le 6, 3, 28, 0, 0), (25, .bipush (-2), 2, 0, 0, 0), (27, .ireturn, 1, 0, 0, 0), (28, .iload_n 3, 1, 0, 0, 0),
  (29, .iconst 1, 1, 0, 0, 0), (30, .if_icmp .ne 26, 3, 56, 0, 0), (33, .aload_n 0, 1, 0, 0, 0), (34, .getfield 19, 3, 11, 1, 2), (37, .getfield 292, 3, 7, 1, 0), (40, .iconst 1, 1, 0, 0, 0), (41, .isub, 1, 0, 0, 0), (42, .aload_n 0, 1, 0, 0, 0),
  (43, .getfield 19, 3, 11, 1, 2), (46, .getfield 122, 3, 7, 11, 2), (49, .iload_n 1, 1, 0, 0, 0), (50, .aaload, 1, 0, 0, 0), (51, .getfield 131, 3, 9, 2, 0), (54, .isub, 1, 0, 0, 0), (55, .ireturn, 1, 0, 0, 0), (56, .aload_n 0, 1, 0, 0, 0),
  (57, .getfield 78, 3, 11, 15, 2), (60, .iload_n 1, 1, 0, 0, 0), (61, .aload_n 0, 1, 0, 0, 0), (62, .getfield 19, 3, 11, 1, 2), (65, .getfield 163, 3, 7, 9, 2), (68, .iload_n 2, 1, 0, 0, 0), (69, .iaload, 1, 0, 0, 0), (70, .invokevirtual 295, 3, 98, 3, 2),
  (73, .istore 4, 2, 0, 0, 0), (75, .iload 4, 2, 0, 0, 0), (77, .iconst (-1), 1, 0, 0, 0), (78, .if_icmp .ne 7, 3, 85, 0, 0), (81, .iconst (-1), 1, 0, 0, 0), (82, .goto 21, 3, 103, 0, 0), (85, .aload_n 0, 1, 0, 0, 0), (86, .getfield 19, 3, 11, 1, 2),
  (89, .getfield 298, 3, 7, 2, 0), (92, .aload_n 0, 1, 0, 0, 0), (93, .getfield 19, 3, 11, 1, 2), (96, .getfield 301, 3, 7, 3, 0), (99, .iadd, 1, 0, 0, 0), (100, .iload 4, 2, 0, 0, 0), (102, .isub, 1, 0, 0, 0), (103, .ireturn, 1, 0, 0, 0)]
/-- SamePassers.tell(II)Z -/
def mm_c142 : List (Nat × mm_E) := [(0, .iload_n 1, 1, 0, 0, 0), (1, .invokestatic 264, 3, 133, 1, 0), (4, .ifCond .eq 10, 3, 14, 0, 0), (7, .iload_n 2, 1, 0, 0, 0), (8, .invokestatic 212, 3, 119, 1, 0), (11, .ifCond .ne 5, 3, 16, 0, 0), (14, .iconst 0, 1, 0, 0, 0), (15, .ireturn, 1, 0, 0, 0),
  (16, .aload_n 0, 1, 0, 0, 0), (17, .getfield 58, 3, 11, 8, 2), (20, .iload_n 1, 1, 0, 0, 0), (21, .iload_n 2, 1, 0, 0, 0), (22, .invokevirtual 304, 3, 29, 3, 2), (25, .ireturn, 1, 0, 0, 0)]
/-- SamePassers.notes(I)I -/
def mm_c143 : List (Nat × mm_E) := [(0, .iload_n 1, 1, 0, 0, 0), (1, .ifCond .lt 19, 3, 20, 0, 0), (4, .iload_n 1, 1, 0, 0, 0), (5, .bipush 30, 2, 0, 0, 0), (7, .if_icmp .gt 13, 3, 20, 0, 0), (10, .aload_n 0, 1, 0, 0, 0), (11, .getfield 19, 3, 11, 1, 2), (14, .getfield 285, 3, 7, 7, 0),
  (17, .ifCond .ne 5, 3, 22, 0, 0), (20, .iconst (-1), 1, 0, 0, 0), (21, .ireturn, 1, 0, 0, 0), (22, .aload_n 0, 1, 0, 0, 0), (23, .iconst 0, 1, 0, 0, 0), (24, .iconst 0, 1, 0, 0, 0), (25, .iconst 0, 1, 0, 0, 0), (26, .invokevirtual 267, 3, 134, 4, 2),
  (29, .aload_n 0, 1, 0, 0, 0), (30, .iconst 1, 1, 0, 0, 0), (31, .aload_n 0, 1, 0, 0, 0), (32, .getfield 48, 3, 11, 6, 2), (35, .getfield 175, 3, 1, 0, 0), (38, .iconst 0, 1, 0, 0, 0), (39, .invokevirtual 267, 3, 134, 4, 2), (42, .iconst 0, 1, 0, 0, 0),
  (43, .istore_n 2, 1, 0, 0, 0), (44, .iconst 0, 1, 0, 0, 0), (45, .istore_n 3, 1, 0, 0, 0), (46, .iconst 1, 1, 0, 0, 0), (47, .aload_n 0, 1, 0, 0, 0), (48, .getfield 19, 3, 11, 1, 2), (51, .getfield 233, 3, 7, 10, 0), (54, .ishl, 1, 0, 0, 0),
  (55, .istore 4, 2, 0, 0, 0), (57, .iconst 1, 1, 0, 0, 0), (58, .istore 5, 2, 0, 0, 0), (60, .iload 5, 2, 0, 0, 0), (62, .iload 4, 2, 0, 0, 0), (64, .if_icmp .ge 39, 3, 103, 0, 0), (67, .aload_n 0, 1, 0, 0, 0), (68, .iload 5, 2, 0, 0, 0),
  (70, .invokevirtual 341, 3, 144, 2, 2), (73, .iload_n 1, 1, 0, 0, 0), (74, .if_icmp .gt 23, 3, 97, 0, 0), (77, .aload_n 0, 1, 0, 0, 0), (78, .iload 5, 2, 0, 0, 0), (80, .invokevirtual 344, 3, 145, 2, 2), (83, .istore 6, 2, 0, 0, 0), (85, .iload 6, 2, 0, 0, 0),
  (87, .iload_n 3, 1, 0, 0, 0), (88, .if_icmp .le 9, 3, 97, 0, 0), (91, .iload 6, 2, 0, 0, 0), (93, .istore_n 3, 1, 0, 0, 0), (94, .iload 5, 2, 0, 0, 0), (96, .istore_n 2, 1, 0, 0, 0), (97, .iinc 5 1, 3, 0, 0, 0), (100, .goto (-40), 3, 60, 0, 0),
  (103, .iload_n 2, 1, 0, 0, 0), (104, .ireturn, 1, 0, 0, 0)]
/-- SamePassers.secondsOf(I)I -/
def mm_c144 : List (Nat × mm_E) := [(0, .iconst 0, 1, 0, 0, 0), (1, .istore_n 2, 1, 0, 0, 0), (2, .iconst 0, 1, 0, 0, 0), (3, .istore_n 3, 1, 0, 0, 0), (4, .iload_n 3, 1, 0, 0, 0), (5, .aload_n 0, 1, 0, 0, 0), (6, .getfield 19, 3, 11, 1, 2), (9, .getfield 233, 3, 7, 10, 0),
  (12, .if_icmp .ge 34, 3, 46, 0, 0), (15, .iload_n 1, 1, 0, 0, 0), (16, .iload_n 3, 1, 0, 0, 0), (17, .ishr, 1, 0, 0, 0), (18, .iconst 1, 1, 0, 0, 0), (19, .iand, 1, 0, 0, 0), (20, .ifCond .eq 20, 3, 40, 0, 0), (23, .iload_n 2, 1, 0, 0, 0),
  (24, .iconst 1, 1, 0, 0, 0), (25, .aload_n 0, 1, 0, 0, 0), (26, .getfield 19, 3, 11, 1, 2), (29, .getfield 122, 3, 7, 11, 2), (32, .iload_n 3, 1, 0, 0, 0), (33, .aaload, 1, 0, 0, 0), (34, .getfield 131, 3, 9, 2, 0), (37, .iadd, 1, 0, 0, 0),
  (38, .iadd, 1, 0, 0, 0), (39, .istore_n 2, 1, 0, 0, 0), (40, .iinc 3 1, 3, 0, 0, 0), (43, .goto (-39), 3, 4, 0, 0), (46, .iload_n 2, 1, 0, 0, 0), (47, .ireturn, 1, 0, 0, 0)]
/-- SamePassers.worthOf(I)I -/
def mm_c145 : List (Nat × mm_E) := [(0, .iconst 0, 1, 0, 0, 0), (1, .istore_n 2, 1, 0, 0, 0), (2, .iconst 0, 1, 0, 0, 0), (3, .istore_n 3, 1, 0, 0, 0), (4, .iload_n 3, 1, 0, 0, 0), (5, .aload_n 0, 1, 0, 0, 0), (6, .getfield 19, 3, 11, 1, 2), (9, .getfield 233, 3, 7, 10, 0),
  (12, .if_icmp .ge 34, 3, 46, 0, 0), (15, .iload_n 1, 1, 0, 0, 0), (16, .iload_n 3, 1, 0, 0, 0), (17, .ishr, 1, 0, 0, 0), (18, .iconst 1, 1, 0, 0, 0), (19, .iand, 1, 0, 0, 0), (20, .ifCond .eq 20, 3, 40, 0, 0), (23, .iload_n 2, 1, 0, 0, 0),
  (24, .aload_n 0, 1, 0, 0, 0), (25, .getfield 95, 3, 11, 18, 2), (28, .aload_n 0, 1, 0, 0, 0), (29, .getfield 19, 3, 11, 1, 2), (32, .iload_n 3, 1, 0, 0, 0), (33, .iconst 0, 1, 0, 0, 0), (34, .iconst 1, 1, 0, 0, 0), (35, .invokevirtual 275, 3, 3, 5, 2),
  (38, .iadd, 1, 0, 0, 0), (39, .istore_n 2, 1, 0, 0, 0), (40, .iinc 3 1, 3, 0, 0, 0), (43, .goto (-39), 3, 4, 0, 0), (46, .iload_n 2, 1, 0, 0, 0), (47, .ireturn, 1, 0, 0, 0)]
/-- SamePassers.whose(III)I -/
def mm_c146 : List (Nat × mm_E) := [(0, .aload_n 0, 1, 0, 0, 0), (1, .iload_n 1, 1, 0, 0, 0), (2, .invokevirtual 166, 3, 111, 2, 2), (5, .ifCond .eq 18, 3, 23, 0, 0), (8, .aload_n 0, 1, 0, 0, 0), (9, .iload_n 2, 1, 0, 0, 0), (10, .invokevirtual 280, 3, 137, 2, 2), (13, .ifCond .eq 10, 3, 23, 0, 0),
  (16, .iload_n 3, 1, 0, 0, 0), (17, .invokestatic 212, 3, 119, 1, 0), (20, .ifCond .ne 5, 3, 25, 0, 0), (23, .iconst (-1), 1, 0, 0, 0), (24, .ireturn, 1, 0, 0, 0), (25, .iconst 0, 1, 0, 0, 0), (26, .istore 4, 2, 0, 0, 0), (28, .iconst 0, 1, 0, 0, 0),
  (29, .istore 5, 2, 0, 0, 0), (31, .iload 5, 2, 0, 0, 0), (33, .aload_n 0, 1, 0, 0, 0), (34, .getfield 19, 3, 11, 1, 2), (37, .getfield 233, 3, 7, 10, 0), (40, .if_icmp .ge 49, 3, 89, 0, 0), (43, .aload_n 0, 1, 0, 0, 0), (44, .getfield 19, 3, 11, 1, 2),
  (47, .getfield 122, 3, 7, 11, 2), (50, .iload 5, 2, 0, 0, 0), (52, .aaload, 1, 0, 0, 0), (53, .getfield 131, 3, 9, 2, 0), (56, .iload_n 2, 1, 0, 0, 0), (57, .if_icmp .ne 26, 3, 83, 0, 0), (60, .aload_n 0, 1, 0, 0, 0), (61, .getfield 78, 3, 11, 15, 2),
  (64, .iload 5, 2, 0, 0, 0), (66, .iload_n 3, 1, 0, 0, 0), (67, .invokevirtual 215, 3, 87, 3, 2), (70, .iload_n 1, 1, 0, 0, 0), (71, .if_icmp .ne 12, 3, 83, 0, 0), (74, .iload 4, 2, 0, 0, 0), (76, .iconst 1, 1, 0, 0, 0), (77, .iload 5, 2, 0, 0, 0),
  (79, .ishl, 1, 0, 0, 0), (80, .ior, 1, 0, 0, 0), (81, .istore 4, 2, 0, 0, 0), (83, .iinc 5 1, 3, 0, 0, 0), (86, .goto (-55), 3, 31, 0, 0), (89, .iload 4, 2, 0, 0, 0), (91, .ireturn, 1, 0, 0, 0)]
/-- SamePassers.sight(IIZ)Z -/
def mm_c147 : List (Nat × mm_E) := [(0, .iload_n 1, 1, 0, 0, 0), (1, .invokestatic 212, 3, 119, 1, 0), (4, .ifCond .eq 11, 3, 15, 0, 0), (7, .aload_n 0, 1, 0, 0, 0), (8, .iload_n 2, 1, 0, 0, 0), (9, .invokevirtual 166, 3, 111, 2, 2), (12, .ifCond .ne 5, 3, 17, 0, 0), (15, .iconst 0, 1, 0, 0, 0),
  (16, .ireturn, 1, 0, 0, 0), (17, .aload_n 0, 1, 0, 0, 0), (18, .getfield 58, 3, 11, 8, 2), (21, .iload_n 1, 1, 0, 0, 0), (22, .iload_n 2, 1, 0, 0, 0), (23, .iload_n 3, 1, 0, 0, 0), (24, .invokevirtual 347, 3, 30, 4, 2), (27, .ireturn, 1, 0, 0, 0)]
/-- SamePassers.hired(I)I -/
def mm_c148 : List (Nat × mm_E) := [(0, .iload_n 1, 1, 0, 0, 0), (1, .iconst (-1), 1, 0, 0, 0), (2, .if_icmp .lt 14, 3, 16, 0, 0), (5, .iload_n 1, 1, 0, 0, 0), (6, .aload_n 0, 1, 0, 0, 0), (7, .getfield 58, 3, 11, 8, 2), (10, .getfield 351, 3, 4, 3, 0), (13, .if_icmp .lt 6, 3, 19, 0, 0),
  (16, .bipush (-2), 2, 0, 0, 0), (18, .ireturn, 1, 0, 0, 0), (19, .aload_n 0, 1, 0, 0, 0), (20, .getfield 95, 3, 11, 18, 2), (23, .aload_n 0, 1, 0, 0, 0), (24, .getfield 58, 3, 11, 8, 2), (27, .aload_n 0, 1, 0, 0, 0), (28, .getfield 19, 3, 11, 1, 2),
  (31, .invokevirtual 354, 3, 4, 3, 2), (34, .istore_n 2, 1, 0, 0, 0), (35, .iload_n 1, 1, 0, 0, 0), (36, .iconst (-1), 1, 0, 0, 0), (37, .if_icmp .ne 15, 3, 52, 0, 0), (40, .aload_n 0, 1, 0, 0, 0), (41, .getfield 58, 3, 11, 8, 2), (44, .getfield 351, 3, 4, 3, 0),
  (47, .iload_n 2, 1, 0, 0, 0), (48, .isub, 1, 0, 0, 0), (49, .goto 12, 3, 61, 0, 0), (52, .aload_n 0, 1, 0, 0, 0), (53, .getfield 95, 3, 11, 18, 2), (56, .getfield 358, 3, 0, 5, 2), (59, .iload_n 1, 1, 0, 0, 0), (60, .iaload, 1, 0, 0, 0),
  (61, .ireturn, 1, 0, 0, 0)]
/-- SamePassers.days(III)I -/
def mm_c149 : List (Nat × mm_E) := [(0, .iload_n 1, 1, 0, 0, 0), (1, .ifCond .lt 25, 3, 26, 0, 0), (4, .iload_n 1, 1, 0, 0, 0), (5, .sipush 9999, 3, 0, 0, 0), (8, .if_icmp .gt 18, 3, 26, 0, 0), (11, .iload_n 2, 1, 0, 0, 0), (12, .iconst 1, 1, 0, 0, 0), (13, .if_icmp .lt 13, 3, 26, 0, 0),
  (16, .iload_n 2, 1, 0, 0, 0), (17, .bipush 20, 2, 0, 0, 0), (19, .if_icmp .gt 7, 3, 26, 0, 0), (22, .iconst 1, 1, 0, 0, 0), (23, .goto 4, 3, 27, 0, 0), (26, .iconst 0, 1, 0, 0, 0), (27, .istore 4, 2, 0, 0, 0), (29, .iload 4, 2, 0, 0, 0),
  (31, .ifCond .eq 12, 3, 43, 0, 0), (34, .iload_n 3, 1, 0, 0, 0), (35, .ifCond .lt 8, 3, 43, 0, 0), (38, .iload_n 3, 1, 0, 0, 0), (39, .iconst 2, 1, 0, 0, 0), (40, .if_icmp .le 5, 3, 45, 0, 0), (43, .iconst (-1), 1, 0, 0, 0), (44, .ireturn, 1, 0, 0, 0),
  (45, .iconst 0, 1, 0, 0, 0), (46, .istore 5, 2, 0, 0, 0), (48, .iconst 0, 1, 0, 0, 0), (49, .istore 6, 2, 0, 0, 0), (51, .iconst 0, 1, 0, 0, 0), (52, .istore 7, 2, 0, 0, 0), (54, .bipush 9, 2, 0, 0, 0), (56, .istore 8, 2, 0, 0, 0),
  (58, .iload_n 1, 1, 0, 0, 0), (59, .i2l, 1, 0, 0, 0), (60, .lstore 9, 2, 0, 0, 0), (62, .aload_n 0, 1, 0, 0, 0), (63, .getfield 52, 3, 11, 7, 2), (66, .aload_n 0, 1, 0, 0, 0), (67, .getfield 48, 3, 11, 6, 2), (70, .invokevirtual 187, 3, 11, 2, 2),
  (73, .iconst 0, 1, 0, 0, 0), (74, .istore 11, 2, 0, 0, 0), (76, .iload 11, 2, 0, 0, 0), (78, .iload_n 2, 1, 0, 0, 0), (79, .if_icmp .ge 96, 3, 175, 0, 0), (82, .aload_n 0, 1, 0, 0, 0), (83, .lload 9, 2, 0, 0, 0), (85, .invokevirtual 361, 3, 150, 2, 2),
  (88, .lstore 9, 2, 0, 0, 0), (90, .aload_n 0, 1, 0, 0, 0), (91, .getfield 82, 3, 11, 16, 2), (94, .aload_n 0, 1, 0, 0, 0), (95, .getfield 19, 3, 11, 1, 2), (98, .aload_n 0, 1, 0, 0, 0), (99, .getfield 52, 3, 11, 7, 2), (102, .aload_n 0, 1, 0, 0, 0),
  (103, .getfield 48, 3, 11, 6, 2), (106, .getfield 175, 3, 1, 0, 0), (109, .iload 11, 2, 0, 0, 0), (111, .iadd, 1, 0, 0, 0), (112, .iconst 1, 1, 0, 0, 0), (113, .invokevirtual 200, 3, 85, 5, 2), (116, .aload_n 0, 1, 0, 0, 0), (117, .getfield 82, 3, 11, 16, 2),
  (120, .invokevirtual 365, 3, 92, 1, 2), (123, .istore 12, 2, 0, 0, 0), (125, .iload 6, 2, 0, 0, 0), (127, .iload 12, 2, 0, 0, 0), (129, .iadd, 1, 0, 0, 0), (130, .istore 6, 2, 0, 0, 0), (132, .iload 12, 2, 0, 0, 0), (134, .iload 8, 2, 0, 0, 0),
  (136, .if_icmp .ge 11, 3, 147, 0, 0), (139, .iload 12, 2, 0, 0, 0), (141, .istore 8, 2, 0, 0, 0), (143, .iload 11, 2, 0, 0, 0), (145, .istore 7, 2, 0, 0, 0), (147, .iload 12, 2, 0, 0, 0), (149, .ifCond .ne 20, 3, 169, 0, 0), (152, .iload_n 3, 1, 0, 0, 0),
  (153, .ifCond .ne 16, 3, 169, 0, 0), (156, .aload_n 0, 1, 0, 0, 0), (157, .getfield 82, 3, 11, 16, 2), (160, .invokevirtual 369, 3, 94, 1, 2), (163, .ifCond .ne 6, 3, 169, 0, 0), (166, .iinc 5 1, 3, 0, 0, 0), (169, .iinc 11 1, 3, 0, 0, 0), (172, .goto (-96), 3, 76, 0, 0),
  (175, .iload_n 3, 1, 0, 0, 0), (176, .ifCond .ne 8, 3, 184, 0, 0), (179, .iload 5, 2, 0, 0, 0), (181, .goto 15, 3, 196, 0, 0), (184, .iload_n 3, 1, 0, 0, 0), (185, .iconst 1, 1, 0, 0, 0), (186, .if_icmp .ne 8, 3, 194, 0, 0), (189, .iload 6, 2, 0, 0, 0),
  (191, .goto 5, 3, 196, 0, 0), (194, .iload 7, 2, 0, 0, 0), (196, .ireturn, 1, 0, 0, 0)]
/-- SamePassers.drawLates(J)J -/
def mm_c150 : List (Nat × mm_E) := [(0, .lload_n 1, 1, 0, 0, 0), (1, .lstore_n 3, 1, 0, 0, 0), (2, .iconst 0, 1, 0, 0, 0), (3, .istore 5, 2, 0, 0, 0), (5, .iload 5, 2, 0, 0, 0), (7, .aload_n 0, 1, 0, 0, 0), (8, .getfield 19, 3, 11, 1, 2), (11, .getfield 233, 3, 7, 10, 0),
  (14, .if_icmp .ge 62, 3, 76, 0, 0), (17, .iconst 0, 1, 0, 0, 0), (18, .istore 6, 2, 0, 0, 0), (20, .lload_n 3, 1, 0, 0, 0), (21, .invokestatic 399, 3, 151, 1, 0), (24, .lstore_n 3, 1, 0, 0, 0), (25, .lload_n 3, 1, 0, 0, 0), (26, .ldc2_w 402, 3, 1, 0, 65536),
  (29, .ldiv, 1, 0, 0, 0), (30, .ldc2_w 236, 3, 1, 0, 10), (33, .lrem, 1, 0, 0, 0), (34, .lconst 1, 1, 0, 0, 0), (35, .lcmp, 1, 0, 0, 0), (36, .ifCond .gt 22, 3, 58, 0, 0), (39, .lload_n 3, 1, 0, 0, 0), (40, .invokestatic 399, 3, 151, 1, 0),
  (43, .lstore_n 3, 1, 0, 0, 0), (44, .lload_n 3, 1, 0, 0, 0), (45, .ldc2_w 402, 3, 1, 0, 65536), (48, .ldiv, 1, 0, 0, 0), (49, .ldc2_w 404, 3, 1, 0, 9), (52, .lrem, 1, 0, 0, 0), (53, .l2i, 1, 0, 0, 0), (54, .iconst 1, 1, 0, 0, 0),
  (55, .iadd, 1, 0, 0, 0), (56, .istore 6, 2, 0, 0, 0), (58, .aload_n 0, 1, 0, 0, 0), (59, .getfield 52, 3, 11, 7, 2), (62, .getfield 150, 3, 1, 3, 2), (65, .iload 5, 2, 0, 0, 0), (67, .iload 6, 2, 0, 0, 0), (69, .iastore, 1, 0, 0, 0),
  (70, .iinc 5 1, 3, 0, 0, 0), (73, .goto (-68), 3, 5, 0, 0), (76, .lload_n 3, 1, 0, 0, 0), (77, .lreturn, 1, 0, 0, 0)]
/-- SamePassers.nextDraw(J)J -/
def mm_c151 : List (Nat × mm_E) := [(0, .lload_n 0, 1, 0, 0, 0), (1, .ldc2_w 406, 3, 1, 0, 1103515245), (4, .lmul, 1, 0, 0, 0), (5, .ldc2_w 408, 3, 1, 0, 12345), (8, .ladd, 1, 0, 0, 0), (9, .ldc2_w 410, 3, 1, 0, 2147483648), (12, .lrem, 1, 0, 0, 0), (13, .lreturn, 1, 0, 0, 0)]
/-- SamePassers.mark(IZ)Z -/
def mm_c152 : List (Nat × mm_E) := [(0, .iload_n 1, 1, 0, 0, 0), (1, .ifCond .lt 23, 3, 24, 0, 0), (4, .iload_n 1, 1, 0, 0, 0), (5, .iconst 4, 1, 0, 0, 0), (6, .if_icmp .ge 18, 3, 24, 0, 0), (9, .iload_n 2, 1, 0, 0, 0), (10, .ifCond .eq 16, 3, 26, 0, 0), (13, .aload_n 0, 1, 0, 0, 0),
  (14, .getfield 372, 3, 11, 14, 0), (17, .iload_n 1, 1, 0, 0, 0), (18, .ishr, 1, 0, 0, 0), (19, .iconst 1, 1, 0, 0, 0), (20, .iand, 1, 0, 0, 0), (21, .ifCond .ne 5, 3, 26, 0, 0), (24, .iconst 0, 1, 0, 0, 0), (25, .ireturn, 1, 0, 0, 0),
  (26, .iload_n 2, 1, 0, 0, 0), (27, .ifCond .eq 40, 3, 67, 0, 0), (30, .aload_n 0, 1, 0, 0, 0), (31, .getfield 48, 3, 11, 6, 2), (34, .aload_n 0, 1, 0, 0, 0), (35, .getfield 66, 3, 11, 12, 2), (38, .iload_n 1, 1, 0, 0, 0), (39, .aaload, 1, 0, 0, 0),
  (40, .invokevirtual 187, 3, 11, 2, 2), (43, .aload_n 0, 1, 0, 0, 0), (44, .getfield 58, 3, 11, 8, 2), (47, .aload_n 0, 1, 0, 0, 0), (48, .getfield 69, 3, 11, 13, 2), (51, .iload_n 1, 1, 0, 0, 0), (52, .aaload, 1, 0, 0, 0), (53, .invokevirtual 375, 3, 31, 2, 2),
  (56, .aload_n 0, 1, 0, 0, 0), (57, .invokevirtual 378, 3, 103, 1, 2), (60, .aload_n 0, 1, 0, 0, 0), (61, .invokevirtual 172, 3, 104, 1, 2), (64, .goto 41, 3, 105, 0, 0), (67, .aload_n 0, 1, 0, 0, 0), (68, .getfield 66, 3, 11, 12, 2), (71, .iload_n 1, 1, 0, 0, 0),
  (72, .aaload, 1, 0, 0, 0), (73, .aload_n 0, 1, 0, 0, 0), (74, .getfield 48, 3, 11, 6, 2), (77, .invokevirtual 187, 3, 11, 2, 2), (80, .aload_n 0, 1, 0, 0, 0), (81, .getfield 69, 3, 11, 13, 2), (84, .iload_n 1, 1, 0, 0, 0), (85, .aaload, 1, 0, 0, 0),
  (86, .aload_n 0, 1, 0, 0, 0), (87, .getfield 58, 3, 11, 8, 2), (90, .invokevirtual 375, 3, 31, 2, 2), (93, .aload_n 0, 1, 0, 0, 0), (94, .dup, 1, 0, 0, 0), (95, .getfield 372, 3, 11, 14, 0), (98, .iconst 1, 1, 0, 0, 0), (99, .iload_n 1, 1, 0, 0, 0),
  (100, .ishl, 1, 0, 0, 0), (101, .ior, 1, 0, 0, 0), (102, .putfield 372, 3, 11, 14, 0), (105, .iconst 1, 1, 0, 0, 0), (106, .ireturn, 1, 0, 0, 0)]
/-- SamePassers.count(I)I -/
def mm_c153 : List (Nat × mm_E) := [(0, .iload_n 1, 1, 0, 0, 0), (1, .tableswitch 156 0 11 #[63, 71, 79, 87, 95, 103, 111, 119, 127, 135, 140, 148], 63, 0, 0, 0), (64, .aload_n 0, 1, 0, 0, 0), (65, .getfield 19, 3, 11, 1, 2), (68, .getfield 381, 3, 7, 0, 0), (71, .ireturn, 1, 0, 0, 0), (72, .aload_n 0, 1, 0, 0, 0), (73, .getfield 19, 3, 11, 1, 2),
  (76, .getfield 292, 3, 7, 1, 0), (79, .ireturn, 1, 0, 0, 0), (80, .aload_n 0, 1, 0, 0, 0), (81, .getfield 19, 3, 11, 1, 2), (84, .getfield 285, 3, 7, 7, 0), (87, .ireturn, 1, 0, 0, 0), (88, .aload_n 0, 1, 0, 0, 0), (89, .getfield 19, 3, 11, 1, 2),
  (92, .getfield 233, 3, 7, 10, 0), (95, .ireturn, 1, 0, 0, 0), (96, .aload_n 0, 1, 0, 0, 0), (97, .getfield 19, 3, 11, 1, 2), (100, .getfield 384, 3, 7, 12, 0), (103, .ireturn, 1, 0, 0, 0), (104, .aload_n 0, 1, 0, 0, 0), (105, .getfield 48, 3, 11, 6, 2),
  (108, .getfield 175, 3, 1, 0, 0), (111, .ireturn, 1, 0, 0, 0), (112, .aload_n 0, 1, 0, 0, 0), (113, .getfield 29, 3, 11, 3, 2), (116, .getfield 194, 3, 6, 0, 0), (119, .ireturn, 1, 0, 0, 0), (120, .aload_n 0, 1, 0, 0, 0), (121, .getfield 58, 3, 11, 8, 2),
  (124, .getfield 387, 3, 4, 0, 0), (127, .ireturn, 1, 0, 0, 0), (128, .aload_n 0, 1, 0, 0, 0), (129, .getfield 58, 3, 11, 8, 2), (132, .getfield 351, 3, 4, 3, 0), (135, .ireturn, 1, 0, 0, 0), (136, .aload_n 0, 1, 0, 0, 0), (137, .getfield 181, 3, 11, 10, 0),
  (140, .ireturn, 1, 0, 0, 0), (141, .aload_n 0, 1, 0, 0, 0), (142, .getfield 10, 3, 11, 0, 2), (145, .getfield 103, 3, 8, 3, 0), (148, .ireturn, 1, 0, 0, 0), (149, .aload_n 0, 1, 0, 0, 0), (150, .getfield 78, 3, 11, 15, 2), (153, .invokevirtual 365, 3, 92, 1, 2),
  (156, .ireturn, 1, 0, 0, 0), (157, .iconst (-1), 1, 0, 0, 0), (158, .ireturn, 1, 0, 0, 0)]
/-- SamePassers.laws(I)I -/
def mm_c154 : List (Nat × mm_E) := [(0, .iload_n 1, 1, 0, 0, 0), (1, .bipush (-2), 2, 0, 0, 0), (3, .if_icmp .lt 9, 3, 12, 0, 0), (6, .iload_n 1, 1, 0, 0, 0), (7, .bipush 60, 2, 0, 0, 0), (9, .if_icmp .le 14, 3, 23, 0, 0), (12, .new 308, 3, 99, 0, 0), (15, .dup, 1, 0, 0, 0),
  (16, .ldc_w 310, 3, 2, 7, 0), (19, .invokespecial 312, 3, 999, 0, 98), (22, .athrow, 1, 0, 0, 0), (23, .aload_n 0, 1, 0, 0, 0), (24, .getfield 58, 3, 11, 8, 2), (27, .iload_n 1, 1, 0, 0, 0), (28, .iconst 0, 1, 0, 0, 0), (29, .invokestatic 315, 3, 0, 0, 10),
  (32, .invokevirtual 320, 3, 32, 2, 2), (35, .iload_n 1, 1, 0, 0, 0), (36, .iconst (-1), 1, 0, 0, 0), (37, .if_icmp .ne 11, 3, 48, 0, 0), (40, .aload_n 0, 1, 0, 0, 0), (41, .getfield 58, 3, 11, 8, 2), (44, .getfield 324, 3, 4, 7, 0), (47, .ireturn, 1, 0, 0, 0),
  (48, .aload_n 0, 1, 0, 0, 0), (49, .getfield 58, 3, 11, 8, 2), (52, .getfield 324, 3, 4, 7, 0), (55, .ifCond .ne 14, 3, 69, 0, 0), (58, .new 308, 3, 99, 0, 0), (61, .dup, 1, 0, 0, 0), (62, .ldc_w 327, 3, 2, 8, 0), (65, .invokespecial 312, 3, 999, 0, 98),
  (68, .athrow, 1, 0, 0, 0), (69, .iload_n 1, 1, 0, 0, 0), (70, .bipush (-2), 2, 0, 0, 0), (72, .if_icmp .ne 11, 3, 83, 0, 0), (75, .aload_n 0, 1, 0, 0, 0), (76, .getfield 58, 3, 11, 8, 2), (79, .getfield 329, 3, 4, 8, 0), (82, .ireturn, 1, 0, 0, 0),
  (83, .aload_n 0, 1, 0, 0, 0), (84, .getfield 58, 3, 11, 8, 2), (87, .getfield 332, 3, 4, 10, 3), (90, .ifCond .ne 14, 3, 104, 0, 0), (93, .new 308, 3, 99, 0, 0), (96, .dup, 1, 0, 0, 0), (97, .ldc_w 336, 3, 2, 9, 0), (100, .invokespecial 312, 3, 999, 0, 98),
  (103, .athrow, 1, 0, 0, 0), (104, .aload_n 0, 1, 0, 0, 0), (105, .getfield 58, 3, 11, 8, 2), (108, .getfield 338, 3, 4, 9, 0), (111, .ireturn, 1, 0, 0, 0)]
/-- SamePassersModel.thrown()I -/
def mm_c155 : List (Nat × mm_E) := [(0, .aload_n 0, 1, 0, 0, 0), (1, .getfield 1, 3, 12, 0, 0), (4, .ireturn, 1, 0, 0, 0)]
/-- SamePassersModel.feed(JJJ)I -/
def mm_c156 : List (Nat × mm_E) := [(0, .aload_n 0, 1, 0, 0, 0), (1, .iconst 0, 1, 0, 0, 0), (2, .putfield 1, 3, 12, 0, 0), (5, .aload_n 0, 1, 0, 0, 0), (6, .lload_n 1, 1, 0, 0, 0), (7, .invokevirtual 7, 3, 157, 2, 2), (10, .aload_n 0, 1, 0, 0, 0), (11, .lload_n 3, 1, 0, 0, 0),
  (12, .invokevirtual 7, 3, 157, 2, 2), (15, .aload_n 0, 1, 0, 0, 0), (16, .lload 5, 2, 0, 0, 0), (18, .invokevirtual 7, 3, 157, 2, 2), (21, .aload_n 0, 1, 0, 0, 0), (22, .getfield 11, 3, 12, 2, 0), (25, .ireturn, 1, 0, 0, 0)]
/-- SamePassersModel.lay(J)V -/
def mm_c157 : List (Nat × mm_E) := [(0, .bipush 56, 2, 0, 0, 0), (2, .istore_n 3, 1, 0, 0, 0), (3, .iload_n 3, 1, 0, 0, 0), (4, .ifCond .lt 71, 3, 75, 0, 0), (7, .lload_n 1, 1, 0, 0, 0), (8, .iload_n 3, 1, 0, 0, 0), (9, .lshr, 1, 0, 0, 0), (10, .l2i, 1, 0, 0, 0),
  (11, .sipush 255, 3, 0, 0, 0), (14, .iand, 1, 0, 0, 0), (15, .istore 4, 2, 0, 0, 0), (17, .iload 4, 2, 0, 0, 0), (19, .bipush 10, 2, 0, 0, 0), (21, .if_icmp .eq 17, 3, 38, 0, 0), (24, .iload 4, 2, 0, 0, 0), (26, .bipush 32, 2, 0, 0, 0),
  (28, .if_icmp .lt 41, 3, 69, 0, 0), (31, .iload 4, 2, 0, 0, 0), (33, .bipush 126, 2, 0, 0, 0), (35, .if_icmp .gt 34, 3, 69, 0, 0), (38, .aload_n 0, 1, 0, 0, 0), (39, .getfield 11, 3, 12, 2, 0), (42, .sipush 1000, 3, 0, 0, 0), (45, .if_icmp .ge 24, 3, 69, 0, 0),
  (48, .aload_n 0, 1, 0, 0, 0), (49, .getfield 14, 3, 12, 1, 2), (52, .aload_n 0, 1, 0, 0, 0), (53, .getfield 11, 3, 12, 2, 0), (56, .iload 4, 2, 0, 0, 0), (58, .iastore, 1, 0, 0, 0), (59, .aload_n 0, 1, 0, 0, 0), (60, .dup, 1, 0, 0, 0),
  (61, .getfield 11, 3, 12, 2, 0), (64, .iconst 1, 1, 0, 0, 0), (65, .iadd, 1, 0, 0, 0), (66, .putfield 11, 3, 12, 2, 0), (69, .iinc 3 (-8), 3, 0, 0, 0), (72, .goto (-69), 3, 3, 0, 0), (75, .return_, 1, 0, 0, 0)]
/-- SamePassersModel.<init>()V -/
def mm_c158 : List (Nat × mm_E) := [(0, .aload_n 0, 1, 0, 0, 0), (1, .invokespecial 18, 3, 0, 0, 4), (4, .aload_n 0, 1, 0, 0, 0), (5, .sipush 1000, 3, 0, 0, 0), (8, .newarray .int, 2, 0, 0, 0), (10, .putfield 14, 3, 12, 1, 2), (13, .aload_n 0, 1, 0, 0, 0), (14, .sipush 1002, 3, 0, 0, 0),
  (17, .newarray .int, 2, 0, 0, 0), (19, .putfield 24, 3, 12, 4, 2), (22, .aload_n 0, 1, 0, 0, 0), (23, .sipush 1002, 3, 0, 0, 0), (26, .newarray .int, 2, 0, 0, 0), (28, .putfield 27, 3, 12, 5, 2), (31, .aload_n 0, 1, 0, 0, 0), (32, .sipush 1002, 3, 0, 0, 0),
  (35, .newarray .long, 2, 0, 0, 0), (37, .putfield 30, 3, 12, 6, 2), (40, .aload_n 0, 1, 0, 0, 0), (41, .bipush 34, 2, 0, 0, 0), (43, .newarray .long, 2, 0, 0, 0), (45, .dup, 1, 0, 0, 0), (46, .iconst 0, 1, 0, 0, 0), (47, .ldc2_w 34, 3, 1, 0, 1355937207),
  (50, .lastore, 1, 0, 0, 0), (51, .dup, 1, 0, 0, 0), (52, .iconst 1, 1, 0, 0, 0), (53, .ldc2_w 36, 3, 1, 0, 22559955), (56, .lastore, 1, 0, 0, 0), (57, .dup, 1, 0, 0, 0), (58, .iconst 2, 1, 0, 0, 0), (59, .ldc2_w 38, 3, 1, 0, 12158575),
  (62, .lastore, 1, 0, 0, 0), (63, .dup, 1, 0, 0, 0), (64, .iconst 3, 1, 0, 0, 0), (65, .ldc2_w 40, 3, 1, 0, 755), (68, .lastore, 1, 0, 0, 0), (69, .dup, 1, 0, 0, 0), (70, .iconst 4, 1, 0, 0, 0), (71, .ldc2_w 42, 3, 1, 0, 36016334),
  (74, .lastore, 1, 0, 0, 0), (75, .dup, 1, 0, 0, 0), (76, .iconst 5, 1, 0, 0, 0), (77, .ldc2_w 44, 3, 1, 0, 26073), (80, .lastore, 1, 0, 0, 0), (81, .dup, 1, 0, 0, 0), (82, .bipush 6, 2, 0, 0, 0), (84, .ldc2_w 46, 3, 1, 0, 57),
  (87, .lastore, 1, 0, 0, 0), (88, .dup, 1, 0, 0, 0), (89, .bipush 7, 2, 0, 0, 0), (91, .ldc2_w 48, 3, 1, 0, 1597408270), (94, .lastore, 1, 0, 0, 0), (95, .dup, 1, 0, 0, 0), (96, .bipush 8, 2, 0, 0, 0), (98, .ldc2_w 50, 3, 1, 0, 609728),
  (101, .lastore, 1, 0, 0, 0), (102, .dup, 1, 0, 0, 0), (103, .bipush 9, 2, 0, 0, 0), (105, .ldc2_w 52, 3, 1, 0, 329128), (108, .lastore, 1, 0, 0, 0), (109, .dup, 1, 0, 0, 0), (110, .bipush 10, 2, 0, 0, 0), (112, .ldc2_w 54, 3, 1, 0, 811933),
  (115, .lastore, 1, 0, 0, 0), (116, .dup, 1, 0, 0, 0), (117, .bipush 11, 2, 0, 0, 0), (119, .ldc2_w 56, 3, 1, 0, 16472), (122, .lastore, 1, 0, 0, 0), (123, .dup, 1, 0, 0, 0), (124, .bipush 12, 2, 0, 0, 0), (126, .ldc2_w 58, 3, 1, 0, 569),
  (129, .lastore, 1, 0, 0, 0), (130, .dup, 1, 0, 0, 0), (131, .bipush 13, 2, 0, 0, 0), (133, .ldc2_w 60, 3, 1, 0, 687961), (136, .lastore, 1, 0, 0, 0), (137, .dup, 1, 0, 0, 0), (138, .bipush 14, 2, 0, 0, 0), (140, .ldc2_w 62, 3, 1, 0, 34523964),
  (143, .lastore, 1, 0, 0, 0), (144, .dup, 1, 0, 0, 0), (145, .bipush 15, 2, 0, 0, 0), (147, .ldc2_w 64, 3, 1, 0, 32936893), (150, .lastore, 1, 0, 0, 0), (151, .dup, 1, 0, 0, 0), (152, .bipush 16, 2, 0, 0, 0), (154, .ldc2_w 66, 3, 1, 0, 20687),
  (157, .lastore, 1, 0, 0, 0), (158, .dup, 1, 0, 0, 0), (159, .bipush 17, 2, 0, 0, 0), (161, .ldc2_w 68, 3, 1, 0, 36624174), (164, .lastore, 1, 0, 0, 0), (165, .dup, 1, 0, 0, 0), (166, .bipush 18, 2, 0, 0, 0), (168, .ldc2_w 70, 3, 1, 0, 1042489),
  (171, .lastore, 1, 0, 0, 0), (172, .dup, 1, 0, 0, 0), (173, .bipush 19, 2, 0, 0, 0), (175, .ldc2_w 72, 3, 1, 0, 609950), (178, .lastore, 1, 0, 0, 0), (179, .dup, 1, 0, 0, 0), (180, .bipush 20, 2, 0, 0, 0), (182, .ldc2_w 74, 3, 1, 0, 1014841),
  (185, .lastore, 1, 0, 0, 0), (186, .dup, 1, 0, 0, 0), (187, .bipush 21, 2, 0, 0, 0), (189, .ldc2_w 76, 3, 1, 0, 614923), (192, .lastore, 1, 0, 0, 0), (193, .dup, 1, 0, 0, 0), (194, .bipush 22, 2, 0, 0, 0), (196, .ldc2_w 78, 3, 1, 0, 34200674),
  (199, .lastore, 1, 0, 0, 0), (200, .dup, 1, 0, 0, 0), (201, .bipush 23, 2, 0, 0, 0), (203, .ldc2_w 80, 3, 1, 0, 30596128), (206, .lastore, 1, 0, 0, 0), (207, .dup, 1, 0, 0, 0), (208, .bipush 24, 2, 0, 0, 0), (210, .ldc2_w 82, 3, 1, 0, 835140),
  (213, .lastore, 1, 0, 0, 0), (214, .dup, 1, 0, 0, 0), (215, .bipush 25, 2, 0, 0, 0), (217, .ldc2_w 84, 3, 1, 0, 6038), (220, .lastore, 1, 0, 0, 0), (221, .dup, 1, 0, 0, 0), (222, .bipush 26, 2, 0, 0, 0), (224, .ldc2_w 86, 3, 1, 0, 36646823),
  (227, .lastore, 1, 0, 0, 0), (228, .dup, 1, 0, 0, 0), (229, .bipush 27, 2, 0, 0, 0), (231, .ldc2_w 88, 3, 1, 0, 19741), (234, .lastore, 1, 0, 0, 0), (235, .dup, 1, 0, 0, 0), (236, .bipush 28, 2, 0, 0, 0), (238, .ldc2_w 90, 3, 1, 0, 1891),
  (241, .lastore, 1, 0, 0, 0), (242, .dup, 1, 0, 0, 0), (243, .bipush 29, 2, 0, 0, 0), (245, .ldc2_w 92, 3, 1, 0, 573), (248, .lastore, 1, 0, 0, 0), (249, .dup, 1, 0, 0, 0), (250, .bipush 30, 2, 0, 0, 0), (252, .ldc2_w 94, 3, 1, 0, 37754889),
  (255, .lastore, 1, 0, 0, 0), (256, .dup, 1, 0, 0, 0), (257, .bipush 31, 2, 0, 0, 0), (259, .ldc2_w 96, 3, 1, 0, 19914), (262, .lastore, 1, 0, 0, 0), (263, .dup, 1, 0, 0, 0), (264, .bipush 32, 2, 0, 0, 0), (266, .ldc2_w 98, 3, 1, 0, 570026),
  (269, .lastore, 1, 0, 0, 0), (270, .dup, 1, 0, 0, 0), (271, .bipush 33, 2, 0, 0, 0), (273, .ldc2_w 100, 3, 1, 0, 1112366095), (276, .lastore, 1, 0, 0, 0), (277, .putfield 102, 3, 12, 9, 2), (280, .aload_n 0, 1, 0, 0, 0), (281, .sipush 200, 3, 0, 0, 0),
  (284, .newarray .int, 2, 0, 0, 0), (286, .putfield 105, 3, 12, 10, 2), (289, .aload_n 0, 1, 0, 0, 0), (290, .sipush 2200, 3, 0, 0, 0), (293, .newarray .int, 2, 0, 0, 0), (295, .putfield 108, 3, 12, 11, 2), (298, .aload_n 0, 1, 0, 0, 0), (299, .sipush 2200, 3, 0, 0, 0),
  (302, .newarray .int, 2, 0, 0, 0), (304, .putfield 111, 3, 12, 12, 2), (307, .aload_n 0, 1, 0, 0, 0), (308, .bipush 14, 2, 0, 0, 0), (310, .newarray .long, 2, 0, 0, 0), (312, .putfield 114, 3, 12, 14, 2), (315, .aload_n 0, 1, 0, 0, 0), (316, .bipush 14, 2, 0, 0, 0),
  (318, .newarray .long, 2, 0, 0, 0), (320, .putfield 117, 3, 12, 15, 2), (323, .aload_n 0, 1, 0, 0, 0), (324, .bipush 14, 2, 0, 0, 0), (326, .newarray .int, 2, 0, 0, 0), (328, .putfield 120, 3, 12, 16, 2), (331, .aload_n 0, 1, 0, 0, 0), (332, .bipush 14, 2, 0, 0, 0),
  (334, .newarray .int, 2, 0, 0, 0), (336, .putfield 123, 3, 12, 17, 2), (339, .aload_n 0, 1, 0, 0, 0), (340, .sipush 200, 3, 0, 0, 0), (343, .newarray .int, 2, 0, 0, 0), (345, .putfield 126, 3, 12, 22, 2), (348, .aload_n 0, 1, 0, 0, 0), (349, .iconst 4, 1, 0, 0, 0),
  (350, .newarray .int, 2, 0, 0, 0), (352, .putfield 129, 3, 12, 23, 2), (355, .aload_n 0, 1, 0, 0, 0), (356, .sipush 1100, 3, 0, 0, 0), (359, .newarray .int, 2, 0, 0, 0), (361, .putfield 132, 3, 12, 24, 2), (364, .aload_n 0, 1, 0, 0, 0), (365, .sipush 1840, 3, 0, 0, 0),
  (368, .newarray .int, 2, 0, 0, 0), (370, .putfield 135, 3, 12, 25, 2), (373, .aload_n 0, 1, 0, 0, 0), (374, .iconst 4, 1, 0, 0, 0), (375, .newarray .boolean, 2, 0, 0, 0), (377, .putfield 138, 3, 12, 27, 2), (380, .aload_n 0, 1, 0, 0, 0), (381, .iconst 4, 1, 0, 0, 0),
  (382, .newarray .int, 2, 0, 0, 0), (384, .putfield 142, 3, 12, 28, 2), (387, .aload_n 0, 1, 0, 0, 0), (388, .iconst 4, 1, 0, 0, 0), (389, .newarray .int, 2, 0, 0, 0), (391, .putfield 145, 3, 12, 29, 2), (394, .aload_n 0, 1, 0, 0, 0), (395, .sipush 9216, 3, 0, 0, 0),
  (398, .newarray .boolean, 2, 0, 0, 0), (400, .putfield 148, 3, 12, 30, 2), (403, .aload_n 0, 1, 0, 0, 0), (404, .bipush 96, 2, 0, 0, 0), (406, .newarray .boolean, 2, 0, 0, 0), (408, .putfield 151, 3, 12, 31, 2), (411, .aload_n 0, 1, 0, 0, 0), (412, .iconst 4, 1, 0, 0, 0),
  (413, .newarray .int, 2, 0, 0, 0), (415, .putfield 154, 3, 12, 32, 2), (418, .aload_n 0, 1, 0, 0, 0), (419, .iconst 4, 1, 0, 0, 0), (420, .newarray .int, 2, 0, 0, 0), (422, .putfield 157, 3, 12, 33, 2), (425, .aload_n 0, 1, 0, 0, 0), (426, .bipush 10, 2, 0, 0, 0),
  (428, .newarray .int, 2, 0, 0, 0), (430, .putfield 160, 3, 12, 36, 2), (433, .aload_n 0, 1, 0, 0, 0), (434, .bipush 10, 2, 0, 0, 0), (436, .newarray .boolean, 2, 0, 0, 0), (438, .putfield 163, 3, 12, 37, 2), (441, .aload_n 0, 1, 0, 0, 0), (442, .bipush 10, 2, 0, 0, 0),
  (444, .newarray .int, 2, 0, 0, 0), (446, .putfield 166, 3, 12, 38, 2), (449, .aload_n 0, 1, 0, 0, 0), (450, .iconst 0, 1, 0, 0, 0), (451, .invokevirtual 169, 3, 159, 2, 2), (454, .aload_n 0, 1, 0, 0, 0), (455, .invokevirtual 173, 3, 160, 1, 2), (458, .return_, 1, 0, 0, 0)]
/-- SamePassersModel.standsAsAlways(I)V -/
def mm_c159 : List (Nat × mm_E) := [(0, .iconst 0, 1, 0, 0, 0), (1, .istore_n 2, 1, 0, 0, 0), (2, .iload_n 2, 1, 0, 0, 0), (3, .bipush 100, 2, 0, 0, 0), (5, .if_icmp .ge 18, 3, 23, 0, 0), (8, .aload_n 0, 1, 0, 0, 0), (9, .getfield 105, 3, 12, 10, 2), (12, .iload_n 1, 1, 0, 0, 0),
  (13, .iload_n 2, 1, 0, 0, 0), (14, .iadd, 1, 0, 0, 0), (15, .iconst 0, 1, 0, 0, 0), (16, .iastore, 1, 0, 0, 0), (17, .iinc 2 1, 3, 0, 0, 0), (20, .goto (-18), 3, 2, 0, 0), (23, .aload_n 0, 1, 0, 0, 0), (24, .getfield 105, 3, 12, 10, 2),
  (27, .iload_n 1, 1, 0, 0, 0), (28, .iconst 0, 1, 0, 0, 0), (29, .iadd, 1, 0, 0, 0), (30, .iconst 4, 1, 0, 0, 0), (31, .iastore, 1, 0, 0, 0), (32, .aload_n 0, 1, 0, 0, 0), (33, .getfield 105, 3, 12, 10, 2), (36, .iload_n 1, 1, 0, 0, 0),
  (37, .iconst 1, 1, 0, 0, 0), (38, .iadd, 1, 0, 0, 0), (39, .iconst 1, 1, 0, 0, 0), (40, .iastore, 1, 0, 0, 0), (41, .aload_n 0, 1, 0, 0, 0), (42, .getfield 105, 3, 12, 10, 2), (45, .iload_n 1, 1, 0, 0, 0), (46, .iconst 2, 1, 0, 0, 0),
  (47, .iadd, 1, 0, 0, 0), (48, .iconst 1, 1, 0, 0, 0), (49, .iadd, 1, 0, 0, 0), (50, .iconst 3, 1, 0, 0, 0), (51, .iastore, 1, 0, 0, 0), (52, .aload_n 0, 1, 0, 0, 0), (53, .getfield 105, 3, 12, 10, 2), (56, .iload_n 1, 1, 0, 0, 0),
  (57, .iconst 4, 1, 0, 0, 0), (58, .iadd, 1, 0, 0, 0), (59, .iconst 1, 1, 0, 0, 0), (60, .iastore, 1, 0, 0, 0), (61, .aload_n 0, 1, 0, 0, 0), (62, .getfield 105, 3, 12, 10, 2), (65, .iload_n 1, 1, 0, 0, 0), (66, .bipush 8, 2, 0, 0, 0),
  (68, .iadd, 1, 0, 0, 0), (69, .bipush 20, 2, 0, 0, 0), (71, .iastore, 1, 0, 0, 0), (72, .aload_n 0, 1, 0, 0, 0), (73, .getfield 105, 3, 12, 10, 2), (76, .iload_n 1, 1, 0, 0, 0), (77, .bipush 9, 2, 0, 0, 0), (79, .iadd, 1, 0, 0, 0),
  (80, .iconst (-1), 1, 0, 0, 0), (81, .iastore, 1, 0, 0, 0), (82, .aload_n 0, 1, 0, 0, 0), (83, .getfield 105, 3, 12, 10, 2), (86, .iload_n 1, 1, 0, 0, 0), (87, .bipush 9, 2, 0, 0, 0), (89, .iadd, 1, 0, 0, 0), (90, .iconst 1, 1, 0, 0, 0),
  (91, .iadd, 1, 0, 0, 0), (92, .iconst (-1), 1, 0, 0, 0), (93, .iastore, 1, 0, 0, 0), (94, .return_, 1, 0, 0, 0)]
/-- SamePassersModel.begins()V -/
def mm_c160 : List (Nat × mm_E) := [(0, .aload_n 0, 1, 0, 0, 0), (1, .iconst 0, 1, 0, 0, 0), (2, .invokevirtual 325, 3, 161, 2, 2), (5, .aload_n 0, 1, 0, 0, 0), (6, .getfield 135, 3, 12, 25, 2), (9, .bipush 25, 2, 0, 0, 0), (11, .iconst 0, 1, 0, 0, 0), (12, .iastore, 1, 0, 0, 0),
  (13, .aload_n 0, 1, 0, 0, 0), (14, .getfield 135, 3, 12, 25, 2), (17, .bipush 46, 2, 0, 0, 0), (19, .iconst 0, 1, 0, 0, 0), (20, .iastore, 1, 0, 0, 0), (21, .aload_n 0, 1, 0, 0, 0), (22, .getfield 126, 3, 12, 22, 2), (25, .iconst 0, 1, 0, 0, 0),
  (26, .iconst 0, 1, 0, 0, 0), (27, .iastore, 1, 0, 0, 0), (28, .aload_n 0, 1, 0, 0, 0), (29, .iconst 0, 1, 0, 0, 0), (30, .putfield 328, 3, 12, 26, 0), (33, .iconst 0, 1, 0, 0, 0), (34, .istore_n 1, 1, 0, 0, 0), (35, .iload_n 1, 1, 0, 0, 0),
  (36, .iconst 4, 1, 0, 0, 0), (37, .if_icmp .ge 16, 3, 53, 0, 0), (40, .aload_n 0, 1, 0, 0, 0), (41, .getfield 138, 3, 12, 27, 2), (44, .iload_n 1, 1, 0, 0, 0), (45, .iconst 0, 1, 0, 0, 0), (46, .bastore, 1, 0, 0, 0), (47, .iinc 1 1, 3, 0, 0, 0),
  (50, .goto (-15), 3, 35, 0, 0), (53, .return_, 1, 0, 0, 0)]
/-- SamePassersModel.starts(I)V -/
def mm_c161 : List (Nat × mm_E) := [(0, .aload_n 0, 1, 0, 0, 0), (1, .getfield 135, 3, 12, 25, 2), (4, .iload_n 1, 1, 0, 0, 0), (5, .iconst 0, 1, 0, 0, 0), (6, .iadd, 1, 0, 0, 0), (7, .iconst 0, 1, 0, 0, 0), (8, .iastore, 1, 0, 0, 0), (9, .iconst 0, 1, 0, 0, 0),
  (10, .istore_n 2, 1, 0, 0, 0), (11, .iload_n 2, 1, 0, 0, 0), (12, .bipush 8, 2, 0, 0, 0), (14, .if_icmp .ge 54, 3, 68, 0, 0), (17, .aload_n 0, 1, 0, 0, 0), (18, .getfield 135, 3, 12, 25, 2), (21, .iload_n 1, 1, 0, 0, 0), (22, .iconst 1, 1, 0, 0, 0),
  (23, .iadd, 1, 0, 0, 0), (24, .iload_n 2, 1, 0, 0, 0), (25, .iadd, 1, 0, 0, 0), (26, .aload_n 0, 1, 0, 0, 0), (27, .iload_n 2, 1, 0, 0, 0), (28, .iconst 2, 1, 0, 0, 0), (29, .invokevirtual 322, 3, 162, 3, 2), (32, .iastore, 1, 0, 0, 0),
  (33, .aload_n 0, 1, 0, 0, 0), (34, .getfield 135, 3, 12, 25, 2), (37, .iload_n 1, 1, 0, 0, 0), (38, .bipush 9, 2, 0, 0, 0), (40, .iadd, 1, 0, 0, 0), (41, .iload_n 2, 1, 0, 0, 0), (42, .iadd, 1, 0, 0, 0), (43, .aload_n 0, 1, 0, 0, 0),
  (44, .iload_n 2, 1, 0, 0, 0), (45, .iconst 3, 1, 0, 0, 0), (46, .invokevirtual 322, 3, 162, 3, 2), (49, .iastore, 1, 0, 0, 0), (50, .aload_n 0, 1, 0, 0, 0), (51, .getfield 135, 3, 12, 25, 2), (54, .iload_n 1, 1, 0, 0, 0), (55, .bipush 17, 2, 0, 0, 0),
  (57, .iadd, 1, 0, 0, 0), (58, .iload_n 2, 1, 0, 0, 0), (59, .iadd, 1, 0, 0, 0), (60, .iconst 0, 1, 0, 0, 0), (61, .iastore, 1, 0, 0, 0), (62, .iinc 2 1, 3, 0, 0, 0), (65, .goto (-54), 3, 11, 0, 0), (68, .return_, 1, 0, 0, 0)]
/-- SamePassersModel.walkerOf(II)I -/
def mm_c162 : List (Nat × mm_E) := [(0, .aload_n 0, 1, 0, 0, 0), (1, .getfield 105, 3, 12, 10, 2), (4, .bipush 17, 2, 0, 0, 0), (6, .bipush 7, 2, 0, 0, 0), (8, .iload_n 1, 1, 0, 0, 0), (9, .imul, 1, 0, 0, 0), (10, .iadd, 1, 0, 0, 0), (11, .iload_n 2, 1, 0, 0, 0),
  (12, .iadd, 1, 0, 0, 0), (13, .iaload, 1, 0, 0, 0), (14, .ireturn, 1, 0, 0, 0)]
/-- SamePassersModel.street()I -/
def mm_c163 : List (Nat × mm_E) := [(0, .aload_n 0, 1, 0, 0, 0), (1, .iconst 0, 1, 0, 0, 0), (2, .putfield 1, 3, 12, 0, 0), (5, .aload_n 0, 1, 0, 0, 0), (6, .invokevirtual 249, 3, 164, 1, 2), (9, .aload_n 0, 1, 0, 0, 0), (10, .iconst 0, 1, 0, 0, 0), (11, .putfield 252, 3, 12, 13, 0),
  (14, .aload_n 0, 1, 0, 0, 0), (15, .iconst 0, 1, 0, 0, 0), (16, .putfield 227, 3, 12, 19, 0), (19, .aload_n 0, 1, 0, 0, 0), (20, .iconst 0, 1, 0, 0, 0), (21, .putfield 255, 3, 12, 20, 3), (24, .aload_n 0, 1, 0, 0, 0), (25, .bipush 100, 2, 0, 0, 0),
  (27, .invokevirtual 169, 3, 159, 2, 2), (30, .aload_n 0, 1, 0, 0, 0), (31, .iconst 0, 1, 0, 0, 0), (32, .invokevirtual 217, 3, 169, 2, 2), (35, .aload_n 0, 1, 0, 0, 0), (36, .getfield 105, 3, 12, 10, 2), (39, .bipush 100, 2, 0, 0, 0), (41, .aload_n 0, 1, 0, 0, 0),
  (42, .iconst 4, 1, 0, 0, 0), (43, .bipush 40, 2, 0, 0, 0), (45, .invokevirtual 220, 3, 173, 3, 2), (48, .iastore, 1, 0, 0, 0), (49, .aload_n 0, 1, 0, 0, 0), (50, .getfield 105, 3, 12, 10, 2), (53, .bipush 101, 2, 0, 0, 0), (55, .aload_n 0, 1, 0, 0, 0),
  (56, .iconst 1, 1, 0, 0, 0), (57, .iconst 1, 1, 0, 0, 0), (58, .iconst 4, 1, 0, 0, 0), (59, .invokevirtual 259, 3, 174, 4, 2), (62, .iastore, 1, 0, 0, 0), (63, .aload_n 0, 1, 0, 0, 0), (64, .getfield 105, 3, 12, 10, 2), (67, .bipush 102, 2, 0, 0, 0),
  (69, .aload_n 0, 1, 0, 0, 0), (70, .iconst 2, 1, 0, 0, 0), (71, .iconst 0, 1, 0, 0, 0), (72, .aload_n 0, 1, 0, 0, 0), (73, .getfield 105, 3, 12, 10, 2), (76, .bipush 100, 2, 0, 0, 0), (78, .iaload, 1, 0, 0, 0), (79, .iconst 1, 1, 0, 0, 0),
  (80, .isub, 1, 0, 0, 0), (81, .invokevirtual 259, 3, 174, 4, 2), (84, .iastore, 1, 0, 0, 0), (85, .aload_n 0, 1, 0, 0, 0), (86, .getfield 105, 3, 12, 10, 2), (89, .bipush 103, 2, 0, 0, 0), (91, .aload_n 0, 1, 0, 0, 0), (92, .iconst 3, 1, 0, 0, 0),
  (93, .aload_n 0, 1, 0, 0, 0), (94, .getfield 105, 3, 12, 10, 2), (97, .bipush 102, 2, 0, 0, 0), (99, .iaload, 1, 0, 0, 0), (100, .aload_n 0, 1, 0, 0, 0), (101, .getfield 105, 3, 12, 10, 2), (104, .bipush 100, 2, 0, 0, 0), (106, .iaload, 1, 0, 0, 0),
  (107, .iconst 1, 1, 0, 0, 0), (108, .isub, 1, 0, 0, 0), (109, .invokevirtual 259, 3, 174, 4, 2), (112, .iastore, 1, 0, 0, 0), (113, .aload_n 0, 1, 0, 0, 0), (114, .getfield 105, 3, 12, 10, 2), (117, .bipush 104, 2, 0, 0, 0), (119, .aload_n 0, 1, 0, 0, 0),
  (120, .iconst 4, 1, 0, 0, 0), (121, .iconst 0, 1, 0, 0, 0), (122, .aload_n 0, 1, 0, 0, 0), (123, .getfield 105, 3, 12, 10, 2), (126, .bipush 101, 2, 0, 0, 0), (128, .iaload, 1, 0, 0, 0), (129, .invokevirtual 259, 3, 174, 4, 2), (132, .iastore, 1, 0, 0, 0),
  (133, .aload_n 0, 1, 0, 0, 0), (134, .bipush 59, 2, 0, 0, 0), (136, .invokevirtual 263, 3, 175, 2, 2), (139, .aload_n 0, 1, 0, 0, 0), (140, .getfield 202, 3, 12, 8, 0), (143, .ifCond .ne 28, 3, 171, 0, 0), (146, .aload_n 0, 1, 0, 0, 0), (147, .getfield 24, 3, 12, 4, 2),
  (150, .aload_n 0, 1, 0, 0, 0), (151, .getfield 199, 3, 12, 7, 0), (154, .iaload, 1, 0, 0, 0), (155, .ifCond .eq 16, 3, 171, 0, 0), (158, .aload_n 0, 1, 0, 0, 0), (159, .invokevirtual 266, 3, 177, 1, 2), (162, .aload_n 0, 1, 0, 0, 0), (163, .bipush 59, 2, 0, 0, 0),
  (165, .invokevirtual 263, 3, 175, 2, 2), (168, .goto (-29), 3, 139, 0, 0), (171, .aload_n 0, 1, 0, 0, 0), (172, .getfield 202, 3, 12, 8, 0), (175, .ifCond .le 8, 3, 183, 0, 0), (178, .aload_n 0, 1, 0, 0, 0), (179, .getfield 202, 3, 12, 8, 0), (182, .ireturn, 1, 0, 0, 0),
  (183, .iconst 0, 1, 0, 0, 0), (184, .istore_n 1, 1, 0, 0, 0), (185, .iload_n 1, 1, 0, 0, 0), (186, .bipush 100, 2, 0, 0, 0), (188, .if_icmp .ge 24, 3, 212, 0, 0), (191, .aload_n 0, 1, 0, 0, 0), (192, .getfield 105, 3, 12, 10, 2), (195, .iload_n 1, 1, 0, 0, 0),
  (196, .aload_n 0, 1, 0, 0, 0), (197, .getfield 105, 3, 12, 10, 2), (200, .bipush 100, 2, 0, 0, 0), (202, .iload_n 1, 1, 0, 0, 0), (203, .iadd, 1, 0, 0, 0), (204, .iaload, 1, 0, 0, 0), (205, .iastore, 1, 0, 0, 0), (206, .iinc 1 1, 3, 0, 0, 0),
  (209, .goto (-24), 3, 185, 0, 0), (212, .iconst 0, 1, 0, 0, 0), (213, .istore_n 1, 1, 0, 0, 0), (214, .iload_n 1, 1, 0, 0, 0), (215, .aload_n 0, 1, 0, 0, 0), (216, .getfield 252, 3, 12, 13, 0), (219, .if_icmp .ge 41, 3, 260, 0, 0), (222, .aload_n 0, 1, 0, 0, 0),
  (223, .getfield 108, 3, 12, 11, 2), (226, .iload_n 1, 1, 0, 0, 0), (227, .aload_n 0, 1, 0, 0, 0), (228, .getfield 108, 3, 12, 11, 2), (231, .sipush 1100, 3, 0, 0, 0), (234, .iload_n 1, 1, 0, 0, 0), (235, .iadd, 1, 0, 0, 0), (236, .iaload, 1, 0, 0, 0),
  (237, .iastore, 1, 0, 0, 0), (238, .aload_n 0, 1, 0, 0, 0), (239, .getfield 111, 3, 12, 12, 2), (242, .iload_n 1, 1, 0, 0, 0), (243, .aload_n 0, 1, 0, 0, 0), (244, .getfield 111, 3, 12, 12, 2), (247, .sipush 1100, 3, 0, 0, 0), (250, .iload_n 1, 1, 0, 0, 0),
  (251, .iadd, 1, 0, 0, 0), (252, .iaload, 1, 0, 0, 0), (253, .iastore, 1, 0, 0, 0), (254, .iinc 1 1, 3, 0, 0, 0), (257, .goto (-43), 3, 214, 0, 0), (260, .iconst 0, 1, 0, 0, 0), (261, .istore_n 1, 1, 0, 0, 0), (262, .iload_n 1, 1, 0, 0, 0),
  (263, .aload_n 0, 1, 0, 0, 0), (264, .getfield 227, 3, 12, 19, 0), (267, .if_icmp .ge 33, 3, 300, 0, 0), (270, .aload_n 0, 1, 0, 0, 0), (271, .getfield 114, 3, 12, 14, 2), (274, .iload_n 1, 1, 0, 0, 0), (275, .aload_n 0, 1, 0, 0, 0), (276, .getfield 117, 3, 12, 15, 2),
  (279, .iload_n 1, 1, 0, 0, 0), (280, .laload, 1, 0, 0, 0), (281, .lastore, 1, 0, 0, 0), (282, .aload_n 0, 1, 0, 0, 0), (283, .getfield 120, 3, 12, 16, 2), (286, .iload_n 1, 1, 0, 0, 0), (287, .aload_n 0, 1, 0, 0, 0), (288, .getfield 123, 3, 12, 17, 2),
  (291, .iload_n 1, 1, 0, 0, 0), (292, .iaload, 1, 0, 0, 0), (293, .iastore, 1, 0, 0, 0), (294, .iinc 1 1, 3, 0, 0, 0), (297, .goto (-35), 3, 262, 0, 0), (300, .aload_n 0, 1, 0, 0, 0), (301, .aload_n 0, 1, 0, 0, 0), (302, .getfield 227, 3, 12, 19, 0),
  (305, .putfield 230, 3, 12, 18, 0), (308, .aload_n 0, 1, 0, 0, 0), (309, .invokevirtual 173, 3, 160, 1, 2), (312, .iconst 0, 1, 0, 0, 0), (313, .ireturn, 1, 0, 0, 0)]
/-- SamePassersModel.cutAll()V -/
def mm_c164 : List (Nat × mm_E) := [(0, .aload_n 0, 1, 0, 0, 0), (1, .aload_n 0, 1, 0, 0, 0), (2, .getfield 11, 3, 12, 2, 0), (5, .putfield 180, 3, 12, 3, 0), (8, .aload_n 0, 1, 0, 0, 0), (9, .iconst 0, 1, 0, 0, 0), (10, .putfield 11, 3, 12, 2, 0), (13, .iconst 0, 1, 0, 0, 0),
  (14, .istore_n 1, 1, 0, 0, 0), (15, .iconst 0, 1, 0, 0, 0), (16, .istore_n 2, 1, 0, 0, 0), (17, .iload_n 2, 1, 0, 0, 0), (18, .aload_n 0, 1, 0, 0, 0), (19, .getfield 180, 3, 12, 3, 0), (22, .if_icmp .ge 257, 3, 279, 0, 0), (25, .aload_n 0, 1, 0, 0, 0),
  (26, .getfield 14, 3, 12, 1, 2), (29, .iload_n 2, 1, 0, 0, 0), (30, .iaload, 1, 0, 0, 0), (31, .istore_n 3, 1, 0, 0, 0), (32, .iload_n 3, 1, 0, 0, 0), (33, .bipush 10, 2, 0, 0, 0), (35, .if_icmp .eq 9, 3, 44, 0, 0), (38, .iload_n 3, 1, 0, 0, 0),
  (39, .bipush 32, 2, 0, 0, 0), (41, .if_icmp .ne 9, 3, 50, 0, 0), (44, .iinc 2 1, 3, 0, 0, 0), (47, .goto (-30), 3, 17, 0, 0), (50, .iload_n 2, 1, 0, 0, 0), (51, .istore 4, 2, 0, 0, 0), (53, .lconst 0, 1, 0, 0, 0), (54, .lstore 5, 2, 0, 0, 0),
  (56, .aload_n 0, 1, 0, 0, 0), (57, .getfield 27, 3, 12, 5, 2), (60, .iload_n 1, 1, 0, 0, 0), (61, .iload_n 2, 1, 0, 0, 0), (62, .iastore, 1, 0, 0, 0), (63, .iload_n 3, 1, 0, 0, 0), (64, .invokestatic 176, 3, 165, 1, 0), (67, .ifCond .eq 85, 3, 152, 0, 0),
  (70, .iload_n 2, 1, 0, 0, 0), (71, .aload_n 0, 1, 0, 0, 0), (72, .getfield 180, 3, 12, 3, 0), (75, .if_icmp .ge 54, 3, 129, 0, 0), (78, .aload_n 0, 1, 0, 0, 0), (79, .getfield 14, 3, 12, 1, 2), (82, .iload_n 2, 1, 0, 0, 0), (83, .iaload, 1, 0, 0, 0),
  (84, .invokestatic 176, 3, 165, 1, 0), (87, .ifCond .eq 42, 3, 129, 0, 0), (90, .iload_n 2, 1, 0, 0, 0), (91, .iload 4, 2, 0, 0, 0), (93, .isub, 1, 0, 0, 0), (94, .bipush 8, 2, 0, 0, 0), (96, .if_icmp .ge 23, 3, 119, 0, 0), (99, .ldc2_w 183, 3, 1, 0, 37),
  (102, .lload 5, 2, 0, 0, 0), (104, .lmul, 1, 0, 0, 0), (105, .aload_n 0, 1, 0, 0, 0), (106, .getfield 14, 3, 12, 1, 2), (109, .iload_n 2, 1, 0, 0, 0), (110, .iaload, 1, 0, 0, 0), (111, .invokestatic 185, 3, 166, 1, 0), (114, .i2l, 1, 0, 0, 0),
  (115, .ladd, 1, 0, 0, 0), (116, .goto 5, 3, 121, 0, 0), (119, .lload 5, 2, 0, 0, 0), (121, .lstore 5, 2, 0, 0, 0), (123, .iinc 2 1, 3, 0, 0, 0), (126, .goto (-56), 3, 70, 0, 0), (129, .aload_n 0, 1, 0, 0, 0), (130, .getfield 24, 3, 12, 4, 2),
  (133, .iload_n 1, 1, 0, 0, 0), (134, .iload_n 2, 1, 0, 0, 0), (135, .iload 4, 2, 0, 0, 0), (137, .isub, 1, 0, 0, 0), (138, .bipush 8, 2, 0, 0, 0), (140, .if_icmp .le 7, 3, 147, 0, 0), (143, .iconst 4, 1, 0, 0, 0), (144, .goto 4, 3, 148, 0, 0),
  (147, .iconst 1, 1, 0, 0, 0), (148, .iastore, 1, 0, 0, 0), (149, .goto 116, 3, 265, 0, 0), (152, .iload_n 3, 1, 0, 0, 0), (153, .invokestatic 189, 3, 167, 1, 0), (156, .ifCond .eq 84, 3, 240, 0, 0), (159, .iload_n 2, 1, 0, 0, 0), (160, .aload_n 0, 1, 0, 0, 0),
  (161, .getfield 180, 3, 12, 3, 0), (164, .if_icmp .ge 54, 3, 218, 0, 0), (167, .aload_n 0, 1, 0, 0, 0), (168, .getfield 14, 3, 12, 1, 2), (171, .iload_n 2, 1, 0, 0, 0), (172, .iaload, 1, 0, 0, 0), (173, .invokestatic 189, 3, 167, 1, 0), (176, .ifCond .eq 42, 3, 218, 0, 0),
  (179, .iload_n 2, 1, 0, 0, 0), (180, .iload 4, 2, 0, 0, 0), (182, .isub, 1, 0, 0, 0), (183, .iconst 4, 1, 0, 0, 0), (184, .if_icmp .ge 24, 3, 208, 0, 0), (187, .ldc2_w 192, 3, 1, 0, 10), (190, .lload 5, 2, 0, 0, 0), (192, .lmul, 1, 0, 0, 0),
  (193, .aload_n 0, 1, 0, 0, 0), (194, .getfield 14, 3, 12, 1, 2), (197, .iload_n 2, 1, 0, 0, 0), (198, .iaload, 1, 0, 0, 0), (199, .i2l, 1, 0, 0, 0), (200, .ladd, 1, 0, 0, 0), (201, .ldc2_w 194, 3, 1, 0, 48), (204, .lsub, 1, 0, 0, 0),
  (205, .goto 5, 3, 210, 0, 0), (208, .lload 5, 2, 0, 0, 0), (210, .lstore 5, 2, 0, 0, 0), (212, .iinc 2 1, 3, 0, 0, 0), (215, .goto (-56), 3, 159, 0, 0), (218, .aload_n 0, 1, 0, 0, 0), (219, .getfield 24, 3, 12, 4, 2), (222, .iload_n 1, 1, 0, 0, 0),
  (223, .iload_n 2, 1, 0, 0, 0), (224, .iload 4, 2, 0, 0, 0), (226, .isub, 1, 0, 0, 0), (227, .iconst 4, 1, 0, 0, 0), (228, .if_icmp .le 7, 3, 235, 0, 0), (231, .iconst 4, 1, 0, 0, 0), (232, .goto 4, 3, 236, 0, 0), (235, .iconst 2, 1, 0, 0, 0),
  (236, .iastore, 1, 0, 0, 0), (237, .goto 28, 3, 265, 0, 0), (240, .iload_n 3, 1, 0, 0, 0), (241, .i2l, 1, 0, 0, 0), (242, .lstore 5, 2, 0, 0, 0), (244, .aload_n 0, 1, 0, 0, 0), (245, .getfield 24, 3, 12, 4, 2), (248, .iload_n 1, 1, 0, 0, 0),
  (249, .iload_n 3, 1, 0, 0, 0), (250, .invokestatic 196, 3, 168, 1, 0), (253, .ifCond .eq 7, 3, 260, 0, 0), (256, .iconst 3, 1, 0, 0, 0), (257, .goto 4, 3, 261, 0, 0), (260, .iconst 4, 1, 0, 0, 0), (261, .iastore, 1, 0, 0, 0), (262, .iinc 2 1, 3, 0, 0, 0),
  (265, .aload_n 0, 1, 0, 0, 0), (266, .getfield 30, 3, 12, 6, 2), (269, .iload_n 1, 1, 0, 0, 0), (270, .lload 5, 2, 0, 0, 0), (272, .lastore, 1, 0, 0, 0), (273, .iinc 1 1, 3, 0, 0, 0), (276, .goto (-259), 3, 17, 0, 0), (279, .aload_n 0, 1, 0, 0, 0),
  (280, .getfield 24, 3, 12, 4, 2), (283, .iload_n 1, 1, 0, 0, 0), (284, .iconst 0, 1, 0, 0, 0), (285, .iastore, 1, 0, 0, 0), (286, .aload_n 0, 1, 0, 0, 0), (287, .getfield 27, 3, 12, 5, 2), (290, .iload_n 1, 1, 0, 0, 0), (291, .aload_n 0, 1, 0, 0, 0),
  (292, .getfield 180, 3, 12, 3, 0), (295, .iastore, 1, 0, 0, 0), (296, .aload_n 0, 1, 0, 0, 0), (297, .iconst 0, 1, 0, 0, 0), (298, .putfield 199, 3, 12, 7, 0), (301, .aload_n 0, 1, 0, 0, 0), (302, .iconst 0, 1, 0, 0, 0), (303, .putfield 202, 3, 12, 8, 0),
  (306, .return_, 1, 0, 0, 0)]
/-- SamePassersModel.isLetter(I)Z -/
def mm_c165 : List (Nat × mm_E) := [(0, .iload_n 0, 1, 0, 0, 0), (1, .bipush 97, 2, 0, 0, 0), (3, .if_icmp .lt 13, 3, 16, 0, 0), (6, .iload_n 0, 1, 0, 0, 0), (7, .bipush 122, 2, 0, 0, 0), (9, .if_icmp .gt 7, 3, 16, 0, 0), (12, .iconst 1, 1, 0, 0, 0), (13, .goto 4, 3, 17, 0, 0),
  (16, .iconst 0, 1, 0, 0, 0), (17, .ireturn, 1, 0, 0, 0)]
/-- SamePassersModel.rank(I)I -/
def mm_c166 : List (Nat × mm_E) := [(0, .iload_n 0, 1, 0, 0, 0), (1, .invokestatic 176, 3, 165, 1, 0), (4, .ifCond .eq 10, 3, 14, 0, 0), (7, .iload_n 0, 1, 0, 0, 0), (8, .bipush 96, 2, 0, 0, 0), (10, .isub, 1, 0, 0, 0), (11, .goto 7, 3, 18, 0, 0), (14, .iload_n 0, 1, 0, 0, 0),
  (15, .bipush 21, 2, 0, 0, 0), (17, .isub, 1, 0, 0, 0), (18, .ireturn, 1, 0, 0, 0)]
/-- SamePassersModel.isDigit(I)Z -/
def mm_c167 : List (Nat × mm_E) := [(0, .iload_n 0, 1, 0, 0, 0), (1, .bipush 48, 2, 0, 0, 0), (3, .if_icmp .lt 13, 3, 16, 0, 0), (6, .iload_n 0, 1, 0, 0, 0), (7, .bipush 57, 2, 0, 0, 0), (9, .if_icmp .gt 7, 3, 16, 0, 0), (12, .iconst 1, 1, 0, 0, 0), (13, .goto 4, 3, 17, 0, 0),
  (16, .iconst 0, 1, 0, 0, 0), (17, .ireturn, 1, 0, 0, 0)]
/-- SamePassersModel.isSignOf(I)Z -/
def mm_c168 : List (Nat × mm_E) := [(0, .iload_n 0, 1, 0, 0, 0), (1, .bipush 40, 2, 0, 0, 0), (3, .if_icmp .eq 45, 3, 48, 0, 0), (6, .iload_n 0, 1, 0, 0, 0), (7, .bipush 41, 2, 0, 0, 0), (9, .if_icmp .eq 39, 3, 48, 0, 0), (12, .iload_n 0, 1, 0, 0, 0), (13, .bipush 59, 2, 0, 0, 0),
  (15, .if_icmp .eq 33, 3, 48, 0, 0), (18, .iload_n 0, 1, 0, 0, 0), (19, .bipush 61, 2, 0, 0, 0), (21, .if_icmp .eq 27, 3, 48, 0, 0), (24, .iload_n 0, 1, 0, 0, 0), (25, .bipush 60, 2, 0, 0, 0), (27, .if_icmp .eq 21, 3, 48, 0, 0), (30, .iload_n 0, 1, 0, 0, 0),
  (31, .bipush 43, 2, 0, 0, 0), (33, .if_icmp .eq 15, 3, 48, 0, 0), (36, .iload_n 0, 1, 0, 0, 0), (37, .bipush 45, 2, 0, 0, 0), (39, .if_icmp .eq 9, 3, 48, 0, 0), (42, .iload_n 0, 1, 0, 0, 0), (43, .bipush 42, 2, 0, 0, 0), (45, .if_icmp .ne 7, 3, 52, 0, 0),
  (48, .iconst 1, 1, 0, 0, 0), (49, .goto 4, 3, 53, 0, 0), (52, .iconst 0, 1, 0, 0, 0), (53, .ireturn, 1, 0, 0, 0)]
/-- SamePassersModel.takeWord(I)V -/
def mm_c169 : List (Nat × mm_E) := [(0, .aload_n 0, 1, 0, 0, 0), (1, .iload_n 1, 1, 0, 0, 0), (2, .invokevirtual 214, 3, 170, 2, 2), (5, .ifCond .ne 8, 3, 13, 0, 0), (8, .aload_n 0, 1, 0, 0, 0), (9, .iconst 1, 1, 0, 0, 0), (10, .invokevirtual 208, 3, 172, 2, 2), (13, .return_, 1, 0, 0, 0)]
/-- SamePassersModel.hasWord(I)Z -/
def mm_c170 : List (Nat × mm_E) := [(0, .aload_n 0, 1, 0, 0, 0), (1, .iload_n 1, 1, 0, 0, 0), (2, .invokevirtual 211, 3, 171, 2, 2), (5, .istore_n 2, 1, 0, 0, 0), (6, .aload_n 0, 1, 0, 0, 0), (7, .dup, 1, 0, 0, 0), (8, .getfield 199, 3, 12, 7, 0), (11, .iload_n 2, 1, 0, 0, 0),
  (12, .ifCond .eq 7, 3, 19, 0, 0), (15, .iconst 1, 1, 0, 0, 0), (16, .goto 4, 3, 20, 0, 0), (19, .iconst 0, 1, 0, 0, 0), (20, .iadd, 1, 0, 0, 0), (21, .putfield 199, 3, 12, 7, 0), (24, .iload_n 2, 1, 0, 0, 0), (25, .ireturn, 1, 0, 0, 0)]
/-- SamePassersModel.isWord(I)Z -/
def mm_c171 : List (Nat × mm_E) := [(0, .aload_n 0, 1, 0, 0, 0), (1, .getfield 202, 3, 12, 8, 0), (4, .ifCond .ne 39, 3, 43, 0, 0), (7, .aload_n 0, 1, 0, 0, 0), (8, .getfield 24, 3, 12, 4, 2), (11, .aload_n 0, 1, 0, 0, 0), (12, .getfield 199, 3, 12, 7, 0), (15, .iaload, 1, 0, 0, 0),
  (16, .iconst 1, 1, 0, 0, 0), (17, .if_icmp .ne 26, 3, 43, 0, 0), (20, .aload_n 0, 1, 0, 0, 0), (21, .getfield 30, 3, 12, 6, 2), (24, .aload_n 0, 1, 0, 0, 0), (25, .getfield 199, 3, 12, 7, 0), (28, .laload, 1, 0, 0, 0), (29, .aload_n 0, 1, 0, 0, 0),
  (30, .getfield 102, 3, 12, 9, 2), (33, .iload_n 1, 1, 0, 0, 0), (34, .laload, 1, 0, 0, 0), (35, .lcmp, 1, 0, 0, 0), (36, .ifCond .ne 7, 3, 43, 0, 0), (39, .iconst 1, 1, 0, 0, 0), (40, .goto 4, 3, 44, 0, 0), (43, .iconst 0, 1, 0, 0, 0),
  (44, .ireturn, 1, 0, 0, 0)]
/-- SamePassersModel.wrong(I)V -/
def mm_c172 : List (Nat × mm_E) := [(0, .aload_n 0, 1, 0, 0, 0), (1, .getfield 202, 3, 12, 8, 0), (4, .ifCond .ne 21, 3, 25, 0, 0), (7, .aload_n 0, 1, 0, 0, 0), (8, .iload_n 1, 1, 0, 0, 0), (9, .bipush 16, 2, 0, 0, 0), (11, .aload_n 0, 1, 0, 0, 0), (12, .getfield 27, 3, 12, 5, 2),
  (15, .aload_n 0, 1, 0, 0, 0), (16, .getfield 199, 3, 12, 7, 0), (19, .iaload, 1, 0, 0, 0), (20, .imul, 1, 0, 0, 0), (21, .iadd, 1, 0, 0, 0), (22, .putfield 202, 3, 12, 8, 0), (25, .return_, 1, 0, 0, 0)]
/-- SamePassersModel.takeNumber(II)I -/
def mm_c173 : List (Nat × mm_E) := [(0, .aload_n 0, 1, 0, 0, 0), (1, .getfield 202, 3, 12, 8, 0), (4, .ifCond .ne 24, 3, 28, 0, 0), (7, .aload_n 0, 1, 0, 0, 0), (8, .getfield 24, 3, 12, 4, 2), (11, .aload_n 0, 1, 0, 0, 0), (12, .getfield 199, 3, 12, 7, 0), (15, .iaload, 1, 0, 0, 0),
  (16, .iconst 2, 1, 0, 0, 0), (17, .if_icmp .eq 11, 3, 28, 0, 0), (20, .aload_n 0, 1, 0, 0, 0), (21, .iconst 1, 1, 0, 0, 0), (22, .invokevirtual 208, 3, 172, 2, 2), (25, .goto 45, 3, 70, 0, 0), (28, .aload_n 0, 1, 0, 0, 0), (29, .getfield 202, 3, 12, 8, 0),
  (32, .ifCond .ne 38, 3, 70, 0, 0), (35, .aload_n 0, 1, 0, 0, 0), (36, .getfield 30, 3, 12, 6, 2), (39, .aload_n 0, 1, 0, 0, 0), (40, .getfield 199, 3, 12, 7, 0), (43, .laload, 1, 0, 0, 0), (44, .iload_n 1, 1, 0, 0, 0), (45, .i2l, 1, 0, 0, 0),
  (46, .lcmp, 1, 0, 0, 0), (47, .ifCond .lt 18, 3, 65, 0, 0), (50, .aload_n 0, 1, 0, 0, 0), (51, .getfield 30, 3, 12, 6, 2), (54, .aload_n 0, 1, 0, 0, 0), (55, .getfield 199, 3, 12, 7, 0), (58, .laload, 1, 0, 0, 0), (59, .iload_n 2, 1, 0, 0, 0),
  (60, .i2l, 1, 0, 0, 0), (61, .lcmp, 1, 0, 0, 0), (62, .ifCond .le 8, 3, 70, 0, 0), (65, .aload_n 0, 1, 0, 0, 0), (66, .iconst 4, 1, 0, 0, 0), (67, .invokevirtual 208, 3, 172, 2, 2), (70, .aload_n 0, 1, 0, 0, 0), (71, .getfield 202, 3, 12, 8, 0),
  (74, .ifCond .le 5, 3, 79, 0, 0), (77, .iconst 0, 1, 0, 0, 0), (78, .ireturn, 1, 0, 0, 0), (79, .aload_n 0, 1, 0, 0, 0), (80, .dup, 1, 0, 0, 0), (81, .getfield 199, 3, 12, 7, 0), (84, .iconst 1, 1, 0, 0, 0), (85, .iadd, 1, 0, 0, 0),
  (86, .putfield 199, 3, 12, 7, 0), (89, .aload_n 0, 1, 0, 0, 0), (90, .getfield 30, 3, 12, 6, 2), (93, .aload_n 0, 1, 0, 0, 0), (94, .getfield 199, 3, 12, 7, 0), (97, .iconst 1, 1, 0, 0, 0), (98, .isub, 1, 0, 0, 0), (99, .laload, 1, 0, 0, 0),
  (100, .l2i, 1, 0, 0, 0), (101, .ireturn, 1, 0, 0, 0)]
/-- SamePassersModel.takeAfter(III)I -/
def mm_c174 : List (Nat × mm_E) := [(0, .aload_n 0, 1, 0, 0, 0), (1, .iload_n 1, 1, 0, 0, 0), (2, .invokevirtual 217, 3, 169, 2, 2), (5, .aload_n 0, 1, 0, 0, 0), (6, .iload_n 2, 1, 0, 0, 0), (7, .iload_n 3, 1, 0, 0, 0), (8, .invokevirtual 220, 3, 173, 3, 2), (11, .ireturn, 1, 0, 0, 0)]
/-- SamePassersModel.takeSign(I)V -/
def mm_c175 : List (Nat × mm_E) := [(0, .aload_n 0, 1, 0, 0, 0), (1, .iload_n 1, 1, 0, 0, 0), (2, .invokevirtual 205, 3, 176, 2, 2), (5, .ifCond .eq 16, 3, 21, 0, 0), (8, .aload_n 0, 1, 0, 0, 0), (9, .dup, 1, 0, 0, 0), (10, .getfield 199, 3, 12, 7, 0), (13, .iconst 1, 1, 0, 0, 0),
  (14, .iadd, 1, 0, 0, 0), (15, .putfield 199, 3, 12, 7, 0), (18, .goto 8, 3, 26, 0, 0), (21, .aload_n 0, 1, 0, 0, 0), (22, .iconst 1, 1, 0, 0, 0), (23, .invokevirtual 208, 3, 172, 2, 2), (26, .return_, 1, 0, 0, 0)]
/-- SamePassersModel.isSign(I)Z -/
def mm_c176 : List (Nat × mm_E) := [(0, .aload_n 0, 1, 0, 0, 0), (1, .getfield 202, 3, 12, 8, 0), (4, .ifCond .ne 35, 3, 39, 0, 0), (7, .aload_n 0, 1, 0, 0, 0), (8, .getfield 24, 3, 12, 4, 2), (11, .aload_n 0, 1, 0, 0, 0), (12, .getfield 199, 3, 12, 7, 0), (15, .iaload, 1, 0, 0, 0),
  (16, .iconst 3, 1, 0, 0, 0), (17, .if_icmp .ne 22, 3, 39, 0, 0), (20, .aload_n 0, 1, 0, 0, 0), (21, .getfield 30, 3, 12, 6, 2), (24, .aload_n 0, 1, 0, 0, 0), (25, .getfield 199, 3, 12, 7, 0), (28, .laload, 1, 0, 0, 0), (29, .iload_n 1, 1, 0, 0, 0),
  (30, .i2l, 1, 0, 0, 0), (31, .lcmp, 1, 0, 0, 0), (32, .ifCond .ne 7, 3, 39, 0, 0), (35, .iconst 1, 1, 0, 0, 0), (36, .goto 4, 3, 40, 0, 0), (39, .iconst 0, 1, 0, 0, 0), (40, .ireturn, 1, 0, 0, 0)]
/-- SamePassersModel.readLine()V -/
def mm_c177 : List (Nat × mm_E) := [(0, .aload_n 0, 1, 0, 0, 0), (1, .iconst 5, 1, 0, 0, 0), (2, .invokevirtual 211, 3, 171, 2, 2), (5, .ifCond .eq 10, 3, 15, 0, 0), (8, .aload_n 0, 1, 0, 0, 0), (9, .invokevirtual 269, 3, 178, 1, 2), (12, .goto 39, 3, 51, 0, 0), (15, .aload_n 0, 1, 0, 0, 0),
  (16, .bipush 7, 2, 0, 0, 0), (18, .invokevirtual 211, 3, 171, 2, 2), (21, .ifCond .eq 10, 3, 31, 0, 0), (24, .aload_n 0, 1, 0, 0, 0), (25, .invokevirtual 272, 3, 183, 1, 2), (28, .goto 23, 3, 51, 0, 0), (31, .aload_n 0, 1, 0, 0, 0), (32, .bipush 13, 2, 0, 0, 0),
  (34, .invokevirtual 211, 3, 171, 2, 2), (37, .ifCond .eq 10, 3, 47, 0, 0), (40, .aload_n 0, 1, 0, 0, 0), (41, .invokevirtual 275, 3, 189, 1, 2), (44, .goto 7, 3, 51, 0, 0), (47, .aload_n 0, 1, 0, 0, 0), (48, .invokevirtual 278, 3, 190, 1, 2), (51, .return_, 1, 0, 0, 0)]
/-- SamePassersModel.readSay()V -/
def mm_c178 : List (Nat × mm_E) := [(0, .aload_n 0, 1, 0, 0, 0), (1, .getfield 105, 3, 12, 10, 2), (4, .bipush 105, 2, 0, 0, 0), (6, .iaload, 1, 0, 0, 0), (7, .istore_n 1, 1, 0, 0, 0), (8, .iload_n 1, 1, 0, 0, 0), (9, .bipush 6, 2, 0, 0, 0), (11, .if_icmp .ne 9, 3, 20, 0, 0),
  (14, .aload_n 0, 1, 0, 0, 0), (15, .iconst 5, 1, 0, 0, 0), (16, .invokevirtual 208, 3, 172, 2, 2), (19, .return_, 1, 0, 0, 0), (20, .aload_n 0, 1, 0, 0, 0), (21, .iload_n 1, 1, 0, 0, 0), (22, .invokevirtual 281, 3, 179, 2, 2), (25, .aload_n 0, 1, 0, 0, 0),
  (26, .getfield 105, 3, 12, 10, 2), (29, .bipush 111, 2, 0, 0, 0), (31, .iload_n 1, 1, 0, 0, 0), (32, .iadd, 1, 0, 0, 0), (33, .aload_n 0, 1, 0, 0, 0), (34, .bipush 6, 2, 0, 0, 0), (36, .iconst 0, 1, 0, 0, 0), (37, .sipush 600, 3, 0, 0, 0),
  (40, .invokevirtual 259, 3, 174, 4, 2), (43, .iastore, 1, 0, 0, 0), (44, .aload_n 0, 1, 0, 0, 0), (45, .getfield 105, 3, 12, 10, 2), (48, .bipush 105, 2, 0, 0, 0), (50, .dup2, 1, 0, 0, 0), (51, .iaload, 1, 0, 0, 0), (52, .iconst 1, 1, 0, 0, 0),
  (53, .iadd, 1, 0, 0, 0), (54, .iastore, 1, 0, 0, 0), (55, .return_, 1, 0, 0, 0)]
/-- SamePassersModel.readName(I)V -/
def mm_c179 : List (Nat × mm_E) := [(0, .aload_n 0, 1, 0, 0, 0), (1, .dup, 1, 0, 0, 0), (2, .getfield 199, 3, 12, 7, 0), (5, .iconst 1, 1, 0, 0, 0), (6, .iadd, 1, 0, 0, 0), (7, .putfield 199, 3, 12, 7, 0), (10, .aload_n 0, 1, 0, 0, 0), (11, .invokevirtual 233, 3, 180, 1, 2),
  (14, .ifCond .ne 11, 3, 25, 0, 0), (17, .aload_n 0, 1, 0, 0, 0), (18, .iconst 1, 1, 0, 0, 0), (19, .invokevirtual 208, 3, 172, 2, 2), (22, .goto 16, 3, 38, 0, 0), (25, .aload_n 0, 1, 0, 0, 0), (26, .iconst 1, 1, 0, 0, 0), (27, .invokevirtual 237, 3, 182, 2, 2),
  (30, .ifCond .lt 8, 3, 38, 0, 0), (33, .aload_n 0, 1, 0, 0, 0), (34, .iconst 3, 1, 0, 0, 0), (35, .invokevirtual 208, 3, 172, 2, 2), (38, .aload_n 0, 1, 0, 0, 0), (39, .getfield 202, 3, 12, 8, 0), (42, .ifCond .ne 51, 3, 93, 0, 0), (45, .aload_n 0, 1, 0, 0, 0),
  (46, .getfield 117, 3, 12, 15, 2), (49, .aload_n 0, 1, 0, 0, 0), (50, .getfield 227, 3, 12, 19, 0), (53, .aload_n 0, 1, 0, 0, 0), (54, .getfield 30, 3, 12, 6, 2), (57, .aload_n 0, 1, 0, 0, 0), (58, .getfield 199, 3, 12, 7, 0), (61, .laload, 1, 0, 0, 0),
  (62, .lastore, 1, 0, 0, 0), (63, .aload_n 0, 1, 0, 0, 0), (64, .getfield 123, 3, 12, 17, 2), (67, .aload_n 0, 1, 0, 0, 0), (68, .getfield 227, 3, 12, 19, 0), (71, .iload_n 1, 1, 0, 0, 0), (72, .iastore, 1, 0, 0, 0), (73, .aload_n 0, 1, 0, 0, 0),
  (74, .dup, 1, 0, 0, 0), (75, .getfield 227, 3, 12, 19, 0), (78, .iconst 1, 1, 0, 0, 0), (79, .iadd, 1, 0, 0, 0), (80, .putfield 227, 3, 12, 19, 0), (83, .aload_n 0, 1, 0, 0, 0), (84, .dup, 1, 0, 0, 0), (85, .getfield 199, 3, 12, 7, 0),
  (88, .iconst 1, 1, 0, 0, 0), (89, .iadd, 1, 0, 0, 0), (90, .putfield 199, 3, 12, 7, 0), (93, .return_, 1, 0, 0, 0)]
/-- SamePassersModel.isName()Z -/
def mm_c180 : List (Nat × mm_E) := [(0, .aload_n 0, 1, 0, 0, 0), (1, .getfield 202, 3, 12, 8, 0), (4, .ifCond .ne 30, 3, 34, 0, 0), (7, .aload_n 0, 1, 0, 0, 0), (8, .getfield 24, 3, 12, 4, 2), (11, .aload_n 0, 1, 0, 0, 0), (12, .getfield 199, 3, 12, 7, 0), (15, .iaload, 1, 0, 0, 0),
  (16, .iconst 1, 1, 0, 0, 0), (17, .if_icmp .ne 17, 3, 34, 0, 0), (20, .aload_n 0, 1, 0, 0, 0), (21, .iconst 0, 1, 0, 0, 0), (22, .bipush 30, 2, 0, 0, 0), (24, .invokevirtual 224, 3, 181, 3, 2), (27, .ifCond .ge 7, 3, 34, 0, 0), (30, .iconst 1, 1, 0, 0, 0),
  (31, .goto 4, 3, 35, 0, 0), (34, .iconst 0, 1, 0, 0, 0), (35, .ireturn, 1, 0, 0, 0)]
/-- SamePassersModel.wordHere(II)I -/
def mm_c181 : List (Nat × mm_E) := [(0, .iconst (-1), 1, 0, 0, 0), (1, .istore_n 3, 1, 0, 0, 0), (2, .iconst 0, 1, 0, 0, 0), (3, .istore 4, 2, 0, 0, 0), (5, .iload 4, 2, 0, 0, 0), (7, .iload_n 2, 1, 0, 0, 0), (8, .if_icmp .ge 27, 3, 35, 0, 0), (11, .aload_n 0, 1, 0, 0, 0),
  (12, .iload_n 1, 1, 0, 0, 0), (13, .iload 4, 2, 0, 0, 0), (15, .iadd, 1, 0, 0, 0), (16, .invokevirtual 211, 3, 171, 2, 2), (19, .ifCond .eq 8, 3, 27, 0, 0), (22, .iload 4, 2, 0, 0, 0), (24, .goto 4, 3, 28, 0, 0), (27, .iload_n 3, 1, 0, 0, 0),
  (28, .istore_n 3, 1, 0, 0, 0), (29, .iinc 4 1, 3, 0, 0, 0), (32, .goto (-27), 3, 5, 0, 0), (35, .iload_n 3, 1, 0, 0, 0), (36, .ireturn, 1, 0, 0, 0)]
/-- SamePassersModel.find(Z)I -/
def mm_c182 : List (Nat × mm_E) := [(0, .iconst 0, 1, 0, 0, 0), (1, .istore_n 2, 1, 0, 0, 0), (2, .iload_n 2, 1, 0, 0, 0), (3, .iload_n 1, 1, 0, 0, 0), (4, .ifCond .eq 10, 3, 14, 0, 0), (7, .aload_n 0, 1, 0, 0, 0), (8, .getfield 227, 3, 12, 19, 0), (11, .goto 7, 3, 18, 0, 0),
  (14, .aload_n 0, 1, 0, 0, 0), (15, .getfield 230, 3, 12, 18, 0), (18, .if_icmp .ge 61, 3, 79, 0, 0), (21, .iload_n 1, 1, 0, 0, 0), (22, .ifCond .eq 12, 3, 34, 0, 0), (25, .aload_n 0, 1, 0, 0, 0), (26, .getfield 117, 3, 12, 15, 2), (29, .iload_n 2, 1, 0, 0, 0),
  (30, .laload, 1, 0, 0, 0), (31, .goto 9, 3, 40, 0, 0), (34, .aload_n 0, 1, 0, 0, 0), (35, .getfield 114, 3, 12, 14, 2), (38, .iload_n 2, 1, 0, 0, 0), (39, .laload, 1, 0, 0, 0), (40, .aload_n 0, 1, 0, 0, 0), (41, .getfield 30, 3, 12, 6, 2),
  (44, .aload_n 0, 1, 0, 0, 0), (45, .getfield 199, 3, 12, 7, 0), (48, .laload, 1, 0, 0, 0), (49, .lcmp, 1, 0, 0, 0), (50, .ifCond .ne 23, 3, 73, 0, 0), (53, .iload_n 1, 1, 0, 0, 0), (54, .ifCond .eq 12, 3, 66, 0, 0), (57, .aload_n 0, 1, 0, 0, 0),
  (58, .getfield 123, 3, 12, 17, 2), (61, .iload_n 2, 1, 0, 0, 0), (62, .iaload, 1, 0, 0, 0), (63, .goto 9, 3, 72, 0, 0), (66, .aload_n 0, 1, 0, 0, 0), (67, .getfield 120, 3, 12, 16, 2), (70, .iload_n 2, 1, 0, 0, 0), (71, .iaload, 1, 0, 0, 0),
  (72, .ireturn, 1, 0, 0, 0), (73, .iinc 2 1, 3, 0, 0, 0), (76, .goto (-74), 3, 2, 0, 0), (79, .iconst (-1), 1, 0, 0, 0), (80, .ireturn, 1, 0, 0, 0)]
/-- SamePassersModel.readWalker()V -/
def mm_c183 : List (Nat × mm_E) := [(0, .aload_n 0, 1, 0, 0, 0), (1, .getfield 105, 3, 12, 10, 2), (4, .bipush 106, 2, 0, 0, 0), (6, .iaload, 1, 0, 0, 0), (7, .istore_n 1, 1, 0, 0, 0), (8, .iload_n 1, 1, 0, 0, 0), (9, .bipush 8, 2, 0, 0, 0), (11, .if_icmp .ne 9, 3, 20, 0, 0),
  (14, .aload_n 0, 1, 0, 0, 0), (15, .iconst 5, 1, 0, 0, 0), (16, .invokevirtual 208, 3, 172, 2, 2), (19, .return_, 1, 0, 0, 0), (20, .aload_n 0, 1, 0, 0, 0), (21, .bipush 20, 2, 0, 0, 0), (23, .iload_n 1, 1, 0, 0, 0), (24, .iadd, 1, 0, 0, 0),
  (25, .invokevirtual 281, 3, 179, 2, 2), (28, .bipush 117, 2, 0, 0, 0), (30, .bipush 7, 2, 0, 0, 0), (32, .iload_n 1, 1, 0, 0, 0), (33, .imul, 1, 0, 0, 0), (34, .iadd, 1, 0, 0, 0), (35, .istore_n 2, 1, 0, 0, 0), (36, .aload_n 0, 1, 0, 0, 0),
  (37, .getfield 105, 3, 12, 10, 2), (40, .iload_n 2, 1, 0, 0, 0), (41, .aload_n 0, 1, 0, 0, 0), (42, .bipush 23, 2, 0, 0, 0), (44, .iconst 4, 1, 0, 0, 0), (45, .invokevirtual 284, 3, 184, 3, 2), (48, .iastore, 1, 0, 0, 0), (49, .aload_n 0, 1, 0, 0, 0),
  (50, .getfield 105, 3, 12, 10, 2), (53, .iload_n 2, 1, 0, 0, 0), (54, .iconst 1, 1, 0, 0, 0), (55, .iadd, 1, 0, 0, 0), (56, .aload_n 0, 1, 0, 0, 0), (57, .bipush 8, 2, 0, 0, 0), (59, .iconst 0, 1, 0, 0, 0), (60, .aload_n 0, 1, 0, 0, 0),
  (61, .getfield 105, 3, 12, 10, 2), (64, .bipush 101, 2, 0, 0, 0), (66, .iaload, 1, 0, 0, 0), (67, .iconst 1, 1, 0, 0, 0), (68, .isub, 1, 0, 0, 0), (69, .invokevirtual 259, 3, 174, 4, 2), (72, .iastore, 1, 0, 0, 0), (73, .aload_n 0, 1, 0, 0, 0),
  (74, .getfield 105, 3, 12, 10, 2), (77, .iload_n 2, 1, 0, 0, 0), (78, .iconst 2, 1, 0, 0, 0), (79, .iadd, 1, 0, 0, 0), (80, .aload_n 0, 1, 0, 0, 0), (81, .bipush 9, 2, 0, 0, 0), (83, .iconst 0, 1, 0, 0, 0), (84, .aload_n 0, 1, 0, 0, 0),
  (85, .invokevirtual 287, 3, 185, 1, 2), (88, .invokevirtual 259, 3, 174, 4, 2), (91, .iastore, 1, 0, 0, 0), (92, .aload_n 0, 1, 0, 0, 0), (93, .getfield 105, 3, 12, 10, 2), (96, .iload_n 2, 1, 0, 0, 0), (97, .iconst 3, 1, 0, 0, 0), (98, .iadd, 1, 0, 0, 0),
  (99, .aload_n 0, 1, 0, 0, 0), (100, .bipush 21, 2, 0, 0, 0), (102, .iconst 2, 1, 0, 0, 0), (103, .invokevirtual 284, 3, 184, 3, 2), (106, .iastore, 1, 0, 0, 0), (107, .aload_n 0, 1, 0, 0, 0), (108, .getfield 105, 3, 12, 10, 2), (111, .iload_n 2, 1, 0, 0, 0),
  (112, .iconst 4, 1, 0, 0, 0), (113, .iadd, 1, 0, 0, 0), (114, .aload_n 0, 1, 0, 0, 0), (115, .bipush 10, 2, 0, 0, 0), (117, .iconst 1, 1, 0, 0, 0), (118, .bipush 9, 2, 0, 0, 0), (120, .invokevirtual 259, 3, 174, 4, 2), (123, .iastore, 1, 0, 0, 0),
  (124, .aload_n 0, 1, 0, 0, 0), (125, .getfield 105, 3, 12, 10, 2), (128, .iload_n 2, 1, 0, 0, 0), (129, .iconst 5, 1, 0, 0, 0), (130, .iadd, 1, 0, 0, 0), (131, .aload_n 0, 1, 0, 0, 0), (132, .bipush 11, 2, 0, 0, 0), (134, .iconst 0, 1, 0, 0, 0),
  (135, .bipush 99, 2, 0, 0, 0), (137, .invokevirtual 259, 3, 174, 4, 2), (140, .iastore, 1, 0, 0, 0), (141, .aload_n 0, 1, 0, 0, 0), (142, .getfield 105, 3, 12, 10, 2), (145, .iload_n 2, 1, 0, 0, 0), (146, .bipush 6, 2, 0, 0, 0), (148, .iadd, 1, 0, 0, 0),
  (149, .aload_n 0, 1, 0, 0, 0), (150, .bipush 12, 2, 0, 0, 0), (152, .invokevirtual 214, 3, 170, 2, 2), (155, .ifCond .eq 14, 3, 169, 0, 0), (158, .aload_n 0, 1, 0, 0, 0), (159, .iconst 1, 1, 0, 0, 0), (160, .iconst 0, 1, 0, 0, 0), (161, .bipush 6, 2, 0, 0, 0),
  (163, .invokevirtual 291, 3, 186, 4, 2), (166, .goto 4, 3, 170, 0, 0), (169, .iconst (-1), 1, 0, 0, 0), (170, .iastore, 1, 0, 0, 0), (171, .aload_n 0, 1, 0, 0, 0), (172, .getfield 105, 3, 12, 10, 2), (175, .bipush 106, 2, 0, 0, 0), (177, .dup2, 1, 0, 0, 0),
  (178, .iaload, 1, 0, 0, 0), (179, .iconst 1, 1, 0, 0, 0), (180, .iadd, 1, 0, 0, 0), (181, .iastore, 1, 0, 0, 0), (182, .return_, 1, 0, 0, 0)]
/-- SamePassersModel.takeOne(II)I -/
def mm_c184 : List (Nat × mm_E) := [(0, .aload_n 0, 1, 0, 0, 0), (1, .getfield 202, 3, 12, 8, 0), (4, .ifCond .le 7, 3, 11, 0, 0), (7, .iconst (-1), 1, 0, 0, 0), (8, .goto 9, 3, 17, 0, 0), (11, .aload_n 0, 1, 0, 0, 0), (12, .iload_n 1, 1, 0, 0, 0), (13, .iload_n 2, 1, 0, 0, 0),
  (14, .invokevirtual 224, 3, 181, 3, 2), (17, .istore_n 3, 1, 0, 0, 0), (18, .aload_n 0, 1, 0, 0, 0), (19, .getfield 202, 3, 12, 8, 0), (22, .ifCond .ne 12, 3, 34, 0, 0), (25, .iload_n 3, 1, 0, 0, 0), (26, .ifCond .ge 8, 3, 34, 0, 0), (29, .aload_n 0, 1, 0, 0, 0),
  (30, .iconst 1, 1, 0, 0, 0), (31, .invokevirtual 208, 3, 172, 2, 2), (34, .aload_n 0, 1, 0, 0, 0), (35, .dup, 1, 0, 0, 0), (36, .getfield 199, 3, 12, 7, 0), (39, .aload_n 0, 1, 0, 0, 0), (40, .getfield 202, 3, 12, 8, 0), (43, .ifCond .le 7, 3, 50, 0, 0),
  (46, .iconst 0, 1, 0, 0, 0), (47, .goto 4, 3, 51, 0, 0), (50, .iconst 1, 1, 0, 0, 0), (51, .iadd, 1, 0, 0, 0), (52, .putfield 199, 3, 12, 7, 0), (55, .aload_n 0, 1, 0, 0, 0), (56, .getfield 202, 3, 12, 8, 0), (59, .ifCond .le 7, 3, 66, 0, 0),
  (62, .iconst 0, 1, 0, 0, 0), (63, .goto 4, 3, 67, 0, 0), (66, .iload_n 3, 1, 0, 0, 0), (67, .ireturn, 1, 0, 0, 0)]
/-- SamePassersModel.lastCell()I -/
def mm_c185 : List (Nat × mm_E) := [(0, .aload_n 0, 1, 0, 0, 0), (1, .getfield 105, 3, 12, 10, 2), (4, .bipush 100, 2, 0, 0, 0), (6, .iaload, 1, 0, 0, 0), (7, .iconst 1, 1, 0, 0, 0), (8, .isub, 1, 0, 0, 0), (9, .ireturn, 1, 0, 0, 0)]
/-- SamePassersModel.takeTold(ZII)I -/
def mm_c186 : List (Nat × mm_E) := [(0, .aload_n 0, 1, 0, 0, 0), (1, .iload_n 1, 1, 0, 0, 0), (2, .iload_n 2, 1, 0, 0, 0), (3, .iload_n 3, 1, 0, 0, 0), (4, .invokevirtual 245, 3, 187, 4, 2), (7, .istore 4, 2, 0, 0, 0), (9, .aload_n 0, 1, 0, 0, 0), (10, .dup, 1, 0, 0, 0),
  (11, .getfield 199, 3, 12, 7, 0), (14, .aload_n 0, 1, 0, 0, 0), (15, .getfield 202, 3, 12, 8, 0), (18, .ifCond .le 7, 3, 25, 0, 0), (21, .iconst 0, 1, 0, 0, 0), (22, .goto 4, 3, 26, 0, 0), (25, .iconst 1, 1, 0, 0, 0), (26, .iadd, 1, 0, 0, 0),
  (27, .putfield 199, 3, 12, 7, 0), (30, .iload 4, 2, 0, 0, 0), (32, .ireturn, 1, 0, 0, 0)]
/-- SamePassersModel.toldHere(ZII)I -/
def mm_c187 : List (Nat × mm_E) := [(0, .aload_n 0, 1, 0, 0, 0), (1, .getfield 202, 3, 12, 8, 0), (4, .ifCond .ne 15, 3, 19, 0, 0), (7, .aload_n 0, 1, 0, 0, 0), (8, .invokevirtual 233, 3, 180, 1, 2), (11, .ifCond .ne 8, 3, 19, 0, 0), (14, .aload_n 0, 1, 0, 0, 0), (15, .iconst 1, 1, 0, 0, 0),
  (16, .invokevirtual 208, 3, 172, 2, 2), (19, .aload_n 0, 1, 0, 0, 0), (20, .getfield 202, 3, 12, 8, 0), (23, .ifCond .le 7, 3, 30, 0, 0), (26, .iconst (-1), 1, 0, 0, 0), (27, .goto 10, 3, 37, 0, 0), (30, .aload_n 0, 1, 0, 0, 0), (31, .iload_n 1, 1, 0, 0, 0),
  (32, .invokevirtual 237, 3, 182, 2, 2), (35, .iload_n 2, 1, 0, 0, 0), (36, .isub, 1, 0, 0, 0), (37, .istore 4, 2, 0, 0, 0), (39, .aload_n 0, 1, 0, 0, 0), (40, .getfield 202, 3, 12, 8, 0), (43, .ifCond .ne 20, 3, 63, 0, 0), (46, .iload 4, 2, 0, 0, 0),
  (48, .iconst 0, 1, 0, 0, 0), (49, .iload_n 3, 1, 0, 0, 0), (50, .iconst 1, 1, 0, 0, 0), (51, .isub, 1, 0, 0, 0), (52, .invokestatic 241, 3, 188, 3, 0), (55, .ifCond .ne 8, 3, 63, 0, 0), (58, .aload_n 0, 1, 0, 0, 0), (59, .iconst 2, 1, 0, 0, 0),
  (60, .invokevirtual 208, 3, 172, 2, 2), (63, .aload_n 0, 1, 0, 0, 0), (64, .getfield 202, 3, 12, 8, 0), (67, .ifCond .le 7, 3, 74, 0, 0), (70, .iconst 0, 1, 0, 0, 0), (71, .goto 5, 3, 76, 0, 0), (74, .iload 4, 2, 0, 0, 0), (76, .ireturn, 1, 0, 0, 0)]
/-- SamePassersModel.within(III)Z -/
def mm_c188 : List (Nat × mm_E) := [(0, .iload_n 0, 1, 0, 0, 0), (1, .iload_n 1, 1, 0, 0, 0), (2, .if_icmp .lt 12, 3, 14, 0, 0), (5, .iload_n 0, 1, 0, 0, 0), (6, .iload_n 2, 1, 0, 0, 0), (7, .if_icmp .gt 7, 3, 14, 0, 0), (10, .iconst 1, 1, 0, 0, 0), (11, .goto 4, 3, 15, 0, 0),
  (14, .iconst 0, 1, 0, 0, 0), (15, .ireturn, 1, 0, 0, 0)]
/-- SamePassersModel.readMust()V -/
def mm_c189 : List (Nat × mm_E) := [(0, .aload_n 0, 1, 0, 0, 0), (1, .getfield 105, 3, 12, 10, 2), (4, .bipush 107, 2, 0, 0, 0), (6, .iaload, 1, 0, 0, 0), (7, .istore_n 1, 1, 0, 0, 0), (8, .iload_n 1, 1, 0, 0, 0), (9, .bipush 8, 2, 0, 0, 0), (11, .if_icmp .ne 9, 3, 20, 0, 0),
  (14, .aload_n 0, 1, 0, 0, 0), (15, .iconst 5, 1, 0, 0, 0), (16, .invokevirtual 208, 3, 172, 2, 2), (19, .return_, 1, 0, 0, 0), (20, .aload_n 0, 1, 0, 0, 0), (21, .dup, 1, 0, 0, 0), (22, .getfield 199, 3, 12, 7, 0), (25, .iconst 1, 1, 0, 0, 0),
  (26, .iadd, 1, 0, 0, 0), (27, .putfield 199, 3, 12, 7, 0), (30, .aload_n 0, 1, 0, 0, 0), (31, .iconst 1, 1, 0, 0, 0), (32, .bipush 20, 2, 0, 0, 0), (34, .bipush 8, 2, 0, 0, 0), (36, .invokevirtual 291, 3, 186, 4, 2), (39, .istore_n 2, 1, 0, 0, 0),
  (40, .aload_n 0, 1, 0, 0, 0), (41, .iconst 1, 1, 0, 0, 0), (42, .iconst 0, 1, 0, 0, 0), (43, .bipush 6, 2, 0, 0, 0), (45, .invokevirtual 245, 3, 187, 4, 2), (48, .istore_n 3, 1, 0, 0, 0), (49, .iconst 0, 1, 0, 0, 0), (50, .istore 4, 2, 0, 0, 0),
  (52, .iload 4, 2, 0, 0, 0), (54, .iload_n 1, 1, 0, 0, 0), (55, .if_icmp .ge 57, 3, 112, 0, 0), (58, .aload_n 0, 1, 0, 0, 0), (59, .getfield 202, 3, 12, 8, 0), (62, .ifCond .ne 50, 3, 112, 0, 0), (65, .aload_n 0, 1, 0, 0, 0), (66, .getfield 105, 3, 12, 10, 2),
  (69, .sipush 173, 3, 0, 0, 0), (72, .iconst 3, 1, 0, 0, 0), (73, .iload 4, 2, 0, 0, 0), (75, .imul, 1, 0, 0, 0), (76, .iadd, 1, 0, 0, 0), (77, .iaload, 1, 0, 0, 0), (78, .iload_n 2, 1, 0, 0, 0), (79, .if_icmp .ne 27, 3, 106, 0, 0),
  (82, .aload_n 0, 1, 0, 0, 0), (83, .getfield 105, 3, 12, 10, 2), (86, .sipush 173, 3, 0, 0, 0), (89, .iconst 3, 1, 0, 0, 0), (90, .iload 4, 2, 0, 0, 0), (92, .imul, 1, 0, 0, 0), (93, .iadd, 1, 0, 0, 0), (94, .iconst 1, 1, 0, 0, 0),
  (95, .iadd, 1, 0, 0, 0), (96, .iaload, 1, 0, 0, 0), (97, .iload_n 3, 1, 0, 0, 0), (98, .if_icmp .ne 8, 3, 106, 0, 0), (101, .aload_n 0, 1, 0, 0, 0), (102, .iconst 3, 1, 0, 0, 0), (103, .invokevirtual 208, 3, 172, 2, 2), (106, .iinc 4 1, 3, 0, 0, 0),
  (109, .goto (-57), 3, 52, 0, 0), (112, .aload_n 0, 1, 0, 0, 0), (113, .getfield 202, 3, 12, 8, 0), (116, .ifCond .le 4, 3, 120, 0, 0), (119, .return_, 1, 0, 0, 0), (120, .aload_n 0, 1, 0, 0, 0), (121, .dup, 1, 0, 0, 0), (122, .getfield 199, 3, 12, 7, 0),
  (125, .iconst 1, 1, 0, 0, 0), (126, .iadd, 1, 0, 0, 0), (127, .putfield 199, 3, 12, 7, 0), (130, .sipush 173, 3, 0, 0, 0), (133, .iconst 3, 1, 0, 0, 0), (134, .iload_n 1, 1, 0, 0, 0), (135, .imul, 1, 0, 0, 0), (136, .iadd, 1, 0, 0, 0),
  (137, .istore 4, 2, 0, 0, 0), (139, .aload_n 0, 1, 0, 0, 0), (140, .getfield 105, 3, 12, 10, 2), (143, .iload 4, 2, 0, 0, 0), (145, .iload_n 2, 1, 0, 0, 0), (146, .iastore, 1, 0, 0, 0), (147, .aload_n 0, 1, 0, 0, 0), (148, .getfield 105, 3, 12, 10, 2),
  (151, .iload 4, 2, 0, 0, 0), (153, .iconst 1, 1, 0, 0, 0), (154, .iadd, 1, 0, 0, 0), (155, .iload_n 3, 1, 0, 0, 0), (156, .iastore, 1, 0, 0, 0), (157, .aload_n 0, 1, 0, 0, 0), (158, .getfield 105, 3, 12, 10, 2), (161, .iload 4, 2, 0, 0, 0),
  (163, .iconst 2, 1, 0, 0, 0), (164, .iadd, 1, 0, 0, 0), (165, .aload_n 0, 1, 0, 0, 0), (166, .iconst 0, 1, 0, 0, 0), (167, .aload_n 0, 1, 0, 0, 0), (168, .invokevirtual 287, 3, 185, 1, 2), (171, .invokevirtual 220, 3, 173, 3, 2), (174, .iastore, 1, 0, 0, 0),
  (175, .aload_n 0, 1, 0, 0, 0), (176, .getfield 105, 3, 12, 10, 2), (179, .bipush 107, 2, 0, 0, 0), (181, .dup2, 1, 0, 0, 0), (182, .iaload, 1, 0, 0, 0), (183, .iconst 1, 1, 0, 0, 0), (184, .iadd, 1, 0, 0, 0), (185, .iastore, 1, 0, 0, 0),
  (186, .return_, 1, 0, 0, 0)]
/-- SamePassersModel.readOnce()V -/
def mm_c190 : List (Nat × mm_E) := [(0, .aload_n 0, 1, 0, 0, 0), (1, .bipush 14, 2, 0, 0, 0), (3, .invokevirtual 211, 3, 171, 2, 2), (6, .ifCond .eq 7, 3, 13, 0, 0), (9, .iconst 2, 1, 0, 0, 0), (10, .goto 10, 3, 20, 0, 0), (13, .aload_n 0, 1, 0, 0, 0), (14, .bipush 15, 2, 0, 0, 0),
  (16, .iconst 2, 1, 0, 0, 0), (17, .invokevirtual 224, 3, 181, 3, 2), (20, .istore_n 1, 1, 0, 0, 0), (21, .iload_n 1, 1, 0, 0, 0), (22, .ifCond .ge 11, 3, 33, 0, 0), (25, .aload_n 0, 1, 0, 0, 0), (26, .iconst 1, 1, 0, 0, 0), (27, .invokevirtual 208, 3, 172, 2, 2),
  (30, .goto 35, 3, 65, 0, 0), (33, .iload_n 1, 1, 0, 0, 0), (34, .iconst 2, 1, 0, 0, 0), (35, .if_icmp .ne 13, 3, 48, 0, 0), (38, .aload_n 0, 1, 0, 0, 0), (39, .getfield 255, 3, 12, 20, 3), (42, .ifCond .eq 23, 3, 65, 0, 0), (45, .goto 15, 3, 60, 0, 0),
  (48, .aload_n 0, 1, 0, 0, 0), (49, .getfield 105, 3, 12, 10, 2), (52, .bipush 109, 2, 0, 0, 0), (54, .iload_n 1, 1, 0, 0, 0), (55, .iadd, 1, 0, 0, 0), (56, .iaload, 1, 0, 0, 0), (57, .ifCond .lt 8, 3, 65, 0, 0), (60, .aload_n 0, 1, 0, 0, 0),
  (61, .iconst 3, 1, 0, 0, 0), (62, .invokevirtual 208, 3, 172, 2, 2), (65, .aload_n 0, 1, 0, 0, 0), (66, .getfield 202, 3, 12, 8, 0), (69, .ifCond .le 4, 3, 73, 0, 0), (72, .return_, 1, 0, 0, 0), (73, .aload_n 0, 1, 0, 0, 0), (74, .dup, 1, 0, 0, 0),
  (75, .getfield 199, 3, 12, 7, 0), (78, .iconst 1, 1, 0, 0, 0), (79, .iadd, 1, 0, 0, 0), (80, .putfield 199, 3, 12, 7, 0), (83, .iload_n 1, 1, 0, 0, 0), (84, .iconst 2, 1, 0, 0, 0), (85, .if_icmp .ne 25, 3, 110, 0, 0), (88, .aload_n 0, 1, 0, 0, 0),
  (89, .iconst 1, 1, 0, 0, 0), (90, .putfield 255, 3, 12, 20, 3), (93, .aload_n 0, 1, 0, 0, 0), (94, .getfield 105, 3, 12, 10, 2), (97, .bipush 108, 2, 0, 0, 0), (99, .aload_n 0, 1, 0, 0, 0), (100, .iconst 0, 1, 0, 0, 0), (101, .bipush 99, 2, 0, 0, 0),
  (103, .invokevirtual 220, 3, 173, 3, 2), (106, .iastore, 1, 0, 0, 0), (107, .goto 41, 3, 148, 0, 0), (110, .aload_n 0, 1, 0, 0, 0), (111, .getfield 105, 3, 12, 10, 2), (114, .bipush 109, 2, 0, 0, 0), (116, .iload_n 1, 1, 0, 0, 0), (117, .iadd, 1, 0, 0, 0),
  (118, .aload_n 0, 1, 0, 0, 0), (119, .getfield 252, 3, 12, 13, 0), (122, .iastore, 1, 0, 0, 0), (123, .aload_n 0, 1, 0, 0, 0), (124, .iload_n 1, 1, 0, 0, 0), (125, .ifCond .ne 7, 3, 132, 0, 0), (128, .iconst 3, 1, 0, 0, 0), (129, .goto 5, 3, 134, 0, 0),
  (132, .bipush 12, 2, 0, 0, 0), (134, .putfield 294, 3, 12, 21, 0), (137, .aload_n 0, 1, 0, 0, 0), (138, .iconst 0, 1, 0, 0, 0), (139, .invokevirtual 297, 3, 191, 2, 2), (142, .aload_n 0, 1, 0, 0, 0), (143, .iconst 0, 1, 0, 0, 0), (144, .iconst 0, 1, 0, 0, 0),
  (145, .invokevirtual 300, 3, 196, 3, 2), (148, .return_, 1, 0, 0, 0)]
/-- SamePassersModel.all(I)V -/
def mm_c191 : List (Nat × mm_E) := [(0, .aload_n 0, 1, 0, 0, 0), (1, .iload_n 1, 1, 0, 0, 0), (2, .invokevirtual 304, 3, 192, 2, 2), (5, .aload_n 0, 1, 0, 0, 0), (6, .bipush 28, 2, 0, 0, 0), (8, .invokevirtual 211, 3, 171, 2, 2), (11, .ifCond .ne 12, 3, 23, 0, 0), (14, .aload_n 0, 1, 0, 0, 0),
  (15, .bipush 29, 2, 0, 0, 0), (17, .invokevirtual 211, 3, 171, 2, 2), (20, .ifCond .eq 44, 3, 64, 0, 0), (23, .aload_n 0, 1, 0, 0, 0), (24, .bipush 28, 2, 0, 0, 0), (26, .invokevirtual 211, 3, 171, 2, 2), (29, .istore_n 2, 1, 0, 0, 0), (30, .aload_n 0, 1, 0, 0, 0),
  (31, .dup, 1, 0, 0, 0), (32, .getfield 199, 3, 12, 7, 0), (35, .iconst 1, 1, 0, 0, 0), (36, .iadd, 1, 0, 0, 0), (37, .putfield 199, 3, 12, 7, 0), (40, .aload_n 0, 1, 0, 0, 0), (41, .iload_n 1, 1, 0, 0, 0), (42, .invokevirtual 304, 3, 192, 2, 2),
  (45, .aload_n 0, 1, 0, 0, 0), (46, .iload_n 2, 1, 0, 0, 0), (47, .ifCond .eq 8, 3, 55, 0, 0), (50, .bipush 9, 2, 0, 0, 0), (52, .goto 5, 3, 57, 0, 0), (55, .bipush 10, 2, 0, 0, 0), (57, .iconst 0, 1, 0, 0, 0), (58, .invokevirtual 300, 3, 196, 3, 2),
  (61, .goto (-56), 3, 5, 0, 0), (64, .return_, 1, 0, 0, 0)]
/-- SamePassersModel.test(I)V -/
def mm_c192 : List (Nat × mm_E) := [(0, .aload_n 0, 1, 0, 0, 0), (1, .iload_n 1, 1, 0, 0, 0), (2, .invokevirtual 307, 3, 193, 2, 2), (5, .aload_n 0, 1, 0, 0, 0), (6, .bipush 60, 2, 0, 0, 0), (8, .invokevirtual 205, 3, 176, 2, 2), (11, .istore_n 2, 1, 0, 0, 0), (12, .aload_n 0, 1, 0, 0, 0),
  (13, .bipush 60, 2, 0, 0, 0), (15, .invokevirtual 310, 3, 197, 2, 2), (18, .ifCond .ne 12, 3, 30, 0, 0), (21, .aload_n 0, 1, 0, 0, 0), (22, .bipush 61, 2, 0, 0, 0), (24, .invokevirtual 310, 3, 197, 2, 2), (27, .ifCond .eq 24, 3, 51, 0, 0), (30, .aload_n 0, 1, 0, 0, 0),
  (31, .iload_n 1, 1, 0, 0, 0), (32, .invokevirtual 307, 3, 193, 2, 2), (35, .aload_n 0, 1, 0, 0, 0), (36, .iload_n 2, 1, 0, 0, 0), (37, .ifCond .eq 8, 3, 45, 0, 0), (40, .bipush 7, 2, 0, 0, 0), (42, .goto 5, 3, 47, 0, 0), (45, .bipush 8, 2, 0, 0, 0),
  (47, .iconst 0, 1, 0, 0, 0), (48, .invokevirtual 300, 3, 196, 3, 2), (51, .return_, 1, 0, 0, 0)]
/-- SamePassersModel.sums(I)V -/
def mm_c193 : List (Nat × mm_E) := [(0, .aload_n 0, 1, 0, 0, 0), (1, .iload_n 1, 1, 0, 0, 0), (2, .invokevirtual 313, 3, 194, 2, 2), (5, .aload_n 0, 1, 0, 0, 0), (6, .bipush 43, 2, 0, 0, 0), (8, .invokevirtual 205, 3, 176, 2, 2), (11, .ifCond .ne 12, 3, 23, 0, 0), (14, .aload_n 0, 1, 0, 0, 0),
  (15, .bipush 45, 2, 0, 0, 0), (17, .invokevirtual 205, 3, 176, 2, 2), (20, .ifCond .eq 42, 3, 62, 0, 0), (23, .aload_n 0, 1, 0, 0, 0), (24, .bipush 43, 2, 0, 0, 0), (26, .invokevirtual 205, 3, 176, 2, 2), (29, .istore_n 2, 1, 0, 0, 0), (30, .aload_n 0, 1, 0, 0, 0),
  (31, .dup, 1, 0, 0, 0), (32, .getfield 199, 3, 12, 7, 0), (35, .iconst 1, 1, 0, 0, 0), (36, .iadd, 1, 0, 0, 0), (37, .putfield 199, 3, 12, 7, 0), (40, .aload_n 0, 1, 0, 0, 0), (41, .iload_n 1, 1, 0, 0, 0), (42, .invokevirtual 313, 3, 194, 2, 2),
  (45, .aload_n 0, 1, 0, 0, 0), (46, .iload_n 2, 1, 0, 0, 0), (47, .ifCond .eq 7, 3, 54, 0, 0), (50, .iconst 4, 1, 0, 0, 0), (51, .goto 4, 3, 55, 0, 0), (54, .iconst 5, 1, 0, 0, 0), (55, .iconst 0, 1, 0, 0, 0), (56, .invokevirtual 300, 3, 196, 3, 2),
  (59, .goto (-54), 3, 5, 0, 0), (62, .return_, 1, 0, 0, 0)]
/-- SamePassersModel.products(I)V -/
def mm_c194 : List (Nat × mm_E) := [(0, .aload_n 0, 1, 0, 0, 0), (1, .iload_n 1, 1, 0, 0, 0), (2, .invokevirtual 316, 3, 195, 2, 2), (5, .aload_n 0, 1, 0, 0, 0), (6, .bipush 42, 2, 0, 0, 0), (8, .invokevirtual 310, 3, 197, 2, 2), (11, .ifCond .eq 18, 3, 29, 0, 0), (14, .aload_n 0, 1, 0, 0, 0),
  (15, .iload_n 1, 1, 0, 0, 0), (16, .invokevirtual 316, 3, 195, 2, 2), (19, .aload_n 0, 1, 0, 0, 0), (20, .bipush 6, 2, 0, 0, 0), (22, .iconst 0, 1, 0, 0, 0), (23, .invokevirtual 300, 3, 196, 3, 2), (26, .goto (-21), 3, 5, 0, 0), (29, .return_, 1, 0, 0, 0)]
/-- SamePassersModel.takePart(I)V -/
def mm_c195 : List (Nat × mm_E) := [(0, .aload_n 0, 1, 0, 0, 0), (1, .getfield 202, 3, 12, 8, 0), (4, .ifCond .le 4, 3, 8, 0, 0), (7, .return_, 1, 0, 0, 0), (8, .aload_n 0, 1, 0, 0, 0), (9, .getfield 24, 3, 12, 4, 2), (12, .aload_n 0, 1, 0, 0, 0), (13, .getfield 199, 3, 12, 7, 0),
  (16, .iaload, 1, 0, 0, 0), (17, .iconst 2, 1, 0, 0, 0), (18, .if_icmp .ne 7, 3, 25, 0, 0), (21, .iconst 1, 1, 0, 0, 0), (22, .goto 4, 3, 26, 0, 0), (25, .iconst 0, 1, 0, 0, 0), (26, .istore_n 2, 1, 0, 0, 0), (27, .aload_n 0, 1, 0, 0, 0),
  (28, .bipush 30, 2, 0, 0, 0), (30, .iconst 4, 1, 0, 0, 0), (31, .invokevirtual 224, 3, 181, 3, 2), (34, .istore_n 3, 1, 0, 0, 0), (35, .iload_n 3, 1, 0, 0, 0), (36, .ifCond .lt 19, 3, 55, 0, 0), (39, .aload_n 0, 1, 0, 0, 0), (40, .getfield 294, 3, 12, 21, 0),
  (43, .iload_n 3, 1, 0, 0, 0), (44, .ishr, 1, 0, 0, 0), (45, .iconst 1, 1, 0, 0, 0), (46, .iand, 1, 0, 0, 0), (47, .iconst 1, 1, 0, 0, 0), (48, .if_icmp .ne 7, 3, 55, 0, 0), (51, .iload_n 3, 1, 0, 0, 0), (52, .goto 4, 3, 56, 0, 0),
  (55, .iconst (-1), 1, 0, 0, 0), (56, .istore_n 3, 1, 0, 0, 0), (57, .iload_n 3, 1, 0, 0, 0), (58, .ifCond .ge 33, 3, 91, 0, 0), (61, .iload_n 2, 1, 0, 0, 0), (62, .ifCond .ne 29, 3, 91, 0, 0), (65, .aload_n 0, 1, 0, 0, 0), (66, .bipush 40, 2, 0, 0, 0),
  (68, .invokevirtual 205, 3, 176, 2, 2), (71, .ifCond .ne 20, 3, 91, 0, 0), (74, .aload_n 0, 1, 0, 0, 0), (75, .bipush 27, 2, 0, 0, 0), (77, .invokevirtual 211, 3, 171, 2, 2), (80, .ifCond .ne 11, 3, 91, 0, 0), (83, .aload_n 0, 1, 0, 0, 0), (84, .iconst 1, 1, 0, 0, 0),
  (85, .invokevirtual 208, 3, 172, 2, 2), (88, .goto 13, 3, 101, 0, 0), (91, .iload_n 1, 1, 0, 0, 0), (92, .iconst 5, 1, 0, 0, 0), (93, .if_icmp .ne 8, 3, 101, 0, 0), (96, .aload_n 0, 1, 0, 0, 0), (97, .iconst 5, 1, 0, 0, 0), (98, .invokevirtual 208, 3, 172, 2, 2),
  (101, .aload_n 0, 1, 0, 0, 0), (102, .getfield 202, 3, 12, 8, 0), (105, .ifCond .le 4, 3, 109, 0, 0), (108, .return_, 1, 0, 0, 0), (109, .aload_n 0, 1, 0, 0, 0), (110, .bipush 27, 2, 0, 0, 0), (112, .invokevirtual 214, 3, 170, 2, 2), (115, .ifCond .eq 19, 3, 134, 0, 0),
  (118, .aload_n 0, 1, 0, 0, 0), (119, .iload_n 1, 1, 0, 0, 0), (120, .iconst 1, 1, 0, 0, 0), (121, .iadd, 1, 0, 0, 0), (122, .invokevirtual 316, 3, 195, 2, 2), (125, .aload_n 0, 1, 0, 0, 0), (126, .iconst 3, 1, 0, 0, 0), (127, .iconst 0, 1, 0, 0, 0),
  (128, .invokevirtual 300, 3, 196, 3, 2), (131, .goto 69, 3, 200, 0, 0), (134, .aload_n 0, 1, 0, 0, 0), (135, .bipush 40, 2, 0, 0, 0), (137, .invokevirtual 310, 3, 197, 2, 2), (140, .ifCond .eq 19, 3, 159, 0, 0), (143, .aload_n 0, 1, 0, 0, 0), (144, .iload_n 1, 1, 0, 0, 0),
  (145, .iconst 1, 1, 0, 0, 0), (146, .iadd, 1, 0, 0, 0), (147, .invokevirtual 297, 3, 191, 2, 2), (150, .aload_n 0, 1, 0, 0, 0), (151, .bipush 41, 2, 0, 0, 0), (153, .invokevirtual 263, 3, 175, 2, 2), (156, .goto 44, 3, 200, 0, 0), (159, .aload_n 0, 1, 0, 0, 0),
  (160, .iload_n 2, 1, 0, 0, 0), (161, .ifCond .eq 7, 3, 168, 0, 0), (164, .iconst 1, 1, 0, 0, 0), (165, .goto 4, 3, 169, 0, 0), (168, .iconst 2, 1, 0, 0, 0), (169, .iload_n 2, 1, 0, 0, 0), (170, .ifCond .eq 16, 3, 186, 0, 0), (173, .aload_n 0, 1, 0, 0, 0),
  (174, .getfield 30, 3, 12, 6, 2), (177, .aload_n 0, 1, 0, 0, 0), (178, .getfield 199, 3, 12, 7, 0), (181, .laload, 1, 0, 0, 0), (182, .l2i, 1, 0, 0, 0), (183, .goto 4, 3, 187, 0, 0), (186, .iload_n 3, 1, 0, 0, 0), (187, .invokevirtual 300, 3, 196, 3, 2),
  (190, .aload_n 0, 1, 0, 0, 0), (191, .dup, 1, 0, 0, 0), (192, .getfield 199, 3, 12, 7, 0), (195, .iconst 1, 1, 0, 0, 0), (196, .iadd, 1, 0, 0, 0), (197, .putfield 199, 3, 12, 7, 0), (200, .return_, 1, 0, 0, 0)]
/-- SamePassersModel.emit(II)V -/
def mm_c196 : List (Nat × mm_E) := [(0, .aload_n 0, 1, 0, 0, 0), (1, .getfield 108, 3, 12, 11, 2), (4, .sipush 1100, 3, 0, 0, 0), (7, .aload_n 0, 1, 0, 0, 0), (8, .getfield 252, 3, 12, 13, 0), (11, .iadd, 1, 0, 0, 0), (12, .iload_n 1, 1, 0, 0, 0), (13, .iastore, 1, 0, 0, 0),
  (14, .aload_n 0, 1, 0, 0, 0), (15, .getfield 111, 3, 12, 12, 2), (18, .sipush 1100, 3, 0, 0, 0), (21, .aload_n 0, 1, 0, 0, 0), (22, .getfield 252, 3, 12, 13, 0), (25, .iadd, 1, 0, 0, 0), (26, .iload_n 2, 1, 0, 0, 0), (27, .iastore, 1, 0, 0, 0),
  (28, .aload_n 0, 1, 0, 0, 0), (29, .dup, 1, 0, 0, 0), (30, .getfield 252, 3, 12, 13, 0), (33, .iconst 1, 1, 0, 0, 0), (34, .iadd, 1, 0, 0, 0), (35, .putfield 252, 3, 12, 13, 0), (38, .return_, 1, 0, 0, 0)]
/-- SamePassersModel.hasSign(I)Z -/
def mm_c197 : List (Nat × mm_E) := [(0, .aload_n 0, 1, 0, 0, 0), (1, .iload_n 1, 1, 0, 0, 0), (2, .invokevirtual 205, 3, 176, 2, 2), (5, .istore_n 2, 1, 0, 0, 0), (6, .aload_n 0, 1, 0, 0, 0), (7, .dup, 1, 0, 0, 0), (8, .getfield 199, 3, 12, 7, 0), (11, .iload_n 2, 1, 0, 0, 0),
  (12, .ifCond .eq 7, 3, 19, 0, 0), (15, .iconst 1, 1, 0, 0, 0), (16, .goto 4, 3, 20, 0, 0), (19, .iconst 0, 1, 0, 0, 0), (20, .iadd, 1, 0, 0, 0), (21, .putfield 199, 3, 12, 7, 0), (24, .iload_n 2, 1, 0, 0, 0), (25, .ireturn, 1, 0, 0, 0)]
/-- SamePassersModel.takes()I -/
def mm_c198 : List (Nat × mm_E) := [(0, .aload_n 0, 1, 0, 0, 0), (1, .iconst 0, 1, 0, 0, 0), (2, .putfield 1, 3, 12, 0, 0), (5, .aload_n 0, 1, 0, 0, 0), (6, .invokevirtual 249, 3, 164, 1, 2), (9, .iconst 0, 1, 0, 0, 0), (10, .istore_n 1, 1, 0, 0, 0), (11, .aload_n 0, 1, 0, 0, 0),
  (12, .getfield 202, 3, 12, 8, 0), (15, .ifCond .ne 159, 3, 174, 0, 0), (18, .aload_n 0, 1, 0, 0, 0), (19, .getfield 24, 3, 12, 4, 2), (22, .aload_n 0, 1, 0, 0, 0), (23, .getfield 199, 3, 12, 7, 0), (26, .iaload, 1, 0, 0, 0), (27, .ifCond .eq 147, 3, 174, 0, 0),
  (30, .aload_n 0, 1, 0, 0, 0), (31, .bipush 17, 2, 0, 0, 0), (33, .iconst 4, 1, 0, 0, 0), (34, .invokevirtual 224, 3, 181, 3, 2), (37, .istore_n 2, 1, 0, 0, 0), (38, .iload_n 2, 1, 0, 0, 0), (39, .ifCond .ge 11, 3, 50, 0, 0), (42, .aload_n 0, 1, 0, 0, 0),
  (43, .iconst 1, 1, 0, 0, 0), (44, .invokevirtual 208, 3, 172, 2, 2), (47, .goto 118, 3, 165, 0, 0), (50, .iload_n 1, 1, 0, 0, 0), (51, .bipush 30, 2, 0, 0, 0), (53, .if_icmp .ne 11, 3, 64, 0, 0), (56, .aload_n 0, 1, 0, 0, 0), (57, .iconst 5, 1, 0, 0, 0),
  (58, .invokevirtual 208, 3, 172, 2, 2), (61, .goto 104, 3, 165, 0, 0), (64, .aload_n 0, 1, 0, 0, 0), (65, .dup, 1, 0, 0, 0), (66, .getfield 199, 3, 12, 7, 0), (69, .iconst 1, 1, 0, 0, 0), (70, .iadd, 1, 0, 0, 0), (71, .putfield 199, 3, 12, 7, 0),
  (74, .aload_n 0, 1, 0, 0, 0), (75, .getfield 126, 3, 12, 22, 2), (78, .bipush 100, 2, 0, 0, 0), (80, .iconst 3, 1, 0, 0, 0), (81, .iload_n 1, 1, 0, 0, 0), (82, .imul, 1, 0, 0, 0), (83, .iadd, 1, 0, 0, 0), (84, .iload_n 2, 1, 0, 0, 0),
  (85, .iastore, 1, 0, 0, 0), (86, .aload_n 0, 1, 0, 0, 0), (87, .getfield 126, 3, 12, 22, 2), (90, .bipush 101, 2, 0, 0, 0), (92, .iconst 3, 1, 0, 0, 0), (93, .iload_n 1, 1, 0, 0, 0), (94, .imul, 1, 0, 0, 0), (95, .iadd, 1, 0, 0, 0),
  (96, .iload_n 2, 1, 0, 0, 0), (97, .iconst 3, 1, 0, 0, 0), (98, .if_icmp .ge 15, 3, 113, 0, 0), (101, .aload_n 0, 1, 0, 0, 0), (102, .iconst 0, 1, 0, 0, 0), (103, .bipush 20, 2, 0, 0, 0), (105, .bipush 8, 2, 0, 0, 0), (107, .invokevirtual 291, 3, 186, 4, 2),
  (110, .goto 4, 3, 114, 0, 0), (113, .iconst 0, 1, 0, 0, 0), (114, .iastore, 1, 0, 0, 0), (115, .aload_n 0, 1, 0, 0, 0), (116, .getfield 126, 3, 12, 22, 2), (119, .bipush 102, 2, 0, 0, 0), (121, .iconst 3, 1, 0, 0, 0), (122, .iload_n 1, 1, 0, 0, 0),
  (123, .imul, 1, 0, 0, 0), (124, .iadd, 1, 0, 0, 0), (125, .iload_n 2, 1, 0, 0, 0), (126, .ifCond .ne 19, 3, 145, 0, 0), (129, .aload_n 0, 1, 0, 0, 0), (130, .iconst 0, 1, 0, 0, 0), (131, .aload_n 0, 1, 0, 0, 0), (132, .getfield 105, 3, 12, 10, 2),
  (135, .iconst 0, 1, 0, 0, 0), (136, .iaload, 1, 0, 0, 0), (137, .iconst 1, 1, 0, 0, 0), (138, .isub, 1, 0, 0, 0), (139, .invokevirtual 220, 3, 173, 3, 2), (142, .goto 19, 3, 161, 0, 0), (145, .iload_n 2, 1, 0, 0, 0), (146, .iconst 2, 1, 0, 0, 0),
  (147, .if_icmp .ne 13, 3, 160, 0, 0), (150, .aload_n 0, 1, 0, 0, 0), (151, .iconst 0, 1, 0, 0, 0), (152, .bipush 99, 2, 0, 0, 0), (154, .invokevirtual 220, 3, 173, 3, 2), (157, .goto 4, 3, 161, 0, 0), (160, .iconst 0, 1, 0, 0, 0), (161, .iastore, 1, 0, 0, 0),
  (162, .iinc 1 1, 3, 0, 0, 0), (165, .aload_n 0, 1, 0, 0, 0), (166, .bipush 59, 2, 0, 0, 0), (168, .invokevirtual 263, 3, 175, 2, 2), (171, .goto (-160), 3, 11, 0, 0), (174, .aload_n 0, 1, 0, 0, 0), (175, .getfield 202, 3, 12, 8, 0), (178, .ifCond .le 8, 3, 186, 0, 0),
  (181, .aload_n 0, 1, 0, 0, 0), (182, .getfield 202, 3, 12, 8, 0), (185, .ireturn, 1, 0, 0, 0), (186, .aload_n 0, 1, 0, 0, 0), (187, .getfield 126, 3, 12, 22, 2), (190, .iconst 0, 1, 0, 0, 0), (191, .iload_n 1, 1, 0, 0, 0), (192, .iastore, 1, 0, 0, 0),
  (193, .iconst 0, 1, 0, 0, 0), (194, .istore_n 2, 1, 0, 0, 0), (195, .iload_n 2, 1, 0, 0, 0), (196, .iconst 3, 1, 0, 0, 0), (197, .iload_n 1, 1, 0, 0, 0), (198, .imul, 1, 0, 0, 0), (199, .if_icmp .ge 26, 3, 225, 0, 0), (202, .aload_n 0, 1, 0, 0, 0),
  (203, .getfield 126, 3, 12, 22, 2), (206, .iconst 1, 1, 0, 0, 0), (207, .iload_n 2, 1, 0, 0, 0), (208, .iadd, 1, 0, 0, 0), (209, .aload_n 0, 1, 0, 0, 0), (210, .getfield 126, 3, 12, 22, 2), (213, .bipush 100, 2, 0, 0, 0), (215, .iload_n 2, 1, 0, 0, 0),
  (216, .iadd, 1, 0, 0, 0), (217, .iaload, 1, 0, 0, 0), (218, .iastore, 1, 0, 0, 0), (219, .iinc 2 1, 3, 0, 0, 0), (222, .goto (-27), 3, 195, 0, 0), (225, .iconst 0, 1, 0, 0, 0), (226, .ireturn, 1, 0, 0, 0)]
/-- SamePassersModel.walker(II)I -/
def mm_c199 : List (Nat × mm_E) := [(0, .aload_n 0, 1, 0, 0, 0), (1, .iconst 0, 1, 0, 0, 0), (2, .putfield 1, 3, 12, 0, 0), (5, .aload_n 0, 1, 0, 0, 0), (6, .iload_n 1, 1, 0, 0, 0), (7, .invokevirtual 376, 3, 200, 2, 2), (10, .ifCond .eq 13, 3, 23, 0, 0), (13, .iload_n 2, 1, 0, 0, 0),
  (14, .iconst 0, 1, 0, 0, 0), (15, .bipush 9, 2, 0, 0, 0), (17, .invokestatic 241, 3, 188, 3, 0), (20, .ifCond .ne 5, 3, 25, 0, 0), (23, .iconst (-1), 1, 0, 0, 0), (24, .ireturn, 1, 0, 0, 0), (25, .iload_n 2, 1, 0, 0, 0), (26, .tableswitch 99 2 9 #[46, 55, 65, 99, 99, 77, 87, 93], 46, 0, 0, 0),
  (72, .aload_n 0, 1, 0, 0, 0), (73, .getfield 135, 3, 12, 25, 2), (76, .iconst 1, 1, 0, 0, 0), (77, .iload_n 1, 1, 0, 0, 0), (78, .iadd, 1, 0, 0, 0), (79, .iaload, 1, 0, 0, 0), (80, .ireturn, 1, 0, 0, 0), (81, .aload_n 0, 1, 0, 0, 0),
  (82, .getfield 135, 3, 12, 25, 2), (85, .bipush 9, 2, 0, 0, 0), (87, .iload_n 1, 1, 0, 0, 0), (88, .iadd, 1, 0, 0, 0), (89, .iaload, 1, 0, 0, 0), (90, .ireturn, 1, 0, 0, 0), (91, .aload_n 0, 1, 0, 0, 0), (92, .iload_n 1, 1, 0, 0, 0),
  (93, .aload_n 0, 1, 0, 0, 0), (94, .getfield 135, 3, 12, 25, 2), (97, .iconst 0, 1, 0, 0, 0), (98, .iaload, 1, 0, 0, 0), (99, .invokevirtual 353, 3, 202, 3, 2), (102, .ireturn, 1, 0, 0, 0), (103, .aload_n 0, 1, 0, 0, 0), (104, .getfield 135, 3, 12, 25, 2),
  (107, .bipush 17, 2, 0, 0, 0), (109, .iload_n 1, 1, 0, 0, 0), (110, .iadd, 1, 0, 0, 0), (111, .iaload, 1, 0, 0, 0), (112, .ireturn, 1, 0, 0, 0), (113, .aload_n 0, 1, 0, 0, 0), (114, .iload_n 1, 1, 0, 0, 0), (115, .invokevirtual 373, 3, 205, 2, 2),
  (118, .ireturn, 1, 0, 0, 0), (119, .aload_n 0, 1, 0, 0, 0), (120, .iload_n 1, 1, 0, 0, 0), (121, .invokevirtual 379, 3, 213, 2, 2), (124, .ireturn, 1, 0, 0, 0), (125, .aload_n 0, 1, 0, 0, 0), (126, .iload_n 1, 1, 0, 0, 0), (127, .iload_n 2, 1, 0, 0, 0),
  (128, .invokevirtual 322, 3, 162, 3, 2), (131, .ireturn, 1, 0, 0, 0)]
/-- SamePassersModel.isWalker(I)Z -/
def mm_c200 : List (Nat × mm_E) := [(0, .iload_n 1, 1, 0, 0, 0), (1, .ifCond .lt 15, 3, 16, 0, 0), (4, .iload_n 1, 1, 0, 0, 0), (5, .aload_n 0, 1, 0, 0, 0), (6, .invokevirtual 335, 3, 201, 1, 2), (9, .if_icmp .ge 7, 3, 16, 0, 0), (12, .iconst 1, 1, 0, 0, 0), (13, .goto 4, 3, 17, 0, 0),
  (16, .iconst 0, 1, 0, 0, 0), (17, .ireturn, 1, 0, 0, 0)]
/-- SamePassersModel.walkers()I -/
def mm_c201 : List (Nat × mm_E) := [(0, .aload_n 0, 1, 0, 0, 0), (1, .getfield 105, 3, 12, 10, 2), (4, .bipush 6, 2, 0, 0, 0), (6, .iaload, 1, 0, 0, 0), (7, .ireturn, 1, 0, 0, 0)]
/-- SamePassersModel.tempoOf(II)I -/
def mm_c202 : List (Nat × mm_E) := [(0, .aload_n 0, 1, 0, 0, 0), (1, .getfield 129, 3, 12, 23, 2), (4, .iconst 0, 1, 0, 0, 0), (5, .aload_n 0, 1, 0, 0, 0), (6, .iload_n 1, 1, 0, 0, 0), (7, .iconst 4, 1, 0, 0, 0), (8, .invokevirtual 322, 3, 162, 3, 2), (11, .iastore, 1, 0, 0, 0),
  (12, .aload_n 0, 1, 0, 0, 0), (13, .getfield 129, 3, 12, 23, 2), (16, .iconst 1, 1, 0, 0, 0), (17, .iload_n 2, 1, 0, 0, 0), (18, .iastore, 1, 0, 0, 0), (19, .aload_n 0, 1, 0, 0, 0), (20, .getfield 105, 3, 12, 10, 2), (23, .bipush 9, 2, 0, 0, 0),
  (25, .iaload, 1, 0, 0, 0), (26, .ifCond .ge 12, 3, 38, 0, 0), (29, .aload_n 0, 1, 0, 0, 0), (30, .getfield 129, 3, 12, 23, 2), (33, .iconst 0, 1, 0, 0, 0), (34, .iaload, 1, 0, 0, 0), (35, .goto 14, 3, 49, 0, 0), (38, .aload_n 0, 1, 0, 0, 0),
  (39, .aload_n 0, 1, 0, 0, 0), (40, .getfield 105, 3, 12, 10, 2), (43, .bipush 9, 2, 0, 0, 0), (45, .iaload, 1, 0, 0, 0), (46, .invokevirtual 341, 3, 203, 2, 2), (49, .istore_n 3, 1, 0, 0, 0), (50, .iload_n 3, 1, 0, 0, 0), (51, .iconst 1, 1, 0, 0, 0),
  (52, .if_icmp .ge 7, 3, 59, 0, 0), (55, .iconst 1, 1, 0, 0, 0), (56, .goto 15, 3, 71, 0, 0), (59, .iload_n 3, 1, 0, 0, 0), (60, .bipush 99, 2, 0, 0, 0), (62, .if_icmp .le 8, 3, 70, 0, 0), (65, .bipush 99, 2, 0, 0, 0), (67, .goto 4, 3, 71, 0, 0),
  (70, .iload_n 3, 1, 0, 0, 0), (71, .ireturn, 1, 0, 0, 0)]
/-- SamePassersModel.worthAt(I)I -/
def mm_c203 : List (Nat × mm_E) := [(0, .iconst 0, 1, 0, 0, 0), (1, .istore_n 2, 1, 0, 0, 0), (2, .iload_n 1, 1, 0, 0, 0), (3, .istore_n 3, 1, 0, 0, 0), (4, .aload_n 0, 1, 0, 0, 0), (5, .getfield 108, 3, 12, 11, 2), (8, .iload_n 3, 1, 0, 0, 0), (9, .iaload, 1, 0, 0, 0),
  (10, .ifCond .eq 130, 3, 140, 0, 0), (13, .aload_n 0, 1, 0, 0, 0), (14, .getfield 108, 3, 12, 11, 2), (17, .iload_n 3, 1, 0, 0, 0), (18, .iaload, 1, 0, 0, 0), (19, .istore 4, 2, 0, 0, 0), (21, .iload 4, 2, 0, 0, 0), (23, .iconst 1, 1, 0, 0, 0),
  (24, .if_icmp .eq 9, 3, 33, 0, 0), (27, .iload 4, 2, 0, 0, 0), (29, .iconst 2, 1, 0, 0, 0), (30, .if_icmp .ne 41, 3, 71, 0, 0), (33, .aload_n 0, 1, 0, 0, 0), (34, .getfield 132, 3, 12, 24, 2), (37, .iload_n 2, 1, 0, 0, 0), (38, .iload 4, 2, 0, 0, 0),
  (40, .iconst 1, 1, 0, 0, 0), (41, .if_icmp .ne 12, 3, 53, 0, 0), (44, .aload_n 0, 1, 0, 0, 0), (45, .getfield 111, 3, 12, 12, 2), (48, .iload_n 3, 1, 0, 0, 0), (49, .iaload, 1, 0, 0, 0), (50, .goto 14, 3, 64, 0, 0), (53, .aload_n 0, 1, 0, 0, 0),
  (54, .getfield 129, 3, 12, 23, 2), (57, .aload_n 0, 1, 0, 0, 0), (58, .getfield 111, 3, 12, 12, 2), (61, .iload_n 3, 1, 0, 0, 0), (62, .iaload, 1, 0, 0, 0), (63, .iaload, 1, 0, 0, 0), (64, .iastore, 1, 0, 0, 0), (65, .iinc 2 1, 3, 0, 0, 0),
  (68, .goto 66, 3, 134, 0, 0), (71, .iload 4, 2, 0, 0, 0), (73, .iconst 3, 1, 0, 0, 0), (74, .if_icmp .ne 30, 3, 104, 0, 0), (77, .aload_n 0, 1, 0, 0, 0), (78, .getfield 132, 3, 12, 24, 2), (81, .iload_n 2, 1, 0, 0, 0), (82, .iconst 1, 1, 0, 0, 0),
  (83, .isub, 1, 0, 0, 0), (84, .aload_n 0, 1, 0, 0, 0), (85, .getfield 132, 3, 12, 24, 2), (88, .iload_n 2, 1, 0, 0, 0), (89, .iconst 1, 1, 0, 0, 0), (90, .isub, 1, 0, 0, 0), (91, .iaload, 1, 0, 0, 0), (92, .ifCond .ne 7, 3, 99, 0, 0),
  (95, .iconst 1, 1, 0, 0, 0), (96, .goto 4, 3, 100, 0, 0), (99, .iconst 0, 1, 0, 0, 0), (100, .iastore, 1, 0, 0, 0), (101, .goto 33, 3, 134, 0, 0), (104, .iinc 2 (-1), 3, 0, 0, 0), (107, .aload_n 0, 1, 0, 0, 0), (108, .getfield 132, 3, 12, 24, 2),
  (111, .iload_n 2, 1, 0, 0, 0), (112, .iconst 1, 1, 0, 0, 0), (113, .isub, 1, 0, 0, 0), (114, .iload 4, 2, 0, 0, 0), (116, .aload_n 0, 1, 0, 0, 0), (117, .getfield 132, 3, 12, 24, 2), (120, .iload_n 2, 1, 0, 0, 0), (121, .iconst 1, 1, 0, 0, 0),
  (122, .isub, 1, 0, 0, 0), (123, .iaload, 1, 0, 0, 0), (124, .aload_n 0, 1, 0, 0, 0), (125, .getfield 132, 3, 12, 24, 2), (128, .iload_n 2, 1, 0, 0, 0), (129, .iaload, 1, 0, 0, 0), (130, .invokestatic 319, 3, 204, 3, 0), (133, .iastore, 1, 0, 0, 0),
  (134, .iinc 3 1, 3, 0, 0, 0), (137, .goto (-133), 3, 4, 0, 0), (140, .aload_n 0, 1, 0, 0, 0), (141, .getfield 132, 3, 12, 24, 2), (144, .iconst 0, 1, 0, 0, 0), (145, .iaload, 1, 0, 0, 0), (146, .ireturn, 1, 0, 0, 0)]
/-- SamePassersModel.both(III)I -/
def mm_c204 : List (Nat × mm_E) := [(0, .iload_n 0, 1, 0, 0, 0), (1, .tableswitch 87 4 9 #[39, 43, 47, 51, 62, 73], 39, 0, 0, 0), (40, .iload_n 1, 1, 0, 0, 0), (41, .iload_n 2, 1, 0, 0, 0), (42, .iadd, 1, 0, 0, 0), (43, .ireturn, 1, 0, 0, 0), (44, .iload_n 1, 1, 0, 0, 0), (45, .iload_n 2, 1, 0, 0, 0),
  (46, .isub, 1, 0, 0, 0), (47, .ireturn, 1, 0, 0, 0), (48, .iload_n 1, 1, 0, 0, 0), (49, .iload_n 2, 1, 0, 0, 0), (50, .imul, 1, 0, 0, 0), (51, .ireturn, 1, 0, 0, 0), (52, .iload_n 1, 1, 0, 0, 0), (53, .iload_n 2, 1, 0, 0, 0),
  (54, .if_icmp .ge 7, 3, 61, 0, 0), (57, .iconst 1, 1, 0, 0, 0), (58, .goto 4, 3, 62, 0, 0), (61, .iconst 0, 1, 0, 0, 0), (62, .ireturn, 1, 0, 0, 0), (63, .iload_n 1, 1, 0, 0, 0), (64, .iload_n 2, 1, 0, 0, 0), (65, .if_icmp .ne 7, 3, 72, 0, 0),
  (68, .iconst 1, 1, 0, 0, 0), (69, .goto 4, 3, 73, 0, 0), (72, .iconst 0, 1, 0, 0, 0), (73, .ireturn, 1, 0, 0, 0), (74, .iload_n 1, 1, 0, 0, 0), (75, .ifCond .eq 11, 3, 86, 0, 0), (78, .iload_n 2, 1, 0, 0, 0), (79, .ifCond .eq 7, 3, 86, 0, 0),
  (82, .iconst 1, 1, 0, 0, 0), (83, .goto 4, 3, 87, 0, 0), (86, .iconst 0, 1, 0, 0, 0), (87, .ireturn, 1, 0, 0, 0), (88, .iload_n 1, 1, 0, 0, 0), (89, .ifCond .ne 7, 3, 96, 0, 0), (92, .iload_n 2, 1, 0, 0, 0), (93, .ifCond .eq 7, 3, 100, 0, 0),
  (96, .iconst 1, 1, 0, 0, 0), (97, .goto 4, 3, 101, 0, 0), (100, .iconst 0, 1, 0, 0, 0), (101, .ireturn, 1, 0, 0, 0)]
/-- SamePassersModel.passesOf(I)I -/
def mm_c205 : List (Nat × mm_E) := [(0, .iconst 0, 1, 0, 0, 0), (1, .istore_n 2, 1, 0, 0, 0), (2, .iconst 0, 1, 0, 0, 0), (3, .istore_n 3, 1, 0, 0, 0), (4, .aload_n 0, 1, 0, 0, 0), (5, .iload_n 1, 1, 0, 0, 0), (6, .aload_n 0, 1, 0, 0, 0), (7, .getfield 135, 3, 12, 25, 2),
  (10, .iconst 0, 1, 0, 0, 0), (11, .iaload, 1, 0, 0, 0), (12, .invokevirtual 353, 3, 202, 3, 2), (15, .istore 4, 2, 0, 0, 0), (17, .iconst 0, 1, 0, 0, 0), (18, .istore 5, 2, 0, 0, 0), (20, .iload 5, 2, 0, 0, 0), (22, .sipush 600, 3, 0, 0, 0),
  (25, .if_icmp .gt 76, 3, 101, 0, 0), (28, .aload_n 0, 1, 0, 0, 0), (29, .iload_n 1, 1, 0, 0, 0), (30, .aload_n 0, 1, 0, 0, 0), (31, .iload_n 1, 1, 0, 0, 0), (32, .aload_n 0, 1, 0, 0, 0), (33, .getfield 135, 3, 12, 25, 2), (36, .iconst 1, 1, 0, 0, 0),
  (37, .iload_n 1, 1, 0, 0, 0), (38, .iadd, 1, 0, 0, 0), (39, .iaload, 1, 0, 0, 0), (40, .aload_n 0, 1, 0, 0, 0), (41, .getfield 135, 3, 12, 25, 2), (44, .bipush 9, 2, 0, 0, 0), (46, .iload_n 1, 1, 0, 0, 0), (47, .iadd, 1, 0, 0, 0),
  (48, .iaload, 1, 0, 0, 0), (49, .aload_n 0, 1, 0, 0, 0), (50, .iconst 0, 1, 0, 0, 0), (51, .iload_n 1, 1, 0, 0, 0), (52, .invokevirtual 367, 3, 206, 3, 2), (55, .iload 4, 2, 0, 0, 0), (57, .iload 5, 2, 0, 0, 0), (59, .invokevirtual 356, 3, 207, 7, 2),
  (62, .invokevirtual 370, 3, 211, 3, 2), (65, .ifCond .le 7, 3, 72, 0, 0), (68, .iconst 1, 1, 0, 0, 0), (69, .goto 4, 3, 73, 0, 0), (72, .iconst 0, 1, 0, 0, 0), (73, .istore 6, 2, 0, 0, 0), (75, .iload_n 2, 1, 0, 0, 0), (76, .iload 6, 2, 0, 0, 0),
  (78, .ifCond .eq 11, 3, 89, 0, 0), (81, .iload_n 3, 1, 0, 0, 0), (82, .ifCond .ne 7, 3, 89, 0, 0), (85, .iconst 1, 1, 0, 0, 0), (86, .goto 4, 3, 90, 0, 0), (89, .iconst 0, 1, 0, 0, 0), (90, .iadd, 1, 0, 0, 0), (91, .istore_n 2, 1, 0, 0, 0),
  (92, .iload 6, 2, 0, 0, 0), (94, .istore_n 3, 1, 0, 0, 0), (95, .iinc 5 1, 3, 0, 0, 0), (98, .goto (-78), 3, 20, 0, 0), (101, .iload_n 2, 1, 0, 0, 0), (102, .ireturn, 1, 0, 0, 0)]
/-- SamePassersModel.behindOf(II)I -/
def mm_c206 : List (Nat × mm_E) := [(0, .aload_n 0, 1, 0, 0, 0), (1, .iload_n 2, 1, 0, 0, 0), (2, .iconst 5, 1, 0, 0, 0), (3, .invokevirtual 322, 3, 162, 3, 2), (6, .aload_n 0, 1, 0, 0, 0), (7, .getfield 135, 3, 12, 25, 2), (10, .iload_n 1, 1, 0, 0, 0), (11, .bipush 17, 2, 0, 0, 0),
  (13, .iadd, 1, 0, 0, 0), (14, .iload_n 2, 1, 0, 0, 0), (15, .iadd, 1, 0, 0, 0), (16, .iaload, 1, 0, 0, 0), (17, .iadd, 1, 0, 0, 0), (18, .ireturn, 1, 0, 0, 0)]
/-- SamePassersModel.placeOf(IIIIII)I -/
def mm_c207 : List (Nat × mm_E) := [(0, .aload_n 0, 1, 0, 0, 0), (1, .invokevirtual 347, 3, 208, 1, 2), (4, .istore 7, 2, 0, 0, 0), (6, .iload_n 3, 1, 0, 0, 0), (7, .iconst 1, 1, 0, 0, 0), (8, .if_icmp .ne 7, 3, 15, 0, 0), (11, .iload_n 2, 1, 0, 0, 0), (12, .goto 9, 3, 21, 0, 0),
  (15, .iload 7, 2, 0, 0, 0), (17, .iconst 1, 1, 0, 0, 0), (18, .isub, 1, 0, 0, 0), (19, .iload_n 2, 1, 0, 0, 0), (20, .isub, 1, 0, 0, 0), (21, .istore 8, 2, 0, 0, 0), (23, .iload 6, 2, 0, 0, 0), (25, .aload_n 0, 1, 0, 0, 0),
  (26, .iload_n 1, 1, 0, 0, 0), (27, .invokevirtual 350, 3, 209, 2, 2), (30, .isub, 1, 0, 0, 0), (31, .iload 4, 2, 0, 0, 0), (33, .isub, 1, 0, 0, 0), (34, .istore 9, 2, 0, 0, 0), (36, .aload_n 0, 1, 0, 0, 0), (37, .iload_n 1, 1, 0, 0, 0),
  (38, .iconst 0, 1, 0, 0, 0), (39, .invokevirtual 322, 3, 162, 3, 2), (42, .istore 10, 2, 0, 0, 0), (44, .iload 9, 2, 0, 0, 0), (46, .ifCond .ge 10, 3, 56, 0, 0), (49, .iload 8, 2, 0, 0, 0), (51, .istore 11, 2, 0, 0, 0), (53, .goto 146, 3, 199, 0, 0),
  (56, .iload 10, 2, 0, 0, 0), (58, .iconst 2, 1, 0, 0, 0), (59, .if_icmp .ne 44, 3, 103, 0, 0), (62, .iload 8, 2, 0, 0, 0), (64, .iload 9, 2, 0, 0, 0), (66, .iload 5, 2, 0, 0, 0), (68, .idiv, 1, 0, 0, 0), (69, .iadd, 1, 0, 0, 0),
  (70, .iconst 2, 1, 0, 0, 0), (71, .iload 7, 2, 0, 0, 0), (73, .imul, 1, 0, 0, 0), (74, .irem, 1, 0, 0, 0), (75, .istore 12, 2, 0, 0, 0), (77, .iload 12, 2, 0, 0, 0), (79, .iload 7, 2, 0, 0, 0), (81, .if_icmp .ge 8, 3, 89, 0, 0),
  (84, .iload 12, 2, 0, 0, 0), (86, .goto 12, 3, 98, 0, 0), (89, .iconst 2, 1, 0, 0, 0), (90, .iload 7, 2, 0, 0, 0), (92, .imul, 1, 0, 0, 0), (93, .iconst 1, 1, 0, 0, 0), (94, .isub, 1, 0, 0, 0), (95, .iload 12, 2, 0, 0, 0),
  (97, .isub, 1, 0, 0, 0), (98, .istore 11, 2, 0, 0, 0), (100, .goto 99, 3, 199, 0, 0), (103, .iload 9, 2, 0, 0, 0), (105, .iload 5, 2, 0, 0, 0), (107, .iload 7, 2, 0, 0, 0), (109, .iload 8, 2, 0, 0, 0), (111, .isub, 1, 0, 0, 0),
  (112, .imul, 1, 0, 0, 0), (113, .if_icmp .ge 16, 3, 129, 0, 0), (116, .iload 8, 2, 0, 0, 0), (118, .iload 9, 2, 0, 0, 0), (120, .iload 5, 2, 0, 0, 0), (122, .idiv, 1, 0, 0, 0), (123, .iadd, 1, 0, 0, 0), (124, .istore 11, 2, 0, 0, 0),
  (126, .goto 73, 3, 199, 0, 0), (129, .iload 10, 2, 0, 0, 0), (131, .iconst 1, 1, 0, 0, 0), (132, .if_icmp .ne 9, 3, 141, 0, 0), (135, .iconst (-1), 1, 0, 0, 0), (136, .istore 11, 2, 0, 0, 0), (138, .goto 61, 3, 199, 0, 0), (141, .iload 9, 2, 0, 0, 0),
  (143, .iload 5, 2, 0, 0, 0), (145, .iload 7, 2, 0, 0, 0), (147, .iload 8, 2, 0, 0, 0), (149, .isub, 1, 0, 0, 0), (150, .imul, 1, 0, 0, 0), (151, .isub, 1, 0, 0, 0), (152, .iload 5, 2, 0, 0, 0), (154, .iload 7, 2, 0, 0, 0),
  (156, .imul, 1, 0, 0, 0), (157, .aload_n 0, 1, 0, 0, 0), (158, .getfield 105, 3, 12, 10, 2), (161, .bipush 8, 2, 0, 0, 0), (163, .iaload, 1, 0, 0, 0), (164, .iadd, 1, 0, 0, 0), (165, .irem, 1, 0, 0, 0), (166, .istore 12, 2, 0, 0, 0),
  (168, .iload 12, 2, 0, 0, 0), (170, .aload_n 0, 1, 0, 0, 0), (171, .getfield 105, 3, 12, 10, 2), (174, .bipush 8, 2, 0, 0, 0), (176, .iaload, 1, 0, 0, 0), (177, .if_icmp .ge 7, 3, 184, 0, 0), (180, .iconst (-1), 1, 0, 0, 0), (181, .goto 16, 3, 197, 0, 0),
  (184, .iload 12, 2, 0, 0, 0), (186, .aload_n 0, 1, 0, 0, 0), (187, .getfield 105, 3, 12, 10, 2), (190, .bipush 8, 2, 0, 0, 0), (192, .iaload, 1, 0, 0, 0), (193, .isub, 1, 0, 0, 0), (194, .iload 5, 2, 0, 0, 0), (196, .idiv, 1, 0, 0, 0),
  (197, .istore 11, 2, 0, 0, 0), (199, .iload 11, 2, 0, 0, 0), (201, .ifCond .ge 7, 3, 208, 0, 0), (204, .iconst (-1), 1, 0, 0, 0), (205, .goto 20, 3, 225, 0, 0), (208, .iload_n 3, 1, 0, 0, 0), (209, .iconst 1, 1, 0, 0, 0), (210, .if_icmp .ne 8, 3, 218, 0, 0),
  (213, .iload 11, 2, 0, 0, 0), (215, .goto 10, 3, 225, 0, 0), (218, .iload 7, 2, 0, 0, 0), (220, .iconst 1, 1, 0, 0, 0), (221, .isub, 1, 0, 0, 0), (222, .iload 11, 2, 0, 0, 0), (224, .isub, 1, 0, 0, 0), (225, .ireturn, 1, 0, 0, 0)]
/-- SamePassersModel.cells()I -/
def mm_c208 : List (Nat × mm_E) := [(0, .aload_n 0, 1, 0, 0, 0), (1, .getfield 105, 3, 12, 10, 2), (4, .iconst 0, 1, 0, 0, 0), (5, .iaload, 1, 0, 0, 0), (6, .ireturn, 1, 0, 0, 0)]
/-- SamePassersModel.cueOf(I)I -/
def mm_c209 : List (Nat × mm_E) := [(0, .aload_n 0, 1, 0, 0, 0), (1, .iload_n 1, 1, 0, 0, 0), (2, .bipush 6, 2, 0, 0, 0), (4, .invokevirtual 322, 3, 162, 3, 2), (7, .istore_n 2, 1, 0, 0, 0), (8, .iload_n 2, 1, 0, 0, 0), (9, .ifCond .lt 13, 3, 22, 0, 0), (12, .aload_n 0, 1, 0, 0, 0),
  (13, .iload_n 1, 1, 0, 0, 0), (14, .iconst 0, 1, 0, 0, 0), (15, .invokevirtual 322, 3, 162, 3, 2), (18, .iconst 3, 1, 0, 0, 0), (19, .if_icmp .ne 7, 3, 26, 0, 0), (22, .iconst 0, 1, 0, 0, 0), (23, .goto 8, 3, 31, 0, 0), (26, .aload_n 0, 1, 0, 0, 0),
  (27, .iload_n 2, 1, 0, 0, 0), (28, .invokevirtual 344, 3, 210, 2, 2), (31, .ireturn, 1, 0, 0, 0)]
/-- SamePassersModel.tenthOf(I)I -/
def mm_c210 : List (Nat × mm_E) := [(0, .aload_n 0, 1, 0, 0, 0), (1, .getfield 105, 3, 12, 10, 2), (4, .bipush 11, 2, 0, 0, 0), (6, .iload_n 1, 1, 0, 0, 0), (7, .iadd, 1, 0, 0, 0), (8, .iaload, 1, 0, 0, 0), (9, .ireturn, 1, 0, 0, 0)]
/-- SamePassersModel.sightOf(II)I -/
def mm_c211 : List (Nat × mm_E) := [(0, .iload_n 2, 1, 0, 0, 0), (1, .ifCond .lt 11, 3, 12, 0, 0), (4, .aload_n 0, 1, 0, 0, 0), (5, .iload_n 2, 1, 0, 0, 0), (6, .invokevirtual 364, 3, 212, 2, 2), (9, .ifCond .ne 7, 3, 16, 0, 0), (12, .iconst 0, 1, 0, 0, 0), (13, .goto 23, 3, 36, 0, 0),
  (16, .aload_n 0, 1, 0, 0, 0), (17, .iload_n 1, 1, 0, 0, 0), (18, .iconst 1, 1, 0, 0, 0), (19, .invokevirtual 322, 3, 162, 3, 2), (22, .aload_n 0, 1, 0, 0, 0), (23, .getfield 105, 3, 12, 10, 2), (26, .iconst 4, 1, 0, 0, 0), (27, .iaload, 1, 0, 0, 0),
  (28, .if_icmp .ge 7, 3, 35, 0, 0), (31, .iconst 2, 1, 0, 0, 0), (32, .goto 4, 3, 36, 0, 0), (35, .iconst 1, 1, 0, 0, 0), (36, .ireturn, 1, 0, 0, 0)]
/-- SamePassersModel.isFramed(I)Z -/
def mm_c212 : List (Nat × mm_E) := [(0, .iload_n 1, 1, 0, 0, 0), (1, .aload_n 0, 1, 0, 0, 0), (2, .getfield 105, 3, 12, 10, 2), (5, .iconst 2, 1, 0, 0, 0), (6, .iaload, 1, 0, 0, 0), (7, .if_icmp .lt 17, 3, 24, 0, 0), (10, .iload_n 1, 1, 0, 0, 0), (11, .aload_n 0, 1, 0, 0, 0),
  (12, .getfield 105, 3, 12, 10, 2), (15, .iconst 3, 1, 0, 0, 0), (16, .iaload, 1, 0, 0, 0), (17, .if_icmp .gt 7, 3, 24, 0, 0), (20, .iconst 1, 1, 0, 0, 0), (21, .goto 4, 3, 25, 0, 0), (24, .iconst 0, 1, 0, 0, 0), (25, .ireturn, 1, 0, 0, 0)]
/-- SamePassersModel.knownOf(I)I -/
def mm_c213 : List (Nat × mm_E) := [(0, .aload_n 0, 1, 0, 0, 0), (1, .iload_n 1, 1, 0, 0, 0), (2, .invokevirtual 373, 3, 205, 2, 2), (5, .istore_n 2, 1, 0, 0, 0), (6, .aload_n 0, 1, 0, 0, 0), (7, .getfield 129, 3, 12, 23, 2), (10, .iconst 2, 1, 0, 0, 0), (11, .aload_n 0, 1, 0, 0, 0),
  (12, .iload_n 1, 1, 0, 0, 0), (13, .iconst 0, 1, 0, 0, 0), (14, .invokevirtual 322, 3, 162, 3, 2), (17, .iastore, 1, 0, 0, 0), (18, .aload_n 0, 1, 0, 0, 0), (19, .getfield 129, 3, 12, 23, 2), (22, .iconst 3, 1, 0, 0, 0), (23, .iload_n 2, 1, 0, 0, 0),
  (24, .iastore, 1, 0, 0, 0), (25, .aload_n 0, 1, 0, 0, 0), (26, .getfield 105, 3, 12, 10, 2), (29, .bipush 10, 2, 0, 0, 0), (31, .iaload, 1, 0, 0, 0), (32, .ifCond .ge 9, 3, 41, 0, 0), (35, .iload_n 2, 1, 0, 0, 0), (36, .iconst 1, 1, 0, 0, 0),
  (37, .isub, 1, 0, 0, 0), (38, .goto 14, 3, 52, 0, 0), (41, .aload_n 0, 1, 0, 0, 0), (42, .aload_n 0, 1, 0, 0, 0), (43, .getfield 105, 3, 12, 10, 2), (46, .bipush 10, 2, 0, 0, 0), (48, .iaload, 1, 0, 0, 0), (49, .invokevirtual 341, 3, 203, 2, 2),
  (52, .istore_n 3, 1, 0, 0, 0), (53, .iload_n 2, 1, 0, 0, 0), (54, .iconst 2, 1, 0, 0, 0), (55, .if_icmp .lt 7, 3, 62, 0, 0), (58, .iload_n 3, 1, 0, 0, 0), (59, .ifCond .ge 7, 3, 66, 0, 0), (62, .iconst 0, 1, 0, 0, 0), (63, .goto 15, 3, 78, 0, 0),
  (66, .iload_n 3, 1, 0, 0, 0), (67, .bipush 10, 2, 0, 0, 0), (69, .if_icmp .le 8, 3, 77, 0, 0), (72, .bipush 10, 2, 0, 0, 0), (74, .goto 4, 3, 78, 0, 0), (77, .iload_n 3, 1, 0, 0, 0), (78, .ireturn, 1, 0, 0, 0)]
/-- SamePassersModel.tenth(I)I -/
def mm_c214 : List (Nat × mm_E) := [(0, .aload_n 0, 1, 0, 0, 0), (1, .iconst 0, 1, 0, 0, 0), (2, .putfield 1, 3, 12, 0, 0), (5, .aload_n 0, 1, 0, 0, 0), (6, .iload_n 1, 1, 0, 0, 0), (7, .invokevirtual 382, 3, 215, 2, 2), (10, .ifCond .eq 11, 3, 21, 0, 0), (13, .aload_n 0, 1, 0, 0, 0),
  (14, .iload_n 1, 1, 0, 0, 0), (15, .invokevirtual 344, 3, 210, 2, 2), (18, .goto 4, 3, 22, 0, 0), (21, .iconst (-1), 1, 0, 0, 0), (22, .ireturn, 1, 0, 0, 0)]
/-- SamePassersModel.isSaid(I)Z -/
def mm_c215 : List (Nat × mm_E) := [(0, .iload_n 1, 1, 0, 0, 0), (1, .ifCond .lt 15, 3, 16, 0, 0), (4, .iload_n 1, 1, 0, 0, 0), (5, .aload_n 0, 1, 0, 0, 0), (6, .invokevirtual 338, 3, 216, 1, 2), (9, .if_icmp .ge 7, 3, 16, 0, 0), (12, .iconst 1, 1, 0, 0, 0), (13, .goto 4, 3, 17, 0, 0),
  (16, .iconst 0, 1, 0, 0, 0), (17, .ireturn, 1, 0, 0, 0)]
/-- SamePassersModel.saidMany()I -/
def mm_c216 : List (Nat × mm_E) := [(0, .aload_n 0, 1, 0, 0, 0), (1, .getfield 105, 3, 12, 10, 2), (4, .iconst 5, 1, 0, 0, 0), (5, .iaload, 1, 0, 0, 0), (6, .ireturn, 1, 0, 0, 0)]
/-- SamePassersModel.start(II)Z -/
def mm_c217 : List (Nat × mm_E) := [(0, .aload_n 0, 1, 0, 0, 0), (1, .iconst 0, 1, 0, 0, 0), (2, .putfield 1, 3, 12, 0, 0), (5, .aload_n 0, 1, 0, 0, 0), (6, .iload_n 1, 1, 0, 0, 0), (7, .invokevirtual 376, 3, 200, 2, 2), (10, .ifCond .eq 17, 3, 27, 0, 0), (13, .iload_n 2, 1, 0, 0, 0),
  (14, .iconst 0, 1, 0, 0, 0), (15, .aload_n 0, 1, 0, 0, 0), (16, .invokevirtual 347, 3, 208, 1, 2), (19, .iconst 1, 1, 0, 0, 0), (20, .isub, 1, 0, 0, 0), (21, .invokestatic 241, 3, 188, 3, 0), (24, .ifCond .ne 5, 3, 29, 0, 0), (27, .iconst 0, 1, 0, 0, 0),
  (28, .ireturn, 1, 0, 0, 0), (29, .aload_n 0, 1, 0, 0, 0), (30, .invokevirtual 385, 3, 218, 1, 2), (33, .aload_n 0, 1, 0, 0, 0), (34, .getfield 135, 3, 12, 25, 2), (37, .iconst 1, 1, 0, 0, 0), (38, .iload_n 1, 1, 0, 0, 0), (39, .iadd, 1, 0, 0, 0),
  (40, .iload_n 2, 1, 0, 0, 0), (41, .iastore, 1, 0, 0, 0), (42, .iconst 1, 1, 0, 0, 0), (43, .ireturn, 1, 0, 0, 0)]
/-- SamePassersModel.keeps()V -/
def mm_c218 : List (Nat × mm_E) := [(0, .aload_n 0, 1, 0, 0, 0), (1, .getfield 328, 3, 12, 26, 0), (4, .bipush 16, 2, 0, 0, 0), (6, .if_icmp .ne 47, 3, 53, 0, 0), (9, .iconst 1, 1, 0, 0, 0), (10, .istore_n 1, 1, 0, 0, 0), (11, .iload_n 1, 1, 0, 0, 0), (12, .bipush 16, 2, 0, 0, 0),
  (14, .if_icmp .ge 29, 3, 43, 0, 0), (17, .aload_n 0, 1, 0, 0, 0), (18, .bipush 80, 2, 0, 0, 0), (20, .iconst 5, 1, 0, 0, 0), (21, .iload_n 1, 1, 0, 0, 0), (22, .iadd, 1, 0, 0, 0), (23, .imul, 1, 0, 0, 0), (24, .bipush 80, 2, 0, 0, 0),
  (26, .iconst 5, 1, 0, 0, 0), (27, .iload_n 1, 1, 0, 0, 0), (28, .iadd, 1, 0, 0, 0), (29, .iconst 1, 1, 0, 0, 0), (30, .isub, 1, 0, 0, 0), (31, .imul, 1, 0, 0, 0), (32, .bipush 25, 2, 0, 0, 0), (34, .invokevirtual 331, 3, 219, 4, 2),
  (37, .iinc 1 1, 3, 0, 0, 0), (40, .goto (-29), 3, 11, 0, 0), (43, .aload_n 0, 1, 0, 0, 0), (44, .dup, 1, 0, 0, 0), (45, .getfield 328, 3, 12, 26, 0), (48, .iconst 1, 1, 0, 0, 0), (49, .isub, 1, 0, 0, 0), (50, .putfield 328, 3, 12, 26, 0),
  (53, .aload_n 0, 1, 0, 0, 0), (54, .iconst 0, 1, 0, 0, 0), (55, .bipush 80, 2, 0, 0, 0), (57, .iconst 5, 1, 0, 0, 0), (58, .aload_n 0, 1, 0, 0, 0), (59, .getfield 328, 3, 12, 26, 0), (62, .iadd, 1, 0, 0, 0), (63, .imul, 1, 0, 0, 0),
  (64, .bipush 25, 2, 0, 0, 0), (66, .invokevirtual 331, 3, 219, 4, 2), (69, .aload_n 0, 1, 0, 0, 0), (70, .dup, 1, 0, 0, 0), (71, .getfield 328, 3, 12, 26, 0), (74, .iconst 1, 1, 0, 0, 0), (75, .iadd, 1, 0, 0, 0), (76, .putfield 328, 3, 12, 26, 0),
  (79, .return_, 1, 0, 0, 0)]
/-- SamePassersModel.copies(III)V -/
def mm_c219 : List (Nat × mm_E) := [(0, .iconst 0, 1, 0, 0, 0), (1, .istore 4, 2, 0, 0, 0), (3, .iload 4, 2, 0, 0, 0), (5, .iload_n 3, 1, 0, 0, 0), (6, .if_icmp .ge 27, 3, 33, 0, 0), (9, .aload_n 0, 1, 0, 0, 0), (10, .getfield 135, 3, 12, 25, 2), (13, .iload_n 2, 1, 0, 0, 0),
  (14, .iload 4, 2, 0, 0, 0), (16, .iadd, 1, 0, 0, 0), (17, .aload_n 0, 1, 0, 0, 0), (18, .getfield 135, 3, 12, 25, 2), (21, .iload_n 1, 1, 0, 0, 0), (22, .iload 4, 2, 0, 0, 0), (24, .iadd, 1, 0, 0, 0), (25, .iaload, 1, 0, 0, 0),
  (26, .iastore, 1, 0, 0, 0), (27, .iinc 4 1, 3, 0, 0, 0), (30, .goto (-27), 3, 3, 0, 0), (33, .return_, 1, 0, 0, 0)]
/-- SamePassersModel.turn(I)Z -/
def mm_c220 : List (Nat × mm_E) := [(0, .aload_n 0, 1, 0, 0, 0), (1, .iconst 0, 1, 0, 0, 0), (2, .putfield 1, 3, 12, 0, 0), (5, .aload_n 0, 1, 0, 0, 0), (6, .iload_n 1, 1, 0, 0, 0), (7, .invokevirtual 376, 3, 200, 2, 2), (10, .ifCond .ne 5, 3, 15, 0, 0), (13, .iconst 0, 1, 0, 0, 0),
  (14, .ireturn, 1, 0, 0, 0), (15, .aload_n 0, 1, 0, 0, 0), (16, .invokevirtual 385, 3, 218, 1, 2), (19, .aload_n 0, 1, 0, 0, 0), (20, .getfield 135, 3, 12, 25, 2), (23, .bipush 9, 2, 0, 0, 0), (25, .iload_n 1, 1, 0, 0, 0), (26, .iadd, 1, 0, 0, 0),
  (27, .iconst 1, 1, 0, 0, 0), (28, .aload_n 0, 1, 0, 0, 0), (29, .getfield 135, 3, 12, 25, 2), (32, .bipush 9, 2, 0, 0, 0), (34, .iload_n 1, 1, 0, 0, 0), (35, .iadd, 1, 0, 0, 0), (36, .iaload, 1, 0, 0, 0), (37, .isub, 1, 0, 0, 0),
  (38, .iastore, 1, 0, 0, 0), (39, .iconst 1, 1, 0, 0, 0), (40, .ireturn, 1, 0, 0, 0)]
/-- SamePassersModel.late(II)Z -/
def mm_c221 : List (Nat × mm_E) := [(0, .aload_n 0, 1, 0, 0, 0), (1, .iconst 0, 1, 0, 0, 0), (2, .putfield 1, 3, 12, 0, 0), (5, .aload_n 0, 1, 0, 0, 0), (6, .iload_n 1, 1, 0, 0, 0), (7, .invokevirtual 376, 3, 200, 2, 2), (10, .ifCond .eq 13, 3, 23, 0, 0), (13, .iload_n 2, 1, 0, 0, 0),
  (14, .iconst 0, 1, 0, 0, 0), (15, .bipush 99, 2, 0, 0, 0), (17, .invokestatic 241, 3, 188, 3, 0), (20, .ifCond .ne 5, 3, 25, 0, 0), (23, .iconst 0, 1, 0, 0, 0), (24, .ireturn, 1, 0, 0, 0), (25, .aload_n 0, 1, 0, 0, 0), (26, .invokevirtual 385, 3, 218, 1, 2),
  (29, .aload_n 0, 1, 0, 0, 0), (30, .getfield 135, 3, 12, 25, 2), (33, .bipush 17, 2, 0, 0, 0), (35, .iload_n 1, 1, 0, 0, 0), (36, .iadd, 1, 0, 0, 0), (37, .iload_n 2, 1, 0, 0, 0), (38, .iastore, 1, 0, 0, 0), (39, .iconst 1, 1, 0, 0, 0),
  (40, .ireturn, 1, 0, 0, 0)]
/-- SamePassersModel.take()I -/
def mm_c222 : List (Nat × mm_E) := [(0, .aload_n 0, 1, 0, 0, 0), (1, .iconst 0, 1, 0, 0, 0), (2, .putfield 1, 3, 12, 0, 0), (5, .aload_n 0, 1, 0, 0, 0), (6, .getfield 135, 3, 12, 25, 2), (9, .iconst 0, 1, 0, 0, 0), (10, .iaload, 1, 0, 0, 0), (11, .bipush 60, 2, 0, 0, 0),
  (13, .if_icmp .ne 5, 3, 18, 0, 0), (16, .iconst (-1), 1, 0, 0, 0), (17, .ireturn, 1, 0, 0, 0), (18, .aload_n 0, 1, 0, 0, 0), (19, .invokevirtual 385, 3, 218, 1, 2), (22, .aload_n 0, 1, 0, 0, 0), (23, .iconst 0, 1, 0, 0, 0), (24, .invokevirtual 388, 3, 223, 2, 2),
  (27, .aload_n 0, 1, 0, 0, 0), (28, .getfield 135, 3, 12, 25, 2), (31, .iconst 0, 1, 0, 0, 0), (32, .iaload, 1, 0, 0, 0), (33, .ireturn, 1, 0, 0, 0)]
/-- SamePassersModel.next(I)V -/
def mm_c223 : List (Nat × mm_E) := [(0, .aload_n 0, 1, 0, 0, 0), (1, .getfield 135, 3, 12, 25, 2), (4, .iload_n 1, 1, 0, 0, 0), (5, .iconst 0, 1, 0, 0, 0), (6, .iadd, 1, 0, 0, 0), (7, .dup2, 1, 0, 0, 0), (8, .iaload, 1, 0, 0, 0), (9, .iconst 1, 1, 0, 0, 0),
  (10, .iadd, 1, 0, 0, 0), (11, .iastore, 1, 0, 0, 0), (12, .iconst 0, 1, 0, 0, 0), (13, .istore_n 2, 1, 0, 0, 0), (14, .iload_n 2, 1, 0, 0, 0), (15, .bipush 8, 2, 0, 0, 0), (17, .if_icmp .ge 21, 3, 38, 0, 0), (20, .aload_n 0, 1, 0, 0, 0),
  (21, .getfield 135, 3, 12, 25, 2), (24, .iload_n 1, 1, 0, 0, 0), (25, .bipush 17, 2, 0, 0, 0), (27, .iadd, 1, 0, 0, 0), (28, .iload_n 2, 1, 0, 0, 0), (29, .iadd, 1, 0, 0, 0), (30, .iconst 0, 1, 0, 0, 0), (31, .iastore, 1, 0, 0, 0),
  (32, .iinc 2 1, 3, 0, 0, 0), (35, .goto (-21), 3, 14, 0, 0), (38, .return_, 1, 0, 0, 0)]
/-- SamePassersModel.undo()Z -/
def mm_c224 : List (Nat × mm_E) := [(0, .aload_n 0, 1, 0, 0, 0), (1, .iconst 0, 1, 0, 0, 0), (2, .putfield 1, 3, 12, 0, 0), (5, .aload_n 0, 1, 0, 0, 0), (6, .getfield 328, 3, 12, 26, 0), (9, .ifCond .ne 5, 3, 14, 0, 0), (12, .iconst 0, 1, 0, 0, 0), (13, .ireturn, 1, 0, 0, 0),
  (14, .aload_n 0, 1, 0, 0, 0), (15, .dup, 1, 0, 0, 0), (16, .getfield 328, 3, 12, 26, 0), (19, .iconst 1, 1, 0, 0, 0), (20, .isub, 1, 0, 0, 0), (21, .putfield 328, 3, 12, 26, 0), (24, .aload_n 0, 1, 0, 0, 0), (25, .bipush 80, 2, 0, 0, 0),
  (27, .iconst 5, 1, 0, 0, 0), (28, .aload_n 0, 1, 0, 0, 0), (29, .getfield 328, 3, 12, 26, 0), (32, .iadd, 1, 0, 0, 0), (33, .imul, 1, 0, 0, 0), (34, .iconst 0, 1, 0, 0, 0), (35, .bipush 25, 2, 0, 0, 0), (37, .invokevirtual 331, 3, 219, 4, 2),
  (40, .iconst 1, 1, 0, 0, 0), (41, .ireturn, 1, 0, 0, 0)]
/-- SamePassersModel.judged(I)I -/
def mm_c225 : List (Nat × mm_E) := [(0, .aload_n 0, 1, 0, 0, 0), (1, .iconst 0, 1, 0, 0, 0), (2, .putfield 1, 3, 12, 0, 0), (5, .iload_n 1, 1, 0, 0, 0), (6, .iconst 0, 1, 0, 0, 0), (7, .iconst 2, 1, 0, 0, 0), (8, .invokestatic 241, 3, 188, 3, 0), (11, .ifCond .ne 6, 3, 17, 0, 0),
  (14, .bipush (-2), 2, 0, 0, 0), (16, .ireturn, 1, 0, 0, 0), (17, .aload_n 0, 1, 0, 0, 0), (18, .sipush 1680, 3, 0, 0, 0), (21, .invokevirtual 325, 3, 161, 2, 2), (24, .iconst (-1), 1, 0, 0, 0), (25, .istore_n 2, 1, 0, 0, 0), (26, .iconst 0, 1, 0, 0, 0),
  (27, .istore_n 3, 1, 0, 0, 0), (28, .iconst 0, 1, 0, 0, 0), (29, .istore 4, 2, 0, 0, 0), (31, .iload 4, 2, 0, 0, 0), (33, .aload_n 0, 1, 0, 0, 0), (34, .getfield 126, 3, 12, 22, 2), (37, .iconst 0, 1, 0, 0, 0), (38, .iaload, 1, 0, 0, 0),
  (39, .if_icmp .ge 174, 3, 213, 0, 0), (42, .aload_n 0, 1, 0, 0, 0), (43, .getfield 126, 3, 12, 22, 2), (46, .iconst 1, 1, 0, 0, 0), (47, .iconst 3, 1, 0, 0, 0), (48, .iload 4, 2, 0, 0, 0), (50, .imul, 1, 0, 0, 0), (51, .iadd, 1, 0, 0, 0),
  (52, .iaload, 1, 0, 0, 0), (53, .istore 5, 2, 0, 0, 0), (55, .aload_n 0, 1, 0, 0, 0), (56, .getfield 126, 3, 12, 22, 2), (59, .iconst 2, 1, 0, 0, 0), (60, .iconst 3, 1, 0, 0, 0), (61, .iload 4, 2, 0, 0, 0), (63, .imul, 1, 0, 0, 0),
  (64, .iadd, 1, 0, 0, 0), (65, .iaload, 1, 0, 0, 0), (66, .istore 6, 2, 0, 0, 0), (68, .iload 5, 2, 0, 0, 0), (70, .ifCond .ne 28, 3, 98, 0, 0), (73, .aload_n 0, 1, 0, 0, 0), (74, .getfield 135, 3, 12, 25, 2), (77, .sipush 1681, 3, 0, 0, 0),
  (80, .iload 6, 2, 0, 0, 0), (82, .iadd, 1, 0, 0, 0), (83, .aload_n 0, 1, 0, 0, 0), (84, .getfield 126, 3, 12, 22, 2), (87, .iconst 3, 1, 0, 0, 0), (88, .iconst 3, 1, 0, 0, 0), (89, .iload 4, 2, 0, 0, 0), (91, .imul, 1, 0, 0, 0),
  (92, .iadd, 1, 0, 0, 0), (93, .iaload, 1, 0, 0, 0), (94, .iastore, 1, 0, 0, 0), (95, .goto 112, 3, 207, 0, 0), (98, .iload 5, 2, 0, 0, 0), (100, .iconst 1, 1, 0, 0, 0), (101, .if_icmp .ne 30, 3, 131, 0, 0), (104, .aload_n 0, 1, 0, 0, 0),
  (105, .getfield 135, 3, 12, 25, 2), (108, .sipush 1689, 3, 0, 0, 0), (111, .iload 6, 2, 0, 0, 0), (113, .iadd, 1, 0, 0, 0), (114, .iconst 1, 1, 0, 0, 0), (115, .aload_n 0, 1, 0, 0, 0), (116, .getfield 135, 3, 12, 25, 2), (119, .sipush 1689, 3, 0, 0, 0),
  (122, .iload 6, 2, 0, 0, 0), (124, .iadd, 1, 0, 0, 0), (125, .iaload, 1, 0, 0, 0), (126, .isub, 1, 0, 0, 0), (127, .iastore, 1, 0, 0, 0), (128, .goto 79, 3, 207, 0, 0), (131, .iload 5, 2, 0, 0, 0), (133, .iconst 2, 1, 0, 0, 0),
  (134, .if_icmp .ne 28, 3, 162, 0, 0), (137, .aload_n 0, 1, 0, 0, 0), (138, .getfield 135, 3, 12, 25, 2), (141, .sipush 1697, 3, 0, 0, 0), (144, .iload 6, 2, 0, 0, 0), (146, .iadd, 1, 0, 0, 0), (147, .aload_n 0, 1, 0, 0, 0), (148, .getfield 126, 3, 12, 22, 2),
  (151, .iconst 3, 1, 0, 0, 0), (152, .iconst 3, 1, 0, 0, 0), (153, .iload 4, 2, 0, 0, 0), (155, .imul, 1, 0, 0, 0), (156, .iadd, 1, 0, 0, 0), (157, .iaload, 1, 0, 0, 0), (158, .iastore, 1, 0, 0, 0), (159, .goto 48, 3, 207, 0, 0),
  (162, .aload_n 0, 1, 0, 0, 0), (163, .sipush 1680, 3, 0, 0, 0), (166, .invokevirtual 407, 3, 226, 2, 2), (169, .istore 7, 2, 0, 0, 0), (171, .iload_n 3, 1, 0, 0, 0), (172, .iload 7, 2, 0, 0, 0), (174, .ifCond .eq 7, 3, 181, 0, 0), (177, .iconst 1, 1, 0, 0, 0),
  (178, .goto 4, 3, 182, 0, 0), (181, .iconst 0, 1, 0, 0, 0), (182, .iadd, 1, 0, 0, 0), (183, .istore_n 3, 1, 0, 0, 0), (184, .iload 7, 2, 0, 0, 0), (186, .ifCond .ne 12, 3, 198, 0, 0), (189, .iload_n 2, 1, 0, 0, 0), (190, .ifCond .ge 8, 3, 198, 0, 0),
  (193, .iload 4, 2, 0, 0, 0), (195, .goto 4, 3, 199, 0, 0), (198, .iload_n 2, 1, 0, 0, 0), (199, .istore_n 2, 1, 0, 0, 0), (200, .aload_n 0, 1, 0, 0, 0), (201, .sipush 1680, 3, 0, 0, 0), (204, .invokevirtual 388, 3, 223, 2, 2), (207, .iinc 4 1, 3, 0, 0, 0),
  (210, .goto (-179), 3, 31, 0, 0), (213, .iload_n 1, 1, 0, 0, 0), (214, .ifCond .ne 7, 3, 221, 0, 0), (217, .iload_n 2, 1, 0, 0, 0), (218, .goto 20, 3, 238, 0, 0), (221, .iload_n 1, 1, 0, 0, 0), (222, .iconst 1, 1, 0, 0, 0), (223, .if_icmp .ne 7, 3, 230, 0, 0),
  (226, .iload_n 3, 1, 0, 0, 0), (227, .goto 11, 3, 238, 0, 0), (230, .aload_n 0, 1, 0, 0, 0), (231, .getfield 135, 3, 12, 25, 2), (234, .sipush 1680, 3, 0, 0, 0), (237, .iaload, 1, 0, 0, 0), (238, .ireturn, 1, 0, 0, 0)]
/-- SamePassersModel.isGood(I)Z -/
def mm_c226 : List (Nat × mm_E) := [(0, .aload_n 0, 1, 0, 0, 0), (1, .iload_n 1, 1, 0, 0, 0), (2, .invokevirtual 401, 3, 227, 2, 2), (5, .ifCond .ne 7, 3, 12, 0, 0), (8, .iconst 1, 1, 0, 0, 0), (9, .goto 4, 3, 13, 0, 0), (12, .iconst 0, 1, 0, 0, 0), (13, .istore_n 2, 1, 0, 0, 0),
  (14, .iconst 0, 1, 0, 0, 0), (15, .istore_n 3, 1, 0, 0, 0), (16, .iload_n 3, 1, 0, 0, 0), (17, .aload_n 0, 1, 0, 0, 0), (18, .invokevirtual 335, 3, 201, 1, 2), (21, .if_icmp .ge 45, 3, 66, 0, 0), (24, .iconst 0, 1, 0, 0, 0), (25, .istore 4, 2, 0, 0, 0),
  (27, .iload 4, 2, 0, 0, 0), (29, .iload_n 3, 1, 0, 0, 0), (30, .if_icmp .ge 30, 3, 60, 0, 0), (33, .iload_n 2, 1, 0, 0, 0), (34, .ifCond .eq 26, 3, 60, 0, 0), (37, .aload_n 0, 1, 0, 0, 0), (38, .iload_n 1, 1, 0, 0, 0), (39, .iload 4, 2, 0, 0, 0),
  (41, .iload_n 3, 1, 0, 0, 0), (42, .invokevirtual 404, 3, 232, 4, 2), (45, .ifCond .ge 7, 3, 52, 0, 0), (48, .iconst 1, 1, 0, 0, 0), (49, .goto 4, 3, 53, 0, 0), (52, .iconst 0, 1, 0, 0, 0), (53, .istore_n 2, 1, 0, 0, 0), (54, .iinc 4 1, 3, 0, 0, 0),
  (57, .goto (-30), 3, 27, 0, 0), (60, .iinc 3 1, 3, 0, 0, 0), (63, .goto (-47), 3, 16, 0, 0), (66, .iload_n 2, 1, 0, 0, 0), (67, .ireturn, 1, 0, 0, 0)]
/-- SamePassersModel.missedIn(I)I -/
def mm_c227 : List (Nat × mm_E) := [(0, .iconst 0, 1, 0, 0, 0), (1, .istore_n 2, 1, 0, 0, 0), (2, .iconst 0, 1, 0, 0, 0), (3, .istore_n 3, 1, 0, 0, 0), (4, .iload_n 3, 1, 0, 0, 0), (5, .aload_n 0, 1, 0, 0, 0), (6, .invokevirtual 394, 3, 228, 1, 2), (9, .if_icmp .ge 35, 3, 44, 0, 0),
  (12, .iload_n 2, 1, 0, 0, 0), (13, .aload_n 0, 1, 0, 0, 0), (14, .iload_n 1, 1, 0, 0, 0), (15, .aload_n 0, 1, 0, 0, 0), (16, .getfield 135, 3, 12, 25, 2), (19, .iload_n 1, 1, 0, 0, 0), (20, .iconst 0, 1, 0, 0, 0), (21, .iadd, 1, 0, 0, 0),
  (22, .iaload, 1, 0, 0, 0), (23, .iconst 1, 1, 0, 0, 0), (24, .iload_n 3, 1, 0, 0, 0), (25, .invokevirtual 397, 3, 229, 5, 2), (28, .ifCond .le 7, 3, 35, 0, 0), (31, .iconst 1, 1, 0, 0, 0), (32, .goto 4, 3, 36, 0, 0), (35, .iconst 0, 1, 0, 0, 0),
  (36, .iadd, 1, 0, 0, 0), (37, .istore_n 2, 1, 0, 0, 0), (38, .iinc 3 1, 3, 0, 0, 0), (41, .goto (-37), 3, 4, 0, 0), (44, .iload_n 2, 1, 0, 0, 0), (45, .ireturn, 1, 0, 0, 0)]
/-- SamePassersModel.musts()I -/
def mm_c228 : List (Nat × mm_E) := [(0, .aload_n 0, 1, 0, 0, 0), (1, .getfield 105, 3, 12, 10, 2), (4, .bipush 7, 2, 0, 0, 0), (6, .iaload, 1, 0, 0, 0), (7, .ireturn, 1, 0, 0, 0)]
/-- SamePassersModel.offIn(IIZI)I -/
def mm_c229 : List (Nat × mm_E) := [(0, .aload_n 0, 1, 0, 0, 0), (1, .iload_n 1, 1, 0, 0, 0), (2, .iload_n 2, 1, 0, 0, 0), (3, .iload_n 3, 1, 0, 0, 0), (4, .aload_n 0, 1, 0, 0, 0), (5, .iload 4, 2, 0, 0, 0), (7, .iconst 0, 1, 0, 0, 0), (8, .invokevirtual 391, 3, 230, 3, 2),
  (11, .aload_n 0, 1, 0, 0, 0), (12, .aload_n 0, 1, 0, 0, 0), (13, .iload 4, 2, 0, 0, 0), (15, .iconst 1, 1, 0, 0, 0), (16, .invokevirtual 391, 3, 230, 3, 2), (19, .invokevirtual 344, 3, 210, 2, 2), (22, .invokevirtual 360, 3, 231, 6, 2), (25, .istore 5, 2, 0, 0, 0),
  (27, .iload 5, 2, 0, 0, 0), (29, .aload_n 0, 1, 0, 0, 0), (30, .iload 4, 2, 0, 0, 0), (32, .iconst 2, 1, 0, 0, 0), (33, .invokevirtual 391, 3, 230, 3, 2), (36, .isub, 1, 0, 0, 0), (37, .istore 6, 2, 0, 0, 0), (39, .iload 5, 2, 0, 0, 0),
  (41, .ifCond .ge 8, 3, 49, 0, 0), (44, .bipush 100, 2, 0, 0, 0), (46, .goto 16, 3, 62, 0, 0), (49, .iload 6, 2, 0, 0, 0), (51, .ifCond .ge 9, 3, 60, 0, 0), (54, .iload 6, 2, 0, 0, 0), (56, .ineg, 1, 0, 0, 0), (57, .goto 5, 3, 62, 0, 0),
  (60, .iload 6, 2, 0, 0, 0), (62, .ireturn, 1, 0, 0, 0)]
/-- SamePassersModel.mustOf(II)I -/
def mm_c230 : List (Nat × mm_E) := [(0, .aload_n 0, 1, 0, 0, 0), (1, .getfield 105, 3, 12, 10, 2), (4, .bipush 73, 2, 0, 0, 0), (6, .iconst 3, 1, 0, 0, 0), (7, .iload_n 1, 1, 0, 0, 0), (8, .imul, 1, 0, 0, 0), (9, .iadd, 1, 0, 0, 0), (10, .iload_n 2, 1, 0, 0, 0),
  (11, .iadd, 1, 0, 0, 0), (12, .iaload, 1, 0, 0, 0), (13, .ireturn, 1, 0, 0, 0)]
/-- SamePassersModel.placeIn(IIZII)I -/
def mm_c231 : List (Nat × mm_E) := [(0, .aload_n 0, 1, 0, 0, 0), (1, .iload 4, 2, 0, 0, 0), (3, .iconst 5, 1, 0, 0, 0), (4, .invokevirtual 322, 3, 162, 3, 2), (7, .iload_n 3, 1, 0, 0, 0), (8, .ifCond .eq 18, 3, 26, 0, 0), (11, .aload_n 0, 1, 0, 0, 0), (12, .getfield 135, 3, 12, 25, 2),
  (15, .iload_n 1, 1, 0, 0, 0), (16, .bipush 17, 2, 0, 0, 0), (18, .iadd, 1, 0, 0, 0), (19, .iload 4, 2, 0, 0, 0), (21, .iadd, 1, 0, 0, 0), (22, .iaload, 1, 0, 0, 0), (23, .goto 4, 3, 27, 0, 0), (26, .iconst 0, 1, 0, 0, 0),
  (27, .iadd, 1, 0, 0, 0), (28, .istore 6, 2, 0, 0, 0), (30, .aload_n 0, 1, 0, 0, 0), (31, .iload 4, 2, 0, 0, 0), (33, .aload_n 0, 1, 0, 0, 0), (34, .getfield 135, 3, 12, 25, 2), (37, .iload_n 1, 1, 0, 0, 0), (38, .iconst 1, 1, 0, 0, 0),
  (39, .iadd, 1, 0, 0, 0), (40, .iload 4, 2, 0, 0, 0), (42, .iadd, 1, 0, 0, 0), (43, .iaload, 1, 0, 0, 0), (44, .aload_n 0, 1, 0, 0, 0), (45, .getfield 135, 3, 12, 25, 2), (48, .iload_n 1, 1, 0, 0, 0), (49, .bipush 9, 2, 0, 0, 0),
  (51, .iadd, 1, 0, 0, 0), (52, .iload 4, 2, 0, 0, 0), (54, .iadd, 1, 0, 0, 0), (55, .iaload, 1, 0, 0, 0), (56, .iload 6, 2, 0, 0, 0), (58, .aload_n 0, 1, 0, 0, 0), (59, .iload 4, 2, 0, 0, 0), (61, .iload_n 2, 1, 0, 0, 0),
  (62, .invokevirtual 353, 3, 202, 3, 2), (65, .iload 5, 2, 0, 0, 0), (67, .invokevirtual 356, 3, 207, 7, 2), (70, .ireturn, 1, 0, 0, 0)]
/-- SamePassersModel.bumpOf(III)I -/
def mm_c232 : List (Nat × mm_E) := [(0, .aload_n 0, 1, 0, 0, 0), (1, .iload_n 2, 1, 0, 0, 0), (2, .aload_n 0, 1, 0, 0, 0), (3, .getfield 135, 3, 12, 25, 2), (6, .iload_n 1, 1, 0, 0, 0), (7, .iconst 0, 1, 0, 0, 0), (8, .iadd, 1, 0, 0, 0), (9, .iaload, 1, 0, 0, 0),
  (10, .invokevirtual 353, 3, 202, 3, 2), (13, .istore 4, 2, 0, 0, 0), (15, .aload_n 0, 1, 0, 0, 0), (16, .iload_n 3, 1, 0, 0, 0), (17, .aload_n 0, 1, 0, 0, 0), (18, .getfield 135, 3, 12, 25, 2), (21, .iload_n 1, 1, 0, 0, 0), (22, .iconst 0, 1, 0, 0, 0),
  (23, .iadd, 1, 0, 0, 0), (24, .iaload, 1, 0, 0, 0), (25, .invokevirtual 353, 3, 202, 3, 2), (28, .istore 5, 2, 0, 0, 0), (30, .iconst 0, 1, 0, 0, 0), (31, .istore 6, 2, 0, 0, 0), (33, .iload 6, 2, 0, 0, 0), (35, .sipush 600, 3, 0, 0, 0),
  (38, .if_icmp .gt 111, 3, 149, 0, 0), (41, .aload_n 0, 1, 0, 0, 0), (42, .iload_n 2, 1, 0, 0, 0), (43, .iconst 1, 1, 0, 0, 0), (44, .invokevirtual 322, 3, 162, 3, 2), (47, .aload_n 0, 1, 0, 0, 0), (48, .iload_n 3, 1, 0, 0, 0), (49, .iconst 1, 1, 0, 0, 0),
  (50, .invokevirtual 322, 3, 162, 3, 2), (53, .if_icmp .ne 96, 3, 149, 0, 0), (56, .aload_n 0, 1, 0, 0, 0), (57, .iload_n 2, 1, 0, 0, 0), (58, .aload_n 0, 1, 0, 0, 0), (59, .getfield 135, 3, 12, 25, 2), (62, .iload_n 1, 1, 0, 0, 0), (63, .iconst 1, 1, 0, 0, 0),
  (64, .iadd, 1, 0, 0, 0), (65, .iload_n 2, 1, 0, 0, 0), (66, .iadd, 1, 0, 0, 0), (67, .iaload, 1, 0, 0, 0), (68, .aload_n 0, 1, 0, 0, 0), (69, .getfield 135, 3, 12, 25, 2), (72, .iload_n 1, 1, 0, 0, 0), (73, .bipush 9, 2, 0, 0, 0),
  (75, .iadd, 1, 0, 0, 0), (76, .iload_n 2, 1, 0, 0, 0), (77, .iadd, 1, 0, 0, 0), (78, .iaload, 1, 0, 0, 0), (79, .aload_n 0, 1, 0, 0, 0), (80, .iload_n 1, 1, 0, 0, 0), (81, .iload_n 2, 1, 0, 0, 0), (82, .invokevirtual 367, 3, 206, 3, 2),
  (85, .iload 4, 2, 0, 0, 0), (87, .iload 6, 2, 0, 0, 0), (89, .invokevirtual 356, 3, 207, 7, 2), (92, .istore 7, 2, 0, 0, 0), (94, .iload 7, 2, 0, 0, 0), (96, .ifCond .lt 47, 3, 143, 0, 0), (99, .iload 7, 2, 0, 0, 0), (101, .aload_n 0, 1, 0, 0, 0),
  (102, .iload_n 3, 1, 0, 0, 0), (103, .aload_n 0, 1, 0, 0, 0), (104, .getfield 135, 3, 12, 25, 2), (107, .iload_n 1, 1, 0, 0, 0), (108, .iconst 1, 1, 0, 0, 0), (109, .iadd, 1, 0, 0, 0), (110, .iload_n 3, 1, 0, 0, 0), (111, .iadd, 1, 0, 0, 0),
  (112, .iaload, 1, 0, 0, 0), (113, .aload_n 0, 1, 0, 0, 0), (114, .getfield 135, 3, 12, 25, 2), (117, .iload_n 1, 1, 0, 0, 0), (118, .bipush 9, 2, 0, 0, 0), (120, .iadd, 1, 0, 0, 0), (121, .iload_n 3, 1, 0, 0, 0), (122, .iadd, 1, 0, 0, 0),
  (123, .iaload, 1, 0, 0, 0), (124, .aload_n 0, 1, 0, 0, 0), (125, .iload_n 1, 1, 0, 0, 0), (126, .iload_n 3, 1, 0, 0, 0), (127, .invokevirtual 367, 3, 206, 3, 2), (130, .iload 5, 2, 0, 0, 0), (132, .iload 6, 2, 0, 0, 0), (134, .invokevirtual 356, 3, 207, 7, 2),
  (137, .if_icmp .ne 6, 3, 143, 0, 0), (140, .iload 6, 2, 0, 0, 0), (142, .ireturn, 1, 0, 0, 0), (143, .iinc 6 1, 3, 0, 0, 0), (146, .goto (-113), 3, 33, 0, 0), (149, .iconst (-1), 1, 0, 0, 0), (150, .ireturn, 1, 0, 0, 0)]
/-- SamePassersModel.where(II)I -/
def mm_c233 : List (Nat × mm_E) := [(0, .aload_n 0, 1, 0, 0, 0), (1, .iconst 0, 1, 0, 0, 0), (2, .putfield 1, 3, 12, 0, 0), (5, .aload_n 0, 1, 0, 0, 0), (6, .iload_n 1, 1, 0, 0, 0), (7, .invokevirtual 376, 3, 200, 2, 2), (10, .ifCond .eq 23, 3, 33, 0, 0), (13, .iload_n 2, 1, 0, 0, 0),
  (14, .iconst 0, 1, 0, 0, 0), (15, .sipush 600, 3, 0, 0, 0), (18, .invokestatic 241, 3, 188, 3, 0), (21, .ifCond .eq 12, 3, 33, 0, 0), (24, .aload_n 0, 1, 0, 0, 0), (25, .iload_n 1, 1, 0, 0, 0), (26, .iload_n 2, 1, 0, 0, 0), (27, .invokevirtual 410, 3, 234, 3, 2),
  (30, .goto 4, 3, 34, 0, 0), (33, .iconst (-1), 1, 0, 0, 0), (34, .ireturn, 1, 0, 0, 0)]
/-- SamePassersModel.placeNow(II)I -/
def mm_c234 : List (Nat × mm_E) := [(0, .aload_n 0, 1, 0, 0, 0), (1, .iconst 0, 1, 0, 0, 0), (2, .aload_n 0, 1, 0, 0, 0), (3, .getfield 135, 3, 12, 25, 2), (6, .iconst 0, 1, 0, 0, 0), (7, .iaload, 1, 0, 0, 0), (8, .iconst 1, 1, 0, 0, 0), (9, .iload_n 1, 1, 0, 0, 0),
  (10, .iload_n 2, 1, 0, 0, 0), (11, .invokevirtual 360, 3, 231, 6, 2), (14, .ireturn, 1, 0, 0, 0)]
/-- SamePassersModel.seen(II)I -/
def mm_c235 : List (Nat × mm_E) := [(0, .aload_n 0, 1, 0, 0, 0), (1, .iconst 0, 1, 0, 0, 0), (2, .putfield 1, 3, 12, 0, 0), (5, .aload_n 0, 1, 0, 0, 0), (6, .iload_n 1, 1, 0, 0, 0), (7, .invokevirtual 376, 3, 200, 2, 2), (10, .ifCond .eq 28, 3, 38, 0, 0), (13, .iload_n 2, 1, 0, 0, 0),
  (14, .iconst 0, 1, 0, 0, 0), (15, .sipush 600, 3, 0, 0, 0), (18, .invokestatic 241, 3, 188, 3, 0), (21, .ifCond .eq 17, 3, 38, 0, 0), (24, .aload_n 0, 1, 0, 0, 0), (25, .iload_n 1, 1, 0, 0, 0), (26, .aload_n 0, 1, 0, 0, 0), (27, .iload_n 1, 1, 0, 0, 0),
  (28, .iload_n 2, 1, 0, 0, 0), (29, .invokevirtual 410, 3, 234, 3, 2), (32, .invokevirtual 370, 3, 211, 3, 2), (35, .goto 4, 3, 39, 0, 0), (38, .iconst (-1), 1, 0, 0, 0), (39, .ireturn, 1, 0, 0, 0)]
/-- SamePassersModel.first(II)I -/
def mm_c236 : List (Nat × mm_E) := [(0, .aload_n 0, 1, 0, 0, 0), (1, .iconst 0, 1, 0, 0, 0), (2, .putfield 1, 3, 12, 0, 0), (5, .aload_n 0, 1, 0, 0, 0), (6, .iload_n 1, 1, 0, 0, 0), (7, .invokevirtual 376, 3, 200, 2, 2), (10, .ifCond .eq 26, 3, 36, 0, 0), (13, .aload_n 0, 1, 0, 0, 0),
  (14, .iload_n 2, 1, 0, 0, 0), (15, .invokevirtual 376, 3, 200, 2, 2), (18, .ifCond .eq 18, 3, 36, 0, 0), (21, .iload_n 1, 1, 0, 0, 0), (22, .iload_n 2, 1, 0, 0, 0), (23, .if_icmp .eq 13, 3, 36, 0, 0), (26, .aload_n 0, 1, 0, 0, 0), (27, .iconst 0, 1, 0, 0, 0),
  (28, .iload_n 1, 1, 0, 0, 0), (29, .iload_n 2, 1, 0, 0, 0), (30, .invokevirtual 404, 3, 232, 4, 2), (33, .goto 4, 3, 37, 0, 0), (36, .iconst (-1), 1, 0, 0, 0), (37, .ireturn, 1, 0, 0, 0)]
/-- SamePassersModel.good()Z -/
def mm_c237 : List (Nat × mm_E) := [(0, .aload_n 0, 1, 0, 0, 0), (1, .iconst 0, 1, 0, 0, 0), (2, .putfield 1, 3, 12, 0, 0), (5, .aload_n 0, 1, 0, 0, 0), (6, .iconst 0, 1, 0, 0, 0), (7, .invokevirtual 407, 3, 226, 2, 2), (10, .ireturn, 1, 0, 0, 0)]
/-- SamePassersModel.off(I)I -/
def mm_c238 : List (Nat × mm_E) := [(0, .aload_n 0, 1, 0, 0, 0), (1, .iconst 0, 1, 0, 0, 0), (2, .putfield 1, 3, 12, 0, 0), (5, .iload_n 1, 1, 0, 0, 0), (6, .iconst 0, 1, 0, 0, 0), (7, .aload_n 0, 1, 0, 0, 0), (8, .invokevirtual 394, 3, 228, 1, 2), (11, .iconst 1, 1, 0, 0, 0),
  (12, .isub, 1, 0, 0, 0), (13, .invokestatic 241, 3, 188, 3, 0), (16, .ifCond .eq 19, 3, 35, 0, 0), (19, .aload_n 0, 1, 0, 0, 0), (20, .iconst 0, 1, 0, 0, 0), (21, .aload_n 0, 1, 0, 0, 0), (22, .getfield 135, 3, 12, 25, 2), (25, .iconst 0, 1, 0, 0, 0),
  (26, .iaload, 1, 0, 0, 0), (27, .iconst 1, 1, 0, 0, 0), (28, .iload_n 1, 1, 0, 0, 0), (29, .invokevirtual 397, 3, 229, 5, 2), (32, .goto 4, 3, 36, 0, 0), (35, .iconst (-1), 1, 0, 0, 0), (36, .ireturn, 1, 0, 0, 0)]
/-- SamePassersModel.until(II)I -/
def mm_c239 : List (Nat × mm_E) := [(0, .aload_n 0, 1, 0, 0, 0), (1, .iconst 0, 1, 0, 0, 0), (2, .putfield 1, 3, 12, 0, 0), (5, .iload_n 1, 1, 0, 0, 0), (6, .iconst 0, 1, 0, 0, 0), (7, .aload_n 0, 1, 0, 0, 0), (8, .invokevirtual 394, 3, 228, 1, 2), (11, .iconst 1, 1, 0, 0, 0),
  (12, .isub, 1, 0, 0, 0), (13, .invokestatic 241, 3, 188, 3, 0), (16, .ifCond .eq 13, 3, 29, 0, 0), (19, .iload_n 2, 1, 0, 0, 0), (20, .iconst 1, 1, 0, 0, 0), (21, .bipush 100, 2, 0, 0, 0), (23, .invokestatic 241, 3, 188, 3, 0), (26, .ifCond .ne 5, 3, 31, 0, 0),
  (29, .iconst (-1), 1, 0, 0, 0), (30, .ireturn, 1, 0, 0, 0), (31, .iconst 0, 1, 0, 0, 0), (32, .istore_n 3, 1, 0, 0, 0), (33, .iload_n 3, 1, 0, 0, 0), (34, .bipush 60, 2, 0, 0, 0), (36, .if_icmp .gt 38, 3, 74, 0, 0), (39, .aload_n 0, 1, 0, 0, 0),
  (40, .iconst 0, 1, 0, 0, 0), (41, .aload_n 0, 1, 0, 0, 0), (42, .getfield 135, 3, 12, 25, 2), (45, .iconst 0, 1, 0, 0, 0), (46, .iaload, 1, 0, 0, 0), (47, .iload_n 3, 1, 0, 0, 0), (48, .iadd, 1, 0, 0, 0), (49, .iload_n 3, 1, 0, 0, 0),
  (50, .ifCond .ne 7, 3, 57, 0, 0), (53, .iconst 1, 1, 0, 0, 0), (54, .goto 4, 3, 58, 0, 0), (57, .iconst 0, 1, 0, 0, 0), (58, .iload_n 1, 1, 0, 0, 0), (59, .invokevirtual 397, 3, 229, 5, 2), (62, .iload_n 2, 1, 0, 0, 0), (63, .if_icmp .lt 5, 3, 68, 0, 0),
  (66, .iload_n 3, 1, 0, 0, 0), (67, .ireturn, 1, 0, 0, 0), (68, .iinc 3 1, 3, 0, 0, 0), (71, .goto (-38), 3, 33, 0, 0), (74, .iconst (-1), 1, 0, 0, 0), (75, .ireturn, 1, 0, 0, 0)]
/-- SamePassersModel.unknown()I -/
def mm_c240 : List (Nat × mm_E) := [(0, .aload_n 0, 1, 0, 0, 0), (1, .iconst 0, 1, 0, 0, 0), (2, .putfield 1, 3, 12, 0, 0), (5, .ldc2_w 413, 3, 1, 0, 1000000), (8, .lstore_n 1, 1, 0, 0, 0), (9, .lconst 1, 1, 0, 0, 0), (10, .lstore_n 3, 1, 0, 0, 0), (11, .iconst 0, 1, 0, 0, 0),
  (12, .istore 5, 2, 0, 0, 0), (14, .iload 5, 2, 0, 0, 0), (16, .aload_n 0, 1, 0, 0, 0), (17, .invokevirtual 335, 3, 201, 1, 2), (20, .if_icmp .ge 28, 3, 48, 0, 0), (23, .lload_n 1, 1, 0, 0, 0), (24, .bipush 10, 2, 0, 0, 0), (26, .aload_n 0, 1, 0, 0, 0),
  (27, .iload 5, 2, 0, 0, 0), (29, .invokevirtual 379, 3, 213, 2, 2), (32, .isub, 1, 0, 0, 0), (33, .i2l, 1, 0, 0, 0), (34, .lmul, 1, 0, 0, 0), (35, .lstore_n 1, 1, 0, 0, 0), (36, .lload_n 3, 1, 0, 0, 0), (37, .ldc2_w 192, 3, 1, 0, 10),
  (40, .lmul, 1, 0, 0, 0), (41, .lstore_n 3, 1, 0, 0, 0), (42, .iinc 5 1, 3, 0, 0, 0), (45, .goto (-31), 3, 14, 0, 0), (48, .lload_n 1, 1, 0, 0, 0), (49, .lload_n 3, 1, 0, 0, 0), (50, .ldiv, 1, 0, 0, 0), (51, .l2i, 1, 0, 0, 0),
  (52, .ireturn, 1, 0, 0, 0)]
/-- SamePassersModel.row(II)J -/
def mm_c241 : List (Nat × mm_E) := [(0, .aload_n 0, 1, 0, 0, 0), (1, .iconst 0, 1, 0, 0, 0), (2, .putfield 1, 3, 12, 0, 0), (5, .iload_n 1, 1, 0, 0, 0), (6, .iconst 0, 1, 0, 0, 0), (7, .aload_n 0, 1, 0, 0, 0), (8, .invokevirtual 415, 3, 242, 1, 2), (11, .iconst 1, 1, 0, 0, 0),
  (12, .isub, 1, 0, 0, 0), (13, .invokestatic 241, 3, 188, 3, 0), (16, .ifCond .eq 14, 3, 30, 0, 0), (19, .iload_n 2, 1, 0, 0, 0), (20, .iconst 0, 1, 0, 0, 0), (21, .sipush 600, 3, 0, 0, 0), (24, .invokestatic 241, 3, 188, 3, 0), (27, .ifCond .ne 7, 3, 34, 0, 0),
  (30, .ldc2_w 418, 3, 1, 0, (-1)), (33, .lreturn, 1, 0, 0, 0), (34, .lconst 0, 1, 0, 0, 0), (35, .lstore_n 3, 1, 0, 0, 0), (36, .iconst 0, 1, 0, 0, 0), (37, .istore 5, 2, 0, 0, 0), (39, .iload 5, 2, 0, 0, 0), (41, .aload_n 0, 1, 0, 0, 0),
  (42, .invokevirtual 335, 3, 201, 1, 2), (45, .if_icmp .ge 49, 3, 94, 0, 0), (48, .aload_n 0, 1, 0, 0, 0), (49, .iload 5, 2, 0, 0, 0), (51, .iconst 1, 1, 0, 0, 0), (52, .invokevirtual 322, 3, 162, 3, 2), (55, .iload_n 1, 1, 0, 0, 0), (56, .if_icmp .ne 13, 3, 69, 0, 0),
  (59, .aload_n 0, 1, 0, 0, 0), (60, .iload 5, 2, 0, 0, 0), (62, .iload_n 2, 1, 0, 0, 0), (63, .invokevirtual 410, 3, 234, 3, 2), (66, .goto 4, 3, 70, 0, 0), (69, .iconst (-1), 1, 0, 0, 0), (70, .istore 6, 2, 0, 0, 0), (72, .lload_n 3, 1, 0, 0, 0),
  (73, .iload 6, 2, 0, 0, 0), (75, .ifCond .lt 10, 3, 85, 0, 0), (78, .lconst 1, 1, 0, 0, 0), (79, .iload 6, 2, 0, 0, 0), (81, .lshl, 1, 0, 0, 0), (82, .goto 4, 3, 86, 0, 0), (85, .lconst 0, 1, 0, 0, 0), (86, .lor, 1, 0, 0, 0),
  (87, .lstore_n 3, 1, 0, 0, 0), (88, .iinc 5 1, 3, 0, 0, 0), (91, .goto (-52), 3, 39, 0, 0), (94, .lload_n 3, 1, 0, 0, 0), (95, .lreturn, 1, 0, 0, 0)]
/-- SamePassersModel.lanes()I -/
def mm_c242 : List (Nat × mm_E) := [(0, .aload_n 0, 1, 0, 0, 0), (1, .getfield 105, 3, 12, 10, 2), (4, .iconst 1, 1, 0, 0, 0), (5, .iaload, 1, 0, 0, 0), (6, .ireturn, 1, 0, 0, 0)]
/-- SamePassersModel.whose(III)I -/
def mm_c243 : List (Nat × mm_E) := [(0, .aload_n 0, 1, 0, 0, 0), (1, .iconst 0, 1, 0, 0, 0), (2, .putfield 1, 3, 12, 0, 0), (5, .iload_n 1, 1, 0, 0, 0), (6, .iconst 0, 1, 0, 0, 0), (7, .aload_n 0, 1, 0, 0, 0), (8, .invokevirtual 347, 3, 208, 1, 2), (11, .iconst 1, 1, 0, 0, 0),
  (12, .isub, 1, 0, 0, 0), (13, .invokestatic 241, 3, 188, 3, 0), (16, .ifCond .eq 28, 3, 44, 0, 0), (19, .iload_n 2, 1, 0, 0, 0), (20, .iconst 0, 1, 0, 0, 0), (21, .aload_n 0, 1, 0, 0, 0), (22, .invokevirtual 415, 3, 242, 1, 2), (25, .iconst 1, 1, 0, 0, 0),
  (26, .isub, 1, 0, 0, 0), (27, .invokestatic 241, 3, 188, 3, 0), (30, .ifCond .eq 14, 3, 44, 0, 0), (33, .iload_n 3, 1, 0, 0, 0), (34, .iconst 0, 1, 0, 0, 0), (35, .sipush 600, 3, 0, 0, 0), (38, .invokestatic 241, 3, 188, 3, 0), (41, .ifCond .ne 5, 3, 46, 0, 0),
  (44, .iconst (-1), 1, 0, 0, 0), (45, .ireturn, 1, 0, 0, 0), (46, .iconst 0, 1, 0, 0, 0), (47, .istore 4, 2, 0, 0, 0), (49, .iconst 0, 1, 0, 0, 0), (50, .istore 5, 2, 0, 0, 0), (52, .iload 5, 2, 0, 0, 0), (54, .aload_n 0, 1, 0, 0, 0),
  (55, .invokevirtual 335, 3, 201, 1, 2), (58, .if_icmp .ge 44, 3, 102, 0, 0), (61, .iload 4, 2, 0, 0, 0), (63, .aload_n 0, 1, 0, 0, 0), (64, .iload 5, 2, 0, 0, 0), (66, .iconst 1, 1, 0, 0, 0), (67, .invokevirtual 322, 3, 162, 3, 2), (70, .iload_n 2, 1, 0, 0, 0),
  (71, .if_icmp .ne 21, 3, 92, 0, 0), (74, .aload_n 0, 1, 0, 0, 0), (75, .iload 5, 2, 0, 0, 0), (77, .iload_n 3, 1, 0, 0, 0), (78, .invokevirtual 410, 3, 234, 3, 2), (81, .iload_n 1, 1, 0, 0, 0), (82, .if_icmp .ne 10, 3, 92, 0, 0), (85, .iconst 1, 1, 0, 0, 0),
  (86, .iload 5, 2, 0, 0, 0), (88, .ishl, 1, 0, 0, 0), (89, .goto 4, 3, 93, 0, 0), (92, .iconst 0, 1, 0, 0, 0), (93, .ior, 1, 0, 0, 0), (94, .istore 4, 2, 0, 0, 0), (96, .iinc 5 1, 3, 0, 0, 0), (99, .goto (-47), 3, 52, 0, 0),
  (102, .iload 4, 2, 0, 0, 0), (104, .ireturn, 1, 0, 0, 0)]
/-- SamePassersModel.lags(II)I -/
def mm_c244 : List (Nat × mm_E) := [(0, .aload_n 0, 1, 0, 0, 0), (1, .iconst 0, 1, 0, 0, 0), (2, .putfield 1, 3, 12, 0, 0), (5, .iload_n 1, 1, 0, 0, 0), (6, .iconst 1, 1, 0, 0, 0), (7, .iconst 1, 1, 0, 0, 0), (8, .aload_n 0, 1, 0, 0, 0), (9, .invokevirtual 335, 3, 201, 1, 2),
  (12, .ishl, 1, 0, 0, 0), (13, .iconst 1, 1, 0, 0, 0), (14, .isub, 1, 0, 0, 0), (15, .invokestatic 241, 3, 188, 3, 0), (18, .ifCond .eq 23, 3, 41, 0, 0), (21, .iload_n 1, 1, 0, 0, 0), (22, .invokestatic 444, 3, 245, 1, 0), (25, .iconst 4, 1, 0, 0, 0),
  (26, .if_icmp .gt 15, 3, 41, 0, 0), (29, .iload_n 2, 1, 0, 0, 0), (30, .iconst 0, 1, 0, 0, 0), (31, .iload_n 1, 1, 0, 0, 0), (32, .invokestatic 444, 3, 245, 1, 0), (35, .invokestatic 241, 3, 188, 3, 0), (38, .ifCond .ne 5, 3, 43, 0, 0), (41, .iconst (-1), 1, 0, 0, 0),
  (42, .ireturn, 1, 0, 0, 0), (43, .aload_n 0, 1, 0, 0, 0), (44, .iconst 0, 1, 0, 0, 0), (45, .putfield 423, 3, 12, 35, 0), (48, .iconst 0, 1, 0, 0, 0), (49, .istore_n 3, 1, 0, 0, 0), (50, .iload_n 3, 1, 0, 0, 0), (51, .aload_n 0, 1, 0, 0, 0),
  (52, .invokevirtual 335, 3, 201, 1, 2), (55, .if_icmp .ge 58, 3, 113, 0, 0), (58, .iload_n 1, 1, 0, 0, 0), (59, .iload_n 3, 1, 0, 0, 0), (60, .ishr, 1, 0, 0, 0), (61, .iconst 1, 1, 0, 0, 0), (62, .iand, 1, 0, 0, 0), (63, .iconst 1, 1, 0, 0, 0),
  (64, .if_icmp .ne 43, 3, 107, 0, 0), (67, .aload_n 0, 1, 0, 0, 0), (68, .getfield 142, 3, 12, 28, 2), (71, .aload_n 0, 1, 0, 0, 0), (72, .getfield 423, 3, 12, 35, 0), (75, .iload_n 3, 1, 0, 0, 0), (76, .iastore, 1, 0, 0, 0), (77, .aload_n 0, 1, 0, 0, 0),
  (78, .getfield 145, 3, 12, 29, 2), (81, .aload_n 0, 1, 0, 0, 0), (82, .getfield 423, 3, 12, 35, 0), (85, .aload_n 0, 1, 0, 0, 0), (86, .iload_n 3, 1, 0, 0, 0), (87, .aload_n 0, 1, 0, 0, 0), (88, .getfield 135, 3, 12, 25, 2), (91, .iconst 0, 1, 0, 0, 0),
  (92, .iaload, 1, 0, 0, 0), (93, .invokevirtual 353, 3, 202, 3, 2), (96, .iastore, 1, 0, 0, 0), (97, .aload_n 0, 1, 0, 0, 0), (98, .dup, 1, 0, 0, 0), (99, .getfield 423, 3, 12, 35, 0), (102, .iconst 1, 1, 0, 0, 0), (103, .iadd, 1, 0, 0, 0),
  (104, .putfield 423, 3, 12, 35, 0), (107, .iinc 3 1, 3, 0, 0, 0), (110, .goto (-60), 3, 50, 0, 0), (113, .aload_n 0, 1, 0, 0, 0), (114, .invokevirtual 447, 3, 246, 1, 2), (117, .aload_n 0, 1, 0, 0, 0), (118, .iconst (-1), 1, 0, 0, 0), (119, .putfield 438, 3, 12, 34, 0),
  (122, .aload_n 0, 1, 0, 0, 0), (123, .iconst 0, 1, 0, 0, 0), (124, .iconst 0, 1, 0, 0, 0), (125, .invokevirtual 441, 3, 251, 3, 2), (128, .aload_n 0, 1, 0, 0, 0), (129, .getfield 438, 3, 12, 34, 0), (132, .ifCond .ge 7, 3, 139, 0, 0), (135, .iconst (-1), 1, 0, 0, 0),
  (136, .goto 22, 3, 158, 0, 0), (139, .iload_n 2, 1, 0, 0, 0), (140, .ifCond .ne 10, 3, 150, 0, 0), (143, .aload_n 0, 1, 0, 0, 0), (144, .getfield 438, 3, 12, 34, 0), (147, .goto 11, 3, 158, 0, 0), (150, .aload_n 0, 1, 0, 0, 0), (151, .getfield 157, 3, 12, 33, 2),
  (154, .iload_n 2, 1, 0, 0, 0), (155, .iconst 1, 1, 0, 0, 0), (156, .isub, 1, 0, 0, 0), (157, .iaload, 1, 0, 0, 0), (158, .ireturn, 1, 0, 0, 0)]
/-- SamePassersModel.bits(I)I -/
def mm_c245 : List (Nat × mm_E) := [(0, .iconst 0, 1, 0, 0, 0), (1, .istore_n 1, 1, 0, 0, 0), (2, .iconst 0, 1, 0, 0, 0), (3, .istore_n 2, 1, 0, 0, 0), (4, .iload_n 2, 1, 0, 0, 0), (5, .bipush 30, 2, 0, 0, 0), (7, .if_icmp .ge 17, 3, 24, 0, 0), (10, .iload_n 1, 1, 0, 0, 0),
  (11, .iload_n 0, 1, 0, 0, 0), (12, .iload_n 2, 1, 0, 0, 0), (13, .ishr, 1, 0, 0, 0), (14, .iconst 1, 1, 0, 0, 0), (15, .iand, 1, 0, 0, 0), (16, .iadd, 1, 0, 0, 0), (17, .istore_n 1, 1, 0, 0, 0), (18, .iinc 2 1, 3, 0, 0, 0),
  (21, .goto (-17), 3, 4, 0, 0), (24, .iload_n 1, 1, 0, 0, 0), (25, .ireturn, 1, 0, 0, 0)]
/-- SamePassersModel.laysFits()V -/
def mm_c246 : List (Nat × mm_E) := [(0, .iconst 0, 1, 0, 0, 0), (1, .istore_n 1, 1, 0, 0, 0), (2, .iload_n 1, 1, 0, 0, 0), (3, .aload_n 0, 1, 0, 0, 0), (4, .getfield 423, 3, 12, 35, 0), (7, .if_icmp .ge 129, 3, 136, 0, 0), (10, .iconst 0, 1, 0, 0, 0), (11, .istore_n 2, 1, 0, 0, 0),
  (12, .iload_n 2, 1, 0, 0, 0), (13, .bipush 24, 2, 0, 0, 0), (15, .if_icmp .ge 115, 3, 130, 0, 0), (18, .aload_n 0, 1, 0, 0, 0), (19, .getfield 151, 3, 12, 31, 2), (22, .bipush 24, 2, 0, 0, 0), (24, .iload_n 1, 1, 0, 0, 0), (25, .imul, 1, 0, 0, 0),
  (26, .iload_n 2, 1, 0, 0, 0), (27, .iadd, 1, 0, 0, 0), (28, .aload_n 0, 1, 0, 0, 0), (29, .iload_n 1, 1, 0, 0, 0), (30, .iload_n 2, 1, 0, 0, 0), (31, .invokevirtual 426, 3, 247, 3, 2), (34, .bastore, 1, 0, 0, 0), (35, .iconst 0, 1, 0, 0, 0),
  (36, .istore_n 3, 1, 0, 0, 0), (37, .iload_n 3, 1, 0, 0, 0), (38, .iload_n 1, 1, 0, 0, 0), (39, .if_icmp .ge 85, 3, 124, 0, 0), (42, .iconst 0, 1, 0, 0, 0), (43, .istore 4, 2, 0, 0, 0), (45, .iload 4, 2, 0, 0, 0), (47, .bipush 24, 2, 0, 0, 0),
  (49, .if_icmp .ge 69, 3, 118, 0, 0), (52, .aload_n 0, 1, 0, 0, 0), (53, .getfield 148, 3, 12, 30, 2), (56, .aload_n 0, 1, 0, 0, 0), (57, .iload_n 1, 1, 0, 0, 0), (58, .iload_n 2, 1, 0, 0, 0), (59, .iload_n 3, 1, 0, 0, 0), (60, .iload 4, 2, 0, 0, 0),
  (62, .invokevirtual 430, 3, 249, 5, 2), (65, .aload_n 0, 1, 0, 0, 0), (66, .getfield 151, 3, 12, 31, 2), (69, .bipush 24, 2, 0, 0, 0), (71, .iload_n 1, 1, 0, 0, 0), (72, .imul, 1, 0, 0, 0), (73, .iload_n 2, 1, 0, 0, 0), (74, .iadd, 1, 0, 0, 0),
  (75, .baload, 1, 0, 0, 0), (76, .ifCond .eq 34, 3, 110, 0, 0), (79, .aload_n 0, 1, 0, 0, 0), (80, .getfield 151, 3, 12, 31, 2), (83, .bipush 24, 2, 0, 0, 0), (85, .iload_n 3, 1, 0, 0, 0), (86, .imul, 1, 0, 0, 0), (87, .iload 4, 2, 0, 0, 0),
  (89, .iadd, 1, 0, 0, 0), (90, .baload, 1, 0, 0, 0), (91, .ifCond .eq 19, 3, 110, 0, 0), (94, .aload_n 0, 1, 0, 0, 0), (95, .iload_n 1, 1, 0, 0, 0), (96, .iload_n 2, 1, 0, 0, 0), (97, .iload_n 3, 1, 0, 0, 0), (98, .iload 4, 2, 0, 0, 0),
  (100, .invokevirtual 434, 3, 250, 5, 2), (103, .ifCond .eq 7, 3, 110, 0, 0), (106, .iconst 1, 1, 0, 0, 0), (107, .goto 4, 3, 111, 0, 0), (110, .iconst 0, 1, 0, 0, 0), (111, .bastore, 1, 0, 0, 0), (112, .iinc 4 1, 3, 0, 0, 0), (115, .goto (-70), 3, 45, 0, 0),
  (118, .iinc 3 1, 3, 0, 0, 0), (121, .goto (-84), 3, 37, 0, 0), (124, .iinc 2 1, 3, 0, 0, 0), (127, .goto (-115), 3, 12, 0, 0), (130, .iinc 1 1, 3, 0, 0, 0), (133, .goto (-131), 3, 2, 0, 0), (136, .return_, 1, 0, 0, 0)]
/-- SamePassersModel.doHold(II)Z -/
def mm_c247 : List (Nat × mm_E) := [(0, .iconst 1, 1, 0, 0, 0), (1, .istore_n 3, 1, 0, 0, 0), (2, .iconst 0, 1, 0, 0, 0), (3, .istore 4, 2, 0, 0, 0), (5, .iload 4, 2, 0, 0, 0), (7, .aload_n 0, 1, 0, 0, 0), (8, .invokevirtual 394, 3, 228, 1, 2), (11, .if_icmp .ge 62, 3, 73, 0, 0),
  (14, .iload_n 3, 1, 0, 0, 0), (15, .ifCond .eq 50, 3, 65, 0, 0), (18, .aload_n 0, 1, 0, 0, 0), (19, .iload 4, 2, 0, 0, 0), (21, .iconst 0, 1, 0, 0, 0), (22, .invokevirtual 391, 3, 230, 3, 2), (25, .aload_n 0, 1, 0, 0, 0), (26, .getfield 142, 3, 12, 28, 2),
  (29, .iload_n 1, 1, 0, 0, 0), (30, .iaload, 1, 0, 0, 0), (31, .if_icmp .ne 30, 3, 61, 0, 0), (34, .aload_n 0, 1, 0, 0, 0), (35, .iload_n 1, 1, 0, 0, 0), (36, .iload_n 2, 1, 0, 0, 0), (37, .aload_n 0, 1, 0, 0, 0), (38, .aload_n 0, 1, 0, 0, 0),
  (39, .iload 4, 2, 0, 0, 0), (41, .iconst 1, 1, 0, 0, 0), (42, .invokevirtual 391, 3, 230, 3, 2), (45, .invokevirtual 344, 3, 210, 2, 2), (48, .invokevirtual 420, 3, 248, 4, 2), (51, .aload_n 0, 1, 0, 0, 0), (52, .iload 4, 2, 0, 0, 0), (54, .iconst 2, 1, 0, 0, 0),
  (55, .invokevirtual 391, 3, 230, 3, 2), (58, .if_icmp .ne 7, 3, 65, 0, 0), (61, .iconst 1, 1, 0, 0, 0), (62, .goto 4, 3, 66, 0, 0), (65, .iconst 0, 1, 0, 0, 0), (66, .istore_n 3, 1, 0, 0, 0), (67, .iinc 4 1, 3, 0, 0, 0), (70, .goto (-65), 3, 5, 0, 0),
  (73, .iload_n 3, 1, 0, 0, 0), (74, .ireturn, 1, 0, 0, 0)]
/-- SamePassersModel.laggedPlace(III)I -/
def mm_c248 : List (Nat × mm_E) := [(0, .aload_n 0, 1, 0, 0, 0), (1, .getfield 142, 3, 12, 28, 2), (4, .iload_n 1, 1, 0, 0, 0), (5, .iaload, 1, 0, 0, 0), (6, .istore 4, 2, 0, 0, 0), (8, .aload_n 0, 1, 0, 0, 0), (9, .iload 4, 2, 0, 0, 0), (11, .aload_n 0, 1, 0, 0, 0),
  (12, .getfield 135, 3, 12, 25, 2), (15, .iconst 1, 1, 0, 0, 0), (16, .iload 4, 2, 0, 0, 0), (18, .iadd, 1, 0, 0, 0), (19, .iaload, 1, 0, 0, 0), (20, .aload_n 0, 1, 0, 0, 0), (21, .getfield 135, 3, 12, 25, 2), (24, .bipush 9, 2, 0, 0, 0),
  (26, .iload 4, 2, 0, 0, 0), (28, .iadd, 1, 0, 0, 0), (29, .iaload, 1, 0, 0, 0), (30, .iload_n 2, 1, 0, 0, 0), (31, .aload_n 0, 1, 0, 0, 0), (32, .getfield 145, 3, 12, 29, 2), (35, .iload_n 1, 1, 0, 0, 0), (36, .iaload, 1, 0, 0, 0),
  (37, .iload_n 3, 1, 0, 0, 0), (38, .invokevirtual 356, 3, 207, 7, 2), (41, .ireturn, 1, 0, 0, 0)]
/-- SamePassersModel.fitAt(IIII)I -/
def mm_c249 : List (Nat × mm_E) := [(0, .bipush 24, 2, 0, 0, 0), (2, .bipush 24, 2, 0, 0, 0), (4, .iconst 4, 1, 0, 0, 0), (5, .iload_n 1, 1, 0, 0, 0), (6, .imul, 1, 0, 0, 0), (7, .iload_n 3, 1, 0, 0, 0), (8, .iadd, 1, 0, 0, 0), (9, .imul, 1, 0, 0, 0),
  (10, .iload_n 2, 1, 0, 0, 0), (11, .iadd, 1, 0, 0, 0), (12, .imul, 1, 0, 0, 0), (13, .iload 4, 2, 0, 0, 0), (15, .iadd, 1, 0, 0, 0), (16, .ireturn, 1, 0, 0, 0)]
/-- SamePassersModel.goTogether(IIII)Z -/
def mm_c250 : List (Nat × mm_E) := [(0, .iconst 1, 1, 0, 0, 0), (1, .istore 5, 2, 0, 0, 0), (3, .iconst 0, 1, 0, 0, 0), (4, .istore 6, 2, 0, 0, 0), (6, .iload 6, 2, 0, 0, 0), (8, .sipush 600, 3, 0, 0, 0), (11, .if_icmp .gt 75, 3, 86, 0, 0), (14, .iload 5, 2, 0, 0, 0),
  (16, .ifCond .eq 70, 3, 86, 0, 0), (19, .aload_n 0, 1, 0, 0, 0), (20, .aload_n 0, 1, 0, 0, 0), (21, .getfield 142, 3, 12, 28, 2), (24, .iload_n 1, 1, 0, 0, 0), (25, .iaload, 1, 0, 0, 0), (26, .iconst 1, 1, 0, 0, 0), (27, .invokevirtual 322, 3, 162, 3, 2),
  (30, .aload_n 0, 1, 0, 0, 0), (31, .aload_n 0, 1, 0, 0, 0), (32, .getfield 142, 3, 12, 28, 2), (35, .iload_n 3, 1, 0, 0, 0), (36, .iaload, 1, 0, 0, 0), (37, .iconst 1, 1, 0, 0, 0), (38, .invokevirtual 322, 3, 162, 3, 2), (41, .if_icmp .ne 45, 3, 86, 0, 0),
  (44, .aload_n 0, 1, 0, 0, 0), (45, .iload_n 1, 1, 0, 0, 0), (46, .iload_n 2, 1, 0, 0, 0), (47, .iload 6, 2, 0, 0, 0), (49, .invokevirtual 420, 3, 248, 4, 2), (52, .istore 7, 2, 0, 0, 0), (54, .iload 7, 2, 0, 0, 0), (56, .ifCond .lt 17, 3, 73, 0, 0),
  (59, .iload 7, 2, 0, 0, 0), (61, .aload_n 0, 1, 0, 0, 0), (62, .iload_n 3, 1, 0, 0, 0), (63, .iload 4, 2, 0, 0, 0), (65, .iload 6, 2, 0, 0, 0), (67, .invokevirtual 420, 3, 248, 4, 2), (70, .if_icmp .eq 7, 3, 77, 0, 0), (73, .iconst 1, 1, 0, 0, 0),
  (74, .goto 4, 3, 78, 0, 0), (77, .iconst 0, 1, 0, 0, 0), (78, .istore 5, 2, 0, 0, 0), (80, .iinc 6 1, 3, 0, 0, 0), (83, .goto (-77), 3, 6, 0, 0), (86, .iload 5, 2, 0, 0, 0), (88, .ireturn, 1, 0, 0, 0)]
/-- SamePassersModel.goesThrough(II)V -/
def mm_c251 : List (Nat × mm_E) := [(0, .aload_n 0, 1, 0, 0, 0), (1, .getfield 438, 3, 12, 34, 0), (4, .ifCond .lt 12, 3, 16, 0, 0), (7, .iload_n 2, 1, 0, 0, 0), (8, .aload_n 0, 1, 0, 0, 0), (9, .getfield 438, 3, 12, 34, 0), (12, .if_icmp .lt 4, 3, 16, 0, 0), (15, .return_, 1, 0, 0, 0),
  (16, .iload_n 1, 1, 0, 0, 0), (17, .aload_n 0, 1, 0, 0, 0), (18, .getfield 423, 3, 12, 35, 0), (21, .if_icmp .ne 34, 3, 55, 0, 0), (24, .aload_n 0, 1, 0, 0, 0), (25, .iload_n 2, 1, 0, 0, 0), (26, .putfield 438, 3, 12, 34, 0), (29, .iconst 0, 1, 0, 0, 0),
  (30, .istore_n 3, 1, 0, 0, 0), (31, .iload_n 3, 1, 0, 0, 0), (32, .iload_n 1, 1, 0, 0, 0), (33, .if_icmp .ge 21, 3, 54, 0, 0), (36, .aload_n 0, 1, 0, 0, 0), (37, .getfield 157, 3, 12, 33, 2), (40, .iload_n 3, 1, 0, 0, 0), (41, .aload_n 0, 1, 0, 0, 0),
  (42, .getfield 154, 3, 12, 32, 2), (45, .iload_n 3, 1, 0, 0, 0), (46, .iaload, 1, 0, 0, 0), (47, .iastore, 1, 0, 0, 0), (48, .iinc 3 1, 3, 0, 0, 0), (51, .goto (-20), 3, 31, 0, 0), (54, .return_, 1, 0, 0, 0), (55, .iconst 0, 1, 0, 0, 0),
  (56, .istore_n 3, 1, 0, 0, 0), (57, .iload_n 3, 1, 0, 0, 0), (58, .bipush 24, 2, 0, 0, 0), (60, .if_icmp .ge 94, 3, 154, 0, 0), (63, .aload_n 0, 1, 0, 0, 0), (64, .getfield 151, 3, 12, 31, 2), (67, .bipush 24, 2, 0, 0, 0), (69, .iload_n 1, 1, 0, 0, 0),
  (70, .imul, 1, 0, 0, 0), (71, .iload_n 3, 1, 0, 0, 0), (72, .iadd, 1, 0, 0, 0), (73, .baload, 1, 0, 0, 0), (74, .istore 4, 2, 0, 0, 0), (76, .iconst 0, 1, 0, 0, 0), (77, .istore 5, 2, 0, 0, 0), (79, .iload 5, 2, 0, 0, 0),
  (81, .iload_n 1, 1, 0, 0, 0), (82, .if_icmp .ge 44, 3, 126, 0, 0), (85, .iload 4, 2, 0, 0, 0), (87, .ifCond .eq 30, 3, 117, 0, 0), (90, .aload_n 0, 1, 0, 0, 0), (91, .getfield 148, 3, 12, 30, 2), (94, .aload_n 0, 1, 0, 0, 0), (95, .iload_n 1, 1, 0, 0, 0),
  (96, .iload_n 3, 1, 0, 0, 0), (97, .iload 5, 2, 0, 0, 0), (99, .aload_n 0, 1, 0, 0, 0), (100, .getfield 154, 3, 12, 32, 2), (103, .iload 5, 2, 0, 0, 0), (105, .iaload, 1, 0, 0, 0), (106, .invokevirtual 430, 3, 249, 5, 2), (109, .baload, 1, 0, 0, 0),
  (110, .ifCond .eq 7, 3, 117, 0, 0), (113, .iconst 1, 1, 0, 0, 0), (114, .goto 4, 3, 118, 0, 0), (117, .iconst 0, 1, 0, 0, 0), (118, .istore 4, 2, 0, 0, 0), (120, .iinc 5 1, 3, 0, 0, 0), (123, .goto (-44), 3, 79, 0, 0), (126, .iload 4, 2, 0, 0, 0),
  (128, .ifCond .eq 20, 3, 148, 0, 0), (131, .aload_n 0, 1, 0, 0, 0), (132, .getfield 154, 3, 12, 32, 2), (135, .iload_n 1, 1, 0, 0, 0), (136, .iload_n 3, 1, 0, 0, 0), (137, .iastore, 1, 0, 0, 0), (138, .aload_n 0, 1, 0, 0, 0), (139, .iload_n 1, 1, 0, 0, 0),
  (140, .iconst 1, 1, 0, 0, 0), (141, .iadd, 1, 0, 0, 0), (142, .iload_n 2, 1, 0, 0, 0), (143, .iload_n 3, 1, 0, 0, 0), (144, .iadd, 1, 0, 0, 0), (145, .invokevirtual 441, 3, 251, 3, 2), (148, .iinc 3 1, 3, 0, 0, 0), (151, .goto (-94), 3, 57, 0, 0),
  (154, .return_, 1, 0, 0, 0)]
/-- SamePassersModel.full(I)I -/
def mm_c252 : List (Nat × mm_E) := [(0, .aload_n 0, 1, 0, 0, 0), (1, .iconst 0, 1, 0, 0, 0), (2, .putfield 1, 3, 12, 0, 0), (5, .iconst (-1), 1, 0, 0, 0), (6, .istore_n 2, 1, 0, 0, 0), (7, .iconst 0, 1, 0, 0, 0), (8, .istore_n 3, 1, 0, 0, 0), (9, .iload_n 3, 1, 0, 0, 0),
  (10, .iconst 1, 1, 0, 0, 0), (11, .aload_n 0, 1, 0, 0, 0), (12, .invokevirtual 335, 3, 201, 1, 2), (15, .ishl, 1, 0, 0, 0), (16, .if_icmp .ge 150, 3, 166, 0, 0), (19, .iload_n 1, 1, 0, 0, 0), (20, .iconst 0, 1, 0, 0, 0), (21, .bipush 8, 2, 0, 0, 0),
  (23, .invokestatic 241, 3, 188, 3, 0), (26, .ifCond .eq 140, 3, 166, 0, 0), (29, .iload_n 2, 1, 0, 0, 0), (30, .ifCond .lt 14, 3, 44, 0, 0), (33, .iload_n 3, 1, 0, 0, 0), (34, .invokestatic 444, 3, 245, 1, 0), (37, .iload_n 2, 1, 0, 0, 0), (38, .invokestatic 444, 3, 245, 1, 0),
  (41, .if_icmp .ge 7, 3, 48, 0, 0), (44, .iconst 1, 1, 0, 0, 0), (45, .goto 4, 3, 49, 0, 0), (48, .iconst 0, 1, 0, 0, 0), (49, .istore 4, 2, 0, 0, 0), (51, .iconst 0, 1, 0, 0, 0), (52, .istore 5, 2, 0, 0, 0), (54, .iload 5, 2, 0, 0, 0),
  (56, .aload_n 0, 1, 0, 0, 0), (57, .invokevirtual 338, 3, 216, 1, 2), (60, .if_icmp .ge 89, 3, 149, 0, 0), (63, .iload 4, 2, 0, 0, 0), (65, .ifCond .eq 84, 3, 149, 0, 0), (68, .iconst 0, 1, 0, 0, 0), (69, .istore 6, 2, 0, 0, 0), (71, .iconst 0, 1, 0, 0, 0),
  (72, .istore 7, 2, 0, 0, 0), (74, .iload 7, 2, 0, 0, 0), (76, .aload_n 0, 1, 0, 0, 0), (77, .invokevirtual 335, 3, 201, 1, 2), (80, .if_icmp .ge 50, 3, 130, 0, 0), (83, .iload 6, 2, 0, 0, 0), (85, .iload_n 3, 1, 0, 0, 0), (86, .iload 7, 2, 0, 0, 0),
  (88, .ishr, 1, 0, 0, 0), (89, .iconst 1, 1, 0, 0, 0), (90, .iand, 1, 0, 0, 0), (91, .iconst 1, 1, 0, 0, 0), (92, .if_icmp .ne 28, 3, 120, 0, 0), (95, .aload_n 0, 1, 0, 0, 0), (96, .iload 7, 2, 0, 0, 0), (98, .aload_n 0, 1, 0, 0, 0),
  (99, .iload 7, 2, 0, 0, 0), (101, .aload_n 0, 1, 0, 0, 0), (102, .iload 5, 2, 0, 0, 0), (104, .invokevirtual 344, 3, 210, 2, 2), (107, .invokevirtual 410, 3, 234, 3, 2), (110, .invokevirtual 370, 3, 211, 3, 2), (113, .ifCond .le 7, 3, 120, 0, 0), (116, .iconst 1, 1, 0, 0, 0),
  (117, .goto 4, 3, 121, 0, 0), (120, .iconst 0, 1, 0, 0, 0), (121, .iadd, 1, 0, 0, 0), (122, .istore 6, 2, 0, 0, 0), (124, .iinc 7 1, 3, 0, 0, 0), (127, .goto (-53), 3, 74, 0, 0), (130, .iload 6, 2, 0, 0, 0), (132, .iload_n 1, 1, 0, 0, 0),
  (133, .if_icmp .lt 7, 3, 140, 0, 0), (136, .iconst 1, 1, 0, 0, 0), (137, .goto 4, 3, 141, 0, 0), (140, .iconst 0, 1, 0, 0, 0), (141, .istore 4, 2, 0, 0, 0), (143, .iinc 5 1, 3, 0, 0, 0), (146, .goto (-92), 3, 54, 0, 0), (149, .iload 4, 2, 0, 0, 0),
  (151, .ifCond .eq 7, 3, 158, 0, 0), (154, .iload_n 3, 1, 0, 0, 0), (155, .goto 4, 3, 159, 0, 0), (158, .iload_n 2, 1, 0, 0, 0), (159, .istore_n 2, 1, 0, 0, 0), (160, .iinc 3 1, 3, 0, 0, 0), (163, .goto (-154), 3, 9, 0, 0), (166, .iload_n 2, 1, 0, 0, 0),
  (167, .ireturn, 1, 0, 0, 0)]
/-- SamePassersModel.jump(IIIII)I -/
def mm_c253 : List (Nat × mm_E) := [(0, .aload_n 0, 1, 0, 0, 0), (1, .iconst 0, 1, 0, 0, 0), (2, .putfield 1, 3, 12, 0, 0), (5, .iload_n 1, 1, 0, 0, 0), (6, .iconst (-1), 1, 0, 0, 0), (7, .if_icmp .eq 11, 3, 18, 0, 0), (10, .aload_n 0, 1, 0, 0, 0), (11, .iload_n 1, 1, 0, 0, 0),
  (12, .invokevirtual 376, 3, 200, 2, 2), (15, .ifCond .eq 45, 3, 60, 0, 0), (18, .iload_n 2, 1, 0, 0, 0), (19, .iconst 0, 1, 0, 0, 0), (20, .bipush 60, 2, 0, 0, 0), (22, .invokestatic 241, 3, 188, 3, 0), (25, .ifCond .eq 35, 3, 60, 0, 0), (28, .iload 4, 2, 0, 0, 0),
  (30, .iconst 0, 1, 0, 0, 0), (31, .bipush 60, 2, 0, 0, 0), (33, .invokestatic 241, 3, 188, 3, 0), (36, .ifCond .eq 24, 3, 60, 0, 0), (39, .aload_n 0, 1, 0, 0, 0), (40, .iload_n 3, 1, 0, 0, 0), (41, .invokevirtual 382, 3, 215, 2, 2), (44, .ifCond .eq 16, 3, 60, 0, 0),
  (47, .aload_n 0, 1, 0, 0, 0), (48, .iload 5, 2, 0, 0, 0), (50, .invokevirtual 382, 3, 215, 2, 2), (53, .ifCond .eq 7, 3, 60, 0, 0), (56, .iconst 1, 1, 0, 0, 0), (57, .goto 4, 3, 61, 0, 0), (60, .iconst 0, 1, 0, 0, 0), (61, .istore 6, 2, 0, 0, 0),
  (63, .iload 6, 2, 0, 0, 0), (65, .ifCond .ne 8, 3, 73, 0, 0), (68, .bipush (-2), 2, 0, 0, 0), (70, .goto 31, 3, 101, 0, 0), (73, .iload_n 1, 1, 0, 0, 0), (74, .ifCond .ge 16, 3, 90, 0, 0), (77, .aload_n 0, 1, 0, 0, 0), (78, .iload_n 2, 1, 0, 0, 0),
  (79, .iload_n 3, 1, 0, 0, 0), (80, .iload 4, 2, 0, 0, 0), (82, .iload 5, 2, 0, 0, 0), (84, .invokevirtual 454, 3, 254, 5, 2), (87, .goto 14, 3, 101, 0, 0), (90, .aload_n 0, 1, 0, 0, 0), (91, .iload_n 1, 1, 0, 0, 0), (92, .iload_n 2, 1, 0, 0, 0),
  (93, .iload_n 3, 1, 0, 0, 0), (94, .iload 4, 2, 0, 0, 0), (96, .iload 5, 2, 0, 0, 0), (98, .invokevirtual 450, 3, 255, 6, 2), (101, .ireturn, 1, 0, 0, 0)]
/-- SamePassersModel.allJumps(IIII)I -/
def mm_c254 : List (Nat × mm_E) := [(0, .iconst 0, 1, 0, 0, 0), (1, .istore 5, 2, 0, 0, 0), (3, .iconst 0, 1, 0, 0, 0), (4, .istore 6, 2, 0, 0, 0), (6, .iload 6, 2, 0, 0, 0), (8, .aload_n 0, 1, 0, 0, 0), (9, .invokevirtual 335, 3, 201, 1, 2), (12, .if_icmp .ge 25, 3, 37, 0, 0),
  (15, .iload 5, 2, 0, 0, 0), (17, .aload_n 0, 1, 0, 0, 0), (18, .iload 6, 2, 0, 0, 0), (20, .iload_n 1, 1, 0, 0, 0), (21, .iload_n 2, 1, 0, 0, 0), (22, .iload_n 3, 1, 0, 0, 0), (23, .iload 4, 2, 0, 0, 0), (25, .invokevirtual 450, 3, 255, 6, 2),
  (28, .iadd, 1, 0, 0, 0), (29, .istore 5, 2, 0, 0, 0), (31, .iinc 6 1, 3, 0, 0, 0), (34, .goto (-28), 3, 6, 0, 0), (37, .iload 5, 2, 0, 0, 0), (39, .ireturn, 1, 0, 0, 0)]
/-- SamePassersModel.jumpOf(IIIII)I -/
def mm_c255 : List (Nat × mm_E) := [(0, .aload_n 0, 1, 0, 0, 0), (1, .iconst 0, 1, 0, 0, 0), (2, .iload_n 2, 1, 0, 0, 0), (3, .iconst 0, 1, 0, 0, 0), (4, .iload_n 1, 1, 0, 0, 0), (5, .aload_n 0, 1, 0, 0, 0), (6, .iload_n 3, 1, 0, 0, 0), (7, .invokevirtual 344, 3, 210, 2, 2),
  (10, .invokevirtual 360, 3, 231, 6, 2), (13, .istore 6, 2, 0, 0, 0), (15, .aload_n 0, 1, 0, 0, 0), (16, .iconst 0, 1, 0, 0, 0), (17, .iload 4, 2, 0, 0, 0), (19, .iconst 0, 1, 0, 0, 0), (20, .iload_n 1, 1, 0, 0, 0), (21, .aload_n 0, 1, 0, 0, 0),
  (22, .iload 5, 2, 0, 0, 0), (24, .invokevirtual 344, 3, 210, 2, 2), (27, .invokevirtual 360, 3, 231, 6, 2), (30, .istore 7, 2, 0, 0, 0), (32, .aload_n 0, 1, 0, 0, 0), (33, .iload_n 1, 1, 0, 0, 0), (34, .iload 6, 2, 0, 0, 0), (36, .invokevirtual 370, 3, 211, 3, 2),
  (39, .ifCond .le 7, 3, 46, 0, 0), (42, .iconst 1, 1, 0, 0, 0), (43, .goto 4, 3, 47, 0, 0), (46, .iconst 0, 1, 0, 0, 0), (47, .istore 8, 2, 0, 0, 0), (49, .aload_n 0, 1, 0, 0, 0), (50, .iload_n 1, 1, 0, 0, 0), (51, .iload 7, 2, 0, 0, 0),
  (53, .invokevirtual 370, 3, 211, 3, 2), (56, .ifCond .le 7, 3, 63, 0, 0), (59, .iconst 1, 1, 0, 0, 0), (60, .goto 4, 3, 64, 0, 0), (63, .iconst 0, 1, 0, 0, 0), (64, .istore 9, 2, 0, 0, 0), (66, .iload 6, 2, 0, 0, 0), (68, .iload 7, 2, 0, 0, 0),
  (70, .isub, 1, 0, 0, 0), (71, .istore 10, 2, 0, 0, 0), (73, .iload 8, 2, 0, 0, 0), (75, .ifCond .eq 24, 3, 99, 0, 0), (78, .iload 9, 2, 0, 0, 0), (80, .ifCond .eq 19, 3, 99, 0, 0), (83, .iload 10, 2, 0, 0, 0), (85, .ifCond .ge 9, 3, 94, 0, 0),
  (88, .iload 10, 2, 0, 0, 0), (90, .ineg, 1, 0, 0, 0), (91, .goto 37, 3, 128, 0, 0), (94, .iload 10, 2, 0, 0, 0), (96, .goto 32, 3, 128, 0, 0), (99, .iload 8, 2, 0, 0, 0), (101, .ifCond .ne 8, 3, 109, 0, 0), (104, .iload 9, 2, 0, 0, 0),
  (106, .ifCond .eq 21, 3, 127, 0, 0), (109, .aload_n 0, 1, 0, 0, 0), (110, .getfield 105, 3, 12, 10, 2), (113, .iconst 3, 1, 0, 0, 0), (114, .iaload, 1, 0, 0, 0), (115, .aload_n 0, 1, 0, 0, 0), (116, .getfield 105, 3, 12, 10, 2), (119, .iconst 2, 1, 0, 0, 0),
  (120, .iaload, 1, 0, 0, 0), (121, .isub, 1, 0, 0, 0), (122, .iconst 1, 1, 0, 0, 0), (123, .iadd, 1, 0, 0, 0), (124, .goto 4, 3, 128, 0, 0), (127, .iconst 0, 1, 0, 0, 0), (128, .ireturn, 1, 0, 0, 0)]
/-- SamePassersModel.best(II)I -/
def mm_c256 : List (Nat × mm_E) := [(0, .aload_n 0, 1, 0, 0, 0), (1, .iconst 0, 1, 0, 0, 0), (2, .putfield 1, 3, 12, 0, 0), (5, .aload_n 0, 1, 0, 0, 0), (6, .iload_n 1, 1, 0, 0, 0), (7, .invokevirtual 382, 3, 215, 2, 2), (10, .ifCond .eq 12, 3, 22, 0, 0), (13, .iload_n 2, 1, 0, 0, 0),
  (14, .iconst 0, 1, 0, 0, 0), (15, .iconst 2, 1, 0, 0, 0), (16, .invokestatic 241, 3, 188, 3, 0), (19, .ifCond .ne 5, 3, 24, 0, 0), (22, .iconst (-1), 1, 0, 0, 0), (23, .ireturn, 1, 0, 0, 0), (24, .iconst (-1), 1, 0, 0, 0), (25, .istore_n 3, 1, 0, 0, 0),
  (26, .iconst 0, 1, 0, 0, 0), (27, .istore 4, 2, 0, 0, 0), (29, .iconst 0, 1, 0, 0, 0), (30, .istore 5, 2, 0, 0, 0), (32, .iconst 0, 1, 0, 0, 0), (33, .istore 6, 2, 0, 0, 0), (35, .iload 6, 2, 0, 0, 0), (37, .bipush 12, 2, 0, 0, 0),
  (39, .if_icmp .ge 61, 3, 100, 0, 0), (42, .iload 6, 2, 0, 0, 0), (44, .iconst 1, 1, 0, 0, 0), (45, .iadd, 1, 0, 0, 0), (46, .istore 7, 2, 0, 0, 0), (48, .iload 7, 2, 0, 0, 0), (50, .bipush 12, 2, 0, 0, 0), (52, .if_icmp .ge 42, 3, 94, 0, 0),
  (55, .aload_n 0, 1, 0, 0, 0), (56, .iload 6, 2, 0, 0, 0), (58, .iload_n 1, 1, 0, 0, 0), (59, .iload 7, 2, 0, 0, 0), (61, .iload_n 1, 1, 0, 0, 0), (62, .invokevirtual 454, 3, 254, 5, 2), (65, .istore 8, 2, 0, 0, 0), (67, .iload_n 3, 1, 0, 0, 0),
  (68, .ifCond .lt 9, 3, 77, 0, 0), (71, .iload 8, 2, 0, 0, 0), (73, .iload_n 3, 1, 0, 0, 0), (74, .if_icmp .ge 14, 3, 88, 0, 0), (77, .iload 8, 2, 0, 0, 0), (79, .istore_n 3, 1, 0, 0, 0), (80, .iload 6, 2, 0, 0, 0), (82, .istore 4, 2, 0, 0, 0),
  (84, .iload 7, 2, 0, 0, 0), (86, .istore 5, 2, 0, 0, 0), (88, .iinc 7 1, 3, 0, 0, 0), (91, .goto (-43), 3, 48, 0, 0), (94, .iinc 6 1, 3, 0, 0, 0), (97, .goto (-62), 3, 35, 0, 0), (100, .iload_n 2, 1, 0, 0, 0), (101, .ifCond .ne 7, 3, 108, 0, 0),
  (104, .iload_n 3, 1, 0, 0, 0), (105, .goto 15, 3, 120, 0, 0), (108, .iload_n 2, 1, 0, 0, 0), (109, .iconst 1, 1, 0, 0, 0), (110, .if_icmp .ne 8, 3, 118, 0, 0), (113, .iload 4, 2, 0, 0, 0), (115, .goto 5, 3, 120, 0, 0), (118, .iload 5, 2, 0, 0, 0),
  (120, .ireturn, 1, 0, 0, 0)]
/-- SamePassersModel.wrong()I -/
def mm_c257 : List (Nat × mm_E) := [(0, .aload_n 0, 1, 0, 0, 0), (1, .iconst 0, 1, 0, 0, 0), (2, .putfield 1, 3, 12, 0, 0), (5, .iconst 0, 1, 0, 0, 0), (6, .istore_n 1, 1, 0, 0, 0), (7, .iconst 0, 1, 0, 0, 0), (8, .istore_n 2, 1, 0, 0, 0), (9, .iload_n 2, 1, 0, 0, 0),
  (10, .aload_n 0, 1, 0, 0, 0), (11, .invokevirtual 335, 3, 201, 1, 2), (14, .if_icmp .ge 73, 3, 87, 0, 0), (17, .iconst 0, 1, 0, 0, 0), (18, .istore_n 3, 1, 0, 0, 0), (19, .iconst 0, 1, 0, 0, 0), (20, .istore 4, 2, 0, 0, 0), (22, .iload 4, 2, 0, 0, 0),
  (24, .aload_n 0, 1, 0, 0, 0), (25, .invokevirtual 338, 3, 216, 1, 2), (28, .if_icmp .ge 39, 3, 67, 0, 0), (31, .iload_n 3, 1, 0, 0, 0), (32, .ifCond .ne 23, 3, 55, 0, 0), (35, .aload_n 0, 1, 0, 0, 0), (36, .iload_n 2, 1, 0, 0, 0), (37, .aload_n 0, 1, 0, 0, 0),
  (38, .iload_n 2, 1, 0, 0, 0), (39, .aload_n 0, 1, 0, 0, 0), (40, .iload 4, 2, 0, 0, 0), (42, .invokevirtual 344, 3, 210, 2, 2), (45, .invokevirtual 410, 3, 234, 3, 2), (48, .invokevirtual 370, 3, 211, 3, 2), (51, .iconst 2, 1, 0, 0, 0), (52, .if_icmp .ne 7, 3, 59, 0, 0),
  (55, .iconst 1, 1, 0, 0, 0), (56, .goto 4, 3, 60, 0, 0), (59, .iconst 0, 1, 0, 0, 0), (60, .istore_n 3, 1, 0, 0, 0), (61, .iinc 4 1, 3, 0, 0, 0), (64, .goto (-42), 3, 22, 0, 0), (67, .iload_n 1, 1, 0, 0, 0), (68, .iload_n 3, 1, 0, 0, 0),
  (69, .ifCond .eq 7, 3, 76, 0, 0), (72, .iconst 0, 1, 0, 0, 0), (73, .goto 6, 3, 79, 0, 0), (76, .iconst 1, 1, 0, 0, 0), (77, .iload_n 2, 1, 0, 0, 0), (78, .ishl, 1, 0, 0, 0), (79, .ior, 1, 0, 0, 0), (80, .istore_n 1, 1, 0, 0, 0),
  (81, .iinc 2 1, 3, 0, 0, 0), (84, .goto (-75), 3, 9, 0, 0), (87, .iload_n 1, 1, 0, 0, 0), (88, .ireturn, 1, 0, 0, 0)]
/-- SamePassersModel.change(II)I -/
def mm_c258 : List (Nat × mm_E) := [(0, .aload_n 0, 1, 0, 0, 0), (1, .iconst 0, 1, 0, 0, 0), (2, .putfield 1, 3, 12, 0, 0), (5, .aload_n 0, 1, 0, 0, 0), (6, .iload_n 1, 1, 0, 0, 0), (7, .invokevirtual 376, 3, 200, 2, 2), (10, .ifCond .eq 13, 3, 23, 0, 0), (13, .iload_n 2, 1, 0, 0, 0),
  (14, .iconst 0, 1, 0, 0, 0), (15, .bipush 40, 2, 0, 0, 0), (17, .invokestatic 241, 3, 188, 3, 0), (20, .ifCond .ne 5, 3, 25, 0, 0), (23, .iconst (-1), 1, 0, 0, 0), (24, .ireturn, 1, 0, 0, 0), (25, .iconst 0, 1, 0, 0, 0), (26, .istore_n 3, 1, 0, 0, 0),
  (27, .iconst 0, 1, 0, 0, 0), (28, .istore 4, 2, 0, 0, 0), (30, .iload 4, 2, 0, 0, 0), (32, .aload_n 0, 1, 0, 0, 0), (33, .invokevirtual 335, 3, 201, 1, 2), (36, .if_icmp .ge 37, 3, 73, 0, 0), (39, .iload_n 3, 1, 0, 0, 0), (40, .iload 4, 2, 0, 0, 0),
  (42, .iload_n 1, 1, 0, 0, 0), (43, .if_icmp .eq 21, 3, 64, 0, 0), (46, .aload_n 0, 1, 0, 0, 0), (47, .iload_n 1, 1, 0, 0, 0), (48, .iload 4, 2, 0, 0, 0), (50, .iload_n 2, 1, 0, 0, 0), (51, .invokevirtual 457, 3, 259, 4, 2), (54, .ifCond .eq 10, 3, 64, 0, 0),
  (57, .iconst 1, 1, 0, 0, 0), (58, .iload 4, 2, 0, 0, 0), (60, .ishl, 1, 0, 0, 0), (61, .goto 4, 3, 65, 0, 0), (64, .iconst 0, 1, 0, 0, 0), (65, .ior, 1, 0, 0, 0), (66, .istore_n 3, 1, 0, 0, 0), (67, .iinc 4 1, 3, 0, 0, 0),
  (70, .goto (-40), 3, 30, 0, 0), (73, .iload_n 3, 1, 0, 0, 0), (74, .ireturn, 1, 0, 0, 0)]
/-- SamePassersModel.isAlike(III)Z -/
def mm_c259 : List (Nat × mm_E) := [(0, .aload_n 0, 1, 0, 0, 0), (1, .iload_n 1, 1, 0, 0, 0), (2, .iconst 0, 1, 0, 0, 0), (3, .invokevirtual 322, 3, 162, 3, 2), (6, .aload_n 0, 1, 0, 0, 0), (7, .iload_n 2, 1, 0, 0, 0), (8, .iconst 0, 1, 0, 0, 0), (9, .invokevirtual 322, 3, 162, 3, 2),
  (12, .if_icmp .ne 7, 3, 19, 0, 0), (15, .iconst 1, 1, 0, 0, 0), (16, .goto 4, 3, 20, 0, 0), (19, .iconst 0, 1, 0, 0, 0), (20, .istore 4, 2, 0, 0, 0), (22, .iconst 0, 1, 0, 0, 0), (23, .istore 5, 2, 0, 0, 0), (25, .iload 5, 2, 0, 0, 0),
  (27, .aload_n 0, 1, 0, 0, 0), (28, .invokevirtual 338, 3, 216, 1, 2), (31, .if_icmp .ge 107, 3, 138, 0, 0), (34, .iload 4, 2, 0, 0, 0), (36, .ifCond .eq 102, 3, 138, 0, 0), (39, .aload_n 0, 1, 0, 0, 0), (40, .iload_n 1, 1, 0, 0, 0), (41, .aload_n 0, 1, 0, 0, 0),
  (42, .iload 5, 2, 0, 0, 0), (44, .invokevirtual 344, 3, 210, 2, 2), (47, .invokevirtual 410, 3, 234, 3, 2), (50, .istore 6, 2, 0, 0, 0), (52, .aload_n 0, 1, 0, 0, 0), (53, .iload_n 2, 1, 0, 0, 0), (54, .aload_n 0, 1, 0, 0, 0), (55, .iload 5, 2, 0, 0, 0),
  (57, .invokevirtual 344, 3, 210, 2, 2), (60, .invokevirtual 410, 3, 234, 3, 2), (63, .istore 7, 2, 0, 0, 0), (65, .aload_n 0, 1, 0, 0, 0), (66, .iload_n 1, 1, 0, 0, 0), (67, .iload 6, 2, 0, 0, 0), (69, .invokevirtual 370, 3, 211, 3, 2), (72, .ifCond .le 7, 3, 79, 0, 0),
  (75, .iconst 1, 1, 0, 0, 0), (76, .goto 4, 3, 80, 0, 0), (79, .iconst 0, 1, 0, 0, 0), (80, .istore 8, 2, 0, 0, 0), (82, .iload 8, 2, 0, 0, 0), (84, .aload_n 0, 1, 0, 0, 0), (85, .iload_n 2, 1, 0, 0, 0), (86, .iload 7, 2, 0, 0, 0),
  (88, .invokevirtual 370, 3, 211, 3, 2), (91, .ifCond .le 7, 3, 98, 0, 0), (94, .iconst 1, 1, 0, 0, 0), (95, .goto 4, 3, 99, 0, 0), (98, .iconst 0, 1, 0, 0, 0), (99, .if_icmp .ne 30, 3, 129, 0, 0), (102, .iload 8, 2, 0, 0, 0), (104, .ifCond .eq 21, 3, 125, 0, 0),
  (107, .iload 6, 2, 0, 0, 0), (109, .iload 7, 2, 0, 0, 0), (111, .isub, 1, 0, 0, 0), (112, .iload_n 3, 1, 0, 0, 0), (113, .if_icmp .gt 16, 3, 129, 0, 0), (116, .iload 7, 2, 0, 0, 0), (118, .iload 6, 2, 0, 0, 0), (120, .isub, 1, 0, 0, 0),
  (121, .iload_n 3, 1, 0, 0, 0), (122, .if_icmp .gt 7, 3, 129, 0, 0), (125, .iconst 1, 1, 0, 0, 0), (126, .goto 4, 3, 130, 0, 0), (129, .iconst 0, 1, 0, 0, 0), (130, .istore 4, 2, 0, 0, 0), (132, .iinc 5 1, 3, 0, 0, 0), (135, .goto (-110), 3, 25, 0, 0),
  (138, .iload 4, 2, 0, 0, 0), (140, .ireturn, 1, 0, 0, 0)]
/-- SamePassersModel.other(III)I -/
def mm_c260 : List (Nat × mm_E) := [(0, .aload_n 0, 1, 0, 0, 0), (1, .iconst 0, 1, 0, 0, 0), (2, .putfield 1, 3, 12, 0, 0), (5, .aload_n 0, 1, 0, 0, 0), (6, .iload_n 1, 1, 0, 0, 0), (7, .invokevirtual 376, 3, 200, 2, 2), (10, .ifCond .eq 20, 3, 30, 0, 0), (13, .aload_n 0, 1, 0, 0, 0),
  (14, .iload_n 2, 1, 0, 0, 0), (15, .invokevirtual 382, 3, 215, 2, 2), (18, .ifCond .eq 12, 3, 30, 0, 0), (21, .iload_n 3, 1, 0, 0, 0), (22, .iconst 0, 1, 0, 0, 0), (23, .iconst 1, 1, 0, 0, 0), (24, .invokestatic 241, 3, 188, 3, 0), (27, .ifCond .ne 6, 3, 33, 0, 0),
  (30, .bipush (-2), 2, 0, 0, 0), (32, .ireturn, 1, 0, 0, 0), (33, .aload_n 0, 1, 0, 0, 0), (34, .iload_n 1, 1, 0, 0, 0), (35, .aload_n 0, 1, 0, 0, 0), (36, .iload_n 2, 1, 0, 0, 0), (37, .invokevirtual 344, 3, 210, 2, 2), (40, .invokevirtual 410, 3, 234, 3, 2),
  (43, .istore 4, 2, 0, 0, 0), (45, .iload_n 3, 1, 0, 0, 0), (46, .iconst 1, 1, 0, 0, 0), (47, .if_icmp .ne 19, 3, 66, 0, 0), (50, .aload_n 0, 1, 0, 0, 0), (51, .invokevirtual 415, 3, 242, 1, 2), (54, .iconst 1, 1, 0, 0, 0), (55, .isub, 1, 0, 0, 0),
  (56, .aload_n 0, 1, 0, 0, 0), (57, .iload_n 1, 1, 0, 0, 0), (58, .iconst 1, 1, 0, 0, 0), (59, .invokevirtual 322, 3, 162, 3, 2), (62, .isub, 1, 0, 0, 0), (63, .goto 37, 3, 100, 0, 0), (66, .iload 4, 2, 0, 0, 0), (68, .ifCond .lt 12, 3, 80, 0, 0),
  (71, .aload_n 0, 1, 0, 0, 0), (72, .iload 4, 2, 0, 0, 0), (74, .invokevirtual 364, 3, 212, 2, 2), (77, .ifCond .ne 7, 3, 84, 0, 0), (80, .iconst (-1), 1, 0, 0, 0), (81, .goto 19, 3, 100, 0, 0), (84, .aload_n 0, 1, 0, 0, 0), (85, .getfield 105, 3, 12, 10, 2),
  (88, .iconst 2, 1, 0, 0, 0), (89, .iaload, 1, 0, 0, 0), (90, .aload_n 0, 1, 0, 0, 0), (91, .getfield 105, 3, 12, 10, 2), (94, .iconst 3, 1, 0, 0, 0), (95, .iaload, 1, 0, 0, 0), (96, .iadd, 1, 0, 0, 0), (97, .iload 4, 2, 0, 0, 0),
  (99, .isub, 1, 0, 0, 0), (100, .ireturn, 1, 0, 0, 0)]
/-- SamePassersModel.tell(II)Z -/
def mm_c261 : List (Nat × mm_E) := [(0, .aload_n 0, 1, 0, 0, 0), (1, .iconst 0, 1, 0, 0, 0), (2, .putfield 1, 3, 12, 0, 0), (5, .iload_n 1, 1, 0, 0, 0), (6, .iconst 0, 1, 0, 0, 0), (7, .bipush 60, 2, 0, 0, 0), (9, .invokestatic 241, 3, 188, 3, 0), (12, .ifCond .eq 26, 3, 38, 0, 0),
  (15, .iload_n 2, 1, 0, 0, 0), (16, .iconst 0, 1, 0, 0, 0), (17, .sipush 600, 3, 0, 0, 0), (20, .invokestatic 241, 3, 188, 3, 0), (23, .ifCond .eq 15, 3, 38, 0, 0), (26, .aload_n 0, 1, 0, 0, 0), (27, .getfield 135, 3, 12, 25, 2), (30, .bipush 25, 2, 0, 0, 0),
  (32, .iaload, 1, 0, 0, 0), (33, .bipush 10, 2, 0, 0, 0), (35, .if_icmp .ne 5, 3, 40, 0, 0), (38, .iconst 0, 1, 0, 0, 0), (39, .ireturn, 1, 0, 0, 0), (40, .aload_n 0, 1, 0, 0, 0), (41, .getfield 135, 3, 12, 25, 2), (44, .bipush 26, 2, 0, 0, 0),
  (46, .iconst 2, 1, 0, 0, 0), (47, .aload_n 0, 1, 0, 0, 0), (48, .getfield 135, 3, 12, 25, 2), (51, .bipush 25, 2, 0, 0, 0), (53, .iaload, 1, 0, 0, 0), (54, .imul, 1, 0, 0, 0), (55, .iadd, 1, 0, 0, 0), (56, .iload_n 1, 1, 0, 0, 0),
  (57, .iastore, 1, 0, 0, 0), (58, .aload_n 0, 1, 0, 0, 0), (59, .getfield 135, 3, 12, 25, 2), (62, .bipush 26, 2, 0, 0, 0), (64, .iconst 2, 1, 0, 0, 0), (65, .aload_n 0, 1, 0, 0, 0), (66, .getfield 135, 3, 12, 25, 2), (69, .bipush 25, 2, 0, 0, 0),
  (71, .iaload, 1, 0, 0, 0), (72, .imul, 1, 0, 0, 0), (73, .iadd, 1, 0, 0, 0), (74, .iconst 1, 1, 0, 0, 0), (75, .iadd, 1, 0, 0, 0), (76, .iload_n 2, 1, 0, 0, 0), (77, .iastore, 1, 0, 0, 0), (78, .aload_n 0, 1, 0, 0, 0),
  (79, .getfield 135, 3, 12, 25, 2), (82, .bipush 25, 2, 0, 0, 0), (84, .dup2, 1, 0, 0, 0), (85, .iaload, 1, 0, 0, 0), (86, .iconst 1, 1, 0, 0, 0), (87, .iadd, 1, 0, 0, 0), (88, .iastore, 1, 0, 0, 0), (89, .iconst 1, 1, 0, 0, 0),
  (90, .ireturn, 1, 0, 0, 0)]
/-- SamePassersModel.laws(I)I -/
def mm_c262 : List (Nat × mm_E) := [(0, .iconst 0, 1, 0, 0, 0), (1, .istore_n 2, 1, 0, 0, 0), (2, .iconst 0, 1, 0, 0, 0), (3, .istore_n 3, 1, 0, 0, 0), (4, .iconst 0, 1, 0, 0, 0), (5, .istore 4, 2, 0, 0, 0), (7, .iconst 1, 1, 0, 0, 0), (8, .istore 5, 2, 0, 0, 0),
  (10, .iconst 0, 1, 0, 0, 0), (11, .istore 6, 2, 0, 0, 0), (13, .iload 6, 2, 0, 0, 0), (15, .bipush 10, 2, 0, 0, 0), (17, .if_icmp .ge 94, 3, 111, 0, 0), (20, .iconst 0, 1, 0, 0, 0), (21, .istore 7, 2, 0, 0, 0), (23, .iload 7, 2, 0, 0, 0),
  (25, .sipush 600, 3, 0, 0, 0), (28, .if_icmp .gt 77, 3, 105, 0, 0), (31, .aload_n 0, 1, 0, 0, 0), (32, .iload 7, 2, 0, 0, 0), (34, .iload 6, 2, 0, 0, 0), (36, .invokevirtual 460, 3, 263, 3, 2), (39, .ifCond .eq 60, 3, 99, 0, 0), (42, .iload 7, 2, 0, 0, 0),
  (44, .iload 6, 2, 0, 0, 0), (46, .iload_n 1, 1, 0, 0, 0), (47, .imul, 1, 0, 0, 0), (48, .isub, 1, 0, 0, 0), (49, .istore 8, 2, 0, 0, 0), (51, .iload_n 2, 1, 0, 0, 0), (52, .ifCond .ne 15, 3, 67, 0, 0), (55, .sipush 1000, 3, 0, 0, 0),
  (58, .iload 6, 2, 0, 0, 0), (60, .imul, 1, 0, 0, 0), (61, .iload 7, 2, 0, 0, 0), (63, .iadd, 1, 0, 0, 0), (64, .goto 4, 3, 68, 0, 0), (67, .iload_n 3, 1, 0, 0, 0), (68, .istore_n 3, 1, 0, 0, 0), (69, .iload 5, 2, 0, 0, 0),
  (71, .ifCond .eq 18, 3, 89, 0, 0), (74, .iload_n 2, 1, 0, 0, 0), (75, .ifCond .eq 10, 3, 85, 0, 0), (78, .iload 8, 2, 0, 0, 0), (80, .iload 4, 2, 0, 0, 0), (82, .if_icmp .ne 7, 3, 89, 0, 0), (85, .iconst 1, 1, 0, 0, 0), (86, .goto 4, 3, 90, 0, 0),
  (89, .iconst 0, 1, 0, 0, 0), (90, .istore 5, 2, 0, 0, 0), (92, .iload 8, 2, 0, 0, 0), (94, .istore 4, 2, 0, 0, 0), (96, .iinc 2 1, 3, 0, 0, 0), (99, .iinc 7 1, 3, 0, 0, 0), (102, .goto (-79), 3, 23, 0, 0), (105, .iinc 6 1, 3, 0, 0, 0),
  (108, .goto (-95), 3, 13, 0, 0), (111, .aload_n 0, 1, 0, 0, 0), (112, .iload_n 1, 1, 0, 0, 0), (113, .iconst (-1), 1, 0, 0, 0), (114, .if_icmp .eq 28, 3, 142, 0, 0), (117, .iload_n 2, 1, 0, 0, 0), (118, .ifCond .le 28, 3, 146, 0, 0), (121, .iload_n 1, 1, 0, 0, 0),
  (122, .bipush (-2), 2, 0, 0, 0), (124, .if_icmp .eq 18, 3, 142, 0, 0), (127, .iload_n 1, 1, 0, 0, 0), (128, .iconst 0, 1, 0, 0, 0), (129, .bipush 60, 2, 0, 0, 0), (131, .invokestatic 241, 3, 188, 3, 0), (134, .ifCond .eq 12, 3, 146, 0, 0), (137, .iload 5, 2, 0, 0, 0),
  (139, .ifCond .eq 7, 3, 146, 0, 0), (142, .iconst 0, 1, 0, 0, 0), (143, .goto 4, 3, 147, 0, 0), (146, .iconst 1, 1, 0, 0, 0), (147, .putfield 1, 3, 12, 0, 0), (150, .aload_n 0, 1, 0, 0, 0), (151, .getfield 1, 3, 12, 0, 0), (154, .ifCond .le 7, 3, 161, 0, 0),
  (157, .iconst 0, 1, 0, 0, 0), (158, .goto 24, 3, 182, 0, 0), (161, .iload_n 1, 1, 0, 0, 0), (162, .iconst (-1), 1, 0, 0, 0), (163, .if_icmp .ne 7, 3, 170, 0, 0), (166, .iload_n 2, 1, 0, 0, 0), (167, .goto 15, 3, 182, 0, 0), (170, .iload_n 1, 1, 0, 0, 0),
  (171, .bipush (-2), 2, 0, 0, 0), (173, .if_icmp .ne 7, 3, 180, 0, 0), (176, .iload_n 3, 1, 0, 0, 0), (177, .goto 5, 3, 182, 0, 0), (180, .iload 4, 2, 0, 0, 0), (182, .ireturn, 1, 0, 0, 0)]
/-- SamePassersModel.isLaw(II)Z -/
def mm_c263 : List (Nat × mm_E) := [(0, .iconst 1, 1, 0, 0, 0), (1, .istore_n 3, 1, 0, 0, 0), (2, .iconst 0, 1, 0, 0, 0), (3, .istore 4, 2, 0, 0, 0), (5, .iload 4, 2, 0, 0, 0), (7, .aload_n 0, 1, 0, 0, 0), (8, .getfield 135, 3, 12, 25, 2), (11, .bipush 25, 2, 0, 0, 0),
  (13, .iaload, 1, 0, 0, 0), (14, .if_icmp .ge 52, 3, 66, 0, 0), (17, .iload_n 3, 1, 0, 0, 0), (18, .ifCond .eq 48, 3, 66, 0, 0), (21, .iload_n 1, 1, 0, 0, 0), (22, .iload_n 2, 1, 0, 0, 0), (23, .aload_n 0, 1, 0, 0, 0), (24, .getfield 135, 3, 12, 25, 2),
  (27, .bipush 26, 2, 0, 0, 0), (29, .iconst 2, 1, 0, 0, 0), (30, .iload 4, 2, 0, 0, 0), (32, .imul, 1, 0, 0, 0), (33, .iadd, 1, 0, 0, 0), (34, .iaload, 1, 0, 0, 0), (35, .imul, 1, 0, 0, 0), (36, .isub, 1, 0, 0, 0),
  (37, .aload_n 0, 1, 0, 0, 0), (38, .getfield 135, 3, 12, 25, 2), (41, .bipush 26, 2, 0, 0, 0), (43, .iconst 2, 1, 0, 0, 0), (44, .iload 4, 2, 0, 0, 0), (46, .imul, 1, 0, 0, 0), (47, .iadd, 1, 0, 0, 0), (48, .iconst 1, 1, 0, 0, 0),
  (49, .iadd, 1, 0, 0, 0), (50, .iaload, 1, 0, 0, 0), (51, .if_icmp .ne 7, 3, 58, 0, 0), (54, .iconst 1, 1, 0, 0, 0), (55, .goto 4, 3, 59, 0, 0), (58, .iconst 0, 1, 0, 0, 0), (59, .istore_n 3, 1, 0, 0, 0), (60, .iinc 4 1, 3, 0, 0, 0),
  (63, .goto (-58), 3, 5, 0, 0), (66, .iload_n 3, 1, 0, 0, 0), (67, .ireturn, 1, 0, 0, 0)]
/-- SamePassersModel.notes(I)I -/
def mm_c264 : List (Nat × mm_E) := [(0, .aload_n 0, 1, 0, 0, 0), (1, .iconst 0, 1, 0, 0, 0), (2, .putfield 1, 3, 12, 0, 0), (5, .iload_n 1, 1, 0, 0, 0), (6, .iconst 0, 1, 0, 0, 0), (7, .bipush 30, 2, 0, 0, 0), (9, .invokestatic 241, 3, 188, 3, 0), (12, .ifCond .eq 10, 3, 22, 0, 0),
  (15, .aload_n 0, 1, 0, 0, 0), (16, .invokevirtual 338, 3, 216, 1, 2), (19, .ifCond .ne 5, 3, 24, 0, 0), (22, .iconst (-1), 1, 0, 0, 0), (23, .ireturn, 1, 0, 0, 0), (24, .iconst 0, 1, 0, 0, 0), (25, .istore_n 2, 1, 0, 0, 0), (26, .iconst 0, 1, 0, 0, 0),
  (27, .istore_n 3, 1, 0, 0, 0), (28, .iconst 1, 1, 0, 0, 0), (29, .istore 4, 2, 0, 0, 0), (31, .iload 4, 2, 0, 0, 0), (33, .iconst 1, 1, 0, 0, 0), (34, .aload_n 0, 1, 0, 0, 0), (35, .invokevirtual 335, 3, 201, 1, 2), (38, .ishl, 1, 0, 0, 0),
  (39, .if_icmp .ge 146, 3, 185, 0, 0), (42, .iconst 0, 1, 0, 0, 0), (43, .istore 5, 2, 0, 0, 0), (45, .iconst 0, 1, 0, 0, 0), (46, .istore 6, 2, 0, 0, 0), (48, .iconst 0, 1, 0, 0, 0), (49, .istore 7, 2, 0, 0, 0), (51, .iload 7, 2, 0, 0, 0),
  (53, .aload_n 0, 1, 0, 0, 0), (54, .invokevirtual 335, 3, 201, 1, 2), (57, .if_icmp .ge 79, 3, 136, 0, 0), (60, .iload 4, 2, 0, 0, 0), (62, .iload 7, 2, 0, 0, 0), (64, .ishr, 1, 0, 0, 0), (65, .iconst 1, 1, 0, 0, 0), (66, .iand, 1, 0, 0, 0),
  (67, .iconst 1, 1, 0, 0, 0), (68, .if_icmp .ne 7, 3, 75, 0, 0), (71, .iconst 1, 1, 0, 0, 0), (72, .goto 4, 3, 76, 0, 0), (75, .iconst 0, 1, 0, 0, 0), (76, .istore 8, 2, 0, 0, 0), (78, .iload 5, 2, 0, 0, 0), (80, .iload 8, 2, 0, 0, 0),
  (82, .ifCond .eq 15, 3, 97, 0, 0), (85, .iconst 1, 1, 0, 0, 0), (86, .aload_n 0, 1, 0, 0, 0), (87, .iload 7, 2, 0, 0, 0), (89, .iconst 1, 1, 0, 0, 0), (90, .invokevirtual 322, 3, 162, 3, 2), (93, .iadd, 1, 0, 0, 0), (94, .goto 4, 3, 98, 0, 0),
  (97, .iconst 0, 1, 0, 0, 0), (98, .iadd, 1, 0, 0, 0), (99, .istore 5, 2, 0, 0, 0), (101, .iload 6, 2, 0, 0, 0), (103, .iload 8, 2, 0, 0, 0), (105, .ifCond .eq 21, 3, 126, 0, 0), (108, .aload_n 0, 1, 0, 0, 0), (109, .iload 7, 2, 0, 0, 0),
  (111, .iconst 0, 1, 0, 0, 0), (112, .iconst 0, 1, 0, 0, 0), (113, .aload_n 0, 1, 0, 0, 0), (114, .getfield 135, 3, 12, 25, 2), (117, .iconst 0, 1, 0, 0, 0), (118, .iaload, 1, 0, 0, 0), (119, .iconst 0, 1, 0, 0, 0), (120, .invokevirtual 450, 3, 255, 6, 2),
  (123, .goto 4, 3, 127, 0, 0), (126, .iconst 0, 1, 0, 0, 0), (127, .iadd, 1, 0, 0, 0), (128, .istore 6, 2, 0, 0, 0), (130, .iinc 7 1, 3, 0, 0, 0), (133, .goto (-82), 3, 51, 0, 0), (136, .iload 5, 2, 0, 0, 0), (138, .iload_n 1, 1, 0, 0, 0),
  (139, .if_icmp .gt 13, 3, 152, 0, 0), (142, .iload 6, 2, 0, 0, 0), (144, .iload_n 3, 1, 0, 0, 0), (145, .if_icmp .le 7, 3, 152, 0, 0), (148, .iconst 1, 1, 0, 0, 0), (149, .goto 4, 3, 153, 0, 0), (152, .iconst 0, 1, 0, 0, 0), (153, .istore 7, 2, 0, 0, 0),
  (155, .iload 7, 2, 0, 0, 0), (157, .ifCond .eq 8, 3, 165, 0, 0), (160, .iload 4, 2, 0, 0, 0), (162, .goto 4, 3, 166, 0, 0), (165, .iload_n 2, 1, 0, 0, 0), (166, .istore_n 2, 1, 0, 0, 0), (167, .iload 7, 2, 0, 0, 0), (169, .ifCond .eq 8, 3, 177, 0, 0),
  (172, .iload 6, 2, 0, 0, 0), (174, .goto 4, 3, 178, 0, 0), (177, .iload_n 3, 1, 0, 0, 0), (178, .istore_n 3, 1, 0, 0, 0), (179, .iinc 4 1, 3, 0, 0, 0), (182, .goto (-151), 3, 31, 0, 0), (185, .iload_n 2, 1, 0, 0, 0), (186, .ireturn, 1, 0, 0, 0)]
/-- SamePassersModel.sight(IIZ)Z -/
def mm_c265 : List (Nat × mm_E) := [(0, .aload_n 0, 1, 0, 0, 0), (1, .iconst 0, 1, 0, 0, 0), (2, .putfield 1, 3, 12, 0, 0), (5, .iload_n 1, 1, 0, 0, 0), (6, .iconst 0, 1, 0, 0, 0), (7, .sipush 600, 3, 0, 0, 0), (10, .invokestatic 241, 3, 188, 3, 0), (13, .ifCond .eq 29, 3, 42, 0, 0),
  (16, .iload_n 2, 1, 0, 0, 0), (17, .iconst 0, 1, 0, 0, 0), (18, .aload_n 0, 1, 0, 0, 0), (19, .invokevirtual 347, 3, 208, 1, 2), (22, .iconst 1, 1, 0, 0, 0), (23, .isub, 1, 0, 0, 0), (24, .invokestatic 241, 3, 188, 3, 0), (27, .ifCond .eq 15, 3, 42, 0, 0),
  (30, .aload_n 0, 1, 0, 0, 0), (31, .getfield 135, 3, 12, 25, 2), (34, .bipush 46, 2, 0, 0, 0), (36, .iaload, 1, 0, 0, 0), (37, .bipush 10, 2, 0, 0, 0), (39, .if_icmp .ne 5, 3, 44, 0, 0), (42, .iconst 0, 1, 0, 0, 0), (43, .ireturn, 1, 0, 0, 0),
  (44, .bipush 47, 2, 0, 0, 0), (46, .iconst 3, 1, 0, 0, 0), (47, .aload_n 0, 1, 0, 0, 0), (48, .getfield 135, 3, 12, 25, 2), (51, .bipush 46, 2, 0, 0, 0), (53, .iaload, 1, 0, 0, 0), (54, .imul, 1, 0, 0, 0), (55, .iadd, 1, 0, 0, 0),
  (56, .istore 4, 2, 0, 0, 0), (58, .aload_n 0, 1, 0, 0, 0), (59, .getfield 135, 3, 12, 25, 2), (62, .iload 4, 2, 0, 0, 0), (64, .iload_n 1, 1, 0, 0, 0), (65, .iastore, 1, 0, 0, 0), (66, .aload_n 0, 1, 0, 0, 0), (67, .getfield 135, 3, 12, 25, 2),
  (70, .iload 4, 2, 0, 0, 0), (72, .iconst 1, 1, 0, 0, 0), (73, .iadd, 1, 0, 0, 0), (74, .iload_n 2, 1, 0, 0, 0), (75, .iastore, 1, 0, 0, 0), (76, .aload_n 0, 1, 0, 0, 0), (77, .getfield 135, 3, 12, 25, 2), (80, .iload 4, 2, 0, 0, 0),
  (82, .iconst 2, 1, 0, 0, 0), (83, .iadd, 1, 0, 0, 0), (84, .iload_n 3, 1, 0, 0, 0), (85, .ifCond .eq 7, 3, 92, 0, 0), (88, .iconst 1, 1, 0, 0, 0), (89, .goto 4, 3, 93, 0, 0), (92, .iconst 0, 1, 0, 0, 0), (93, .iastore, 1, 0, 0, 0),
  (94, .aload_n 0, 1, 0, 0, 0), (95, .getfield 135, 3, 12, 25, 2), (98, .bipush 46, 2, 0, 0, 0), (100, .dup2, 1, 0, 0, 0), (101, .iaload, 1, 0, 0, 0), (102, .iconst 1, 1, 0, 0, 0), (103, .iadd, 1, 0, 0, 0), (104, .iastore, 1, 0, 0, 0),
  (105, .iconst 1, 1, 0, 0, 0), (106, .ireturn, 1, 0, 0, 0)]
/-- SamePassersModel.hired(I)I -/
def mm_c266 : List (Nat × mm_E) := [(0, .aload_n 0, 1, 0, 0, 0), (1, .iconst 0, 1, 0, 0, 0), (2, .putfield 1, 3, 12, 0, 0), (5, .iload_n 1, 1, 0, 0, 0), (6, .iconst (-1), 1, 0, 0, 0), (7, .aload_n 0, 1, 0, 0, 0), (8, .getfield 135, 3, 12, 25, 2), (11, .bipush 46, 2, 0, 0, 0),
  (13, .iaload, 1, 0, 0, 0), (14, .iconst 1, 1, 0, 0, 0), (15, .isub, 1, 0, 0, 0), (16, .invokestatic 241, 3, 188, 3, 0), (19, .ifCond .ne 6, 3, 25, 0, 0), (22, .bipush (-2), 2, 0, 0, 0), (24, .ireturn, 1, 0, 0, 0), (25, .iconst 0, 1, 0, 0, 0),
  (26, .istore_n 2, 1, 0, 0, 0), (27, .iload_n 2, 1, 0, 0, 0), (28, .bipush 10, 2, 0, 0, 0), (30, .if_icmp .ge 17, 3, 47, 0, 0), (33, .aload_n 0, 1, 0, 0, 0), (34, .getfield 166, 3, 12, 38, 2), (37, .iload_n 2, 1, 0, 0, 0), (38, .bipush (-2), 2, 0, 0, 0),
  (40, .iastore, 1, 0, 0, 0), (41, .iinc 2 1, 3, 0, 0, 0), (44, .goto (-17), 3, 27, 0, 0), (47, .aload_n 0, 1, 0, 0, 0), (48, .invokevirtual 475, 3, 267, 1, 2), (51, .istore_n 2, 1, 0, 0, 0), (52, .iload_n 1, 1, 0, 0, 0), (53, .ifCond .ge 13, 3, 66, 0, 0),
  (56, .aload_n 0, 1, 0, 0, 0), (57, .getfield 135, 3, 12, 25, 2), (60, .bipush 46, 2, 0, 0, 0), (62, .iaload, 1, 0, 0, 0), (63, .iload_n 2, 1, 0, 0, 0), (64, .isub, 1, 0, 0, 0), (65, .ireturn, 1, 0, 0, 0), (66, .aload_n 0, 1, 0, 0, 0),
  (67, .iload_n 2, 1, 0, 0, 0), (68, .invokevirtual 478, 3, 271, 2, 2), (71, .aload_n 0, 1, 0, 0, 0), (72, .getfield 166, 3, 12, 38, 2), (75, .iload_n 1, 1, 0, 0, 0), (76, .iaload, 1, 0, 0, 0), (77, .ireturn, 1, 0, 0, 0)]
/-- SamePassersModel.matched()I -/
def mm_c267 : List (Nat × mm_E) := [(0, .iconst 0, 1, 0, 0, 0), (1, .istore_n 1, 1, 0, 0, 0), (2, .iconst 0, 1, 0, 0, 0), (3, .istore_n 2, 1, 0, 0, 0), (4, .iload_n 2, 1, 0, 0, 0), (5, .bipush 10, 2, 0, 0, 0), (7, .if_icmp .ge 16, 3, 23, 0, 0), (10, .aload_n 0, 1, 0, 0, 0),
  (11, .getfield 160, 3, 12, 36, 2), (14, .iload_n 2, 1, 0, 0, 0), (15, .iconst (-1), 1, 0, 0, 0), (16, .iastore, 1, 0, 0, 0), (17, .iinc 2 1, 3, 0, 0, 0), (20, .goto (-16), 3, 4, 0, 0), (23, .iconst 0, 1, 0, 0, 0), (24, .istore_n 2, 1, 0, 0, 0),
  (25, .iload_n 2, 1, 0, 0, 0), (26, .aload_n 0, 1, 0, 0, 0), (27, .getfield 135, 3, 12, 25, 2), (30, .bipush 46, 2, 0, 0, 0), (32, .iaload, 1, 0, 0, 0), (33, .if_icmp .ge 46, 3, 79, 0, 0), (36, .iconst 0, 1, 0, 0, 0), (37, .istore_n 3, 1, 0, 0, 0),
  (38, .iload_n 3, 1, 0, 0, 0), (39, .bipush 10, 2, 0, 0, 0), (41, .if_icmp .ge 16, 3, 57, 0, 0), (44, .aload_n 0, 1, 0, 0, 0), (45, .getfield 163, 3, 12, 37, 2), (48, .iload_n 3, 1, 0, 0, 0), (49, .iconst 0, 1, 0, 0, 0), (50, .bastore, 1, 0, 0, 0),
  (51, .iinc 3 1, 3, 0, 0, 0), (54, .goto (-16), 3, 38, 0, 0), (57, .iload_n 1, 1, 0, 0, 0), (58, .aload_n 0, 1, 0, 0, 0), (59, .iload_n 2, 1, 0, 0, 0), (60, .invokevirtual 469, 3, 268, 2, 2), (63, .ifCond .eq 7, 3, 70, 0, 0), (66, .iconst 1, 1, 0, 0, 0),
  (67, .goto 4, 3, 71, 0, 0), (70, .iconst 0, 1, 0, 0, 0), (71, .iadd, 1, 0, 0, 0), (72, .istore_n 1, 1, 0, 0, 0), (73, .iinc 2 1, 3, 0, 0, 0), (76, .goto (-51), 3, 25, 0, 0), (79, .iload_n 1, 1, 0, 0, 0), (80, .ireturn, 1, 0, 0, 0)]
/-- SamePassersModel.finds(I)Z -/
def mm_c268 : List (Nat × mm_E) := [(0, .iconst 0, 1, 0, 0, 0), (1, .istore_n 2, 1, 0, 0, 0), (2, .iload_n 2, 1, 0, 0, 0), (3, .aload_n 0, 1, 0, 0, 0), (4, .getfield 135, 3, 12, 25, 2), (7, .bipush 46, 2, 0, 0, 0), (9, .iaload, 1, 0, 0, 0), (10, .if_icmp .ge 65, 3, 75, 0, 0),
  (13, .aload_n 0, 1, 0, 0, 0), (14, .getfield 163, 3, 12, 37, 2), (17, .iload_n 2, 1, 0, 0, 0), (18, .baload, 1, 0, 0, 0), (19, .ifCond .ne 50, 3, 69, 0, 0), (22, .aload_n 0, 1, 0, 0, 0), (23, .iload_n 1, 1, 0, 0, 0), (24, .iload_n 2, 1, 0, 0, 0),
  (25, .invokevirtual 466, 3, 269, 3, 2), (28, .ifCond .eq 41, 3, 69, 0, 0), (31, .aload_n 0, 1, 0, 0, 0), (32, .getfield 163, 3, 12, 37, 2), (35, .iload_n 2, 1, 0, 0, 0), (36, .iconst 1, 1, 0, 0, 0), (37, .bastore, 1, 0, 0, 0), (38, .aload_n 0, 1, 0, 0, 0),
  (39, .getfield 160, 3, 12, 36, 2), (42, .iload_n 2, 1, 0, 0, 0), (43, .iaload, 1, 0, 0, 0), (44, .ifCond .lt 16, 3, 60, 0, 0), (47, .aload_n 0, 1, 0, 0, 0), (48, .aload_n 0, 1, 0, 0, 0), (49, .getfield 160, 3, 12, 36, 2), (52, .iload_n 2, 1, 0, 0, 0),
  (53, .iaload, 1, 0, 0, 0), (54, .invokevirtual 469, 3, 268, 2, 2), (57, .ifCond .eq 12, 3, 69, 0, 0), (60, .aload_n 0, 1, 0, 0, 0), (61, .getfield 160, 3, 12, 36, 2), (64, .iload_n 2, 1, 0, 0, 0), (65, .iload_n 1, 1, 0, 0, 0), (66, .iastore, 1, 0, 0, 0),
  (67, .iconst 1, 1, 0, 0, 0), (68, .ireturn, 1, 0, 0, 0), (69, .iinc 2 1, 3, 0, 0, 0), (72, .goto (-70), 3, 2, 0, 0), (75, .iconst 0, 1, 0, 0, 0), (76, .ireturn, 1, 0, 0, 0)]
/-- SamePassersModel.mayBe(II)Z -/
def mm_c269 : List (Nat × mm_E) := [(0, .aload_n 0, 1, 0, 0, 0), (1, .getfield 166, 3, 12, 38, 2), (4, .iload_n 1, 1, 0, 0, 0), (5, .iaload, 1, 0, 0, 0), (6, .bipush (-2), 2, 0, 0, 0), (8, .if_icmp .ne 12, 3, 20, 0, 0), (11, .aload_n 0, 1, 0, 0, 0), (12, .iload_n 1, 1, 0, 0, 0),
  (13, .iload_n 2, 1, 0, 0, 0), (14, .invokevirtual 463, 3, 270, 3, 2), (17, .goto 18, 3, 35, 0, 0), (20, .aload_n 0, 1, 0, 0, 0), (21, .getfield 166, 3, 12, 38, 2), (24, .iload_n 1, 1, 0, 0, 0), (25, .iaload, 1, 0, 0, 0), (26, .iload_n 2, 1, 0, 0, 0),
  (27, .if_icmp .ne 7, 3, 34, 0, 0), (30, .iconst 1, 1, 0, 0, 0), (31, .goto 4, 3, 35, 0, 0), (34, .iconst 0, 1, 0, 0, 0), (35, .ireturn, 1, 0, 0, 0)]
/-- SamePassersModel.canFollow(II)Z -/
def mm_c270 : List (Nat × mm_E) := [(0, .bipush 47, 2, 0, 0, 0), (2, .iconst 3, 1, 0, 0, 0), (3, .iload_n 1, 1, 0, 0, 0), (4, .imul, 1, 0, 0, 0), (5, .iadd, 1, 0, 0, 0), (6, .istore_n 3, 1, 0, 0, 0), (7, .bipush 47, 2, 0, 0, 0), (9, .iconst 3, 1, 0, 0, 0),
  (10, .iload_n 2, 1, 0, 0, 0), (11, .imul, 1, 0, 0, 0), (12, .iadd, 1, 0, 0, 0), (13, .istore 4, 2, 0, 0, 0), (15, .aload_n 0, 1, 0, 0, 0), (16, .getfield 135, 3, 12, 25, 2), (19, .iload 4, 2, 0, 0, 0), (21, .iaload, 1, 0, 0, 0),
  (22, .aload_n 0, 1, 0, 0, 0), (23, .getfield 135, 3, 12, 25, 2), (26, .iload_n 3, 1, 0, 0, 0), (27, .iaload, 1, 0, 0, 0), (28, .isub, 1, 0, 0, 0), (29, .istore 5, 2, 0, 0, 0), (31, .aload_n 0, 1, 0, 0, 0), (32, .getfield 135, 3, 12, 25, 2),
  (35, .iload_n 3, 1, 0, 0, 0), (36, .iconst 2, 1, 0, 0, 0), (37, .iadd, 1, 0, 0, 0), (38, .iaload, 1, 0, 0, 0), (39, .iconst 1, 1, 0, 0, 0), (40, .if_icmp .ne 24, 3, 64, 0, 0), (43, .aload_n 0, 1, 0, 0, 0), (44, .getfield 135, 3, 12, 25, 2),
  (47, .iload 4, 2, 0, 0, 0), (49, .iconst 1, 1, 0, 0, 0), (50, .iadd, 1, 0, 0, 0), (51, .iaload, 1, 0, 0, 0), (52, .aload_n 0, 1, 0, 0, 0), (53, .getfield 135, 3, 12, 25, 2), (56, .iload_n 3, 1, 0, 0, 0), (57, .iconst 1, 1, 0, 0, 0),
  (58, .iadd, 1, 0, 0, 0), (59, .iaload, 1, 0, 0, 0), (60, .isub, 1, 0, 0, 0), (61, .goto 21, 3, 82, 0, 0), (64, .aload_n 0, 1, 0, 0, 0), (65, .getfield 135, 3, 12, 25, 2), (68, .iload_n 3, 1, 0, 0, 0), (69, .iconst 1, 1, 0, 0, 0),
  (70, .iadd, 1, 0, 0, 0), (71, .iaload, 1, 0, 0, 0), (72, .aload_n 0, 1, 0, 0, 0), (73, .getfield 135, 3, 12, 25, 2), (76, .iload 4, 2, 0, 0, 0), (78, .iconst 1, 1, 0, 0, 0), (79, .iadd, 1, 0, 0, 0), (80, .iaload, 1, 0, 0, 0),
  (81, .isub, 1, 0, 0, 0), (82, .istore 6, 2, 0, 0, 0), (84, .iload 6, 2, 0, 0, 0), (86, .iconst 1, 1, 0, 0, 0), (87, .if_icmp .lt 22, 3, 109, 0, 0), (90, .iload 5, 2, 0, 0, 0), (92, .iload 6, 2, 0, 0, 0), (94, .bipush 9, 2, 0, 0, 0),
  (96, .iload 6, 2, 0, 0, 0), (98, .imul, 1, 0, 0, 0), (99, .invokestatic 241, 3, 188, 3, 0), (102, .ifCond .eq 7, 3, 109, 0, 0), (105, .iconst 1, 1, 0, 0, 0), (106, .goto 4, 3, 110, 0, 0), (109, .iconst 0, 1, 0, 0, 0), (110, .istore 7, 2, 0, 0, 0),
  (112, .iload 6, 2, 0, 0, 0), (114, .aload_n 0, 1, 0, 0, 0), (115, .invokevirtual 347, 3, 208, 1, 2), (118, .iadd, 1, 0, 0, 0), (119, .istore 8, 2, 0, 0, 0), (121, .iload 5, 2, 0, 0, 0), (123, .aload_n 0, 1, 0, 0, 0), (124, .getfield 105, 3, 12, 10, 2),
  (127, .bipush 8, 2, 0, 0, 0), (129, .iaload, 1, 0, 0, 0), (130, .isub, 1, 0, 0, 0), (131, .iload 8, 2, 0, 0, 0), (133, .bipush 9, 2, 0, 0, 0), (135, .iload 8, 2, 0, 0, 0), (137, .imul, 1, 0, 0, 0), (138, .invokestatic 241, 3, 188, 3, 0),
  (141, .istore 9, 2, 0, 0, 0), (143, .iload 5, 2, 0, 0, 0), (145, .ifCond .le 37, 3, 182, 0, 0), (148, .aload_n 0, 1, 0, 0, 0), (149, .getfield 135, 3, 12, 25, 2), (152, .iload_n 3, 1, 0, 0, 0), (153, .iconst 2, 1, 0, 0, 0), (154, .iadd, 1, 0, 0, 0),
  (155, .iaload, 1, 0, 0, 0), (156, .aload_n 0, 1, 0, 0, 0), (157, .getfield 135, 3, 12, 25, 2), (160, .iload 4, 2, 0, 0, 0), (162, .iconst 2, 1, 0, 0, 0), (163, .iadd, 1, 0, 0, 0), (164, .iaload, 1, 0, 0, 0), (165, .if_icmp .ne 17, 3, 182, 0, 0),
  (168, .iload 7, 2, 0, 0, 0), (170, .ifCond .ne 8, 3, 178, 0, 0), (173, .iload 9, 2, 0, 0, 0), (175, .ifCond .eq 7, 3, 182, 0, 0), (178, .iconst 1, 1, 0, 0, 0), (179, .goto 4, 3, 183, 0, 0), (182, .iconst 0, 1, 0, 0, 0), (183, .ireturn, 1, 0, 0, 0)]
/-- SamePassersModel.laysNext(I)V -/
def mm_c271 : List (Nat × mm_E) := [(0, .iconst 0, 1, 0, 0, 0), (1, .istore_n 2, 1, 0, 0, 0), (2, .iload_n 2, 1, 0, 0, 0), (3, .aload_n 0, 1, 0, 0, 0), (4, .getfield 135, 3, 12, 25, 2), (7, .bipush 46, 2, 0, 0, 0), (9, .iaload, 1, 0, 0, 0), (10, .if_icmp .ge 98, 3, 108, 0, 0),
  (13, .iconst 0, 1, 0, 0, 0), (14, .istore_n 3, 1, 0, 0, 0), (15, .iconst 0, 1, 0, 0, 0), (16, .istore 4, 2, 0, 0, 0), (18, .iload 4, 2, 0, 0, 0), (20, .aload_n 0, 1, 0, 0, 0), (21, .getfield 135, 3, 12, 25, 2), (24, .bipush 46, 2, 0, 0, 0),
  (26, .iaload, 1, 0, 0, 0), (27, .if_icmp .ge 55, 3, 82, 0, 0), (30, .iload_n 3, 1, 0, 0, 0), (31, .ifCond .ne 51, 3, 82, 0, 0), (34, .aload_n 0, 1, 0, 0, 0), (35, .iload_n 2, 1, 0, 0, 0), (36, .iload 4, 2, 0, 0, 0), (38, .invokevirtual 463, 3, 270, 3, 2),
  (41, .ifCond .eq 35, 3, 76, 0, 0), (44, .aload_n 0, 1, 0, 0, 0), (45, .iload_n 2, 1, 0, 0, 0), (46, .iload 4, 2, 0, 0, 0), (48, .invokevirtual 472, 3, 272, 3, 2), (51, .ifCond .ne 25, 3, 76, 0, 0), (54, .aload_n 0, 1, 0, 0, 0), (55, .getfield 166, 3, 12, 38, 2),
  (58, .iload_n 2, 1, 0, 0, 0), (59, .iload 4, 2, 0, 0, 0), (61, .iastore, 1, 0, 0, 0), (62, .aload_n 0, 1, 0, 0, 0), (63, .invokevirtual 475, 3, 267, 1, 2), (66, .iload_n 1, 1, 0, 0, 0), (67, .if_icmp .ne 7, 3, 74, 0, 0), (70, .iconst 1, 1, 0, 0, 0),
  (71, .goto 4, 3, 75, 0, 0), (74, .iconst 0, 1, 0, 0, 0), (75, .istore_n 3, 1, 0, 0, 0), (76, .iinc 4 1, 3, 0, 0, 0), (79, .goto (-61), 3, 18, 0, 0), (82, .aload_n 0, 1, 0, 0, 0), (83, .getfield 166, 3, 12, 38, 2), (86, .iload_n 2, 1, 0, 0, 0),
  (87, .iload_n 3, 1, 0, 0, 0), (88, .ifCond .eq 12, 3, 100, 0, 0), (91, .aload_n 0, 1, 0, 0, 0), (92, .getfield 166, 3, 12, 38, 2), (95, .iload_n 2, 1, 0, 0, 0), (96, .iaload, 1, 0, 0, 0), (97, .goto 4, 3, 101, 0, 0), (100, .iconst (-1), 1, 0, 0, 0),
  (101, .iastore, 1, 0, 0, 0), (102, .iinc 2 1, 3, 0, 0, 0), (105, .goto (-103), 3, 2, 0, 0), (108, .return_, 1, 0, 0, 0)]
/-- SamePassersModel.isTaken(II)Z -/
def mm_c272 : List (Nat × mm_E) := [(0, .iconst 0, 1, 0, 0, 0), (1, .istore_n 3, 1, 0, 0, 0), (2, .iconst 0, 1, 0, 0, 0), (3, .istore 4, 2, 0, 0, 0), (5, .iload 4, 2, 0, 0, 0), (7, .iload_n 1, 1, 0, 0, 0), (8, .if_icmp .ge 30, 3, 38, 0, 0), (11, .iload_n 3, 1, 0, 0, 0),
  (12, .ifCond .ne 14, 3, 26, 0, 0), (15, .aload_n 0, 1, 0, 0, 0), (16, .getfield 166, 3, 12, 38, 2), (19, .iload 4, 2, 0, 0, 0), (21, .iaload, 1, 0, 0, 0), (22, .iload_n 2, 1, 0, 0, 0), (23, .if_icmp .ne 7, 3, 30, 0, 0), (26, .iconst 1, 1, 0, 0, 0),
  (27, .goto 4, 3, 31, 0, 0), (30, .iconst 0, 1, 0, 0, 0), (31, .istore_n 3, 1, 0, 0, 0), (32, .iinc 4 1, 3, 0, 0, 0), (35, .goto (-30), 3, 5, 0, 0), (38, .iload_n 3, 1, 0, 0, 0), (39, .ireturn, 1, 0, 0, 0)]
/-- SamePassersModel.days(III)I -/
def mm_c273 : List (Nat × mm_E) := [(0, .aload_n 0, 1, 0, 0, 0), (1, .iconst 0, 1, 0, 0, 0), (2, .putfield 1, 3, 12, 0, 0), (5, .iload_n 1, 1, 0, 0, 0), (6, .iconst 0, 1, 0, 0, 0), (7, .sipush 9999, 3, 0, 0, 0), (10, .invokestatic 241, 3, 188, 3, 0), (13, .ifCond .eq 22, 3, 35, 0, 0),
  (16, .iload_n 2, 1, 0, 0, 0), (17, .iconst 1, 1, 0, 0, 0), (18, .bipush 20, 2, 0, 0, 0), (20, .invokestatic 241, 3, 188, 3, 0), (23, .ifCond .eq 12, 3, 35, 0, 0), (26, .iload_n 3, 1, 0, 0, 0), (27, .iconst 0, 1, 0, 0, 0), (28, .iconst 2, 1, 0, 0, 0),
  (29, .invokestatic 241, 3, 188, 3, 0), (32, .ifCond .ne 5, 3, 37, 0, 0), (35, .iconst (-1), 1, 0, 0, 0), (36, .ireturn, 1, 0, 0, 0), (37, .aload_n 0, 1, 0, 0, 0), (38, .iconst 0, 1, 0, 0, 0), (39, .sipush 1760, 3, 0, 0, 0), (42, .bipush 25, 2, 0, 0, 0),
  (44, .invokevirtual 331, 3, 219, 4, 2), (47, .aload_n 0, 1, 0, 0, 0), (48, .iload_n 1, 1, 0, 0, 0), (49, .i2l, 1, 0, 0, 0), (50, .putfield 481, 3, 12, 39, 1), (53, .iconst 0, 1, 0, 0, 0), (54, .istore 4, 2, 0, 0, 0), (56, .iconst 0, 1, 0, 0, 0),
  (57, .istore 5, 2, 0, 0, 0), (59, .iconst 0, 1, 0, 0, 0), (60, .istore 6, 2, 0, 0, 0), (62, .iconst 0, 1, 0, 0, 0), (63, .istore 7, 2, 0, 0, 0), (65, .iconst 0, 1, 0, 0, 0), (66, .istore 8, 2, 0, 0, 0), (68, .iload 8, 2, 0, 0, 0),
  (70, .iload_n 2, 1, 0, 0, 0), (71, .if_icmp .ge 150, 3, 221, 0, 0), (74, .iconst 0, 1, 0, 0, 0), (75, .istore 9, 2, 0, 0, 0), (77, .iload 9, 2, 0, 0, 0), (79, .aload_n 0, 1, 0, 0, 0), (80, .invokevirtual 335, 3, 201, 1, 2), (83, .if_icmp .ge 42, 3, 125, 0, 0),
  (86, .aload_n 0, 1, 0, 0, 0), (87, .getfield 135, 3, 12, 25, 2), (90, .sipush 1777, 3, 0, 0, 0), (93, .iload 9, 2, 0, 0, 0), (95, .iadd, 1, 0, 0, 0), (96, .aload_n 0, 1, 0, 0, 0), (97, .bipush 10, 2, 0, 0, 0), (99, .invokevirtual 493, 3, 274, 2, 2),
  (102, .iconst 2, 1, 0, 0, 0), (103, .if_icmp .ge 14, 3, 117, 0, 0), (106, .aload_n 0, 1, 0, 0, 0), (107, .bipush 9, 2, 0, 0, 0), (109, .invokevirtual 493, 3, 274, 2, 2), (112, .iconst 1, 1, 0, 0, 0), (113, .iadd, 1, 0, 0, 0), (114, .goto 4, 3, 118, 0, 0),
  (117, .iconst 0, 1, 0, 0, 0), (118, .iastore, 1, 0, 0, 0), (119, .iinc 9 1, 3, 0, 0, 0), (122, .goto (-45), 3, 77, 0, 0), (125, .aload_n 0, 1, 0, 0, 0), (126, .sipush 1760, 3, 0, 0, 0), (129, .invokevirtual 401, 3, 227, 2, 2), (132, .istore 9, 2, 0, 0, 0),
  (134, .iload 4, 2, 0, 0, 0), (136, .aload_n 0, 1, 0, 0, 0), (137, .sipush 1760, 3, 0, 0, 0), (140, .invokevirtual 407, 3, 226, 2, 2), (143, .ifCond .eq 7, 3, 150, 0, 0), (146, .iconst 1, 1, 0, 0, 0), (147, .goto 4, 3, 151, 0, 0), (150, .iconst 0, 1, 0, 0, 0),
  (151, .iadd, 1, 0, 0, 0), (152, .istore 4, 2, 0, 0, 0), (154, .iload 5, 2, 0, 0, 0), (156, .iload 9, 2, 0, 0, 0), (158, .iadd, 1, 0, 0, 0), (159, .istore 5, 2, 0, 0, 0), (161, .iload 8, 2, 0, 0, 0), (163, .ifCond .eq 10, 3, 173, 0, 0),
  (166, .iload 9, 2, 0, 0, 0), (168, .iload 7, 2, 0, 0, 0), (170, .if_icmp .ge 8, 3, 178, 0, 0), (173, .iload 8, 2, 0, 0, 0), (175, .goto 5, 3, 180, 0, 0), (178, .iload 6, 2, 0, 0, 0), (180, .istore 6, 2, 0, 0, 0), (182, .iload 8, 2, 0, 0, 0),
  (184, .ifCond .eq 10, 3, 194, 0, 0), (187, .iload 9, 2, 0, 0, 0), (189, .iload 7, 2, 0, 0, 0), (191, .if_icmp .ge 8, 3, 199, 0, 0), (194, .iload 9, 2, 0, 0, 0), (196, .goto 5, 3, 201, 0, 0), (199, .iload 7, 2, 0, 0, 0), (201, .istore 7, 2, 0, 0, 0),
  (203, .aload_n 0, 1, 0, 0, 0), (204, .getfield 135, 3, 12, 25, 2), (207, .sipush 1760, 3, 0, 0, 0), (210, .dup2, 1, 0, 0, 0), (211, .iaload, 1, 0, 0, 0), (212, .iconst 1, 1, 0, 0, 0), (213, .iadd, 1, 0, 0, 0), (214, .iastore, 1, 0, 0, 0),
  (215, .iinc 8 1, 3, 0, 0, 0), (218, .goto (-150), 3, 68, 0, 0), (221, .iload_n 3, 1, 0, 0, 0), (222, .ifCond .ne 8, 3, 230, 0, 0), (225, .iload 4, 2, 0, 0, 0), (227, .goto 15, 3, 242, 0, 0), (230, .iload_n 3, 1, 0, 0, 0), (231, .iconst 1, 1, 0, 0, 0),
  (232, .if_icmp .ne 8, 3, 240, 0, 0), (235, .iload 5, 2, 0, 0, 0), (237, .goto 5, 3, 242, 0, 0), (240, .iload 6, 2, 0, 0, 0), (242, .ireturn, 1, 0, 0, 0)]
/-- SamePassersModel.draw(I)I -/
def mm_c274 : List (Nat × mm_E) := [(0, .aload_n 0, 1, 0, 0, 0), (1, .aload_n 0, 1, 0, 0, 0), (2, .getfield 481, 3, 12, 39, 1), (5, .ldc2_w 485, 3, 1, 0, 1103515245), (8, .lmul, 1, 0, 0, 0), (9, .ldc2_w 487, 3, 1, 0, 12345), (12, .ladd, 1, 0, 0, 0), (13, .ldc2_w 489, 3, 1, 0, 2147483648),
  (16, .lrem, 1, 0, 0, 0), (17, .putfield 481, 3, 12, 39, 1), (20, .aload_n 0, 1, 0, 0, 0), (21, .getfield 481, 3, 12, 39, 1), (24, .ldc2_w 491, 3, 1, 0, 65536), (27, .ldiv, 1, 0, 0, 0), (28, .iload_n 1, 1, 0, 0, 0), (29, .i2l, 1, 0, 0, 0),
  (30, .lrem, 1, 0, 0, 0), (31, .l2i, 1, 0, 0, 0), (32, .ireturn, 1, 0, 0, 0)]
/-- SamePassersModel.mark(IZ)Z -/
def mm_c275 : List (Nat × mm_E) := [(0, .aload_n 0, 1, 0, 0, 0), (1, .iconst 0, 1, 0, 0, 0), (2, .putfield 1, 3, 12, 0, 0), (5, .iload_n 1, 1, 0, 0, 0), (6, .iconst 0, 1, 0, 0, 0), (7, .iconst 3, 1, 0, 0, 0), (8, .invokestatic 241, 3, 188, 3, 0), (11, .ifCond .eq 16, 3, 27, 0, 0),
  (14, .iload_n 2, 1, 0, 0, 0), (15, .ifCond .eq 14, 3, 29, 0, 0), (18, .aload_n 0, 1, 0, 0, 0), (19, .getfield 138, 3, 12, 27, 2), (22, .iload_n 1, 1, 0, 0, 0), (23, .baload, 1, 0, 0, 0), (24, .ifCond .ne 5, 3, 29, 0, 0), (27, .iconst 0, 1, 0, 0, 0),
  (28, .ireturn, 1, 0, 0, 0), (29, .aload_n 0, 1, 0, 0, 0), (30, .getfield 138, 3, 12, 27, 2), (33, .iload_n 1, 1, 0, 0, 0), (34, .iconst 1, 1, 0, 0, 0), (35, .bastore, 1, 0, 0, 0), (36, .aload_n 0, 1, 0, 0, 0), (37, .iload_n 2, 1, 0, 0, 0),
  (38, .ifCond .eq 12, 3, 50, 0, 0), (41, .bipush 80, 2, 0, 0, 0), (43, .iconst 1, 1, 0, 0, 0), (44, .iload_n 1, 1, 0, 0, 0), (45, .iadd, 1, 0, 0, 0), (46, .imul, 1, 0, 0, 0), (47, .goto 4, 3, 51, 0, 0), (50, .iconst 0, 1, 0, 0, 0),
  (51, .iload_n 2, 1, 0, 0, 0), (52, .ifCond .eq 7, 3, 59, 0, 0), (55, .iconst 0, 1, 0, 0, 0), (56, .goto 9, 3, 65, 0, 0), (59, .bipush 80, 2, 0, 0, 0), (61, .iconst 1, 1, 0, 0, 0), (62, .iload_n 1, 1, 0, 0, 0), (63, .iadd, 1, 0, 0, 0),
  (64, .imul, 1, 0, 0, 0), (65, .bipush 80, 2, 0, 0, 0), (67, .invokevirtual 331, 3, 219, 4, 2), (70, .aload_n 0, 1, 0, 0, 0), (71, .iload_n 2, 1, 0, 0, 0), (72, .ifCond .eq 7, 3, 79, 0, 0), (75, .iconst 0, 1, 0, 0, 0), (76, .goto 7, 3, 83, 0, 0),
  (79, .aload_n 0, 1, 0, 0, 0), (80, .getfield 328, 3, 12, 26, 0), (83, .putfield 328, 3, 12, 26, 0), (86, .iconst 1, 1, 0, 0, 0), (87, .ireturn, 1, 0, 0, 0)]
/-- SamePassersModel.count(I)I -/
def mm_c276 : List (Nat × mm_E) := [(0, .aload_n 0, 1, 0, 0, 0), (1, .iconst 0, 1, 0, 0, 0), (2, .putfield 1, 3, 12, 0, 0), (5, .iload_n 1, 1, 0, 0, 0), (6, .tableswitch 133 0 11 #[62, 67, 72, 77, 82, 87, 94, 101, 109, 117, 122, 127], 62, 0, 0, 0), (68, .aload_n 0, 1, 0, 0, 0), (69, .invokevirtual 347, 3, 208, 1, 2), (72, .ireturn, 1, 0, 0, 0),
  (73, .aload_n 0, 1, 0, 0, 0), (74, .invokevirtual 415, 3, 242, 1, 2), (77, .ireturn, 1, 0, 0, 0), (78, .aload_n 0, 1, 0, 0, 0), (79, .invokevirtual 338, 3, 216, 1, 2), (82, .ireturn, 1, 0, 0, 0), (83, .aload_n 0, 1, 0, 0, 0), (84, .invokevirtual 335, 3, 201, 1, 2),
  (87, .ireturn, 1, 0, 0, 0), (88, .aload_n 0, 1, 0, 0, 0), (89, .invokevirtual 394, 3, 228, 1, 2), (92, .ireturn, 1, 0, 0, 0), (93, .aload_n 0, 1, 0, 0, 0), (94, .getfield 135, 3, 12, 25, 2), (97, .iconst 0, 1, 0, 0, 0), (98, .iaload, 1, 0, 0, 0),
  (99, .ireturn, 1, 0, 0, 0), (100, .aload_n 0, 1, 0, 0, 0), (101, .getfield 126, 3, 12, 22, 2), (104, .iconst 0, 1, 0, 0, 0), (105, .iaload, 1, 0, 0, 0), (106, .ireturn, 1, 0, 0, 0), (107, .aload_n 0, 1, 0, 0, 0), (108, .getfield 135, 3, 12, 25, 2),
  (111, .bipush 25, 2, 0, 0, 0), (113, .iaload, 1, 0, 0, 0), (114, .ireturn, 1, 0, 0, 0), (115, .aload_n 0, 1, 0, 0, 0), (116, .getfield 135, 3, 12, 25, 2), (119, .bipush 46, 2, 0, 0, 0), (121, .iaload, 1, 0, 0, 0), (122, .ireturn, 1, 0, 0, 0),
  (123, .aload_n 0, 1, 0, 0, 0), (124, .getfield 328, 3, 12, 26, 0), (127, .ireturn, 1, 0, 0, 0), (128, .aload_n 0, 1, 0, 0, 0), (129, .getfield 11, 3, 12, 2, 0), (132, .ireturn, 1, 0, 0, 0), (133, .aload_n 0, 1, 0, 0, 0), (134, .iconst 0, 1, 0, 0, 0),
  (135, .invokevirtual 401, 3, 227, 2, 2), (138, .ireturn, 1, 0, 0, 0), (139, .iconst (-1), 1, 0, 0, 0), (140, .ireturn, 1, 0, 0, 0)]
/-- SamePassersLaw.law([I)Z -/
def mm_c277 : List (Nat × mm_E) := [(0, .new 8, 3, 11, 0, 0), (3, .dup, 1, 0, 0, 0), (4, .invokespecial 15, 3, 99, 1, 3), (7, .astore_n 1, 1, 0, 0, 0), (8, .new 16, 3, 12, 0, 0), (11, .dup, 1, 0, 0, 0), (12, .invokespecial 18, 3, 158, 1, 3), (15, .astore_n 2, 1, 0, 0, 0),
  (16, .iconst 1, 1, 0, 0, 0), (17, .newarray .long, 2, 0, 0, 0), (19, .astore_n 3, 1, 0, 0, 0), (20, .iconst 0, 1, 0, 0, 0), (21, .istore 4, 2, 0, 0, 0), (23, .iload 4, 2, 0, 0, 0), (25, .aload_n 0, 1, 0, 0, 0), (26, .arraylength, 1, 0, 0, 0),
  (27, .bipush 7, 2, 0, 0, 0), (29, .isub, 1, 0, 0, 0), (30, .if_icmp .gt 1449, 3, 1479, 0, 0), (33, .aload_n 0, 1, 0, 0, 0), (34, .iload 4, 2, 0, 0, 0), (36, .iaload, 1, 0, 0, 0), (37, .bipush 63, 2, 0, 0, 0), (39, .iand, 1, 0, 0, 0),
  (40, .tableswitch 1433 0 34 #[156, 303, 316, 329, 366, 391, 428, 453, 490, 503, 516, 541, 578, 615, 652, 665, 690, 727, 740, 777, 802, 875, 912, 950, 963, 1000, 1049, 1086, 1142, 1167, 1216, 1281, 1306, 1355, 1408], 156, 0, 0, 0), (196, .aload_n 1, 1, 0, 0, 0), (197, .aload_n 0, 1, 0, 0, 0), (198, .iload 4, 2, 0, 0, 0), (200, .iconst 1, 1, 0, 0, 0), (201, .iadd, 1, 0, 0, 0), (202, .iaload, 1, 0, 0, 0), (203, .i2l, 1, 0, 0, 0),
  (204, .bipush 32, 2, 0, 0, 0), (206, .lshl, 1, 0, 0, 0), (207, .aload_n 0, 1, 0, 0, 0), (208, .iload 4, 2, 0, 0, 0), (210, .iconst 2, 1, 0, 0, 0), (211, .iadd, 1, 0, 0, 0), (212, .iaload, 1, 0, 0, 0), (213, .i2l, 1, 0, 0, 0),
  (214, .ldc2_w 19, 3, 1, 0, 4294967295), (217, .land, 1, 0, 0, 0), (218, .lor, 1, 0, 0, 0), (219, .aload_n 0, 1, 0, 0, 0), (220, .iload 4, 2, 0, 0, 0), (222, .iconst 3, 1, 0, 0, 0), (223, .iadd, 1, 0, 0, 0), (224, .iaload, 1, 0, 0, 0),
  (225, .i2l, 1, 0, 0, 0), (226, .bipush 32, 2, 0, 0, 0), (228, .lshl, 1, 0, 0, 0), (229, .aload_n 0, 1, 0, 0, 0), (230, .iload 4, 2, 0, 0, 0), (232, .iconst 4, 1, 0, 0, 0), (233, .iadd, 1, 0, 0, 0), (234, .iaload, 1, 0, 0, 0),
  (235, .i2l, 1, 0, 0, 0), (236, .ldc2_w 19, 3, 1, 0, 4294967295), (239, .land, 1, 0, 0, 0), (240, .lor, 1, 0, 0, 0), (241, .aload_n 0, 1, 0, 0, 0), (242, .iload 4, 2, 0, 0, 0), (244, .iconst 5, 1, 0, 0, 0), (245, .iadd, 1, 0, 0, 0),
  (246, .iaload, 1, 0, 0, 0), (247, .i2l, 1, 0, 0, 0), (248, .bipush 32, 2, 0, 0, 0), (250, .lshl, 1, 0, 0, 0), (251, .aload_n 0, 1, 0, 0, 0), (252, .iload 4, 2, 0, 0, 0), (254, .bipush 6, 2, 0, 0, 0), (256, .iadd, 1, 0, 0, 0),
  (257, .iaload, 1, 0, 0, 0), (258, .i2l, 1, 0, 0, 0), (259, .ldc2_w 19, 3, 1, 0, 4294967295), (262, .land, 1, 0, 0, 0), (263, .lor, 1, 0, 0, 0), (264, .invokevirtual 21, 3, 100, 4, 2), (267, .aload_n 2, 1, 0, 0, 0), (268, .aload_n 0, 1, 0, 0, 0),
  (269, .iload 4, 2, 0, 0, 0), (271, .iconst 1, 1, 0, 0, 0), (272, .iadd, 1, 0, 0, 0), (273, .iaload, 1, 0, 0, 0), (274, .i2l, 1, 0, 0, 0), (275, .bipush 32, 2, 0, 0, 0), (277, .lshl, 1, 0, 0, 0), (278, .aload_n 0, 1, 0, 0, 0),
  (279, .iload 4, 2, 0, 0, 0), (281, .iconst 2, 1, 0, 0, 0), (282, .iadd, 1, 0, 0, 0), (283, .iaload, 1, 0, 0, 0), (284, .i2l, 1, 0, 0, 0), (285, .ldc2_w 19, 3, 1, 0, 4294967295), (288, .land, 1, 0, 0, 0), (289, .lor, 1, 0, 0, 0),
  (290, .aload_n 0, 1, 0, 0, 0), (291, .iload 4, 2, 0, 0, 0), (293, .iconst 3, 1, 0, 0, 0), (294, .iadd, 1, 0, 0, 0), (295, .iaload, 1, 0, 0, 0), (296, .i2l, 1, 0, 0, 0), (297, .bipush 32, 2, 0, 0, 0), (299, .lshl, 1, 0, 0, 0),
  (300, .aload_n 0, 1, 0, 0, 0), (301, .iload 4, 2, 0, 0, 0), (303, .iconst 4, 1, 0, 0, 0), (304, .iadd, 1, 0, 0, 0), (305, .iaload, 1, 0, 0, 0), (306, .i2l, 1, 0, 0, 0), (307, .ldc2_w 19, 3, 1, 0, 4294967295), (310, .land, 1, 0, 0, 0),
  (311, .lor, 1, 0, 0, 0), (312, .aload_n 0, 1, 0, 0, 0), (313, .iload 4, 2, 0, 0, 0), (315, .iconst 5, 1, 0, 0, 0), (316, .iadd, 1, 0, 0, 0), (317, .iaload, 1, 0, 0, 0), (318, .i2l, 1, 0, 0, 0), (319, .bipush 32, 2, 0, 0, 0),
  (321, .lshl, 1, 0, 0, 0), (322, .aload_n 0, 1, 0, 0, 0), (323, .iload 4, 2, 0, 0, 0), (325, .bipush 6, 2, 0, 0, 0), (327, .iadd, 1, 0, 0, 0), (328, .iaload, 1, 0, 0, 0), (329, .i2l, 1, 0, 0, 0), (330, .ldc2_w 19, 3, 1, 0, 4294967295),
  (333, .land, 1, 0, 0, 0), (334, .lor, 1, 0, 0, 0), (335, .invokevirtual 25, 3, 156, 4, 2), (338, .if_icmp .eq 1135, 3, 1473, 0, 0), (341, .iconst 0, 1, 0, 0, 0), (342, .ireturn, 1, 0, 0, 0), (343, .aload_n 1, 1, 0, 0, 0), (344, .invokevirtual 26, 3, 101, 1, 2),
  (347, .aload_n 2, 1, 0, 0, 0), (348, .invokevirtual 30, 3, 163, 1, 2), (351, .if_icmp .eq 1122, 3, 1473, 0, 0), (354, .iconst 0, 1, 0, 0, 0), (355, .ireturn, 1, 0, 0, 0), (356, .aload_n 1, 1, 0, 0, 0), (357, .invokevirtual 31, 3, 105, 1, 2), (360, .aload_n 2, 1, 0, 0, 0),
  (361, .invokevirtual 34, 3, 198, 1, 2), (364, .if_icmp .eq 1109, 3, 1473, 0, 0), (367, .iconst 0, 1, 0, 0, 0), (368, .ireturn, 1, 0, 0, 0), (369, .aload_n 1, 1, 0, 0, 0), (370, .aload_n 0, 1, 0, 0, 0), (371, .iload 4, 2, 0, 0, 0), (373, .iconst 1, 1, 0, 0, 0),
  (374, .iadd, 1, 0, 0, 0), (375, .iaload, 1, 0, 0, 0), (376, .aload_n 0, 1, 0, 0, 0), (377, .iload 4, 2, 0, 0, 0), (379, .iconst 2, 1, 0, 0, 0), (380, .iadd, 1, 0, 0, 0), (381, .iaload, 1, 0, 0, 0), (382, .invokevirtual 35, 3, 106, 3, 2),
  (385, .aload_n 2, 1, 0, 0, 0), (386, .aload_n 0, 1, 0, 0, 0), (387, .iload 4, 2, 0, 0, 0), (389, .iconst 1, 1, 0, 0, 0), (390, .iadd, 1, 0, 0, 0), (391, .iaload, 1, 0, 0, 0), (392, .aload_n 0, 1, 0, 0, 0), (393, .iload 4, 2, 0, 0, 0),
  (395, .iconst 2, 1, 0, 0, 0), (396, .iadd, 1, 0, 0, 0), (397, .iaload, 1, 0, 0, 0), (398, .invokevirtual 39, 3, 199, 3, 2), (401, .if_icmp .eq 1072, 3, 1473, 0, 0), (404, .iconst 0, 1, 0, 0, 0), (405, .ireturn, 1, 0, 0, 0), (406, .aload_n 1, 1, 0, 0, 0),
  (407, .aload_n 0, 1, 0, 0, 0), (408, .iload 4, 2, 0, 0, 0), (410, .iconst 1, 1, 0, 0, 0), (411, .iadd, 1, 0, 0, 0), (412, .iaload, 1, 0, 0, 0), (413, .invokevirtual 40, 3, 108, 2, 2), (416, .aload_n 2, 1, 0, 0, 0), (417, .aload_n 0, 1, 0, 0, 0),
  (418, .iload 4, 2, 0, 0, 0), (420, .iconst 1, 1, 0, 0, 0), (421, .iadd, 1, 0, 0, 0), (422, .iaload, 1, 0, 0, 0), (423, .invokevirtual 43, 3, 214, 2, 2), (426, .if_icmp .eq 1047, 3, 1473, 0, 0), (429, .iconst 0, 1, 0, 0, 0), (430, .ireturn, 1, 0, 0, 0),
  (431, .aload_n 1, 1, 0, 0, 0), (432, .aload_n 0, 1, 0, 0, 0), (433, .iload 4, 2, 0, 0, 0), (435, .iconst 1, 1, 0, 0, 0), (436, .iadd, 1, 0, 0, 0), (437, .iaload, 1, 0, 0, 0), (438, .aload_n 0, 1, 0, 0, 0), (439, .iload 4, 2, 0, 0, 0),
  (441, .iconst 2, 1, 0, 0, 0), (442, .iadd, 1, 0, 0, 0), (443, .iaload, 1, 0, 0, 0), (444, .invokevirtual 44, 3, 110, 3, 2), (447, .aload_n 2, 1, 0, 0, 0), (448, .aload_n 0, 1, 0, 0, 0), (449, .iload 4, 2, 0, 0, 0), (451, .iconst 1, 1, 0, 0, 0),
  (452, .iadd, 1, 0, 0, 0), (453, .iaload, 1, 0, 0, 0), (454, .aload_n 0, 1, 0, 0, 0), (455, .iload 4, 2, 0, 0, 0), (457, .iconst 2, 1, 0, 0, 0), (458, .iadd, 1, 0, 0, 0), (459, .iaload, 1, 0, 0, 0), (460, .invokevirtual 48, 3, 217, 3, 2),
  (463, .if_icmp .eq 1010, 3, 1473, 0, 0), (466, .iconst 0, 1, 0, 0, 0), (467, .ireturn, 1, 0, 0, 0), (468, .aload_n 1, 1, 0, 0, 0), (469, .aload_n 0, 1, 0, 0, 0), (470, .iload 4, 2, 0, 0, 0), (472, .iconst 1, 1, 0, 0, 0), (473, .iadd, 1, 0, 0, 0),
  (474, .iaload, 1, 0, 0, 0), (475, .invokevirtual 49, 3, 113, 2, 2), (478, .aload_n 2, 1, 0, 0, 0), (479, .aload_n 0, 1, 0, 0, 0), (480, .iload 4, 2, 0, 0, 0), (482, .iconst 1, 1, 0, 0, 0), (483, .iadd, 1, 0, 0, 0), (484, .iaload, 1, 0, 0, 0),
  (485, .invokevirtual 53, 3, 220, 2, 2), (488, .if_icmp .eq 985, 3, 1473, 0, 0), (491, .iconst 0, 1, 0, 0, 0), (492, .ireturn, 1, 0, 0, 0), (493, .aload_n 1, 1, 0, 0, 0), (494, .aload_n 0, 1, 0, 0, 0), (495, .iload 4, 2, 0, 0, 0), (497, .iconst 1, 1, 0, 0, 0),
  (498, .iadd, 1, 0, 0, 0), (499, .iaload, 1, 0, 0, 0), (500, .aload_n 0, 1, 0, 0, 0), (501, .iload 4, 2, 0, 0, 0), (503, .iconst 2, 1, 0, 0, 0), (504, .iadd, 1, 0, 0, 0), (505, .iaload, 1, 0, 0, 0), (506, .invokevirtual 54, 3, 114, 3, 2),
  (509, .aload_n 2, 1, 0, 0, 0), (510, .aload_n 0, 1, 0, 0, 0), (511, .iload 4, 2, 0, 0, 0), (513, .iconst 1, 1, 0, 0, 0), (514, .iadd, 1, 0, 0, 0), (515, .iaload, 1, 0, 0, 0), (516, .aload_n 0, 1, 0, 0, 0), (517, .iload 4, 2, 0, 0, 0),
  (519, .iconst 2, 1, 0, 0, 0), (520, .iadd, 1, 0, 0, 0), (521, .iaload, 1, 0, 0, 0), (522, .invokevirtual 57, 3, 221, 3, 2), (525, .if_icmp .eq 948, 3, 1473, 0, 0), (528, .iconst 0, 1, 0, 0, 0), (529, .ireturn, 1, 0, 0, 0), (530, .aload_n 1, 1, 0, 0, 0),
  (531, .invokevirtual 58, 3, 115, 1, 2), (534, .aload_n 2, 1, 0, 0, 0), (535, .invokevirtual 61, 3, 222, 1, 2), (538, .if_icmp .eq 935, 3, 1473, 0, 0), (541, .iconst 0, 1, 0, 0, 0), (542, .ireturn, 1, 0, 0, 0), (543, .aload_n 1, 1, 0, 0, 0), (544, .invokevirtual 62, 3, 116, 1, 2),
  (547, .aload_n 2, 1, 0, 0, 0), (548, .invokevirtual 66, 3, 224, 1, 2), (551, .if_icmp .eq 922, 3, 1473, 0, 0), (554, .iconst 0, 1, 0, 0, 0), (555, .ireturn, 1, 0, 0, 0), (556, .aload_n 1, 1, 0, 0, 0), (557, .aload_n 0, 1, 0, 0, 0), (558, .iload 4, 2, 0, 0, 0),
  (560, .iconst 1, 1, 0, 0, 0), (561, .iadd, 1, 0, 0, 0), (562, .iaload, 1, 0, 0, 0), (563, .invokevirtual 67, 3, 117, 2, 2), (566, .aload_n 2, 1, 0, 0, 0), (567, .aload_n 0, 1, 0, 0, 0), (568, .iload 4, 2, 0, 0, 0), (570, .iconst 1, 1, 0, 0, 0),
  (571, .iadd, 1, 0, 0, 0), (572, .iaload, 1, 0, 0, 0), (573, .invokevirtual 70, 3, 225, 2, 2), (576, .if_icmp .eq 897, 3, 1473, 0, 0), (579, .iconst 0, 1, 0, 0, 0), (580, .ireturn, 1, 0, 0, 0), (581, .aload_n 1, 1, 0, 0, 0), (582, .aload_n 0, 1, 0, 0, 0),
  (583, .iload 4, 2, 0, 0, 0), (585, .iconst 1, 1, 0, 0, 0), (586, .iadd, 1, 0, 0, 0), (587, .iaload, 1, 0, 0, 0), (588, .aload_n 0, 1, 0, 0, 0), (589, .iload 4, 2, 0, 0, 0), (591, .iconst 2, 1, 0, 0, 0), (592, .iadd, 1, 0, 0, 0),
  (593, .iaload, 1, 0, 0, 0), (594, .invokevirtual 71, 3, 118, 3, 2), (597, .aload_n 2, 1, 0, 0, 0), (598, .aload_n 0, 1, 0, 0, 0), (599, .iload 4, 2, 0, 0, 0), (601, .iconst 1, 1, 0, 0, 0), (602, .iadd, 1, 0, 0, 0), (603, .iaload, 1, 0, 0, 0),
  (604, .aload_n 0, 1, 0, 0, 0), (605, .iload 4, 2, 0, 0, 0), (607, .iconst 2, 1, 0, 0, 0), (608, .iadd, 1, 0, 0, 0), (609, .iaload, 1, 0, 0, 0), (610, .invokevirtual 74, 3, 233, 3, 2), (613, .if_icmp .eq 860, 3, 1473, 0, 0), (616, .iconst 0, 1, 0, 0, 0),
  (617, .ireturn, 1, 0, 0, 0), (618, .aload_n 1, 1, 0, 0, 0), (619, .aload_n 0, 1, 0, 0, 0), (620, .iload 4, 2, 0, 0, 0), (622, .iconst 1, 1, 0, 0, 0), (623, .iadd, 1, 0, 0, 0), (624, .iaload, 1, 0, 0, 0), (625, .aload_n 0, 1, 0, 0, 0),
  (626, .iload 4, 2, 0, 0, 0), (628, .iconst 2, 1, 0, 0, 0), (629, .iadd, 1, 0, 0, 0), (630, .iaload, 1, 0, 0, 0), (631, .invokevirtual 75, 3, 120, 3, 2), (634, .aload_n 2, 1, 0, 0, 0), (635, .aload_n 0, 1, 0, 0, 0), (636, .iload 4, 2, 0, 0, 0),
  (638, .iconst 1, 1, 0, 0, 0), (639, .iadd, 1, 0, 0, 0), (640, .iaload, 1, 0, 0, 0), (641, .aload_n 0, 1, 0, 0, 0), (642, .iload 4, 2, 0, 0, 0), (644, .iconst 2, 1, 0, 0, 0), (645, .iadd, 1, 0, 0, 0), (646, .iaload, 1, 0, 0, 0),
  (647, .invokevirtual 78, 3, 235, 3, 2), (650, .if_icmp .eq 823, 3, 1473, 0, 0), (653, .iconst 0, 1, 0, 0, 0), (654, .ireturn, 1, 0, 0, 0), (655, .aload_n 1, 1, 0, 0, 0), (656, .aload_n 0, 1, 0, 0, 0), (657, .iload 4, 2, 0, 0, 0), (659, .iconst 1, 1, 0, 0, 0),
  (660, .iadd, 1, 0, 0, 0), (661, .iaload, 1, 0, 0, 0), (662, .aload_n 0, 1, 0, 0, 0), (663, .iload 4, 2, 0, 0, 0), (665, .iconst 2, 1, 0, 0, 0), (666, .iadd, 1, 0, 0, 0), (667, .iaload, 1, 0, 0, 0), (668, .invokevirtual 79, 3, 121, 3, 2),
  (671, .aload_n 2, 1, 0, 0, 0), (672, .aload_n 0, 1, 0, 0, 0), (673, .iload 4, 2, 0, 0, 0), (675, .iconst 1, 1, 0, 0, 0), (676, .iadd, 1, 0, 0, 0), (677, .iaload, 1, 0, 0, 0), (678, .aload_n 0, 1, 0, 0, 0), (679, .iload 4, 2, 0, 0, 0),
  (681, .iconst 2, 1, 0, 0, 0), (682, .iadd, 1, 0, 0, 0), (683, .iaload, 1, 0, 0, 0), (684, .invokevirtual 82, 3, 236, 3, 2), (687, .if_icmp .eq 786, 3, 1473, 0, 0), (690, .iconst 0, 1, 0, 0, 0), (691, .ireturn, 1, 0, 0, 0), (692, .aload_n 1, 1, 0, 0, 0),
  (693, .invokevirtual 83, 3, 122, 1, 2), (696, .aload_n 2, 1, 0, 0, 0), (697, .invokevirtual 86, 3, 237, 1, 2), (700, .if_icmp .eq 773, 3, 1473, 0, 0), (703, .iconst 0, 1, 0, 0, 0), (704, .ireturn, 1, 0, 0, 0), (705, .aload_n 1, 1, 0, 0, 0), (706, .aload_n 0, 1, 0, 0, 0),
  (707, .iload 4, 2, 0, 0, 0), (709, .iconst 1, 1, 0, 0, 0), (710, .iadd, 1, 0, 0, 0), (711, .iaload, 1, 0, 0, 0), (712, .invokevirtual 87, 3, 123, 2, 2), (715, .aload_n 2, 1, 0, 0, 0), (716, .aload_n 0, 1, 0, 0, 0), (717, .iload 4, 2, 0, 0, 0),
  (719, .iconst 1, 1, 0, 0, 0), (720, .iadd, 1, 0, 0, 0), (721, .iaload, 1, 0, 0, 0), (722, .invokevirtual 90, 3, 238, 2, 2), (725, .if_icmp .eq 748, 3, 1473, 0, 0), (728, .iconst 0, 1, 0, 0, 0), (729, .ireturn, 1, 0, 0, 0), (730, .aload_n 1, 1, 0, 0, 0),
  (731, .aload_n 0, 1, 0, 0, 0), (732, .iload 4, 2, 0, 0, 0), (734, .iconst 1, 1, 0, 0, 0), (735, .iadd, 1, 0, 0, 0), (736, .iaload, 1, 0, 0, 0), (737, .aload_n 0, 1, 0, 0, 0), (738, .iload 4, 2, 0, 0, 0), (740, .iconst 2, 1, 0, 0, 0),
  (741, .iadd, 1, 0, 0, 0), (742, .iaload, 1, 0, 0, 0), (743, .invokevirtual 91, 3, 125, 3, 2), (746, .aload_n 2, 1, 0, 0, 0), (747, .aload_n 0, 1, 0, 0, 0), (748, .iload 4, 2, 0, 0, 0), (750, .iconst 1, 1, 0, 0, 0), (751, .iadd, 1, 0, 0, 0),
  (752, .iaload, 1, 0, 0, 0), (753, .aload_n 0, 1, 0, 0, 0), (754, .iload 4, 2, 0, 0, 0), (756, .iconst 2, 1, 0, 0, 0), (757, .iadd, 1, 0, 0, 0), (758, .iaload, 1, 0, 0, 0), (759, .invokevirtual 94, 3, 239, 3, 2), (762, .if_icmp .eq 711, 3, 1473, 0, 0),
  (765, .iconst 0, 1, 0, 0, 0), (766, .ireturn, 1, 0, 0, 0), (767, .aload_n 1, 1, 0, 0, 0), (768, .invokevirtual 95, 3, 126, 1, 2), (771, .aload_n 2, 1, 0, 0, 0), (772, .invokevirtual 98, 3, 240, 1, 2), (775, .if_icmp .eq 698, 3, 1473, 0, 0), (778, .iconst 0, 1, 0, 0, 0),
  (779, .ireturn, 1, 0, 0, 0), (780, .aload_n 1, 1, 0, 0, 0), (781, .aload_n 0, 1, 0, 0, 0), (782, .iload 4, 2, 0, 0, 0), (784, .iconst 1, 1, 0, 0, 0), (785, .iadd, 1, 0, 0, 0), (786, .iaload, 1, 0, 0, 0), (787, .aload_n 0, 1, 0, 0, 0),
  (788, .iload 4, 2, 0, 0, 0), (790, .iconst 2, 1, 0, 0, 0), (791, .iadd, 1, 0, 0, 0), (792, .iaload, 1, 0, 0, 0), (793, .invokevirtual 99, 3, 127, 3, 2), (796, .aload_n 2, 1, 0, 0, 0), (797, .aload_n 0, 1, 0, 0, 0), (798, .iload 4, 2, 0, 0, 0),
  (800, .iconst 1, 1, 0, 0, 0), (801, .iadd, 1, 0, 0, 0), (802, .iaload, 1, 0, 0, 0), (803, .aload_n 0, 1, 0, 0, 0), (804, .iload 4, 2, 0, 0, 0), (806, .iconst 2, 1, 0, 0, 0), (807, .iadd, 1, 0, 0, 0), (808, .iaload, 1, 0, 0, 0),
  (809, .invokevirtual 102, 3, 244, 3, 2), (812, .if_icmp .eq 661, 3, 1473, 0, 0), (815, .iconst 0, 1, 0, 0, 0), (816, .ireturn, 1, 0, 0, 0), (817, .aload_n 1, 1, 0, 0, 0), (818, .aload_n 0, 1, 0, 0, 0), (819, .iload 4, 2, 0, 0, 0), (821, .iconst 1, 1, 0, 0, 0),
  (822, .iadd, 1, 0, 0, 0), (823, .iaload, 1, 0, 0, 0), (824, .invokevirtual 103, 3, 129, 2, 2), (827, .aload_n 2, 1, 0, 0, 0), (828, .aload_n 0, 1, 0, 0, 0), (829, .iload 4, 2, 0, 0, 0), (831, .iconst 1, 1, 0, 0, 0), (832, .iadd, 1, 0, 0, 0),
  (833, .iaload, 1, 0, 0, 0), (834, .invokevirtual 106, 3, 252, 2, 2), (837, .if_icmp .eq 636, 3, 1473, 0, 0), (840, .iconst 0, 1, 0, 0, 0), (841, .ireturn, 1, 0, 0, 0), (842, .aload_n 1, 1, 0, 0, 0), (843, .aload_n 0, 1, 0, 0, 0), (844, .iload 4, 2, 0, 0, 0),
  (846, .iconst 1, 1, 0, 0, 0), (847, .iadd, 1, 0, 0, 0), (848, .iaload, 1, 0, 0, 0), (849, .aload_n 0, 1, 0, 0, 0), (850, .iload 4, 2, 0, 0, 0), (852, .iconst 2, 1, 0, 0, 0), (853, .iadd, 1, 0, 0, 0), (854, .iaload, 1, 0, 0, 0),
  (855, .aload_n 0, 1, 0, 0, 0), (856, .iload 4, 2, 0, 0, 0), (858, .iconst 3, 1, 0, 0, 0), (859, .iadd, 1, 0, 0, 0), (860, .iaload, 1, 0, 0, 0), (861, .aload_n 0, 1, 0, 0, 0), (862, .iload 4, 2, 0, 0, 0), (864, .iconst 4, 1, 0, 0, 0),
  (865, .iadd, 1, 0, 0, 0), (866, .iaload, 1, 0, 0, 0), (867, .aload_n 0, 1, 0, 0, 0), (868, .iload 4, 2, 0, 0, 0), (870, .iconst 5, 1, 0, 0, 0), (871, .iadd, 1, 0, 0, 0), (872, .iaload, 1, 0, 0, 0), (873, .invokevirtual 107, 3, 132, 6, 2),
  (876, .aload_n 2, 1, 0, 0, 0), (877, .aload_n 0, 1, 0, 0, 0), (878, .iload 4, 2, 0, 0, 0), (880, .iconst 1, 1, 0, 0, 0), (881, .iadd, 1, 0, 0, 0), (882, .iaload, 1, 0, 0, 0), (883, .aload_n 0, 1, 0, 0, 0), (884, .iload 4, 2, 0, 0, 0),
  (886, .iconst 2, 1, 0, 0, 0), (887, .iadd, 1, 0, 0, 0), (888, .iaload, 1, 0, 0, 0), (889, .aload_n 0, 1, 0, 0, 0), (890, .iload 4, 2, 0, 0, 0), (892, .iconst 3, 1, 0, 0, 0), (893, .iadd, 1, 0, 0, 0), (894, .iaload, 1, 0, 0, 0),
  (895, .aload_n 0, 1, 0, 0, 0), (896, .iload 4, 2, 0, 0, 0), (898, .iconst 4, 1, 0, 0, 0), (899, .iadd, 1, 0, 0, 0), (900, .iaload, 1, 0, 0, 0), (901, .aload_n 0, 1, 0, 0, 0), (902, .iload 4, 2, 0, 0, 0), (904, .iconst 5, 1, 0, 0, 0),
  (905, .iadd, 1, 0, 0, 0), (906, .iaload, 1, 0, 0, 0), (907, .invokevirtual 111, 3, 253, 6, 2), (910, .if_icmp .eq 563, 3, 1473, 0, 0), (913, .iconst 0, 1, 0, 0, 0), (914, .ireturn, 1, 0, 0, 0), (915, .aload_n 1, 1, 0, 0, 0), (916, .aload_n 0, 1, 0, 0, 0),
  (917, .iload 4, 2, 0, 0, 0), (919, .iconst 1, 1, 0, 0, 0), (920, .iadd, 1, 0, 0, 0), (921, .iaload, 1, 0, 0, 0), (922, .aload_n 0, 1, 0, 0, 0), (923, .iload 4, 2, 0, 0, 0), (925, .iconst 2, 1, 0, 0, 0), (926, .iadd, 1, 0, 0, 0),
  (927, .iaload, 1, 0, 0, 0), (928, .invokevirtual 112, 3, 135, 3, 2), (931, .aload_n 2, 1, 0, 0, 0), (932, .aload_n 0, 1, 0, 0, 0), (933, .iload 4, 2, 0, 0, 0), (935, .iconst 1, 1, 0, 0, 0), (936, .iadd, 1, 0, 0, 0), (937, .iaload, 1, 0, 0, 0),
  (938, .aload_n 0, 1, 0, 0, 0), (939, .iload 4, 2, 0, 0, 0), (941, .iconst 2, 1, 0, 0, 0), (942, .iadd, 1, 0, 0, 0), (943, .iaload, 1, 0, 0, 0), (944, .invokevirtual 115, 3, 256, 3, 2), (947, .if_icmp .eq 526, 3, 1473, 0, 0), (950, .iconst 0, 1, 0, 0, 0),
  (951, .ireturn, 1, 0, 0, 0), (952, .aload_n 1, 1, 0, 0, 0), (953, .aload_n 0, 1, 0, 0, 0), (954, .iload 4, 2, 0, 0, 0), (956, .iconst 1, 1, 0, 0, 0), (957, .iadd, 1, 0, 0, 0), (958, .iaload, 1, 0, 0, 0), (959, .aload_n 0, 1, 0, 0, 0),
  (960, .iload 4, 2, 0, 0, 0), (962, .iconst 2, 1, 0, 0, 0), (963, .iadd, 1, 0, 0, 0), (964, .iaload, 1, 0, 0, 0), (965, .invokevirtual 116, 3, 136, 3, 2), (968, .aload_n 2, 1, 0, 0, 0), (969, .aload_n 0, 1, 0, 0, 0), (970, .iload 4, 2, 0, 0, 0),
  (972, .iconst 1, 1, 0, 0, 0), (973, .iadd, 1, 0, 0, 0), (974, .iaload, 1, 0, 0, 0), (975, .aload_n 0, 1, 0, 0, 0), (976, .iload 4, 2, 0, 0, 0), (978, .iconst 2, 1, 0, 0, 0), (979, .iadd, 1, 0, 0, 0), (980, .iaload, 1, 0, 0, 0),
  (981, .invokevirtual 120, 3, 241, 3, 2), (984, .lcmp, 1, 0, 0, 0), (985, .ifCond .eq 488, 3, 1473, 0, 0), (988, .iconst 0, 1, 0, 0, 0), (989, .ireturn, 1, 0, 0, 0), (990, .aload_n 1, 1, 0, 0, 0), (991, .invokevirtual 121, 3, 138, 1, 2), (994, .aload_n 2, 1, 0, 0, 0),
  (995, .invokevirtual 124, 3, 257, 1, 2), (998, .if_icmp .eq 475, 3, 1473, 0, 0), (1001, .iconst 0, 1, 0, 0, 0), (1002, .ireturn, 1, 0, 0, 0), (1003, .aload_n 1, 1, 0, 0, 0), (1004, .aload_n 0, 1, 0, 0, 0), (1005, .iload 4, 2, 0, 0, 0), (1007, .iconst 1, 1, 0, 0, 0),
  (1008, .iadd, 1, 0, 0, 0), (1009, .iaload, 1, 0, 0, 0), (1010, .aload_n 0, 1, 0, 0, 0), (1011, .iload 4, 2, 0, 0, 0), (1013, .iconst 2, 1, 0, 0, 0), (1014, .iadd, 1, 0, 0, 0), (1015, .iaload, 1, 0, 0, 0), (1016, .invokevirtual 125, 3, 139, 3, 2),
  (1019, .aload_n 2, 1, 0, 0, 0), (1020, .aload_n 0, 1, 0, 0, 0), (1021, .iload 4, 2, 0, 0, 0), (1023, .iconst 1, 1, 0, 0, 0), (1024, .iadd, 1, 0, 0, 0), (1025, .iaload, 1, 0, 0, 0), (1026, .aload_n 0, 1, 0, 0, 0), (1027, .iload 4, 2, 0, 0, 0),
  (1029, .iconst 2, 1, 0, 0, 0), (1030, .iadd, 1, 0, 0, 0), (1031, .iaload, 1, 0, 0, 0), (1032, .invokevirtual 128, 3, 258, 3, 2), (1035, .if_icmp .eq 438, 3, 1473, 0, 0), (1038, .iconst 0, 1, 0, 0, 0), (1039, .ireturn, 1, 0, 0, 0), (1040, .aload_n 1, 1, 0, 0, 0),
  (1041, .aload_n 0, 1, 0, 0, 0), (1042, .iload 4, 2, 0, 0, 0), (1044, .iconst 1, 1, 0, 0, 0), (1045, .iadd, 1, 0, 0, 0), (1046, .iaload, 1, 0, 0, 0), (1047, .aload_n 0, 1, 0, 0, 0), (1048, .iload 4, 2, 0, 0, 0), (1050, .iconst 2, 1, 0, 0, 0),
  (1051, .iadd, 1, 0, 0, 0), (1052, .iaload, 1, 0, 0, 0), (1053, .aload_n 0, 1, 0, 0, 0), (1054, .iload 4, 2, 0, 0, 0), (1056, .iconst 3, 1, 0, 0, 0), (1057, .iadd, 1, 0, 0, 0), (1058, .iaload, 1, 0, 0, 0), (1059, .invokevirtual 129, 3, 141, 4, 2),
  (1062, .aload_n 2, 1, 0, 0, 0), (1063, .aload_n 0, 1, 0, 0, 0), (1064, .iload 4, 2, 0, 0, 0), (1066, .iconst 1, 1, 0, 0, 0), (1067, .iadd, 1, 0, 0, 0), (1068, .iaload, 1, 0, 0, 0), (1069, .aload_n 0, 1, 0, 0, 0), (1070, .iload 4, 2, 0, 0, 0),
  (1072, .iconst 2, 1, 0, 0, 0), (1073, .iadd, 1, 0, 0, 0), (1074, .iaload, 1, 0, 0, 0), (1075, .aload_n 0, 1, 0, 0, 0), (1076, .iload 4, 2, 0, 0, 0), (1078, .iconst 3, 1, 0, 0, 0), (1079, .iadd, 1, 0, 0, 0), (1080, .iaload, 1, 0, 0, 0),
  (1081, .invokevirtual 133, 3, 260, 4, 2), (1084, .if_icmp .eq 389, 3, 1473, 0, 0), (1087, .iconst 0, 1, 0, 0, 0), (1088, .ireturn, 1, 0, 0, 0), (1089, .aload_n 1, 1, 0, 0, 0), (1090, .aload_n 0, 1, 0, 0, 0), (1091, .iload 4, 2, 0, 0, 0), (1093, .iconst 1, 1, 0, 0, 0),
  (1094, .iadd, 1, 0, 0, 0), (1095, .iaload, 1, 0, 0, 0), (1096, .aload_n 0, 1, 0, 0, 0), (1097, .iload 4, 2, 0, 0, 0), (1099, .iconst 2, 1, 0, 0, 0), (1100, .iadd, 1, 0, 0, 0), (1101, .iaload, 1, 0, 0, 0), (1102, .invokevirtual 134, 3, 142, 3, 2),
  (1105, .aload_n 2, 1, 0, 0, 0), (1106, .aload_n 0, 1, 0, 0, 0), (1107, .iload 4, 2, 0, 0, 0), (1109, .iconst 1, 1, 0, 0, 0), (1110, .iadd, 1, 0, 0, 0), (1111, .iaload, 1, 0, 0, 0), (1112, .aload_n 0, 1, 0, 0, 0), (1113, .iload 4, 2, 0, 0, 0),
  (1115, .iconst 2, 1, 0, 0, 0), (1116, .iadd, 1, 0, 0, 0), (1117, .iaload, 1, 0, 0, 0), (1118, .invokevirtual 137, 3, 261, 3, 2), (1121, .if_icmp .eq 352, 3, 1473, 0, 0), (1124, .iconst 0, 1, 0, 0, 0), (1125, .ireturn, 1, 0, 0, 0), (1126, .aload_n 1, 1, 0, 0, 0),
  (1127, .aload_n 0, 1, 0, 0, 0), (1128, .iload 4, 2, 0, 0, 0), (1130, .iconst 1, 1, 0, 0, 0), (1131, .iadd, 1, 0, 0, 0), (1132, .iaload, 1, 0, 0, 0), (1133, .aload_n 3, 1, 0, 0, 0), (1134, .invokestatic 138, 3, 278, 3, 20), (1137, .istore 5, 2, 0, 0, 0),
  (1139, .aload_n 2, 1, 0, 0, 0), (1140, .aload_n 0, 1, 0, 0, 0), (1141, .iload 4, 2, 0, 0, 0), (1143, .iconst 1, 1, 0, 0, 0), (1144, .iadd, 1, 0, 0, 0), (1145, .iaload, 1, 0, 0, 0), (1146, .invokevirtual 143, 3, 262, 2, 2), (1149, .istore 6, 2, 0, 0, 0),
  (1151, .aload_n 2, 1, 0, 0, 0), (1152, .invokevirtual 144, 3, 155, 1, 2), (1155, .iload 5, 2, 0, 0, 0), (1157, .if_icmp .eq 5, 3, 1162, 0, 0), (1160, .iconst 0, 1, 0, 0, 0), (1161, .ireturn, 1, 0, 0, 0), (1162, .iload 5, 2, 0, 0, 0), (1164, .ifCond .ne 15, 3, 1179, 0, 0),
  (1167, .aload_n 3, 1, 0, 0, 0), (1168, .iconst 0, 1, 0, 0, 0), (1169, .laload, 1, 0, 0, 0), (1170, .iload 6, 2, 0, 0, 0), (1172, .i2l, 1, 0, 0, 0), (1173, .lcmp, 1, 0, 0, 0), (1174, .ifCond .eq 5, 3, 1179, 0, 0), (1177, .iconst 0, 1, 0, 0, 0),
  (1178, .ireturn, 1, 0, 0, 0), (1179, .goto 294, 3, 1473, 0, 0), (1182, .aload_n 1, 1, 0, 0, 0), (1183, .aload_n 0, 1, 0, 0, 0), (1184, .iload 4, 2, 0, 0, 0), (1186, .iconst 1, 1, 0, 0, 0), (1187, .iadd, 1, 0, 0, 0), (1188, .iaload, 1, 0, 0, 0),
  (1189, .invokevirtual 147, 3, 143, 2, 2), (1192, .aload_n 2, 1, 0, 0, 0), (1193, .aload_n 0, 1, 0, 0, 0), (1194, .iload 4, 2, 0, 0, 0), (1196, .iconst 1, 1, 0, 0, 0), (1197, .iadd, 1, 0, 0, 0), (1198, .iaload, 1, 0, 0, 0), (1199, .invokevirtual 150, 3, 264, 2, 2),
  (1202, .if_icmp .eq 271, 3, 1473, 0, 0), (1205, .iconst 0, 1, 0, 0, 0), (1206, .ireturn, 1, 0, 0, 0), (1207, .aload_n 1, 1, 0, 0, 0), (1208, .aload_n 0, 1, 0, 0, 0), (1209, .iload 4, 2, 0, 0, 0), (1211, .iconst 1, 1, 0, 0, 0), (1212, .iadd, 1, 0, 0, 0),
  (1213, .iaload, 1, 0, 0, 0), (1214, .aload_n 0, 1, 0, 0, 0), (1215, .iload 4, 2, 0, 0, 0), (1217, .iconst 2, 1, 0, 0, 0), (1218, .iadd, 1, 0, 0, 0), (1219, .iaload, 1, 0, 0, 0), (1220, .aload_n 0, 1, 0, 0, 0), (1221, .iload 4, 2, 0, 0, 0),
  (1223, .iconst 3, 1, 0, 0, 0), (1224, .iadd, 1, 0, 0, 0), (1225, .iaload, 1, 0, 0, 0), (1226, .invokevirtual 151, 3, 146, 4, 2), (1229, .aload_n 2, 1, 0, 0, 0), (1230, .aload_n 0, 1, 0, 0, 0), (1231, .iload 4, 2, 0, 0, 0), (1233, .iconst 1, 1, 0, 0, 0),
  (1234, .iadd, 1, 0, 0, 0), (1235, .iaload, 1, 0, 0, 0), (1236, .aload_n 0, 1, 0, 0, 0), (1237, .iload 4, 2, 0, 0, 0), (1239, .iconst 2, 1, 0, 0, 0), (1240, .iadd, 1, 0, 0, 0), (1241, .iaload, 1, 0, 0, 0), (1242, .aload_n 0, 1, 0, 0, 0),
  (1243, .iload 4, 2, 0, 0, 0), (1245, .iconst 3, 1, 0, 0, 0), (1246, .iadd, 1, 0, 0, 0), (1247, .iaload, 1, 0, 0, 0), (1248, .invokevirtual 154, 3, 243, 4, 2), (1251, .if_icmp .eq 222, 3, 1473, 0, 0), (1254, .iconst 0, 1, 0, 0, 0), (1255, .ireturn, 1, 0, 0, 0),
  (1256, .aload_n 1, 1, 0, 0, 0), (1257, .aload_n 0, 1, 0, 0, 0), (1258, .iload 4, 2, 0, 0, 0), (1260, .iconst 1, 1, 0, 0, 0), (1261, .iadd, 1, 0, 0, 0), (1262, .iaload, 1, 0, 0, 0), (1263, .aload_n 0, 1, 0, 0, 0), (1264, .iload 4, 2, 0, 0, 0),
  (1266, .iconst 2, 1, 0, 0, 0), (1267, .iadd, 1, 0, 0, 0), (1268, .iaload, 1, 0, 0, 0), (1269, .aload_n 0, 1, 0, 0, 0), (1270, .iload 4, 2, 0, 0, 0), (1272, .iconst 3, 1, 0, 0, 0), (1273, .iadd, 1, 0, 0, 0), (1274, .iaload, 1, 0, 0, 0),
  (1275, .ifCond .eq 7, 3, 1282, 0, 0), (1278, .iconst 1, 1, 0, 0, 0), (1279, .goto 4, 3, 1283, 0, 0), (1282, .iconst 0, 1, 0, 0, 0), (1283, .invokevirtual 155, 3, 147, 4, 2), (1286, .aload_n 2, 1, 0, 0, 0), (1287, .aload_n 0, 1, 0, 0, 0), (1288, .iload 4, 2, 0, 0, 0),
  (1290, .iconst 1, 1, 0, 0, 0), (1291, .iadd, 1, 0, 0, 0), (1292, .iaload, 1, 0, 0, 0), (1293, .aload_n 0, 1, 0, 0, 0), (1294, .iload 4, 2, 0, 0, 0), (1296, .iconst 2, 1, 0, 0, 0), (1297, .iadd, 1, 0, 0, 0), (1298, .iaload, 1, 0, 0, 0),
  (1299, .aload_n 0, 1, 0, 0, 0), (1300, .iload 4, 2, 0, 0, 0), (1302, .iconst 3, 1, 0, 0, 0), (1303, .iadd, 1, 0, 0, 0), (1304, .iaload, 1, 0, 0, 0), (1305, .ifCond .eq 7, 3, 1312, 0, 0), (1308, .iconst 1, 1, 0, 0, 0), (1309, .goto 4, 3, 1313, 0, 0),
  (1312, .iconst 0, 1, 0, 0, 0), (1313, .invokevirtual 159, 3, 265, 4, 2), (1316, .if_icmp .eq 157, 3, 1473, 0, 0), (1319, .iconst 0, 1, 0, 0, 0), (1320, .ireturn, 1, 0, 0, 0), (1321, .aload_n 1, 1, 0, 0, 0), (1322, .aload_n 0, 1, 0, 0, 0), (1323, .iload 4, 2, 0, 0, 0),
  (1325, .iconst 1, 1, 0, 0, 0), (1326, .iadd, 1, 0, 0, 0), (1327, .iaload, 1, 0, 0, 0), (1328, .invokevirtual 160, 3, 148, 2, 2), (1331, .aload_n 2, 1, 0, 0, 0), (1332, .aload_n 0, 1, 0, 0, 0), (1333, .iload 4, 2, 0, 0, 0), (1335, .iconst 1, 1, 0, 0, 0),
  (1336, .iadd, 1, 0, 0, 0), (1337, .iaload, 1, 0, 0, 0), (1338, .invokevirtual 163, 3, 266, 2, 2), (1341, .if_icmp .eq 132, 3, 1473, 0, 0), (1344, .iconst 0, 1, 0, 0, 0), (1345, .ireturn, 1, 0, 0, 0), (1346, .aload_n 1, 1, 0, 0, 0), (1347, .aload_n 0, 1, 0, 0, 0),
  (1348, .iload 4, 2, 0, 0, 0), (1350, .iconst 1, 1, 0, 0, 0), (1351, .iadd, 1, 0, 0, 0), (1352, .iaload, 1, 0, 0, 0), (1353, .aload_n 0, 1, 0, 0, 0), (1354, .iload 4, 2, 0, 0, 0), (1356, .iconst 2, 1, 0, 0, 0), (1357, .iadd, 1, 0, 0, 0),
  (1358, .iaload, 1, 0, 0, 0), (1359, .aload_n 0, 1, 0, 0, 0), (1360, .iload 4, 2, 0, 0, 0), (1362, .iconst 3, 1, 0, 0, 0), (1363, .iadd, 1, 0, 0, 0), (1364, .iaload, 1, 0, 0, 0), (1365, .invokevirtual 164, 3, 149, 4, 2), (1368, .aload_n 2, 1, 0, 0, 0),
  (1369, .aload_n 0, 1, 0, 0, 0), (1370, .iload 4, 2, 0, 0, 0), (1372, .iconst 1, 1, 0, 0, 0), (1373, .iadd, 1, 0, 0, 0), (1374, .iaload, 1, 0, 0, 0), (1375, .aload_n 0, 1, 0, 0, 0), (1376, .iload 4, 2, 0, 0, 0), (1378, .iconst 2, 1, 0, 0, 0),
  (1379, .iadd, 1, 0, 0, 0), (1380, .iaload, 1, 0, 0, 0), (1381, .aload_n 0, 1, 0, 0, 0), (1382, .iload 4, 2, 0, 0, 0), (1384, .iconst 3, 1, 0, 0, 0), (1385, .iadd, 1, 0, 0, 0), (1386, .iaload, 1, 0, 0, 0), (1387, .invokevirtual 167, 3, 273, 4, 2),
  (1390, .if_icmp .eq 83, 3, 1473, 0, 0), (1393, .iconst 0, 1, 0, 0, 0), (1394, .ireturn, 1, 0, 0, 0), (1395, .aload_n 1, 1, 0, 0, 0), (1396, .aload_n 0, 1, 0, 0, 0), (1397, .iload 4, 2, 0, 0, 0), (1399, .iconst 1, 1, 0, 0, 0), (1400, .iadd, 1, 0, 0, 0),
  (1401, .iaload, 1, 0, 0, 0), (1402, .aload_n 0, 1, 0, 0, 0), (1403, .iload 4, 2, 0, 0, 0), (1405, .iconst 2, 1, 0, 0, 0), (1406, .iadd, 1, 0, 0, 0), (1407, .iaload, 1, 0, 0, 0), (1408, .ifCond .eq 7, 3, 1415, 0, 0), (1411, .iconst 1, 1, 0, 0, 0),
  (1412, .goto 4, 3, 1416, 0, 0), (1415, .iconst 0, 1, 0, 0, 0), (1416, .invokevirtual 168, 3, 152, 3, 2), (1419, .aload_n 2, 1, 0, 0, 0), (1420, .aload_n 0, 1, 0, 0, 0), (1421, .iload 4, 2, 0, 0, 0), (1423, .iconst 1, 1, 0, 0, 0), (1424, .iadd, 1, 0, 0, 0),
  (1425, .iaload, 1, 0, 0, 0), (1426, .aload_n 0, 1, 0, 0, 0), (1427, .iload 4, 2, 0, 0, 0), (1429, .iconst 2, 1, 0, 0, 0), (1430, .iadd, 1, 0, 0, 0), (1431, .iaload, 1, 0, 0, 0), (1432, .ifCond .eq 7, 3, 1439, 0, 0), (1435, .iconst 1, 1, 0, 0, 0),
  (1436, .goto 4, 3, 1440, 0, 0), (1439, .iconst 0, 1, 0, 0, 0), (1440, .invokevirtual 172, 3, 275, 3, 2), (1443, .if_icmp .eq 30, 3, 1473, 0, 0), (1446, .iconst 0, 1, 0, 0, 0), (1447, .ireturn, 1, 0, 0, 0), (1448, .aload_n 1, 1, 0, 0, 0), (1449, .aload_n 0, 1, 0, 0, 0),
  (1450, .iload 4, 2, 0, 0, 0), (1452, .iconst 1, 1, 0, 0, 0), (1453, .iadd, 1, 0, 0, 0), (1454, .iaload, 1, 0, 0, 0), (1455, .invokevirtual 173, 3, 153, 2, 2), (1458, .aload_n 2, 1, 0, 0, 0), (1459, .aload_n 0, 1, 0, 0, 0), (1460, .iload 4, 2, 0, 0, 0),
  (1462, .iconst 1, 1, 0, 0, 0), (1463, .iadd, 1, 0, 0, 0), (1464, .iaload, 1, 0, 0, 0), (1465, .invokevirtual 176, 3, 276, 2, 2), (1468, .if_icmp .eq 5, 3, 1473, 0, 0), (1471, .iconst 0, 1, 0, 0, 0), (1472, .ireturn, 1, 0, 0, 0), (1473, .iinc 4 7, 3, 0, 0, 0),
  (1476, .goto (-1453), 3, 23, 0, 0), (1479, .iconst 1, 1, 0, 0, 0), (1480, .ireturn, 1, 0, 0, 0)]
/-- SamePassersLaw.laws(LSamePassers;I[J)I -/
def mm_c278 : List (Nat × mm_E) := [(0, .aload_n 2, 1, 0, 0, 0), (1, .iconst 0, 1, 0, 0, 0), (2, .aload_n 0, 1, 0, 0, 0), (3, .iload_n 1, 1, 0, 0, 0), (4, .invokevirtual 7, 3, 154, 2, 2), (7, .i2l, 1, 0, 0, 0), (8, .lastore, 1, 0, 0, 0), (9, .goto 6, 3, 15, 0, 0),
  (12, .astore_n 3, 1, 0, 0, 0), (13, .iconst 1, 1, 0, 0, 0), (14, .ireturn, 1, 0, 0, 0), (15, .iconst 0, 1, 0, 0, 0), (16, .ireturn, 1, 0, 0, 0)]
/-- java/lang/Integer.bitCount(I)I -/
def mm_c279 : List (Nat × mm_E) := [(0, .iload_n 0, 1, 0, 0, 0), (1, .iload_n 0, 1, 0, 0, 0), (2, .iconst 1, 1, 0, 0, 0), (3, .iushr, 1, 0, 0, 0), (4, .ldc_w 265, 3, 0, 0, 1431655765), (7, .iand, 1, 0, 0, 0), (8, .isub, 1, 0, 0, 0), (9, .istore_n 0, 1, 0, 0, 0),
  (10, .iload_n 0, 1, 0, 0, 0), (11, .ldc_w 266, 3, 0, 0, 858993459), (14, .iand, 1, 0, 0, 0), (15, .iload_n 0, 1, 0, 0, 0), (16, .iconst 2, 1, 0, 0, 0), (17, .iushr, 1, 0, 0, 0), (18, .ldc_w 266, 3, 0, 0, 858993459), (21, .iand, 1, 0, 0, 0),
  (22, .iadd, 1, 0, 0, 0), (23, .istore_n 0, 1, 0, 0, 0), (24, .iload_n 0, 1, 0, 0, 0), (25, .iload_n 0, 1, 0, 0, 0), (26, .iconst 4, 1, 0, 0, 0), (27, .iushr, 1, 0, 0, 0), (28, .iadd, 1, 0, 0, 0), (29, .ldc_w 267, 3, 0, 0, 252645135),
  (32, .iand, 1, 0, 0, 0), (33, .istore_n 0, 1, 0, 0, 0), (34, .iload_n 0, 1, 0, 0, 0), (35, .iload_n 0, 1, 0, 0, 0), (36, .bipush 8, 2, 0, 0, 0), (38, .iushr, 1, 0, 0, 0), (39, .iadd, 1, 0, 0, 0), (40, .istore_n 0, 1, 0, 0, 0),
  (41, .iload_n 0, 1, 0, 0, 0), (42, .iload_n 0, 1, 0, 0, 0), (43, .bipush 16, 2, 0, 0, 0), (45, .iushr, 1, 0, 0, 0), (46, .iadd, 1, 0, 0, 0), (47, .istore_n 0, 1, 0, 0, 0), (48, .iload_n 0, 1, 0, 0, 0), (49, .bipush 63, 2, 0, 0, 0),
  (51, .iand, 1, 0, 0, 0), (52, .ireturn, 1, 0, 0, 0)]
/-- java/util/Arrays.fill([II)V -/
def mm_c280 : List (Nat × mm_E) := [(0, .iconst 0, 1, 0, 0, 0), (1, .istore_n 2, 1, 0, 0, 0), (2, .aload_n 0, 1, 0, 0, 0), (3, .arraylength, 1, 0, 0, 0), (4, .istore_n 3, 1, 0, 0, 0), (5, .iload_n 2, 1, 0, 0, 0), (6, .iload_n 3, 1, 0, 0, 0), (7, .if_icmp .ge 13, 3, 20, 0, 0),
  (10, .aload_n 0, 1, 0, 0, 0), (11, .iload_n 2, 1, 0, 0, 0), (12, .iload_n 1, 1, 0, 0, 0), (13, .iastore, 1, 0, 0, 0), (14, .iinc 2 1, 3, 0, 0, 0), (17, .goto (-12), 3, 5, 0, 0), (20, .return_, 1, 0, 0, 0)]
/-- java/util/Arrays.fill([JJ)V -/
def mm_c281 : List (Nat × mm_E) := [(0, .iconst 0, 1, 0, 0, 0), (1, .istore_n 3, 1, 0, 0, 0), (2, .aload_n 0, 1, 0, 0, 0), (3, .arraylength, 1, 0, 0, 0), (4, .istore 4, 2, 0, 0, 0), (6, .iload_n 3, 1, 0, 0, 0), (7, .iload 4, 2, 0, 0, 0), (9, .if_icmp .ge 13, 3, 22, 0, 0),
  (12, .aload_n 0, 1, 0, 0, 0), (13, .iload_n 3, 1, 0, 0, 0), (14, .lload_n 1, 1, 0, 0, 0), (15, .lastore, 1, 0, 0, 0), (16, .iinc 3 1, 3, 0, 0, 0), (19, .goto (-13), 3, 6, 0, 0), (22, .return_, 1, 0, 0, 0)]
/-- java/lang/String.length()I -/
def mm_c282 : List (Nat × mm_E) := [(0, .aload_n 0, 1, 0, 0, 0), (1, .getfield 9, 3, 30, 0, 0), (4, .arraylength, 1, 0, 0, 0), (5, .aload_n 0, 1, 0, 0, 0), (6, .invokevirtual 335, 3, 283, 1, 2), (9, .ishr, 1, 0, 0, 0), (10, .ireturn, 1, 0, 0, 0)]
/-- java/lang/String.coder()B -/
def mm_c283 : List (Nat × mm_E) := [(0, .getstatic 38, 3, 0, 0, 0), (3, .ifCond .eq 10, 3, 13, 0, 0), (6, .aload_n 0, 1, 0, 0, 0), (7, .getfield 15, 3, 30, 1, 0), (10, .goto 4, 3, 14, 0, 0), (13, .iconst 1, 1, 0, 0, 0), (14, .ireturn, 1, 0, 0, 0)]
/-- java/lang/String.charAt(I)C -/
def mm_c284 : List (Nat × mm_E) := [(0, .aload_n 0, 1, 0, 0, 0), (1, .invokevirtual 492, 3, 285, 1, 2), (4, .ifCond .eq 12, 3, 16, 0, 0), (7, .aload_n 0, 1, 0, 0, 0), (8, .getfield 9, 3, 30, 0, 0), (11, .iload_n 1, 1, 0, 0, 0), (12, .invokestatic 495, 3, 289, 2, 1), (15, .ireturn, 1, 0, 0, 0),
  (16, .aload_n 0, 1, 0, 0, 0), (17, .getfield 9, 3, 30, 0, 0), (20, .iload_n 1, 1, 0, 0, 0), (21, .invokestatic 498, 3, 999, 0, 98), (24, .ireturn, 1, 0, 0, 0)]
/-- java/lang/String.isLatin1()Z -/
def mm_c285 : List (Nat × mm_E) := [(0, .getstatic 38, 3, 0, 0, 0), (3, .ifCond .eq 14, 3, 17, 0, 0), (6, .aload_n 0, 1, 0, 0, 0), (7, .getfield 15, 3, 30, 1, 0), (10, .ifCond .ne 7, 3, 17, 0, 0), (13, .iconst 1, 1, 0, 0, 0), (14, .goto 4, 3, 18, 0, 0), (17, .iconst 0, 1, 0, 0, 0),
  (18, .ireturn, 1, 0, 0, 0)]
/-- java/lang/String.checkIndex(II)V -/
def mm_c286 : List (Nat × mm_E) := [(0, .iload_n 0, 1, 0, 0, 0), (1, .iload_n 1, 1, 0, 0, 0), (2, .getstatic 1053, 3, 1, 0, 0), (5, .invokestatic 1059, 3, 293, 3, 1), (8, .pop, 1, 0, 0, 0), (9, .return_, 1, 0, 0, 0)]
/-- java/lang/String.indexOf(I)I -/
def mm_c287 : List (Nat × mm_E) := [(0, .aload_n 0, 1, 0, 0, 0), (1, .iload_n 1, 1, 0, 0, 0), (2, .iconst 0, 1, 0, 0, 0), (3, .invokevirtual 633, 3, 288, 3, 2), (6, .ireturn, 1, 0, 0, 0)]
/-- java/lang/String.indexOf(II)I -/
def mm_c288 : List (Nat × mm_E) := [(0, .aload_n 0, 1, 0, 0, 0), (1, .invokevirtual 492, 3, 285, 1, 2), (4, .ifCond .eq 19, 3, 23, 0, 0), (7, .aload_n 0, 1, 0, 0, 0), (8, .getfield 9, 3, 30, 0, 0), (11, .iload_n 1, 1, 0, 0, 0), (12, .iload_n 2, 1, 0, 0, 0), (13, .aload_n 0, 1, 0, 0, 0),
  (14, .invokevirtual 505, 3, 282, 1, 2), (17, .invokestatic 637, 3, 290, 4, 1), (20, .goto 16, 3, 36, 0, 0), (23, .aload_n 0, 1, 0, 0, 0), (24, .getfield 9, 3, 30, 0, 0), (27, .iload_n 1, 1, 0, 0, 0), (28, .iload_n 2, 1, 0, 0, 0), (29, .aload_n 0, 1, 0, 0, 0),
  (30, .invokevirtual 505, 3, 282, 1, 2), (33, .invokestatic 640, 3, 999, 0, 98), (36, .ireturn, 1, 0, 0, 0)]
/-- java/lang/StringLatin1.charAt([BI)C -/
def mm_c289 : List (Nat × mm_E) := [(0, .iload_n 1, 1, 0, 0, 0), (1, .aload_n 0, 1, 0, 0, 0), (2, .arraylength, 1, 0, 0, 0), (3, .invokestatic 9, 3, 286, 2, 1), (6, .aload_n 0, 1, 0, 0, 0), (7, .iload_n 1, 1, 0, 0, 0), (8, .baload, 1, 0, 0, 0), (9, .sipush 255, 3, 0, 0, 0),
  (12, .iand, 1, 0, 0, 0), (13, .i2c, 1, 0, 0, 0), (14, .ireturn, 1, 0, 0, 0)]
/-- java/lang/StringLatin1.indexOf([BIII)I -/
def mm_c290 : List (Nat × mm_E) := [(0, .iload_n 1, 1, 0, 0, 0), (1, .invokestatic 88, 3, 291, 1, 0), (4, .ifCond .ne 5, 3, 9, 0, 0), (7, .iconst (-1), 1, 0, 0, 0), (8, .ireturn, 1, 0, 0, 0), (9, .iload_n 2, 1, 0, 0, 0), (10, .iconst 0, 1, 0, 0, 0), (11, .invokestatic 92, 3, 0, 0, 10),
  (14, .istore_n 2, 1, 0, 0, 0), (15, .iload_n 3, 1, 0, 0, 0), (16, .aload_n 0, 1, 0, 0, 0), (17, .arraylength, 1, 0, 0, 0), (18, .invokestatic 38, 3, 0, 0, 11), (21, .istore_n 3, 1, 0, 0, 0), (22, .iload_n 2, 1, 0, 0, 0), (23, .iload_n 3, 1, 0, 0, 0),
  (24, .if_icmp .lt 5, 3, 29, 0, 0), (27, .iconst (-1), 1, 0, 0, 0), (28, .ireturn, 1, 0, 0, 0), (29, .aload_n 0, 1, 0, 0, 0), (30, .iload_n 1, 1, 0, 0, 0), (31, .iload_n 2, 1, 0, 0, 0), (32, .iload_n 3, 1, 0, 0, 0), (33, .invokestatic 95, 3, 292, 4, 0),
  (36, .ireturn, 1, 0, 0, 0)]
/-- java/lang/StringLatin1.canEncode(I)Z -/
def mm_c291 : List (Nat × mm_E) := [(0, .iload_n 0, 1, 0, 0, 0), (1, .ifCond .lt 14, 3, 15, 0, 0), (4, .iload_n 0, 1, 0, 0, 0), (5, .sipush 255, 3, 0, 0, 0), (8, .if_icmp .gt 7, 3, 15, 0, 0), (11, .iconst 1, 1, 0, 0, 0), (12, .goto 4, 3, 16, 0, 0), (15, .iconst 0, 1, 0, 0, 0),
  (16, .ireturn, 1, 0, 0, 0)]
/-- java/lang/StringLatin1.indexOfChar([BIII)I -/
def mm_c292 : List (Nat × mm_E) := [(0, .iload_n 1, 1, 0, 0, 0), (1, .i2b, 1, 0, 0, 0), (2, .istore 4, 2, 0, 0, 0), (4, .iload_n 2, 1, 0, 0, 0), (5, .istore 5, 2, 0, 0, 0), (7, .iload 5, 2, 0, 0, 0), (9, .iload_n 3, 1, 0, 0, 0), (10, .if_icmp .ge 21, 3, 31, 0, 0),
  (13, .aload_n 0, 1, 0, 0, 0), (14, .iload 5, 2, 0, 0, 0), (16, .baload, 1, 0, 0, 0), (17, .iload 4, 2, 0, 0, 0), (19, .if_icmp .ne 6, 3, 25, 0, 0), (22, .iload 5, 2, 0, 0, 0), (24, .ireturn, 1, 0, 0, 0), (25, .iinc 5 1, 3, 0, 0, 0),
  (28, .goto (-21), 3, 7, 0, 0), (31, .iconst (-1), 1, 0, 0, 0), (32, .ireturn, 1, 0, 0, 0)]
/-- jdk/internal/util/Preconditions.checkIndex(IILjava/util/function/BiFunction;)I -/
def mm_c293 : List (Nat × mm_E) := [(0, .iload_n 0, 1, 0, 0, 0), (1, .ifCond .lt 8, 3, 9, 0, 0), (4, .iload_n 0, 1, 0, 0, 0), (5, .iload_n 1, 1, 0, 0, 0), (6, .if_icmp .lt 10, 3, 16, 0, 0), (9, .aload_n 2, 1, 0, 0, 0), (10, .iload_n 0, 1, 0, 0, 0), (11, .iload_n 1, 1, 0, 0, 0),
  (12, .invokestatic 95, 3, 999, 0, 99), (15, .athrow, 1, 0, 0, 0), (16, .iload_n 0, 1, 0, 0, 0), (17, .ireturn, 1, 0, 0, 0)]
def mm_prog : List (List (Nat × mm_E)) := [mm_c0, mm_c1, mm_c2, mm_c3, mm_c4, mm_c5, mm_c6, mm_c7, mm_c8, mm_c9, mm_c10, mm_c11, mm_c12, mm_c13, mm_c14, mm_c15, mm_c16, mm_c17, mm_c18, mm_c19, mm_c20, mm_c21, mm_c22, mm_c23, mm_c24, mm_c25, mm_c26, mm_c27, mm_c28, mm_c29, mm_c30, mm_c31, mm_c32, mm_c33, mm_c34, mm_c35, mm_c36, mm_c37, mm_c38, mm_c39, mm_c40, mm_c41, mm_c42, mm_c43, mm_c44, mm_c45, mm_c46, mm_c47, mm_c48, mm_c49, mm_c50, mm_c51, mm_c52, mm_c53, mm_c54, mm_c55, mm_c56, mm_c57, mm_c58, mm_c59, mm_c60, mm_c61, mm_c62, mm_c63, mm_c64, mm_c65, mm_c66, mm_c67, mm_c68, mm_c69, mm_c70, mm_c71, mm_c72, mm_c73, mm_c74, mm_c75, mm_c76, mm_c77, mm_c78, mm_c79, mm_c80, mm_c81, mm_c82, mm_c83, mm_c84, mm_c85, mm_c86, mm_c87, mm_c88, mm_c89, mm_c90, mm_c91, mm_c92, mm_c93, mm_c94, mm_c95, mm_c96, mm_c97, mm_c98, mm_c99, mm_c100, mm_c101, mm_c102, mm_c103, mm_c104, mm_c105, mm_c106, mm_c107, mm_c108, mm_c109, mm_c110, mm_c111, mm_c112, mm_c113, mm_c114, mm_c115, mm_c116, mm_c117, mm_c118, mm_c119, mm_c120, mm_c121, mm_c122, mm_c123, mm_c124, mm_c125, mm_c126, mm_c127, mm_c128, mm_c129, mm_c130, mm_c131, mm_c132, mm_c133, mm_c134, mm_c135, mm_c136, mm_c137, mm_c138, mm_c139, mm_c140, mm_c141, mm_c142, mm_c143, mm_c144, mm_c145, mm_c146, mm_c147, mm_c148, mm_c149, mm_c150, mm_c151, mm_c152, mm_c153, mm_c154, mm_c155, mm_c156, mm_c157, mm_c158, mm_c159, mm_c160, mm_c161, mm_c162, mm_c163, mm_c164, mm_c165, mm_c166, mm_c167, mm_c168, mm_c169, mm_c170, mm_c171, mm_c172, mm_c173, mm_c174, mm_c175, mm_c176, mm_c177, mm_c178, mm_c179, mm_c180, mm_c181, mm_c182, mm_c183, mm_c184, mm_c185, mm_c186, mm_c187, mm_c188, mm_c189, mm_c190, mm_c191, mm_c192, mm_c193, mm_c194, mm_c195, mm_c196, mm_c197, mm_c198, mm_c199, mm_c200, mm_c201, mm_c202, mm_c203, mm_c204, mm_c205, mm_c206, mm_c207, mm_c208, mm_c209, mm_c210, mm_c211, mm_c212, mm_c213, mm_c214, mm_c215, mm_c216, mm_c217, mm_c218, mm_c219, mm_c220, mm_c221, mm_c222, mm_c223, mm_c224, mm_c225, mm_c226, mm_c227, mm_c228, mm_c229, mm_c230, mm_c231, mm_c232, mm_c233, mm_c234, mm_c235, mm_c236, mm_c237, mm_c238, mm_c239, mm_c240, mm_c241, mm_c242, mm_c243, mm_c244, mm_c245, mm_c246, mm_c247, mm_c248, mm_c249, mm_c250, mm_c251, mm_c252, mm_c253, mm_c254, mm_c255, mm_c256, mm_c257, mm_c258, mm_c259, mm_c260, mm_c261, mm_c262, mm_c263, mm_c264, mm_c265, mm_c266, mm_c267, mm_c268, mm_c269, mm_c270, mm_c271, mm_c272, mm_c273, mm_c274, mm_c275, mm_c276, mm_c277, mm_c278, mm_c279, mm_c280, mm_c281, mm_c282, mm_c283, mm_c284, mm_c285, mm_c286, mm_c287, mm_c288, mm_c289, mm_c290, mm_c291, mm_c292, mm_c293]
/-- a method: its name, bytes, locals, answer, its class -/
def mm_mt : List (MethodName × ByteArray × Nat × Option FieldType × Nat) := [(⟨"SamePassers$Film", "<init>", "()V"⟩, prog_2_method_1_code, 1, none, 0),
  (⟨"SamePassers$Film", "shoot", "(ILSamePassers$Walks;LSamePassers$Street;I)V"⟩, prog_2_method_2_code, 6, none, 0),
  (⟨"SamePassers$Film", "allJumps", "(LSamePassers$Street;II)I"⟩, prog_2_method_4_code, 6, some .int, 0),
  (⟨"SamePassers$Film", "jumpOf", "(LSamePassers$Street;III)I"⟩, prog_2_method_3_code, 5, some .int, 0),
  (⟨"SamePassers$Film", "findNext", "(LSamePassers$Papers;LSamePassers$Street;)I"⟩, prog_2_method_5_code, 9, some .int, 0),
  (⟨"SamePassers$Film", "followersOf", "(ILSamePassers$Papers;LSamePassers$Street;)I"⟩, prog_2_method_6_code, 10, some .int, 0),
  (⟨"SamePassers$Film", "canWalk", "(II)Z"⟩, prog_2_method_7_code, 2, some .boolean, 0),
  (⟨"SamePassers$Film", "mostPairs", "(II)I"⟩, prog_2_method_8_code, 5, some .int, 0),
  (⟨"SamePassers$Film", "findPlace", "(II)Z"⟩, prog_2_method_9_code, 5, some .boolean, 0),
  (⟨"SamePassers$Hands", "<init>", "()V"⟩, prog_3_method_1_code, 1, none, 1),
  (⟨"SamePassers$Hands", "asTold", "(LSamePassers$Street;)V"⟩, prog_3_method_2_code, 3, none, 1),
  (⟨"SamePassers$Hands", "copyFrom", "(LSamePassers$Hands;)V"⟩, prog_3_method_4_code, 2, none, 1),
  (⟨"SamePassers$Hands", "goOn", "()V"⟩, prog_3_method_3_code, 1, none, 1),
  (⟨"SamePassers$LagSearch", "<init>", "(LSamePassers$Street;)V"⟩, prog_4_method_1_code, 2, none, 2),
  (⟨"SamePassers$LagSearch", "find", "(LSamePassers$Street;LSamePassers$Walks;I)Z"⟩, prog_4_method_2_code, 5, some .boolean, 2),
  (⟨"SamePassers$LagSearch", "fillRow", "(ILSamePassers$Walks;)V"⟩, prog_4_method_3_code, 6, none, 2),
  (⟨"SamePassers$LagSearch", "lagsForMusts", "(I)I"⟩, prog_4_method_5_code, 6, some .int, 2),
  (⟨"SamePassers$LagSearch", "cellWith", "(III)I"⟩, prog_4_method_4_code, 4, some .int, 2),
  (⟨"SamePassers$LagSearch", "fillTogether", "()V"⟩, prog_4_method_6_code, 3, none, 2),
  (⟨"SamePassers$LagSearch", "forbidBumps", "(II)V"⟩, prog_4_method_7_code, 7, none, 2),
  (⟨"SamePassers$LagSearch", "firstBump", "(IIII)I"⟩, prog_4_method_9_code, 7, some .int, 2),
  (⟨"SamePassers$LagSearch", "forbid", "(IIII)V"⟩, prog_4_method_8_code, 5, none, 2),
  (⟨"SamePassers$LagSearch", "search", "(II)V"⟩, prog_4_method_10_code, 5, none, 2),
  (⟨"SamePassers$Law", "<init>", "(Ljava/lang/String;Ljava/lang/String;)V"⟩, prog_5_method_1_code, 3, none, 3),
  (⟨"SamePassers$Law", "clear", "()V"⟩, prog_5_method_2_code, 1, none, 3),
  (⟨"SamePassers$Law", "add", "(I)V"⟩, prog_5_method_3_code, 2, none, 3),
  (⟨"SamePassers$Law", "valueFor", "(II)I"⟩, prog_5_method_4_code, 6, some .int, 3),
  (⟨"SamePassers$Law", "act", "(III)I"⟩, prog_5_method_5_code, 3, some .int, 3),
  (⟨"SamePassers$Papers", "<init>", "()V"⟩, prog_6_method_1_code, 1, none, 4),
  (⟨"SamePassers$Papers", "addTold", "(II)Z"⟩, prog_6_method_2_code, 3, some .boolean, 4),
  (⟨"SamePassers$Papers", "addSight", "(IIZ)Z"⟩, prog_6_method_3_code, 4, some .boolean, 4),
  (⟨"SamePassers$Papers", "copyFrom", "(LSamePassers$Papers;)V"⟩, prog_6_method_4_code, 2, none, 4),
  (⟨"SamePassers$Papers", "seekLaws", "(I)V"⟩, prog_6_method_5_code, 6, none, 4),
  (⟨"SamePassers$Papers", "holds", "(II)Z"⟩, prog_6_method_6_code, 4, some .boolean, 4),
  (⟨"SamePassers$Papers", "addLaw", "(III)V"⟩, prog_6_method_7_code, 5, none, 4),
  (⟨"SamePassers$Reader", "<init>", "(LSamePassers$Tape;LSamePassers$Street;LSamePassers$Script;)V"⟩, prog_7_method_1_code, 4, none, 5),
  (⟨"SamePassers$Reader", "readStreet", "(LSamePassers$Street;)I"⟩, prog_7_method_2_code, 4, some .int, 5),
  (⟨"SamePassers$Reader", "readGround", "()Z"⟩, prog_7_method_11_code, 1, some .boolean, 5),
  (⟨"SamePassers$Reader", "readNumberBehind", "(III)Z"⟩, prog_7_method_7_code, 4, some .boolean, 5),
  (⟨"SamePassers$Reader", "readToken", "(I)Z"⟩, prog_7_method_5_code, 2, some .boolean, 5),
  (⟨"SamePassers$Reader", "fail", "(I)Z"⟩, prog_7_method_4_code, 2, some .boolean, 5),
  (⟨"SamePassers$Reader", "readNumber", "(II)Z"⟩, prog_7_method_6_code, 3, some .boolean, 5),
  (⟨"SamePassers$Reader", "readSay", "()Z"⟩, prog_7_method_12_code, 1, some .boolean, 5),
  (⟨"SamePassers$Reader", "readNewName", "()Z"⟩, prog_7_method_8_code, 1, some .boolean, 5),
  (⟨"SamePassers$Reader", "readWalker", "()Z"⟩, prog_7_method_13_code, 3, some .boolean, 5),
  (⟨"SamePassers$Reader", "readKind", "(LSamePassers$Walker;)Z"⟩, prog_7_method_14_code, 2, some .boolean, 5),
  (⟨"SamePassers$Reader", "readPlace", "(LSamePassers$Walker;)Z"⟩, prog_7_method_15_code, 2, some .boolean, 5),
  (⟨"SamePassers$Reader", "readGait", "(LSamePassers$Walker;)Z"⟩, prog_7_method_16_code, 2, some .boolean, 5),
  (⟨"SamePassers$Reader", "readCue", "(LSamePassers$Walker;)Z"⟩, prog_7_method_17_code, 2, some .boolean, 5),
  (⟨"SamePassers$Reader", "seeWordName", "()Z"⟩, prog_7_method_10_code, 1, some .boolean, 5),
  (⟨"SamePassers$Reader", "readMust", "()Z"⟩, prog_7_method_18_code, 3, some .boolean, 5),
  (⟨"SamePassers$Reader", "readWalkerName", "()Z"⟩, prog_7_method_9_code, 1, some .boolean, 5),
  (⟨"SamePassers$Reader", "readRound", "()Z"⟩, prog_7_method_19_code, 1, some .boolean, 5),
  (⟨"SamePassers$Reader", "readLaw", "(LSamePassers$Law;)Z"⟩, prog_7_method_20_code, 2, some .boolean, 5),
  (⟨"SamePassers$Reader", "readLevel", "(LSamePassers$Law;II)Z"⟩, prog_7_method_21_code, 7, some .boolean, 5),
  (⟨"SamePassers$Reader", "readPart", "(LSamePassers$Law;I)Z"⟩, prog_7_method_22_code, 5, some .boolean, 5),
  (⟨"SamePassers$Reader", "partOf", "(LSamePassers$Law;)I"⟩, prog_7_method_23_code, 2, some .int, 5),
  (⟨"SamePassers$Reader", "levelOf", "(I)I"⟩, prog_7_method_24_code, 1, some .int, 5),
  (⟨"SamePassers$Reader", "actOf", "(I)I"⟩, prog_7_method_25_code, 1, some .int, 5),
  (⟨"SamePassers$Reader", "readTakes", "(LSamePassers$Street;LSamePassers$Script;)I"⟩, prog_7_method_3_code, 5, some .int, 5),
  (⟨"SamePassers$Reader", "readTakesLine", "()Z"⟩, prog_7_method_26_code, 2, some .boolean, 5),
  (⟨"SamePassers$Script", "<init>", "()V"⟩, prog_8_method_1_code, 1, none, 6),
  (⟨"SamePassers$Script", "add", "(III)V"⟩, prog_8_method_2_code, 4, none, 6),
  (⟨"SamePassers$Script", "play", "(ILSamePassers$Hands;)V"⟩, prog_8_method_3_code, 4, none, 6),
  (⟨"SamePassers$Street", "<init>", "()V"⟩, prog_9_method_1_code, 2, none, 7),
  (⟨"SamePassers$Street", "clear", "()V"⟩, prog_9_method_2_code, 1, none, 7),
  (⟨"SamePassers$Street", "findWord", "(J)I"⟩, prog_9_method_3_code, 4, some .int, 7),
  (⟨"SamePassers$Street", "findWalker", "(J)I"⟩, prog_9_method_4_code, 4, some .int, 7),
  (⟨"SamePassers$Street", "hasMust", "(II)Z"⟩, prog_9_method_5_code, 4, some .boolean, 7),
  (⟨"SamePassers$Street", "addMust", "(III)V"⟩, prog_9_method_6_code, 4, none, 7),
  (⟨"SamePassers$Street", "tempoOf", "(II)I"⟩, prog_9_method_7_code, 4, some .int, 7),
  (⟨"SamePassers$Street", "cueOf", "(I)I"⟩, prog_9_method_9_code, 4, some .int, 7),
  (⟨"SamePassers$Street", "inFrame", "(I)Z"⟩, prog_9_method_10_code, 2, some .boolean, 7),
  (⟨"SamePassers$Street", "knownBy", "(II)I"⟩, prog_9_method_8_code, 3, some .int, 7),
  (⟨"SamePassers$Street", "jumpBetween", "(II)I"⟩, prog_9_method_11_code, 3, some .int, 7),
  (⟨"SamePassers$Tape", "<init>", "()V"⟩, prog_10_method_1_code, 4, none, 8),
  (⟨"SamePassers$Tape", "asWord", "(Ljava/lang/String;)J"⟩, prog_10_method_2_code, 4, some .long, 8),
  (⟨"SamePassers$Tape", "add", "(J)V"⟩, prog_10_method_3_code, 6, none, 8),
  (⟨"SamePassers$Tape", "rewind", "()V"⟩, prog_10_method_4_code, 1, none, 8),
  (⟨"SamePassers$Tape", "step", "()V"⟩, prog_10_method_6_code, 2, none, 8),
  (⟨"SamePassers$Tape", "stepWord", "()V"⟩, prog_10_method_7_code, 2, none, 8),
  (⟨"SamePassers$Tape", "stepNumber", "()V"⟩, prog_10_method_8_code, 1, none, 8),
  (⟨"SamePassers$Tape", "empty", "()V"⟩, prog_10_method_5_code, 1, none, 8),
  (⟨"SamePassers$Walker", "<init>", "()V"⟩, prog_11_method_1_code, 1, none, 9),
  (⟨"SamePassers$Walks", "<init>", "(LSamePassers$Street;)V"⟩, prog_12_method_1_code, 2, none, 10),
  (⟨"SamePassers$Walks", "set", "(LSamePassers$Street;LSamePassers$Hands;IZ)V"⟩, prog_12_method_2_code, 6, none, 10),
  (⟨"SamePassers$Walks", "passesOf", "(I)I"⟩, prog_12_method_8_code, 6, some .int, 10),
  (⟨"SamePassers$Walks", "cellOf", "(II)I"⟩, prog_12_method_3_code, 3, some .int, 10),
  (⟨"SamePassers$Walks", "cellAfter", "(II)I"⟩, prog_12_method_4_code, 7, some .int, 10),
  (⟨"SamePassers$Walks", "along", "(IIII)I"⟩, prog_12_method_5_code, 9, some .int, 10),
  (⟨"SamePassers$Walks", "knownOf", "(I)I"⟩, prog_12_method_9_code, 2, some .int, 10),
  (⟨"SamePassers$Walks", "isGood", "()Z"⟩, prog_12_method_15_code, 1, some .boolean, 10),
  (⟨"SamePassers$Walks", "missedMusts", "()I"⟩, prog_12_method_14_code, 3, some .int, 10),
  (⟨"SamePassers$Walks", "offOf", "(I)I"⟩, prog_12_method_13_code, 3, some .int, 10),
  (⟨"SamePassers$Walks", "anyBump", "()Z"⟩, prog_12_method_11_code, 2, some .boolean, 10),
  (⟨"SamePassers$Walks", "bumpsAt", "(I)Z"⟩, prog_12_method_12_code, 7, some .boolean, 10),
  (⟨"SamePassers$Walks", "sharpness", "(II)I"⟩, prog_12_method_7_code, 3, some .int, 10),
  (⟨"SamePassers$Walks", "firstBump", "(II)I"⟩, prog_12_method_10_code, 5, some .int, 10),
  (⟨"SamePassers$Walks", "seenCell", "(II)I"⟩, prog_12_method_6_code, 4, some .int, 10),
  (⟨"SamePassers", "<init>", "()V"⟩, prog_1_method_1_code, 2, none, 11),
  (⟨"SamePassers", "feed", "(JJJ)I"⟩, prog_1_method_2_code, 7, some .int, 11),
  (⟨"SamePassers", "street", "()I"⟩, prog_1_method_3_code, 3, some .int, 11),
  (⟨"SamePassers", "beginStreet", "()V"⟩, prog_1_method_45_code, 1, none, 11),
  (⟨"SamePassers", "forgetPast", "()V"⟩, prog_1_method_47_code, 1, none, 11),
  (⟨"SamePassers", "setNow", "()V"⟩, prog_1_method_48_code, 1, none, 11),
  (⟨"SamePassers", "takes", "()I"⟩, prog_1_method_4_code, 3, some .int, 11),
  (⟨"SamePassers", "walker", "(II)I"⟩, prog_1_method_5_code, 4, some .int, 11),
  (⟨"SamePassers", "isWalker", "(I)Z"⟩, prog_1_method_37_code, 2, some .boolean, 11),
  (⟨"SamePassers", "tenth", "(I)I"⟩, prog_1_method_6_code, 2, some .int, 11),
  (⟨"SamePassers", "isWord", "(I)Z"⟩, prog_1_method_39_code, 2, some .boolean, 11),
  (⟨"SamePassers", "start", "(II)Z"⟩, prog_1_method_7_code, 3, some .boolean, 11),
  (⟨"SamePassers", "isCell", "(I)Z"⟩, prog_1_method_41_code, 2, some .boolean, 11),
  (⟨"SamePassers", "remember", "()V"⟩, prog_1_method_46_code, 1, none, 11),
  (⟨"SamePassers", "turn", "(I)Z"⟩, prog_1_method_8_code, 2, some .boolean, 11),
  (⟨"SamePassers", "late", "(II)Z"⟩, prog_1_method_9_code, 3, some .boolean, 11),
  (⟨"SamePassers", "take", "()I"⟩, prog_1_method_10_code, 1, some .int, 11),
  (⟨"SamePassers", "undo", "()Z"⟩, prog_1_method_11_code, 1, some .boolean, 11),
  (⟨"SamePassers", "judged", "(I)I"⟩, prog_1_method_12_code, 5, some .int, 11),
  (⟨"SamePassers", "where", "(II)I"⟩, prog_1_method_13_code, 3, some .int, 11),
  (⟨"SamePassers", "isTenth", "(I)Z"⟩, prog_1_method_43_code, 1, some .boolean, 11),
  (⟨"SamePassers", "seen", "(II)I"⟩, prog_1_method_14_code, 3, some .int, 11),
  (⟨"SamePassers", "first", "(II)I"⟩, prog_1_method_15_code, 3, some .int, 11),
  (⟨"SamePassers", "good", "()Z"⟩, prog_1_method_16_code, 1, some .boolean, 11),
  (⟨"SamePassers", "off", "(I)I"⟩, prog_1_method_17_code, 2, some .int, 11),
  (⟨"SamePassers", "isMust", "(I)Z"⟩, prog_1_method_40_code, 2, some .boolean, 11),
  (⟨"SamePassers", "until", "(II)I"⟩, prog_1_method_18_code, 4, some .int, 11),
  (⟨"SamePassers", "unknown", "()I"⟩, prog_1_method_19_code, 6, some .int, 11),
  (⟨"SamePassers", "lags", "(II)I"⟩, prog_1_method_20_code, 4, some .int, 11),
  (⟨"SamePassers", "areWalkers", "(I)Z"⟩, prog_1_method_38_code, 2, some .boolean, 11),
  (⟨"SamePassers", "full", "(I)I"⟩, prog_1_method_21_code, 9, some .int, 11),
  (⟨"SamePassers", "seenOnWords", "()J"⟩, prog_1_method_49_code, 5, some .long, 11),
  (⟨"SamePassers", "fills", "(IIJ)Z"⟩, prog_1_method_50_code, 7, some .boolean, 11),
  (⟨"SamePassers", "jump", "(IIIII)I"⟩, prog_1_method_22_code, 7, some .int, 11),
  (⟨"SamePassers", "isTake", "(I)Z"⟩, prog_1_method_44_code, 1, some .boolean, 11),
  (⟨"SamePassers", "shoot", "(III)V"⟩, prog_1_method_51_code, 4, none, 11),
  (⟨"SamePassers", "best", "(II)I"⟩, prog_1_method_23_code, 9, some .int, 11),
  (⟨"SamePassers", "row", "(II)J"⟩, prog_1_method_24_code, 7, some .long, 11),
  (⟨"SamePassers", "isLane", "(I)Z"⟩, prog_1_method_42_code, 2, some .boolean, 11),
  (⟨"SamePassers", "wrong", "()I"⟩, prog_1_method_25_code, 5, some .int, 11),
  (⟨"SamePassers", "change", "(II)I"⟩, prog_1_method_26_code, 5, some .int, 11),
  (⟨"SamePassers", "canStandFor", "(III)Z"⟩, prog_1_method_52_code, 8, some .boolean, 11),
  (⟨"SamePassers", "other", "(III)I"⟩, prog_1_method_27_code, 5, some .int, 11),
  (⟨"SamePassers", "tell", "(II)Z"⟩, prog_1_method_28_code, 3, some .boolean, 11),
  (⟨"SamePassers", "notes", "(I)I"⟩, prog_1_method_30_code, 7, some .int, 11),
  (⟨"SamePassers", "secondsOf", "(I)I"⟩, prog_1_method_53_code, 4, some .int, 11),
  (⟨"SamePassers", "worthOf", "(I)I"⟩, prog_1_method_54_code, 4, some .int, 11),
  (⟨"SamePassers", "whose", "(III)I"⟩, prog_1_method_31_code, 6, some .int, 11),
  (⟨"SamePassers", "sight", "(IIZ)Z"⟩, prog_1_method_32_code, 4, some .boolean, 11),
  (⟨"SamePassers", "hired", "(I)I"⟩, prog_1_method_33_code, 3, some .int, 11),
  (⟨"SamePassers", "days", "(III)I"⟩, prog_1_method_34_code, 13, some .int, 11),
  (⟨"SamePassers", "drawLates", "(J)J"⟩, prog_1_method_55_code, 7, some .long, 11),
  (⟨"SamePassers", "nextDraw", "(J)J"⟩, prog_1_method_56_code, 2, some .long, 11),
  (⟨"SamePassers", "mark", "(IZ)Z"⟩, prog_1_method_35_code, 3, some .boolean, 11),
  (⟨"SamePassers", "count", "(I)I"⟩, prog_1_method_36_code, 2, some .int, 11),
  (⟨"SamePassers", "laws", "(I)I"⟩, prog_1_method_29_code, 2, some .int, 11),
  (⟨"SamePassersModel", "thrown", "()I"⟩, prog_14_method_1_code, 1, some .int, 12),
  (⟨"SamePassersModel", "feed", "(JJJ)I"⟩, prog_14_method_2_code, 7, some .int, 12),
  (⟨"SamePassersModel", "lay", "(J)V"⟩, prog_14_method_3_code, 5, none, 12),
  (⟨"SamePassersModel", "<init>", "()V"⟩, prog_14_method_4_code, 1, none, 12),
  (⟨"SamePassersModel", "standsAsAlways", "(I)V"⟩, prog_14_method_18_code, 3, none, 12),
  (⟨"SamePassersModel", "begins", "()V"⟩, prog_14_method_46_code, 2, none, 12),
  (⟨"SamePassersModel", "starts", "(I)V"⟩, prog_14_method_45_code, 3, none, 12),
  (⟨"SamePassersModel", "walkerOf", "(II)I"⟩, prog_14_method_53_code, 3, some .int, 12),
  (⟨"SamePassersModel", "street", "()I"⟩, prog_14_method_27_code, 2, some .int, 12),
  (⟨"SamePassersModel", "cutAll", "()V"⟩, prog_14_method_9_code, 7, none, 12),
  (⟨"SamePassersModel", "isLetter", "(I)Z"⟩, prog_14_method_5_code, 1, some .boolean, 12),
  (⟨"SamePassersModel", "rank", "(I)I"⟩, prog_14_method_7_code, 1, some .int, 12),
  (⟨"SamePassersModel", "isDigit", "(I)Z"⟩, prog_14_method_6_code, 1, some .boolean, 12),
  (⟨"SamePassersModel", "isSignOf", "(I)Z"⟩, prog_14_method_8_code, 1, some .boolean, 12),
  (⟨"SamePassersModel", "takeWord", "(I)V"⟩, prog_14_method_16_code, 2, none, 12),
  (⟨"SamePassersModel", "hasWord", "(I)Z"⟩, prog_14_method_15_code, 3, some .boolean, 12),
  (⟨"SamePassersModel", "isWord", "(I)Z"⟩, prog_14_method_12_code, 2, some .boolean, 12),
  (⟨"SamePassersModel", "wrong", "(I)V"⟩, prog_14_method_10_code, 2, none, 12),
  (⟨"SamePassersModel", "takeNumber", "(II)I"⟩, prog_14_method_19_code, 3, some .int, 12),
  (⟨"SamePassersModel", "takeAfter", "(III)I"⟩, prog_14_method_20_code, 4, some .int, 12),
  (⟨"SamePassersModel", "takeSign", "(I)V"⟩, prog_14_method_13_code, 2, none, 12),
  (⟨"SamePassersModel", "isSign", "(I)Z"⟩, prog_14_method_11_code, 2, some .boolean, 12),
  (⟨"SamePassersModel", "readLine", "()V"⟩, prog_14_method_28_code, 1, none, 12),
  (⟨"SamePassersModel", "readSay", "()V"⟩, prog_14_method_31_code, 2, none, 12),
  (⟨"SamePassersModel", "readName", "(I)V"⟩, prog_14_method_29_code, 2, none, 12),
  (⟨"SamePassersModel", "isName", "()Z"⟩, prog_14_method_23_code, 1, some .boolean, 12),
  (⟨"SamePassersModel", "wordHere", "(II)I"⟩, prog_14_method_21_code, 5, some .int, 12),
  (⟨"SamePassersModel", "find", "(Z)I"⟩, prog_14_method_24_code, 3, some .int, 12),
  (⟨"SamePassersModel", "readWalker", "()V"⟩, prog_14_method_32_code, 3, none, 12),
  (⟨"SamePassersModel", "takeOne", "(II)I"⟩, prog_14_method_22_code, 4, some .int, 12),
  (⟨"SamePassersModel", "lastCell", "()I"⟩, prog_14_method_30_code, 1, some .int, 12),
  (⟨"SamePassersModel", "takeTold", "(ZII)I"⟩, prog_14_method_26_code, 5, some .int, 12),
  (⟨"SamePassersModel", "toldHere", "(ZII)I"⟩, prog_14_method_25_code, 5, some .int, 12),
  (⟨"SamePassersModel", "within", "(III)Z"⟩, prog_14_method_17_code, 3, some .boolean, 12),
  (⟨"SamePassersModel", "readMust", "()V"⟩, prog_14_method_33_code, 5, none, 12),
  (⟨"SamePassersModel", "readOnce", "()V"⟩, prog_14_method_34_code, 2, none, 12),
  (⟨"SamePassersModel", "all", "(I)V"⟩, prog_14_method_37_code, 3, none, 12),
  (⟨"SamePassersModel", "test", "(I)V"⟩, prog_14_method_38_code, 3, none, 12),
  (⟨"SamePassersModel", "sums", "(I)V"⟩, prog_14_method_39_code, 3, none, 12),
  (⟨"SamePassersModel", "products", "(I)V"⟩, prog_14_method_40_code, 2, none, 12),
  (⟨"SamePassersModel", "takePart", "(I)V"⟩, prog_14_method_41_code, 4, none, 12),
  (⟨"SamePassersModel", "emit", "(II)V"⟩, prog_14_method_36_code, 3, none, 12),
  (⟨"SamePassersModel", "hasSign", "(I)Z"⟩, prog_14_method_14_code, 3, some .boolean, 12),
  (⟨"SamePassersModel", "takes", "()I"⟩, prog_14_method_35_code, 3, some .int, 12),
  (⟨"SamePassersModel", "walker", "(II)I"⟩, prog_14_method_67_code, 3, some .int, 12),
  (⟨"SamePassersModel", "isWalker", "(I)Z"⟩, prog_14_method_56_code, 2, some .boolean, 12),
  (⟨"SamePassersModel", "walkers", "()I"⟩, prog_14_method_51_code, 1, some .int, 12),
  (⟨"SamePassersModel", "tempoOf", "(II)I"⟩, prog_14_method_58_code, 4, some .int, 12),
  (⟨"SamePassersModel", "worthAt", "(I)I"⟩, prog_14_method_42_code, 5, some .int, 12),
  (⟨"SamePassersModel", "both", "(III)I"⟩, prog_14_method_43_code, 3, some .int, 12),
  (⟨"SamePassersModel", "passesOf", "(I)I"⟩, prog_14_method_65_code, 7, some .int, 12),
  (⟨"SamePassersModel", "behindOf", "(II)I"⟩, prog_14_method_77_code, 3, some .int, 12),
  (⟨"SamePassersModel", "placeOf", "(IIIIII)I"⟩, prog_14_method_60_code, 13, some .int, 12),
  (⟨"SamePassersModel", "cells", "()I"⟩, prog_14_method_48_code, 1, some .int, 12),
  (⟨"SamePassersModel", "cueOf", "(I)I"⟩, prog_14_method_59_code, 3, some .int, 12),
  (⟨"SamePassersModel", "tenthOf", "(I)I"⟩, prog_14_method_55_code, 2, some .int, 12),
  (⟨"SamePassersModel", "sightOf", "(II)I"⟩, prog_14_method_64_code, 3, some .int, 12),
  (⟨"SamePassersModel", "isFramed", "(I)Z"⟩, prog_14_method_63_code, 2, some .boolean, 12),
  (⟨"SamePassersModel", "knownOf", "(I)I"⟩, prog_14_method_66_code, 4, some .int, 12),
  (⟨"SamePassersModel", "tenth", "(I)I"⟩, prog_14_method_68_code, 2, some .int, 12),
  (⟨"SamePassersModel", "isSaid", "(I)Z"⟩, prog_14_method_57_code, 2, some .boolean, 12),
  (⟨"SamePassersModel", "saidMany", "()I"⟩, prog_14_method_50_code, 1, some .int, 12),
  (⟨"SamePassersModel", "start", "(II)Z"⟩, prog_14_method_69_code, 3, some .boolean, 12),
  (⟨"SamePassersModel", "keeps", "()V"⟩, prog_14_method_47_code, 2, none, 12),
  (⟨"SamePassersModel", "copies", "(III)V"⟩, prog_14_method_44_code, 5, none, 12),
  (⟨"SamePassersModel", "turn", "(I)Z"⟩, prog_14_method_70_code, 2, some .boolean, 12),
  (⟨"SamePassersModel", "late", "(II)Z"⟩, prog_14_method_71_code, 3, some .boolean, 12),
  (⟨"SamePassersModel", "take", "()I"⟩, prog_14_method_73_code, 1, some .int, 12),
  (⟨"SamePassersModel", "next", "(I)V"⟩, prog_14_method_72_code, 3, none, 12),
  (⟨"SamePassersModel", "undo", "()Z"⟩, prog_14_method_74_code, 1, some .boolean, 12),
  (⟨"SamePassersModel", "judged", "(I)I"⟩, prog_14_method_80_code, 8, some .int, 12),
  (⟨"SamePassersModel", "isGood", "(I)Z"⟩, prog_14_method_79_code, 5, some .boolean, 12),
  (⟨"SamePassersModel", "missedIn", "(I)I"⟩, prog_14_method_76_code, 4, some .int, 12),
  (⟨"SamePassersModel", "musts", "()I"⟩, prog_14_method_52_code, 1, some .int, 12),
  (⟨"SamePassersModel", "offIn", "(IIZI)I"⟩, prog_14_method_75_code, 7, some .int, 12),
  (⟨"SamePassersModel", "mustOf", "(II)I"⟩, prog_14_method_54_code, 3, some .int, 12),
  (⟨"SamePassersModel", "placeIn", "(IIZII)I"⟩, prog_14_method_61_code, 7, some .int, 12),
  (⟨"SamePassersModel", "bumpOf", "(III)I"⟩, prog_14_method_78_code, 8, some .int, 12),
  (⟨"SamePassersModel", "where", "(II)I"⟩, prog_14_method_81_code, 3, some .int, 12),
  (⟨"SamePassersModel", "placeNow", "(II)I"⟩, prog_14_method_62_code, 3, some .int, 12),
  (⟨"SamePassersModel", "seen", "(II)I"⟩, prog_14_method_82_code, 3, some .int, 12),
  (⟨"SamePassersModel", "first", "(II)I"⟩, prog_14_method_83_code, 3, some .int, 12),
  (⟨"SamePassersModel", "good", "()Z"⟩, prog_14_method_84_code, 1, some .boolean, 12),
  (⟨"SamePassersModel", "off", "(I)I"⟩, prog_14_method_85_code, 2, some .int, 12),
  (⟨"SamePassersModel", "until", "(II)I"⟩, prog_14_method_86_code, 4, some .int, 12),
  (⟨"SamePassersModel", "unknown", "()I"⟩, prog_14_method_87_code, 6, some .int, 12),
  (⟨"SamePassersModel", "row", "(II)J"⟩, prog_14_method_88_code, 7, some .long, 12),
  (⟨"SamePassersModel", "lanes", "()I"⟩, prog_14_method_49_code, 1, some .int, 12),
  (⟨"SamePassersModel", "whose", "(III)I"⟩, prog_14_method_89_code, 6, some .int, 12),
  (⟨"SamePassersModel", "lags", "(II)I"⟩, prog_14_method_97_code, 4, some .int, 12),
  (⟨"SamePassersModel", "bits", "(I)I"⟩, prog_14_method_96_code, 3, some .int, 12),
  (⟨"SamePassersModel", "laysFits", "()V"⟩, prog_14_method_94_code, 5, none, 12),
  (⟨"SamePassersModel", "doHold", "(II)Z"⟩, prog_14_method_91_code, 5, some .boolean, 12),
  (⟨"SamePassersModel", "laggedPlace", "(III)I"⟩, prog_14_method_90_code, 5, some .int, 12),
  (⟨"SamePassersModel", "fitAt", "(IIII)I"⟩, prog_14_method_93_code, 5, some .int, 12),
  (⟨"SamePassersModel", "goTogether", "(IIII)Z"⟩, prog_14_method_92_code, 8, some .boolean, 12),
  (⟨"SamePassersModel", "goesThrough", "(II)V"⟩, prog_14_method_95_code, 6, none, 12),
  (⟨"SamePassersModel", "full", "(I)I"⟩, prog_14_method_98_code, 8, some .int, 12),
  (⟨"SamePassersModel", "jump", "(IIIII)I"⟩, prog_14_method_101_code, 7, some .int, 12),
  (⟨"SamePassersModel", "allJumps", "(IIII)I"⟩, prog_14_method_100_code, 7, some .int, 12),
  (⟨"SamePassersModel", "jumpOf", "(IIIII)I"⟩, prog_14_method_99_code, 11, some .int, 12),
  (⟨"SamePassersModel", "best", "(II)I"⟩, prog_14_method_102_code, 9, some .int, 12),
  (⟨"SamePassersModel", "wrong", "()I"⟩, prog_14_method_103_code, 5, some .int, 12),
  (⟨"SamePassersModel", "change", "(II)I"⟩, prog_14_method_105_code, 5, some .int, 12),
  (⟨"SamePassersModel", "isAlike", "(III)Z"⟩, prog_14_method_104_code, 9, some .boolean, 12),
  (⟨"SamePassersModel", "other", "(III)I"⟩, prog_14_method_106_code, 5, some .int, 12),
  (⟨"SamePassersModel", "tell", "(II)Z"⟩, prog_14_method_107_code, 3, some .boolean, 12),
  (⟨"SamePassersModel", "laws", "(I)I"⟩, prog_14_method_109_code, 9, some .int, 12),
  (⟨"SamePassersModel", "isLaw", "(II)Z"⟩, prog_14_method_108_code, 5, some .boolean, 12),
  (⟨"SamePassersModel", "notes", "(I)I"⟩, prog_14_method_110_code, 9, some .int, 12),
  (⟨"SamePassersModel", "sight", "(IIZ)Z"⟩, prog_14_method_111_code, 5, some .boolean, 12),
  (⟨"SamePassersModel", "hired", "(I)I"⟩, prog_14_method_118_code, 3, some .int, 12),
  (⟨"SamePassersModel", "matched", "()I"⟩, prog_14_method_115_code, 4, some .int, 12),
  (⟨"SamePassersModel", "finds", "(I)Z"⟩, prog_14_method_114_code, 3, some .boolean, 12),
  (⟨"SamePassersModel", "mayBe", "(II)Z"⟩, prog_14_method_113_code, 3, some .boolean, 12),
  (⟨"SamePassersModel", "canFollow", "(II)Z"⟩, prog_14_method_112_code, 10, some .boolean, 12),
  (⟨"SamePassersModel", "laysNext", "(I)V"⟩, prog_14_method_117_code, 5, none, 12),
  (⟨"SamePassersModel", "isTaken", "(II)Z"⟩, prog_14_method_116_code, 5, some .boolean, 12),
  (⟨"SamePassersModel", "days", "(III)I"⟩, prog_14_method_120_code, 10, some .int, 12),
  (⟨"SamePassersModel", "draw", "(I)I"⟩, prog_14_method_119_code, 2, some .int, 12),
  (⟨"SamePassersModel", "mark", "(IZ)Z"⟩, prog_14_method_121_code, 3, some .boolean, 12),
  (⟨"SamePassersModel", "count", "(I)I"⟩, prog_14_method_122_code, 2, some .int, 12),
  (⟨"SamePassersLaw", "law", "([I)Z"⟩, code, 7, some .boolean, 13),
  (⟨"SamePassersLaw", "laws", "(LSamePassers;I[J)I"⟩, method_3_code, 4, some .int, 13),
  (⟨"java/lang/Integer", "bitCount", "(I)I"⟩, prog_20_method_49_code, 1, some .int, 14),
  (⟨"java/util/Arrays", "fill", "([II)V"⟩, prog_30_method_103_code, 4, none, 15),
  (⟨"java/util/Arrays", "fill", "([JJ)V"⟩, prog_30_method_101_code, 5, none, 15),
  (⟨"java/lang/String", "length", "()I"⟩, prog_23_method_54_code, 1, some .int, 16),
  (⟨"java/lang/String", "coder", "()B"⟩, prog_23_method_152_code, 1, some .byte, 16),
  (⟨"java/lang/String", "charAt", "(I)C"⟩, prog_23_method_56_code, 2, some .char, 16),
  (⟨"java/lang/String", "isLatin1", "()Z"⟩, prog_23_method_154_code, 1, some .boolean, 16),
  (⟨"java/lang/String", "checkIndex", "(II)V"⟩, prog_23_method_155_code, 2, none, 16),
  (⟨"java/lang/String", "indexOf", "(I)I"⟩, prog_23_method_79_code, 2, some .int, 16),
  (⟨"java/lang/String", "indexOf", "(II)I"⟩, prog_23_method_80_code, 3, some .int, 16),
  (⟨"java/lang/StringLatin1", "charAt", "([BI)C"⟩, prog_24_method_2_code, 2, some .char, 17),
  (⟨"java/lang/StringLatin1", "indexOf", "([BIII)I"⟩, prog_24_method_22_code, 4, some .int, 17),
  (⟨"java/lang/StringLatin1", "canEncode", "(I)Z"⟩, prog_24_method_4_code, 1, some .boolean, 17),
  (⟨"java/lang/StringLatin1", "indexOfChar", "([BIII)I"⟩, prog_24_method_23_code, 6, some .int, 17),
  (⟨"jdk/internal/util/Preconditions", "checkIndex", "(IILjava/util/function/BiFunction;)I"⟩, prog_32_method_11_code, 3, some .int, 18)]
end
section
def mm_cn : Nat → String
  | 0 => "SamePassers$Film"
  | 1 => "SamePassers$Hands"
  | 2 => "SamePassers$LagSearch"
  | 3 => "SamePassers$Law"
  | 4 => "SamePassers$Papers"
  | 5 => "SamePassers$Reader"
  | 6 => "SamePassers$Script"
  | 7 => "SamePassers$Street"
  | 8 => "SamePassers$Tape"
  | 9 => "SamePassers$Walker"
  | 10 => "SamePassers$Walks"
  | 11 => "SamePassers"
  | 12 => "SamePassersModel"
  | 13 => "SamePassersLaw"
  | 14 => "java/lang/Integer"
  | 15 => "java/util/Arrays"
  | 16 => "java/lang/String"
  | 17 => "java/lang/StringLatin1"
  | _ => "jdk/internal/util/Preconditions"
def mm_T : Nat → u_T
  | 0 => TX0
  | 1 => TX1
  | 2 => TX2
  | 3 => TX3
  | 4 => TX4
  | 5 => TX5
  | 6 => TX6
  | 7 => TX7
  | 8 => TX8
  | 9 => TX9
  | 10 => TX10
  | 11 => TX11
  | _ => TX12
def mm_ty : Nat → Nat → FieldType
  | 0 => tyX0
  | 1 => tyX1
  | 2 => tyX2
  | 3 => tyX3
  | 4 => tyX4
  | 5 => tyX5
  | 6 => tyX6
  | 7 => tyX7
  | 8 => tyX8
  | 9 => tyX9
  | 10 => tyX10
  | 11 => tyX11
  | _ => tyX12
/-- the kinds of a class's fields: 0 int, 1 long, 2 a reference, 3 boolean -/
def mm_ft : Nat → List Nat
  | 0 => [2, 2, 2, 0, 0, 2]
  | 1 => [0, 2, 2, 2]
  | 2 => [2, 2, 2, 2, 2, 0, 2, 2, 0]
  | 3 => [1, 1, 2, 2, 0, 3]
  | 4 => [0, 2, 2, 0, 2, 2, 2, 0, 0, 0, 3]
  | 5 => [2, 2, 2, 0, 0, 0, 1]
  | 6 => [0, 2, 2, 2]
  | 7 => [0, 0, 0, 0, 0, 0, 3, 0, 2, 2, 0, 2, 0, 2, 2, 2, 2, 2]
  | 8 => [2, 2, 0, 0, 0, 0, 0, 1]
  | 9 => [1, 0, 0, 0, 0, 0, 0, 0]
  | 10 => [2, 2, 2, 2, 2, 2]
  | 11 => [2, 2, 2, 2, 2, 2, 2, 2, 2, 2, 0, 0, 2, 2, 0, 2, 2, 2, 2]
  | 12 => [0, 2, 0, 0, 2, 2, 2, 0, 0, 2, 2, 2, 2, 0, 2, 2, 2, 2, 0, 0, 3, 0, 2, 2, 2, 2, 0, 2, 2, 2, 2, 2, 2, 2, 0, 0, 2, 2, 2, 1]
  | _ => []
def mm_y (k : Nat) : MethodName := match mm_mt[k]? with
  | some q => q.1
  | none => ⟨"", "", ""⟩
def mm_plc : List Nat := [658, 1251, 1256, 1260, 1337, 1340, 1343, 1347, 1352, 513, 948, 1057, 1077, 620, 1181, 1185, 1191, 1196, 1201, 1206, 1210, 1214, 1219, 271, 353, 357, 971, 974, 542, 1305, 1329, 1378, 1461, 1466, 1470, 485, 754, 835, 839, 843, 847, 852, 856, 860, 872, 876, 880, 884, 888, 892, 896, 900, 912, 916, 921, 925, 929, 933, 936, 988, 992, 463, 996, 1115, 261, 349, 864, 868, 904, 908, 967, 980, 1024, 1033, 1264, 172, 275, 746, 759, 763, 767, 771, 940, 304, 594, 963, 1008, 1012, 1016, 1020, 1028, 1089, 1093, 1097, 1104, 1108, 1132, 1140, 1232, 164, 742, 750, 944, 955, 959, 984, 1000, 1004, 1037, 1041, 1045, 1049, 1053, 1065, 1069, 1073, 1081, 1085, 1120, 1123, 1128, 1136, 1144, 1148, 1152, 1157, 1161, 1167, 1177, 1224, 1228, 1236, 1240, 1243, 1247, 1270, 1275, 1279, 1284, 1288, 1292, 1297, 1301, 1309, 1313, 1317, 1321, 1325, 1333, 1356, 1360, 1363, 1374, 1383, 1391, 1476, 1480, 1485, 1489, 1528, 1532, 1536, 1540, 1666, 1670, 1673, 1677, 1680, 1685, 1689, 1693, 1697, 1701, 1705, 1709, 1713, 1717, 1721, 1725, 1729, 1733, 1737, 1741, 1745, 1749, 1753, 1757, 1761, 1764, 1768, 1772, 1776, 1780, 1784, 1788, 1792, 1796, 1800, 1804, 1808, 1812, 1816, 1820, 1824, 1827, 1831, 1835, 1839, 1843, 1847, 1851, 1855, 1859, 1863, 1867, 1871, 1875, 1879, 1883, 1887, 1891, 1895, 1899, 1903, 1907, 1911, 1915, 1919, 1923, 1927, 1931, 1935, 1939, 1943, 1947, 1951, 1955, 1959, 1963, 1967, 1971, 1976, 1980, 1985, 1989, 1992, 1996, 2000, 2004, 2008, 2012, 2016, 2020, 2024, 2028, 2032, 2036, 2040, 2044, 2048, 2052, 2056, 2060, 2064, 2068, 2072, 2076, 2080, 2084, 2088, 2092, 2096, 2100, 2104, 2108, 2116, 2120, 0, 1386, 1170, 951, 1111, 178, 182, 188, 192, 198, 776, 780, 195, 784, 787, 796, 203]
def mm_bt : Option Cond → ByteArray
  | some (.code _ b _ _) => b
  | some (.codeWith _ b _ _ _) => b
  | _ => ⟨#[]⟩
def mm_b (k : Nat) : ByteArray := if k = 277 then code else mm_bt (lw_tbl[mm_plc.getD k 0]?)
def mm_nm : Option Cond → Option (MethodName × Nat × Option FieldType)
  | some (.code y _ n r) => some (y, n, r)
  | _ => none
theorem mm_nm_e {o : Option Cond} {y : MethodName} {n : Nat} {r : Option FieldType} (h : mm_nm o = some (y, n, r)) : ∃ b, o = some (.code y b n r) := by
  unfold mm_nm at h
  split at h
  · cases h; exact ⟨_, rfl⟩
  · cases h
def mm_mx (j : Nat) : Nat := match mm_mt[j]? with
  | some q => q.2.2.1
  | none => 0
def mm_rt (k : Nat) : Option FieldType := match mm_mt[k]? with
  | some q => q.2.2.2.1
  | none => none
def mm_ow (k : Nat) : Nat := match mm_mt[k]? with
  | some q => q.2.2.2.2
  | none => 0
theorem mm_inp {α : Type} {l : List α} {f : α → Cond} {ps : List Nat} {big : List Cond} (h : l.map f = ps.filterMap (fun i => big[i]?)) : ∀ x ∈ l, f x ∈ big := by
  intro x hx
  have h1 : f x ∈ l.map f := List.mem_map.mpr ⟨x, hx, rfl⟩
  rw [h] at h1
  obtain ⟨i, -, hi⟩ := List.mem_filterMap.mp h1
  exact List.mem_of_getElem? hi
def mm_fl : List (Nat × Nat × Nat × Nat) := [(0, 11, 0, 0), (0, 16, 0, 1), (0, 20, 0, 2), (0, 23, 0, 5), (0, 26, 7, 10), (0, 45, 4, 3), (0, 50, 0, 3), (0, 60, 4, 5), (0, 63, 4, 6), (0, 66, 4, 4), (0, 73, 7, 0), (0, 76, 7, 5),
  (0, 85, 0, 4), (1, 9, 1, 1), (1, 15, 1, 2), (1, 18, 1, 3), (1, 21, 1, 0), (1, 25, 7, 10), (1, 30, 7, 11), (1, 34, 9, 3), (1, 39, 9, 4), (2, 11, 2, 0), (2, 17, 2, 1), (2, 20, 2, 2),
  (2, 23, 2, 3), (2, 26, 2, 4), (2, 29, 2, 7), (2, 32, 2, 6), (2, 36, 2, 5), (2, 40, 7, 10), (2, 59, 2, 8), (2, 69, 7, 11), (2, 73, 9, 6), (2, 90, 7, 12), (2, 93, 7, 9), (2, 96, 7, 14),
  (2, 99, 7, 13), (2, 106, 7, 15), (2, 115, 9, 2), (3, 9, 3, 2), (3, 15, 3, 3), (3, 24, 3, 0), (3, 28, 3, 1), (3, 31, 3, 4), (3, 35, 3, 5), (4, 9, 4, 1), (4, 15, 4, 2), (4, 18, 4, 4),
  (4, 21, 4, 5), (4, 24, 4, 6), (4, 27, 4, 0), (4, 31, 4, 3), (4, 40, 4, 7), (4, 43, 4, 10), (4, 61, 4, 8), (4, 64, 4, 9), (5, 9, 5, 0), (5, 15, 5, 1), (5, 19, 5, 2), (5, 28, 5, 3),
  (5, 41, 8, 4), (5, 56, 7, 16), (5, 64, 7, 17), (5, 77, 6, 0), (5, 85, 8, 5), (5, 91, 8, 6), (5, 94, 5, 4), (5, 99, 8, 7), (5, 110, 5, 6), (5, 113, 5, 5), (5, 120, 7, 0), (5, 123, 7, 1),
  (5, 126, 7, 2), (5, 129, 7, 3), (5, 132, 7, 4), (5, 135, 7, 7), (5, 141, 7, 8), (5, 145, 7, 9), (5, 149, 7, 10), (5, 152, 7, 11), (5, 169, 9, 0), (5, 172, 9, 1), (5, 175, 9, 2), (5, 178, 9, 3),
  (5, 181, 9, 4), (5, 184, 9, 5), (5, 187, 9, 6), (5, 190, 9, 7), (5, 195, 7, 12), (5, 208, 7, 6), (5, 212, 7, 5), (5, 215, 3, 5), (5, 244, 3, 0), (5, 247, 3, 1), (6, 9, 6, 1), (6, 15, 6, 2),
  (6, 18, 6, 3), (6, 21, 6, 0), (6, 32, 1, 1), (6, 35, 1, 2), (6, 38, 1, 3), (7, 9, 7, 8), (7, 15, 7, 9), (7, 21, 7, 11), (7, 25, 7, 13), (7, 28, 7, 14), (7, 31, 7, 15), (7, 43, 7, 16),
  (7, 51, 7, 17), (7, 58, 7, 0), (7, 62, 7, 1), (7, 65, 7, 2), (7, 68, 7, 3), (7, 71, 7, 4), (7, 74, 7, 5), (7, 77, 7, 6), (7, 81, 7, 7), (7, 84, 7, 10), (7, 87, 7, 12), (7, 95, 9, 0),
  (7, 99, 9, 5), (7, 114, 9, 1), (7, 116, 9, 7), (7, 119, 9, 6), (8, 9, 8, 0), (8, 15, 8, 1), (8, 33, 8, 3), (8, 36, 8, 2), (8, 42, 8, 5), (8, 45, 8, 4), (8, 60, 8, 7), (8, 64, 8, 6),
  (10, 9, 10, 0), (10, 15, 10, 1), (10, 18, 10, 2), (10, 21, 10, 3), (10, 25, 10, 5), (10, 28, 10, 4), (10, 32, 7, 10), (10, 38, 1, 1), (10, 41, 1, 2), (10, 50, 1, 3), (10, 56, 7, 0), (10, 59, 7, 11),
  (10, 63, 9, 1), (10, 72, 7, 5), (10, 82, 9, 2), (10, 85, 7, 4), (10, 103, 7, 13), (10, 106, 7, 9), (10, 109, 7, 14), (10, 112, 7, 15), (10, 120, 7, 12), (11, 10, 11, 0), (11, 19, 11, 1), (11, 23, 11, 2),
  (11, 29, 11, 3), (11, 33, 11, 4), (11, 41, 11, 5), (11, 48, 11, 6), (11, 52, 11, 7), (11, 58, 11, 8), (11, 62, 11, 9), (11, 66, 11, 12), (11, 69, 11, 13), (11, 78, 11, 15), (11, 82, 11, 16), (11, 88, 11, 17),
  (11, 95, 11, 18), (11, 103, 8, 3), (11, 122, 7, 11), (11, 126, 9, 1), (11, 131, 9, 2), (11, 134, 1, 1), (11, 138, 1, 2), (11, 141, 10, 5), (11, 144, 9, 6), (11, 147, 9, 7), (11, 150, 1, 3), (11, 163, 7, 9),
  (11, 175, 1, 0), (11, 181, 11, 10), (11, 184, 11, 11), (11, 194, 6, 0), (11, 197, 6, 1), (11, 233, 7, 10), (11, 250, 2, 8), (11, 253, 2, 7), (11, 285, 7, 7), (11, 292, 7, 1), (11, 298, 7, 2), (11, 301, 7, 3),
  (11, 324, 4, 7), (11, 329, 4, 8), (11, 332, 4, 10), (11, 338, 4, 9), (11, 351, 4, 3), (11, 358, 0, 5), (11, 372, 11, 14), (11, 381, 7, 0), (11, 384, 7, 12), (11, 387, 4, 0), (12, 1, 12, 0), (12, 11, 12, 2),
  (12, 14, 12, 1), (12, 24, 12, 4), (12, 27, 12, 5), (12, 30, 12, 6), (12, 102, 12, 9), (12, 105, 12, 10), (12, 108, 12, 11), (12, 111, 12, 12), (12, 114, 12, 14), (12, 117, 12, 15), (12, 120, 12, 16), (12, 123, 12, 17),
  (12, 126, 12, 22), (12, 129, 12, 23), (12, 132, 12, 24), (12, 135, 12, 25), (12, 138, 12, 27), (12, 142, 12, 28), (12, 145, 12, 29), (12, 148, 12, 30), (12, 151, 12, 31), (12, 154, 12, 32), (12, 157, 12, 33), (12, 160, 12, 36),
  (12, 163, 12, 37), (12, 166, 12, 38), (12, 180, 12, 3), (12, 199, 12, 7), (12, 202, 12, 8), (12, 227, 12, 19), (12, 230, 12, 18), (12, 252, 12, 13), (12, 255, 12, 20), (12, 294, 12, 21), (12, 328, 12, 26), (12, 423, 12, 35),
  (12, 438, 12, 34), (12, 481, 12, 39)]
def mm_fl_c (x : Nat × Nat × Nat × Nat) : Cond := .fieldLink (mm_cn x.1) x.2.1 (mm_T x.2.2.1 x.2.2.2).1 (mm_T x.2.2.1 x.2.2.2).2.1 (mm_T x.2.2.1 x.2.2.2).2.2.1
set_option maxRecDepth 100000 in
theorem mm_fl_p : mm_fl.map mm_fl_c = [661, 662, 663, 666, 391, 549, 664, 554, 556, 552, 360, 377, 665, 517, 521, 525, 515, 392, 399, 316, 318, 624, 625, 626, 627, 628, 631, 630, 629, 394, 633, 400, 322, 405, 387, 413, 410, 416, 313, 280, 281, 276, 278, 282, 283, 546, 547, 551, 553, 555, 544, 548, 557, 563, 559, 561, 487, 488, 489, 490, 229, 419, 421, 466, 231, 233, 491, 236, 493, 492, 361, 364, 367, 370, 374, 382, 385, 389, 396, 403, 307, 311, 315, 317, 319, 321, 325, 328, 407, 380, 378, 284, 277, 279, 468, 470, 471, 465, 519, 523, 527, 384, 386, 398, 409, 412, 415, 418, 420, 358, 363, 366, 369, 372, 375, 379, 381, 395, 404, 306, 320, 310, 327, 324, 224, 225, 228, 226, 232, 230, 235, 234, 596, 597, 598, 599, 601, 600, 393, 518, 522, 526, 359, 401, 308, 376, 314, 373, 411, 390, 414, 417, 406, 681, 682, 683, 684, 685, 686, 687, 688, 689, 690, 693, 694, 696, 697, 698, 699, 227, 402, 309, 312, 520, 524, 602, 323, 326, 528, 388, 516, 691, 692, 467, 469, 397, 634, 632, 383, 365, 368, 371, 558, 560, 564, 562, 550, 667, 695, 362, 408, 545, 1541, 1543, 1542, 1545, 1546, 1547, 1550, 1551, 1552, 1553, 1555, 1556, 1557, 1558, 1563, 1564, 1565, 1566, 1568, 1569, 1570, 1571, 1572, 1573, 1574, 1577, 1578, 1579, 1544, 1548, 1549, 1560, 1559, 1554, 1561, 1562, 1567, 1576, 1575, 1580].filterMap (fun i => lw_tbl[i]?) := by decide +kernel
theorem mm_fl_w : ∀ x ∈ mm_fl, mm_fl_c x ∈ lw_tbl := mm_inp mm_fl_p
def mm_ml : List (Nat × Nat × Nat) := [(0, 32, 98), (0, 38, 74), (0, 41, 3), (0, 53, 5), (0, 57, 7), (0, 69, 6), (0, 79, 280), (0, 88, 8), (1, 42, 280), (2, 45, 15), (2, 49, 16), (2, 53, 18),
  (2, 62, 22), (2, 66, 71), (2, 78, 88), (2, 102, 17), (2, 109, 280), (2, 118, 19), (2, 121, 20), (2, 125, 21), (3, 18, 76), (3, 39, 27), (4, 53, 33), (4, 57, 34),
  (5, 23, 65), (5, 32, 78), (5, 37, 37), (5, 44, 42), (5, 47, 44), (5, 50, 50), (5, 53, 52), (5, 60, 53), (5, 67, 40), (5, 71, 39), (5, 74, 82), (5, 82, 60),
  (5, 88, 79), (5, 95, 41), (5, 103, 66), (5, 107, 67), (5, 116, 38), (5, 138, 43), (5, 156, 45), (5, 160, 46), (5, 163, 47), (5, 166, 48), (5, 192, 49), (5, 198, 51),
  (5, 201, 68), (5, 204, 69), (5, 220, 24), (5, 221, 54), (5, 225, 55), (5, 229, 57), (5, 233, 58), (5, 236, 25), (5, 240, 56), (5, 250, 62), (6, 27, 12), (7, 40, 23),
  (7, 55, 65), (7, 90, 24), (7, 91, 25), (7, 102, 26), (8, 21, 282), (8, 27, 284), (8, 39, 79), (8, 48, 80), (8, 51, 81), (8, 56, 287), (10, 42, 70), (10, 46, 71),
  (10, 53, 88), (10, 68, 89), (10, 75, 87), (10, 78, 72), (10, 88, 86), (10, 91, 73), (10, 94, 95), (10, 97, 281), (10, 123, 93), (10, 126, 92), (10, 130, 94), (11, 9, 75),
  (11, 18, 64), (11, 38, 35), (11, 75, 84), (11, 87, 13), (11, 99, 77), (11, 107, 36), (11, 111, 102), (11, 114, 59), (11, 118, 107), (11, 153, 86), (11, 157, 90), (11, 160, 109),
  (11, 166, 111), (11, 169, 112), (11, 172, 104), (11, 178, 12), (11, 187, 11), (11, 191, 10), (11, 200, 85), (11, 204, 91), (11, 208, 63), (11, 212, 119), (11, 215, 87), (11, 219, 96),
  (11, 222, 97), (11, 225, 124), (11, 228, 93), (11, 238, 279), (11, 243, 128), (11, 246, 14), (11, 256, 130), (11, 260, 131), (11, 264, 133), (11, 267, 134), (11, 271, 2), (11, 275, 3),
  (11, 280, 137), (11, 288, 140), (11, 295, 98), (11, 304, 29), (11, 320, 32), (11, 341, 144), (11, 344, 145), (11, 347, 30), (11, 354, 4), (11, 361, 150), (11, 365, 92), (11, 369, 94),
  (11, 375, 31), (11, 378, 103), (11, 393, 1), (11, 399, 151), (12, 7, 157), (12, 169, 159), (12, 173, 160), (12, 176, 165), (12, 185, 166), (12, 189, 167), (12, 196, 168), (12, 205, 176),
  (12, 208, 172), (12, 211, 171), (12, 214, 170), (12, 217, 169), (12, 220, 173), (12, 224, 181), (12, 233, 180), (12, 237, 182), (12, 241, 188), (12, 245, 187), (12, 249, 164), (12, 259, 174),
  (12, 263, 175), (12, 266, 177), (12, 269, 178), (12, 272, 183), (12, 275, 189), (12, 278, 190), (12, 281, 179), (12, 284, 184), (12, 287, 185), (12, 291, 186), (12, 297, 191), (12, 300, 196),
  (12, 304, 192), (12, 307, 193), (12, 310, 197), (12, 313, 194), (12, 316, 195), (12, 319, 204), (12, 322, 162), (12, 325, 161), (12, 331, 219), (12, 335, 201), (12, 338, 216), (12, 341, 203),
  (12, 344, 210), (12, 347, 208), (12, 350, 209), (12, 353, 202), (12, 356, 207), (12, 360, 231), (12, 364, 212), (12, 367, 206), (12, 370, 211), (12, 373, 205), (12, 376, 200), (12, 379, 213),
  (12, 382, 215), (12, 385, 218), (12, 388, 223), (12, 391, 230), (12, 394, 228), (12, 397, 229), (12, 401, 227), (12, 404, 232), (12, 407, 226), (12, 410, 234), (12, 415, 242), (12, 420, 248),
  (12, 426, 247), (12, 430, 249), (12, 434, 250), (12, 441, 251), (12, 444, 245), (12, 447, 246), (12, 450, 255), (12, 454, 254), (12, 457, 259), (12, 460, 263), (12, 463, 270), (12, 466, 269),
  (12, 469, 268), (12, 472, 272), (12, 475, 267), (12, 478, 271), (12, 493, 274), (13, 7, 154), (13, 15, 99), (13, 18, 158), (13, 21, 100), (13, 25, 156), (13, 26, 101), (13, 30, 163),
  (13, 31, 105), (13, 34, 198), (13, 35, 106), (13, 39, 199), (13, 40, 108), (13, 43, 214), (13, 44, 110), (13, 48, 217), (13, 49, 113), (13, 53, 220), (13, 54, 114), (13, 57, 221),
  (13, 58, 115), (13, 61, 222), (13, 62, 116), (13, 66, 224), (13, 67, 117), (13, 70, 225), (13, 71, 118), (13, 74, 233), (13, 75, 120), (13, 78, 235), (13, 79, 121), (13, 82, 236),
  (13, 83, 122), (13, 86, 237), (13, 87, 123), (13, 90, 238), (13, 91, 125), (13, 94, 239), (13, 95, 126), (13, 98, 240), (13, 99, 127), (13, 102, 244), (13, 103, 129), (13, 106, 252),
  (13, 107, 132), (13, 111, 253), (13, 112, 135), (13, 115, 256), (13, 116, 136), (13, 120, 241), (13, 121, 138), (13, 124, 257), (13, 125, 139), (13, 128, 258), (13, 129, 141), (13, 133, 260),
  (13, 134, 142), (13, 137, 261), (13, 138, 278), (13, 143, 262), (13, 144, 155), (13, 147, 143), (13, 150, 264), (13, 151, 146), (13, 154, 243), (13, 155, 147), (13, 159, 265), (13, 160, 148),
  (13, 163, 266), (13, 164, 149), (13, 167, 273), (13, 168, 152), (13, 172, 275), (13, 173, 153), (13, 176, 276), (16, 335, 283), (16, 492, 285), (16, 495, 289), (16, 505, 282), (16, 633, 288),
  (16, 637, 290), (16, 1059, 293), (17, 9, 286), (17, 88, 291), (17, 95, 292)]
def mm_ml_c (x : Nat × Nat × Nat) : Cond := .methodLink (mm_cn x.1) x.2.1 (mm_y x.2.2)
set_option maxRecDepth 100000 in
theorem mm_ml_p : mm_ml.map mm_ml_c = [1252, 1261, 1257, 1338, 1344, 1341, 1348, 1349, 949, 1182, 1188, 1198, 1216, 1186, 1187, 1193, 1202, 1203, 1207, 1211, 273, 972, 1463, 1467, 755, 756, 832, 853, 869, 893, 909, 913, 844, 840, 937, 989, 848, 849, 861, 865, 836, 857, 873, 877, 881, 885, 889, 897, 901, 905, 917, 918, 922, 931, 934, 930, 926, 993, 1116, 269, 346, 350, 354, 968, 175, 185, 760, 764, 768, 773, 964, 977, 1013, 1017, 1009, 1021, 1029, 1030, 1105, 1109, 1094, 1090, 1101, 170, 259, 483, 592, 618, 743, 751, 941, 985, 1001, 1005, 1025, 1038, 1046, 1050, 956, 1074, 1054, 945, 960, 1086, 1112, 1121, 1124, 1129, 1137, 1149, 1153, 1168, 1174, 1178, 1225, 1233, 1241, 1244, 1253, 1266, 1276, 1289, 1229, 1302, 1458, 1310, 1314, 1326, 1334, 1357, 1369, 1370, 1375, 952, 1248, 1361, 1481, 1525, 1529, 1671, 1675, 1678, 1683, 1714, 1698, 1694, 1690, 1686, 1702, 1734, 1730, 1738, 1762, 1758, 1667, 1706, 1710, 1718, 1722, 1742, 1765, 1769, 1726, 1746, 1750, 1754, 1773, 1793, 1777, 1781, 1797, 1785, 1789, 1825, 1537, 1533, 1884, 1813, 1872, 1821, 1848, 1840, 1844, 1817, 1836, 1932, 1856, 1832, 1852, 1828, 1809, 1860, 1868, 1880, 1900, 1928, 1920, 1924, 1916, 1936, 1912, 1944, 1977, 2001, 1997, 2005, 2009, 2013, 1990, 1993, 2029, 2025, 2045, 2061, 2089, 2085, 2081, 2097, 2077, 2093, 2105, 1388, 162, 1487, 739, 1477, 747, 1663, 981, 1801, 997, 1805, 1034, 1864, 1042, 1876, 1062, 1888, 1066, 1892, 1070, 1896, 1078, 1904, 1082, 1908, 1117, 1940, 1125, 1948, 1133, 1952, 1141, 1956, 1145, 1960, 1154, 1964, 1158, 1968, 1164, 1986, 1221, 2017, 1237, 2021, 1267, 2033, 1272, 1973, 1281, 2037, 1285, 2041, 1294, 2049, 1298, 2053, 1384, 2057, 1473, 1306, 2065, 1318, 1982, 1322, 2069, 1330, 2073, 1353, 2101, 1371, 2113, 1380, 2117, 179, 189, 193, 781, 777, 782, 201, 196, 785, 794].filterMap (fun i => lw_tbl[i]?) := by decide +kernel
theorem mm_ml_w : ∀ x ∈ mm_ml, mm_ml_c x ∈ lw_tbl := mm_inp mm_ml_p
def mm_nl : List (Nat × Nat × Nat) := [(7, 54, 83), (11, 28, 61), (11, 47, 9), (11, 57, 28), (11, 94, 0)]
def mm_nl_c (x : Nat × Nat × Nat) : Cond := .methodLinkNest (mm_cn x.1) x.2.1 (mm_y x.2.2) "SamePassers"
set_option maxRecDepth 100000 in
theorem mm_nl_p : mm_nl.map mm_nl_c = [302, 461, 511, 540, 656].filterMap (fun i => lw_tbl[i]?) := by decide +kernel
theorem mm_nl_w : ∀ x ∈ mm_nl, mm_nl_c x ∈ lw_tbl := mm_inp mm_nl_p
def mm_pn (kd : Int) : MethodName := if kd = 4 then Lib.objectInit else if kd = 10 then Lib.Math.max.name else if kd = 11 then Lib.Math.min.name else if kd = 12 then Lib.Math.abs.name else if kd = 13 then arraycopyName else arraycopyName
def mm_pm : List (Nat × Nat × Int) := [(0, 3, 4), (1, 3, 4), (1, 48, 13), (2, 3, 4), (2, 84, 10), (2, 129, 13), (3, 3, 4), (4, 3, 4), (4, 34, 13), (4, 47, 11), (5, 3, 4), (6, 3, 4),
  (7, 3, 4), (7, 106, 11), (7, 111, 10), (7, 122, 12), (8, 3, 4), (9, 1, 4), (10, 3, 4), (10, 115, 12), (11, 1, 4), (11, 315, 10), (11, 390, 11), (11, 396, 12),
  (12, 18, 4), (17, 38, 11), (17, 92, 10)]
def mm_pm_c (x : Nat × Nat × Int) : Cond := .methodLink (mm_cn x.1) x.2.1 (mm_pn x.2.2)
set_option maxRecDepth 100000 in
theorem mm_pm_p : mm_pm.map mm_pm_c = [659, 514, 1058, 621, 1197, 1220, 272, 543, 1379, 1462, 486, 464, 262, 975, 976, 1265, 173, 305, 595, 1098, 165, 1457, 1061, 1293, 1490, 791, 788].filterMap (fun i => lw_tbl[i]?) := by decide +kernel
theorem mm_pm_w : ∀ x ∈ mm_pm, mm_pm_c x ∈ lw_tbl := mm_inp mm_pm_p
def mm_ck : List Nat := [0, 1, 2, 3, 4, 5, 6, 7, 8, 9, 10, 11, 12, 13, 14, 15, 16, 17, 18, 19, 20, 21, 22, 23, 24, 25, 26, 27, 28, 29, 30, 31, 32, 33, 34, 35, 36, 37, 38, 39, 40, 41, 42, 43, 44, 45, 46, 47, 48, 49, 50, 51, 52, 53, 54, 55, 56, 57, 58, 59, 60, 61, 62, 63, 64, 65, 66, 67, 68, 69, 70, 71, 72, 73, 74, 75, 76, 77, 78, 79, 80, 81, 82, 83, 84, 85, 86, 87, 88, 89, 90, 91, 92, 93, 94, 95, 96, 97, 98, 99, 100, 101, 102, 103, 104, 105, 106, 107, 108, 109, 110, 111, 112, 113, 114, 115, 116, 117, 118, 119, 120, 121, 122, 123, 124, 125, 126, 127, 128, 129, 130, 131, 132, 133, 134, 135, 136, 137, 138, 139, 140, 141, 142, 143, 144, 145, 146, 147, 148, 149, 150, 151, 152, 153, 154, 155, 156, 157, 158, 159, 160, 161, 162, 163, 164, 165, 166, 167, 168, 169, 170, 171, 172, 173, 174, 175, 176, 177, 178, 179, 180, 181, 182, 183, 184, 185, 186, 187, 188, 189, 190, 191, 192, 193, 194, 195, 196, 197, 198, 199, 200, 201, 202, 203, 204, 205, 206, 207, 208, 209, 210, 211, 212, 213, 214, 215, 216, 217, 218, 219, 220, 221, 222, 223, 224, 225, 226, 227, 228, 229, 230, 231, 232, 233, 234, 235, 236, 237, 238, 239, 240, 241, 242, 243, 244, 245, 246, 247, 248, 249, 250, 251, 252, 253, 254, 255, 256, 257, 258, 259, 260, 261, 262, 263, 264, 265, 266, 267, 268, 269, 270, 271, 272, 273, 274, 275, 276, 279, 280, 281, 282, 283, 284, 285, 286, 287, 288, 289, 290, 291, 292, 293]
set_option maxRecDepth 100000 in
theorem mm_ck_p : mm_ck.all (fun k => decide (¬ k = 277) && decide (mm_nm (lw_tbl[mm_plc.getD k 0]?) = some (mm_y k, mm_mx k, mm_rt k))) = true := by decide +kernel
theorem mm_ck_w : ∀ k ∈ mm_ck, Cond.code (mm_y k) (mm_b k) (mm_mx k) (mm_rt k) ∈ lw_tbl := by
  intro k hk
  have h := List.all_eq_true.mp mm_ck_p k hk
  simp only [Bool.and_eq_true, decide_eq_true_eq] at h
  obtain ⟨h0, h1⟩ := h
  obtain ⟨b, hb⟩ := mm_nm_e h1
  have e : mm_b k = b := by
    unfold mm_b
    rw [if_neg h0, hb]
    rfl
  rw [e]
  exact List.mem_of_getElem? hb
def mm_in1 : List (Nat) := [0, 1, 2, 3, 4, 7, 8, 9, 10, 11, 12, 13,
  14, 15, 16, 17, 18, 19, 20, 21, 22, 23, 24, 25,
  26, 28, 29, 30, 31, 32, 33, 34, 35, 36, 37, 38,
  39, 40, 41, 42, 43, 44, 45, 46, 47, 48, 49, 50,
  51, 52, 53, 54, 55, 56, 59, 60, 61, 62, 63, 64,
  65, 66, 67, 68, 69, 70, 71, 72, 73, 74, 75, 77,
  78, 79, 80, 81, 82, 83, 84, 85, 86, 87, 88, 89,
  90, 91, 92, 93, 94, 95, 96, 97, 98, 99, 100, 101,
  102, 103, 104, 105, 106, 107, 108, 109, 110, 111, 112, 113,
  114, 115, 116, 117, 118, 120, 121, 122, 123, 124, 125, 126,
  127, 128, 129, 130, 131, 132, 134, 135, 136, 137, 138, 139,
  140, 141, 142, 143, 144, 145, 146, 147, 148, 149, 150, 152,
  153, 154, 155, 156, 157, 158, 159, 160, 161, 162, 163, 164,
  169, 170, 171, 172, 173, 174, 175, 176, 177, 178, 179, 180,
  181, 182, 183, 184, 185, 186, 187, 189, 190, 191, 192, 193,
  194, 195, 196, 197, 198, 199, 200, 201, 202, 203, 205, 206,
  207, 208, 209, 210, 211, 212, 213, 214, 215, 216, 217, 218,
  219, 220, 221, 222, 223, 224, 225, 226, 227, 228, 229, 230,
  231, 232, 233, 234, 235, 236, 237, 238, 239, 240, 241, 242,
  243, 244, 246, 247, 248, 249, 250, 251, 252, 253, 254, 255,
  256, 257, 258, 259, 260, 261, 262, 263, 264, 265, 266, 267,
  268, 269, 270, 271, 272, 273, 274, 275, 276, 282, 283, 284,
  285, 287, 288]
def mm_in1_c (x : Nat) : Cond := .instanceMethod (mm_y x)
set_option maxRecDepth 100000 in
theorem mm_in1_p : mm_in1.map mm_in1_c = [657, 1249, 1254, 1258, 1335, 1346, 1351, 512, 946, 1055, 1075, 619, 1179, 1184, 1190, 1195, 1200, 1205, 1209, 1213, 1218, 270, 351, 355, 969, 541, 1303, 1327, 1376, 1459, 1465, 1469, 484, 752, 834, 838, 842, 846, 851, 855, 859, 871, 875, 879, 883, 887, 891, 895, 899, 911, 915, 920, 924, 928, 986, 991, 462, 994, 1113, 260, 347, 862, 866, 902, 906, 965, 978, 1022, 1031, 1262, 171, 744, 757, 761, 766, 770, 938, 303, 593, 961, 1006, 1010, 1014, 1019, 1026, 1087, 1091, 1095, 1102, 1107, 1130, 1138, 1230, 163, 740, 748, 943, 954, 958, 982, 998, 1003, 1035, 1040, 1043, 1048, 1052, 1063, 1067, 1071, 1079, 1083, 1118, 1126, 1134, 1142, 1146, 1151, 1155, 1159, 1165, 1176, 1222, 1227, 1235, 1238, 1246, 1268, 1273, 1278, 1282, 1286, 1291, 1295, 1299, 1307, 1312, 1316, 1319, 1323, 1331, 1354, 1359, 1372, 1381, 1389, 1474, 1478, 1483, 1488, 1527, 1531, 1535, 1539, 1664, 1669, 1688, 1692, 1696, 1700, 1704, 1708, 1712, 1716, 1720, 1724, 1728, 1732, 1736, 1740, 1744, 1748, 1752, 1756, 1760, 1767, 1771, 1775, 1779, 1783, 1787, 1791, 1795, 1799, 1802, 1806, 1811, 1815, 1819, 1823, 1830, 1834, 1838, 1842, 1846, 1850, 1854, 1858, 1862, 1865, 1870, 1874, 1877, 1882, 1886, 1889, 1893, 1897, 1902, 1905, 1909, 1914, 1918, 1922, 1926, 1930, 1934, 1938, 1941, 1946, 1949, 1953, 1957, 1961, 1965, 1969, 1974, 1979, 1983, 1987, 1995, 1999, 2003, 2007, 2011, 2015, 2018, 2022, 2027, 2031, 2034, 2038, 2042, 2047, 2050, 2054, 2058, 2063, 2066, 2070, 2074, 2079, 2083, 2087, 2091, 2095, 2099, 2102, 2107, 2114, 2118, 176, 180, 186, 190, 774, 778].filterMap (fun i => lw_tbl[i]?) := by decide +kernel
theorem mm_in1_w : ∀ x ∈ mm_in1, mm_in1_c x ∈ lw_tbl := mm_inp mm_in1_p
def mm_vi : List (Nat) := [1, 2, 3, 4, 7, 8, 10, 11, 12, 14, 15, 16,
  17, 18, 19, 20, 21, 22, 24, 25, 26, 29, 30, 31,
  32, 33, 34, 36, 37, 38, 39, 40, 41, 42, 43, 44,
  45, 46, 47, 48, 49, 50, 51, 52, 53, 54, 55, 56,
  59, 60, 62, 63, 65, 66, 67, 68, 69, 70, 71, 72,
  73, 74, 77, 78, 79, 80, 81, 82, 85, 86, 87, 88,
  89, 90, 91, 92, 93, 94, 95, 96, 97, 98, 100, 101,
  102, 103, 104, 105, 106, 107, 108, 109, 110, 111, 112, 113,
  114, 115, 116, 117, 118, 120, 121, 122, 123, 124, 125, 126,
  127, 128, 129, 130, 131, 132, 134, 135, 136, 137, 138, 139,
  140, 141, 142, 143, 144, 145, 146, 147, 148, 149, 150, 152,
  153, 154, 155, 156, 157, 159, 160, 161, 162, 163, 164, 169,
  170, 171, 172, 173, 174, 175, 176, 177, 178, 179, 180, 181,
  182, 183, 184, 185, 186, 187, 189, 190, 191, 192, 193, 194,
  195, 196, 197, 198, 199, 200, 201, 202, 203, 205, 206, 207,
  208, 209, 210, 211, 212, 213, 214, 215, 216, 217, 218, 219,
  220, 221, 222, 223, 224, 225, 226, 227, 228, 229, 230, 231,
  232, 233, 234, 235, 236, 237, 238, 239, 240, 241, 242, 243,
  244, 246, 247, 248, 249, 250, 251, 252, 253, 254, 255, 256,
  257, 258, 259, 260, 261, 262, 263, 264, 265, 266, 267, 268,
  269, 270, 271, 272, 273, 274, 275, 276, 282, 283, 284, 285,
  287, 288]
def mm_vi_c (x : Nat) : Cond := .selects (mm_y x).cls (mm_y x) (mm_y x)
set_option maxRecDepth 100000 in
theorem mm_vi_p : mm_vi.map mm_vi_c = [1250, 1255, 1259, 1336, 49, 50, 947, 1056, 1076, 1180, 34, 35, 36, 37, 38, 39, 40, 41, 352, 356, 970, 1304, 1328, 1377, 1460, 53, 54, 753, 2, 3, 4, 5, 6, 7, 8, 9, 10, 11, 12, 13, 14, 15, 16, 17, 18, 19, 20, 21, 987, 25, 995, 1114, 348, 863, 867, 903, 907, 966, 979, 1023, 1032, 1263, 745, 758, 762, 0, 1, 939, 962, 1007, 1011, 1015, 27, 1027, 1088, 1092, 1096, 1103, 31, 1131, 1139, 1231, 741, 749, 22, 23, 24, 983, 999, 26, 1036, 28, 1044, 29, 30, 1064, 1068, 1072, 1080, 1084, 1119, 1127, 1135, 1143, 1147, 32, 1156, 1160, 1166, 33, 1223, 42, 43, 1239, 44, 1269, 1274, 45, 1283, 1287, 46, 1296, 1300, 1308, 47, 48, 1320, 1324, 1332, 1355, 51, 1373, 1382, 1390, 1475, 1479, 55, 56, 57, 58, 59, 1665, 60, 61, 62, 63, 64, 65, 66, 67, 68, 69, 70, 71, 72, 73, 74, 75, 76, 77, 78, 79, 80, 81, 82, 83, 84, 85, 86, 87, 88, 1803, 1807, 89, 90, 91, 92, 93, 94, 95, 96, 97, 98, 99, 100, 101, 1866, 102, 103, 1878, 104, 105, 1890, 1894, 1898, 106, 1906, 1910, 107, 108, 109, 110, 111, 112, 113, 1942, 114, 1950, 1954, 1958, 1962, 1966, 1970, 1975, 115, 1984, 1988, 116, 117, 118, 119, 120, 121, 2019, 2023, 122, 123, 2035, 2039, 2043, 124, 2051, 2055, 2059, 125, 2067, 2071, 2075, 126, 127, 128, 129, 130, 131, 2103, 132, 2115, 2119, 177, 181, 187, 191, 775, 779].filterMap (fun i => lw_tbl[i]?) := by decide +kernel
theorem mm_vi_w : ∀ x ∈ mm_vi, mm_vi_c x ∈ lw_tbl := mm_inp mm_vi_p
def mm_si : List (Nat) := [5, 6, 27, 57, 58, 76, 119, 133, 151, 165, 166, 167,
  168, 188, 204, 245, 279, 280, 281, 286, 289, 290, 291, 292,
  293]
def mm_si_c (x : Nat) : Cond := .static (mm_y x)
set_option maxRecDepth 100000 in
theorem mm_si_p : mm_si.map mm_si_c = [1339, 1342, 973, 932, 935, 274, 1122, 1242, 1362, 1672, 1676, 1679, 1684, 1763, 1826, 1991, 1169, 950, 1110, 197, 194, 783, 786, 795, 202].filterMap (fun i => lw_tbl[i]?) := by decide +kernel
theorem mm_si_w : ∀ x ∈ mm_si, mm_si_c x ∈ lw_tbl := mm_inp mm_si_p
def mm_ini : List (Nat) := [0, 1, 2, 3, 4, 5, 6, 7, 8, 9, 10, 11,
  12, 13, 14, 15, 16, 17, 18]
def mm_ini_c (x : Nat) : Cond := .initialized (mm_cn x)
set_option maxRecDepth 100000 in
theorem mm_ini_p : mm_ini.map mm_ini_c = [149, 145, 148, 141, 146, 144, 143, 140, 135, 142, 147, 134, 150, 133, 155, 153, 136, 137, 138].filterMap (fun i => lw_tbl[i]?) := by decide +kernel
theorem mm_ini_w : ∀ x ∈ mm_ini, mm_ini_c x ∈ lw_tbl := mm_inp mm_ini_p
def mm_nw : List (Nat × Nat × Nat) := [(7, 19, 9), (7, 34, 3), (11, 7, 8), (11, 16, 7), (11, 26, 6), (11, 36, 5), (11, 45, 1), (11, 55, 4), (11, 73, 10), (11, 85, 2), (11, 92, 0), (13, 8, 11),
  (13, 16, 12)]
def mm_nw_c (x : Nat × Nat × Nat) : Cond := .classLink (mm_cn x.1) x.2.1 (mm_cn x.2.2)
set_option maxRecDepth 100000 in
theorem mm_nw_p : mm_nw.map mm_nw_c = [263, 265, 168, 257, 459, 481, 509, 538, 590, 616, 654, 160, 1486].filterMap (fun i => lw_tbl[i]?) := by decide +kernel
theorem mm_nw_w : ∀ x ∈ mm_nw, mm_nw_c x ∈ lw_tbl := mm_inp mm_nw_p
def mm_is : List (Nat) := [0, 1, 2, 3, 4, 5, 6, 7, 8, 9, 10, 11,
  12]
def mm_is_c (x : Nat) : Cond := .instantiable (mm_cn x) (mm_ft x).length
set_option maxRecDepth 100000 in
theorem mm_is_p : mm_is.map mm_is_c = [655, 510, 617, 266, 539, 482, 460, 258, 169, 301, 591, 161, 1484].filterMap (fun i => lw_tbl[i]?) := by decide +kernel
theorem mm_is_w : ∀ x ∈ mm_is, mm_is_c x ∈ lw_tbl := mm_inp mm_is_p
def mm_ac : Nat → Nat
  | 24 => 1
  | 25 => 4
  | _ => 9
def mm_an : List (Nat × Nat × Nat) := [(7, 19, 26), (11, 45, 24), (11, 55, 25)]
def mm_an_c (x : Nat × Nat × Nat) : Cond := .classLink (mm_cn x.1) x.2.1 (mm_cn (mm_ac x.2.2))
set_option maxRecDepth 100000 in
theorem mm_an_p : mm_an.map mm_an_c = [263, 509, 538].filterMap (fun i => lw_tbl[i]?) := by decide +kernel
theorem mm_an_w : ∀ x ∈ mm_an, mm_an_c x ∈ lw_tbl := mm_inp mm_an_p
def mm_n2 : List (Nat × Nat) := [(0, 9), (2, 15)]
def mm_n2_c (x : Nat × Nat) : Cond := .classLink (mm_cn x.1) x.2 "[[I"
set_option maxRecDepth 100000 in
theorem mm_n2_p : mm_n2.map mm_n2_c = [660, 622].filterMap (fun i => lw_tbl[i]?) := by decide +kernel
theorem mm_n2_w : ∀ x ∈ mm_n2, mm_n2_c x ∈ lw_tbl := mm_inp mm_n2_p
def mm_kc : List (Nat × Nat × Int) := [(2, 58, 2147483647), (2, 89, 16777215), (11, 279, 2147483647), (14, 265, 1431655765), (14, 266, 858993459), (14, 267, 252645135)]
def mm_kc_c (x : Nat × Nat × Int) : Cond := .constant (mm_cn x.1) x.2.1 (Int32.ofInt x.2.2)
set_option maxRecDepth 100000 in
theorem mm_kc_p : mm_kc.map mm_kc_c = [1215, 1192, 1271, 1171, 1172, 1173].filterMap (fun i => lw_tbl[i]?) := by decide +kernel
theorem mm_kc_w : ∀ x ∈ mm_kc, mm_kc_c x ∈ lw_tbl := mm_inp mm_kc_p
def mm_kl2 : List (Nat × Nat × Int) := [(8, 31, 27), (11, 231, 1000000), (11, 236, 10), (11, 283, -1), (11, 402, 65536), (11, 404, 9), (11, 406, 1103515245), (11, 408, 12345), (11, 410, 2147483648), (12, 34, 1355937207), (12, 36, 22559955), (12, 38, 12158575),
  (12, 40, 755), (12, 42, 36016334), (12, 44, 26073), (12, 46, 57), (12, 48, 1597408270), (12, 50, 609728), (12, 52, 329128), (12, 54, 811933), (12, 56, 16472), (12, 58, 569), (12, 60, 687961), (12, 62, 34523964),
  (12, 64, 32936893), (12, 66, 20687), (12, 68, 36624174), (12, 70, 1042489), (12, 72, 609950), (12, 74, 1014841), (12, 76, 614923), (12, 78, 34200674), (12, 80, 30596128), (12, 82, 835140), (12, 84, 6038), (12, 86, 36646823),
  (12, 88, 19741), (12, 90, 1891), (12, 92, 573), (12, 94, 37754889), (12, 96, 19914), (12, 98, 570026), (12, 100, 1112366095), (12, 183, 37), (12, 192, 10), (12, 194, 48), (12, 413, 1000000), (12, 418, -1),
  (12, 485, 1103515245), (12, 487, 12345), (12, 489, 2147483648), (12, 491, 65536), (13, 19, 4294967295)]
def mm_kl2_c (x : Nat × Nat × Int) : Cond := .constantLong (mm_cn x.1) x.2.1 (Int64.ofInt x.2.2)
set_option maxRecDepth 100000 in
theorem mm_kl2_p : mm_kl2.map mm_kl2_c = [223, 1162, 1163, 1280, 1367, 1368, 1364, 1365, 1366, 1491, 1492, 1493, 1494, 1495, 1496, 1497, 1498, 1499, 1500, 1501, 1502, 1503, 1504, 1505, 1506, 1507, 1508, 1509, 1510, 1511, 1512, 1513, 1514, 1515, 1516, 1517, 1518, 1519, 1520, 1521, 1522, 1523, 1524, 1674, 1681, 1682, 1972, 1981, 2109, 2110, 2111, 2112, 2121].filterMap (fun i => lw_tbl[i]?) := by decide +kernel
theorem mm_kl2_w : ∀ x ∈ mm_kl2, mm_kl2_c x ∈ lw_tbl := mm_inp mm_kl2_p
def mm_ks : List (Nat × Nat × Nat) := [(7, 36, 2), (7, 38, 3), (7, 47, 4), (7, 49, 5), (8, 19, 1), (8, 54, 6), (11, 310, 7), (11, 327, 8), (11, 336, 9)]
def mm_uw : List Cond := u_ws RX0 TX0 6 ++ u_ws RX1 TX1 4 ++ u_ws RX2 TX2 9 ++ u_ws RX3 TX3 6 ++ u_ws RX4 TX4 11 ++ u_ws RX5 TX5 7 ++ u_ws RX6 TX6 4 ++ u_ws RX7 TX7 18 ++ u_ws RX8 TX8 8 ++ u_ws RX9 TX9 8 ++ u_ws RX10 TX10 6 ++ u_ws RX11 TX11 19 ++ u_ws RX12 TX12 40
set_option maxRecDepth 100000 in
theorem mm_uw_p : mm_uw.map id = [668, 670, 672, 674, 676, 678, 529, 531, 533, 535, 635, 637, 639, 641, 643, 645, 647, 649, 651, 285, 287, 289, 291, 293, 295, 565, 567, 569, 571, 573, 575, 577, 579, 581, 583, 585, 494, 496, 498, 500, 502, 504, 506, 472, 474, 476, 478, 422, 424, 426, 428, 430, 432, 434, 436, 438, 440, 442, 444, 446, 448, 450, 452, 454, 456, 237, 239, 241, 243, 245, 247, 249, 251, 329, 331, 333, 335, 337, 339, 341, 343, 603, 605, 607, 609, 611, 613, 700, 702, 704, 706, 708, 710, 712, 714, 716, 718, 720, 722, 724, 726, 728, 730, 732, 734, 736, 1581, 1583, 1585, 1587, 1589, 1591, 1593, 1595, 1597, 1599, 1601, 1603, 1605, 1607, 1609, 1611, 1613, 1615, 1617, 1619, 1621, 1623, 1625, 1627, 1629, 1631, 1633, 1635, 1637, 1639, 1641, 1643, 1645, 1647, 1649, 1651, 1653, 1655, 1657, 1659].filterMap (fun i => lw_tbl[i]?) := by decide +kernel
theorem mm_uw_w : ∀ x ∈ mm_uw, x ∈ lw_tbl := mm_inp mm_uw_p
def mm_sn (a b : Nat) : String × String × String := if a = 30 then (if b = 0 then ("java/lang/String", "value", "[B") else ("java/lang/String", "coder", "B")) else if a = 0 then ("java/lang/String", "COMPACT_STRINGS", "Z") else ("jdk/internal/util/Preconditions", "SIOOBE_FORMATTER", "Ljava/util/function/BiFunction;")
def mm_fs : List (Nat × Nat × Nat × Nat) := [(16, 9, 30, 0), (16, 15, 30, 1), (16, 38, 0, 0), (16, 1053, 1, 0)]
def mm_fs_c (x : Nat × Nat × Nat × Nat) : Cond := .fieldLink (mm_cn x.1) x.2.1 (mm_sn x.2.2.1 x.2.2.2).1 (mm_sn x.2.2.1 x.2.2.2).2.1 (mm_sn x.2.2.1 x.2.2.2).2.2
set_option maxRecDepth 100000 in
theorem mm_fs_p : mm_fs.map mm_fs_c = [2139, 2140, 183, 199].filterMap (fun i => lw_tbl[i]?) := by decide +kernel
theorem mm_fs_w : ∀ x ∈ mm_fs, mm_fs_c x ∈ lw_tbl := mm_inp mm_fs_p
end
section
def mm_na (k : Nat) : Nat := match parseMethodDescriptor (mm_y k).desc with
  | some d => d.parameters.length
  | none => 999
/-- an entry of the tables is what the class files say -/
def mm_ok (j pc : Nat) (e : mm_E) : Bool := match e.1 with
  | .getstatic ix => mm_fs.contains (mm_ow j, ix, e.2.2.1, e.2.2.2.1) && (decide (e.2.2.1 = 0) || decide (e.2.2.1 = 1))
  | .getfield ix => if e.2.2.1 = 30 then mm_fs.contains (mm_ow j, ix, 30, e.2.2.2.1) && (decide (e.2.2.2.1 = 0) || decide (e.2.2.2.1 = 1)) else mm_fl.contains (mm_ow j, ix, e.2.2.1, e.2.2.2.1) && decide ((mm_ft e.2.2.1)[e.2.2.2.1]? = some e.2.2.2.2.toNat) && decide (0 ≤ e.2.2.2.2)
  | .putfield ix => mm_fl.contains (mm_ow j, ix, e.2.2.1, e.2.2.2.1) && decide ((mm_ft e.2.2.1)[e.2.2.2.1]? = some e.2.2.2.2.toNat) && decide (0 ≤ e.2.2.2.2) && (!(mm_T e.2.2.1 e.2.2.2.1).2.2.2 || (decide ((mm_y j).name = "<init>") && decide ((mm_T e.2.2.1 e.2.2.2.1).1 = mm_cn (mm_ow j))))
  | .ifCond _ off => decide ((pc : Int) + off = (e.2.2.1 : Int))
  | .if_icmp _ off => decide ((pc : Int) + off = (e.2.2.1 : Int))
  | .goto off => decide ((pc : Int) + off = (e.2.2.1 : Int))
  | .tableswitch d _ _ offs => decide (0 ≤ (pc : Int) + d) && offs.toList.all (fun o => decide (0 ≤ (pc : Int) + o))
  | .lookupswitch d ps => (ps.toList.zip (ps.toList.drop 1)).all (fun (a, next) => a.1 < next.1) && decide (0 ≤ (pc : Int) + d) && ps.toList.all (fun o => decide (0 ≤ (pc : Int) + o.2))
  | .ldc ix => if e.2.2.1 = 0 then mm_kc.contains (mm_ow j, ix, e.2.2.2.2) else mm_ks.contains (mm_ow j, ix, e.2.2.2.1)
  | .ldc_w ix => decide (¬ e.2.2.1 = 0) || mm_kc.contains (mm_ow j, ix, e.2.2.2.2)
  | .ldc2_w ix => mm_kl2.contains (mm_ow j, ix, e.2.2.2.2)
  | .invokestatic ix => if e.2.2.2.2 = 0 ∨ e.2.2.2.2 = 1 then mm_ml.contains (mm_ow j, ix, e.2.2.1) && mm_si.contains e.2.2.1 && mm_ck.contains e.2.2.1 && decide (e.2.2.2.1 = mm_na e.2.2.1) && decide (¬ e.2.2.1 = 278) else if e.2.2.2.2 = 20 then mm_ml.contains (mm_ow j, ix, 278) && decide (e.2.2.1 = 278) && decide (e.2.2.2.1 = 3) else decide (98 ≤ e.2.2.2.2) || (decide (10 ≤ e.2.2.2.2) && decide (e.2.2.2.2 ≤ 13) && mm_pm.contains (mm_ow j, ix, e.2.2.2.2))
  | .invokevirtual ix => if e.2.2.2.2 = 2 then mm_ml.contains (mm_ow j, ix, e.2.2.1) && mm_vi.contains e.2.2.1 && mm_in1.contains e.2.2.1 && mm_ck.contains e.2.2.1 && decide (e.2.2.2.1 = mm_na e.2.2.1 + 1) && decide (¬ e.2.2.1 = 278) else false
  | .invokespecial ix => if e.2.2.2.2 = 3 then mm_ml.contains (mm_ow j, ix, e.2.2.1) && mm_in1.contains e.2.2.1 && mm_ck.contains e.2.2.1 && decide ((mm_y e.2.2.1).name = "<init>") && decide (mm_rt e.2.2.1 = none) && decide (e.2.2.2.1 = mm_na e.2.2.1 + 1) && decide (¬ e.2.2.1 = 278) else if e.2.2.2.2 = 5 then mm_nl.contains (mm_ow j, ix, e.2.2.1) && mm_in1.contains e.2.2.1 && mm_ck.contains e.2.2.1 && decide ((mm_y e.2.2.1).name = "<init>") && decide (mm_rt e.2.2.1 = none) && decide (e.2.2.2.1 = mm_na e.2.2.1 + 1) && decide (¬ e.2.2.1 = 278) else decide (e.2.2.2.2 = 98) || (decide (e.2.2.2.2 = 4) && mm_pm.contains (mm_ow j, ix, 4))
  | .new ix => decide (e.2.2.1 = 99) || (mm_nw.contains (mm_ow j, ix, e.2.2.1) && decide (e.2.2.1 < 13))
  | .anewarray ix => mm_an.contains (mm_ow j, ix, e.2.2.1) && (decide (e.2.2.1 = 24) || decide (e.2.2.1 = 25) || decide (e.2.2.1 = 26))
  | .multianewarray ix dims => mm_n2.contains (mm_ow j, ix) && decide (dims = 2)
  | .ireturn => decide (mm_rt j = some .int) || decide (mm_rt j = some .boolean) || decide (mm_rt j = some .char) || decide (mm_rt j = some .byte)
  | .lreturn => decide (mm_rt j = some .long)
  | .return_ => decide (mm_rt j = none)
  | _ => true
def mm_chk (j : Nat) (x : Nat × mm_E) : Bool := decide (decode (mm_b j) x.1 = .ok (x.2.1, x.2.2.1)) && mm_ok j x.1 x.2

set_option maxRecDepth 100000 in
theorem mm_chk_0 : mm_c0.all (mm_chk 0) = true := by decide +kernel
set_option maxRecDepth 100000 in
theorem mm_chk_1 : mm_c1.all (mm_chk 1) = true := by decide +kernel
set_option maxRecDepth 100000 in
theorem mm_chk_2 : mm_c2.all (mm_chk 2) = true := by decide +kernel
set_option maxRecDepth 100000 in
theorem mm_chk_3 : mm_c3.all (mm_chk 3) = true := by decide +kernel
set_option maxRecDepth 100000 in
theorem mm_chk_4 : mm_c4.all (mm_chk 4) = true := by decide +kernel
set_option maxRecDepth 100000 in
theorem mm_chk_5 : mm_c5.all (mm_chk 5) = true := by decide +kernel
set_option maxRecDepth 100000 in
theorem mm_chk_6 : mm_c6.all (mm_chk 6) = true := by decide +kernel
set_option maxRecDepth 100000 in
theorem mm_chk_7 : mm_c7.all (mm_chk 7) = true := by decide +kernel
set_option maxRecDepth 100000 in
theorem mm_chk_8 : mm_c8.all (mm_chk 8) = true := by decide +kernel
set_option maxRecDepth 100000 in
theorem mm_chk_9 : mm_c9.all (mm_chk 9) = true := by decide +kernel
set_option maxRecDepth 100000 in
theorem mm_chk_10 : mm_c10.all (mm_chk 10) = true := by decide +kernel
set_option maxRecDepth 100000 in
theorem mm_chk_11 : mm_c11.all (mm_chk 11) = true := by decide +kernel
set_option maxRecDepth 100000 in
theorem mm_chk_12 : mm_c12.all (mm_chk 12) = true := by decide +kernel
set_option maxRecDepth 100000 in
theorem mm_chk_13 : mm_c13.all (mm_chk 13) = true := by decide +kernel
set_option maxRecDepth 100000 in
theorem mm_chk_14 : mm_c14.all (mm_chk 14) = true := by decide +kernel
set_option maxRecDepth 100000 in
theorem mm_chk_15 : mm_c15.all (mm_chk 15) = true := by decide +kernel
set_option maxRecDepth 100000 in
theorem mm_chk_16 : mm_c16.all (mm_chk 16) = true := by decide +kernel
set_option maxRecDepth 100000 in
theorem mm_chk_17 : mm_c17.all (mm_chk 17) = true := by decide +kernel
set_option maxRecDepth 100000 in
theorem mm_chk_18 : mm_c18.all (mm_chk 18) = true := by decide +kernel
set_option maxRecDepth 100000 in
theorem mm_chk_19 : mm_c19.all (mm_chk 19) = true := by decide +kernel
set_option maxRecDepth 100000 in
theorem mm_chk_20 : mm_c20.all (mm_chk 20) = true := by decide +kernel
set_option maxRecDepth 100000 in
theorem mm_chk_21 : mm_c21.all (mm_chk 21) = true := by decide +kernel
set_option maxRecDepth 100000 in
theorem mm_chk_22 : mm_c22.all (mm_chk 22) = true := by decide +kernel
set_option maxRecDepth 100000 in
theorem mm_chk_23 : mm_c23.all (mm_chk 23) = true := by decide +kernel
set_option maxRecDepth 100000 in
theorem mm_chk_24 : mm_c24.all (mm_chk 24) = true := by decide +kernel
set_option maxRecDepth 100000 in
theorem mm_chk_25 : mm_c25.all (mm_chk 25) = true := by decide +kernel
set_option maxRecDepth 100000 in
theorem mm_chk_26 : mm_c26.all (mm_chk 26) = true := by decide +kernel
set_option maxRecDepth 100000 in
theorem mm_chk_27 : mm_c27.all (mm_chk 27) = true := by decide +kernel
set_option maxRecDepth 100000 in
theorem mm_chk_28 : mm_c28.all (mm_chk 28) = true := by decide +kernel
set_option maxRecDepth 100000 in
theorem mm_chk_29 : mm_c29.all (mm_chk 29) = true := by decide +kernel
set_option maxRecDepth 100000 in
theorem mm_chk_30 : mm_c30.all (mm_chk 30) = true := by decide +kernel
set_option maxRecDepth 100000 in
theorem mm_chk_31 : mm_c31.all (mm_chk 31) = true := by decide +kernel
set_option maxRecDepth 100000 in
theorem mm_chk_32 : mm_c32.all (mm_chk 32) = true := by decide +kernel
set_option maxRecDepth 100000 in
theorem mm_chk_33 : mm_c33.all (mm_chk 33) = true := by decide +kernel
set_option maxRecDepth 100000 in
theorem mm_chk_34 : mm_c34.all (mm_chk 34) = true := by decide +kernel
set_option maxRecDepth 100000 in
theorem mm_chk_35 : mm_c35.all (mm_chk 35) = true := by decide +kernel
set_option maxRecDepth 100000 in
theorem mm_chk_36 : mm_c36.all (mm_chk 36) = true := by decide +kernel
set_option maxRecDepth 100000 in
theorem mm_chk_37 : mm_c37.all (mm_chk 37) = true := by decide +kernel
set_option maxRecDepth 100000 in
theorem mm_chk_38 : mm_c38.all (mm_chk 38) = true := by decide +kernel
set_option maxRecDepth 100000 in
theorem mm_chk_39 : mm_c39.all (mm_chk 39) = true := by decide +kernel
set_option maxRecDepth 100000 in
theorem mm_chk_40 : mm_c40.all (mm_chk 40) = true := by decide +kernel
set_option maxRecDepth 100000 in
theorem mm_chk_41 : mm_c41.all (mm_chk 41) = true := by decide +kernel
set_option maxRecDepth 100000 in
theorem mm_chk_42 : mm_c42.all (mm_chk 42) = true := by decide +kernel
set_option maxRecDepth 100000 in
theorem mm_chk_43 : mm_c43.all (mm_chk 43) = true := by decide +kernel
set_option maxRecDepth 100000 in
theorem mm_chk_44 : mm_c44.all (mm_chk 44) = true := by decide +kernel
set_option maxRecDepth 100000 in
theorem mm_chk_45 : mm_c45.all (mm_chk 45) = true := by decide +kernel
set_option maxRecDepth 100000 in
theorem mm_chk_46 : mm_c46.all (mm_chk 46) = true := by decide +kernel
set_option maxRecDepth 100000 in
theorem mm_chk_47 : mm_c47.all (mm_chk 47) = true := by decide +kernel
set_option maxRecDepth 100000 in
theorem mm_chk_48 : mm_c48.all (mm_chk 48) = true := by decide +kernel
set_option maxRecDepth 100000 in
theorem mm_chk_49 : mm_c49.all (mm_chk 49) = true := by decide +kernel
set_option maxRecDepth 100000 in
theorem mm_chk_50 : mm_c50.all (mm_chk 50) = true := by decide +kernel
set_option maxRecDepth 100000 in
theorem mm_chk_51 : mm_c51.all (mm_chk 51) = true := by decide +kernel
set_option maxRecDepth 100000 in
theorem mm_chk_52 : mm_c52.all (mm_chk 52) = true := by decide +kernel
set_option maxRecDepth 100000 in
theorem mm_chk_53 : mm_c53.all (mm_chk 53) = true := by decide +kernel
set_option maxRecDepth 100000 in
theorem mm_chk_54 : mm_c54.all (mm_chk 54) = true := by decide +kernel
set_option maxRecDepth 100000 in
theorem mm_chk_55 : mm_c55.all (mm_chk 55) = true := by decide +kernel
set_option maxRecDepth 100000 in
theorem mm_chk_56 : mm_c56.all (mm_chk 56) = true := by decide +kernel
set_option maxRecDepth 100000 in
theorem mm_chk_57 : mm_c57.all (mm_chk 57) = true := by decide +kernel
set_option maxRecDepth 100000 in
theorem mm_chk_58 : mm_c58.all (mm_chk 58) = true := by decide +kernel
set_option maxRecDepth 100000 in
theorem mm_chk_59 : mm_c59.all (mm_chk 59) = true := by decide +kernel
set_option maxRecDepth 100000 in
theorem mm_chk_60 : mm_c60.all (mm_chk 60) = true := by decide +kernel
set_option maxRecDepth 100000 in
theorem mm_chk_61 : mm_c61.all (mm_chk 61) = true := by decide +kernel
set_option maxRecDepth 100000 in
theorem mm_chk_62 : mm_c62.all (mm_chk 62) = true := by decide +kernel
set_option maxRecDepth 100000 in
theorem mm_chk_63 : mm_c63.all (mm_chk 63) = true := by decide +kernel
set_option maxRecDepth 100000 in
theorem mm_chk_64 : mm_c64.all (mm_chk 64) = true := by decide +kernel
set_option maxRecDepth 100000 in
theorem mm_chk_65 : mm_c65.all (mm_chk 65) = true := by decide +kernel
set_option maxRecDepth 100000 in
theorem mm_chk_66 : mm_c66.all (mm_chk 66) = true := by decide +kernel
set_option maxRecDepth 100000 in
theorem mm_chk_67 : mm_c67.all (mm_chk 67) = true := by decide +kernel
set_option maxRecDepth 100000 in
theorem mm_chk_68 : mm_c68.all (mm_chk 68) = true := by decide +kernel
set_option maxRecDepth 100000 in
theorem mm_chk_69 : mm_c69.all (mm_chk 69) = true := by decide +kernel
set_option maxRecDepth 100000 in
theorem mm_chk_70 : mm_c70.all (mm_chk 70) = true := by decide +kernel
set_option maxRecDepth 100000 in
theorem mm_chk_71 : mm_c71.all (mm_chk 71) = true := by decide +kernel
set_option maxRecDepth 100000 in
theorem mm_chk_72 : mm_c72.all (mm_chk 72) = true := by decide +kernel
set_option maxRecDepth 100000 in
theorem mm_chk_73 : mm_c73.all (mm_chk 73) = true := by decide +kernel
set_option maxRecDepth 100000 in
theorem mm_chk_74 : mm_c74.all (mm_chk 74) = true := by decide +kernel
set_option maxRecDepth 100000 in
theorem mm_chk_75 : mm_c75.all (mm_chk 75) = true := by decide +kernel
set_option maxRecDepth 100000 in
theorem mm_chk_76 : mm_c76.all (mm_chk 76) = true := by decide +kernel
set_option maxRecDepth 100000 in
theorem mm_chk_77 : mm_c77.all (mm_chk 77) = true := by decide +kernel
set_option maxRecDepth 100000 in
theorem mm_chk_78 : mm_c78.all (mm_chk 78) = true := by decide +kernel
set_option maxRecDepth 100000 in
theorem mm_chk_79 : mm_c79.all (mm_chk 79) = true := by decide +kernel
set_option maxRecDepth 100000 in
theorem mm_chk_80 : mm_c80.all (mm_chk 80) = true := by decide +kernel
set_option maxRecDepth 100000 in
theorem mm_chk_81 : mm_c81.all (mm_chk 81) = true := by decide +kernel
set_option maxRecDepth 100000 in
theorem mm_chk_82 : mm_c82.all (mm_chk 82) = true := by decide +kernel
set_option maxRecDepth 100000 in
theorem mm_chk_83 : mm_c83.all (mm_chk 83) = true := by decide +kernel
set_option maxRecDepth 100000 in
theorem mm_chk_84 : mm_c84.all (mm_chk 84) = true := by decide +kernel
set_option maxRecDepth 100000 in
theorem mm_chk_85 : mm_c85.all (mm_chk 85) = true := by decide +kernel
set_option maxRecDepth 100000 in
theorem mm_chk_86 : mm_c86.all (mm_chk 86) = true := by decide +kernel
set_option maxRecDepth 100000 in
theorem mm_chk_87 : mm_c87.all (mm_chk 87) = true := by decide +kernel
set_option maxRecDepth 100000 in
theorem mm_chk_88 : mm_c88.all (mm_chk 88) = true := by decide +kernel
set_option maxRecDepth 100000 in
theorem mm_chk_89 : mm_c89.all (mm_chk 89) = true := by decide +kernel
set_option maxRecDepth 100000 in
theorem mm_chk_90 : mm_c90.all (mm_chk 90) = true := by decide +kernel
set_option maxRecDepth 100000 in
theorem mm_chk_91 : mm_c91.all (mm_chk 91) = true := by decide +kernel
set_option maxRecDepth 100000 in
theorem mm_chk_92 : mm_c92.all (mm_chk 92) = true := by decide +kernel
set_option maxRecDepth 100000 in
theorem mm_chk_93 : mm_c93.all (mm_chk 93) = true := by decide +kernel
set_option maxRecDepth 100000 in
theorem mm_chk_94 : mm_c94.all (mm_chk 94) = true := by decide +kernel
set_option maxRecDepth 100000 in
theorem mm_chk_95 : mm_c95.all (mm_chk 95) = true := by decide +kernel
set_option maxRecDepth 100000 in
theorem mm_chk_96 : mm_c96.all (mm_chk 96) = true := by decide +kernel
set_option maxRecDepth 100000 in
theorem mm_chk_97 : mm_c97.all (mm_chk 97) = true := by decide +kernel
set_option maxRecDepth 100000 in
theorem mm_chk_98 : mm_c98.all (mm_chk 98) = true := by decide +kernel
set_option maxRecDepth 100000 in
theorem mm_chk_99 : mm_c99.all (mm_chk 99) = true := by decide +kernel
end
section
set_option maxRecDepth 100000 in
theorem mm_chk_100 : mm_c100.all (mm_chk 100) = true := by decide +kernel
set_option maxRecDepth 100000 in
theorem mm_chk_101 : mm_c101.all (mm_chk 101) = true := by decide +kernel
set_option maxRecDepth 100000 in
theorem mm_chk_102 : mm_c102.all (mm_chk 102) = true := by decide +kernel
set_option maxRecDepth 100000 in
theorem mm_chk_103 : mm_c103.all (mm_chk 103) = true := by decide +kernel
set_option maxRecDepth 100000 in
theorem mm_chk_104 : mm_c104.all (mm_chk 104) = true := by decide +kernel
set_option maxRecDepth 100000 in
theorem mm_chk_105 : mm_c105.all (mm_chk 105) = true := by decide +kernel
set_option maxRecDepth 100000 in
theorem mm_chk_106 : mm_c106.all (mm_chk 106) = true := by decide +kernel
set_option maxRecDepth 100000 in
theorem mm_chk_107 : mm_c107.all (mm_chk 107) = true := by decide +kernel
set_option maxRecDepth 100000 in
theorem mm_chk_108 : mm_c108.all (mm_chk 108) = true := by decide +kernel
set_option maxRecDepth 100000 in
theorem mm_chk_109 : mm_c109.all (mm_chk 109) = true := by decide +kernel
set_option maxRecDepth 100000 in
theorem mm_chk_110 : mm_c110.all (mm_chk 110) = true := by decide +kernel
set_option maxRecDepth 100000 in
theorem mm_chk_111 : mm_c111.all (mm_chk 111) = true := by decide +kernel
set_option maxRecDepth 100000 in
theorem mm_chk_112 : mm_c112.all (mm_chk 112) = true := by decide +kernel
set_option maxRecDepth 100000 in
theorem mm_chk_113 : mm_c113.all (mm_chk 113) = true := by decide +kernel
set_option maxRecDepth 100000 in
theorem mm_chk_114 : mm_c114.all (mm_chk 114) = true := by decide +kernel
set_option maxRecDepth 100000 in
theorem mm_chk_115 : mm_c115.all (mm_chk 115) = true := by decide +kernel
set_option maxRecDepth 100000 in
theorem mm_chk_116 : mm_c116.all (mm_chk 116) = true := by decide +kernel
set_option maxRecDepth 100000 in
theorem mm_chk_117 : mm_c117.all (mm_chk 117) = true := by decide +kernel
set_option maxRecDepth 100000 in
theorem mm_chk_118 : mm_c118.all (mm_chk 118) = true := by decide +kernel
set_option maxRecDepth 100000 in
theorem mm_chk_119 : mm_c119.all (mm_chk 119) = true := by decide +kernel
set_option maxRecDepth 100000 in
theorem mm_chk_120 : mm_c120.all (mm_chk 120) = true := by decide +kernel
set_option maxRecDepth 100000 in
theorem mm_chk_121 : mm_c121.all (mm_chk 121) = true := by decide +kernel
set_option maxRecDepth 100000 in
theorem mm_chk_122 : mm_c122.all (mm_chk 122) = true := by decide +kernel
set_option maxRecDepth 100000 in
theorem mm_chk_123 : mm_c123.all (mm_chk 123) = true := by decide +kernel
set_option maxRecDepth 100000 in
theorem mm_chk_124 : mm_c124.all (mm_chk 124) = true := by decide +kernel
set_option maxRecDepth 100000 in
theorem mm_chk_125 : mm_c125.all (mm_chk 125) = true := by decide +kernel
set_option maxRecDepth 100000 in
theorem mm_chk_126 : mm_c126.all (mm_chk 126) = true := by decide +kernel
set_option maxRecDepth 100000 in
theorem mm_chk_127 : mm_c127.all (mm_chk 127) = true := by decide +kernel
set_option maxRecDepth 100000 in
theorem mm_chk_128 : mm_c128.all (mm_chk 128) = true := by decide +kernel
set_option maxRecDepth 100000 in
theorem mm_chk_129 : mm_c129.all (mm_chk 129) = true := by decide +kernel
set_option maxRecDepth 100000 in
theorem mm_chk_130 : mm_c130.all (mm_chk 130) = true := by decide +kernel
set_option maxRecDepth 100000 in
theorem mm_chk_131 : mm_c131.all (mm_chk 131) = true := by decide +kernel
set_option maxRecDepth 100000 in
theorem mm_chk_132 : mm_c132.all (mm_chk 132) = true := by decide +kernel
set_option maxRecDepth 100000 in
theorem mm_chk_133 : mm_c133.all (mm_chk 133) = true := by decide +kernel
set_option maxRecDepth 100000 in
theorem mm_chk_134 : mm_c134.all (mm_chk 134) = true := by decide +kernel
set_option maxRecDepth 100000 in
theorem mm_chk_135 : mm_c135.all (mm_chk 135) = true := by decide +kernel
set_option maxRecDepth 100000 in
theorem mm_chk_136 : mm_c136.all (mm_chk 136) = true := by decide +kernel
set_option maxRecDepth 100000 in
theorem mm_chk_137 : mm_c137.all (mm_chk 137) = true := by decide +kernel
set_option maxRecDepth 100000 in
theorem mm_chk_138 : mm_c138.all (mm_chk 138) = true := by decide +kernel
set_option maxRecDepth 100000 in
theorem mm_chk_139 : mm_c139.all (mm_chk 139) = true := by decide +kernel
set_option maxRecDepth 100000 in
theorem mm_chk_140 : mm_c140.all (mm_chk 140) = true := by decide +kernel
set_option maxRecDepth 100000 in
theorem mm_chk_141 : mm_c141.all (mm_chk 141) = true := by decide +kernel
set_option maxRecDepth 100000 in
theorem mm_chk_142 : mm_c142.all (mm_chk 142) = true := by decide +kernel
set_option maxRecDepth 100000 in
theorem mm_chk_143 : mm_c143.all (mm_chk 143) = true := by decide +kernel
set_option maxRecDepth 100000 in
theorem mm_chk_144 : mm_c144.all (mm_chk 144) = true := by decide +kernel
set_option maxRecDepth 100000 in
theorem mm_chk_145 : mm_c145.all (mm_chk 145) = true := by decide +kernel
set_option maxRecDepth 100000 in
theorem mm_chk_146 : mm_c146.all (mm_chk 146) = true := by decide +kernel
set_option maxRecDepth 100000 in
theorem mm_chk_147 : mm_c147.all (mm_chk 147) = true := by decide +kernel
set_option maxRecDepth 100000 in
theorem mm_chk_148 : mm_c148.all (mm_chk 148) = true := by decide +kernel
set_option maxRecDepth 100000 in
theorem mm_chk_149 : mm_c149.all (mm_chk 149) = true := by decide +kernel
set_option maxRecDepth 100000 in
theorem mm_chk_150 : mm_c150.all (mm_chk 150) = true := by decide +kernel
set_option maxRecDepth 100000 in
theorem mm_chk_151 : mm_c151.all (mm_chk 151) = true := by decide +kernel
set_option maxRecDepth 100000 in
theorem mm_chk_152 : mm_c152.all (mm_chk 152) = true := by decide +kernel
set_option maxRecDepth 100000 in
theorem mm_chk_153 : mm_c153.all (mm_chk 153) = true := by decide +kernel
set_option maxRecDepth 100000 in
theorem mm_chk_154 : mm_c154.all (mm_chk 154) = true := by decide +kernel
set_option maxRecDepth 100000 in
theorem mm_chk_155 : mm_c155.all (mm_chk 155) = true := by decide +kernel
set_option maxRecDepth 100000 in
theorem mm_chk_156 : mm_c156.all (mm_chk 156) = true := by decide +kernel
set_option maxRecDepth 100000 in
theorem mm_chk_157 : mm_c157.all (mm_chk 157) = true := by decide +kernel
set_option maxRecDepth 100000 in
theorem mm_chk_158 : mm_c158.all (mm_chk 158) = true := by decide +kernel
set_option maxRecDepth 100000 in
theorem mm_chk_159 : mm_c159.all (mm_chk 159) = true := by decide +kernel
set_option maxRecDepth 100000 in
theorem mm_chk_160 : mm_c160.all (mm_chk 160) = true := by decide +kernel
set_option maxRecDepth 100000 in
theorem mm_chk_161 : mm_c161.all (mm_chk 161) = true := by decide +kernel
set_option maxRecDepth 100000 in
theorem mm_chk_162 : mm_c162.all (mm_chk 162) = true := by decide +kernel
set_option maxRecDepth 100000 in
theorem mm_chk_163 : mm_c163.all (mm_chk 163) = true := by decide +kernel
set_option maxRecDepth 100000 in
theorem mm_chk_164 : mm_c164.all (mm_chk 164) = true := by decide +kernel
set_option maxRecDepth 100000 in
theorem mm_chk_165 : mm_c165.all (mm_chk 165) = true := by decide +kernel
set_option maxRecDepth 100000 in
theorem mm_chk_166 : mm_c166.all (mm_chk 166) = true := by decide +kernel
set_option maxRecDepth 100000 in
theorem mm_chk_167 : mm_c167.all (mm_chk 167) = true := by decide +kernel
set_option maxRecDepth 100000 in
theorem mm_chk_168 : mm_c168.all (mm_chk 168) = true := by decide +kernel
set_option maxRecDepth 100000 in
theorem mm_chk_169 : mm_c169.all (mm_chk 169) = true := by decide +kernel
set_option maxRecDepth 100000 in
theorem mm_chk_170 : mm_c170.all (mm_chk 170) = true := by decide +kernel
set_option maxRecDepth 100000 in
theorem mm_chk_171 : mm_c171.all (mm_chk 171) = true := by decide +kernel
set_option maxRecDepth 100000 in
theorem mm_chk_172 : mm_c172.all (mm_chk 172) = true := by decide +kernel
set_option maxRecDepth 100000 in
theorem mm_chk_173 : mm_c173.all (mm_chk 173) = true := by decide +kernel
set_option maxRecDepth 100000 in
theorem mm_chk_174 : mm_c174.all (mm_chk 174) = true := by decide +kernel
set_option maxRecDepth 100000 in
theorem mm_chk_175 : mm_c175.all (mm_chk 175) = true := by decide +kernel
set_option maxRecDepth 100000 in
theorem mm_chk_176 : mm_c176.all (mm_chk 176) = true := by decide +kernel
set_option maxRecDepth 100000 in
theorem mm_chk_177 : mm_c177.all (mm_chk 177) = true := by decide +kernel
set_option maxRecDepth 100000 in
theorem mm_chk_178 : mm_c178.all (mm_chk 178) = true := by decide +kernel
set_option maxRecDepth 100000 in
theorem mm_chk_179 : mm_c179.all (mm_chk 179) = true := by decide +kernel
set_option maxRecDepth 100000 in
theorem mm_chk_180 : mm_c180.all (mm_chk 180) = true := by decide +kernel
set_option maxRecDepth 100000 in
theorem mm_chk_181 : mm_c181.all (mm_chk 181) = true := by decide +kernel
set_option maxRecDepth 100000 in
theorem mm_chk_182 : mm_c182.all (mm_chk 182) = true := by decide +kernel
set_option maxRecDepth 100000 in
theorem mm_chk_183 : mm_c183.all (mm_chk 183) = true := by decide +kernel
set_option maxRecDepth 100000 in
theorem mm_chk_184 : mm_c184.all (mm_chk 184) = true := by decide +kernel
set_option maxRecDepth 100000 in
theorem mm_chk_185 : mm_c185.all (mm_chk 185) = true := by decide +kernel
set_option maxRecDepth 100000 in
theorem mm_chk_186 : mm_c186.all (mm_chk 186) = true := by decide +kernel
set_option maxRecDepth 100000 in
theorem mm_chk_187 : mm_c187.all (mm_chk 187) = true := by decide +kernel
set_option maxRecDepth 100000 in
theorem mm_chk_188 : mm_c188.all (mm_chk 188) = true := by decide +kernel
set_option maxRecDepth 100000 in
theorem mm_chk_189 : mm_c189.all (mm_chk 189) = true := by decide +kernel
set_option maxRecDepth 100000 in
theorem mm_chk_190 : mm_c190.all (mm_chk 190) = true := by decide +kernel
set_option maxRecDepth 100000 in
theorem mm_chk_191 : mm_c191.all (mm_chk 191) = true := by decide +kernel
set_option maxRecDepth 100000 in
theorem mm_chk_192 : mm_c192.all (mm_chk 192) = true := by decide +kernel
set_option maxRecDepth 100000 in
theorem mm_chk_193 : mm_c193.all (mm_chk 193) = true := by decide +kernel
set_option maxRecDepth 100000 in
theorem mm_chk_194 : mm_c194.all (mm_chk 194) = true := by decide +kernel
set_option maxRecDepth 100000 in
theorem mm_chk_195 : mm_c195.all (mm_chk 195) = true := by decide +kernel
set_option maxRecDepth 100000 in
theorem mm_chk_196 : mm_c196.all (mm_chk 196) = true := by decide +kernel
set_option maxRecDepth 100000 in
theorem mm_chk_197 : mm_c197.all (mm_chk 197) = true := by decide +kernel
set_option maxRecDepth 100000 in
theorem mm_chk_198 : mm_c198.all (mm_chk 198) = true := by decide +kernel
set_option maxRecDepth 100000 in
theorem mm_chk_199 : mm_c199.all (mm_chk 199) = true := by decide +kernel
end
section
set_option maxRecDepth 100000 in
theorem mm_chk_200 : mm_c200.all (mm_chk 200) = true := by decide +kernel
set_option maxRecDepth 100000 in
theorem mm_chk_201 : mm_c201.all (mm_chk 201) = true := by decide +kernel
set_option maxRecDepth 100000 in
theorem mm_chk_202 : mm_c202.all (mm_chk 202) = true := by decide +kernel
set_option maxRecDepth 100000 in
theorem mm_chk_203 : mm_c203.all (mm_chk 203) = true := by decide +kernel
set_option maxRecDepth 100000 in
theorem mm_chk_204 : mm_c204.all (mm_chk 204) = true := by decide +kernel
set_option maxRecDepth 100000 in
theorem mm_chk_205 : mm_c205.all (mm_chk 205) = true := by decide +kernel
set_option maxRecDepth 100000 in
theorem mm_chk_206 : mm_c206.all (mm_chk 206) = true := by decide +kernel
set_option maxRecDepth 100000 in
theorem mm_chk_207 : mm_c207.all (mm_chk 207) = true := by decide +kernel
set_option maxRecDepth 100000 in
theorem mm_chk_208 : mm_c208.all (mm_chk 208) = true := by decide +kernel
set_option maxRecDepth 100000 in
theorem mm_chk_209 : mm_c209.all (mm_chk 209) = true := by decide +kernel
set_option maxRecDepth 100000 in
theorem mm_chk_210 : mm_c210.all (mm_chk 210) = true := by decide +kernel
set_option maxRecDepth 100000 in
theorem mm_chk_211 : mm_c211.all (mm_chk 211) = true := by decide +kernel
set_option maxRecDepth 100000 in
theorem mm_chk_212 : mm_c212.all (mm_chk 212) = true := by decide +kernel
set_option maxRecDepth 100000 in
theorem mm_chk_213 : mm_c213.all (mm_chk 213) = true := by decide +kernel
set_option maxRecDepth 100000 in
theorem mm_chk_214 : mm_c214.all (mm_chk 214) = true := by decide +kernel
set_option maxRecDepth 100000 in
theorem mm_chk_215 : mm_c215.all (mm_chk 215) = true := by decide +kernel
set_option maxRecDepth 100000 in
theorem mm_chk_216 : mm_c216.all (mm_chk 216) = true := by decide +kernel
set_option maxRecDepth 100000 in
theorem mm_chk_217 : mm_c217.all (mm_chk 217) = true := by decide +kernel
set_option maxRecDepth 100000 in
theorem mm_chk_218 : mm_c218.all (mm_chk 218) = true := by decide +kernel
set_option maxRecDepth 100000 in
theorem mm_chk_219 : mm_c219.all (mm_chk 219) = true := by decide +kernel
set_option maxRecDepth 100000 in
theorem mm_chk_220 : mm_c220.all (mm_chk 220) = true := by decide +kernel
set_option maxRecDepth 100000 in
theorem mm_chk_221 : mm_c221.all (mm_chk 221) = true := by decide +kernel
set_option maxRecDepth 100000 in
theorem mm_chk_222 : mm_c222.all (mm_chk 222) = true := by decide +kernel
set_option maxRecDepth 100000 in
theorem mm_chk_223 : mm_c223.all (mm_chk 223) = true := by decide +kernel
set_option maxRecDepth 100000 in
theorem mm_chk_224 : mm_c224.all (mm_chk 224) = true := by decide +kernel
set_option maxRecDepth 100000 in
theorem mm_chk_225 : mm_c225.all (mm_chk 225) = true := by decide +kernel
set_option maxRecDepth 100000 in
theorem mm_chk_226 : mm_c226.all (mm_chk 226) = true := by decide +kernel
set_option maxRecDepth 100000 in
theorem mm_chk_227 : mm_c227.all (mm_chk 227) = true := by decide +kernel
set_option maxRecDepth 100000 in
theorem mm_chk_228 : mm_c228.all (mm_chk 228) = true := by decide +kernel
set_option maxRecDepth 100000 in
theorem mm_chk_229 : mm_c229.all (mm_chk 229) = true := by decide +kernel
set_option maxRecDepth 100000 in
theorem mm_chk_230 : mm_c230.all (mm_chk 230) = true := by decide +kernel
set_option maxRecDepth 100000 in
theorem mm_chk_231 : mm_c231.all (mm_chk 231) = true := by decide +kernel
set_option maxRecDepth 100000 in
theorem mm_chk_232 : mm_c232.all (mm_chk 232) = true := by decide +kernel
set_option maxRecDepth 100000 in
theorem mm_chk_233 : mm_c233.all (mm_chk 233) = true := by decide +kernel
set_option maxRecDepth 100000 in
theorem mm_chk_234 : mm_c234.all (mm_chk 234) = true := by decide +kernel
set_option maxRecDepth 100000 in
theorem mm_chk_235 : mm_c235.all (mm_chk 235) = true := by decide +kernel
set_option maxRecDepth 100000 in
theorem mm_chk_236 : mm_c236.all (mm_chk 236) = true := by decide +kernel
set_option maxRecDepth 100000 in
theorem mm_chk_237 : mm_c237.all (mm_chk 237) = true := by decide +kernel
set_option maxRecDepth 100000 in
theorem mm_chk_238 : mm_c238.all (mm_chk 238) = true := by decide +kernel
set_option maxRecDepth 100000 in
theorem mm_chk_239 : mm_c239.all (mm_chk 239) = true := by decide +kernel
set_option maxRecDepth 100000 in
theorem mm_chk_240 : mm_c240.all (mm_chk 240) = true := by decide +kernel
set_option maxRecDepth 100000 in
theorem mm_chk_241 : mm_c241.all (mm_chk 241) = true := by decide +kernel
set_option maxRecDepth 100000 in
theorem mm_chk_242 : mm_c242.all (mm_chk 242) = true := by decide +kernel
set_option maxRecDepth 100000 in
theorem mm_chk_243 : mm_c243.all (mm_chk 243) = true := by decide +kernel
set_option maxRecDepth 100000 in
theorem mm_chk_244 : mm_c244.all (mm_chk 244) = true := by decide +kernel
set_option maxRecDepth 100000 in
theorem mm_chk_245 : mm_c245.all (mm_chk 245) = true := by decide +kernel
set_option maxRecDepth 100000 in
theorem mm_chk_246 : mm_c246.all (mm_chk 246) = true := by decide +kernel
set_option maxRecDepth 100000 in
theorem mm_chk_247 : mm_c247.all (mm_chk 247) = true := by decide +kernel
set_option maxRecDepth 100000 in
theorem mm_chk_248 : mm_c248.all (mm_chk 248) = true := by decide +kernel
set_option maxRecDepth 100000 in
theorem mm_chk_249 : mm_c249.all (mm_chk 249) = true := by decide +kernel
set_option maxRecDepth 100000 in
theorem mm_chk_250 : mm_c250.all (mm_chk 250) = true := by decide +kernel
set_option maxRecDepth 100000 in
theorem mm_chk_251 : mm_c251.all (mm_chk 251) = true := by decide +kernel
set_option maxRecDepth 100000 in
theorem mm_chk_252 : mm_c252.all (mm_chk 252) = true := by decide +kernel
set_option maxRecDepth 100000 in
theorem mm_chk_253 : mm_c253.all (mm_chk 253) = true := by decide +kernel
set_option maxRecDepth 100000 in
theorem mm_chk_254 : mm_c254.all (mm_chk 254) = true := by decide +kernel
set_option maxRecDepth 100000 in
theorem mm_chk_255 : mm_c255.all (mm_chk 255) = true := by decide +kernel
set_option maxRecDepth 100000 in
theorem mm_chk_256 : mm_c256.all (mm_chk 256) = true := by decide +kernel
set_option maxRecDepth 100000 in
theorem mm_chk_257 : mm_c257.all (mm_chk 257) = true := by decide +kernel
set_option maxRecDepth 100000 in
theorem mm_chk_258 : mm_c258.all (mm_chk 258) = true := by decide +kernel
set_option maxRecDepth 100000 in
theorem mm_chk_259 : mm_c259.all (mm_chk 259) = true := by decide +kernel
set_option maxRecDepth 100000 in
theorem mm_chk_260 : mm_c260.all (mm_chk 260) = true := by decide +kernel
set_option maxRecDepth 100000 in
theorem mm_chk_261 : mm_c261.all (mm_chk 261) = true := by decide +kernel
set_option maxRecDepth 100000 in
theorem mm_chk_262 : mm_c262.all (mm_chk 262) = true := by decide +kernel
set_option maxRecDepth 100000 in
theorem mm_chk_263 : mm_c263.all (mm_chk 263) = true := by decide +kernel
set_option maxRecDepth 100000 in
theorem mm_chk_264 : mm_c264.all (mm_chk 264) = true := by decide +kernel
set_option maxRecDepth 100000 in
theorem mm_chk_265 : mm_c265.all (mm_chk 265) = true := by decide +kernel
set_option maxRecDepth 100000 in
theorem mm_chk_266 : mm_c266.all (mm_chk 266) = true := by decide +kernel
set_option maxRecDepth 100000 in
theorem mm_chk_267 : mm_c267.all (mm_chk 267) = true := by decide +kernel
set_option maxRecDepth 100000 in
theorem mm_chk_268 : mm_c268.all (mm_chk 268) = true := by decide +kernel
set_option maxRecDepth 100000 in
theorem mm_chk_269 : mm_c269.all (mm_chk 269) = true := by decide +kernel
set_option maxRecDepth 100000 in
theorem mm_chk_270 : mm_c270.all (mm_chk 270) = true := by decide +kernel
set_option maxRecDepth 100000 in
theorem mm_chk_271 : mm_c271.all (mm_chk 271) = true := by decide +kernel
set_option maxRecDepth 100000 in
theorem mm_chk_272 : mm_c272.all (mm_chk 272) = true := by decide +kernel
set_option maxRecDepth 100000 in
theorem mm_chk_273 : mm_c273.all (mm_chk 273) = true := by decide +kernel
set_option maxRecDepth 100000 in
theorem mm_chk_274 : mm_c274.all (mm_chk 274) = true := by decide +kernel
set_option maxRecDepth 100000 in
theorem mm_chk_275 : mm_c275.all (mm_chk 275) = true := by decide +kernel
set_option maxRecDepth 100000 in
theorem mm_chk_276 : mm_c276.all (mm_chk 276) = true := by decide +kernel
end
section
set_option maxRecDepth 100000 in
theorem mm_chk_278 : mm_c278.all (mm_chk 278) = true := by decide +kernel
set_option maxRecDepth 100000 in
theorem mm_chk_279 : mm_c279.all (mm_chk 279) = true := by decide +kernel
set_option maxRecDepth 100000 in
theorem mm_chk_280 : mm_c280.all (mm_chk 280) = true := by decide +kernel
set_option maxRecDepth 100000 in
theorem mm_chk_281 : mm_c281.all (mm_chk 281) = true := by decide +kernel
theorem mm_chunks {α : Type} (f : α → Bool) (l : List α) : ∀ k : Nat, (∀ i, i < k → ((l.drop (40 * i)).take 40).all f = true) → (l.take (40 * k)).all f = true
  | 0, _ => by simp
  | k + 1, h => by
    have h1 := mm_chunks f l k (fun i hi => h i (by omega))
    have h2 := h k (by omega)
    rw [show 40 * (k + 1) = 40 * k + 40 by omega, List.take_add, List.all_append, h1, h2]
    rfl
set_option maxRecDepth 100000 in
theorem mm_chl_0 : ((mm_c277.drop 0).take 40).all (mm_chk 277) = true := by decide +kernel
set_option maxRecDepth 100000 in
theorem mm_chl_1 : ((mm_c277.drop 40).take 40).all (mm_chk 277) = true := by decide +kernel
set_option maxRecDepth 100000 in
theorem mm_chl_2 : ((mm_c277.drop 80).take 40).all (mm_chk 277) = true := by decide +kernel
set_option maxRecDepth 100000 in
theorem mm_chl_3 : ((mm_c277.drop 120).take 40).all (mm_chk 277) = true := by decide +kernel
set_option maxRecDepth 100000 in
theorem mm_chl_4 : ((mm_c277.drop 160).take 40).all (mm_chk 277) = true := by decide +kernel
set_option maxRecDepth 100000 in
theorem mm_chl_5 : ((mm_c277.drop 200).take 40).all (mm_chk 277) = true := by decide +kernel
set_option maxRecDepth 100000 in
theorem mm_chl_6 : ((mm_c277.drop 240).take 40).all (mm_chk 277) = true := by decide +kernel
set_option maxRecDepth 100000 in
theorem mm_chl_7 : ((mm_c277.drop 280).take 40).all (mm_chk 277) = true := by decide +kernel
set_option maxRecDepth 100000 in
theorem mm_chl_8 : ((mm_c277.drop 320).take 40).all (mm_chk 277) = true := by decide +kernel
set_option maxRecDepth 100000 in
theorem mm_chl_9 : ((mm_c277.drop 360).take 40).all (mm_chk 277) = true := by decide +kernel
set_option maxRecDepth 100000 in
theorem mm_chl_10 : ((mm_c277.drop 400).take 40).all (mm_chk 277) = true := by decide +kernel
set_option maxRecDepth 100000 in
theorem mm_chl_11 : ((mm_c277.drop 440).take 40).all (mm_chk 277) = true := by decide +kernel
set_option maxRecDepth 100000 in
theorem mm_chl_12 : ((mm_c277.drop 480).take 40).all (mm_chk 277) = true := by decide +kernel
set_option maxRecDepth 100000 in
theorem mm_chl_13 : ((mm_c277.drop 520).take 40).all (mm_chk 277) = true := by decide +kernel
set_option maxRecDepth 100000 in
theorem mm_chl_14 : ((mm_c277.drop 560).take 40).all (mm_chk 277) = true := by decide +kernel
set_option maxRecDepth 100000 in
theorem mm_chl_15 : ((mm_c277.drop 600).take 40).all (mm_chk 277) = true := by decide +kernel
set_option maxRecDepth 100000 in
theorem mm_chl_16 : ((mm_c277.drop 640).take 40).all (mm_chk 277) = true := by decide +kernel
set_option maxRecDepth 100000 in
theorem mm_chl_17 : ((mm_c277.drop 680).take 40).all (mm_chk 277) = true := by decide +kernel
set_option maxRecDepth 100000 in
theorem mm_chl_18 : ((mm_c277.drop 720).take 40).all (mm_chk 277) = true := by decide +kernel
set_option maxRecDepth 100000 in
theorem mm_chl_19 : ((mm_c277.drop 760).take 40).all (mm_chk 277) = true := by decide +kernel
set_option maxRecDepth 100000 in
theorem mm_chl_20 : ((mm_c277.drop 800).take 40).all (mm_chk 277) = true := by decide +kernel
set_option maxRecDepth 100000 in
theorem mm_chl_21 : ((mm_c277.drop 840).take 40).all (mm_chk 277) = true := by decide +kernel
set_option maxRecDepth 100000 in
theorem mm_chl_22 : ((mm_c277.drop 880).take 40).all (mm_chk 277) = true := by decide +kernel
set_option maxRecDepth 100000 in
theorem mm_chl_23 : ((mm_c277.drop 920).take 40).all (mm_chk 277) = true := by decide +kernel
theorem mm_chl : ∀ i, i < 24 → ((mm_c277.drop (40 * i)).take 40).all (mm_chk 277) = true
  | 0, _ => mm_chl_0
  | 1, _ => mm_chl_1
  | 2, _ => mm_chl_2
  | 3, _ => mm_chl_3
  | 4, _ => mm_chl_4
  | 5, _ => mm_chl_5
  | 6, _ => mm_chl_6
  | 7, _ => mm_chl_7
  | 8, _ => mm_chl_8
  | 9, _ => mm_chl_9
  | 10, _ => mm_chl_10
  | 11, _ => mm_chl_11
  | 12, _ => mm_chl_12
  | 13, _ => mm_chl_13
  | 14, _ => mm_chl_14
  | 15, _ => mm_chl_15
  | 16, _ => mm_chl_16
  | 17, _ => mm_chl_17
  | 18, _ => mm_chl_18
  | 19, _ => mm_chl_19
  | 20, _ => mm_chl_20
  | 21, _ => mm_chl_21
  | 22, _ => mm_chl_22
  | 23, _ => mm_chl_23
  | _ + 24, h => absurd h (by omega)
theorem mm_chk_277 : mm_c277.all (mm_chk 277) = true := by
  have h := mm_chunks (mm_chk 277) mm_c277 24 mm_chl
  rwa [List.take_of_length_le (by decide +kernel)] at h
set_option maxRecDepth 100000 in
theorem mm_chk_282 : mm_c282.all (mm_chk 282) = true := by decide +kernel
set_option maxRecDepth 100000 in
theorem mm_chk_283 : mm_c283.all (mm_chk 283) = true := by decide +kernel
set_option maxRecDepth 100000 in
theorem mm_chk_284 : mm_c284.all (mm_chk 284) = true := by decide +kernel
set_option maxRecDepth 100000 in
theorem mm_chk_285 : mm_c285.all (mm_chk 285) = true := by decide +kernel
set_option maxRecDepth 100000 in
theorem mm_chk_286 : mm_c286.all (mm_chk 286) = true := by decide +kernel
set_option maxRecDepth 100000 in
theorem mm_chk_287 : mm_c287.all (mm_chk 287) = true := by decide +kernel
set_option maxRecDepth 100000 in
theorem mm_chk_288 : mm_c288.all (mm_chk 288) = true := by decide +kernel
set_option maxRecDepth 100000 in
theorem mm_chk_289 : mm_c289.all (mm_chk 289) = true := by decide +kernel
set_option maxRecDepth 100000 in
theorem mm_chk_290 : mm_c290.all (mm_chk 290) = true := by decide +kernel
set_option maxRecDepth 100000 in
theorem mm_chk_291 : mm_c291.all (mm_chk 291) = true := by decide +kernel
set_option maxRecDepth 100000 in
theorem mm_chk_292 : mm_c292.all (mm_chk 292) = true := by decide +kernel
set_option maxRecDepth 100000 in
theorem mm_chk_293 : mm_c293.all (mm_chk 293) = true := by decide +kernel
end
section
/-- the memory of the small machine: shapes of the cells (kind, length), (how many were thrown, the script's length), ints, longs, references -/
abbrev mm_M : Type := List (Nat × Nat) × (Nat × Nat) × (Nat → Nat → Int32) × (Nat → Nat → Int64) × (Nat → Nat → Option Nat)
def mm_u {α : Type} (f : Nat → Nat → α) (a k : Nat) (v : α) : Nat → Nat → α := fun b j => if b = a ∧ j = k then v else f b j
def mm_cl {α : Type} (f : Nat → Nat → α) (a : Nat) (v : α) : Nat → Nat → α := fun b j => if a ≤ b then v else f b j
def mm_gI (m : mm_M) (a k : Nat) : Int32 := m.2.2.1 a k
def mm_gL (m : mm_M) (a k : Nat) : Int64 := m.2.2.2.1 a k
def mm_gR (m : mm_M) (a k : Nat) : Option Nat := m.2.2.2.2 a k
def mm_sI (m : mm_M) (a k : Nat) (v : Int32) : mm_M := (m.1, m.2.1, mm_u m.2.2.1 a k v, m.2.2.2.1, m.2.2.2.2)
def mm_sL (m : mm_M) (a k : Nat) (v : Int64) : mm_M := (m.1, m.2.1, m.2.2.1, mm_u m.2.2.2.1 a k v, m.2.2.2.2)
def mm_sR (m : mm_M) (a k : Nat) (v : Option Nat) : mm_M := (m.1, m.2.1, m.2.2.1, m.2.2.2.1, mm_u m.2.2.2.2 a k v)
/-- texts: their signs -/
def mm_str : Nat → List Nat
  | 1 => [115, 116, 114, 101, 101, 116, 32, 108, 97, 110, 101, 115, 32, 102, 114, 97, 109, 101, 32, 116, 111, 32, 115, 104, 97, 114, 112, 32, 115, 97, 121, 32, 97, 116, 32, 119, 97, 108, 107, 101, 114, 32, 108, 97, 110, 101, 32, 102, 114, 111, 109, 32, 112, 97, 99, 101, 32, 108, 97, 103, 32, 111, 110, 32, 109, 117, 115, 116, 32, 114, 111, 117, 110, 100, 32, 113, 117, 105, 99, 107, 32, 111, 100, 100, 32, 115, 116, 97, 114, 116, 32, 116, 117, 114, 110, 32, 108, 97, 116, 101, 32, 116, 97, 107, 101, 32, 108, 101, 102, 116, 32, 114, 105, 103, 104, 116, 32, 112, 108, 97, 105, 110, 32, 112, 114, 97, 109, 32, 100, 111, 103, 32, 115, 116, 114, 97, 121, 32, 110, 111, 116, 32, 97, 110, 100, 32, 111, 114, 32]
  | 2 => [116, 101, 109, 112, 111]
  | 3 => [110, 116, 104]
  | 4 => [107, 105, 110, 100]
  | 5 => [112, 97, 115, 115, 101, 115]
  | 6 => [40, 41, 60, 61, 43, 45, 42, 59]
  | _ => []
/-- the shape of the cell a: 0 is the script; 1 to 6 are texts, 50 to 55 their bytes; from 100 on the cells that are made -/
def mm_sh (m : mm_M) (a : Nat) : Option (Nat × Nat) := if a = 0 then some (20, m.2.1.2) else if a < 100 then (if 1 ≤ a ∧ a ≤ 6 then some (30, 0) else if 50 ≤ a ∧ a ≤ 55 then some (31, (mm_str (a - 49)).length) else none) else m.1[a - 100]?
def mm_next (m : mm_M) : Nat := 100 + m.1.length
def mm_new (m : mm_M) (s : Nat × Nat) : mm_M := (m.1 ++ [s], m.2.1, mm_cl m.2.2.1 (mm_next m) 0, mm_cl m.2.2.2.1 (mm_next m) 0, mm_cl m.2.2.2.2 (mm_next m) none)
def mm_new2 (m : mm_M) (n k : Nat) : mm_M := (m.1 ++ (27, n) :: List.replicate n (20, k), m.2.1, mm_cl m.2.2.1 (mm_next m) 0, mm_cl m.2.2.2.1 (mm_next m) 0, fun b j => if b = mm_next m then (if j < n then some (mm_next m + 1 + j) else none) else mm_cl m.2.2.2.2 (mm_next m) none b j)
def mm_exc (m : mm_M) : mm_M := (m.1, (m.2.1.1 + 1, m.2.1.2), m.2.2)
/-- n ints from a's place sp on, to b's place dp on -/
def mm_cp (m : mm_M) (a sp b dp n : Nat) : mm_M := (m.1, m.2.1, fun c j => if c = b ∧ dp ≤ j ∧ j < dp + n then mm_gI m a (sp + (j - dp)) else m.2.2.1 c j, m.2.2.2.1, m.2.2.2.2)
def mm_lk : List (Nat × mm_E) → Nat → Option mm_E
  | [], _ => none
  | q :: r, pc => if Nat.beq q.1 pc then some q.2 else mm_lk r pc
def mm_at (j pc : Nat) : Option mm_E := match mm_prog[j]? with
  | some t => mm_lk t pc
  | none => none
abbrev mm_L : Type := List (Option Value)
/-- a step's outcome: on; a call (method, arguments, the stack below, the place behind); an answer; thrown -/
abbrev mm_O : Type := (Nat × mm_L × List Value × mm_M) ⊕ ((Nat × List Value × List Value × Nat) ⊕ (Option Value ⊕ Unit))
def mm_nx (pc : Nat) (L : mm_L) (S : List Value) (m : mm_M) : Option mm_O := some (.inl (pc, L, S, m))
def mm_kl (L : mm_L) : Nat → mm_L
  | 0 => L
  | i + 1 => match L[i]? with
    | some (some v) => if v.category = 2 then L.set i none else L
    | _ => L
def mm_s1 (L : mm_L) (i : Nat) (v : Value) : mm_L := (mm_kl L i).set i (some v)
def mm_s2 (L : mm_L) (i : Nat) (v : Value) : mm_L := ((mm_kl L i).set i (some v)).set (i + 1) none
def mm_ldI (i pc : Nat) (L : mm_L) (S : List Value) (m : mm_M) : Option mm_O := match L[i]? with
  | some (some (.int x)) => mm_nx pc L (.int x :: S) m
  | _ => none
def mm_ldL (i pc : Nat) (L : mm_L) (S : List Value) (m : mm_M) : Option mm_O := match L[i]? with
  | some (some (.long x)) => mm_nx pc L (.long x :: S) m
  | _ => none
def mm_ldR (i pc : Nat) (L : mm_L) (S : List Value) (m : mm_M) : Option mm_O := match L[i]? with
  | some (some (.ref x)) => mm_nx pc L (.ref x :: S) m
  | _ => none
def mm_stI (i pc : Nat) (L : mm_L) (S : List Value) (m : mm_M) : Option mm_O := match S with
  | .int x :: r => if i < L.length then mm_nx pc (mm_s1 L i (.int x)) r m else none
  | _ => none
def mm_stL (i pc : Nat) (L : mm_L) (S : List Value) (m : mm_M) : Option mm_O := match S with
  | .long x :: r => if i + 1 < L.length then mm_nx pc (mm_s2 L i (.long x)) r m else none
  | _ => none
def mm_stR (i pc : Nat) (L : mm_L) (S : List Value) (m : mm_M) : Option mm_O := match S with
  | .ref x :: r => if i < L.length then mm_nx pc (mm_s1 L i (.ref x)) r m else none
  | _ => none
def mm_inc (i : Nat) (n : Int) (pc : Nat) (L : mm_L) (S : List Value) (m : mm_M) : Option mm_O := match L[i]? with
  | some (some (.int x)) => if i < L.length then mm_nx pc (mm_s1 L i (.int (x + Int32.ofInt n))) S m else none
  | _ => none
def mm_bI (f : Int32 → Int32 → Int32) (pc : Nat) (L : mm_L) (S : List Value) (m : mm_M) : Option mm_O := match S with
  | .int y :: .int x :: r => mm_nx pc L (.int (f x y) :: r) m
  | _ => none
def mm_dI (f : Int32 → Int32 → Int32) (pc : Nat) (L : mm_L) (S : List Value) (m : mm_M) : Option mm_O := match S with
  | .int y :: .int x :: r => if y = 0 then none else mm_nx pc L (.int (f x y) :: r) m
  | _ => none
def mm_bL (f : Int64 → Int64 → Int64) (pc : Nat) (L : mm_L) (S : List Value) (m : mm_M) : Option mm_O := match S with
  | .long y :: .long x :: r => mm_nx pc L (.long (f x y) :: r) m
  | _ => none
def mm_dL (f : Int64 → Int64 → Int64) (pc : Nat) (L : mm_L) (S : List Value) (m : mm_M) : Option mm_O := match S with
  | .long y :: .long x :: r => if y = 0 then none else mm_nx pc L (.long (f x y) :: r) m
  | _ => none
def mm_hL (f : Int64 → Int32 → Int64) (pc : Nat) (L : mm_L) (S : List Value) (m : mm_M) : Option mm_O := match S with
  | .int y :: .long x :: r => mm_nx pc L (.long (f x y) :: r) m
  | _ => none
def mm_cL (pc : Nat) (L : mm_L) (S : List Value) (m : mm_M) : Option mm_O := match S with
  | .long y :: .long x :: r => mm_nx pc L (.int (lg_cmp x y) :: r) m
  | _ => none
def mm_1I (f : Int32 → Value) (pc : Nat) (L : mm_L) (S : List Value) (m : mm_M) : Option mm_O := match S with
  | .int x :: r => mm_nx pc L (f x :: r) m
  | _ => none
def mm_1L (f : Int64 → Value) (pc : Nat) (L : mm_L) (S : List Value) (m : mm_M) : Option mm_O := match S with
  | .long x :: r => mm_nx pc L (f x :: r) m
  | _ => none
def mm_dup (pc : Nat) (L : mm_L) (S : List Value) (m : mm_M) : Option mm_O := match S with
  | v :: r => if v.category = 1 then mm_nx pc L (v :: v :: r) m else none
  | _ => none
def mm_dup2 (pc : Nat) (L : mm_L) (S : List Value) (m : mm_M) : Option mm_O := match S with
  | v :: w :: r => if v.category = 1 ∧ w.category = 1 then mm_nx pc L (v :: w :: v :: w :: r) m else none
  | _ => none
def mm_pop (pc : Nat) (L : mm_L) (S : List Value) (m : mm_M) : Option mm_O := match S with
  | v :: r => if v.category = 1 then mm_nx pc L r m else none
  | _ => none
def mm_if (c : Int32 → Bool) (t pc : Nat) (L : mm_L) (S : List Value) (m : mm_M) : Option mm_O := match S with
  | .int x :: r => if c x then mm_nx t L r m else mm_nx pc L r m
  | _ => none
def mm_ic (c : Int32 → Int32 → Bool) (t pc : Nat) (L : mm_L) (S : List Value) (m : mm_M) : Option mm_O := match S with
  | .int y :: .int x :: r => if c x y then mm_nx t L r m else mm_nx pc L r m
  | _ => none
/-- a field's value, by its kind: 1 a long, 2 a reference, else an int -/
def mm_fv (m : mm_M) (a k : Nat) (ty : Int) : Value := if ty = 1 then .long (mm_gL m a k) else if ty = 2 then va_rf (mm_gR m a k) else .int (mm_gI m a k)
def mm_get (ci k : Nat) (ty : Int) (pc : Nat) (L : mm_L) (S : List Value) (m : mm_M) : Option mm_O := match S with
  | .ref a :: r => match mm_sh m a with
    | some s => if s.1 = ci then (if ty = 2 ∧ mm_gR m a k = none then none else mm_nx pc L (mm_fv m a k ty :: r) m) else none
    | none => none
  | _ => none
def mm_put (ci k : Nat) (ty : Int) (pc : Nat) (L : mm_L) (S : List Value) (m : mm_M) : Option mm_O := match S with
  | .int x :: .ref a :: r => match mm_sh m a with
    | some s => if s.1 = ci ∧ (ty = 0 ∨ (ty = 3 ∧ (x = 0 ∨ x = 1))) then mm_nx pc L r (mm_sI m a k x) else none
    | none => none
  | .long x :: .ref a :: r => match mm_sh m a with
    | some s => if s.1 = ci ∧ ty = 1 then mm_nx pc L r (mm_sL m a k x) else none
    | none => none
  | .ref x :: .ref a :: r => match mm_sh m a with
    | some s => if s.1 = ci ∧ ty = 2 then mm_nx pc L r (mm_sR m a k (some x)) else none
    | none => none
  | _ => none
/-- an int within a length -/
def mm_in (i : Int32) (n : Nat) : Bool := decide (¬ (i < 0 ∨ n ≤ i.toNatClampNeg))
def mm_ald (kd : Nat) (f : Nat → Nat → Value) (pc : Nat) (L : mm_L) (S : List Value) (m : mm_M) : Option mm_O := match S with
  | .int i :: .ref a :: r => match mm_sh m a with
    | some s => if s.1 = kd ∧ mm_in i s.2 = true then mm_nx pc L (f a i.toNatClampNeg :: r) m else none
    | none => none
  | _ => none
def mm_rld (pc : Nat) (L : mm_L) (S : List Value) (m : mm_M) : Option mm_O := match S with
  | .int i :: .ref a :: r => match mm_sh m a with
    | some s => if (24 ≤ s.1 ∧ s.1 ≤ 27) ∧ mm_in i s.2 = true ∧ ¬ mm_gR m a i.toNatClampNeg = none then mm_nx pc L (va_rf (mm_gR m a i.toNatClampNeg) :: r) m else none
    | none => none
  | _ => none
def mm_ast (kd : Nat) (f : Int32 → Int32) (pc : Nat) (L : mm_L) (S : List Value) (m : mm_M) : Option mm_O := match S with
  | .int x :: .int i :: .ref a :: r => match mm_sh m a with
    | some s => if 100 ≤ a ∧ s.1 = kd ∧ mm_in i s.2 = true then mm_nx pc L r (mm_sI m a i.toNatClampNeg (f x)) else none
    | none => none
  | _ => none
def mm_lst (pc : Nat) (L : mm_L) (S : List Value) (m : mm_M) : Option mm_O := match S with
  | .long x :: .int i :: .ref a :: r => match mm_sh m a with
    | some s => if s.1 = 21 ∧ mm_in i s.2 = true then mm_nx pc L r (mm_sL m a i.toNatClampNeg x) else none
    | none => none
  | _ => none
/-- a reference stored in an array of its class: kinds 24, 25, 26 are of classes 1, 4, 9 -/
def mm_rst (pc : Nat) (L : mm_L) (S : List Value) (m : mm_M) : Option mm_O := match S with
  | .ref x :: .int i :: .ref a :: r => match mm_sh m a, mm_sh m x with
    | some s, some q => if ((s.1 = 24 ∧ q.1 = 1) ∨ (s.1 = 25 ∧ q.1 = 4) ∨ (s.1 = 26 ∧ q.1 = 9)) ∧ mm_in i s.2 = true then mm_nx pc L r (mm_sR m a i.toNatClampNeg (some x)) else none
    | _, _ => none
  | _ => none
/-- a text's fields: 0 its bytes, else its coder -/
def mm_gst (k pc : Nat) (L : mm_L) (S : List Value) (m : mm_M) : Option mm_O := match S with
  | .ref a :: r => if 1 ≤ a ∧ a ≤ 6 then mm_nx pc L ((if k = 0 then .ref (49 + a) else .int 0) :: r) m else none
  | _ => none
def mm_bld (pc : Nat) (L : mm_L) (S : List Value) (m : mm_M) : Option mm_O := match S with
  | .int i :: .ref a :: r => if 50 ≤ a ∧ a ≤ 55 then (if mm_in i (mm_str (a - 49)).length = true then mm_nx pc L (.int (nI ((mm_str (a - 49)).getD i.toNatClampNeg 0)) :: r) m else none) else mm_ald 22 (fun a i => .int (mm_gI m a i)) pc L S m
  | _ => none
def mm_len (pc : Nat) (L : mm_L) (S : List Value) (m : mm_M) : Option mm_O := match S with
  | .ref a :: r => match mm_sh m a with
    | some s => if (20 ≤ s.1 ∧ s.1 ≤ 27) ∨ (50 ≤ a ∧ a ≤ 55) then mm_nx pc L (.int (Int32.ofNat s.2) :: r) m else none
    | none => none
  | _ => none
def mm_nwa (kd pc : Nat) (L : mm_L) (S : List Value) (m : mm_M) : Option mm_O := match S with
  | .int n :: r => if ¬ n < 0 ∧ n.toNatClampNeg ≤ 100000 ∧ m.2.1.1 = 0 then mm_nx pc L (.ref (mm_next m) :: r) (mm_new m (kd, n.toNatClampNeg)) else none
  | _ => none
def mm_nw2 (pc : Nat) (L : mm_L) (S : List Value) (m : mm_M) : Option mm_O := match S with
  | .int k :: .int n :: r => if ¬ n < 0 ∧ ¬ k < 0 ∧ n.toNatClampNeg ≤ 1000 ∧ k.toNatClampNeg ≤ 1000 ∧ m.2.1.1 = 0 then mm_nx pc L (.ref (mm_next m) :: r) (mm_new2 m n.toNatClampNeg k.toNatClampNeg) else none
  | _ => none
/-- what isn't a call of ours: Math, arraycopy, texts, Object's constructor -/
def mm_prim (kd : Int) (pc : Nat) (L : mm_L) (S : List Value) (m : mm_M) : Option mm_O :=
  if kd = 4 then (match S with
    | .ref a :: r => if (mm_sh m a).isSome ∧ (r.map fun v => v.category).sum ≤ 8 then mm_nx pc L r m else none
    | _ => none)
  else if kd = 10 then (match S with
    | .int y :: .int x :: r => if (r.map fun v => v.category).sum ≤ 8 then mm_nx pc L (.int (if x < y then y else x) :: r) m else none
    | _ => none)
  else if kd = 11 then (match S with
    | .int y :: .int x :: r => if (r.map fun v => v.category).sum ≤ 8 then mm_nx pc L (.int (if y < x then y else x) :: r) m else none
    | _ => none)
  else if kd = 12 then (match S with
    | .int x :: r => if (r.map fun v => v.category).sum ≤ 8 then mm_nx pc L (.int (if 0 ≤ x then x else 0 - x) :: r) m else none
    | _ => none)
  else if kd = 13 then (match S with
    | .int n :: .int dp :: .ref b :: .int sp :: .ref a :: r => match mm_sh m a, mm_sh m b with
      | some s, some q => if 100 ≤ a ∧ 100 ≤ b ∧ s.1 = 20 ∧ q.1 = 20 ∧ ¬ sp < 0 ∧ ¬ dp < 0 ∧ ¬ n < 0 ∧ sp.toNatClampNeg + n.toNatClampNeg ≤ s.2 ∧ dp.toNatClampNeg + n.toNatClampNeg ≤ q.2 ∧ (r.map fun v => v.category).sum ≤ 8 then mm_nx pc L r (mm_cp m a sp.toNatClampNeg b dp.toNatClampNeg n.toNatClampNeg) else none
      | _, _ => none
    | _ => none)
  else none
/-- the locals with which a method begins -/
def mm_ar : List Value → mm_L
  | [] => []
  | v :: r => if v.category = 2 then some v :: none :: mm_ar r else some v :: mm_ar r
def mm_en (k : Nat) (as : List Value) : mm_L := mm_ar as ++ List.replicate (mm_mx k - (mm_ar as).length) none
/-- is the receiver one of class c -/
def mm_rc (m : mm_M) (c : Nat) (as : List Value) : Bool := match as with
  | .ref a :: _ => match mm_sh m a with
    | some s => decide ((s.1 = c ∧ c < 13) ∨ (1 ≤ a ∧ a ≤ 6 ∧ c = 16))
    | none => false
  | _ => false
def mm_rf (as : List Value) : Bool := match as with
  | .ref _ :: _ => true
  | _ => false
/-- a call: k's arguments from the stack -/
def mm_call (k n pc : Nat) (S : List Value) : Option mm_O := if n ≤ S.length ∧ ((S.drop n).map fun v => v.category).sum ≤ 8 ∧ (mm_ar (S.take n).reverse).length ≤ mm_mx k then some (.inr (.inl (k, (S.take n).reverse, S.drop n, pc))) else none
def mm_inv (k n : Nat) (kd : Int) (pc : Nat) (L : mm_L) (S : List Value) (m : mm_M) : Option mm_O :=
  if kd = 0 ∨ kd = 1 ∨ kd = 20 then mm_call k n pc S
  else if kd = 2 then (if mm_rc m (mm_ow k) (S.take n).reverse = true then mm_call k n pc S else none)
  else if kd = 3 ∨ kd = 5 then (if mm_rf (S.take n).reverse = true then mm_call k n pc S else none)
  else mm_prim kd pc L S m
def mm_ldc (r1 r2 : Nat) (r3 : Int) (pc : Nat) (L : mm_L) (S : List Value) (m : mm_M) : Option mm_O :=
  if r1 = 0 then mm_nx pc L (.int (Int32.ofInt r3) :: S) m else if r1 = 2 then mm_nx pc L (.ref r2 :: S) m else none
def mm_cd : Jvm.ClassFile.Cond → Int32 → Int32 → Bool
  | .eq, x, y => decide (x = y)
  | .ne, x, y => decide (¬ x = y)
  | .lt, x, y => decide (x < y)
  | .ge, x, y => decide (y ≤ x)
  | .gt, x, y => decide (y < x)
  | .le, x, y => decide (x ≤ y)
def mm_ret (kd : Nat) (S : List Value) : Option mm_O := match S with
  | [.int x] => if kd = 0 ∨ (kd = 1 ∧ (x = 0 ∨ x = 1)) ∨ (kd = 2 ∧ (x.toUInt32 % 65536).toInt32 = x) ∨ (kd = 3 ∧ x.toInt8.toInt32 = x) then some (.inr (.inr (.inl (some (.int x))))) else none
  | _ => none
def mm_lrt (S : List Value) : Option mm_O := match S with
  | [.long x] => some (.inr (.inr (.inl (some (.long x)))))
  | _ => none
def mm_tsw (d lo hi : Int) (offs : Array Int) (pc : Nat) (L : mm_L) (S : List Value) (m : mm_M) : Option mm_O := match S with
  | .int x :: r => if x.toInt < lo ∨ hi < x.toInt then mm_nx ((pc : Int) + d).toNat L r m else match offs[(x.toInt - lo).toNat]? with
    | some o => mm_nx ((pc : Int) + o).toNat L r m
    | none => none
  | _ => none
def mm_lsw (d : Int) (ps : Array (Int × Int)) (pc : Nat) (L : mm_L) (S : List Value) (m : mm_M) : Option mm_O := match S with
  | .int x :: r => mm_nx ((pc : Int) + Op.lookupswitch.offset ps.toList d x.toInt).toNat L r m
  | _ => none
def mm_thr (S : List Value) : Option mm_O := match S with
  | [] => some (.inr (.inr (.inr ())))
  | _ => none
/-- the kind of the method's answer: 1 a boolean, 2 a char, 3 a byte -/
def mm_isZ (j : Nat) : Nat := if mm_rt j = some .boolean then 1 else if mm_rt j = some .char then 2 else if mm_rt j = some .byte then 3 else 0
def mm_step (j : Nat) (e : mm_E) (pc : Nat) (L : mm_L) (S : List Value) (m : mm_M) : Option mm_O := match e.1 with
  | .iconst n => mm_nx (pc + 1) L (.int (Int32.ofInt n) :: S) m
  | .bipush n => mm_nx (pc + 2) L (.int (Int8.ofInt n).toInt32 :: S) m
  | .sipush n => mm_nx (pc + 3) L (.int (Int16.ofInt n).toInt32 :: S) m
  | .lconst n => mm_nx (pc + 1) L (.long (Int64.ofNat (n : Nat)) :: S) m
  | .ldc _ => mm_ldc e.2.2.1 e.2.2.2.1 e.2.2.2.2 (pc + 2) L S m
  | .ldc_w _ => if e.2.2.1 = 0 then mm_nx (pc + 3) L (.int (Int32.ofInt e.2.2.2.2) :: S) m else none
  | .ldc2_w _ => if e.2.2.1 = 1 then mm_nx (pc + 3) L (.long (Int64.ofInt e.2.2.2.2) :: S) m else none
  | .iload_n k => mm_ldI k (pc + 1) L S m
  | .iload i => mm_ldI i (pc + 2) L S m
  | .lload_n k => mm_ldL k (pc + 1) L S m
  | .lload i => mm_ldL i (pc + 2) L S m
  | .aload_n k => mm_ldR k (pc + 1) L S m
  | .aload i => mm_ldR i (pc + 2) L S m
  | .istore_n k => mm_stI k (pc + 1) L S m
  | .istore i => mm_stI i (pc + 2) L S m
  | .lstore_n k => mm_stL k (pc + 1) L S m
  | .lstore i => mm_stL i (pc + 2) L S m
  | .astore_n k => mm_stR k (pc + 1) L S m
  | .astore i => mm_stR i (pc + 2) L S m
  | .iinc i n => mm_inc i n (pc + 3) L S m
  | .iadd => mm_bI (fun x y => x + y) (pc + 1) L S m
  | .isub => mm_bI (fun x y => x - y) (pc + 1) L S m
  | .imul => mm_bI (fun x y => x * y) (pc + 1) L S m
  | .iand => mm_bI (fun x y => x &&& y) (pc + 1) L S m
  | .ior => mm_bI (fun x y => x ||| y) (pc + 1) L S m
  | .ixor => mm_bI (fun x y => x ^^^ y) (pc + 1) L S m
  | .ishl => mm_bI (fun x y => x <<< (y &&& 31)) (pc + 1) L S m
  | .ishr => mm_bI (fun x y => x >>> (y &&& 31)) (pc + 1) L S m
  | .iushr => mm_bI (fun x y => (x.toUInt32 >>> (y.toUInt32 &&& Int32.toUInt32 31)).toInt32) (pc + 1) L S m
  | .idiv => mm_dI (fun x y => x / y) (pc + 1) L S m
  | .irem => mm_dI (fun x y => x - x / y * y) (pc + 1) L S m
  | .ineg => mm_1I (fun x => .int (-x)) (pc + 1) L S m
  | .ladd => mm_bL (fun x y => x + y) (pc + 1) L S m
  | .lsub => mm_bL (fun x y => x - y) (pc + 1) L S m
  | .lmul => mm_bL (fun x y => x * y) (pc + 1) L S m
  | .land => mm_bL (fun x y => x &&& y) (pc + 1) L S m
  | .lor => mm_bL (fun x y => x ||| y) (pc + 1) L S m
  | .ldiv => mm_dL (fun x y => x / y) (pc + 1) L S m
  | .lrem => mm_dL (fun x y => x - x / y * y) (pc + 1) L S m
  | .lshl => mm_hL (fun x y => x <<< (y.toInt64 &&& 63)) (pc + 1) L S m
  | .lshr => mm_hL (fun x y => x >>> (y.toInt64 &&& 63)) (pc + 1) L S m
  | .lushr => mm_hL (fun x y => (x.toUInt64 >>> (y.toInt64.toUInt64 &&& Int64.toUInt64 63)).toInt64) (pc + 1) L S m
  | .lcmp => mm_cL (pc + 1) L S m
  | .i2l => mm_1I (fun x => .long x.toInt64) (pc + 1) L S m
  | .l2i => mm_1L (fun x => .int x.toInt32) (pc + 1) L S m
  | .i2b => mm_1I (fun x => .int x.toInt8.toInt32) (pc + 1) L S m
  | .i2c => mm_1I (fun x => .int (x.toUInt32 % 65536).toInt32) (pc + 1) L S m
  | .dup => mm_dup (pc + 1) L S m
  | .dup2 => mm_dup2 (pc + 1) L S m
  | .pop => mm_pop (pc + 1) L S m
  | .goto _ => mm_nx e.2.2.1 L S m
  | .ifCond c _ => mm_if (fun x => mm_cd c x 0) e.2.2.1 (pc + 3) L S m
  | .if_icmp c _ => mm_ic (mm_cd c) e.2.2.1 (pc + 3) L S m
  | .tableswitch d lo hi offs => mm_tsw d lo hi offs pc L S m
  | .lookupswitch d ps => mm_lsw d ps pc L S m
  | .getstatic _ => mm_nx (pc + 3) L ((if e.2.2.1 = 0 then .int 1 else va_rf (mm_gR m 99 0)) :: S) m
  | .getfield _ => if e.2.2.1 = 30 then mm_gst e.2.2.2.1 (pc + 3) L S m else mm_get e.2.2.1 e.2.2.2.1 e.2.2.2.2 (pc + 3) L S m
  | .putfield _ => mm_put e.2.2.1 e.2.2.2.1 e.2.2.2.2 (pc + 3) L S m
  | .iaload => mm_ald 20 (fun a i => .int (mm_gI m a i)) (pc + 1) L S m
  | .laload => mm_ald 21 (fun a i => .long (mm_gL m a i)) (pc + 1) L S m
  | .baload => mm_bld (pc + 1) L S m
  | .caload => mm_ald 23 (fun a i => .int (mm_gI m a i)) (pc + 1) L S m
  | .aaload => mm_rld (pc + 1) L S m
  | .iastore => mm_ast 20 (fun x => x) (pc + 1) L S m
  | .bastore => mm_ast 22 (vp_nar .boolean) (pc + 1) L S m
  | .castore => mm_ast 23 (vp_nar .char) (pc + 1) L S m
  | .lastore => mm_lst (pc + 1) L S m
  | .aastore => mm_rst (pc + 1) L S m
  | .arraylength => mm_len (pc + 1) L S m
  | .new _ => if e.2.2.1 = 99 then mm_thr S else if m.2.1.1 = 0 then mm_nx (pc + 3) L (.ref (mm_next m) :: S) (mm_new m (e.2.2.1, 0)) else none
  | .newarray t => match t with
    | .int => mm_nwa 20 (pc + 2) L S m
    | .long => mm_nwa 21 (pc + 2) L S m
    | .boolean => mm_nwa 22 (pc + 2) L S m
    | .char => mm_nwa 23 (pc + 2) L S m
    | _ => none
  | .anewarray _ => mm_nwa e.2.2.1 (pc + 3) L S m
  | .multianewarray _ _ => mm_nw2 (pc + 4) L S m
  | .invokevirtual _ => mm_inv e.2.2.1 e.2.2.2.1 e.2.2.2.2 (pc + 3) L S m
  | .invokespecial _ => mm_inv e.2.2.1 e.2.2.2.1 e.2.2.2.2 (pc + 3) L S m
  | .invokestatic _ => mm_inv e.2.2.1 e.2.2.2.1 e.2.2.2.2 (pc + 3) L S m
  | .ireturn => mm_ret (mm_isZ j) S
  | .lreturn => mm_lrt S
  | .return_ => match S with
    | [] => some (.inr (.inr (.inl none)))
    | _ => none
  | _ => none
abbrev mm_R : Type := Option (Option Value) × mm_M
abbrev mm_F : Type := Nat → Nat → Nat → mm_L → List Value → mm_M → Option mm_R
def mm_okO (m : mm_M) (o : Nat) : Bool := match mm_sh m o with
  | some s => decide (s.1 = 21) && decide (0 < s.2)
  | none => false
/-- an answer of the method's kind -/
def mm_okv (t : Option FieldType) (v : Option Value) : Bool := match v with
  | none => decide (t = none)
  | some (.long _) => decide (t = some .long)
  | some (.int _) => decide (¬ t = none) && decide (¬ t = some .long)
  | _ => false
def mm_k1 (f : mm_F) (k d j pc : Nat) (L : mm_L) (S : List Value) (q : mm_R) : Option mm_R := match q.1 with
  | some v => if mm_okv (mm_rt k) v = true then f d j pc L (v.toList ++ S) q.2 else none
  | none => none
def mm_k2 (f : mm_F) (d j pc : Nat) (L : mm_L) (S : List Value) (o : Nat) (q : mm_R) : Option mm_R := match q.1 with
  | some (some (.int r)) => if mm_okO q.2 o = true then f d j pc L (.int 0 :: S) (mm_sL q.2 o 0 r.toInt64) else none
  | none => f d j pc L (.int 1 :: S) q.2
  | _ => none
def mm_kdo (m : mm_M) (a : Nat) : Nat := match mm_sh m a with
  | some s => s.1
  | none => 999
/-- the law's own helper: calls laws, catches what it throws -/
def mm_cl2 (f : mm_F) (d : Nat) (as : List Value) (j pc : Nat) (L : mm_L) (S : List Value) (m : mm_M) : Option mm_R := match d, as with
  | d' + 1, [.ref x, .int v, .ref o] => if 6 ≤ d' ∧ (mm_ar [Value.ref x, .int v]).length ≤ mm_mx 154 ∧ mm_kdo m x = 11 then (f d' 154 0 (mm_en 154 [.ref x, .int v]) [] m).bind (mm_k2 f (d' + 2) j pc L S o) else none
  | _, _ => none
def mm_cal (f : mm_F) (d k : Nat) (as : List Value) (j pc : Nat) (L : mm_L) (S : List Value) (m : mm_M) : Option mm_R := match d with
  | 0 => none
  | d' + 1 => if k = 278 then mm_cl2 f d' as j pc L S m else (f d' k 0 (mm_en k as) [] m).bind (mm_k1 f k (d' + 1) j pc L S)
def mm_out (f : mm_F) (d j : Nat) (L : mm_L) (m : mm_M) (o : mm_O) : Option mm_R := match o with
  | .inl q => f d j q.1 q.2.1 q.2.2.1 q.2.2.2
  | .inr (.inl q) => mm_cal f d q.1 q.2.1 j q.2.2.2 L q.2.2.1 m
  | .inr (.inr (.inl v)) => some (some v, m)
  | .inr (.inr (.inr _)) => some (none, mm_exc m)
def mm_body (f : mm_F) (d j pc : Nat) (L : mm_L) (S : List Value) (m : mm_M) : Option mm_R := (mm_at j pc).bind (fun e => (mm_step j e pc L S m).bind (mm_out f d j L m))
/-- a run of the small machine: n steps at most, calls d deep at most; what comes: the answer (none: thrown) and the memory -/
def mm_run : Nat → mm_F
  | 0 => fun _ _ _ _ _ _ => none
  | n + 1 => mm_body (mm_run n)
end
section
def mm_le (f g : mm_F) : Prop := ∀ (d j pc : Nat) (L : mm_L) (S : List Value) (m : mm_M) (r : mm_R), f d j pc L S m = some r → g d j pc L S m = some r
theorem mm_le_k1 {f g : mm_F} (h : mm_le f g) {k d j pc : Nat} {L : mm_L} {S : List Value} {q r : mm_R} (e : mm_k1 f k d j pc L S q = some r) : mm_k1 g k d j pc L S q = some r := by
  unfold mm_k1 at e ⊢
  split at e
  · split at e
    · next hv => rw [if_pos hv]; exact h _ _ _ _ _ _ _ e
    · cases e
  · cases e
theorem mm_le_k2 {f g : mm_F} (h : mm_le f g) {d j pc : Nat} {L : mm_L} {S : List Value} {o : Nat} {q r : mm_R} (e : mm_k2 f d j pc L S o q = some r) : mm_k2 g d j pc L S o q = some r := by
  unfold mm_k2 at e ⊢
  split at e
  · split at e
    · next hv => rw [if_pos hv]; exact h _ _ _ _ _ _ _ e
    · cases e
  · exact h _ _ _ _ _ _ _ e
  · cases e
theorem mm_le_cl2 {f g : mm_F} (h : mm_le f g) {d : Nat} {as : List Value} {j pc : Nat} {L : mm_L} {S : List Value} {m : mm_M} {r : mm_R} (e : mm_cl2 f d as j pc L S m = some r) : mm_cl2 g d as j pc L S m = some r := by
  unfold mm_cl2 at e ⊢
  split at e
  · split at e
    · next ho =>
      obtain ⟨q, h1, h2⟩ := Option.bind_eq_some_iff.mp e
      try dsimp only
      rw [if_pos ho]
      exact Option.bind_eq_some_iff.mpr ⟨q, h _ _ _ _ _ _ _ h1, mm_le_k2 h h2⟩
    · cases e
  · cases e
theorem mm_le_cal {f g : mm_F} (h : mm_le f g) {d k : Nat} {as : List Value} {j pc : Nat} {L : mm_L} {S : List Value} {m : mm_M} {r : mm_R} (e : mm_cal f d k as j pc L S m = some r) : mm_cal g d k as j pc L S m = some r := by
  unfold mm_cal at e ⊢
  split at e
  · cases e
  · try dsimp only
    split at e
    · next hk => rw [if_pos hk]; exact mm_le_cl2 h e
    · next hk =>
      rw [if_neg hk]
      obtain ⟨q, h1, h2⟩ := Option.bind_eq_some_iff.mp e
      exact Option.bind_eq_some_iff.mpr ⟨q, h _ _ _ _ _ _ _ h1, mm_le_k1 h h2⟩
theorem mm_le_out {f g : mm_F} (h : mm_le f g) {d j : Nat} {L : mm_L} {m : mm_M} {o : mm_O} {r : mm_R} (e : mm_out f d j L m o = some r) : mm_out g d j L m o = some r := by
  rcases o with q | q | v | u
  · exact h _ _ _ _ _ _ _ e
  · exact mm_le_cal h e
  · exact e
  · exact e
theorem mm_le_body {f g : mm_F} (h : mm_le f g) : mm_le (mm_body f) (mm_body g) := by
  intro d j pc L S m r e
  unfold mm_body at e ⊢
  obtain ⟨x, h1, h2⟩ := Option.bind_eq_some_iff.mp e
  obtain ⟨o, h3, h4⟩ := Option.bind_eq_some_iff.mp h2
  exact Option.bind_eq_some_iff.mpr ⟨x, h1, Option.bind_eq_some_iff.mpr ⟨o, h3, mm_le_out h h4⟩⟩
theorem mm_le_s : ∀ n : Nat, mm_le (mm_run n) (mm_run (n + 1))
  | 0 => fun _ _ _ _ _ _ _ e => by cases e
  | n + 1 => mm_le_body (mm_le_s n)
theorem mm_le_add (n : Nat) : ∀ k : Nat, mm_le (mm_run n) (mm_run (n + k))
  | 0 => fun _ _ _ _ _ _ _ e => e
  | k + 1 => fun _ _ _ _ _ _ _ e => mm_le_s _ _ _ _ _ _ _ _ (mm_le_add n k _ _ _ _ _ _ _ e)
theorem mm_le_of {n k : Nat} (h : n ≤ k) : mm_le (mm_run n) (mm_run k) := by
  obtain ⟨i, rfl⟩ := Nat.exists_eq_add_of_le h
  exact mm_le_add n i
/-- what the small machine comes to at last, none if never -/
noncomputable def mm_ev : mm_F := fun d j pc L S m => @dite _ (∃ (r : mm_R) (n : Nat), mm_run n d j pc L S m = some r) (Classical.propDecidable _) (fun h => some (Classical.choose h)) (fun _ => none)
theorem mm_ev_iff {d j pc : Nat} {L : mm_L} {S : List Value} {m : mm_M} {r : mm_R} : mm_ev d j pc L S m = some r ↔ ∃ n : Nat, mm_run n d j pc L S m = some r := by
  unfold mm_ev
  by_cases h : ∃ (r : mm_R) (n : Nat), mm_run n d j pc L S m = some r
  · rw [dif_pos h]
    obtain ⟨n, hn⟩ := Classical.choose_spec h
    constructor
    · intro e
      cases e
      exact ⟨n, hn⟩
    · rintro ⟨k, hk⟩
      have h1 := mm_le_of (Nat.le_max_left n k) _ _ _ _ _ _ _ hn
      have h2 := mm_le_of (Nat.le_max_right n k) _ _ _ _ _ _ _ hk
      rw [h1] at h2
      exact h2
  · rw [dif_neg h]
    constructor
    · intro e; cases e
    · rintro ⟨k, hk⟩
      exact absurd ⟨r, k, hk⟩ h
theorem mm_ev_run (n : Nat) : mm_le (mm_run n) mm_ev := fun _ _ _ _ _ _ _ e => mm_ev_iff.mpr ⟨n, e⟩
theorem mm_ct_k1 {k d j pc : Nat} {L : mm_L} {S : List Value} {q r : mm_R} (e : mm_k1 mm_ev k d j pc L S q = some r) : ∃ n, mm_k1 (mm_run n) k d j pc L S q = some r := by
  unfold mm_k1 at e ⊢
  split at e
  · split at e
    · next hv => simp only [if_pos hv]; exact mm_ev_iff.mp e
    · cases e
  · cases e
theorem mm_ct_k2 {d j pc : Nat} {L : mm_L} {S : List Value} {o : Nat} {q r : mm_R} (e : mm_k2 mm_ev d j pc L S o q = some r) : ∃ n, mm_k2 (mm_run n) d j pc L S o q = some r := by
  unfold mm_k2 at e ⊢
  split at e
  · split at e
    · next hv => simp only [if_pos hv]; exact mm_ev_iff.mp e
    · cases e
  · exact mm_ev_iff.mp e
  · cases e
theorem mm_ct_b1 {x : Option mm_R} {k9 d j pc : Nat} {L : mm_L} {S : List Value} {d0 k : Nat} {L0 : mm_L} {m : mm_M} {r : mm_R} (e : (mm_ev d0 k 0 L0 [] m).bind (mm_k1 mm_ev k9 d j pc L S) = some r) : ∃ n, (mm_run n d0 k 0 L0 [] m).bind (mm_k1 (mm_run n) k9 d j pc L S) = some r := by
  obtain ⟨q, h1, h2⟩ := Option.bind_eq_some_iff.mp e
  obtain ⟨n1, e1⟩ := mm_ev_iff.mp h1
  obtain ⟨n2, e2⟩ := mm_ct_k1 h2
  exact ⟨max n1 n2, Option.bind_eq_some_iff.mpr ⟨q, mm_le_of (Nat.le_max_left _ _) _ _ _ _ _ _ _ e1, mm_le_k1 (mm_le_of (Nat.le_max_right _ _)) e2⟩⟩
theorem mm_ct_b2 {d j pc : Nat} {L : mm_L} {S : List Value} {o d0 k : Nat} {L0 : mm_L} {m : mm_M} {r : mm_R} (e : (mm_ev d0 k 0 L0 [] m).bind (mm_k2 mm_ev d j pc L S o) = some r) : ∃ n, (mm_run n d0 k 0 L0 [] m).bind (mm_k2 (mm_run n) d j pc L S o) = some r := by
  obtain ⟨q, h1, h2⟩ := Option.bind_eq_some_iff.mp e
  obtain ⟨n1, e1⟩ := mm_ev_iff.mp h1
  obtain ⟨n2, e2⟩ := mm_ct_k2 h2
  exact ⟨max n1 n2, Option.bind_eq_some_iff.mpr ⟨q, mm_le_of (Nat.le_max_left _ _) _ _ _ _ _ _ _ e1, mm_le_k2 (mm_le_of (Nat.le_max_right _ _)) e2⟩⟩
theorem mm_ct_cal {d k : Nat} {as : List Value} {j pc : Nat} {L : mm_L} {S : List Value} {m : mm_M} {r : mm_R} (e : mm_cal mm_ev d k as j pc L S m = some r) : ∃ n, mm_cal (mm_run n) d k as j pc L S m = some r := by
  unfold mm_cal at e ⊢
  split at e
  · cases e
  · try dsimp only
    split at e
    · next hk =>
      simp only [if_pos hk]
      unfold mm_cl2 at e ⊢
      split at e
      · split at e
        · next ho =>
          try dsimp only
          simp only [if_pos ho]
          exact mm_ct_b2 e
        · cases e
      · cases e
    · next hk =>
      simp only [if_neg hk]
      exact mm_ct_b1 (x := none) e
theorem mm_ct_body {d j pc : Nat} {L : mm_L} {S : List Value} {m : mm_M} {r : mm_R} (e : mm_body mm_ev d j pc L S m = some r) : ∃ n, mm_body (mm_run n) d j pc L S m = some r := by
  unfold mm_body at e ⊢
  obtain ⟨x, h1, h2⟩ := Option.bind_eq_some_iff.mp e
  obtain ⟨o, h3, h4⟩ := Option.bind_eq_some_iff.mp h2
  have key : ∃ n, mm_out (mm_run n) d j L m o = some r := by
    rcases o with q | q | v | u
    · exact mm_ev_iff.mp h4
    · exact mm_ct_cal h4
    · exact ⟨0, h4⟩
    · exact ⟨0, h4⟩
  obtain ⟨n, hn⟩ := key
  exact ⟨n, Option.bind_eq_some_iff.mpr ⟨x, h1, Option.bind_eq_some_iff.mpr ⟨o, h3, hn⟩⟩⟩
theorem mm_ev_fix (d j pc : Nat) (L : mm_L) (S : List Value) (m : mm_M) : mm_ev d j pc L S m = mm_body mm_ev d j pc L S m := by
  apply Option.ext
  intro r
  constructor
  · intro e
    obtain ⟨n, hn⟩ := mm_ev_iff.mp e
    cases n with
    | zero => cases hn
    | succ n => exact mm_le_body (mm_ev_run n) _ _ _ _ _ _ _ hn
  · intro e
    obtain ⟨n, hn⟩ := mm_ct_body e
    exact mm_ev_iff.mpr ⟨n + 1, hn⟩
/-- a step -/
theorem ev_s {d j pc : Nat} {L : mm_L} {S : List Value} {m : mm_M} {e : mm_E} {pc' : Nat} {L' : mm_L} {S' : List Value} {m' : mm_M} (h : mm_at j pc = some e) (h2 : mm_step j e pc L S m = mm_nx pc' L' S' m') : mm_ev d j pc L S m = mm_ev d j pc' L' S' m' := by
  rw [mm_ev_fix d j pc L S m]
  unfold mm_body
  rw [h, Option.bind_some, h2]
  rfl
/-- an answer -/
theorem ev_r {d j pc : Nat} {L : mm_L} {S : List Value} {m : mm_M} {e : mm_E} {v : Option Value} (h : mm_at j pc = some e) (h2 : mm_step j e pc L S m = some (.inr (.inr (.inl v)))) : mm_ev d j pc L S m = some (some v, m) := by
  rw [mm_ev_fix d j pc L S m]
  unfold mm_body
  rw [h, Option.bind_some, h2]
  rfl
theorem ev_x {d j pc : Nat} {L : mm_L} {S : List Value} {m : mm_M} {e : mm_E} (h : mm_at j pc = some e) (h2 : mm_step j e pc L S m = some (.inr (.inr (.inr ())))) : mm_ev d j pc L S m = some (none, mm_exc m) := by
  rw [mm_ev_fix d j pc L S m]
  unfold mm_body
  rw [h, Option.bind_some, h2]
  rfl
/-- a call -/
theorem ev_c {d j pc k pc' : Nat} {L : mm_L} {S S' as : List Value} {m : mm_M} {e : mm_E} (h : mm_at j pc = some e) (h2 : mm_step j e pc L S m = some (.inr (.inl (k, as, S', pc')))) (hk : ¬ k = 278) : mm_ev (d + 1) j pc L S m = (mm_ev d k 0 (mm_en k as) [] m).bind (mm_k1 mm_ev k (d + 1) j pc' L S') := by
  rw [mm_ev_fix (d + 1) j pc L S m]
  unfold mm_body
  rw [h, Option.bind_some, h2]
  show mm_cal mm_ev (d + 1) k as j pc' L S' m = _
  unfold mm_cal
  try dsimp only
  rw [if_neg hk]
/-- a branch -/
theorem ev_b {d j pc : Nat} {L : mm_L} {S : List Value} {m : mm_M} {e : mm_E} {c : Bool} {t f : Nat} {S' : List Value} (h : mm_at j pc = some e) (h2 : mm_step j e pc L S m = if c = true then mm_nx t L S' m else mm_nx f L S' m) : mm_ev d j pc L S m = if c = true then mm_ev d j t L S' m else mm_ev d j f L S' m := by
  by_cases hc : c = true
  · rw [if_pos hc] at h2 ⊢
    exact ev_s h h2
  · rw [if_neg hc] at h2 ⊢
    exact ev_s h h2
end
section
section VXA
def vx_T (XC : String → State → State → Prop) (st : State) (q : Addr) (t : State) (mc ms : Nat) (free : Addr → Prop) : Prop :=
  ∃ (E : String) (ce : Cell) (L : List Loc), XC E st t ∧ t.heap[q]? = some ce ∧ ce.vm = .none ∧ st.vm.findClass E = some ce.cls ∧ st.WarmedH t.vm ∧ st.sameButNew ({ t with vm := st.vm } : State) L mc ms ∧ ∀ z ∈ L, free z.base
def vx_Q (Qc : Array Value → State → Outcome → State → Prop) (XC : String → State → State → Prop) (mc ms : Nat) (free : Addr → Prop) : Array Value → State → Outcome → State → Prop := fun a st o t =>
  (Qc a st o t ∧ ∃ L, FrameEnd st o t L mc ms ∧ ∀ q ∈ L, free q.base) ∨ ∃ q, o = .threw q ∧ vx_T XC st q t mc ms free
def vx_Met (l : Launch) (y : MethodName) (ws : List Cond) (rm : Room) (Pc : Array Value → State → Prop) (Qc : Array Value → State → Outcome → State → Prop) (XC : String → State → State → Prop) (mc ms : Nat) (free : Addr → Prop) : Prop :=
  MetFree l y (headSpec ws rm) Pc (fun _ _ _ _ _ => True) (vx_Q Qc XC mc ms free)
def vx_Post (XC : String → State → State → Prop) (mc ms : Nat) (free : Addr → Prop) : Pt → Array Value → Addr → Pt → Prop := fun A a q B =>
  ∃ (g : JFrame) (mk : MethodId) (t : State) (L : List Loc) (E : String) (ce : Cell), B.U.heap = t.heap ∧ B.U.vm = t.vm ∧ XC E (A.U.calling g mk a) t ∧ t.heap[q]? = some ce ∧ ce.vm = .none ∧ A.U.vm.findClass E = some ce.cls ∧ B.locs = A.locs ++ L ∧ (∀ z ∈ L, free z.base) ∧ B.cells = A.cells + mc ∧ B.slots = A.slots + ms
def vx_Back (l : Launch) (R : Room) (p : Program) (e : Env) (below : List Frame) (s : State) (sargs : Array Value) (y : MethodName) (len W9 : Nat)
    (Pre : Pt → Array Value → Prop) (Post : Pt → Array Value → Option Value → Pt → Prop) (PostX : Pt → Array Value → Addr → Pt → Prop) : Prop :=
  ∀ (m : MethodId) (meth : Method) (c : Code) (A : Pt) (g : JFrame) (ig : Instr) (mk : MethodId) (a : Array Value),
    Stand p l e R s m sargs below meth c A.U A.locs A.cells A.slots → g.method = m → g.locals.size = c.maxLocals → decode c.code g.pc = .ok (ig, len) →
    2 * g.monitorRoom + (g.stack.map fun v => v.category).sum ≤ W9 → A.U.methodNamed? y = some mk → Pre A a →
    (∃ (v : Option Value) (B : Pt), Stand p l e R s m sargs below meth c B.U B.locs B.cells B.slots ∧ Post A a v B ∧
      Steps p.tables e below (doInvoke e (A.U.setTop g) [] mk a).1 (B.U.setTop { g with pc := g.pc + len, stack := v.toList ++ g.stack })) ∨
    (∃ (q : Addr) (B : Pt), Stand p l e R s m sargs below meth c B.U B.locs B.cells B.slots ∧ PostX A a q B ∧
      Steps p.tables e below (doInvoke e (A.U.setTop g) [] mk a).1 ((B.U.setTop g).pushFrame (.throwing q)))
section Payer
variable {l : Launch} {R : Room} {p : Program} {e : Env} {below : List Frame} {s : State} {sargs : Array Value} {y : MethodName} {len W9 : Nat}
theorem vx_back {ws : List Cond} {rm : Room} {Pc : Array Value → State → Prop} {Qc : Array Value → State → Outcome → State → Prop} {XC : String → State → State → Prop} {mc ms : Nat} {free : Addr → Prop} {bytes : ByteArray} {maxL : Nat} {ret : Option FieldType}
    (hM : vx_Met l y ws rm Pc Qc XC mc ms free) (hblind : FrameBlind Pc) (hrc : rm.cells = mc) (hrs : rm.slots = ms)
    (hframes : rm.frames + 1 ≤ R.frames) (hlocals : W9 + (maxL + 11) + rm.locals ≤ R.locals)
    (hws : ∀ w ∈ ws, ∀ a' U, s.WarmedH U.vm → w.before a' U = true) (hcode : Cond.code y bytes maxL ret ∈ ws) (hinit : ∀ a' U, s.WarmedH U.vm → (Cond.initialized y.cls).before a' U = true) :
    vx_Back l R p e below s sargs y len W9 (PreOf R mc ms Pc) (PostOf Qc mc ms free) (vx_Post XC mc ms free) := by
  intro m meth c A g ig mk a X hg hsize hdg hW hn hp
  have h1 : (headSpec ws rm).pre.before a A.U = true := atoms_intro fun w hw => hws w hw _ _ X.warmed
  have h2 : (Cond.code y bytes maxL ret).before a A.U = true := hws _ hcode _ _ X.warmed
  have h3 : (Cond.initialized y.cls).before a A.U = true := hinit _ _ X.warmed
  have h4 : A.cells + (headSpec ws rm).room.cells ≤ R.cells := by rw [show (headSpec ws rm).room.cells = mc from hrc]; exact hp.1
  have h5 : A.slots + (headSpec ws rm).room.slots ≤ R.slots := by rw [show (headSpec ws rm).room.slots = ms from hrs]; exact hp.2.1
  have hPc : Pc a (A.U.calling g mk a) := hblind _ _ _ _ hp.2.2
  obtain ⟨U, Ls, c0, s0⟩ := A
  dsimp only [Pt.U, Pt.locs, Pt.cells, Pt.slots] at h1 h2 h3 h4 h5 X hn hPc ⊢
  obtain ⟨methY, cY, hmY, hcY, -, hlY, -, -, -, -⟩ := Cond.code_spec hn h2
  obtain ⟨kY, hkY, -⟩ := className_of_methodNamed hn
  have hinitY : kY.init = .initialized := Cond.initialized_spec (findClass_of_methodNamed hn) hkY h3
  have h : At U g.method c below := by rw [hg]; exact X.here
  have hlocals9 : W9 + (maxL + 11) + (headSpec ws rm).room.locals ≤ R.locals := hlocals
  have happ : (headSpec ws rm).appliesLoose y e.platform (U.calling g mk a) = true :=
    Spec.appliesLoose_calling (g := g) h hdg hn hkY hinitY
      (X.room_calling (g := g) (R' := (headSpec ws rm).room) hsize hmY hcY hframes (by rw [hlY]; omega) h4 h5) h1
  obtain ⟨mid, hmid⟩ := h.above
  have hfr : (U.setTop g).frames = (.java g :: mid) ++ below := by rw [State.frames_setTop' g h.top, hmid]; rfl
  obtain ⟨o, s₂, hsteps, -, hend, hq⟩ := Steps.callFree hM p X.admits X.cas X.clock (acts := []) hfr happ hPc trivial
  have hq' : vx_Q Qc XC mc ms free a (U.calling g mk a) o s₂ := hq
  rw [State.frames_setTop' g h.top] at hend
  obtain ⟨g₀, hg0⟩ := Option.isSome_iff_exists.mp h.top
  obtain ⟨r, hr⟩ := State.topJava?_eq_some.mp hg0
  have hr' : (({ U with heap := s₂.heap, slotsUsed := s₂.slotsUsed } : State).setVm s₂.vm).frames = .java g₀ :: r := hr
  rcases hq' with ⟨hqc, L, hfe, hL⟩ | ⟨q, rfl, E, ce, L, hx, hce, hcv, hcl, hW₂, hsm, hL⟩
  · obtain ⟨⟨v, rfl⟩, hW₂, e2, q2, q3, q4, q5, q6⟩ := id hfe
    have e3 : s₂ = ({ (U.calling g mk a).setFrames s₂.frames with heap := s₂.heap, slotsUsed := s₂.slotsUsed } : State).setVm s₂.vm := by
      have : s₂ = ({ s₂ with vm := (U.calling g mk a).vm } : State).setVm s₂.vm := rfl
      rw [e2] at this
      exact this
    obtain ⟨c₂, i₂, len₂, hc₂, hd₂, hf₂⟩ := hend
    have hW' : U.WarmedH s₂.vm := hW₂
    have hcc : c₂ = c := by
      have h1 : s₂.code? g.method = U.code? g.method := by
        rw [State.code?_eq, State.code?_eq, hW'.alike.method?]
      exact Option.some.inj (hc₂.symm.trans (h1.trans h.code))
    subst hcc
    have hlen : len₂ = len := by rw [hdg] at hd₂; cases hd₂; rfl
    subst hlen
    have hs₂ : s₂ = (({ U with heap := s₂.heap, slotsUsed := s₂.slotsUsed } : State).setVm s₂.vm).setTop { g with pc := g.pc + len₂, stack := v.toList ++ g.stack } := by
      refine e3.trans ?_
      rw [hf₂, State.calling_eq h.top, State.setFrames_setFrames, State.setTop_of_frames _ hr', hr]
      rfl
    have hsame : U.sameButNew ({ U with heap := s₂.heap, slotsUsed := s₂.slotsUsed } : State) L mc ms := by
      refine ⟨?_, q2, q3, q4, q5, q6⟩
      obtain ⟨t, ht, -⟩ := State.frames_cons hr
      show ({ U with heap := s₂.heap, slotsUsed := s₂.slotsUsed } : State) = { U.setFrames U.frames with heap := s₂.heap, slotsUsed := s₂.slotsUsed }
      rw [State.setFrames_self ht]
    subst hg
    refine Or.inl ⟨v, ⟨(({ U with heap := s₂.heap, slotsUsed := s₂.slotsUsed } : State).setVm s₂.vm), Ls ++ L, c0 + mc, s0 + ms⟩,
      ⟨X.admits, X.cas, X.clock, X.frames, X.room, X.hears, X.method, X.code, (X.here.setHeapUsed s₂.heap s₂.slotsUsed).setVm hW'.alike, X.tail, State.WarmedH.trans X.warmed hW', X.limits, X.bytes, X.same.trans (hsame.setVm s.vm)⟩,
      ⟨g, mk, s₂, L, rfl, rfl, hqc, rfl, hL, rfl, rfl⟩, ?_⟩
    show Steps p.tables e below _ ((({ U with heap := s₂.heap, slotsUsed := s₂.slotsUsed } : State).setVm s₂.vm).setTop { g with pc := g.pc + len₂, stack := v.toList ++ g.stack })
    rw [← hs₂]
    exact hsteps
  · obtain ⟨e2, q2, q3, q4, q5, q6⟩ := id hsm
    have e3 : s₂ = ({ (U.calling g mk a).setFrames s₂.frames with heap := s₂.heap, slotsUsed := s₂.slotsUsed } : State).setVm s₂.vm := by
      have : s₂ = ({ s₂ with vm := (U.calling g mk a).vm } : State).setVm s₂.vm := rfl
      rw [e2] at this
      exact this
    have hf₂ : s₂.frames = .throwing q :: .java g :: U.frames.tail := hend
    have hW' : U.WarmedH s₂.vm := hW₂
    have hs₂ : s₂ = ((({ U with heap := s₂.heap, slotsUsed := s₂.slotsUsed } : State).setVm s₂.vm).setTop g).pushFrame (.throwing q) := by
      refine e3.trans ?_
      rw [hf₂, State.calling_eq h.top, State.setFrames_setFrames, State.pushFrame, State.frames_setTop _ hr', State.setTop_of_frames _ hr', State.setFrames_setFrames, hr]
      rfl
    have hsame : U.sameButNew ({ U with heap := s₂.heap, slotsUsed := s₂.slotsUsed } : State) L mc ms := by
      refine ⟨?_, q2, q3, q4, q5, q6⟩
      obtain ⟨t, ht, -⟩ := State.frames_cons hr
      show ({ U with heap := s₂.heap, slotsUsed := s₂.slotsUsed } : State) = { U.setFrames U.frames with heap := s₂.heap, slotsUsed := s₂.slotsUsed }
      rw [State.setFrames_self ht]
    subst hg
    refine Or.inr ⟨q, ⟨(({ U with heap := s₂.heap, slotsUsed := s₂.slotsUsed } : State).setVm s₂.vm), Ls ++ L, c0 + mc, s0 + ms⟩,
      ⟨X.admits, X.cas, X.clock, X.frames, X.room, X.hears, X.method, X.code, (X.here.setHeapUsed s₂.heap s₂.slotsUsed).setVm hW'.alike, X.tail, State.WarmedH.trans X.warmed hW', X.limits, X.bytes, X.same.trans (hsame.setVm s.vm)⟩,
      ⟨g, mk, s₂, L, E, ce, rfl, rfl, hx, hce, hcv, hcl, rfl, hL, rfl, rfl⟩, ?_⟩
    show Steps p.tables e below _ (((({ U with heap := s₂.heap, slotsUsed := s₂.slotsUsed } : State).setVm s₂.vm).setTop g).pushFrame (.throwing q))
    rw [← hs₂]
    exact hsteps
end Payer
section Calls
variable {p : Program} {l : Launch} {e : Env} {R : Room} {s : State} {m : MethodId} {args : Array Value} {below : List Frame} {meth : Method} {c : Code} {T : State} {locs : List Loc} {cells slots : Nat}
theorem vx_callV (X : Stand p l e R s m args below meth c T locs cells slots) (hexec : p.tables.exec = Jvm.exec) {own C : String} {index : Nat} {y : MethodName} {bytes : ByteArray} {maxL : Nat} {ret : Option FieldType}
    (hown : s.vm.findClass own = some m.cls) (hlink : (Cond.methodLink own index y).before args s = true) (hinst : (Cond.instanceMethod y).before args s = true) (hsel : (Cond.selects C y y).before args s = true)
    (hcode : (Cond.code y bytes maxL ret).before args s = true) (hy : y.cls ≠ "java/lang/invoke/MethodHandle" ∧ y.cls ≠ "java/lang/invoke/VarHandle")
    {W9 : Nat} {Pre : Pt → Array Value → Prop} {Post : Pt → Array Value → Option Value → Pt → Prop} {PostX : Pt → Array Value → Addr → Pt → Prop} (hK : vx_Back l R p e below s args y 3 W9 Pre Post PostX)
    {b : Addr} {cellB : Cell} (hcell : T.heap[b]? = some cellB) (hobj : cellB.vm.isStatics = false) (hcls : s.vm.findClass C = some cellB.cls)
    {g : JFrame} (hg : g.method = m) (hsize : g.locals.size = c.maxLocals) {argsL rest : List Value} (hlen : ∀ sig, parseMethodDescriptor y.desc = some sig → argsL.length = sig.parameters.length)
    (hstack : g.stack = argsL.reverse ++ .ref b :: rest) (hW : 2 * g.monitorRoom + (rest.map fun v => v.category).sum ≤ W9) (hdg : decode c.code g.pc = .ok (.invokevirtual index, 3))
    (hpre : ∀ vm₁, s.WarmedH vm₁ → Pre ⟨T.setVm vm₁, locs, cells, slots⟩ (Value.ref b :: argsL).toArray) :
    (∃ (v : Option Value) (vm₁ : Vm) (B : Pt), s.WarmedH vm₁ ∧ Stand p l e R s m args below meth c B.U B.locs B.cells B.slots ∧ Post ⟨T.setVm vm₁, locs, cells, slots⟩ (Value.ref b :: argsL).toArray v B ∧
      ∀ target, Steps p.tables e below (B.U.setTop { g with pc := g.pc + 3, stack := v.toList ++ rest }) target → Steps p.tables e below (T.setTop g) target) ∨
    (∃ (q : Addr) (vm₁ : Vm) (B : Pt), s.WarmedH vm₁ ∧ Stand p l e R s m args below meth c B.U B.locs B.cells B.slots ∧ PostX ⟨T.setVm vm₁, locs, cells, slots⟩ (Value.ref b :: argsL).toArray q B ∧
      Steps p.tables e below (T.setTop g) ((B.U.setTop { g with stack := rest }).pushFrame (.throwing q))) := by
  obtain ⟨mk, methM, hnamed, hmethM, hstM, habM⟩ := Cond.instanceMethod_spec hinst
  obtain ⟨methM', cM, hmethM', -, -, -, -, -, -, hsigM⟩ := Cond.code_spec hnamed hcode
  cases hmethM.symm.trans hmethM'
  obtain ⟨c2, r2, m2, q1, q2, q3, q4, kP, hkP, hkPi⟩ := Cond.selects_spec hsel
  cases hcls.symm.trans q1
  cases (State.methodFound?_of_named hnamed hy).symm.trans q2
  cases hnamed.symm.trans q3
  have hselP : selectMethod e.platform s.vm cellB.cls mk = .method mk := by rw [Launch.admits_selectMethod X.admits]; exact q4
  obtain ⟨vm₁, X₁, hstep₁⟩ := X.invokevirtual hexec hown hlink hnamed hmethM hstM hkP hkPi hy (a := b) (cell := cellB) hcell
    (fun z h => by rw [h] at hobj; cases hobj) hselP hmethM habM hkP hkPi (g := g) hg (argsL := argsL) (rest := rest) (hlen _ hsigM) hstack hdg
  rcases hK m meth c ⟨T.setVm vm₁, locs, cells, slots⟩ { g with stack := rest } (.invokevirtual index) mk (Value.ref b :: argsL).toArray X₁ hg hsize hdg hW (X₁.named hnamed) (hpre vm₁ X₁.warmed) with ⟨v, B, X', hpost, hsteps⟩ | ⟨q, B, X', hpost, hsteps⟩
  · exact Or.inl ⟨v, vm₁, B, X₁.warmed, X', hpost, fun target h => hstep₁ _ fun acts => by rw [doInvoke_state]; exact hsteps.trans h⟩
  · exact Or.inr ⟨q, vm₁, B, X₁.warmed, X', hpost, hstep₁ _ fun acts => by rw [doInvoke_state]; exact hsteps⟩
theorem vx_callS (X : Stand p l e R s m args below meth c T locs cells slots) (hexec : p.tables.exec = Jvm.exec) {own : String} {index : Nat} {y : MethodName} {bytes : ByteArray} {maxL : Nat} {ret : Option FieldType}
    (hown : s.vm.findClass own = some m.cls) (hlink : (Cond.methodLink own index y).before args s = true) (hstat : (Cond.static y).before args s = true) (hinit : (Cond.initialized y.cls).before args s = true)
    (hcode : (Cond.code y bytes maxL ret).before args s = true) (hy : y.cls ≠ "java/lang/invoke/MethodHandle" ∧ y.cls ≠ "java/lang/invoke/VarHandle")
    {W9 : Nat} {Pre : Pt → Array Value → Prop} {Post : Pt → Array Value → Option Value → Pt → Prop} {PostX : Pt → Array Value → Addr → Pt → Prop} (hK : vx_Back l R p e below s args y 3 W9 Pre Post PostX)
    {g : JFrame} (hg : g.method = m) (hsize : g.locals.size = c.maxLocals) {argsL rest : List Value} (hlen : ∀ sig, parseMethodDescriptor y.desc = some sig → argsL.length = sig.parameters.length)
    (hstack : g.stack = argsL.reverse ++ rest) (hW : 2 * g.monitorRoom + (rest.map fun v => v.category).sum ≤ W9) (hdg : decode c.code g.pc = .ok (.invokestatic index, 3))
    (hpre : ∀ vm₁, s.WarmedH vm₁ → Pre ⟨T.setVm vm₁, locs, cells, slots⟩ argsL.toArray) :
    (∃ (v : Option Value) (vm₁ : Vm) (B : Pt), s.WarmedH vm₁ ∧ Stand p l e R s m args below meth c B.U B.locs B.cells B.slots ∧ Post ⟨T.setVm vm₁, locs, cells, slots⟩ argsL.toArray v B ∧
      ∀ target, Steps p.tables e below (B.U.setTop { g with pc := g.pc + 3, stack := v.toList ++ rest }) target → Steps p.tables e below (T.setTop g) target) ∨
    (∃ (q : Addr) (vm₁ : Vm) (B : Pt), s.WarmedH vm₁ ∧ Stand p l e R s m args below meth c B.U B.locs B.cells B.slots ∧ PostX ⟨T.setVm vm₁, locs, cells, slots⟩ argsL.toArray q B ∧
      Steps p.tables e below (T.setTop g) ((B.U.setTop { g with stack := rest }).pushFrame (.throwing q))) := by
  obtain ⟨mk, hnamed⟩ := Cond.code_named hcode
  obtain ⟨methM, cM, hmethM, -, -, -, -, -, -, hsigM⟩ := Cond.code_spec hnamed hcode
  have hstatic : methM.isStatic = true := Cond.static_spec hnamed hmethM hstat
  obtain ⟨kP, hkP, -⟩ := className_of_methodNamed hnamed
  have hinitP : kP.init = .initialized := Cond.initialized_spec (findClass_of_methodNamed hnamed) hkP hinit
  obtain ⟨vm₁, X₁, hstep₁⟩ := X.invokestatic hexec hown hlink hnamed hmethM hstatic hkP hinitP hy (g := g) hg (argsL := argsL) (rest := rest) (hlen _ hsigM) hstack hdg
  rcases hK m meth c ⟨T.setVm vm₁, locs, cells, slots⟩ { g with stack := rest } (.invokestatic index) mk argsL.toArray X₁ hg hsize hdg hW (X₁.named hnamed) (hpre vm₁ X₁.warmed) with ⟨v, B, X', hpost, hsteps⟩ | ⟨q, B, X', hpost, hsteps⟩
  · exact Or.inl ⟨v, vm₁, B, X₁.warmed, X', hpost, fun target h => hstep₁ _ fun acts => by rw [doInvoke_state]; exact hsteps.trans h⟩
  · exact Or.inr ⟨q, vm₁, B, X₁.warmed, X', hpost, hstep₁ _ fun acts => by rw [doInvoke_state]; exact hsteps⟩
end Calls
theorem vx_cls {s : State} {T : State} {vm₁ : Vm} {E : String} {k : ClassId} (hW : s.WarmedH vm₁) (h : (T.setVm vm₁).vm.findClass E = some k) : s.vm.findClass E = some k := by
  have h1 : vm₁.findClass E = some k := h
  rw [hW.alike.findClass] at h1
  exact h1
def vx_W (p : Program) (l : Launch) (e : Env) (R : Room) (s : State) (m : MethodId) (args : Array Value) (below : List Frame) (meth : Method) (c : Code) (H : Heap) (locs : List Loc) (cells slots : Nat) (Q : State → Prop) (g : JFrame) (q : Addr) : Prop :=
  ∀ T : State, T.heap = H → Stand p l e R s m args below meth c T locs cells slots → ∃ t, Steps p.tables e below ((T.setTop g).pushFrame (.throwing q)) t ∧ Q t
def vx_Run (p : Program) (l : Launch) (e : Env) (R : Room) (s : State) (m : MethodId) (args : Array Value) (below : List Frame) (meth : Method) (c : Code) (H : Heap) (locs : List Loc) (cells slots mc ms : Nat) (g : JFrame) (rest : List Value) (Qa : State → Outcome → State → Prop) (XC : String → State → State → Prop) (free : Addr → Prop) : Prop :=
  ∀ T : State, T.heap = H → Stand p l e R s m args below meth c T locs cells slots →
    (∃ (v : Option Value) (st₀ t T' : State) (L : List Loc), st₀.heap = H ∧ Stand p l e R s m args below meth c T' (locs ++ L) (cells + mc) (slots + ms) ∧ (∀ q ∈ L, free q.base) ∧ T'.heap = t.heap ∧ T'.vm = t.vm ∧ Qa st₀ (.returned v) t ∧
      Goes p e below T g T' { g with pc := g.pc + 3, stack := v.toList ++ rest }) ∨
    (∃ (q : Addr) (st₀ t T' : State) (L : List Loc) (E : String) (ce : Cell), st₀.heap = H ∧ Stand p l e R s m args below meth c T' (locs ++ L) (cells + mc) (slots + ms) ∧ (∀ z ∈ L, free z.base) ∧ T'.heap = t.heap ∧ T'.vm = t.vm ∧ XC E st₀ t ∧ t.heap[q]? = some ce ∧ ce.vm = .none ∧ s.vm.findClass E = some ce.cls ∧
      Steps p.tables e below (T.setTop g) ((T'.setTop { g with stack := rest }).pushFrame (.throwing q)))
def vx_X {S : Type} (px : S → Prop) (B : String → S → State → Prop) (A : Nat → Prop) : String → State → State → Prop := fun E st t => ∃ u : S, px u ∧ B E u t ∧ va_F A st t
section Runs
variable {p : Program} {l : Launch} {e : Env} {R : Room} {s : State} {m : MethodId} {args : Array Value} {below : List Frame} {meth : Method} {c : Code} {H : Heap} {locs : List Loc} {cells slots : Nat}
variable {y : MethodName} {bytes cc : ByteArray} {maxL nL mc ms n index : Nat} {ret : Option FieldType} {ws : List Cond} {rm : Room} {Pc : Array Value → State → Prop} {Qc : Array Value → State → Outcome → State → Prop} {XC : String → State → State → Prop} {free : Addr → Prop} {Ts : List Cond} {own C : String} {b : Addr} {As rest : List Value} {g : JFrame}
theorem vx_callBack (cb : CallB R s args own index y bytes maxL ret ws rm mc ms n) (hM : vx_Met l y ws rm Pc Qc XC mc ms free) (hbl : FrameBlind Pc) : vx_Back l R p e below s args y 3 8 (PreOf R mc ms Pc) (PostOf Qc mc ms free) (vx_Post XC mc ms free) := by
  obtain ⟨hrc, hrs, hfr, hlo, hws, hcw, -, hini, -⟩ := cb
  exact vx_back (bytes := bytes) (maxL := maxL) (ret := ret) hM hbl hrc hrs hfr hlo hws hcw (fun a' U hW => word_at hW (Or.inl (by first | rfl | simp [Cond.onTables, Cond.keeps, Cond.steady])) hini)
theorem vx_runV (S : CallFix p m c cc nL s args Ts own) (hM : vx_Met l y ws rm Pc Qc XC mc ms free) (cw : CallW R s args own C index y bytes maxL ret ws rm mc ms n) (hp : PreV s H C b Pc As)
    (hg : g.method = m) (hn : As.length = n) (hsize : g.locals.size = nL) (hstack : g.stack = As.reverse ++ .ref b :: rest) (hW : 2 * g.monitorRoom + (rest.map fun v => v.category).sum ≤ 8) (hdg : decode cc g.pc = .ok (.invokevirtual index, 3)) (hf : cells + mc ≤ R.cells ∧ slots + ms ≤ R.slots) :
    vx_Run p l e R s m args below meth c H locs cells slots mc ms g rest (Qc (Value.ref b :: As).toArray) XC free := by
  have hK : vx_Back l R p e below s args y 3 8 (PreOf R mc ms Pc) (PostOf Qc mc ms free) (vx_Post XC mc ms free) := vx_callBack cw.1 hM hp.1
  obtain ⟨⟨-, -, -, -, -, -, hcode, -, hy, hlen, hl⟩, hin, hse⟩ := cw
  obtain ⟨hx, hb, hml, ho, -⟩ := S
  obtain ⟨-, ⟨cellB, hcB, hoB, hclB⟩, hPc⟩ := hp
  intro T hT X
  rcases vx_callV X hx (C := C) (bytes := bytes) (maxL := maxL) (ret := ret) ho hl hin hse hcode hy hK (by rw [hT]; exact hcB) hoB hclB hg (hsize.trans hml.symm) (argsL := As) (rest := rest) (fun sig h => hn.trans (hlen sig h)) hstack hW (by rw [hb]; exact hdg)
    (fun vm₁ hW₁ => ⟨hf.1, hf.2, hPc (T.setVm vm₁) hT hW₁⟩) with ⟨v, vm₁, ⟨U', l2, c2, s2⟩, hW₁, X', ⟨g', mk, t, L, e1, e2, hq, h1, hL, h2, h3⟩, st⟩ | ⟨q, vm₁, ⟨U', l2, c2, s2⟩, hW₁, X', ⟨g', mk, t, L, E, ce, e1, e2, hq, hce, hcv, hcl, h1, hL, h2, h3⟩, st⟩
  · dsimp only [Pt.U, Pt.locs, Pt.cells, Pt.slots] at X' e1 e2 h1 h2 h3 st
    subst h1; subst h2; subst h3
    exact Or.inl ⟨v, (T.setVm vm₁).calling g' mk (Value.ref b :: As).toArray, t, U', L, hT, X', hL, e1, e2, hq, st⟩
  · dsimp only [Pt.U, Pt.locs, Pt.cells, Pt.slots] at X' e1 e2 h1 h2 h3 st hcl
    subst h1; subst h2; subst h3
    exact Or.inr ⟨q, (T.setVm vm₁).calling g' mk (Value.ref b :: As).toArray, t, U', L, E, ce, hT, X', hL, e1, e2, hq, hce, hcv, vx_cls hW₁ hcl, st⟩
theorem vx_runS (S : CallFix p m c cc nL s args Ts own) (hM : vx_Met l y ws rm Pc Qc XC mc ms free) (cw : CallB R s args own index y bytes maxL ret ws rm mc ms n ∧ (Cond.static y).before args s = true) (hp : PreS s H Pc As)
    (hg : g.method = m) (hn : As.length = n) (hsize : g.locals.size = nL) (hstack : g.stack = As.reverse ++ rest) (hW : 2 * g.monitorRoom + (rest.map fun v => v.category).sum ≤ 8) (hdg : decode cc g.pc = .ok (.invokestatic index, 3)) (hf : cells + mc ≤ R.cells ∧ slots + ms ≤ R.slots) :
    vx_Run p l e R s m args below meth c H locs cells slots mc ms g rest (Qc As.toArray) XC free := by
  have hK : vx_Back l R p e below s args y 3 8 (PreOf R mc ms Pc) (PostOf Qc mc ms free) (vx_Post XC mc ms free) := vx_callBack cw.1 hM hp.1
  obtain ⟨⟨-, -, -, -, -, -, hcode, hini, hy, hlen, hl⟩, hstt⟩ := cw
  obtain ⟨hx, hb, hml, ho, -⟩ := S
  intro T hT X
  rcases vx_callS X hx (bytes := bytes) (maxL := maxL) (ret := ret) ho hl hstt hini hcode hy hK hg (hsize.trans hml.symm) (argsL := As) (rest := rest) (fun sig h => hn.trans (hlen sig h)) hstack hW (by rw [hb]; exact hdg)
    (fun vm₁ hW₁ => ⟨hf.1, hf.2, hp.2 (T.setVm vm₁) hT hW₁⟩) with ⟨v, vm₁, ⟨U', l2, c2, s2⟩, hW₁, X', ⟨g', mk, t, L, e1, e2, hq, h1, hL, h2, h3⟩, st⟩ | ⟨q, vm₁, ⟨U', l2, c2, s2⟩, hW₁, X', ⟨g', mk, t, L, E, ce, e1, e2, hq, hce, hcv, hcl, h1, hL, h2, h3⟩, st⟩
  · dsimp only [Pt.U, Pt.locs, Pt.cells, Pt.slots] at X' e1 e2 h1 h2 h3 st
    subst h1; subst h2; subst h3
    exact Or.inl ⟨v, (T.setVm vm₁).calling g' mk As.toArray, t, U', L, hT, X', hL, e1, e2, hq, st⟩
  · dsimp only [Pt.U, Pt.locs, Pt.cells, Pt.slots] at X' e1 e2 h1 h2 h3 st hcl
    subst h1; subst h2; subst h3
    exact Or.inr ⟨q, (T.setVm vm₁).calling g' mk As.toArray, t, U', L, E, ce, hT, X', hL, e1, e2, hq, hce, hcv, vx_cls hW₁ hcl, st⟩
end Runs
section Rows
variable {p : Program} {l : Launch} {e : Env} {R : Room} {s : State} {m : MethodId} {args : Array Value} {below : List Frame} {meth : Method} {c : Code} {H : Heap} {locs : List Loc} {cells slots : Nat} {Q : State → Prop}
variable {mc ms : Nat} {free : Addr → Prop} {A0 A1 : Nat → Prop} {H0 : Heap} {a : Array Value} {pc : Nat} {ls : Array Slot} {st0 rest : List Value}
theorem vx_keep {st₀ t T' : State} {L : List Loc} (h0 : st₀.heap = H) (e1 : T'.heap = t.heap) (hS : va_S A0 H0 H locs) (hA : ∀ q, q < H.size → A1 q → A0 q) (hf : ∀ q, free q → A0 q) (hL : ∀ q ∈ L, free q.base) (hF : va_F A1 st₀ t) :
    H.size ≤ T'.heap.size ∧ (∀ q : Nat, q < H.size → ¬ A1 q → T'.heap[q]? = H[q]?) ∧ va_S A0 H0 T'.heap (locs ++ L) := by
  obtain ⟨hz, hk⟩ := hF
  rw [h0] at hz hk
  exact ⟨by rw [e1]; exact hz, fun q h1 h2 => by rw [e1]; exact hk q h1 h2,
    ⟨Nat.le_trans hS.1 (by rw [e1]; exact hz), fun q h1 h2 => by rw [e1, hk q (Nat.lt_of_lt_of_le h1 hS.1) (fun z => h2 (hA q (Nat.lt_of_lt_of_le h1 hS.1) z))]; exact hS.2.1 q h1 h2, fun q hq => by
      rcases List.mem_append.mp hq with h | h
      · exact hS.2.2 q h
      · exact hf _ (hL q h)⟩⟩
theorem vx_calli {S SX : Type} {post : Int32 → S → Prop} {px : SX → Prop} {B : S → State → Prop} {BX : String → SX → State → Prop} {AX : Nat → Prop} (hr : vx_Run p l e R s m args below meth c H locs cells slots mc ms (F0 m pc ls st0) rest (va_Qi post B A1 a) (vx_X px BX AX) free) (hS : va_S A0 H0 H locs) (hA : ∀ q, q < H.size → A1 q → A0 q) (hf : ∀ q, free q → A0 q) (hAX : ∀ q, q < H.size → AX q → A0 q)
    (kx : ∀ (E : String) (ce : Cell) (q9 : Addr) (u : SX) (t : State) (H1 : Heap) (locs1 : List Loc), t.heap = H1 → s.vm.Alike t.vm → px u → BX E u t → H.size ≤ H1.size → (∀ q : Nat, q < H.size → ¬ AX q → H1[q]? = H[q]?) → va_S A0 H0 H1 locs1 → H1[q9]? = some ce → ce.vm = .none → s.vm.findClass E = some ce.cls → vx_W p l e R s m args below meth c H1 locs1 (cells + mc) (slots + ms) Q (F0 m pc ls rest) q9)
    (kk : ∀ (r : Int32) (u : S) (t : State) (H1 : Heap) (locs1 : List Loc), t.heap = H1 → s.vm.Alike t.vm → post r u → B u t → H.size ≤ H1.size → (∀ q : Nat, q < H.size → ¬ A1 q → H1[q]? = H[q]?) → va_S A0 H0 H1 locs1 → W p l e R s m args below meth c H1 locs1 (cells + mc) (slots + ms) Q (F0 m (pc + 3) ls (.int r :: rest))) : W p l e R s m args below meth c H locs cells slots Q (F0 m pc ls st0) := by
  intro T hT X
  rcases hr T hT X with ⟨v, st₀, t, T', L, h0, X', hL, e1, e2, ⟨⟨r, u, hv, hp, hb⟩, hF⟩, st⟩ | ⟨q, st₀, t, T', L, E, ce, h0, X', hL, e1, e2, ⟨u, hp, hb, hF⟩, hce, hcv, hcl, st⟩
  · cases hv
    obtain ⟨k1, k2, k3⟩ := vx_keep h0 e1 hS hA hf hL hF
    obtain ⟨t2, a1, b1⟩ := kk r u t T'.heap (locs ++ L) e1.symm (by rw [← e2]; exact X'.warmed.alike) hp hb k1 k2 k3 T' rfl X'
    exact ⟨t2, st t2 a1, b1⟩
  · obtain ⟨k1, k2, k3⟩ := vx_keep h0 e1 hS hAX hf hL hF
    obtain ⟨t2, a1, b1⟩ := kx E ce q u t T'.heap (locs ++ L) e1.symm (by rw [← e2]; exact X'.warmed.alike) hp hb k1 k2 k3 (by rw [e1]; exact hce) hcv hcl T' rfl X'
    exact ⟨t2, st.trans a1, b1⟩
theorem vx_calll {S SX : Type} {post : Int64 → S → Prop} {px : SX → Prop} {B : S → State → Prop} {BX : String → SX → State → Prop} {AX : Nat → Prop} (hr : vx_Run p l e R s m args below meth c H locs cells slots mc ms (F0 m pc ls st0) rest (va_Ql post B A1 a) (vx_X px BX AX) free) (hS : va_S A0 H0 H locs) (hA : ∀ q, q < H.size → A1 q → A0 q) (hf : ∀ q, free q → A0 q) (hAX : ∀ q, q < H.size → AX q → A0 q)
    (kx : ∀ (E : String) (ce : Cell) (q9 : Addr) (u : SX) (t : State) (H1 : Heap) (locs1 : List Loc), t.heap = H1 → s.vm.Alike t.vm → px u → BX E u t → H.size ≤ H1.size → (∀ q : Nat, q < H.size → ¬ AX q → H1[q]? = H[q]?) → va_S A0 H0 H1 locs1 → H1[q9]? = some ce → ce.vm = .none → s.vm.findClass E = some ce.cls → vx_W p l e R s m args below meth c H1 locs1 (cells + mc) (slots + ms) Q (F0 m pc ls rest) q9)
    (kk : ∀ (r : Int64) (u : S) (t : State) (H1 : Heap) (locs1 : List Loc), t.heap = H1 → s.vm.Alike t.vm → post r u → B u t → H.size ≤ H1.size → (∀ q : Nat, q < H.size → ¬ A1 q → H1[q]? = H[q]?) → va_S A0 H0 H1 locs1 → W p l e R s m args below meth c H1 locs1 (cells + mc) (slots + ms) Q (F0 m (pc + 3) ls (.long r :: rest))) : W p l e R s m args below meth c H locs cells slots Q (F0 m pc ls st0) := by
  intro T hT X
  rcases hr T hT X with ⟨v, st₀, t, T', L, h0, X', hL, e1, e2, ⟨⟨r, u, hv, hp, hb⟩, hF⟩, st⟩ | ⟨q, st₀, t, T', L, E, ce, h0, X', hL, e1, e2, ⟨u, hp, hb, hF⟩, hce, hcv, hcl, st⟩
  · cases hv
    obtain ⟨k1, k2, k3⟩ := vx_keep h0 e1 hS hA hf hL hF
    obtain ⟨t2, a1, b1⟩ := kk r u t T'.heap (locs ++ L) e1.symm (by rw [← e2]; exact X'.warmed.alike) hp hb k1 k2 k3 T' rfl X'
    exact ⟨t2, st t2 a1, b1⟩
  · obtain ⟨k1, k2, k3⟩ := vx_keep h0 e1 hS hAX hf hL hF
    obtain ⟨t2, a1, b1⟩ := kx E ce q u t T'.heap (locs ++ L) e1.symm (by rw [← e2]; exact X'.warmed.alike) hp hb k1 k2 k3 (by rw [e1]; exact hce) hcv hcl T' rfl X'
    exact ⟨t2, st.trans a1, b1⟩
theorem vx_callf {S SX : Type} {post : UInt32 → S → Prop} {px : SX → Prop} {B : S → State → Prop} {BX : String → SX → State → Prop} {AX : Nat → Prop} (hr : vx_Run p l e R s m args below meth c H locs cells slots mc ms (F0 m pc ls st0) rest (va_Qf post B A1 a) (vx_X px BX AX) free) (hS : va_S A0 H0 H locs) (hA : ∀ q, q < H.size → A1 q → A0 q) (hf : ∀ q, free q → A0 q) (hAX : ∀ q, q < H.size → AX q → A0 q)
    (kx : ∀ (E : String) (ce : Cell) (q9 : Addr) (u : SX) (t : State) (H1 : Heap) (locs1 : List Loc), t.heap = H1 → s.vm.Alike t.vm → px u → BX E u t → H.size ≤ H1.size → (∀ q : Nat, q < H.size → ¬ AX q → H1[q]? = H[q]?) → va_S A0 H0 H1 locs1 → H1[q9]? = some ce → ce.vm = .none → s.vm.findClass E = some ce.cls → vx_W p l e R s m args below meth c H1 locs1 (cells + mc) (slots + ms) Q (F0 m pc ls rest) q9)
    (kk : ∀ (r : UInt32) (u : S) (t : State) (H1 : Heap) (locs1 : List Loc), t.heap = H1 → s.vm.Alike t.vm → post r u → B u t → H.size ≤ H1.size → (∀ q : Nat, q < H.size → ¬ A1 q → H1[q]? = H[q]?) → va_S A0 H0 H1 locs1 → W p l e R s m args below meth c H1 locs1 (cells + mc) (slots + ms) Q (F0 m (pc + 3) ls (.float r :: rest))) : W p l e R s m args below meth c H locs cells slots Q (F0 m pc ls st0) := by
  intro T hT X
  rcases hr T hT X with ⟨v, st₀, t, T', L, h0, X', hL, e1, e2, ⟨⟨r, u, hv, hp, hb⟩, hF⟩, st⟩ | ⟨q, st₀, t, T', L, E, ce, h0, X', hL, e1, e2, ⟨u, hp, hb, hF⟩, hce, hcv, hcl, st⟩
  · cases hv
    obtain ⟨k1, k2, k3⟩ := vx_keep h0 e1 hS hA hf hL hF
    obtain ⟨t2, a1, b1⟩ := kk r u t T'.heap (locs ++ L) e1.symm (by rw [← e2]; exact X'.warmed.alike) hp hb k1 k2 k3 T' rfl X'
    exact ⟨t2, st t2 a1, b1⟩
  · obtain ⟨k1, k2, k3⟩ := vx_keep h0 e1 hS hAX hf hL hF
    obtain ⟨t2, a1, b1⟩ := kx E ce q u t T'.heap (locs ++ L) e1.symm (by rw [← e2]; exact X'.warmed.alike) hp hb k1 k2 k3 (by rw [e1]; exact hce) hcv hcl T' rfl X'
    exact ⟨t2, st.trans a1, b1⟩
theorem vx_calld {S SX : Type} {post : UInt64 → S → Prop} {px : SX → Prop} {B : S → State → Prop} {BX : String → SX → State → Prop} {AX : Nat → Prop} (hr : vx_Run p l e R s m args below meth c H locs cells slots mc ms (F0 m pc ls st0) rest (va_Qd post B A1 a) (vx_X px BX AX) free) (hS : va_S A0 H0 H locs) (hA : ∀ q, q < H.size → A1 q → A0 q) (hf : ∀ q, free q → A0 q) (hAX : ∀ q, q < H.size → AX q → A0 q)
    (kx : ∀ (E : String) (ce : Cell) (q9 : Addr) (u : SX) (t : State) (H1 : Heap) (locs1 : List Loc), t.heap = H1 → s.vm.Alike t.vm → px u → BX E u t → H.size ≤ H1.size → (∀ q : Nat, q < H.size → ¬ AX q → H1[q]? = H[q]?) → va_S A0 H0 H1 locs1 → H1[q9]? = some ce → ce.vm = .none → s.vm.findClass E = some ce.cls → vx_W p l e R s m args below meth c H1 locs1 (cells + mc) (slots + ms) Q (F0 m pc ls rest) q9)
    (kk : ∀ (r : UInt64) (u : S) (t : State) (H1 : Heap) (locs1 : List Loc), t.heap = H1 → s.vm.Alike t.vm → post r u → B u t → H.size ≤ H1.size → (∀ q : Nat, q < H.size → ¬ A1 q → H1[q]? = H[q]?) → va_S A0 H0 H1 locs1 → W p l e R s m args below meth c H1 locs1 (cells + mc) (slots + ms) Q (F0 m (pc + 3) ls (.double r :: rest))) : W p l e R s m args below meth c H locs cells slots Q (F0 m pc ls st0) := by
  intro T hT X
  rcases hr T hT X with ⟨v, st₀, t, T', L, h0, X', hL, e1, e2, ⟨⟨r, u, hv, hp, hb⟩, hF⟩, st⟩ | ⟨q, st₀, t, T', L, E, ce, h0, X', hL, e1, e2, ⟨u, hp, hb, hF⟩, hce, hcv, hcl, st⟩
  · cases hv
    obtain ⟨k1, k2, k3⟩ := vx_keep h0 e1 hS hA hf hL hF
    obtain ⟨t2, a1, b1⟩ := kk r u t T'.heap (locs ++ L) e1.symm (by rw [← e2]; exact X'.warmed.alike) hp hb k1 k2 k3 T' rfl X'
    exact ⟨t2, st t2 a1, b1⟩
  · obtain ⟨k1, k2, k3⟩ := vx_keep h0 e1 hS hAX hf hL hF
    obtain ⟨t2, a1, b1⟩ := kx E ce q u t T'.heap (locs ++ L) e1.symm (by rw [← e2]; exact X'.warmed.alike) hp hb k1 k2 k3 (by rw [e1]; exact hce) hcv hcl T' rfl X'
    exact ⟨t2, st.trans a1, b1⟩
theorem vx_callv {S SX : Type} {post : S → Prop} {px : SX → Prop} {B : S → State → Prop} {BX : String → SX → State → Prop} {AX : Nat → Prop} (hr : vx_Run p l e R s m args below meth c H locs cells slots mc ms (F0 m pc ls st0) rest (va_Qv post B A1 a) (vx_X px BX AX) free) (hS : va_S A0 H0 H locs) (hA : ∀ q, q < H.size → A1 q → A0 q) (hf : ∀ q, free q → A0 q) (hAX : ∀ q, q < H.size → AX q → A0 q)
    (kx : ∀ (E : String) (ce : Cell) (q9 : Addr) (u : SX) (t : State) (H1 : Heap) (locs1 : List Loc), t.heap = H1 → s.vm.Alike t.vm → px u → BX E u t → H.size ≤ H1.size → (∀ q : Nat, q < H.size → ¬ AX q → H1[q]? = H[q]?) → va_S A0 H0 H1 locs1 → H1[q9]? = some ce → ce.vm = .none → s.vm.findClass E = some ce.cls → vx_W p l e R s m args below meth c H1 locs1 (cells + mc) (slots + ms) Q (F0 m pc ls rest) q9)
    (kk : ∀ (u : S) (t : State) (H1 : Heap) (locs1 : List Loc), t.heap = H1 → s.vm.Alike t.vm → post u → B u t → H.size ≤ H1.size → (∀ q : Nat, q < H.size → ¬ A1 q → H1[q]? = H[q]?) → va_S A0 H0 H1 locs1 → W p l e R s m args below meth c H1 locs1 (cells + mc) (slots + ms) Q (F0 m (pc + 3) ls (rest))) : W p l e R s m args below meth c H locs cells slots Q (F0 m pc ls st0) := by
  intro T hT X
  rcases hr T hT X with ⟨v, st₀, t, T', L, h0, X', hL, e1, e2, ⟨⟨u, hv, hp, hb⟩, hF⟩, st⟩ | ⟨q, st₀, t, T', L, E, ce, h0, X', hL, e1, e2, ⟨u, hp, hb, hF⟩, hce, hcv, hcl, st⟩
  · cases hv
    obtain ⟨k1, k2, k3⟩ := vx_keep h0 e1 hS hA hf hL hF
    obtain ⟨t2, a1, b1⟩ := kk u t T'.heap (locs ++ L) e1.symm (by rw [← e2]; exact X'.warmed.alike) hp hb k1 k2 k3 T' rfl X'
    exact ⟨t2, st t2 a1, b1⟩
  · obtain ⟨k1, k2, k3⟩ := vx_keep h0 e1 hS hAX hf hL hF
    obtain ⟨t2, a1, b1⟩ := kx E ce q u t T'.heap (locs ++ L) e1.symm (by rw [← e2]; exact X'.warmed.alike) hp hb k1 k2 k3 (by rw [e1]; exact hce) hcv hcl T' rfl X'
    exact ⟨t2, st.trans a1, b1⟩
theorem vx_catch {own name : String} {E : String} {ce : Cell} {q : Addr} (hown : s.vm.findClass own = some m.cls) (pre : List ExceptionTableEntry) (x : ExceptionTableEntry) (suf : List ExceptionTableEntry) (hsplit : c.exceptionTable.toList = pre ++ x :: suf)
    (hpass : ∀ z ∈ pre, covers z pc = false ∨ (z.catchType ≠ 0 ∧ ∃ nm : String, (Cond.classLink own z.catchType nm).before args s = true ∧ va_Nc E nm s)) (hx : covers x pc = true) (h0 : x.catchType ≠ 0)
    (hlink : (Cond.classLink own x.catchType name).before args s = true) (hcast : (Cond.castable E name).before args s = true) (hcell : H[q]? = some ce) (hv : ce.vm = .none) (hcl : s.vm.findClass E = some ce.cls)
    (kk : W p l e R s m args below meth c H locs cells slots Q (F0 m x.handlerPc ls [.ref q])) : vx_W p l e R s m args below meth c H locs cells slots Q (F0 m pc ls rest) q := by
  intro T hT X
  have hpl : e.platform.magicAccessors = ({} : Platform).magicAccessors := by rw [X.admits.platform]
  obtain ⟨c3, c4, hc3, hc4, hasg⟩ := Cond.castable_spec hcast
  cases Option.some.inj (hc3.symm.trans hcl)
  obtain ⟨c5, hc5, hcl5⟩ := Cond.classLink_spec hown hlink e.platform hpl
  cases Option.some.inj (hc4.symm.trans hc5)
  obtain ⟨vm', X', st⟩ := X.thenCaughtThrough q (g := F0 m pc ls rest) rfl (Steps.refl _) (by rw [hT]; exact hcell) (by rw [hv]; rfl) (by obtain ⟨k9, h9, -⟩ := Vm.findClass_spec hcl; exact ⟨k9, h9⟩) pre x suf hsplit
    (fun z hz => by
      rcases hpass z hz with h | ⟨hz0, nm, hl1, hn1⟩
      · exact Or.inl h
      · obtain ⟨c6, hc6, hcl6⟩ := Cond.classLink_spec hown hl1 e.platform hpl
        obtain ⟨a8, b8, h1, h2, h3⟩ := hn1
        cases Option.some.inj (h1.symm.trans hcl)
        cases Option.some.inj (h2.symm.trans hc6)
        exact Or.inr ⟨hz0, _, hcl6, h3⟩) hx (Or.inr ⟨h0, c4, hcl5, hasg⟩)
  obtain ⟨t, a1, b1⟩ := kk (T.setVm vm') hT X'
  exact ⟨t, st.trans a1, b1⟩
end Rows
section Ends
variable {p : Program} {l : Launch} {e : Env} {R : Room} {s : State} {m : MethodId} {args : Array Value} {below : List Frame} {meth : Method} {c : Code} {H : Heap} {locs : List Loc} {cells slots : Nat} {Q : State → Prop}
variable {mc ms : Nat} {free : Addr → Prop} {A0 A1 : Nat → Prop} {H0 : Heap} {a : Array Value} {ls : Array Slot} {st0 rest : List Value}
variable {Qc : Array Value → State → Outcome → State → Prop} {XC : String → State → State → Prop}
def vx_MQ (below : List Frame) (Qc : Array Value → State → Outcome → State → Prop) (XC : String → State → State → Prop) (a : Array Value) (s : State) (mc ms : Nat) (free : Addr → Prop) : State → Prop := fun t =>
  ∃ o, t.status = .running ∧ Ended t below o ∧ vx_Q Qc XC mc ms free a s o t
theorem vx_ret {g : JFrame} {mc ms : Nat} (k : W p l e R s m args below meth c H locs cells slots (MQ below Qc args s mc ms free) g) : W p l e R s m args below meth c H locs cells slots (vx_MQ below Qc XC args s mc ms free) g := by
  intro T hT X
  obtain ⟨t, a1, o, b1, b2, b3, b4⟩ := k T hT X
  exact ⟨t, a1, o, b1, b2, Or.inl ⟨b3, b4⟩⟩
theorem vx_widen {g : JFrame} {q : Addr} {k n : Nat} (h1 : cells ≤ k) (h2 : slots ≤ n) (kk : vx_W p l e R s m args below meth c H locs k n Q g q) : vx_W p l e R s m args below meth c H locs cells slots Q g q := fun T hT X => kk T hT (stand_widen X h1 h2)
theorem vx_out {pc : Nat} {E : String} {ce : Cell} {q : Addr} {mc ms : Nat} (hout : ∀ x ∈ c.exceptionTable.toList, covers x pc = false) (hlocks : meth.locks = false) (hcell : H[q]? = some ce) (hv : ce.vm = .none) (hcl : s.vm.findClass E = some ce.cls)
    (hx : ∀ t : State, t.heap = H → s.vm.Alike t.vm → XC E s t) (hf : ∀ z ∈ locs, free z.base) (hc : cells ≤ mc) (hs : slots ≤ ms) :
    vx_W p l e R s m args below meth c H locs cells slots (vx_MQ below Qc XC args s mc ms free) (F0 m pc ls rest) q := by
  intro T hT X
  obtain ⟨st1, hrun, hend, hW, hsm⟩ := X.leaveThrown q (g := F0 m pc ls rest) rfl rfl rfl hout hlocks
  have hcell9 : (T.setFrames (.throwing q :: below)).heap[q]? = some ce := by
    show T.heap[q]? = some ce
    rw [hT]; exact hcell
  exact ⟨_, st1, .threw q, hrun, hend, Or.inr ⟨q, rfl, E, ce, locs, hx _ hT hW.alike, hcell9, hv, hcl, hW, hsm.mono hc hs, hf⟩⟩
theorem vx_frame {U : State} {k n : Nat} (h : s.sameButNew ({ U with vm := s.vm } : State) locs k n) : s.heap.size ≤ U.heap.size ∧ ∀ q : Nat, q < s.heap.size → (∀ z ∈ locs, z.base ≠ q) → U.heap[q]? = s.heap[q]? := by
  obtain ⟨-, h2, -, -, -, h6⟩ := h
  refine ⟨h2, fun q hq hz => ?_⟩
  obtain ⟨c9, e1, e2, e3, e4⟩ := h6 q _ (Array.getElem?_eq_getElem hq)
  have hs : c9.slots = (s.heap[q]).slots := Array.ext_getElem? fun i => e4 i fun hm => hz _ hm rfl
  have h9 : c9 = s.heap[q] := by
    rw [hs] at e2
    exact e2
  have e5 : U.heap[q]? = some c9 := e1
  rw [e5, h9, Array.getElem?_eq_getElem hq]
def vx_no (w : Cond) : Bool := decide (w ≠ .isRef (.static Jvm.Bundle.tN "UNASSIGNED_STACK" Jvm.Bundle.steD)) && decide (w ≠ .isRef (.static Jvm.Bundle.tN "SUPPRESSED_SENTINEL" Jvm.Bundle.listD)) && decide (w ≠ .laysStatic Jvm.Bundle.tN "UNASSIGNED_STACK" Jvm.Bundle.steD) && decide (w ≠ .laysStatic Jvm.Bundle.tN "SUPPRESSED_SENTINEL" Jvm.Bundle.listD)
def vx_at0 (own : String) (ic : Nat) (X : String) (names : List String) : List Cond := (Jvm.Bundle.ownAtoms0 own ic X names).filter vx_no
def vx_atS (own : String) (ic : Nat) (X : String) (names : List String) : List Cond := (Jvm.Bundle.ownAtoms own ic X names).filter vx_no
def vx_ot (w : Cond) : Bool := w.onTables || goodWord w
theorem vx_ot_at {args a' : Array Value} {s U : State} {w : Cond} (hW : s.WarmedH U.vm) (hvm : s.vm = U.vm) (hg : vx_ot w = true) (h : w.before args s = true) : w.before a' U = true := by
  simp only [vx_ot, Bool.or_eq_true] at hg
  rcases hg with hg | hg
  · exact va_tabs hg hvm h
  · exact word_at hW (good_of_word hg) h
theorem vx_hat {args : Array Value} {s : State} {L B : List Cond} (h1 : ∀ w ∈ L.filter goodWord, w.before args s = true) (h2 : ∀ w ∈ L.filter (fun w => !goodWord w), w ∈ B) (h3 : ∀ w ∈ B, w.before args s = true) : ∀ w ∈ L, w.before args s = true := by
  intro w hw
  by_cases g : goodWord w = true
  · exact h1 w (List.mem_filter.mpr ⟨hw, g⟩)
  · refine h3 w (h2 w (List.mem_filter.mpr ⟨hw, ?_⟩))
    show (!goodWord w) = true
    cases hgw : goodWord w
    · rfl
    · exact absurd hgw g
theorem vx_c {args : Array Value} {s : State} {w : Cond} {B : List Cond} (h : w.before args s = true) (t : ∀ w ∈ B, w.before args s = true) : ∀ w' ∈ w :: B, w'.before args s = true := fun w' h' => (List.mem_cons.mp h').elim (fun e => by rw [e]; exact h) (t w')
theorem vx_n {args : Array Value} {s : State} : ∀ w ∈ ([] : List Cond), w.before args s = true := fun _ h => nomatch h
theorem vx_own {args : Array Value} {s : State} {L : List Cond} (h1 : ∀ w ∈ L.filter vx_no, w.before args s = true)
    (hU : (Cond.isRef (.static Jvm.Bundle.tN "UNASSIGNED_STACK" Jvm.Bundle.steD)).before args s = true) (hN : (Cond.isRef (.static Jvm.Bundle.tN "SUPPRESSED_SENTINEL" Jvm.Bundle.listD)).before args s = true)
    (lU : (Cond.laysStatic Jvm.Bundle.tN "UNASSIGNED_STACK" Jvm.Bundle.steD).before args s = true) (lN : (Cond.laysStatic Jvm.Bundle.tN "SUPPRESSED_SENTINEL" Jvm.Bundle.listD).before args s = true) : ∀ w ∈ L, w.before args s = true := by
  intro w hw
  by_cases e1 : w = .isRef (.static Jvm.Bundle.tN "UNASSIGNED_STACK" Jvm.Bundle.steD)
  · rw [e1]; exact hU
  · by_cases e2 : w = .isRef (.static Jvm.Bundle.tN "SUPPRESSED_SENTINEL" Jvm.Bundle.listD)
    · rw [e2]; exact hN
    · by_cases e3 : w = .laysStatic Jvm.Bundle.tN "UNASSIGNED_STACK" Jvm.Bundle.steD
      · rw [e3]; exact lU
      · by_cases e4 : w = .laysStatic Jvm.Bundle.tN "SUPPRESSED_SENTINEL" Jvm.Bundle.listD
        · rw [e4]; exact lN
        · exact h1 w (List.mem_filter.mpr ⟨hw, by unfold vx_no; rw [decide_eq_true e1, decide_eq_true e2, decide_eq_true e3, decide_eq_true e4]; rfl⟩)
def vx_L (C n d : String) (A : Nat → Prop) (U : State) (H : Heap) : Prop := ∃ (c : ClassId) (k : Class) (i : Nat) (f : Field) (a : Nat) (cell : Cell), U.vm.findClass C = some c ∧ U.fieldFound? C n d = some (c, k, i, f) ∧ f.isStatic = true ∧ k.statics = some a ∧ H[a]? = some cell ∧ cell.vm.isStatics = true ∧ cell.cls = c ∧ f.slot < cell.slots.size ∧ k.staticTypes[f.slot]? = some f.type ∧ ¬ A a
theorem vx_L.moved {C n d : String} {A : Nat → Prop} {u U : State} {H : Heap} (hvm : u.vm.Alike U.vm) (h : vx_L C n d A u H) : vx_L C n d A U H := by
  obtain ⟨c, k, i, f, a, cell, h1, h2, h3, h4, h5, h6, h7, h8, h9, h10⟩ := h
  obtain ⟨k', hi', he⟩ := State.fieldFound?_setVm hvm h2
  exact ⟨c, k', i, f, a, cell, by rw [hvm.findClass]; exact h1, hi', h3, by rw [he]; exact h4, h5, h6, h7, h8, by rw [he]; exact h9, h10⟩
theorem vx_L.kept {C n d : String} {A : Nat → Prop} {U : State} {H H1 : Heap} (h : vx_L C n d A U H) (hq : ∀ a : Nat, a < H.size → ¬ A a → H1[a]? = H[a]?) : vx_L C n d A U H1 := by
  obtain ⟨c, k, i, f, a, cell, h1, h2, h3, h4, h5, h6, h7, h8, h9, h10⟩ := h
  exact ⟨c, k, i, f, a, cell, h1, h2, h3, h4, by rw [hq a (Array.getElem?_eq_some_iff.mp h5).1 h10]; exact h5, h6, h7, h8, h9, h10⟩
theorem vx_L.narrow {C n d : String} {A B : Nat → Prop} {U : State} {H : Heap} (h : vx_L C n d A U H) (hAB : ∀ q, B q → A q) : vx_L C n d B U H := by
  obtain ⟨c, k, i, f, a, cell, h1, h2, h3, h4, h5, h6, h7, h8, h9, h10⟩ := h
  exact ⟨c, k, i, f, a, cell, h1, h2, h3, h4, h5, h6, h7, h8, h9, fun z => h10 (hAB _ z)⟩
theorem vx_L.word {C n d : String} {A : Nat → Prop} {s : State} {args : Array Value} (h : vx_L C n d A s s.heap) : (Cond.laysStatic C n d).before args s = true := by
  obtain ⟨c, k, i, f, a, cell, h1, h2, h3, h4, h5, h6, h7, h8, h9, -⟩ := h
  show (Cond.laysStatic C n d).holds args s none s [] = true
  exact Cond.laysStatic_of h1 h2 h3 h4 h5 h6 h7 h8 h9
def vx_Zq (C n d : String) (A : Nat → Prop) (U : State) (H : Heap) : Prop := va_Zq C n d A U H ∧ vx_L C n d A U H
theorem vx_Zq.moved {C n d : String} {A : Nat → Prop} {u U : State} {H : Heap} (hvm : u.vm.Alike U.vm) (h : vx_Zq C n d A u H) : vx_Zq C n d A U H := ⟨va_Zq.moved hvm h.1, vx_L.moved hvm h.2⟩
theorem vx_Zq.kept {C n d : String} {A : Nat → Prop} {U : State} {H H1 : Heap} (h : vx_Zq C n d A U H) (hq : ∀ a : Nat, a < H.size → ¬ A a → H1[a]? = H[a]?) : vx_Zq C n d A U H1 := ⟨va_Zq.kept h.1 hq, vx_L.kept h.2 hq⟩
theorem vx_Zq.narrow {C n d : String} {A B : Nat → Prop} {U : State} {H : Heap} (h : vx_Zq C n d A U H) (hAB : ∀ q, B q → A q) : vx_Zq C n d B U H := ⟨va_Zq.narrow h.1 hAB, vx_L.narrow h.2 hAB⟩
theorem vx_Zqof {args : Array Value} {s : State} {C n d : String} {A : Nat → Prop} (hl : (Cond.laysStatic C n d).before args s = true) (hini : (Cond.initialized C).before args s = true) (h : (Cond.isRef (.static C n d)).before args s = true) (hA : ∀ a : Nat, a < s.heap.size → ¬ A a) : vx_Zq C n d A s s.heap := by
  refine ⟨va_Zqof hl hini h hA, ?_⟩
  obtain ⟨c, k, i, f, a, cell, h1, h2, h3, h4, h5, h6, h7, h8, h9⟩ := Cond.laysStatic_spec hl
  exact ⟨c, k, i, f, a, cell, h1, h2, h3, h4, h5, h6, h7, h8, h9, hA a (Array.getElem?_eq_some_iff.mp h5).1⟩
theorem vx_isRef {C n d : String} {v : Value} {A : Nat → Prop} {s : State} {args : Array Value} (h : va_Z C n d v A s s.heap) (hv : v.isRef = true) : (Cond.isRef (.static C n d)).before args s = true := by
  obtain ⟨cf, kf, fi, f, a, cell, h1, h2, h3, h4, h5, h6, h7, -⟩ := h
  have he : (Term.static C n d).eval args s none [] s = some v := by
    simp [Term.eval, State.fieldNamed?, h1, h2, h4, h5, h6, h7]
  simp only [Cond.before, Cond.holds, Cond.value, he]
  cases v <;> simp_all [Value.isRef]
theorem vx_isRefq {C n d : String} {A : Nat → Prop} {s : State} {args : Array Value} (h : va_Zq C n d A s s.heap) : (Cond.isRef (.static C n d)).before args s = true := by
  rcases h with h | ⟨t, h⟩
  · exact vx_isRef h rfl
  · exact vx_isRef h rfl
theorem vx_rebase {T : State} (X : Stand p l e R s m args below meth c T locs cells slots) {R' : Room} (hf : R'.frames ≤ R.frames) (hl : R'.locals ≤ R.locals) (hc : cells + R'.cells ≤ R.cells) (hs : slots + R'.slots ≤ R.slots) :
    Stand p l e R' ((T.setVm s.vm).setFrames (.invoking m args :: below)) m args below meth c T [] 0 0 := by
  have htop : (T.setVm s.vm).topJava?.isSome := X.here.top
  have hF : ((T.setVm s.vm).setFrames (.invoking m args :: below)).frames = .invoking m args :: below := State.frames_setFrames _ (State.cur_lt_of_top htop)
  obtain ⟨g₀, hg0⟩ := Option.isSome_iff_exists.mp htop
  obtain ⟨r, hr⟩ := State.topJava?_eq_some.mp hg0
  have hl9 : e.platform.stackLimits (T.setVm s.vm).me = e.platform.stackLimits s.me := X.limits
  have hb9 : (T.setVm s.vm).me.stackBytes = s.me.stackBytes := X.bytes
  refine ⟨X.admits, X.cas, X.clock, hF, ?_, X.hears, X.method, X.code, X.here, X.tail, X.warmed, ?_, ?_, ?_⟩
  · have h := X.room
    have hU : ((T.setVm s.vm).setFrames (.invoking m args :: below)).localsInUse = s.localsInUse := by
      rw [State.localsInUse_invoking hF (meth := meth) (c := c) X.method X.code, State.localsInUse_invoking X.frames X.method X.code]
    simp only [State.hasRoom, Bool.and_eq_true, decide_eq_true_eq] at h ⊢
    obtain ⟨⟨⟨⟨h1, h2, h3, h4, h5, h6⟩, h7⟩, h8⟩, h9⟩ := h
    rw [X.frames, List.length_cons] at h2 h3
    have q1 := X.heapSize
    have q2 := X.used
    simp only [hF, hU, List.length_cons, State.stackLimits_setFrames, State.stackBytes_setFrames, hl9, hb9]
    refine ⟨⟨⟨⟨by omega, by omega, by omega, by omega, by omega, h6⟩, ?_⟩, ?_⟩, X.book⟩
    · show T.heap.size + R'.cells ≤ e.platform.maxCells
      omega
    · show T.slotsUsed + R'.slots ≤ e.platform.maxSlots
      omega
  · rw [State.stackLimits_setFrames]; rfl
  · rw [State.stackBytes_setFrames]; rfl
  · refine ⟨?_, Nat.le_refl _, Nat.le_refl _, ?_, ?_, fun a c9 h9 => ⟨c9, h9, rfl, rfl, fun _ _ => rfl⟩⟩
    · obtain ⟨t, ht, -⟩ := State.frames_cons hr
      show T.setVm s.vm = { ((T.setVm s.vm).setFrames (.invoking m args :: below)).setFrames (T.setVm s.vm).frames with heap := T.heap, slotsUsed := T.slotsUsed }
      rw [State.setFrames_setFrames, State.setFrames_self ht]
      rfl
    · show T.slotsUsed = T.slotsUsed + ((T.heap.toList.drop T.heap.size).map (·.slots.size)).sum
      rw [List.drop_eq_nil_of_le (Nat.le_of_eq Array.length_toList)]
      rfl
    · show ((T.heap.toList.drop T.heap.size).map (·.slots.size)).sum ≤ 0
      rw [List.drop_eq_nil_of_le (Nat.le_of_eq Array.length_toList)]
      exact Nat.le_refl _
theorem vx_throw0 {cc : ByteArray} {pc : Nat} (hexec : p.tables.exec = Jvm.exec) (hb : c.code = cc) (hl : l.stackTraces = false) {own cls : String} {names : List String} {ik ic mc ms : Nat} {A : Nat → Prop}
    (hown : s.vm.findClass own = some m.cls) (hcls : Jvm.Bundle.fit cls = true) (hnames : ∀ n ∈ names, Jvm.Bundle.fit n = true)
    (hk : (Cond.classLink own ik cls).before args s = true) (hini : (Cond.initialized cls).before args s = true) (hat : ∀ w ∈ vx_at0 own ic cls names, w.before args s = true)
    (hgood : ∀ w ∈ Cond.classLink own ik cls :: Cond.initialized cls :: vx_at0 own ic cls names, vx_ot w = true)
    (hU : vx_Zq Jvm.Bundle.tN "UNASSIGNED_STACK" Jvm.Bundle.steD A s s.heap) (hN : vx_Zq Jvm.Bundle.tN "SUPPRESSED_SENTINEL" Jvm.Bundle.listD A s s.heap) (hS : va_S A s.heap H locs) (hsize : ls.size = c.maxLocals)
    (d0 : decode cc pc = .ok (.new ik, 3)) (d3 : decode cc (pc + 3) = .ok (.dup, 1)) (d4 : decode cc (pc + 4) = .ok (.invokespecial ic, 3)) (d7 : decode cc (pc + 7) = .ok (.athrow, 1))
    (hout : ∀ x ∈ c.exceptionTable.toList, covers x (pc + 7) = false)
    (hRframes : names.length + 3 < R.frames) (hRlocals : (rest.map fun v => v.category).sum + (13 * (names.length + 1) + 42) ≤ R.locals) (hRcells : cells + 1 ≤ R.cells) (hRslots : slots + 6 ≤ R.slots) (hlocks : meth.locks = false)
    (hx : ∀ t : State, s.vm.Alike t.vm → H.size ≤ t.heap.size → (∀ q : Nat, q < H.size → t.heap[q]? = H[q]?) → XC cls s t)
    (hf : ∀ z ∈ locs, free z.base) (hc : cells + 1 ≤ mc) (hs : slots + 6 ≤ ms) :
    W p l e R s m args below meth c H locs cells slots (vx_MQ below Qc XC args s mc ms free) (F0 m pc ls rest) := by
  intro T hT X
  have htr : e.platform.stackTraces = false := (show e.platform.stackTraces = l.stackTraces by rw [X.admits.platform]).trans hl
  have Y := vx_rebase X (R' := { frames := R.frames, locals := R.locals, cells := 1, slots := 6 }) (Nat.le_refl _) (Nat.le_refl _) hRcells hRslots
  obtain ⟨s', hA⟩ : ∃ z, z = (T.setVm s.vm).setFrames (.invoking m args :: below) := ⟨_, rfl⟩
  rw [← hA] at Y
  have hvm : s'.vm = s.vm := by rw [hA]; rfl
  have hhp : s'.heap = H := by rw [hA]; exact hT
  have hW0 : s.WarmedH s'.vm := by rw [hvm]; exact State.WarmedH.refl s
  have hat' : ∀ w ∈ vx_at0 own ic cls names, w.before args s' = true := fun w hw => vx_ot_at hW0 hvm.symm (hgood w (List.mem_cons_of_mem _ (List.mem_cons_of_mem _ hw))) (hat w hw)
  have hk' : (Cond.classLink own ik cls).before args s' = true := vx_ot_at hW0 hvm.symm (hgood _ List.mem_cons_self) hk
  have hini' : (Cond.initialized cls).before args s' = true := vx_ot_at hW0 hvm.symm (hgood _ (List.mem_cons_of_mem _ List.mem_cons_self)) hini
  have hU' : vx_Zq Jvm.Bundle.tN "UNASSIGNED_STACK" Jvm.Bundle.steD A s' s'.heap := by rw [hhp]; exact vx_Zq.moved hW0.alike (hU.kept hS.2.1)
  have hN' : vx_Zq Jvm.Bundle.tN "SUPPRESSED_SENTINEL" Jvm.Bundle.listD A s' s'.heap := by rw [hhp]; exact vx_Zq.moved hW0.alike (hN.kept hS.2.1)
  have h : ∀ w ∈ Jvm.Bundle.ownAtoms0 own ic cls names, w.before args s' = true := vx_own hat' (vx_isRefq hU'.1) (vx_isRefq hN'.1) hU'.2.word hN'.2.word
  have hown' : s'.vm.findClass own = some m.cls := by rw [hvm]; exact hown
  have hins : (Cond.instantiable cls 6).before args s' = true := h _ (by simp [Jvm.Bundle.ownAtoms0])
  obtain ⟨vm₁, cX, kX, hfX, hkX, -, -, X₁, st1⟩ := Y.newCold hexec (own := own) (C := cls) (index := ik) (n := 6) hown' hk' hins hini'
    (g := F0 m pc ls rest) rfl (by rw [hb]; exact d0) (Nat.le_refl _) (Nat.le_refl _)
  generalize hT1 : (T.setVm vm₁).pushCell { cls := cX, slots := kX.instanceTypes.map defaultValue, vm := .none } = T1 at X₁ st1
  have hcat : (Value.ref T.heap.size).category = 1 := rfl
  have hcellA : T1.heap[T.heap.size]? = some (freshCell cX kX) := by rw [← hT1]; exact State.heap_pushCell_size _ _
  have d3' : decode c.code (pc + 3) = .ok (.dup, 1) := by rw [hb]; exact d3
  obtain ⟨U, hsteps, hrun, hend, hW, hsame, ce, hce, hO⟩ := X₁.ctorThrow0 hexec htr (own := own) (cls := cls) (names := names) (ic := ic) hown' hcls hnames h (fun x hx => nomatch hx) hfX hkX hcellA (by rw [hhp, hT]; exact Nat.le_refl _)
    (g := { method := m, pc := pc + 4, locals := ls, stack := .ref T.heap.size :: .ref T.heap.size :: rest, locked := none }) rfl hsize rfl rfl (rest := rest) rfl
    (by rw [hb]; exact d4) (by rw [hb]; exact d7) hout hRframes (by simp only [List.map_cons, List.sum_cons, hcat]; omega) hlocks
  obtain ⟨f1, f2⟩ := vx_frame hsame
  rw [hhp] at f1 f2
  have hWs : s.WarmedH U.vm := State.WarmedH.trans hW0 hW
  have hcl : s.vm.findClass cls = some ce.cls := by
    have h9 := hO.cls
    rw [hvm] at h9
    exact h9
  have hall : s.sameButNew ({ U with vm := s.vm } : State) locs mc ms := by
    subst hA
    obtain ⟨e1, e2⟩ := hsame
    rw [State.setFrames_setFrames] at e1
    have h2 : (T.setVm s.vm).sameButNew ({ U with vm := s.vm } : State) [] (0 + 1) (0 + 6) := ⟨e1, e2⟩
    have h3 := X.same.trans h2
    rw [List.append_nil] at h3
    exact h3.mono hc hs
  refine ⟨U, ?_, .threw T.heap.size, hrun, hend, Or.inr ⟨T.heap.size, rfl, cls, ce, locs, hx U hWs.alike f1 (fun q hq => f2 q hq (fun z hz => nomatch hz)), hce, hO.vm, hcl, hWs, hall, hf⟩⟩
  refine st1 _ ?_
  show Steps p.tables e below (T1.setTop { method := m, pc := pc + 3, locals := ls, stack := .ref T.heap.size :: rest, locked := none }) _
  jvm_step X₁.here [X₁.here.top, hexec, d3', Value.category]
  exact hsteps
theorem vx_throwS {cc : ByteArray} {pc : Nat} (hexec : p.tables.exec = Jvm.exec) (hb : c.code = cc) (hl : l.stackTraces = false) {own cls text : String} {names : List String} {ik is ic mc ms sa : Nat} {A : Nat → Prop}
    (hown : s.vm.findClass own = some m.cls) (hcls : Jvm.Bundle.fit cls = true) (hnames : ∀ n ∈ names, Jvm.Bundle.fit n = true)
    (hk : (Cond.classLink own ik cls).before args s = true) (hini : (Cond.initialized cls).before args s = true) (hstr : vk_R own is text sa s) (hat : ∀ w ∈ vx_atS own ic cls names, w.before args s = true)
    (hgood : ∀ w ∈ Cond.classLink own ik cls :: Cond.initialized cls :: vx_atS own ic cls names, vx_ot w = true)
    (hU : vx_Zq Jvm.Bundle.tN "UNASSIGNED_STACK" Jvm.Bundle.steD A s s.heap) (hN : vx_Zq Jvm.Bundle.tN "SUPPRESSED_SENTINEL" Jvm.Bundle.listD A s s.heap) (hS : va_S A s.heap H locs) (hsize : ls.size = c.maxLocals)
    (d0 : decode cc pc = .ok (.new ik, 3)) (d3 : decode cc (pc + 3) = .ok (.dup, 1)) (d4 : decode cc (pc + 4) = .ok (.ldc is, 2)) (d6 : decode cc (pc + 6) = .ok (.invokespecial ic, 3)) (d9 : decode cc (pc + 9) = .ok (.athrow, 1))
    (hout : ∀ x ∈ c.exceptionTable.toList, covers x (pc + 9) = false)
    (hRframes : names.length + 3 < R.frames) (hRlocals : (rest.map fun v => v.category).sum + (13 * (names.length + 1) + 43) ≤ R.locals) (hRcells : cells + 1 ≤ R.cells) (hRslots : slots + 6 ≤ R.slots) (hlocks : meth.locks = false)
    (hx : ∀ t : State, s.vm.Alike t.vm → H.size ≤ t.heap.size → (∀ q : Nat, q < H.size → t.heap[q]? = H[q]?) → XC cls s t)
    (hf : ∀ z ∈ locs, free z.base) (hc : cells + 1 ≤ mc) (hs : slots + 6 ≤ ms) :
    W p l e R s m args below meth c H locs cells slots (vx_MQ below Qc XC args s mc ms free) (F0 m pc ls rest) := by
  intro T hT X
  have htr : e.platform.stackTraces = false := (show e.platform.stackTraces = l.stackTraces by rw [X.admits.platform]).trans hl
  have Y := vx_rebase X (R' := { frames := R.frames, locals := R.locals, cells := 1, slots := 6 }) (Nat.le_refl _) (Nat.le_refl _) hRcells hRslots
  obtain ⟨s', hA⟩ : ∃ z, z = (T.setVm s.vm).setFrames (.invoking m args :: below) := ⟨_, rfl⟩
  rw [← hA] at Y
  have hvm : s'.vm = s.vm := by rw [hA]; rfl
  have hhp : s'.heap = H := by rw [hA]; exact hT
  have hW0 : s.WarmedH s'.vm := by rw [hvm]; exact State.WarmedH.refl s
  have hat' : ∀ w ∈ vx_atS own ic cls names, w.before args s' = true := fun w hw => vx_ot_at hW0 hvm.symm (hgood w (List.mem_cons_of_mem _ (List.mem_cons_of_mem _ hw))) (hat w hw)
  have hk' : (Cond.classLink own ik cls).before args s' = true := vx_ot_at hW0 hvm.symm (hgood _ List.mem_cons_self) hk
  have hini' : (Cond.initialized cls).before args s' = true := vx_ot_at hW0 hvm.symm (hgood _ (List.mem_cons_of_mem _ List.mem_cons_self)) hini
  have hU' : vx_Zq Jvm.Bundle.tN "UNASSIGNED_STACK" Jvm.Bundle.steD A s' s'.heap := by rw [hhp]; exact vx_Zq.moved hW0.alike (hU.kept hS.2.1)
  have hN' : vx_Zq Jvm.Bundle.tN "SUPPRESSED_SENTINEL" Jvm.Bundle.listD A s' s'.heap := by rw [hhp]; exact vx_Zq.moved hW0.alike (hN.kept hS.2.1)
  have h : ∀ w ∈ Jvm.Bundle.ownAtoms own ic cls names, w.before args s' = true := vx_own hat' (vx_isRefq hU'.1) (vx_isRefq hN'.1) hU'.2.word hN'.2.word
  have hown' : s'.vm.findClass own = some m.cls := by rw [hvm]; exact hown
  have hins : (Cond.instantiable cls 6).before args s' = true := h _ (by simp [Jvm.Bundle.ownAtoms])
  obtain ⟨vm₁, cX, kX, hfX, hkX, -, -, X₁, st1⟩ := Y.newCold hexec (own := own) (C := cls) (index := ik) (n := 6) hown' hk' hins hini'
    (g := F0 m pc ls rest) rfl (by rw [hb]; exact d0) (Nat.le_refl _) (Nat.le_refl _)
  generalize hT1 : (T.setVm vm₁).pushCell { cls := cX, slots := kX.instanceTypes.map defaultValue, vm := .none } = T1 at X₁ st1
  have hcat : (Value.ref T.heap.size).category = 1 := rfl
  have hcellA : T1.heap[T.heap.size]? = some (freshCell cX kX) := by rw [← hT1]; exact State.heap_pushCell_size _ _
  have d3' : decode c.code (pc + 3) = .ok (.dup, 1) := by rw [hb]; exact d3
  have d4' : decode c.code (pc + 4) = .ok (.ldc is, 2) := by rw [hb]; exact d4
  have hstr' : vk_R own is text sa s' := vk_R.warm hW0 hstr
  obtain ⟨U, hsteps, hrun, hend, hW, hsame, ce, hce, hO⟩ := X₁.ctorThrowS hexec htr (own := own) (cls := cls) (names := names) (ic := ic) hown' hcls hnames h (fun x hx => nomatch hx) hfX hkX hcellA (by rw [hhp, hT]; exact Nat.le_refl _) (msg := .ref sa) rfl
    (g := { method := m, pc := pc + 6, locals := ls, stack := .ref sa :: .ref T.heap.size :: .ref T.heap.size :: rest, locked := none }) rfl hsize rfl rfl (rest := rest) rfl
    (by rw [hb]; exact d6) (by rw [hb]; exact d9) hout hRframes (by simp only [List.map_cons, List.sum_cons, hcat]; omega) hlocks
  obtain ⟨f1, f2⟩ := vx_frame hsame
  rw [hhp] at f1 f2
  have hWs : s.WarmedH U.vm := State.WarmedH.trans hW0 hW
  have hcl : s.vm.findClass cls = some ce.cls := by
    have h9 := hO.cls
    rw [hvm] at h9
    exact h9
  have hall : s.sameButNew ({ U with vm := s.vm } : State) locs mc ms := by
    subst hA
    obtain ⟨e1, e2⟩ := hsame
    rw [State.setFrames_setFrames] at e1
    have h2 : (T.setVm s.vm).sameButNew ({ U with vm := s.vm } : State) [] (0 + 1) (0 + 6) := ⟨e1, e2⟩
    have h3 := X.same.trans h2
    rw [List.append_nil] at h3
    exact h3.mono hc hs
  refine ⟨U, ?_, .threw T.heap.size, hrun, hend, Or.inr ⟨T.heap.size, rfl, cls, ce, locs, hx U hWs.alike f1 (fun q hq => f2 q hq (fun z hz => nomatch hz)), hce, hO.vm, hcl, hWs, hall, hf⟩⟩
  refine st1 _ ?_
  show Steps p.tables e below (T1.setTop { method := m, pc := pc + 3, locals := ls, stack := .ref T.heap.size :: rest, locked := none }) _
  jvm_step X₁.here [X₁.here.top, hexec, d3', Value.category]
  exact X₁.ldcString hexec (own := own) (text := text) (index := is) (a := sa) hown' hstr'.1 hstr'.2
    (g := { method := m, pc := pc + 4, locals := ls, stack := .ref T.heap.size :: .ref T.heap.size :: rest, locked := none }) rfl d4' _ hsteps
theorem vx_throwSW {cc : ByteArray} {pc : Nat} (hexec : p.tables.exec = Jvm.exec) (hb : c.code = cc) (hl : l.stackTraces = false) {own cls text : String} {names : List String} {ik is ic mc ms sa : Nat} {A : Nat → Prop}
    (hown : s.vm.findClass own = some m.cls) (hcls : Jvm.Bundle.fit cls = true) (hnames : ∀ n ∈ names, Jvm.Bundle.fit n = true)
    (hk : (Cond.classLink own ik cls).before args s = true) (hini : (Cond.initialized cls).before args s = true) (hstr : vk_R own is text sa s) (hat : ∀ w ∈ vx_atS own ic cls names, w.before args s = true)
    (hgood : ∀ w ∈ Cond.classLink own ik cls :: Cond.initialized cls :: vx_atS own ic cls names, vx_ot w = true)
    (hU : vx_Zq Jvm.Bundle.tN "UNASSIGNED_STACK" Jvm.Bundle.steD A s s.heap) (hN : vx_Zq Jvm.Bundle.tN "SUPPRESSED_SENTINEL" Jvm.Bundle.listD A s s.heap) (hS : va_S A s.heap H locs) (hsize : ls.size = c.maxLocals)
    (d0 : decode cc pc = .ok (.new ik, 3)) (d3 : decode cc (pc + 3) = .ok (.dup, 1)) (d4 : decode cc (pc + 4) = .ok (.ldc_w is, 3)) (d7 : decode cc (pc + 7) = .ok (.invokespecial ic, 3)) (d10 : decode cc (pc + 10) = .ok (.athrow, 1))
    (hout : ∀ x ∈ c.exceptionTable.toList, covers x (pc + 10) = false)
    (hRframes : names.length + 3 < R.frames) (hRlocals : (rest.map fun v => v.category).sum + (13 * (names.length + 1) + 43) ≤ R.locals) (hRcells : cells + 1 ≤ R.cells) (hRslots : slots + 6 ≤ R.slots) (hlocks : meth.locks = false)
    (hx : ∀ t : State, s.vm.Alike t.vm → H.size ≤ t.heap.size → (∀ q : Nat, q < H.size → t.heap[q]? = H[q]?) → XC cls s t)
    (hf : ∀ z ∈ locs, free z.base) (hc : cells + 1 ≤ mc) (hs : slots + 6 ≤ ms) :
    W p l e R s m args below meth c H locs cells slots (vx_MQ below Qc XC args s mc ms free) (F0 m pc ls rest) := by
  intro T hT X
  have htr : e.platform.stackTraces = false := (show e.platform.stackTraces = l.stackTraces by rw [X.admits.platform]).trans hl
  have Y := vx_rebase X (R' := { frames := R.frames, locals := R.locals, cells := 1, slots := 6 }) (Nat.le_refl _) (Nat.le_refl _) hRcells hRslots
  obtain ⟨s', hA⟩ : ∃ z, z = (T.setVm s.vm).setFrames (.invoking m args :: below) := ⟨_, rfl⟩
  rw [← hA] at Y
  have hvm : s'.vm = s.vm := by rw [hA]; rfl
  have hhp : s'.heap = H := by rw [hA]; exact hT
  have hW0 : s.WarmedH s'.vm := by rw [hvm]; exact State.WarmedH.refl s
  have hat' : ∀ w ∈ vx_atS own ic cls names, w.before args s' = true := fun w hw => vx_ot_at hW0 hvm.symm (hgood w (List.mem_cons_of_mem _ (List.mem_cons_of_mem _ hw))) (hat w hw)
  have hk' : (Cond.classLink own ik cls).before args s' = true := vx_ot_at hW0 hvm.symm (hgood _ List.mem_cons_self) hk
  have hini' : (Cond.initialized cls).before args s' = true := vx_ot_at hW0 hvm.symm (hgood _ (List.mem_cons_of_mem _ List.mem_cons_self)) hini
  have hU' : vx_Zq Jvm.Bundle.tN "UNASSIGNED_STACK" Jvm.Bundle.steD A s' s'.heap := by rw [hhp]; exact vx_Zq.moved hW0.alike (hU.kept hS.2.1)
  have hN' : vx_Zq Jvm.Bundle.tN "SUPPRESSED_SENTINEL" Jvm.Bundle.listD A s' s'.heap := by rw [hhp]; exact vx_Zq.moved hW0.alike (hN.kept hS.2.1)
  have h : ∀ w ∈ Jvm.Bundle.ownAtoms own ic cls names, w.before args s' = true := vx_own hat' (vx_isRefq hU'.1) (vx_isRefq hN'.1) hU'.2.word hN'.2.word
  have hown' : s'.vm.findClass own = some m.cls := by rw [hvm]; exact hown
  have hins : (Cond.instantiable cls 6).before args s' = true := h _ (by simp [Jvm.Bundle.ownAtoms])
  obtain ⟨vm₁, cX, kX, hfX, hkX, -, -, X₁, st1⟩ := Y.newCold hexec (own := own) (C := cls) (index := ik) (n := 6) hown' hk' hins hini'
    (g := F0 m pc ls rest) rfl (by rw [hb]; exact d0) (Nat.le_refl _) (Nat.le_refl _)
  generalize hT1 : (T.setVm vm₁).pushCell { cls := cX, slots := kX.instanceTypes.map defaultValue, vm := .none } = T1 at X₁ st1
  have hcat : (Value.ref T.heap.size).category = 1 := rfl
  have hcellA : T1.heap[T.heap.size]? = some (freshCell cX kX) := by rw [← hT1]; exact State.heap_pushCell_size _ _
  have d3' : decode c.code (pc + 3) = .ok (.dup, 1) := by rw [hb]; exact d3
  have d4' : decode c.code (pc + 4) = .ok (.ldc_w is, 3) := by rw [hb]; exact d4
  have hstr' : vk_R own is text sa s' := vk_R.warm hW0 hstr
  obtain ⟨U, hsteps, hrun, hend, hW, hsame, ce, hce, hO⟩ := X₁.ctorThrowS hexec htr (own := own) (cls := cls) (names := names) (ic := ic) hown' hcls hnames h (fun x hx => nomatch hx) hfX hkX hcellA (by rw [hhp, hT]; exact Nat.le_refl _) (msg := .ref sa) rfl
    (g := { method := m, pc := pc + 7, locals := ls, stack := .ref sa :: .ref T.heap.size :: .ref T.heap.size :: rest, locked := none }) rfl hsize rfl rfl (rest := rest) rfl
    (by rw [hb]; exact d7) (by rw [hb]; exact d10) hout hRframes (by simp only [List.map_cons, List.sum_cons, hcat]; omega) hlocks
  obtain ⟨f1, f2⟩ := vx_frame hsame
  rw [hhp] at f1 f2
  have hWs : s.WarmedH U.vm := State.WarmedH.trans hW0 hW
  have hcl : s.vm.findClass cls = some ce.cls := by
    have h9 := hO.cls
    rw [hvm] at h9
    exact h9
  have hall : s.sameButNew ({ U with vm := s.vm } : State) locs mc ms := by
    subst hA
    obtain ⟨e1, e2⟩ := hsame
    rw [State.setFrames_setFrames] at e1
    have h2 : (T.setVm s.vm).sameButNew ({ U with vm := s.vm } : State) [] (0 + 1) (0 + 6) := ⟨e1, e2⟩
    have h3 := X.same.trans h2
    rw [List.append_nil] at h3
    exact h3.mono hc hs
  refine ⟨U, ?_, .threw T.heap.size, hrun, hend, Or.inr ⟨T.heap.size, rfl, cls, ce, locs, hx U hWs.alike f1 (fun q hq => f2 q hq (fun z hz => nomatch hz)), hce, hO.vm, hcl, hWs, hall, hf⟩⟩
  refine st1 _ ?_
  show Steps p.tables e below (T1.setTop { method := m, pc := pc + 3, locals := ls, stack := .ref T.heap.size :: rest, locked := none }) _
  jvm_step X₁.here [X₁.here.top, hexec, d3', Value.category]
  exact X₁.ldcStringW hexec (own := own) (text := text) (index := is) (a := sa) hown' hstr'.1 hstr'.2
    (g := { method := m, pc := pc + 4, locals := ls, stack := .ref T.heap.size :: .ref T.heap.size :: rest, locked := none }) rfl d4' _ hsteps
end Ends
section Bodies
variable {l : Launch}
theorem vx_ofW {y : MethodName} {ws ws' : List Cond} {rm : Room} {Pc : Array Value → State → Prop} {Qc : Array Value → State → Outcome → State → Prop} {XC : String → State → State → Prop} {mc ms : Nat} {free : Addr → Prop} {cc : ByteArray} {maxL : Nat} {ret : Option FieldType}
    (hy : plainName y.cls = true) (hw : ws = Cond.code y cc maxL ret :: ws')
    (body : ∀ p e s m args below meth c s₁, BodyLoose p l y (headSpec ws rm) cc maxL ret e s m args below meth c s₁ → c.maxLocals = maxL → (∀ x ∈ c.exceptionTable.toList, False) → Pc args s →
      W p l e (headSpec ws rm).room s m args below meth c s.heap [] 0 0 (vx_MQ below Qc XC args s mc ms free) (entryFrame m args maxL)) : vx_Met l y ws rm Pc Qc XC mc ms free := by
  refine MetFree.of_bodyS (code := cc) (maxLocals := maxL) (ret := ret) hy ?_ ?_
  · intro args s m h hn
    obtain ⟨meth, c, h1, h2, h3, h4, h5, h6, -, -⟩ := Cond.code_spec hn (atoms_spec (ws := ws) h _ (by rw [hw]; exact List.mem_cons_self))
    exact ⟨meth, c, h1, h2, h3, h4, h5, h6⟩
  · intro p e s m args below meth c s₁ B hml hP _
    have hh0 : s₁.heap = s.heap := by rw [B.state]; rfl
    have ht : ∀ x ∈ c.exceptionTable.toList, False := by
      obtain ⟨meth9, c9, h1, h2, -, -, -, -, h7, -⟩ := Cond.code_spec B.named (atoms_spec (ws := ws) B.pre _ (by rw [hw]; exact List.mem_cons_self))
      cases Option.some.inj (h1.symm.trans B.method)
      cases Option.some.inj (h2.symm.trans (Stand.of_body B).code)
      intro x hx
      rw [Array.isEmpty_iff.mp h7] at hx
      cases hx
    obtain ⟨t, a1, o, b1, b2, b3⟩ := body p e s m args below meth c s₁ B hml ht hP s₁ hh0 (Stand.of_body B)
    exact ⟨t, o, a1, b1, b2, b3⟩
theorem vx_table {p : Program} {x y : MethodName} {S : Spec} {cc bytes : ByteArray} {maxL maxL' : Nat} {ret ret' : Option FieldType} {e : Env} {s s₁ : State} {m : MethodId} {args : Array Value} {below : List Frame} {meth : Method} {c : Code} {hh : List (Nat × Nat × Nat × Nat)}
    (B : BodyLoose p l y S cc maxL ret e s m args below meth c s₁) (h : (Cond.codeWith y bytes maxL' ret' hh).before args s = true) : c.exceptionTable.toList = tableOf hh := by
  obtain ⟨m9, meth9, c9, hn9, h1, h2, -, -, h6, -⟩ := Cond.codeWith_spec h
  cases Option.some.inj (hn9.symm.trans B.named)
  cases Option.some.inj (h1.symm.trans B.method)
  cases Option.some.inj (h2.symm.trans (Stand.of_body B).code)
  rw [← h6, table_eq]
end Bodies
end VXA
section VXS
variable {p : Program} {l : Launch} {e : Env} {R : Room} {s : State} {m : MethodId} {args : Array Value} {below : List Frame} {meth : Method} {c : Code} {T : State} {H : Heap} {locs : List Loc} {cells slots : Nat}
abbrev vx_CSW (R : Room) (s : State) (args : Array Value) (own : String) (index : Nat) (y : MethodName) (bytes : ByteArray) (maxL : Nat) (ret : Option FieldType) (hh : List (Nat × Nat × Nat × Nat)) (ws : List Cond) (rm : Room) (mc ms n : Nat) : Prop :=
  (rm.cells = mc ∧ rm.slots = ms ∧ rm.frames + 1 ≤ R.frames ∧ 8 + (maxL + 11) + rm.locals ≤ R.locals ∧ (∀ w ∈ ws, ∀ (a' : Array Value) (U : State), s.WarmedH U.vm → w.before a' U = true) ∧ Cond.codeWith y bytes maxL ret hh ∈ ws) ∧
  (Cond.codeWith y bytes maxL ret hh).before args s = true ∧ (Cond.initialized y.cls).before args s = true ∧ (y.cls ≠ "java/lang/invoke/MethodHandle" ∧ y.cls ≠ "java/lang/invoke/VarHandle") ∧
  (∀ sig, parseMethodDescriptor y.desc = some sig → n = sig.parameters.length) ∧ (Cond.methodLink own index y).before args s = true ∧ (Cond.static y).before args s = true
theorem vx_cwSW {own : String} {index maxL mc ms : Nat} {y : MethodName} {bytes : ByteArray} {ret : Option FieldType} {hh : List (Nat × Nat × Nat × Nat)} {Ts ws ws' : List Cond} {rm : Room} (n : Nat) (ht : ∀ w ∈ Ts, w.before args s = true) (hT : GoodIn Ts (va_wsS own index y ws)) (hw : ws = Cond.codeWith y bytes maxL ret hh :: ws') (hrc : rm.cells = mc) (hrs : rm.slots = ms)
    (hd : y.cls ≠ "java/lang/invoke/MethodHandle" ∧ y.cls ≠ "java/lang/invoke/VarHandle" ∧ (parseMethodDescriptor y.desc).map (fun d => d.parameters.length) = some n) (hR : rm.frames + 1 ≤ R.frames ∧ 8 + (maxL + 11) + rm.locals ≤ R.locals) :
    vx_CSW R s args own index y bytes maxL ret hh ws rm mc ms n := by
  have ok : ∀ w ∈ va_wsS own index y ws, w.before args s = true := fun w h => ht w (hT w h).1
  have hG : GoodIn Ts ws := fun w h => hT w (by unfold va_wsS; exact List.mem_append_right _ h)
  have hc : Cond.codeWith y bytes maxL ret hh ∈ ws := by rw [hw]; exact List.mem_cons_self
  refine ⟨⟨hrc, hrs, hR.1, hR.2, pay_in ht hG, hc⟩, ht _ (hG _ hc).1, ok _ (by simp [va_wsS]), ⟨hd.1, hd.2.1⟩, fun sig h => ?_, ok _ (by simp [va_wsS]), ok _ (by simp [va_wsS])⟩
  have h2 := hd.2.2
  rw [h] at h2
  exact (Option.some.inj h2).symm
theorem vx_callSW (X : Stand p l e R s m args below meth c T locs cells slots) (hexec : p.tables.exec = Jvm.exec) {own : String} {index : Nat} {y : MethodName} {bytes : ByteArray} {maxL : Nat} {ret : Option FieldType} {hh : List (Nat × Nat × Nat × Nat)}
    (hown : s.vm.findClass own = some m.cls) (hlink : (Cond.methodLink own index y).before args s = true) (hstat : (Cond.static y).before args s = true) (hinit : (Cond.initialized y.cls).before args s = true)
    (hcode : (Cond.codeWith y bytes maxL ret hh).before args s = true) (hy : y.cls ≠ "java/lang/invoke/MethodHandle" ∧ y.cls ≠ "java/lang/invoke/VarHandle")
    {W9 : Nat} {Pre : Pt → Array Value → Prop} {Post : Pt → Array Value → Option Value → Pt → Prop} (hK : Back l R p e below s args y 3 W9 Pre Post)
    {g : JFrame} (hg : g.method = m) (hsize : g.locals.size = c.maxLocals) {argsL rest : List Value} (hlen : ∀ sig, parseMethodDescriptor y.desc = some sig → argsL.length = sig.parameters.length)
    (hstack : g.stack = argsL.reverse ++ rest) (hW : 2 * g.monitorRoom + (rest.map fun v => v.category).sum ≤ W9) (hdg : decode c.code g.pc = .ok (.invokestatic index, 3))
    (hpre : ∀ vm₁, s.WarmedH vm₁ → Pre ⟨T.setVm vm₁, locs, cells, slots⟩ argsL.toArray) :
    ∃ (v : Option Value) (vm₁ : Vm) (B : Pt), s.WarmedH vm₁ ∧ Stand p l e R s m args below meth c B.U B.locs B.cells B.slots ∧ Post ⟨T.setVm vm₁, locs, cells, slots⟩ argsL.toArray v B ∧
      ∀ target, Steps p.tables e below (B.U.setTop { g with pc := g.pc + 3, stack := v.toList ++ rest }) target → Steps p.tables e below (T.setTop g) target := by
  obtain ⟨mk, methM, cM, hnamed, hmethM, -, -, -, -, -, -, hsigM⟩ := Cond.codeWith_spec hcode
  have hstatic : methM.isStatic = true := Cond.static_spec hnamed hmethM hstat
  obtain ⟨kP, hkP, -⟩ := className_of_methodNamed hnamed
  have hinitP : kP.init = .initialized := Cond.initialized_spec (findClass_of_methodNamed hnamed) hkP hinit
  obtain ⟨vm₁, X₁, hstep₁⟩ := X.invokestatic hexec hown hlink hnamed hmethM hstatic hkP hinitP hy (g := g) hg (argsL := argsL) (rest := rest) (hlen _ hsigM) hstack hdg
  obtain ⟨v, B, X', hpost, hsteps⟩ := hK m meth c ⟨T.setVm vm₁, locs, cells, slots⟩ { g with stack := rest } (.invokestatic index) mk argsL.toArray X₁ hg hsize hdg hW (X₁.named hnamed) (hpre vm₁ X₁.warmed)
  exact ⟨v, vm₁, B, X₁.warmed, X', hpost, fun target h => hstep₁ _ fun acts => by rw [doInvoke_state]; exact hsteps.trans h⟩
theorem vx_runSW {y : MethodName} {bytes cc : ByteArray} {maxL nL mc ms n index : Nat} {ret : Option FieldType} {hh : List (Nat × Nat × Nat × Nat)} {ws : List Cond} {rm : Room} {Pc : Array Value → State → Prop} {Qc : Array Value → State → Outcome → State → Prop} {free : Addr → Prop} {Ts : List Cond} {own : String} {As rest : List Value} {g : JFrame}
    (S : CallFix p m c cc nL s args Ts own) (hM : Met l y ws rm Pc Qc mc ms free) (cw : vx_CSW R s args own index y bytes maxL ret hh ws rm mc ms n) (hp : PreS s H Pc As)
    (hg : g.method = m) (hn : As.length = n) (hsize : g.locals.size = nL) (hstack : g.stack = As.reverse ++ rest) (hW : 2 * g.monitorRoom + (rest.map fun v => v.category).sum ≤ 8) (hdg : decode cc g.pc = .ok (.invokestatic index, 3)) (hf : cells + mc ≤ R.cells ∧ slots + ms ≤ R.slots) :
    va_Run p l e R s m args below meth c H locs cells slots mc ms g rest (Qc As.toArray) (free) := by
  obtain ⟨⟨hrc, hrs, hfr, hlo, hws, hcw⟩, hcode, hini, hy, hlen, hl, hstt⟩ := cw
  have hK : Back l R p e below s args y 3 8 (PreOf R mc ms Pc) (PostOf Qc mc ms free) := va_backW (hh := hh) (bytes := bytes) (maxL := maxL) (ret := ret) hM hp.1 hrc hrs hfr hlo hws hcw (fun a' U hW => word_at hW (Or.inl (by first | rfl | simp [Cond.onTables, Cond.keeps, Cond.steady])) hini)
  obtain ⟨hx, hb, hml, ho, -⟩ := S
  intro T hT X
  obtain ⟨v, vm₁, ⟨U', l2, c2, s2⟩, hW₁, X', ⟨g', mk, t, L, e1, e2, hq, h1, hL, h2, h3⟩, st⟩ := vx_callSW X hx (hh := hh) (bytes := bytes) (maxL := maxL) (ret := ret) ho hl hstt hini hcode hy hK hg (hsize.trans hml.symm) (argsL := As) (rest := rest) (fun sig h => hn.trans (hlen sig h)) hstack hW (by rw [hb]; exact hdg)
    (fun vm₁ hW₁ => ⟨hf.1, hf.2, hp.2 (T.setVm vm₁) hT hW₁⟩)
  dsimp only [Pt.U, Pt.locs, Pt.cells, Pt.slots] at X' e1 e2 h1 h2 h3 st
  subst h1; subst h2; subst h3
  exact ⟨v, (T.setVm vm₁).calling g' mk As.toArray, t, U', L, hT, X', hL, e1, e2, hq, st⟩
theorem vx_outP {p : Program} {l : Launch} {e : Env} {R : Room} {s : State} {m : MethodId} {args : Array Value} {below : List Frame} {meth : Method} {c : Code} {H : Heap} {locs : List Loc} {cells slots : Nat} {free : Addr → Prop} {ls : Array Slot} {rest : List Value} {Qc : Array Value → State → Outcome → State → Prop} {XC : String → State → State → Prop}
    {pc : Nat} {own E : String} {ce : Cell} {q : Addr} {mc ms : Nat} (hown : s.vm.findClass own = some m.cls) (hlocks : meth.locks = false)
    (hpass : ∀ z ∈ c.exceptionTable.toList, covers z pc = false ∨ (z.catchType ≠ 0 ∧ ∃ nm : String, (Cond.classLink own z.catchType nm).before args s = true ∧ va_Nc E nm s)) (hcell : H[q]? = some ce) (hv : ce.vm = .none) (hcl : s.vm.findClass E = some ce.cls)
    (hx : ∀ t : State, t.heap = H → s.vm.Alike t.vm → XC E s t) (hf : ∀ z ∈ locs, free z.base) (hc : cells ≤ mc) (hs : slots ≤ ms) :
    vx_W p l e R s m args below meth c H locs cells slots (vx_MQ below Qc XC args s mc ms free) (F0 m pc ls rest) q := by
  intro T hT X
  have hpl : e.platform.magicAccessors = ({} : Platform).magicAccessors := by rw [X.admits.platform]
  obtain ⟨vm', hW', X', st⟩ := X.outThrough hlocks q (g := F0 m pc ls rest) rfl rfl rfl (cell := ce) (by rw [hT]; exact hcell) (by rw [hv]; rfl)
    (by obtain ⟨k9, h9, -⟩ := Vm.findClass_spec hcl; exact ⟨k9, h9⟩) (fun z hz => by
      rcases hpass z hz with h | ⟨hz0, nm, hl1, hn1⟩
      · exact Or.inl h
      · obtain ⟨c6, hc6, hcl6⟩ := Cond.classLink_spec hown hl1 e.platform hpl
        obtain ⟨a8, b8, h1, h2, h3⟩ := hn1
        cases Option.some.inj (h1.symm.trans hcl)
        cases Option.some.inj (h2.symm.trans hc6)
        exact Or.inr ⟨hz0, _, hcl6, h3⟩)
  obtain ⟨g₀, hfr⟩ := X'.frames_eq
  have hcell9 : ((T.setVm vm').setFrames (.throwing q :: below)).heap[q]? = some ce := by
    show T.heap[q]? = some ce
    rw [hT]; exact hcell
  have hend : Ended ((T.setVm vm').setFrames (.throwing q :: below)) below (.threw q) := State.frames_setFrames _ (State.cur_lt_of_frames hfr)
  refine ⟨(T.setVm vm').setFrames (.throwing q :: below), ?_, .threw q, X'.here.running, hend, Or.inr ⟨q, rfl, E, ce, locs, hx _ hT (X'.ends _).1.alike, hcell9, hv, hcl, (X'.ends _).1, (X'.ends _).2.mono hc hs, hf⟩⟩
  rw [X.pushThrowing_eq]
  exact st
theorem vx_lt {D : va_G} {cl : List vw_C} {ws : va_W} {H1 : Heap} (h : va_P D cl ws H1) {k : Nat} {q : Nat × va_E} (hk : ws[k]? = some q) : q.1 < H1.size := (h k q hk).lt
end VXS
section VXH
section
variable {l : Launch} {R : Room} {p : Program} {e : Env} {below : List Frame} {s : State} {sargs : Array Value} {y : MethodName} {len W9 : Nat}
theorem vx_backW {ws : List Cond} {rm : Room} {Pc : Array Value → State → Prop} {Qc : Array Value → State → Outcome → State → Prop} {XC : String → State → State → Prop} {mc ms : Nat} {free : Addr → Prop} {bytes : ByteArray} {maxL : Nat} {ret : Option FieldType} {hh : List (Nat × Nat × Nat × Nat)}
    (hM : vx_Met l y ws rm Pc Qc XC mc ms free) (hblind : FrameBlind Pc) (hrc : rm.cells = mc) (hrs : rm.slots = ms)
    (hframes : rm.frames + 1 ≤ R.frames) (hlocals : W9 + (maxL + 11) + rm.locals ≤ R.locals)
    (hws : ∀ w ∈ ws, ∀ a' U, s.WarmedH U.vm → w.before a' U = true) (hcode : Cond.codeWith y bytes maxL ret hh ∈ ws) (hinit : ∀ a' U, s.WarmedH U.vm → (Cond.initialized y.cls).before a' U = true) :
    vx_Back l R p e below s sargs y len W9 (PreOf R mc ms Pc) (PostOf Qc mc ms free) (vx_Post XC mc ms free) := by
  intro m meth c A g ig mk a X hg hsize hdg hW hn hp
  have h1 : (headSpec ws rm).pre.before a A.U = true := atoms_intro fun w hw => hws w hw _ _ X.warmed
  have h2 : (Cond.codeWith y bytes maxL ret hh).before a A.U = true := hws _ hcode _ _ X.warmed
  have h3 : (Cond.initialized y.cls).before a A.U = true := hinit _ _ X.warmed
  have h4 : A.cells + (headSpec ws rm).room.cells ≤ R.cells := by rw [show (headSpec ws rm).room.cells = mc from hrc]; exact hp.1
  have h5 : A.slots + (headSpec ws rm).room.slots ≤ R.slots := by rw [show (headSpec ws rm).room.slots = ms from hrs]; exact hp.2.1
  have hPc : Pc a (A.U.calling g mk a) := hblind _ _ _ _ hp.2.2
  obtain ⟨U, Ls, c0, s0⟩ := A
  dsimp only [Pt.U, Pt.locs, Pt.cells, Pt.slots] at h1 h2 h3 h4 h5 X hn hPc ⊢
  obtain ⟨m9, methY, cY, hn9, hmY, hcY, -, hlY, -⟩ := Cond.codeWith_spec h2
  cases Option.some.inj (hn9.symm.trans hn)
  obtain ⟨kY, hkY, -⟩ := className_of_methodNamed hn
  have hinitY : kY.init = .initialized := Cond.initialized_spec (findClass_of_methodNamed hn) hkY h3
  have h : At U g.method c below := by rw [hg]; exact X.here
  have hlocals9 : W9 + (maxL + 11) + (headSpec ws rm).room.locals ≤ R.locals := hlocals
  have happ : (headSpec ws rm).appliesLoose y e.platform (U.calling g mk a) = true :=
    Spec.appliesLoose_calling (g := g) h hdg hn hkY hinitY
      (X.room_calling (g := g) (R' := (headSpec ws rm).room) hsize hmY hcY hframes (by rw [hlY]; omega) h4 h5) h1
  obtain ⟨mid, hmid⟩ := h.above
  have hfr : (U.setTop g).frames = (.java g :: mid) ++ below := by rw [State.frames_setTop' g h.top, hmid]; rfl
  obtain ⟨o, s₂, hsteps, -, hend, hq⟩ := Steps.callFree hM p X.admits X.cas X.clock (acts := []) hfr happ hPc trivial
  have hq' : vx_Q Qc XC mc ms free a (U.calling g mk a) o s₂ := hq
  rw [State.frames_setTop' g h.top] at hend
  obtain ⟨g₀, hg0⟩ := Option.isSome_iff_exists.mp h.top
  obtain ⟨r, hr⟩ := State.topJava?_eq_some.mp hg0
  have hr' : (({ U with heap := s₂.heap, slotsUsed := s₂.slotsUsed } : State).setVm s₂.vm).frames = .java g₀ :: r := hr
  rcases hq' with ⟨hqc, L, hfe, hL⟩ | ⟨q, rfl, E, ce, L, hx, hce, hcv, hcl, hW₂, hsm, hL⟩
  · obtain ⟨⟨v, rfl⟩, hW₂, e2, q2, q3, q4, q5, q6⟩ := id hfe
    have e3 : s₂ = ({ (U.calling g mk a).setFrames s₂.frames with heap := s₂.heap, slotsUsed := s₂.slotsUsed } : State).setVm s₂.vm := by
      have : s₂ = ({ s₂ with vm := (U.calling g mk a).vm } : State).setVm s₂.vm := rfl
      rw [e2] at this
      exact this
    obtain ⟨c₂, i₂, len₂, hc₂, hd₂, hf₂⟩ := hend
    have hW' : U.WarmedH s₂.vm := hW₂
    have hcc : c₂ = c := by
      have h1 : s₂.code? g.method = U.code? g.method := by
        rw [State.code?_eq, State.code?_eq, hW'.alike.method?]
      exact Option.some.inj (hc₂.symm.trans (h1.trans h.code))
    subst hcc
    have hlen : len₂ = len := by rw [hdg] at hd₂; cases hd₂; rfl
    subst hlen
    have hs₂ : s₂ = (({ U with heap := s₂.heap, slotsUsed := s₂.slotsUsed } : State).setVm s₂.vm).setTop { g with pc := g.pc + len₂, stack := v.toList ++ g.stack } := by
      refine e3.trans ?_
      rw [hf₂, State.calling_eq h.top, State.setFrames_setFrames, State.setTop_of_frames _ hr', hr]
      rfl
    have hsame : U.sameButNew ({ U with heap := s₂.heap, slotsUsed := s₂.slotsUsed } : State) L mc ms := by
      refine ⟨?_, q2, q3, q4, q5, q6⟩
      obtain ⟨t, ht, -⟩ := State.frames_cons hr
      show ({ U with heap := s₂.heap, slotsUsed := s₂.slotsUsed } : State) = { U.setFrames U.frames with heap := s₂.heap, slotsUsed := s₂.slotsUsed }
      rw [State.setFrames_self ht]
    subst hg
    refine Or.inl ⟨v, ⟨(({ U with heap := s₂.heap, slotsUsed := s₂.slotsUsed } : State).setVm s₂.vm), Ls ++ L, c0 + mc, s0 + ms⟩,
      ⟨X.admits, X.cas, X.clock, X.frames, X.room, X.hears, X.method, X.code, (X.here.setHeapUsed s₂.heap s₂.slotsUsed).setVm hW'.alike, X.tail, State.WarmedH.trans X.warmed hW', X.limits, X.bytes, X.same.trans (hsame.setVm s.vm)⟩,
      ⟨g, mk, s₂, L, rfl, rfl, hqc, rfl, hL, rfl, rfl⟩, ?_⟩
    show Steps p.tables e below _ ((({ U with heap := s₂.heap, slotsUsed := s₂.slotsUsed } : State).setVm s₂.vm).setTop { g with pc := g.pc + len₂, stack := v.toList ++ g.stack })
    rw [← hs₂]
    exact hsteps
  · obtain ⟨e2, q2, q3, q4, q5, q6⟩ := id hsm
    have e3 : s₂ = ({ (U.calling g mk a).setFrames s₂.frames with heap := s₂.heap, slotsUsed := s₂.slotsUsed } : State).setVm s₂.vm := by
      have : s₂ = ({ s₂ with vm := (U.calling g mk a).vm } : State).setVm s₂.vm := rfl
      rw [e2] at this
      exact this
    have hf₂ : s₂.frames = .throwing q :: .java g :: U.frames.tail := hend
    have hW' : U.WarmedH s₂.vm := hW₂
    have hs₂ : s₂ = ((({ U with heap := s₂.heap, slotsUsed := s₂.slotsUsed } : State).setVm s₂.vm).setTop g).pushFrame (.throwing q) := by
      refine e3.trans ?_
      rw [hf₂, State.calling_eq h.top, State.setFrames_setFrames, State.pushFrame, State.frames_setTop _ hr', State.setTop_of_frames _ hr', State.setFrames_setFrames, hr]
      rfl
    have hsame : U.sameButNew ({ U with heap := s₂.heap, slotsUsed := s₂.slotsUsed } : State) L mc ms := by
      refine ⟨?_, q2, q3, q4, q5, q6⟩
      obtain ⟨t, ht, -⟩ := State.frames_cons hr
      show ({ U with heap := s₂.heap, slotsUsed := s₂.slotsUsed } : State) = { U.setFrames U.frames with heap := s₂.heap, slotsUsed := s₂.slotsUsed }
      rw [State.setFrames_self ht]
    subst hg
    refine Or.inr ⟨q, ⟨(({ U with heap := s₂.heap, slotsUsed := s₂.slotsUsed } : State).setVm s₂.vm), Ls ++ L, c0 + mc, s0 + ms⟩,
      ⟨X.admits, X.cas, X.clock, X.frames, X.room, X.hears, X.method, X.code, (X.here.setHeapUsed s₂.heap s₂.slotsUsed).setVm hW'.alike, X.tail, State.WarmedH.trans X.warmed hW', X.limits, X.bytes, X.same.trans (hsame.setVm s.vm)⟩,
      ⟨g, mk, s₂, L, E, ce, rfl, rfl, hx, hce, hcv, hcl, rfl, hL, rfl, rfl⟩, ?_⟩
    show Steps p.tables e below _ (((({ U with heap := s₂.heap, slotsUsed := s₂.slotsUsed } : State).setVm s₂.vm).setTop g).pushFrame (.throwing q))
    rw [← hs₂]
    exact hsteps
end
variable {p : Program} {l : Launch} {e : Env} {R : Room} {s : State} {m : MethodId} {args : Array Value} {below : List Frame} {meth : Method} {c : Code} {T : State} {H : Heap} {locs : List Loc} {cells slots : Nat}
theorem vx_callVX (X : Stand p l e R s m args below meth c T locs cells slots) (hexec : p.tables.exec = Jvm.exec) {own C : String} {index : Nat} {y : MethodName} {bytes : ByteArray} {maxL : Nat} {ret : Option FieldType} {hh : List (Nat × Nat × Nat × Nat)}
    (hown : s.vm.findClass own = some m.cls) (hlink : (Cond.methodLink own index y).before args s = true) (hinst : (Cond.instanceMethod y).before args s = true) (hsel : (Cond.selects C y y).before args s = true)
    (hcode : (Cond.codeWith y bytes maxL ret hh).before args s = true) (hy : y.cls ≠ "java/lang/invoke/MethodHandle" ∧ y.cls ≠ "java/lang/invoke/VarHandle")
    {W9 : Nat} {Pre : Pt → Array Value → Prop} {Post : Pt → Array Value → Option Value → Pt → Prop} {PostX : Pt → Array Value → Addr → Pt → Prop} (hK : vx_Back l R p e below s args y 3 W9 Pre Post PostX)
    {b : Addr} {cellB : Cell} (hcell : T.heap[b]? = some cellB) (hobj : cellB.vm.isStatics = false) (hcls : s.vm.findClass C = some cellB.cls)
    {g : JFrame} (hg : g.method = m) (hsize : g.locals.size = c.maxLocals) {argsL rest : List Value} (hlen : ∀ sig, parseMethodDescriptor y.desc = some sig → argsL.length = sig.parameters.length)
    (hstack : g.stack = argsL.reverse ++ .ref b :: rest) (hW : 2 * g.monitorRoom + (rest.map fun v => v.category).sum ≤ W9) (hdg : decode c.code g.pc = .ok (.invokevirtual index, 3))
    (hpre : ∀ vm₁, s.WarmedH vm₁ → Pre ⟨T.setVm vm₁, locs, cells, slots⟩ (Value.ref b :: argsL).toArray) :
    (∃ (v : Option Value) (vm₁ : Vm) (B : Pt), s.WarmedH vm₁ ∧ Stand p l e R s m args below meth c B.U B.locs B.cells B.slots ∧ Post ⟨T.setVm vm₁, locs, cells, slots⟩ (Value.ref b :: argsL).toArray v B ∧
      ∀ target, Steps p.tables e below (B.U.setTop { g with pc := g.pc + 3, stack := v.toList ++ rest }) target → Steps p.tables e below (T.setTop g) target) ∨
    (∃ (q : Addr) (vm₁ : Vm) (B : Pt), s.WarmedH vm₁ ∧ Stand p l e R s m args below meth c B.U B.locs B.cells B.slots ∧ PostX ⟨T.setVm vm₁, locs, cells, slots⟩ (Value.ref b :: argsL).toArray q B ∧
      Steps p.tables e below (T.setTop g) ((B.U.setTop { g with stack := rest }).pushFrame (.throwing q))) := by
  obtain ⟨mk, methM, hnamed, hmethM, hstM, habM⟩ := Cond.instanceMethod_spec hinst
  obtain ⟨m8, methM', cM, hn8, hmethM', -, -, -, -, -, -, hsigM⟩ := Cond.codeWith_spec hcode
  cases Option.some.inj (hn8.symm.trans hnamed)
  cases hmethM.symm.trans hmethM'
  obtain ⟨c2, r2, m2, q1, q2, q3, q4, kP, hkP, hkPi⟩ := Cond.selects_spec hsel
  cases hcls.symm.trans q1
  cases (State.methodFound?_of_named hnamed hy).symm.trans q2
  cases hnamed.symm.trans q3
  have hselP : selectMethod e.platform s.vm cellB.cls mk = .method mk := by rw [Launch.admits_selectMethod X.admits]; exact q4
  obtain ⟨vm₁, X₁, hstep₁⟩ := X.invokevirtual hexec hown hlink hnamed hmethM hstM hkP hkPi hy (a := b) (cell := cellB) hcell
    (fun z h => by rw [h] at hobj; cases hobj) hselP hmethM habM hkP hkPi (g := g) hg (argsL := argsL) (rest := rest) (hlen _ hsigM) hstack hdg
  rcases hK m meth c ⟨T.setVm vm₁, locs, cells, slots⟩ { g with stack := rest } (.invokevirtual index) mk (Value.ref b :: argsL).toArray X₁ hg hsize hdg hW (X₁.named hnamed) (hpre vm₁ X₁.warmed) with ⟨v, B, X', hpost, hsteps⟩ | ⟨q, B, X', hpost, hsteps⟩
  · exact Or.inl ⟨v, vm₁, B, X₁.warmed, X', hpost, fun target h => hstep₁ _ fun acts => by rw [doInvoke_state]; exact hsteps.trans h⟩
  · exact Or.inr ⟨q, vm₁, B, X₁.warmed, X', hpost, hstep₁ _ fun acts => by rw [doInvoke_state]; exact hsteps⟩
theorem vx_callSX (X : Stand p l e R s m args below meth c T locs cells slots) (hexec : p.tables.exec = Jvm.exec) {own : String} {index : Nat} {y : MethodName} {bytes : ByteArray} {maxL : Nat} {ret : Option FieldType} {hh : List (Nat × Nat × Nat × Nat)}
    (hown : s.vm.findClass own = some m.cls) (hlink : (Cond.methodLink own index y).before args s = true) (hstat : (Cond.static y).before args s = true) (hinit : (Cond.initialized y.cls).before args s = true)
    (hcode : (Cond.codeWith y bytes maxL ret hh).before args s = true) (hy : y.cls ≠ "java/lang/invoke/MethodHandle" ∧ y.cls ≠ "java/lang/invoke/VarHandle")
    {W9 : Nat} {Pre : Pt → Array Value → Prop} {Post : Pt → Array Value → Option Value → Pt → Prop} {PostX : Pt → Array Value → Addr → Pt → Prop} (hK : vx_Back l R p e below s args y 3 W9 Pre Post PostX)
    {g : JFrame} (hg : g.method = m) (hsize : g.locals.size = c.maxLocals) {argsL rest : List Value} (hlen : ∀ sig, parseMethodDescriptor y.desc = some sig → argsL.length = sig.parameters.length)
    (hstack : g.stack = argsL.reverse ++ rest) (hW : 2 * g.monitorRoom + (rest.map fun v => v.category).sum ≤ W9) (hdg : decode c.code g.pc = .ok (.invokestatic index, 3))
    (hpre : ∀ vm₁, s.WarmedH vm₁ → Pre ⟨T.setVm vm₁, locs, cells, slots⟩ argsL.toArray) :
    (∃ (v : Option Value) (vm₁ : Vm) (B : Pt), s.WarmedH vm₁ ∧ Stand p l e R s m args below meth c B.U B.locs B.cells B.slots ∧ Post ⟨T.setVm vm₁, locs, cells, slots⟩ argsL.toArray v B ∧
      ∀ target, Steps p.tables e below (B.U.setTop { g with pc := g.pc + 3, stack := v.toList ++ rest }) target → Steps p.tables e below (T.setTop g) target) ∨
    (∃ (q : Addr) (vm₁ : Vm) (B : Pt), s.WarmedH vm₁ ∧ Stand p l e R s m args below meth c B.U B.locs B.cells B.slots ∧ PostX ⟨T.setVm vm₁, locs, cells, slots⟩ argsL.toArray q B ∧
      Steps p.tables e below (T.setTop g) ((B.U.setTop { g with stack := rest }).pushFrame (.throwing q))) := by
  obtain ⟨mk, methM, cM, hnamed, hmethM, -, -, -, -, -, -, hsigM⟩ := Cond.codeWith_spec hcode
  have hstatic : methM.isStatic = true := Cond.static_spec hnamed hmethM hstat
  obtain ⟨kP, hkP, -⟩ := className_of_methodNamed hnamed
  have hinitP : kP.init = .initialized := Cond.initialized_spec (findClass_of_methodNamed hnamed) hkP hinit
  obtain ⟨vm₁, X₁, hstep₁⟩ := X.invokestatic hexec hown hlink hnamed hmethM hstatic hkP hinitP hy (g := g) hg (argsL := argsL) (rest := rest) (hlen _ hsigM) hstack hdg
  rcases hK m meth c ⟨T.setVm vm₁, locs, cells, slots⟩ { g with stack := rest } (.invokestatic index) mk argsL.toArray X₁ hg hsize hdg hW (X₁.named hnamed) (hpre vm₁ X₁.warmed) with ⟨v, B, X', hpost, hsteps⟩ | ⟨q, B, X', hpost, hsteps⟩
  · exact Or.inl ⟨v, vm₁, B, X₁.warmed, X', hpost, fun target h => hstep₁ _ fun acts => by rw [doInvoke_state]; exact hsteps.trans h⟩
  · exact Or.inr ⟨q, vm₁, B, X₁.warmed, X', hpost, hstep₁ _ fun acts => by rw [doInvoke_state]; exact hsteps⟩
theorem vx_callVW (X : Stand p l e R s m args below meth c T locs cells slots) (hexec : p.tables.exec = Jvm.exec) {own C : String} {index : Nat} {y : MethodName} {bytes : ByteArray} {maxL : Nat} {ret : Option FieldType} {hh : List (Nat × Nat × Nat × Nat)}
    (hown : s.vm.findClass own = some m.cls) (hlink : (Cond.methodLink own index y).before args s = true) (hinst : (Cond.instanceMethod y).before args s = true) (hsel : (Cond.selects C y y).before args s = true)
    (hcode : (Cond.codeWith y bytes maxL ret hh).before args s = true) (hy : y.cls ≠ "java/lang/invoke/MethodHandle" ∧ y.cls ≠ "java/lang/invoke/VarHandle")
    {W9 : Nat} {Pre : Pt → Array Value → Prop} {Post : Pt → Array Value → Option Value → Pt → Prop} (hK : Back l R p e below s args y 3 W9 Pre Post)
    {b : Addr} {cellB : Cell} (hcell : T.heap[b]? = some cellB) (hobj : cellB.vm.isStatics = false) (hcls : s.vm.findClass C = some cellB.cls)
    {g : JFrame} (hg : g.method = m) (hsize : g.locals.size = c.maxLocals) {argsL rest : List Value} (hlen : ∀ sig, parseMethodDescriptor y.desc = some sig → argsL.length = sig.parameters.length)
    (hstack : g.stack = argsL.reverse ++ .ref b :: rest) (hW : 2 * g.monitorRoom + (rest.map fun v => v.category).sum ≤ W9) (hdg : decode c.code g.pc = .ok (.invokevirtual index, 3))
    (hpre : ∀ vm₁, s.WarmedH vm₁ → Pre ⟨T.setVm vm₁, locs, cells, slots⟩ (Value.ref b :: argsL).toArray) :
    ∃ (v : Option Value) (vm₁ : Vm) (B : Pt), s.WarmedH vm₁ ∧ Stand p l e R s m args below meth c B.U B.locs B.cells B.slots ∧ Post ⟨T.setVm vm₁, locs, cells, slots⟩ (Value.ref b :: argsL).toArray v B ∧
      ∀ target, Steps p.tables e below (B.U.setTop { g with pc := g.pc + 3, stack := v.toList ++ rest }) target → Steps p.tables e below (T.setTop g) target := by
  obtain ⟨mk, methM, hnamed, hmethM, hstM, habM⟩ := Cond.instanceMethod_spec hinst
  obtain ⟨m8, methM', cM, hn8, hmethM', -, -, -, -, -, -, hsigM⟩ := Cond.codeWith_spec hcode
  cases Option.some.inj (hn8.symm.trans hnamed)
  cases hmethM.symm.trans hmethM'
  obtain ⟨c2, r2, m2, q1, q2, q3, q4, kP, hkP, hkPi⟩ := Cond.selects_spec hsel
  cases hcls.symm.trans q1
  cases (State.methodFound?_of_named hnamed hy).symm.trans q2
  cases hnamed.symm.trans q3
  have hselP : selectMethod e.platform s.vm cellB.cls mk = .method mk := by rw [Launch.admits_selectMethod X.admits]; exact q4
  obtain ⟨vm₁, X₁, hstep₁⟩ := X.invokevirtual hexec hown hlink hnamed hmethM hstM hkP hkPi hy (a := b) (cell := cellB) hcell
    (fun z h => by rw [h] at hobj; cases hobj) hselP hmethM habM hkP hkPi (g := g) hg (argsL := argsL) (rest := rest) (hlen _ hsigM) hstack hdg
  obtain ⟨v, B, X', hpost, hsteps⟩ := hK m meth c ⟨T.setVm vm₁, locs, cells, slots⟩ { g with stack := rest } (.invokevirtual index) mk (Value.ref b :: argsL).toArray X₁ hg hsize hdg hW (X₁.named hnamed) (hpre vm₁ X₁.warmed)
  exact ⟨v, vm₁, B, X₁.warmed, X', hpost, fun target h => hstep₁ _ fun acts => by rw [doInvoke_state]; exact hsteps.trans h⟩
abbrev vx_CVW (R : Room) (s : State) (args : Array Value) (own C : String) (index : Nat) (y : MethodName) (bytes : ByteArray) (maxL : Nat) (ret : Option FieldType) (hh : List (Nat × Nat × Nat × Nat)) (ws : List Cond) (rm : Room) (mc ms n : Nat) : Prop :=
  (rm.cells = mc ∧ rm.slots = ms ∧ rm.frames + 1 ≤ R.frames ∧ 8 + (maxL + 11) + rm.locals ≤ R.locals ∧ (∀ w ∈ ws, ∀ (a' : Array Value) (U : State), s.WarmedH U.vm → w.before a' U = true) ∧ Cond.codeWith y bytes maxL ret hh ∈ ws) ∧
  (Cond.codeWith y bytes maxL ret hh).before args s = true ∧ (Cond.initialized y.cls).before args s = true ∧ (y.cls ≠ "java/lang/invoke/MethodHandle" ∧ y.cls ≠ "java/lang/invoke/VarHandle") ∧
  (∀ sig, parseMethodDescriptor y.desc = some sig → n = sig.parameters.length) ∧ (Cond.methodLink own index y).before args s = true ∧ (Cond.instanceMethod y).before args s = true ∧ (Cond.selects C y y).before args s = true
theorem vx_cwVW {own C : String} {index maxL mc ms : Nat} {y : MethodName} {bytes : ByteArray} {ret : Option FieldType} {hh : List (Nat × Nat × Nat × Nat)} {Ts ws ws' : List Cond} {rm : Room} (n : Nat) (ht : ∀ w ∈ Ts, w.before args s = true) (hT : GoodIn Ts (wsV own index C y ws)) (hw : ws = Cond.codeWith y bytes maxL ret hh :: ws') (hrc : rm.cells = mc) (hrs : rm.slots = ms)
    (hd : y.cls = C ∧ y.cls ≠ "java/lang/invoke/MethodHandle" ∧ y.cls ≠ "java/lang/invoke/VarHandle" ∧ (parseMethodDescriptor y.desc).map (fun d => d.parameters.length) = some n) (hR : rm.frames + 1 ≤ R.frames ∧ 8 + (maxL + 11) + rm.locals ≤ R.locals) :
    vx_CVW R s args own C index y bytes maxL ret hh ws rm mc ms n := by
  obtain ⟨hC, hd⟩ := hd
  subst hC
  have ok : ∀ w ∈ wsV own index y.cls y ws, w.before args s = true := fun w h => ht w (hT w h).1
  have hG : GoodIn Ts ws := fun w h => hT w (by unfold wsV; exact List.mem_append_right _ h)
  have hc : Cond.codeWith y bytes maxL ret hh ∈ ws := by rw [hw]; exact List.mem_cons_self
  refine ⟨⟨hrc, hrs, hR.1, hR.2, pay_in ht hG, hc⟩, ht _ (hG _ hc).1, ok _ (by simp [wsV]), ⟨hd.1, hd.2.1⟩, fun sig h => ?_, ok _ (by simp [wsV]), ok _ (by simp [wsV]), ok _ (by simp [wsV])⟩
  have h2 := hd.2.2
  rw [h] at h2
  exact (Option.some.inj h2).symm
theorem vx_runVW {y : MethodName} {bytes cc : ByteArray} {maxL nL mc ms n index : Nat} {ret : Option FieldType} {hh : List (Nat × Nat × Nat × Nat)} {ws : List Cond} {rm : Room} {Pc : Array Value → State → Prop} {Qc : Array Value → State → Outcome → State → Prop} {free : Addr → Prop} {Ts : List Cond} {own C : String} {b : Addr} {As rest : List Value} {g : JFrame}
    (S : CallFix p m c cc nL s args Ts own) (hM : Met l y ws rm Pc Qc mc ms free) (cw : vx_CVW R s args own C index y bytes maxL ret hh ws rm mc ms n) (hp : PreV s H C b Pc As)
    (hg : g.method = m) (hn : As.length = n) (hsize : g.locals.size = nL) (hstack : g.stack = As.reverse ++ .ref b :: rest) (hW : 2 * g.monitorRoom + (rest.map fun v => v.category).sum ≤ 8) (hdg : decode cc g.pc = .ok (.invokevirtual index, 3)) (hf : cells + mc ≤ R.cells ∧ slots + ms ≤ R.slots) :
    va_Run p l e R s m args below meth c H locs cells slots mc ms g rest (Qc (Value.ref b :: As).toArray) free := by
  obtain ⟨⟨hrc, hrs, hfr, hlo, hws, hcw⟩, hcode, hini, hy, hlen, hl, hin, hse⟩ := cw
  have hK : Back l R p e below s args y 3 8 (PreOf R mc ms Pc) (PostOf Qc mc ms free) := va_backW (hh := hh) (bytes := bytes) (maxL := maxL) (ret := ret) hM hp.1 hrc hrs hfr hlo hws hcw (fun a' U hW => word_at hW (Or.inl (by first | rfl | simp [Cond.onTables, Cond.keeps, Cond.steady])) hini)
  obtain ⟨hx, hb, hml, ho, -⟩ := S
  obtain ⟨-, ⟨cellB, hcB, hoB, hclB⟩, hPc⟩ := hp
  intro T hT X
  obtain ⟨v, vm₁, ⟨U', l2, c2, s2⟩, hW₁, X', ⟨g', mk, t, L, e1, e2, hq, h1, hL, h2, h3⟩, st⟩ := vx_callVW X hx (C := C) (hh := hh) (bytes := bytes) (maxL := maxL) (ret := ret) ho hl hin hse hcode hy hK (by rw [hT]; exact hcB) hoB hclB hg (hsize.trans hml.symm) (argsL := As) (rest := rest) (fun sig h => hn.trans (hlen sig h)) hstack hW (by rw [hb]; exact hdg)
    (fun vm₁ hW₁ => ⟨hf.1, hf.2, hPc (T.setVm vm₁) hT hW₁⟩)
  dsimp only [Pt.U, Pt.locs, Pt.cells, Pt.slots] at X' e1 e2 h1 h2 h3 st
  subst h1; subst h2; subst h3
  exact ⟨v, (T.setVm vm₁).calling g' mk (Value.ref b :: As).toArray, t, U', L, hT, X', hL, e1, e2, hq, st⟩
section
variable {y : MethodName} {bytes cc : ByteArray} {maxL nL mc ms n index : Nat} {ret : Option FieldType} {ws : List Cond} {rm : Room} {Pc : Array Value → State → Prop} {Qc : Array Value → State → Outcome → State → Prop} {XC : String → State → State → Prop} {free : Addr → Prop} {Ts : List Cond} {own C : String} {b : Addr} {As rest : List Value} {g : JFrame}
theorem vx_runVX {hh : List (Nat × Nat × Nat × Nat)} (S : CallFix p m c cc nL s args Ts own) (hM : vx_Met l y ws rm Pc Qc XC mc ms free) (cw : vx_CVW R s args own C index y bytes maxL ret hh ws rm mc ms n) (hp : PreV s H C b Pc As)
    (hg : g.method = m) (hn : As.length = n) (hsize : g.locals.size = nL) (hstack : g.stack = As.reverse ++ .ref b :: rest) (hW : 2 * g.monitorRoom + (rest.map fun v => v.category).sum ≤ 8) (hdg : decode cc g.pc = .ok (.invokevirtual index, 3)) (hf : cells + mc ≤ R.cells ∧ slots + ms ≤ R.slots) :
    vx_Run p l e R s m args below meth c H locs cells slots mc ms g rest (Qc (Value.ref b :: As).toArray) XC free := by
  obtain ⟨⟨hrc, hrs, hfr, hlo, hws, hcw⟩, hcode, hini, hy, hlen, hl, hin, hse⟩ := cw
  have hK : vx_Back l R p e below s args y 3 8 (PreOf R mc ms Pc) (PostOf Qc mc ms free) (vx_Post XC mc ms free) := vx_backW (hh := hh) (bytes := bytes) (maxL := maxL) (ret := ret) hM hp.1 hrc hrs hfr hlo hws hcw (fun a' U hW => word_at hW (Or.inl (by first | rfl | simp [Cond.onTables, Cond.keeps, Cond.steady])) hini)
  obtain ⟨hx, hb, hml, ho, -⟩ := S
  obtain ⟨-, ⟨cellB, hcB, hoB, hclB⟩, hPc⟩ := hp
  intro T hT X
  rcases vx_callVX X hx (C := C) (hh := hh) (bytes := bytes) (maxL := maxL) (ret := ret) ho hl hin hse hcode hy hK (by rw [hT]; exact hcB) hoB hclB hg (hsize.trans hml.symm) (argsL := As) (rest := rest) (fun sig h => hn.trans (hlen sig h)) hstack hW (by rw [hb]; exact hdg)
    (fun vm₁ hW₁ => ⟨hf.1, hf.2, hPc (T.setVm vm₁) hT hW₁⟩) with ⟨v, vm₁, ⟨U', l2, c2, s2⟩, hW₁, X', ⟨g', mk, t, L, e1, e2, hq, h1, hL, h2, h3⟩, st⟩ | ⟨q, vm₁, ⟨U', l2, c2, s2⟩, hW₁, X', ⟨g', mk, t, L, E, ce, e1, e2, hq, hce, hcv, hcl, h1, hL, h2, h3⟩, st⟩
  · dsimp only [Pt.U, Pt.locs, Pt.cells, Pt.slots] at X' e1 e2 h1 h2 h3 st
    subst h1; subst h2; subst h3
    exact Or.inl ⟨v, (T.setVm vm₁).calling g' mk (Value.ref b :: As).toArray, t, U', L, hT, X', hL, e1, e2, hq, st⟩
  · dsimp only [Pt.U, Pt.locs, Pt.cells, Pt.slots] at X' e1 e2 h1 h2 h3 st hcl
    subst h1; subst h2; subst h3
    exact Or.inr ⟨q, (T.setVm vm₁).calling g' mk (Value.ref b :: As).toArray, t, U', L, E, ce, hT, X', hL, e1, e2, hq, hce, hcv, vx_cls hW₁ hcl, st⟩
theorem vx_runSX {hh : List (Nat × Nat × Nat × Nat)} (S : CallFix p m c cc nL s args Ts own) (hM : vx_Met l y ws rm Pc Qc XC mc ms free) (cw : vx_CSW R s args own index y bytes maxL ret hh ws rm mc ms n) (hp : PreS s H Pc As)
    (hg : g.method = m) (hn : As.length = n) (hsize : g.locals.size = nL) (hstack : g.stack = As.reverse ++ rest) (hW : 2 * g.monitorRoom + (rest.map fun v => v.category).sum ≤ 8) (hdg : decode cc g.pc = .ok (.invokestatic index, 3)) (hf : cells + mc ≤ R.cells ∧ slots + ms ≤ R.slots) :
    vx_Run p l e R s m args below meth c H locs cells slots mc ms g rest (Qc As.toArray) XC free := by
  obtain ⟨⟨hrc, hrs, hfr, hlo, hws, hcw⟩, hcode, hini, hy, hlen, hl, hstt⟩ := cw
  have hK : vx_Back l R p e below s args y 3 8 (PreOf R mc ms Pc) (PostOf Qc mc ms free) (vx_Post XC mc ms free) := vx_backW (hh := hh) (bytes := bytes) (maxL := maxL) (ret := ret) hM hp.1 hrc hrs hfr hlo hws hcw (fun a' U hW => word_at hW (Or.inl (by first | rfl | simp [Cond.onTables, Cond.keeps, Cond.steady])) hini)
  obtain ⟨hx, hb, hml, ho, -⟩ := S
  intro T hT X
  rcases vx_callSX X hx (hh := hh) (bytes := bytes) (maxL := maxL) (ret := ret) ho hl hstt hini hcode hy hK hg (hsize.trans hml.symm) (argsL := As) (rest := rest) (fun sig h => hn.trans (hlen sig h)) hstack hW (by rw [hb]; exact hdg)
    (fun vm₁ hW₁ => ⟨hf.1, hf.2, hp.2 (T.setVm vm₁) hT hW₁⟩) with ⟨v, vm₁, ⟨U', l2, c2, s2⟩, hW₁, X', ⟨g', mk, t, L, e1, e2, hq, h1, hL, h2, h3⟩, st⟩ | ⟨q, vm₁, ⟨U', l2, c2, s2⟩, hW₁, X', ⟨g', mk, t, L, E, ce, e1, e2, hq, hce, hcv, hcl, h1, hL, h2, h3⟩, st⟩
  · dsimp only [Pt.U, Pt.locs, Pt.cells, Pt.slots] at X' e1 e2 h1 h2 h3 st
    subst h1; subst h2; subst h3
    exact Or.inl ⟨v, (T.setVm vm₁).calling g' mk As.toArray, t, U', L, hT, X', hL, e1, e2, hq, st⟩
  · dsimp only [Pt.U, Pt.locs, Pt.cells, Pt.slots] at X' e1 e2 h1 h2 h3 st hcl
    subst h1; subst h2; subst h3
    exact Or.inr ⟨q, (T.setVm vm₁).calling g' mk As.toArray, t, U', L, E, ce, hT, X', hL, e1, e2, hq, hce, hcv, vx_cls hW₁ hcl, st⟩
end
end VXH
theorem vx_ofWH {l : Launch} {y : MethodName} {ws ws' : List Cond} {rm : Room} {Pc : Array Value → State → Prop} {Qc : Array Value → State → Outcome → State → Prop} {XC : String → State → State → Prop} {mc ms : Nat} {free : Addr → Prop} {cc : ByteArray} {maxL : Nat} {ret : Option FieldType} {hh : List (Nat × Nat × Nat × Nat)}
    (hy : plainName y.cls = true) (hw : ws = Cond.codeWith y cc maxL ret hh :: ws')
    (body : ∀ p e s m args below meth c s₁, BodyLoose p l y (headSpec ws rm) cc maxL ret e s m args below meth c s₁ → c.maxLocals = maxL → Pc args s →
      W p l e (headSpec ws rm).room s m args below meth c s.heap [] 0 0 (vx_MQ below Qc XC args s mc ms free) (entryFrame m args maxL)) : vx_Met l y ws rm Pc Qc XC mc ms free := by
  refine MetFree.of_bodyS (code := cc) (maxLocals := maxL) (ret := ret) hy ?_ ?_
  · intro args s m h hn
    obtain ⟨m9, meth, c, hn9, h1, h2, h3, h4, -, h5, h6, -⟩ := Cond.codeWith_spec (atoms_spec (ws := ws) h _ (by rw [hw]; exact List.mem_cons_self))
    cases hn.symm.trans hn9
    exact ⟨meth, c, h1, h2, h3, h4, h5, h6⟩
  · intro p e s m args below meth c s₁ B hml hP _
    have hh0 : s₁.heap = s.heap := by rw [B.state]; rfl
    obtain ⟨t, a1, o, b1, b2, b3⟩ := body p e s m args below meth c s₁ B hml hP s₁ hh0 (Stand.of_body B)
    exact ⟨t, o, a1, b1, b2, b3⟩
end
section
/-- where the cells of the small machine lie -/
def mm_ad (N0 : Nat) (sp : Nat → Nat) (a : Nat) : Nat := if a < 100 then sp a else N0 + (a - 100)
def mm_tr (ad : Nat → Nat) : Value → Value
  | .ref a => .ref (ad a)
  | v => v
theorem mm_tr_cat (ad : Nat → Nat) (v : Value) : (mm_tr ad v).category = v.category := by cases v <;> rfl
theorem mm_tr_sum (ad : Nat → Nat) (l : List Value) : ((l.map (mm_tr ad)).map fun v => v.category).sum = (l.map fun v => v.category).sum := by
  rw [List.map_map]
  congr 1
  exact List.map_congr_left (fun v _ => mm_tr_cat ad v)
theorem mm_tr_rf (ad : Nat → Nat) (r : Option Nat) : mm_tr ad (va_rf r) = va_rf (r.map ad) := by cases r <;> rfl
def mm_fc (fI : Nat → Int32) (fL : Nat → Int64) (fR : Nat → Option Nat) (ad : Nat → Nat) (k ty : Nat) : Value := if ty = 1 then .long (fL k) else if ty = 2 then va_rf ((fR k).map ad) else .int (fI k)
/-- a cell as the kit has it -/
def mm_cc (fI : Nat → Int32) (fL : Nat → Int64) (fR : Nat → Option Nat) (ad : Nat → Nat) (cA : Nat → ClassId) (s : Nat × Nat) : va_E :=
  if s.1 < 20 then .inr (s.1, (mm_ft s.1).mapIdx (fun k ty => mm_fc fI fL fR ad k ty))
  else if s.1 = 21 then .inl (cA 21, s.2, .inr (.inl fL))
  else if 24 ≤ s.1 then .inl (cA s.1, s.2, .inr (.inr (.inr (.inr (fun j => (fR j).map ad)))))
  else .inl (cA s.1, s.2, .inl fI)
def mm_ws (m : mm_M) (ad : Nat → Nat) (cA : Nat → ClassId) : va_W := m.1.mapIdx (fun i s => (ad (100 + i), mm_cc (m.2.2.1 (100 + i)) (m.2.2.2.1 (100 + i)) (m.2.2.2.2 (100 + i)) ad cA s))
def mm_cel (m : mm_M) (ad : Nat → Nat) (cA : Nat → ClassId) (a : Nat) (s : Nat × Nat) : va_E := mm_cc (m.2.2.1 a) (m.2.2.2.1 a) (m.2.2.2.2 a) ad cA s
theorem mm_sh_hi {m : mm_M} {a : Nat} {s : Nat × Nat} (h : mm_sh m a = some s) (ha : ¬ a = 0) (h30 : s.1 < 30) : 100 ≤ a ∧ m.1[a - 100]? = some s := by
  unfold mm_sh at h
  rw [if_neg ha] at h
  split at h
  · split at h
    · cases h; exact absurd h30 (by decide)
    · split at h
      · cases h; exact absurd h30 (show ¬ (31 : Nat) < 30 by decide)
      · cases h
  · exact ⟨by omega, h⟩
theorem mm_sh_ob {m : mm_M} {a : Nat} {s : Nat × Nat} (h : mm_sh m a = some s) (hs : ¬ s.1 = 20) (h30 : s.1 < 30) : 100 ≤ a ∧ m.1[a - 100]? = some s := by
  refine mm_sh_hi h (fun e => ?_) h30
  subst e
  unfold mm_sh at h
  rw [if_pos rfl] at h
  cases h
  exact hs rfl
theorem mm_ws_get {m : mm_M} {ad : Nat → Nat} {cA : Nat → ClassId} {a : Nat} {s : Nat × Nat} (ha : 100 ≤ a) (h : m.1[a - 100]? = some s) : (mm_ws m ad cA)[a - 100]? = some (ad a, mm_cel m ad cA a s) := by
  unfold mm_ws
  rw [List.getElem?_mapIdx, h, Option.map_some, show 100 + (a - 100) = a by omega]
  rfl
theorem mm_ws_at {m : mm_M} {ad : Nat → Nat} {cA : Nat → ClassId} {i : Nat} {q : Nat × va_E} (h : (mm_ws m ad cA)[i]? = some q) : q.1 = ad (100 + i) := by
  unfold mm_ws at h
  rw [List.getElem?_mapIdx] at h
  cases hs : m.1[i]? with
  | none => rw [hs] at h; cases h
  | some s => rw [hs] at h; cases h; rfl
theorem mm_ws_D (m : mm_M) (N0 : Nat) (sp : Nat → Nat) (cA : Nat → ClassId) : va_D (fun q => N0 ≤ q) (mm_ws m (mm_ad N0 sp) cA) := by
  have key : ∀ (i : Nat) (q : Nat × va_E), (mm_ws m (mm_ad N0 sp) cA)[i]? = some q → q.1 = N0 + i := fun i q h => by
    rw [mm_ws_at h]
    unfold mm_ad
    rw [if_neg (by omega)]
    omega
  refine ⟨fun i j x y hi hj hxy => ?_, fun k q hk => ?_⟩
  · have h1 := key i x hi
    have h2 := key j y hj
    omega
  · show N0 ≤ q.1
    rw [key k q hk]
    omega
theorem mm_ws_set {m m' : mm_M} {ad : Nat → Nat} {cA : Nat → ClassId} {a : Nat} {s : Nat × Nat} {e : va_E} (ha : 100 ≤ a) (hs : m.1[a - 100]? = some s) (h1 : m'.1 = m.1) (he : e = mm_cel m' ad cA a s)
    (ho : ∀ b : Nat, b ≠ a → m'.2.2.1 b = m.2.2.1 b ∧ m'.2.2.2.1 b = m.2.2.2.1 b ∧ m'.2.2.2.2 b = m.2.2.2.2 b) : (mm_ws m ad cA).set (a - 100) (ad a, e) = mm_ws m' ad cA := by
  apply List.ext_getElem?
  intro i
  have hl : a - 100 < (mm_ws m ad cA).length := (List.getElem?_eq_some_iff.mp (mm_ws_get (ad := ad) (cA := cA) ha hs)).1
  by_cases hi : a - 100 = i
  · subst hi
    rw [List.getElem?_set_self hl, mm_ws_get (m := m') ha (by rw [h1]; exact hs), he]
  · rw [List.getElem?_set_ne hi]
    unfold mm_ws
    rw [List.getElem?_mapIdx, List.getElem?_mapIdx, h1]
    obtain ⟨g1, g2, g3⟩ := ho (100 + i) (by omega)
    rw [g1, g2, g3]
theorem mm_u_ne {α : Type} {f : Nat → Nat → α} {a k b : Nat} {v : α} (h : b ≠ a) : mm_u f a k v b = f b := by
  funext j
  unfold mm_u
  rw [if_neg (fun q => h q.1)]
theorem mm_u_eq {α : Type} {f : Nat → Nat → α} {a k : Nat} {v : α} : mm_u f a k v a = fun j => if j = k then v else f a j := by
  funext j
  unfold mm_u
  by_cases h : j = k
  · rw [if_pos ⟨rfl, h⟩, if_pos h]
  · rw [if_neg (fun q => h q.2), if_neg h]
def mm_tys (cA : Nat → ClassId) : List (ClassId × FieldType) := [(cA 20, .int), (cA 21, .long), (cA 22, .boolean), (cA 23, .char), (cA 24, .object "SamePassers$Hands"), (cA 25, .object "SamePassers$Papers"), (cA 26, .object "SamePassers$Walker"), (cA 27, .array .int)]
def mm_g : List Cond := lw_tbl.filter goodWord
theorem mm_g_in {w : Cond} (h : w ∈ lw_tbl) (hg : goodWord w = true) : w ∈ mm_g := List.mem_filter.mpr ⟨h, hg⟩
theorem mm_g_ok : GoodIn lw_tbl mm_g := fun w h => ⟨(List.mem_filter.mp h).1, good_of_word (List.mem_filter.mp h).2⟩
theorem mm_g_self : GoodIn mm_g mm_g := fun w h => ⟨h, good_of_word (List.mem_filter.mp h).2⟩
/-- the words of a throw that are not good at any time -/
def mm_xw : List Cond := (vx_atS "SamePassers" 312 "java/util/NoSuchElementException" ["java/lang/RuntimeException", "java/lang/Exception"]).filter (fun w => !goodWord w)
def mm_xk (w : Cond) : Bool := match w with
  | .declares _ => true
  | .castable _ _ => true
  | _ => false
theorem mm_xw_k : mm_xw.all mm_xk = true := by decide +kernel
theorem mm_xw_in : ∀ w ∈ mm_xw, w ∈ lw_tbl := by decide +kernel
theorem mm_xw_warm {w : Cond} {s U : State} (hk : mm_xk w = true) (hW : s.WarmedH U.vm) (h : va_Nw w s) : va_Nw w U := by
  unfold mm_xk at hk
  split at hk
  · exact va_Nw.warmD hW h
  · exact va_Nw.warmC hW h
  · cases hk
/-- what the tables say beyond the words that are good at any time -/
def mm_At (D : va_G) (cA : Nat → ClassId) (sp : Nat → Nat) (U : State) : Prop := va_K D vwCl (mm_tys cA) U ∧ (∀ x ∈ mm_nl, va_Nw (mm_nl_c x) U) ∧ va_AO "SamePassers$Hands" U ∧ va_AO "SamePassers$Papers" U ∧ va_AO "SamePassers$Walker" U ∧ (∀ x ∈ mm_ks, ∃ tx : String, vk_R (mm_cn x.1) x.2.1 tx (sp x.2.2) U) ∧ (Cond.arrayOver (.array .int)).before #[] U = true ∧ (∀ w ∈ mm_xw, va_Nw w U)
theorem mm_At.warm {D : va_G} {cA : Nat → ClassId} {sp : Nat → Nat} {s U : State} (hW : s.WarmedH U.vm) (h : mm_At D cA sp s) : mm_At D cA sp U := by
  obtain ⟨h1, h2, h3, h4, h5, h6, h7, h8⟩ := h
  exact ⟨h1.moved hW.alike, fun x hx => va_Nw.warmM hW (h2 x hx), h3.moved hW.alike, h4.moved hW.alike, h5.moved hW.alike, fun x hx => by
    obtain ⟨tx, ht⟩ := h6 x hx
    exact ⟨tx, ht.warm hW⟩, Jvm.Stand.arrayOver_alikeB hW.alike h7, fun w hw => mm_xw_warm (List.all_eq_true.mp mm_xw_k w hw) hW (h8 w hw)⟩
def mm_sln : List Nat := [149, 5, 3, 4, 6, 8]
def mm_sby : List (List Int32) := [(mm_str 1).map nI, (mm_str 2).map nI, (mm_str 3).map nI, (mm_str 4).map nI, (mm_str 5).map nI, (mm_str 6).map nI]
/-- the heap holds the memory -/
def mm_Hp (D : va_G) (cA : Nat → ClassId) (N0 : Nat) (sp : Nat → Nat) (m : mm_M) (U : State) (H : Heap) : Prop :=
  va_P D vwCl (mm_ws m (mm_ad N0 sp) cA) H ∧ va_X (sp 0) m.2.1.2 (m.2.2.1 0) U H ∧ sp 0 < N0 ∧ vk_S 6 mm_sln mm_sby (fun i => sp (i + 1)) (fun i => sp (50 + i)) (fun x => N0 ≤ x) U H ∧ va_Z "java/lang/String" "COMPACT_STRINGS" "Z" (.int 1) (fun x => N0 ≤ x) U H ∧ va_Z "jdk/internal/util/Preconditions" "SIOOBE_FORMATTER" "Ljava/util/function/BiFunction;" (va_rf ((m.2.2.2.2 99 0).map (mm_ad N0 sp))) (fun x => N0 ≤ x) U H ∧ vx_Zq Jvm.Bundle.tN "UNASSIGNED_STACK" Jvm.Bundle.steD (fun x => N0 ≤ x) U H ∧ vx_Zq Jvm.Bundle.tN "SUPPRESSED_SENTINEL" Jvm.Bundle.listD (fun x => N0 ≤ x) U H
theorem mm_Hp.moved {D : va_G} {cA : Nat → ClassId} {N0 : Nat} {sp : Nat → Nat} {m : mm_M} {u U : State} {H : Heap} (hvm : u.vm.Alike U.vm) (h : mm_Hp D cA N0 sp m u H) : mm_Hp D cA N0 sp m U H :=
  ⟨h.1, h.2.1.moved hvm, h.2.2.1, h.2.2.2.1.moved hvm, h.2.2.2.2.1.moved hvm, h.2.2.2.2.2.1.moved hvm, vx_Zq.moved hvm h.2.2.2.2.2.2.1, vx_Zq.moved hvm h.2.2.2.2.2.2.2⟩
/-- another heap, the old cells being as they were -/
theorem mm_Hp.to {D : va_G} {cA : Nat → ClassId} {N0 : Nat} {sp : Nat → Nat} {m m' : mm_M} {s : State} {H H1 : Heap} {locs locs1 : List Loc} (h : mm_Hp D cA N0 sp m s H) (hN : N0 ≤ s.heap.size) (hS : va_S (fun x => N0 ≤ x) s.heap H locs) (hS1 : va_S (fun x => N0 ≤ x) s.heap H1 locs1)
    (hP : va_P D vwCl (mm_ws m' (mm_ad N0 sp) cA) H1) (h1 : m'.2.1 = m.2.1) (h2 : m'.2.2.1 0 = m.2.2.1 0) (h3 : m'.2.2.2.2 99 = m.2.2.2.2 99) : mm_Hp D cA N0 sp m' s H1 := by
  have old : ∀ q : Nat, q < N0 → H1[q]? = H[q]? := fun q hq => (hS1.2.1 q (by omega) (by omega)).trans (hS.2.1 q (by omega) (by omega)).symm
  refine ⟨hP, ?_, h.2.2.1, h.2.2.2.1.kept (fun a _ h4 => old a (by omega)), h.2.2.2.2.1.kept (fun a _ h4 => old a (by omega)), ?_, vx_Zq.kept h.2.2.2.2.2.2.1 (fun a _ h4 => old a (by omega)), vx_Zq.kept h.2.2.2.2.2.2.2 (fun a _ h4 => old a (by omega))⟩
  · rw [h1, h2]
    exact h.2.1.kept (old _ h.2.2.1)
  · rw [h3]
    exact h.2.2.2.2.2.1.kept (fun a _ h4 => old a (by omega))
/-- the locals hold L -/
def mm_as (ad : Nat → Nat) (L : mm_L) : List (Nat × Value) := L.zipIdx.filterMap (fun q => q.1.map (fun v => (q.2, mm_tr ad v)))
theorem mm_as_mem {ad : Nat → Nat} {L : mm_L} {q : Nat × Value} : q ∈ mm_as ad L ↔ ∃ v, L[q.1]? = some (some v) ∧ q.2 = mm_tr ad v := by
  unfold mm_as
  rw [List.mem_filterMap]
  constructor
  · rintro ⟨⟨x, i⟩, hx, h⟩
    rw [List.mem_zipIdx_iff_getElem?] at hx
    cases x with
    | none => cases h
    | some v =>
      cases h
      exact ⟨v, hx, rfl⟩
  · rintro ⟨v, h1, h2⟩
    refine ⟨(some v, q.1), List.mem_zipIdx_iff_getElem?.mpr h1, ?_⟩
    obtain ⟨i, w⟩ := q
    dsimp only at h2
    subst h2
    rfl
def mm_LS (ad : Nat → Nat) (nL : Nat) (ls : Array Slot) (L : mm_L) : Prop := L.length = nL ∧ lv_has ls nL (mm_as ad L)
theorem mm_LS.at {ad : Nat → Nat} {nL : Nat} {ls : Array Slot} {L : mm_L} (h : mm_LS ad nL ls L) {i : Nat} {v : Value} (hv : L[i]? = some (some v)) : ls[i]? = some (.val (mm_tr ad v)) := h.2.2.2 (i, mm_tr ad v) (mm_as_mem.mpr ⟨v, hv, rfl⟩)
theorem mm_kl_len (L : mm_L) (i : Nat) : (mm_kl L i).length = L.length := by
  cases i with
  | zero => rfl
  | succ i =>
    simp only [mm_kl]
    split
    · split
      · exact List.length_set
      · rfl
    · rfl
theorem mm_kl_at {L : mm_L} {i j : Nat} {v : Value} (h : (mm_kl L i)[j]? = some (some v)) : L[j]? = some (some v) ∧ ¬ (j + 1 = i ∧ v.category = 2) := by
  cases i with
  | zero => exact ⟨h, fun q => by omega⟩
  | succ i =>
    simp only [mm_kl] at h
    split at h
    · next w hw =>
      split at h
      · next hc =>
        by_cases hij : i = j
        · subst hij
          rw [List.getElem?_set_self (List.getElem?_eq_some_iff.mp hw).1] at h
          cases h
        · rw [List.getElem?_set_ne hij] at h
          exact ⟨h, fun q => hij (by omega)⟩
      · next hc =>
        refine ⟨h, fun q => ?_⟩
        have e : j = i := by omega
        subst e
        rw [hw] at h
        cases h
        exact hc q.2
    · next hw =>
      refine ⟨h, fun q => ?_⟩
      have e : j = i := by omega
      subst e
      exact hw v h
theorem mm_s1_LS {ad : Nat → Nat} {nL : Nat} {ls' : Array Slot} {L : mm_L} {i : Nat} {v : Value} (hL : L.length = nL) (hi : i < nL) (h : lv_has ls' nL ((i, mm_tr ad v) :: (mm_as ad L).filter (fun q => !(q.1 == i) && !(q.1 + 1 == i && q.2.category == 2)))) : mm_LS ad nL ls' (mm_s1 L i v) := by
  refine ⟨by unfold mm_s1; rw [List.length_set, mm_kl_len]; exact hL, h.1, h.2.1, fun q hq => ?_⟩
  obtain ⟨w, h1, h2⟩ := mm_as_mem.mp hq
  apply h.2.2
  unfold mm_s1 at h1
  by_cases hqi : i = q.1
  · rw [← hqi, List.getElem?_set_self (by rw [mm_kl_len]; omega)] at h1
    cases h1
    obtain ⟨q1, q2⟩ := q
    dsimp only at hqi h2
    subst hqi; subst h2
    exact List.mem_cons_self
  · rw [List.getElem?_set_ne hqi] at h1
    obtain ⟨g1, g2⟩ := mm_kl_at h1
    refine List.mem_cons_of_mem _ (List.mem_filter.mpr ⟨mm_as_mem.mpr ⟨w, g1, h2⟩, ?_⟩)
    rw [h2, mm_tr_cat]
    simp only [Bool.and_eq_true, Bool.not_eq_true', beq_eq_false_iff_ne, Bool.and_eq_false_iff, ne_eq]
    refine ⟨fun z => hqi z.symm, ?_⟩
    by_cases hz : q.1 + 1 = i
    · exact Or.inr (fun z => g2 ⟨hz, z⟩)
    · exact Or.inl hz
theorem mm_s2_LS {ad : Nat → Nat} {nL : Nat} {ls' : Array Slot} {L : mm_L} {i : Nat} {v : Value} (hL : L.length = nL) (hi : i + 1 < nL) (h : lv_has ls' nL ((i, mm_tr ad v) :: (mm_as ad L).filter (fun q => !(q.1 == i) && (!(q.1 == i + 1) && !(q.1 + 1 == i && q.2.category == 2))))) : mm_LS ad nL ls' (mm_s2 L i v) := by
  refine ⟨by unfold mm_s2; rw [List.length_set, List.length_set, mm_kl_len]; exact hL, h.1, h.2.1, fun q hq => ?_⟩
  obtain ⟨w, h1, h2⟩ := mm_as_mem.mp hq
  apply h.2.2
  unfold mm_s2 at h1
  by_cases hq1 : i + 1 = q.1
  · rw [← hq1, List.getElem?_set_self (by rw [List.length_set, mm_kl_len]; omega)] at h1
    cases h1
  · rw [List.getElem?_set_ne hq1] at h1
    by_cases hqi : i = q.1
    · rw [← hqi, List.getElem?_set_self (by rw [mm_kl_len]; omega)] at h1
      cases h1
      obtain ⟨q1, q2⟩ := q
      dsimp only at hqi h2
      subst hqi; subst h2
      exact List.mem_cons_self
    · rw [List.getElem?_set_ne hqi] at h1
      obtain ⟨g1, g2⟩ := mm_kl_at h1
      refine List.mem_cons_of_mem _ (List.mem_filter.mpr ⟨mm_as_mem.mpr ⟨w, g1, h2⟩, ?_⟩)
      rw [h2, mm_tr_cat]
      simp only [Bool.and_eq_true, Bool.not_eq_true', beq_eq_false_iff_ne, Bool.and_eq_false_iff, ne_eq]
      refine ⟨fun z => hqi z.symm, fun z => hq1 z.symm, ?_⟩
      by_cases hz : q.1 + 1 = i
      · exact Or.inr (fun z => g2 ⟨hz, z⟩)
      · exact Or.inl hz
/-- how many cells, and slots, there are -/
def mm_nc (m : mm_M) : Nat := m.1.length + m.2.1.1
def mm_sz (s : Nat × Nat) : Nat := if s.1 < 20 then (mm_ft s.1).length else s.2
def mm_ns (m : mm_M) : Nat := (m.1.map mm_sz).sum + 100 * m.2.1.1
end
section
section SO
variable {p : Program} {l : Launch} {e : Env} {R : Room} {s : State} {mid : MethodId} {args : Array Value} {below : List Frame} {meth : Method} {c : Code} {Q : State → Prop} {D : va_G} {cA : Nat → ClassId} {N0 : Nat} {sp : Nat → Nat} {j nb sb : Nat}
/-- what holds all along a method's run -/
def mm_Cx (p : Program) (s : State) (mid : MethodId) (args : Array Value) (meth : Method) (c : Code) (R : Room) (j : Nat) (D : va_G) (cA : Nat → ClassId) (N0 : Nat) (sp : Nat → Nat) (nb : Nat) : Prop :=
  p.tables.exec = Jvm.exec ∧ c.code = mm_b j ∧ c.maxLocals = mm_mx j ∧ s.vm.findClass (mm_cn (mm_ow j)) = some mid.cls ∧ (∀ w ∈ mm_g, w.before args s = true) ∧ meth.name = (mm_y j).name ∧ mm_At D cA sp s ∧ (1 ≤ R.frames ∧ 100 ≤ R.locals) ∧ N0 ≤ s.heap.size ∧ s.heap.size ≤ N0 + nb
/-- the goal behind a step -/
def mm_KK (p : Program) (l : Launch) (e : Env) (R : Room) (s : State) (mid : MethodId) (args : Array Value) (below : List Frame) (meth : Method) (c : Code) (Q : State → Prop) (D : va_G) (cA : Nat → ClassId) (N0 : Nat) (sp : Nat → Nat) (j nb sb : Nat) (q : Nat × mm_L × List Value × mm_M) : Prop :=
  ∀ (H' : Heap) (locs' : List Loc) (ls' : Array Slot) (cells' slots' : Nat), mm_Hp D cA N0 sp q.2.2.2 s H' → va_S (fun x => N0 ≤ x) s.heap H' locs' → mm_LS (mm_ad N0 sp) (mm_mx j) ls' q.2.1 → mm_nc q.2.2.2 = nb + cells' → mm_ns q.2.2.2 = sb + slots' →
    W p l e R s mid args below meth c H' locs' cells' slots' Q (F0 mid q.1 ls' (q.2.2.1.map (mm_tr (mm_ad N0 sp))))
variable {H : Heap} {locs : List Loc} {cells slots pc : Nat} {ls : Array Slot} {L : mm_L} {S : List Value} {m : mm_M} {q : Nat × mm_L × List Value × mm_M}
theorem so_iconst {n : Int} (C : mm_Cx p s mid args meth c R j D cA N0 sp nb) (hd : decode (mm_b j) pc = .ok (.iconst n, 1)) (hst : mm_nx (pc + 1) L (.int (Int32.ofInt n) :: S) m = some (.inl q)) (hH : mm_Hp D cA N0 sp m s H) (hS : va_S (fun x => N0 ≤ x) s.heap H locs) (hL : mm_LS (mm_ad N0 sp) (mm_mx j) ls L) (hc : mm_nc m = nb + cells) (hsl : mm_ns m = sb + slots) (kk : mm_KK p l e R s mid args below meth c Q D cA N0 sp j nb sb q) : W p l e R s mid args below meth c H locs cells slots Q (F0 mid pc ls (S.map (mm_tr (mm_ad N0 sp)))) := by
  obtain ⟨hx, hb, hml, hown, hts, hnm, hAt, hR, hN, hz⟩ := C
  cases hst
  refine lv_iconst hx hb hd rfl ?_
  exact kk _ _ _ _ _ hH hS hL hc hsl
theorem so_bipush {n : Int} (C : mm_Cx p s mid args meth c R j D cA N0 sp nb) (hd : decode (mm_b j) pc = .ok (.bipush n, 2)) (hst : mm_nx (pc + 2) L (.int (Int8.ofInt n).toInt32 :: S) m = some (.inl q)) (hH : mm_Hp D cA N0 sp m s H) (hS : va_S (fun x => N0 ≤ x) s.heap H locs) (hL : mm_LS (mm_ad N0 sp) (mm_mx j) ls L) (hc : mm_nc m = nb + cells) (hsl : mm_ns m = sb + slots) (kk : mm_KK p l e R s mid args below meth c Q D cA N0 sp j nb sb q) : W p l e R s mid args below meth c H locs cells slots Q (F0 mid pc ls (S.map (mm_tr (mm_ad N0 sp)))) := by
  obtain ⟨hx, hb, hml, hown, hts, hnm, hAt, hR, hN, hz⟩ := C
  cases hst
  refine lv_bipush hx hb hd rfl ?_
  exact kk _ _ _ _ _ hH hS hL hc hsl
theorem so_sipush {n : Int} (C : mm_Cx p s mid args meth c R j D cA N0 sp nb) (hd : decode (mm_b j) pc = .ok (.sipush n, 3)) (hst : mm_nx (pc + 3) L (.int (Int16.ofInt n).toInt32 :: S) m = some (.inl q)) (hH : mm_Hp D cA N0 sp m s H) (hS : va_S (fun x => N0 ≤ x) s.heap H locs) (hL : mm_LS (mm_ad N0 sp) (mm_mx j) ls L) (hc : mm_nc m = nb + cells) (hsl : mm_ns m = sb + slots) (kk : mm_KK p l e R s mid args below meth c Q D cA N0 sp j nb sb q) : W p l e R s mid args below meth c H locs cells slots Q (F0 mid pc ls (S.map (mm_tr (mm_ad N0 sp)))) := by
  obtain ⟨hx, hb, hml, hown, hts, hnm, hAt, hR, hN, hz⟩ := C
  cases hst
  refine lv_sipush hx hb hd rfl ?_
  exact kk _ _ _ _ _ hH hS hL hc hsl
theorem so_lconst {n : Fin 2} (C : mm_Cx p s mid args meth c R j D cA N0 sp nb) (hd : decode (mm_b j) pc = .ok (.lconst n, 1)) (hst : mm_nx (pc + 1) L (.long (Int64.ofNat (n : Nat)) :: S) m = some (.inl q)) (hH : mm_Hp D cA N0 sp m s H) (hS : va_S (fun x => N0 ≤ x) s.heap H locs) (hL : mm_LS (mm_ad N0 sp) (mm_mx j) ls L) (hc : mm_nc m = nb + cells) (hsl : mm_ns m = sb + slots) (kk : mm_KK p l e R s mid args below meth c Q D cA N0 sp j nb sb q) : W p l e R s mid args below meth c H locs cells slots Q (F0 mid pc ls (S.map (mm_tr (mm_ad N0 sp)))) := by
  obtain ⟨hx, hb, hml, hown, hts, hnm, hAt, hR, hN, hz⟩ := C
  cases hst
  refine lv_lconst hx hb hd rfl ?_
  exact kk _ _ _ _ _ hH hS hL hc hsl
theorem so_iload_n {k : Fin 4} (C : mm_Cx p s mid args meth c R j D cA N0 sp nb) (hd : decode (mm_b j) pc = .ok (.iload_n k, 1)) (hst : mm_ldI k (pc + 1) L S m = some (.inl q)) (hH : mm_Hp D cA N0 sp m s H) (hS : va_S (fun x => N0 ≤ x) s.heap H locs) (hL : mm_LS (mm_ad N0 sp) (mm_mx j) ls L) (hc : mm_nc m = nb + cells) (hsl : mm_ns m = sb + slots) (kk : mm_KK p l e R s mid args below meth c Q D cA N0 sp j nb sb q) : W p l e R s mid args below meth c H locs cells slots Q (F0 mid pc ls (S.map (mm_tr (mm_ad N0 sp)))) := by
  obtain ⟨hx, hb, hml, hown, hts, hnm, hAt, hR, hN, hz⟩ := C
  unfold mm_ldI at hst
  split at hst
  · next x hx2 =>
    cases hst
    refine lv_iload_n hx hb hd rfl (hL.at hx2) ?_
    exact kk _ _ _ _ _ hH hS hL hc hsl
  · cases hst
theorem so_istore_n {k : Fin 4} (C : mm_Cx p s mid args meth c R j D cA N0 sp nb) (hd : decode (mm_b j) pc = .ok (.istore_n k, 1)) (hst : mm_stI k (pc + 1) L S m = some (.inl q)) (hH : mm_Hp D cA N0 sp m s H) (hS : va_S (fun x => N0 ≤ x) s.heap H locs) (hL : mm_LS (mm_ad N0 sp) (mm_mx j) ls L) (hc : mm_nc m = nb + cells) (hsl : mm_ns m = sb + slots) (kk : mm_KK p l e R s mid args below meth c Q D cA N0 sp j nb sb q) : W p l e R s mid args below meth c H locs cells slots Q (F0 mid pc ls (S.map (mm_tr (mm_ad N0 sp)))) := by
  obtain ⟨hx, hb, hml, hown, hts, hnm, hAt, hR, hN, hz⟩ := C
  unfold mm_stI at hst
  split at hst
  · next x r =>
    split at hst
    · next hi =>
      cases hst
      rw [hL.1] at hi
      refine lv_istore_n hx hb hd rfl hL.2 hi rfl (fun ls2 h2 => ?_)
      exact kk _ _ ls2 _ _ hH hS (mm_s1_LS hL.1 hi h2) hc hsl
    · cases hst
  · cases hst
theorem so_iload {k : Nat} (C : mm_Cx p s mid args meth c R j D cA N0 sp nb) (hd : decode (mm_b j) pc = .ok (.iload k, 2)) (hst : mm_ldI k (pc + 2) L S m = some (.inl q)) (hH : mm_Hp D cA N0 sp m s H) (hS : va_S (fun x => N0 ≤ x) s.heap H locs) (hL : mm_LS (mm_ad N0 sp) (mm_mx j) ls L) (hc : mm_nc m = nb + cells) (hsl : mm_ns m = sb + slots) (kk : mm_KK p l e R s mid args below meth c Q D cA N0 sp j nb sb q) : W p l e R s mid args below meth c H locs cells slots Q (F0 mid pc ls (S.map (mm_tr (mm_ad N0 sp)))) := by
  obtain ⟨hx, hb, hml, hown, hts, hnm, hAt, hR, hN, hz⟩ := C
  unfold mm_ldI at hst
  split at hst
  · next x hx2 =>
    cases hst
    refine lv_iload hx hb hd (hL.at hx2) ?_
    exact kk _ _ _ _ _ hH hS hL hc hsl
  · cases hst
theorem so_istore {k : Nat} (C : mm_Cx p s mid args meth c R j D cA N0 sp nb) (hd : decode (mm_b j) pc = .ok (.istore k, 2)) (hst : mm_stI k (pc + 2) L S m = some (.inl q)) (hH : mm_Hp D cA N0 sp m s H) (hS : va_S (fun x => N0 ≤ x) s.heap H locs) (hL : mm_LS (mm_ad N0 sp) (mm_mx j) ls L) (hc : mm_nc m = nb + cells) (hsl : mm_ns m = sb + slots) (kk : mm_KK p l e R s mid args below meth c Q D cA N0 sp j nb sb q) : W p l e R s mid args below meth c H locs cells slots Q (F0 mid pc ls (S.map (mm_tr (mm_ad N0 sp)))) := by
  obtain ⟨hx, hb, hml, hown, hts, hnm, hAt, hR, hN, hz⟩ := C
  unfold mm_stI at hst
  split at hst
  · next x r =>
    split at hst
    · next hi =>
      cases hst
      rw [hL.1] at hi
      refine lv_istore hx hb hd hL.2 hi rfl (fun ls2 h2 => ?_)
      exact kk _ _ ls2 _ _ hH hS (mm_s1_LS hL.1 hi h2) hc hsl
    · cases hst
  · cases hst
theorem so_lload_n {k : Fin 4} (C : mm_Cx p s mid args meth c R j D cA N0 sp nb) (hd : decode (mm_b j) pc = .ok (.lload_n k, 1)) (hst : mm_ldL k (pc + 1) L S m = some (.inl q)) (hH : mm_Hp D cA N0 sp m s H) (hS : va_S (fun x => N0 ≤ x) s.heap H locs) (hL : mm_LS (mm_ad N0 sp) (mm_mx j) ls L) (hc : mm_nc m = nb + cells) (hsl : mm_ns m = sb + slots) (kk : mm_KK p l e R s mid args below meth c Q D cA N0 sp j nb sb q) : W p l e R s mid args below meth c H locs cells slots Q (F0 mid pc ls (S.map (mm_tr (mm_ad N0 sp)))) := by
  obtain ⟨hx, hb, hml, hown, hts, hnm, hAt, hR, hN, hz⟩ := C
  unfold mm_ldL at hst
  split at hst
  · next x hx2 =>
    cases hst
    refine lv_lload_n hx hb hd rfl (hL.at hx2) ?_
    exact kk _ _ _ _ _ hH hS hL hc hsl
  · cases hst
theorem so_lstore_n {k : Fin 4} (C : mm_Cx p s mid args meth c R j D cA N0 sp nb) (hd : decode (mm_b j) pc = .ok (.lstore_n k, 1)) (hst : mm_stL k (pc + 1) L S m = some (.inl q)) (hH : mm_Hp D cA N0 sp m s H) (hS : va_S (fun x => N0 ≤ x) s.heap H locs) (hL : mm_LS (mm_ad N0 sp) (mm_mx j) ls L) (hc : mm_nc m = nb + cells) (hsl : mm_ns m = sb + slots) (kk : mm_KK p l e R s mid args below meth c Q D cA N0 sp j nb sb q) : W p l e R s mid args below meth c H locs cells slots Q (F0 mid pc ls (S.map (mm_tr (mm_ad N0 sp)))) := by
  obtain ⟨hx, hb, hml, hown, hts, hnm, hAt, hR, hN, hz⟩ := C
  unfold mm_stL at hst
  split at hst
  · next x r =>
    split at hst
    · next hi =>
      cases hst
      rw [hL.1] at hi
      refine lv_lstore_n hx hb hd rfl hL.2 hi rfl (fun ls2 h2 => ?_)
      exact kk _ _ ls2 _ _ hH hS (mm_s2_LS hL.1 hi h2) hc hsl
    · cases hst
  · cases hst
theorem so_lload {k : Nat} (C : mm_Cx p s mid args meth c R j D cA N0 sp nb) (hd : decode (mm_b j) pc = .ok (.lload k, 2)) (hst : mm_ldL k (pc + 2) L S m = some (.inl q)) (hH : mm_Hp D cA N0 sp m s H) (hS : va_S (fun x => N0 ≤ x) s.heap H locs) (hL : mm_LS (mm_ad N0 sp) (mm_mx j) ls L) (hc : mm_nc m = nb + cells) (hsl : mm_ns m = sb + slots) (kk : mm_KK p l e R s mid args below meth c Q D cA N0 sp j nb sb q) : W p l e R s mid args below meth c H locs cells slots Q (F0 mid pc ls (S.map (mm_tr (mm_ad N0 sp)))) := by
  obtain ⟨hx, hb, hml, hown, hts, hnm, hAt, hR, hN, hz⟩ := C
  unfold mm_ldL at hst
  split at hst
  · next x hx2 =>
    cases hst
    refine lv_lload hx hb hd (hL.at hx2) ?_
    exact kk _ _ _ _ _ hH hS hL hc hsl
  · cases hst
theorem so_lstore {k : Nat} (C : mm_Cx p s mid args meth c R j D cA N0 sp nb) (hd : decode (mm_b j) pc = .ok (.lstore k, 2)) (hst : mm_stL k (pc + 2) L S m = some (.inl q)) (hH : mm_Hp D cA N0 sp m s H) (hS : va_S (fun x => N0 ≤ x) s.heap H locs) (hL : mm_LS (mm_ad N0 sp) (mm_mx j) ls L) (hc : mm_nc m = nb + cells) (hsl : mm_ns m = sb + slots) (kk : mm_KK p l e R s mid args below meth c Q D cA N0 sp j nb sb q) : W p l e R s mid args below meth c H locs cells slots Q (F0 mid pc ls (S.map (mm_tr (mm_ad N0 sp)))) := by
  obtain ⟨hx, hb, hml, hown, hts, hnm, hAt, hR, hN, hz⟩ := C
  unfold mm_stL at hst
  split at hst
  · next x r =>
    split at hst
    · next hi =>
      cases hst
      rw [hL.1] at hi
      refine lv_lstore hx hb hd hL.2 hi rfl (fun ls2 h2 => ?_)
      exact kk _ _ ls2 _ _ hH hS (mm_s2_LS hL.1 hi h2) hc hsl
    · cases hst
  · cases hst
theorem so_aload_n {k : Fin 4} (C : mm_Cx p s mid args meth c R j D cA N0 sp nb) (hd : decode (mm_b j) pc = .ok (.aload_n k, 1)) (hst : mm_ldR k (pc + 1) L S m = some (.inl q)) (hH : mm_Hp D cA N0 sp m s H) (hS : va_S (fun x => N0 ≤ x) s.heap H locs) (hL : mm_LS (mm_ad N0 sp) (mm_mx j) ls L) (hc : mm_nc m = nb + cells) (hsl : mm_ns m = sb + slots) (kk : mm_KK p l e R s mid args below meth c Q D cA N0 sp j nb sb q) : W p l e R s mid args below meth c H locs cells slots Q (F0 mid pc ls (S.map (mm_tr (mm_ad N0 sp)))) := by
  obtain ⟨hx, hb, hml, hown, hts, hnm, hAt, hR, hN, hz⟩ := C
  unfold mm_ldR at hst
  split at hst
  · next x hx2 =>
    cases hst
    refine lv_aload_n hx hb hd rfl (hL.at hx2) ?_
    exact kk _ _ _ _ _ hH hS hL hc hsl
  · cases hst
theorem so_astore_n {k : Fin 4} (C : mm_Cx p s mid args meth c R j D cA N0 sp nb) (hd : decode (mm_b j) pc = .ok (.astore_n k, 1)) (hst : mm_stR k (pc + 1) L S m = some (.inl q)) (hH : mm_Hp D cA N0 sp m s H) (hS : va_S (fun x => N0 ≤ x) s.heap H locs) (hL : mm_LS (mm_ad N0 sp) (mm_mx j) ls L) (hc : mm_nc m = nb + cells) (hsl : mm_ns m = sb + slots) (kk : mm_KK p l e R s mid args below meth c Q D cA N0 sp j nb sb q) : W p l e R s mid args below meth c H locs cells slots Q (F0 mid pc ls (S.map (mm_tr (mm_ad N0 sp)))) := by
  obtain ⟨hx, hb, hml, hown, hts, hnm, hAt, hR, hN, hz⟩ := C
  unfold mm_stR at hst
  split at hst
  · next x r =>
    split at hst
    · next hi =>
      cases hst
      rw [hL.1] at hi
      refine lv_astore_n hx hb hd rfl hL.2 hi rfl (fun ls2 h2 => ?_)
      exact kk _ _ ls2 _ _ hH hS (mm_s1_LS hL.1 hi h2) hc hsl
    · cases hst
  · cases hst
theorem so_aload {k : Nat} (C : mm_Cx p s mid args meth c R j D cA N0 sp nb) (hd : decode (mm_b j) pc = .ok (.aload k, 2)) (hst : mm_ldR k (pc + 2) L S m = some (.inl q)) (hH : mm_Hp D cA N0 sp m s H) (hS : va_S (fun x => N0 ≤ x) s.heap H locs) (hL : mm_LS (mm_ad N0 sp) (mm_mx j) ls L) (hc : mm_nc m = nb + cells) (hsl : mm_ns m = sb + slots) (kk : mm_KK p l e R s mid args below meth c Q D cA N0 sp j nb sb q) : W p l e R s mid args below meth c H locs cells slots Q (F0 mid pc ls (S.map (mm_tr (mm_ad N0 sp)))) := by
  obtain ⟨hx, hb, hml, hown, hts, hnm, hAt, hR, hN, hz⟩ := C
  unfold mm_ldR at hst
  split at hst
  · next x hx2 =>
    cases hst
    refine lv_aload hx hb hd (hL.at hx2) ?_
    exact kk _ _ _ _ _ hH hS hL hc hsl
  · cases hst
theorem so_astore {k : Nat} (C : mm_Cx p s mid args meth c R j D cA N0 sp nb) (hd : decode (mm_b j) pc = .ok (.astore k, 2)) (hst : mm_stR k (pc + 2) L S m = some (.inl q)) (hH : mm_Hp D cA N0 sp m s H) (hS : va_S (fun x => N0 ≤ x) s.heap H locs) (hL : mm_LS (mm_ad N0 sp) (mm_mx j) ls L) (hc : mm_nc m = nb + cells) (hsl : mm_ns m = sb + slots) (kk : mm_KK p l e R s mid args below meth c Q D cA N0 sp j nb sb q) : W p l e R s mid args below meth c H locs cells slots Q (F0 mid pc ls (S.map (mm_tr (mm_ad N0 sp)))) := by
  obtain ⟨hx, hb, hml, hown, hts, hnm, hAt, hR, hN, hz⟩ := C
  unfold mm_stR at hst
  split at hst
  · next x r =>
    split at hst
    · next hi =>
      cases hst
      rw [hL.1] at hi
      refine lv_astore hx hb hd hL.2 hi rfl (fun ls2 h2 => ?_)
      exact kk _ _ ls2 _ _ hH hS (mm_s1_LS hL.1 hi h2) hc hsl
    · cases hst
  · cases hst
theorem so_iinc {i : Nat} {n : Int} (C : mm_Cx p s mid args meth c R j D cA N0 sp nb) (hd : decode (mm_b j) pc = .ok (.iinc i n, 3)) (hst : mm_inc i n (pc + 3) L S m = some (.inl q)) (hH : mm_Hp D cA N0 sp m s H) (hS : va_S (fun x => N0 ≤ x) s.heap H locs) (hL : mm_LS (mm_ad N0 sp) (mm_mx j) ls L) (hc : mm_nc m = nb + cells) (hsl : mm_ns m = sb + slots) (kk : mm_KK p l e R s mid args below meth c Q D cA N0 sp j nb sb q) : W p l e R s mid args below meth c H locs cells slots Q (F0 mid pc ls (S.map (mm_tr (mm_ad N0 sp)))) := by
  obtain ⟨hx, hb, hml, hown, hts, hnm, hAt, hR, hN, hz⟩ := C
  unfold mm_inc at hst
  split at hst
  · next x hx2 =>
    split at hst
    · next hi =>
      cases hst
      rw [hL.1] at hi
      obtain ⟨k, hk⟩ := List.getElem?_of_mem (mm_as_mem.mpr ⟨.int x, hx2, rfl⟩ : (i, mm_tr (mm_ad N0 sp) (.int x)) ∈ mm_as (mm_ad N0 sp) L)
      refine lv_iinc (k := k) (x := x) hx hb hd hL.2 hk rfl hi rfl (fun ls2 h2 => ?_)
      exact kk _ _ ls2 _ _ hH hS (mm_s1_LS (v := .int (x + Int32.ofInt n)) hL.1 hi h2) hc hsl
    · cases hst
  · cases hst
theorem so_iadd (C : mm_Cx p s mid args meth c R j D cA N0 sp nb) (hd : decode (mm_b j) pc = .ok (.iadd, 1)) (hst : mm_bI (fun x y => x + y) (pc + 1) L S m = some (.inl q)) (hH : mm_Hp D cA N0 sp m s H) (hS : va_S (fun x => N0 ≤ x) s.heap H locs) (hL : mm_LS (mm_ad N0 sp) (mm_mx j) ls L) (hc : mm_nc m = nb + cells) (hsl : mm_ns m = sb + slots) (kk : mm_KK p l e R s mid args below meth c Q D cA N0 sp j nb sb q) : W p l e R s mid args below meth c H locs cells slots Q (F0 mid pc ls (S.map (mm_tr (mm_ad N0 sp)))) := by
  obtain ⟨hx, hb, hml, hown, hts, hnm, hAt, hR, hN, hz⟩ := C
  unfold mm_bI at hst
  split at hst
  · next y x r =>
    cases hst
    refine lv_iadd hx hb hd ?_
    exact kk _ _ _ _ _ hH hS hL hc hsl
  · cases hst
theorem so_isub (C : mm_Cx p s mid args meth c R j D cA N0 sp nb) (hd : decode (mm_b j) pc = .ok (.isub, 1)) (hst : mm_bI (fun x y => x - y) (pc + 1) L S m = some (.inl q)) (hH : mm_Hp D cA N0 sp m s H) (hS : va_S (fun x => N0 ≤ x) s.heap H locs) (hL : mm_LS (mm_ad N0 sp) (mm_mx j) ls L) (hc : mm_nc m = nb + cells) (hsl : mm_ns m = sb + slots) (kk : mm_KK p l e R s mid args below meth c Q D cA N0 sp j nb sb q) : W p l e R s mid args below meth c H locs cells slots Q (F0 mid pc ls (S.map (mm_tr (mm_ad N0 sp)))) := by
  obtain ⟨hx, hb, hml, hown, hts, hnm, hAt, hR, hN, hz⟩ := C
  unfold mm_bI at hst
  split at hst
  · next y x r =>
    cases hst
    refine lv_isub hx hb hd ?_
    exact kk _ _ _ _ _ hH hS hL hc hsl
  · cases hst
theorem so_imul (C : mm_Cx p s mid args meth c R j D cA N0 sp nb) (hd : decode (mm_b j) pc = .ok (.imul, 1)) (hst : mm_bI (fun x y => x * y) (pc + 1) L S m = some (.inl q)) (hH : mm_Hp D cA N0 sp m s H) (hS : va_S (fun x => N0 ≤ x) s.heap H locs) (hL : mm_LS (mm_ad N0 sp) (mm_mx j) ls L) (hc : mm_nc m = nb + cells) (hsl : mm_ns m = sb + slots) (kk : mm_KK p l e R s mid args below meth c Q D cA N0 sp j nb sb q) : W p l e R s mid args below meth c H locs cells slots Q (F0 mid pc ls (S.map (mm_tr (mm_ad N0 sp)))) := by
  obtain ⟨hx, hb, hml, hown, hts, hnm, hAt, hR, hN, hz⟩ := C
  unfold mm_bI at hst
  split at hst
  · next y x r =>
    cases hst
    refine lv_imul hx hb hd ?_
    exact kk _ _ _ _ _ hH hS hL hc hsl
  · cases hst
theorem so_iand (C : mm_Cx p s mid args meth c R j D cA N0 sp nb) (hd : decode (mm_b j) pc = .ok (.iand, 1)) (hst : mm_bI (fun x y => x &&& y) (pc + 1) L S m = some (.inl q)) (hH : mm_Hp D cA N0 sp m s H) (hS : va_S (fun x => N0 ≤ x) s.heap H locs) (hL : mm_LS (mm_ad N0 sp) (mm_mx j) ls L) (hc : mm_nc m = nb + cells) (hsl : mm_ns m = sb + slots) (kk : mm_KK p l e R s mid args below meth c Q D cA N0 sp j nb sb q) : W p l e R s mid args below meth c H locs cells slots Q (F0 mid pc ls (S.map (mm_tr (mm_ad N0 sp)))) := by
  obtain ⟨hx, hb, hml, hown, hts, hnm, hAt, hR, hN, hz⟩ := C
  unfold mm_bI at hst
  split at hst
  · next y x r =>
    cases hst
    refine lv_iand hx hb hd ?_
    exact kk _ _ _ _ _ hH hS hL hc hsl
  · cases hst
theorem so_ior (C : mm_Cx p s mid args meth c R j D cA N0 sp nb) (hd : decode (mm_b j) pc = .ok (.ior, 1)) (hst : mm_bI (fun x y => x ||| y) (pc + 1) L S m = some (.inl q)) (hH : mm_Hp D cA N0 sp m s H) (hS : va_S (fun x => N0 ≤ x) s.heap H locs) (hL : mm_LS (mm_ad N0 sp) (mm_mx j) ls L) (hc : mm_nc m = nb + cells) (hsl : mm_ns m = sb + slots) (kk : mm_KK p l e R s mid args below meth c Q D cA N0 sp j nb sb q) : W p l e R s mid args below meth c H locs cells slots Q (F0 mid pc ls (S.map (mm_tr (mm_ad N0 sp)))) := by
  obtain ⟨hx, hb, hml, hown, hts, hnm, hAt, hR, hN, hz⟩ := C
  unfold mm_bI at hst
  split at hst
  · next y x r =>
    cases hst
    refine lv_ior hx hb hd ?_
    exact kk _ _ _ _ _ hH hS hL hc hsl
  · cases hst
theorem so_ixor (C : mm_Cx p s mid args meth c R j D cA N0 sp nb) (hd : decode (mm_b j) pc = .ok (.ixor, 1)) (hst : mm_bI (fun x y => x ^^^ y) (pc + 1) L S m = some (.inl q)) (hH : mm_Hp D cA N0 sp m s H) (hS : va_S (fun x => N0 ≤ x) s.heap H locs) (hL : mm_LS (mm_ad N0 sp) (mm_mx j) ls L) (hc : mm_nc m = nb + cells) (hsl : mm_ns m = sb + slots) (kk : mm_KK p l e R s mid args below meth c Q D cA N0 sp j nb sb q) : W p l e R s mid args below meth c H locs cells slots Q (F0 mid pc ls (S.map (mm_tr (mm_ad N0 sp)))) := by
  obtain ⟨hx, hb, hml, hown, hts, hnm, hAt, hR, hN, hz⟩ := C
  unfold mm_bI at hst
  split at hst
  · next y x r =>
    cases hst
    refine lv_ixor hx hb hd ?_
    exact kk _ _ _ _ _ hH hS hL hc hsl
  · cases hst
theorem so_ishl (C : mm_Cx p s mid args meth c R j D cA N0 sp nb) (hd : decode (mm_b j) pc = .ok (.ishl, 1)) (hst : mm_bI (fun x y => x <<< (y &&& 31)) (pc + 1) L S m = some (.inl q)) (hH : mm_Hp D cA N0 sp m s H) (hS : va_S (fun x => N0 ≤ x) s.heap H locs) (hL : mm_LS (mm_ad N0 sp) (mm_mx j) ls L) (hc : mm_nc m = nb + cells) (hsl : mm_ns m = sb + slots) (kk : mm_KK p l e R s mid args below meth c Q D cA N0 sp j nb sb q) : W p l e R s mid args below meth c H locs cells slots Q (F0 mid pc ls (S.map (mm_tr (mm_ad N0 sp)))) := by
  obtain ⟨hx, hb, hml, hown, hts, hnm, hAt, hR, hN, hz⟩ := C
  unfold mm_bI at hst
  split at hst
  · next y x r =>
    cases hst
    refine lv_ishl hx hb hd ?_
    exact kk _ _ _ _ _ hH hS hL hc hsl
  · cases hst
theorem so_ishr (C : mm_Cx p s mid args meth c R j D cA N0 sp nb) (hd : decode (mm_b j) pc = .ok (.ishr, 1)) (hst : mm_bI (fun x y => x >>> (y &&& 31)) (pc + 1) L S m = some (.inl q)) (hH : mm_Hp D cA N0 sp m s H) (hS : va_S (fun x => N0 ≤ x) s.heap H locs) (hL : mm_LS (mm_ad N0 sp) (mm_mx j) ls L) (hc : mm_nc m = nb + cells) (hsl : mm_ns m = sb + slots) (kk : mm_KK p l e R s mid args below meth c Q D cA N0 sp j nb sb q) : W p l e R s mid args below meth c H locs cells slots Q (F0 mid pc ls (S.map (mm_tr (mm_ad N0 sp)))) := by
  obtain ⟨hx, hb, hml, hown, hts, hnm, hAt, hR, hN, hz⟩ := C
  unfold mm_bI at hst
  split at hst
  · next y x r =>
    cases hst
    refine lv_ishr hx hb hd ?_
    exact kk _ _ _ _ _ hH hS hL hc hsl
  · cases hst
theorem so_iushr (C : mm_Cx p s mid args meth c R j D cA N0 sp nb) (hd : decode (mm_b j) pc = .ok (.iushr, 1)) (hst : mm_bI (fun x y => (x.toUInt32 >>> (y.toUInt32 &&& Int32.toUInt32 31)).toInt32) (pc + 1) L S m = some (.inl q)) (hH : mm_Hp D cA N0 sp m s H) (hS : va_S (fun x => N0 ≤ x) s.heap H locs) (hL : mm_LS (mm_ad N0 sp) (mm_mx j) ls L) (hc : mm_nc m = nb + cells) (hsl : mm_ns m = sb + slots) (kk : mm_KK p l e R s mid args below meth c Q D cA N0 sp j nb sb q) : W p l e R s mid args below meth c H locs cells slots Q (F0 mid pc ls (S.map (mm_tr (mm_ad N0 sp)))) := by
  obtain ⟨hx, hb, hml, hown, hts, hnm, hAt, hR, hN, hz⟩ := C
  unfold mm_bI at hst
  split at hst
  · next y x r =>
    cases hst
    refine lv_iushr hx hb hd rfl ?_
    exact kk _ _ _ _ _ hH hS hL hc hsl
  · cases hst
theorem so_idiv (C : mm_Cx p s mid args meth c R j D cA N0 sp nb) (hd : decode (mm_b j) pc = .ok (.idiv, 1)) (hst : mm_dI (fun x y => x / y) (pc + 1) L S m = some (.inl q)) (hH : mm_Hp D cA N0 sp m s H) (hS : va_S (fun x => N0 ≤ x) s.heap H locs) (hL : mm_LS (mm_ad N0 sp) (mm_mx j) ls L) (hc : mm_nc m = nb + cells) (hsl : mm_ns m = sb + slots) (kk : mm_KK p l e R s mid args below meth c Q D cA N0 sp j nb sb q) : W p l e R s mid args below meth c H locs cells slots Q (F0 mid pc ls (S.map (mm_tr (mm_ad N0 sp)))) := by
  obtain ⟨hx, hb, hml, hown, hts, hnm, hAt, hR, hN, hz⟩ := C
  unfold mm_dI at hst
  split at hst
  · next y x r =>
    split at hst
    · cases hst
    · next hne =>
      cases hst
      refine lv_idiv hx hb hd hne ?_
      exact kk _ _ _ _ _ hH hS hL hc hsl
  · cases hst
theorem so_irem (C : mm_Cx p s mid args meth c R j D cA N0 sp nb) (hd : decode (mm_b j) pc = .ok (.irem, 1)) (hst : mm_dI (fun x y => x - x / y * y) (pc + 1) L S m = some (.inl q)) (hH : mm_Hp D cA N0 sp m s H) (hS : va_S (fun x => N0 ≤ x) s.heap H locs) (hL : mm_LS (mm_ad N0 sp) (mm_mx j) ls L) (hc : mm_nc m = nb + cells) (hsl : mm_ns m = sb + slots) (kk : mm_KK p l e R s mid args below meth c Q D cA N0 sp j nb sb q) : W p l e R s mid args below meth c H locs cells slots Q (F0 mid pc ls (S.map (mm_tr (mm_ad N0 sp)))) := by
  obtain ⟨hx, hb, hml, hown, hts, hnm, hAt, hR, hN, hz⟩ := C
  unfold mm_dI at hst
  split at hst
  · next y x r =>
    split at hst
    · cases hst
    · next hne =>
      cases hst
      refine lv_irem hx hb hd hne ?_
      exact kk _ _ _ _ _ hH hS hL hc hsl
  · cases hst
theorem so_ladd (C : mm_Cx p s mid args meth c R j D cA N0 sp nb) (hd : decode (mm_b j) pc = .ok (.ladd, 1)) (hst : mm_bL (fun x y => x + y) (pc + 1) L S m = some (.inl q)) (hH : mm_Hp D cA N0 sp m s H) (hS : va_S (fun x => N0 ≤ x) s.heap H locs) (hL : mm_LS (mm_ad N0 sp) (mm_mx j) ls L) (hc : mm_nc m = nb + cells) (hsl : mm_ns m = sb + slots) (kk : mm_KK p l e R s mid args below meth c Q D cA N0 sp j nb sb q) : W p l e R s mid args below meth c H locs cells slots Q (F0 mid pc ls (S.map (mm_tr (mm_ad N0 sp)))) := by
  obtain ⟨hx, hb, hml, hown, hts, hnm, hAt, hR, hN, hz⟩ := C
  unfold mm_bL at hst
  split at hst
  · next y x r =>
    cases hst
    refine lv_ladd hx hb hd ?_
    exact kk _ _ _ _ _ hH hS hL hc hsl
  · cases hst
theorem so_lsub (C : mm_Cx p s mid args meth c R j D cA N0 sp nb) (hd : decode (mm_b j) pc = .ok (.lsub, 1)) (hst : mm_bL (fun x y => x - y) (pc + 1) L S m = some (.inl q)) (hH : mm_Hp D cA N0 sp m s H) (hS : va_S (fun x => N0 ≤ x) s.heap H locs) (hL : mm_LS (mm_ad N0 sp) (mm_mx j) ls L) (hc : mm_nc m = nb + cells) (hsl : mm_ns m = sb + slots) (kk : mm_KK p l e R s mid args below meth c Q D cA N0 sp j nb sb q) : W p l e R s mid args below meth c H locs cells slots Q (F0 mid pc ls (S.map (mm_tr (mm_ad N0 sp)))) := by
  obtain ⟨hx, hb, hml, hown, hts, hnm, hAt, hR, hN, hz⟩ := C
  unfold mm_bL at hst
  split at hst
  · next y x r =>
    cases hst
    refine lv_lsub hx hb hd ?_
    exact kk _ _ _ _ _ hH hS hL hc hsl
  · cases hst
theorem so_lmul (C : mm_Cx p s mid args meth c R j D cA N0 sp nb) (hd : decode (mm_b j) pc = .ok (.lmul, 1)) (hst : mm_bL (fun x y => x * y) (pc + 1) L S m = some (.inl q)) (hH : mm_Hp D cA N0 sp m s H) (hS : va_S (fun x => N0 ≤ x) s.heap H locs) (hL : mm_LS (mm_ad N0 sp) (mm_mx j) ls L) (hc : mm_nc m = nb + cells) (hsl : mm_ns m = sb + slots) (kk : mm_KK p l e R s mid args below meth c Q D cA N0 sp j nb sb q) : W p l e R s mid args below meth c H locs cells slots Q (F0 mid pc ls (S.map (mm_tr (mm_ad N0 sp)))) := by
  obtain ⟨hx, hb, hml, hown, hts, hnm, hAt, hR, hN, hz⟩ := C
  unfold mm_bL at hst
  split at hst
  · next y x r =>
    cases hst
    refine lv_lmul hx hb hd ?_
    exact kk _ _ _ _ _ hH hS hL hc hsl
  · cases hst
theorem so_land (C : mm_Cx p s mid args meth c R j D cA N0 sp nb) (hd : decode (mm_b j) pc = .ok (.land, 1)) (hst : mm_bL (fun x y => x &&& y) (pc + 1) L S m = some (.inl q)) (hH : mm_Hp D cA N0 sp m s H) (hS : va_S (fun x => N0 ≤ x) s.heap H locs) (hL : mm_LS (mm_ad N0 sp) (mm_mx j) ls L) (hc : mm_nc m = nb + cells) (hsl : mm_ns m = sb + slots) (kk : mm_KK p l e R s mid args below meth c Q D cA N0 sp j nb sb q) : W p l e R s mid args below meth c H locs cells slots Q (F0 mid pc ls (S.map (mm_tr (mm_ad N0 sp)))) := by
  obtain ⟨hx, hb, hml, hown, hts, hnm, hAt, hR, hN, hz⟩ := C
  unfold mm_bL at hst
  split at hst
  · next y x r =>
    cases hst
    refine lv_land hx hb hd ?_
    exact kk _ _ _ _ _ hH hS hL hc hsl
  · cases hst
theorem so_lor (C : mm_Cx p s mid args meth c R j D cA N0 sp nb) (hd : decode (mm_b j) pc = .ok (.lor, 1)) (hst : mm_bL (fun x y => x ||| y) (pc + 1) L S m = some (.inl q)) (hH : mm_Hp D cA N0 sp m s H) (hS : va_S (fun x => N0 ≤ x) s.heap H locs) (hL : mm_LS (mm_ad N0 sp) (mm_mx j) ls L) (hc : mm_nc m = nb + cells) (hsl : mm_ns m = sb + slots) (kk : mm_KK p l e R s mid args below meth c Q D cA N0 sp j nb sb q) : W p l e R s mid args below meth c H locs cells slots Q (F0 mid pc ls (S.map (mm_tr (mm_ad N0 sp)))) := by
  obtain ⟨hx, hb, hml, hown, hts, hnm, hAt, hR, hN, hz⟩ := C
  unfold mm_bL at hst
  split at hst
  · next y x r =>
    cases hst
    refine lv_lor hx hb hd ?_
    exact kk _ _ _ _ _ hH hS hL hc hsl
  · cases hst
theorem so_ldiv (C : mm_Cx p s mid args meth c R j D cA N0 sp nb) (hd : decode (mm_b j) pc = .ok (.ldiv, 1)) (hst : mm_dL (fun x y => x / y) (pc + 1) L S m = some (.inl q)) (hH : mm_Hp D cA N0 sp m s H) (hS : va_S (fun x => N0 ≤ x) s.heap H locs) (hL : mm_LS (mm_ad N0 sp) (mm_mx j) ls L) (hc : mm_nc m = nb + cells) (hsl : mm_ns m = sb + slots) (kk : mm_KK p l e R s mid args below meth c Q D cA N0 sp j nb sb q) : W p l e R s mid args below meth c H locs cells slots Q (F0 mid pc ls (S.map (mm_tr (mm_ad N0 sp)))) := by
  obtain ⟨hx, hb, hml, hown, hts, hnm, hAt, hR, hN, hz⟩ := C
  unfold mm_dL at hst
  split at hst
  · next y x r =>
    split at hst
    · cases hst
    · next hne =>
      cases hst
      refine lv_ldiv hx hb hd hne ?_
      exact kk _ _ _ _ _ hH hS hL hc hsl
  · cases hst
theorem so_lrem (C : mm_Cx p s mid args meth c R j D cA N0 sp nb) (hd : decode (mm_b j) pc = .ok (.lrem, 1)) (hst : mm_dL (fun x y => x - x / y * y) (pc + 1) L S m = some (.inl q)) (hH : mm_Hp D cA N0 sp m s H) (hS : va_S (fun x => N0 ≤ x) s.heap H locs) (hL : mm_LS (mm_ad N0 sp) (mm_mx j) ls L) (hc : mm_nc m = nb + cells) (hsl : mm_ns m = sb + slots) (kk : mm_KK p l e R s mid args below meth c Q D cA N0 sp j nb sb q) : W p l e R s mid args below meth c H locs cells slots Q (F0 mid pc ls (S.map (mm_tr (mm_ad N0 sp)))) := by
  obtain ⟨hx, hb, hml, hown, hts, hnm, hAt, hR, hN, hz⟩ := C
  unfold mm_dL at hst
  split at hst
  · next y x r =>
    split at hst
    · cases hst
    · next hne =>
      cases hst
      refine lv_lrem hx hb hd hne ?_
      exact kk _ _ _ _ _ hH hS hL hc hsl
  · cases hst
theorem so_lshl (C : mm_Cx p s mid args meth c R j D cA N0 sp nb) (hd : decode (mm_b j) pc = .ok (.lshl, 1)) (hst : mm_hL (fun x y => x <<< (y.toInt64 &&& 63)) (pc + 1) L S m = some (.inl q)) (hH : mm_Hp D cA N0 sp m s H) (hS : va_S (fun x => N0 ≤ x) s.heap H locs) (hL : mm_LS (mm_ad N0 sp) (mm_mx j) ls L) (hc : mm_nc m = nb + cells) (hsl : mm_ns m = sb + slots) (kk : mm_KK p l e R s mid args below meth c Q D cA N0 sp j nb sb q) : W p l e R s mid args below meth c H locs cells slots Q (F0 mid pc ls (S.map (mm_tr (mm_ad N0 sp)))) := by
  obtain ⟨hx, hb, hml, hown, hts, hnm, hAt, hR, hN, hz⟩ := C
  unfold mm_hL at hst
  split at hst
  · next y x r =>
    cases hst
    refine lv_lshl hx hb hd rfl ?_
    exact kk _ _ _ _ _ hH hS hL hc hsl
  · cases hst
theorem so_lshr (C : mm_Cx p s mid args meth c R j D cA N0 sp nb) (hd : decode (mm_b j) pc = .ok (.lshr, 1)) (hst : mm_hL (fun x y => x >>> (y.toInt64 &&& 63)) (pc + 1) L S m = some (.inl q)) (hH : mm_Hp D cA N0 sp m s H) (hS : va_S (fun x => N0 ≤ x) s.heap H locs) (hL : mm_LS (mm_ad N0 sp) (mm_mx j) ls L) (hc : mm_nc m = nb + cells) (hsl : mm_ns m = sb + slots) (kk : mm_KK p l e R s mid args below meth c Q D cA N0 sp j nb sb q) : W p l e R s mid args below meth c H locs cells slots Q (F0 mid pc ls (S.map (mm_tr (mm_ad N0 sp)))) := by
  obtain ⟨hx, hb, hml, hown, hts, hnm, hAt, hR, hN, hz⟩ := C
  unfold mm_hL at hst
  split at hst
  · next y x r =>
    cases hst
    refine lv_lshr hx hb hd rfl ?_
    exact kk _ _ _ _ _ hH hS hL hc hsl
  · cases hst
theorem so_lushr (C : mm_Cx p s mid args meth c R j D cA N0 sp nb) (hd : decode (mm_b j) pc = .ok (.lushr, 1)) (hst : mm_hL (fun x y => (x.toUInt64 >>> (y.toInt64.toUInt64 &&& Int64.toUInt64 63)).toInt64) (pc + 1) L S m = some (.inl q)) (hH : mm_Hp D cA N0 sp m s H) (hS : va_S (fun x => N0 ≤ x) s.heap H locs) (hL : mm_LS (mm_ad N0 sp) (mm_mx j) ls L) (hc : mm_nc m = nb + cells) (hsl : mm_ns m = sb + slots) (kk : mm_KK p l e R s mid args below meth c Q D cA N0 sp j nb sb q) : W p l e R s mid args below meth c H locs cells slots Q (F0 mid pc ls (S.map (mm_tr (mm_ad N0 sp)))) := by
  obtain ⟨hx, hb, hml, hown, hts, hnm, hAt, hR, hN, hz⟩ := C
  unfold mm_hL at hst
  split at hst
  · next y x r =>
    cases hst
    refine lv_lushr hx hb hd rfl ?_
    exact kk _ _ _ _ _ hH hS hL hc hsl
  · cases hst
theorem so_lcmp (C : mm_Cx p s mid args meth c R j D cA N0 sp nb) (hd : decode (mm_b j) pc = .ok (.lcmp, 1)) (hst : mm_cL (pc + 1) L S m = some (.inl q)) (hH : mm_Hp D cA N0 sp m s H) (hS : va_S (fun x => N0 ≤ x) s.heap H locs) (hL : mm_LS (mm_ad N0 sp) (mm_mx j) ls L) (hc : mm_nc m = nb + cells) (hsl : mm_ns m = sb + slots) (kk : mm_KK p l e R s mid args below meth c Q D cA N0 sp j nb sb q) : W p l e R s mid args below meth c H locs cells slots Q (F0 mid pc ls (S.map (mm_tr (mm_ad N0 sp)))) := by
  obtain ⟨hx, hb, hml, hown, hts, hnm, hAt, hR, hN, hz⟩ := C
  unfold mm_cL at hst
  split at hst
  · next y x r =>
    cases hst
    refine W.lcmp hx hb hd ?_
    exact kk _ _ _ _ _ hH hS hL hc hsl
  · cases hst
theorem so_ineg (C : mm_Cx p s mid args meth c R j D cA N0 sp nb) (hd : decode (mm_b j) pc = .ok (.ineg, 1)) (hst : mm_1I (fun x => .int (-x)) (pc + 1) L S m = some (.inl q)) (hH : mm_Hp D cA N0 sp m s H) (hS : va_S (fun x => N0 ≤ x) s.heap H locs) (hL : mm_LS (mm_ad N0 sp) (mm_mx j) ls L) (hc : mm_nc m = nb + cells) (hsl : mm_ns m = sb + slots) (kk : mm_KK p l e R s mid args below meth c Q D cA N0 sp j nb sb q) : W p l e R s mid args below meth c H locs cells slots Q (F0 mid pc ls (S.map (mm_tr (mm_ad N0 sp)))) := by
  obtain ⟨hx, hb, hml, hown, hts, hnm, hAt, hR, hN, hz⟩ := C
  unfold mm_1I at hst
  split at hst
  · next x r =>
    cases hst
    refine lv_ineg hx hb hd ?_
    exact kk _ _ _ _ _ hH hS hL hc hsl
  · cases hst
theorem so_i2l (C : mm_Cx p s mid args meth c R j D cA N0 sp nb) (hd : decode (mm_b j) pc = .ok (.i2l, 1)) (hst : mm_1I (fun x => .long x.toInt64) (pc + 1) L S m = some (.inl q)) (hH : mm_Hp D cA N0 sp m s H) (hS : va_S (fun x => N0 ≤ x) s.heap H locs) (hL : mm_LS (mm_ad N0 sp) (mm_mx j) ls L) (hc : mm_nc m = nb + cells) (hsl : mm_ns m = sb + slots) (kk : mm_KK p l e R s mid args below meth c Q D cA N0 sp j nb sb q) : W p l e R s mid args below meth c H locs cells slots Q (F0 mid pc ls (S.map (mm_tr (mm_ad N0 sp)))) := by
  obtain ⟨hx, hb, hml, hown, hts, hnm, hAt, hR, hN, hz⟩ := C
  unfold mm_1I at hst
  split at hst
  · next x r =>
    cases hst
    refine lv_i2l hx hb hd rfl ?_
    exact kk _ _ _ _ _ hH hS hL hc hsl
  · cases hst
theorem so_l2i (C : mm_Cx p s mid args meth c R j D cA N0 sp nb) (hd : decode (mm_b j) pc = .ok (.l2i, 1)) (hst : mm_1L (fun x => .int x.toInt32) (pc + 1) L S m = some (.inl q)) (hH : mm_Hp D cA N0 sp m s H) (hS : va_S (fun x => N0 ≤ x) s.heap H locs) (hL : mm_LS (mm_ad N0 sp) (mm_mx j) ls L) (hc : mm_nc m = nb + cells) (hsl : mm_ns m = sb + slots) (kk : mm_KK p l e R s mid args below meth c Q D cA N0 sp j nb sb q) : W p l e R s mid args below meth c H locs cells slots Q (F0 mid pc ls (S.map (mm_tr (mm_ad N0 sp)))) := by
  obtain ⟨hx, hb, hml, hown, hts, hnm, hAt, hR, hN, hz⟩ := C
  unfold mm_1L at hst
  split at hst
  · next x r =>
    cases hst
    refine lv_l2i hx hb hd rfl ?_
    exact kk _ _ _ _ _ hH hS hL hc hsl
  · cases hst
theorem so_i2b (C : mm_Cx p s mid args meth c R j D cA N0 sp nb) (hd : decode (mm_b j) pc = .ok (.i2b, 1)) (hst : mm_1I (fun x => .int x.toInt8.toInt32) (pc + 1) L S m = some (.inl q)) (hH : mm_Hp D cA N0 sp m s H) (hS : va_S (fun x => N0 ≤ x) s.heap H locs) (hL : mm_LS (mm_ad N0 sp) (mm_mx j) ls L) (hc : mm_nc m = nb + cells) (hsl : mm_ns m = sb + slots) (kk : mm_KK p l e R s mid args below meth c Q D cA N0 sp j nb sb q) : W p l e R s mid args below meth c H locs cells slots Q (F0 mid pc ls (S.map (mm_tr (mm_ad N0 sp)))) := by
  obtain ⟨hx, hb, hml, hown, hts, hnm, hAt, hR, hN, hz⟩ := C
  unfold mm_1I at hst
  split at hst
  · next x r =>
    cases hst
    refine lv_i2b hx hb hd rfl ?_
    exact kk _ _ _ _ _ hH hS hL hc hsl
  · cases hst
theorem so_i2c (C : mm_Cx p s mid args meth c R j D cA N0 sp nb) (hd : decode (mm_b j) pc = .ok (.i2c, 1)) (hst : mm_1I (fun x => .int (x.toUInt32 % 65536).toInt32) (pc + 1) L S m = some (.inl q)) (hH : mm_Hp D cA N0 sp m s H) (hS : va_S (fun x => N0 ≤ x) s.heap H locs) (hL : mm_LS (mm_ad N0 sp) (mm_mx j) ls L) (hc : mm_nc m = nb + cells) (hsl : mm_ns m = sb + slots) (kk : mm_KK p l e R s mid args below meth c Q D cA N0 sp j nb sb q) : W p l e R s mid args below meth c H locs cells slots Q (F0 mid pc ls (S.map (mm_tr (mm_ad N0 sp)))) := by
  obtain ⟨hx, hb, hml, hown, hts, hnm, hAt, hR, hN, hz⟩ := C
  unfold mm_1I at hst
  split at hst
  · next x r =>
    cases hst
    refine lv_i2c hx hb hd rfl ?_
    exact kk _ _ _ _ _ hH hS hL hc hsl
  · cases hst
theorem so_dup (C : mm_Cx p s mid args meth c R j D cA N0 sp nb) (hd : decode (mm_b j) pc = .ok (.dup, 1)) (hst : mm_dup (pc + 1) L S m = some (.inl q)) (hH : mm_Hp D cA N0 sp m s H) (hS : va_S (fun x => N0 ≤ x) s.heap H locs) (hL : mm_LS (mm_ad N0 sp) (mm_mx j) ls L) (hc : mm_nc m = nb + cells) (hsl : mm_ns m = sb + slots) (kk : mm_KK p l e R s mid args below meth c Q D cA N0 sp j nb sb q) : W p l e R s mid args below meth c H locs cells slots Q (F0 mid pc ls (S.map (mm_tr (mm_ad N0 sp)))) := by
  obtain ⟨hx, hb, hml, hown, hts, hnm, hAt, hR, hN, hz⟩ := C
  unfold mm_dup at hst
  split at hst
  · next v r =>
    split at hst
    · next hv =>
      cases hst
      refine lv_dup hx hb hd (by rw [mm_tr_cat]; exact hv) ?_
      exact kk _ _ _ _ _ hH hS hL hc hsl
    · cases hst
  · cases hst
theorem so_dup2 (C : mm_Cx p s mid args meth c R j D cA N0 sp nb) (hd : decode (mm_b j) pc = .ok (.dup2, 1)) (hst : mm_dup2 (pc + 1) L S m = some (.inl q)) (hH : mm_Hp D cA N0 sp m s H) (hS : va_S (fun x => N0 ≤ x) s.heap H locs) (hL : mm_LS (mm_ad N0 sp) (mm_mx j) ls L) (hc : mm_nc m = nb + cells) (hsl : mm_ns m = sb + slots) (kk : mm_KK p l e R s mid args below meth c Q D cA N0 sp j nb sb q) : W p l e R s mid args below meth c H locs cells slots Q (F0 mid pc ls (S.map (mm_tr (mm_ad N0 sp)))) := by
  obtain ⟨hx, hb, hml, hown, hts, hnm, hAt, hR, hN, hz⟩ := C
  unfold mm_dup2 at hst
  split at hst
  · next v w r =>
    split at hst
    · next hv =>
      cases hst
      refine lv_dup2_11 hx hb hd (by rw [mm_tr_cat]; exact hv.1) (by rw [mm_tr_cat]; exact hv.2) ?_
      exact kk _ _ _ _ _ hH hS hL hc hsl
    · cases hst
  · cases hst
theorem so_pop (C : mm_Cx p s mid args meth c R j D cA N0 sp nb) (hd : decode (mm_b j) pc = .ok (.pop, 1)) (hst : mm_pop (pc + 1) L S m = some (.inl q)) (hH : mm_Hp D cA N0 sp m s H) (hS : va_S (fun x => N0 ≤ x) s.heap H locs) (hL : mm_LS (mm_ad N0 sp) (mm_mx j) ls L) (hc : mm_nc m = nb + cells) (hsl : mm_ns m = sb + slots) (kk : mm_KK p l e R s mid args below meth c Q D cA N0 sp j nb sb q) : W p l e R s mid args below meth c H locs cells slots Q (F0 mid pc ls (S.map (mm_tr (mm_ad N0 sp)))) := by
  obtain ⟨hx, hb, hml, hown, hts, hnm, hAt, hR, hN, hz⟩ := C
  unfold mm_pop at hst
  split at hst
  · next v r =>
    split at hst
    · next hv =>
      cases hst
      refine lv_pop hx hb hd (by rw [mm_tr_cat]; exact hv) ?_
      exact kk _ _ _ _ _ hH hS hL hc hsl
    · cases hst
  · cases hst
theorem so_goto {off : Int} {t : Nat} (C : mm_Cx p s mid args meth c R j D cA N0 sp nb) (hd : decode (mm_b j) pc = .ok (.goto off, 3)) (ht : (pc : Int) + off = (t : Int)) (hst : mm_nx t L S m = some (.inl q)) (hH : mm_Hp D cA N0 sp m s H) (hS : va_S (fun x => N0 ≤ x) s.heap H locs) (hL : mm_LS (mm_ad N0 sp) (mm_mx j) ls L) (hc : mm_nc m = nb + cells) (hsl : mm_ns m = sb + slots) (kk : mm_KK p l e R s mid args below meth c Q D cA N0 sp j nb sb q) : W p l e R s mid args below meth c H locs cells slots Q (F0 mid pc ls (S.map (mm_tr (mm_ad N0 sp)))) := by
  obtain ⟨hx, hb, hml, hown, hts, hnm, hAt, hR, hN, hz⟩ := C
  cases hst
  refine lv_goto hx hb hd ht ?_
  exact kk _ _ _ _ _ hH hS hL hc hsl
theorem so_if_eq {off : Int} {t : Nat} (C : mm_Cx p s mid args meth c R j D cA N0 sp nb) (hd : decode (mm_b j) pc = .ok (.ifCond .eq off, 3)) (ht : (pc : Int) + off = (t : Int)) (hst : mm_if (fun x => mm_cd .eq x 0) t (pc + 3) L S m = some (.inl q)) (hH : mm_Hp D cA N0 sp m s H) (hS : va_S (fun x => N0 ≤ x) s.heap H locs) (hL : mm_LS (mm_ad N0 sp) (mm_mx j) ls L) (hc : mm_nc m = nb + cells) (hsl : mm_ns m = sb + slots) (kk : mm_KK p l e R s mid args below meth c Q D cA N0 sp j nb sb q) : W p l e R s mid args below meth c H locs cells slots Q (F0 mid pc ls (S.map (mm_tr (mm_ad N0 sp)))) := by
  obtain ⟨hx, hb, hml, hown, hts, hnm, hAt, hR, hN, hz⟩ := C
  unfold mm_if at hst
  split at hst
  · next x r =>
    refine lv_if_eq hx hb hd ht (fun h => ?_) (fun h => ?_)
    · simp only [mm_cd, decide_eq_true_eq] at hst
      rw [if_pos h] at hst
      cases hst
      exact kk _ _ _ _ _ hH hS hL hc hsl
    · simp only [mm_cd, decide_eq_true_eq] at hst
      rw [if_neg h] at hst
      cases hst
      exact kk _ _ _ _ _ hH hS hL hc hsl
  · cases hst
theorem so_icmp_eq {off : Int} {t : Nat} (C : mm_Cx p s mid args meth c R j D cA N0 sp nb) (hd : decode (mm_b j) pc = .ok (.if_icmp .eq off, 3)) (ht : (pc : Int) + off = (t : Int)) (hst : mm_ic (mm_cd .eq) t (pc + 3) L S m = some (.inl q)) (hH : mm_Hp D cA N0 sp m s H) (hS : va_S (fun x => N0 ≤ x) s.heap H locs) (hL : mm_LS (mm_ad N0 sp) (mm_mx j) ls L) (hc : mm_nc m = nb + cells) (hsl : mm_ns m = sb + slots) (kk : mm_KK p l e R s mid args below meth c Q D cA N0 sp j nb sb q) : W p l e R s mid args below meth c H locs cells slots Q (F0 mid pc ls (S.map (mm_tr (mm_ad N0 sp)))) := by
  obtain ⟨hx, hb, hml, hown, hts, hnm, hAt, hR, hN, hz⟩ := C
  unfold mm_ic at hst
  split at hst
  · next y x r =>
    refine lv_icmp_eq hx hb hd ht (fun h => ?_) (fun h => ?_)
    · simp only [mm_cd, decide_eq_true_eq] at hst
      rw [if_pos h] at hst
      cases hst
      exact kk _ _ _ _ _ hH hS hL hc hsl
    · simp only [mm_cd, decide_eq_true_eq] at hst
      rw [if_neg h] at hst
      cases hst
      exact kk _ _ _ _ _ hH hS hL hc hsl
  · cases hst
theorem so_if_ne {off : Int} {t : Nat} (C : mm_Cx p s mid args meth c R j D cA N0 sp nb) (hd : decode (mm_b j) pc = .ok (.ifCond .ne off, 3)) (ht : (pc : Int) + off = (t : Int)) (hst : mm_if (fun x => mm_cd .ne x 0) t (pc + 3) L S m = some (.inl q)) (hH : mm_Hp D cA N0 sp m s H) (hS : va_S (fun x => N0 ≤ x) s.heap H locs) (hL : mm_LS (mm_ad N0 sp) (mm_mx j) ls L) (hc : mm_nc m = nb + cells) (hsl : mm_ns m = sb + slots) (kk : mm_KK p l e R s mid args below meth c Q D cA N0 sp j nb sb q) : W p l e R s mid args below meth c H locs cells slots Q (F0 mid pc ls (S.map (mm_tr (mm_ad N0 sp)))) := by
  obtain ⟨hx, hb, hml, hown, hts, hnm, hAt, hR, hN, hz⟩ := C
  unfold mm_if at hst
  split at hst
  · next x r =>
    refine lv_if_ne hx hb hd ht (fun h => ?_) (fun h => ?_)
    · simp only [mm_cd, decide_eq_true_eq] at hst
      rw [if_pos h] at hst
      cases hst
      exact kk _ _ _ _ _ hH hS hL hc hsl
    · simp only [mm_cd, decide_eq_true_eq] at hst
      rw [if_neg (fun z => z h)] at hst
      cases hst
      exact kk _ _ _ _ _ hH hS hL hc hsl
  · cases hst
theorem so_icmp_ne {off : Int} {t : Nat} (C : mm_Cx p s mid args meth c R j D cA N0 sp nb) (hd : decode (mm_b j) pc = .ok (.if_icmp .ne off, 3)) (ht : (pc : Int) + off = (t : Int)) (hst : mm_ic (mm_cd .ne) t (pc + 3) L S m = some (.inl q)) (hH : mm_Hp D cA N0 sp m s H) (hS : va_S (fun x => N0 ≤ x) s.heap H locs) (hL : mm_LS (mm_ad N0 sp) (mm_mx j) ls L) (hc : mm_nc m = nb + cells) (hsl : mm_ns m = sb + slots) (kk : mm_KK p l e R s mid args below meth c Q D cA N0 sp j nb sb q) : W p l e R s mid args below meth c H locs cells slots Q (F0 mid pc ls (S.map (mm_tr (mm_ad N0 sp)))) := by
  obtain ⟨hx, hb, hml, hown, hts, hnm, hAt, hR, hN, hz⟩ := C
  unfold mm_ic at hst
  split at hst
  · next y x r =>
    refine lv_icmp_ne hx hb hd ht (fun h => ?_) (fun h => ?_)
    · simp only [mm_cd, decide_eq_true_eq] at hst
      rw [if_pos h] at hst
      cases hst
      exact kk _ _ _ _ _ hH hS hL hc hsl
    · simp only [mm_cd, decide_eq_true_eq] at hst
      rw [if_neg (fun z => z h)] at hst
      cases hst
      exact kk _ _ _ _ _ hH hS hL hc hsl
  · cases hst
theorem so_if_lt {off : Int} {t : Nat} (C : mm_Cx p s mid args meth c R j D cA N0 sp nb) (hd : decode (mm_b j) pc = .ok (.ifCond .lt off, 3)) (ht : (pc : Int) + off = (t : Int)) (hst : mm_if (fun x => mm_cd .lt x 0) t (pc + 3) L S m = some (.inl q)) (hH : mm_Hp D cA N0 sp m s H) (hS : va_S (fun x => N0 ≤ x) s.heap H locs) (hL : mm_LS (mm_ad N0 sp) (mm_mx j) ls L) (hc : mm_nc m = nb + cells) (hsl : mm_ns m = sb + slots) (kk : mm_KK p l e R s mid args below meth c Q D cA N0 sp j nb sb q) : W p l e R s mid args below meth c H locs cells slots Q (F0 mid pc ls (S.map (mm_tr (mm_ad N0 sp)))) := by
  obtain ⟨hx, hb, hml, hown, hts, hnm, hAt, hR, hN, hz⟩ := C
  unfold mm_if at hst
  split at hst
  · next x r =>
    refine lv_if_lt hx hb hd ht (fun h => ?_) (fun h => ?_)
    · simp only [mm_cd, decide_eq_true_eq] at hst
      rw [if_pos h] at hst
      cases hst
      exact kk _ _ _ _ _ hH hS hL hc hsl
    · simp only [mm_cd, decide_eq_true_eq] at hst
      rw [if_neg h] at hst
      cases hst
      exact kk _ _ _ _ _ hH hS hL hc hsl
  · cases hst
theorem so_icmp_lt {off : Int} {t : Nat} (C : mm_Cx p s mid args meth c R j D cA N0 sp nb) (hd : decode (mm_b j) pc = .ok (.if_icmp .lt off, 3)) (ht : (pc : Int) + off = (t : Int)) (hst : mm_ic (mm_cd .lt) t (pc + 3) L S m = some (.inl q)) (hH : mm_Hp D cA N0 sp m s H) (hS : va_S (fun x => N0 ≤ x) s.heap H locs) (hL : mm_LS (mm_ad N0 sp) (mm_mx j) ls L) (hc : mm_nc m = nb + cells) (hsl : mm_ns m = sb + slots) (kk : mm_KK p l e R s mid args below meth c Q D cA N0 sp j nb sb q) : W p l e R s mid args below meth c H locs cells slots Q (F0 mid pc ls (S.map (mm_tr (mm_ad N0 sp)))) := by
  obtain ⟨hx, hb, hml, hown, hts, hnm, hAt, hR, hN, hz⟩ := C
  unfold mm_ic at hst
  split at hst
  · next y x r =>
    refine lv_icmp_lt hx hb hd ht (fun h => ?_) (fun h => ?_)
    · simp only [mm_cd, decide_eq_true_eq] at hst
      rw [if_pos h] at hst
      cases hst
      exact kk _ _ _ _ _ hH hS hL hc hsl
    · simp only [mm_cd, decide_eq_true_eq] at hst
      rw [if_neg h] at hst
      cases hst
      exact kk _ _ _ _ _ hH hS hL hc hsl
  · cases hst
theorem so_if_ge {off : Int} {t : Nat} (C : mm_Cx p s mid args meth c R j D cA N0 sp nb) (hd : decode (mm_b j) pc = .ok (.ifCond .ge off, 3)) (ht : (pc : Int) + off = (t : Int)) (hst : mm_if (fun x => mm_cd .ge x 0) t (pc + 3) L S m = some (.inl q)) (hH : mm_Hp D cA N0 sp m s H) (hS : va_S (fun x => N0 ≤ x) s.heap H locs) (hL : mm_LS (mm_ad N0 sp) (mm_mx j) ls L) (hc : mm_nc m = nb + cells) (hsl : mm_ns m = sb + slots) (kk : mm_KK p l e R s mid args below meth c Q D cA N0 sp j nb sb q) : W p l e R s mid args below meth c H locs cells slots Q (F0 mid pc ls (S.map (mm_tr (mm_ad N0 sp)))) := by
  obtain ⟨hx, hb, hml, hown, hts, hnm, hAt, hR, hN, hz⟩ := C
  unfold mm_if at hst
  split at hst
  · next x r =>
    refine lv_if_ge hx hb hd ht (fun h => ?_) (fun h => ?_)
    · simp only [mm_cd, decide_eq_true_eq] at hst
      rw [if_pos h] at hst
      cases hst
      exact kk _ _ _ _ _ hH hS hL hc hsl
    · simp only [mm_cd, decide_eq_true_eq] at hst
      rw [if_neg h] at hst
      cases hst
      exact kk _ _ _ _ _ hH hS hL hc hsl
  · cases hst
theorem so_icmp_ge {off : Int} {t : Nat} (C : mm_Cx p s mid args meth c R j D cA N0 sp nb) (hd : decode (mm_b j) pc = .ok (.if_icmp .ge off, 3)) (ht : (pc : Int) + off = (t : Int)) (hst : mm_ic (mm_cd .ge) t (pc + 3) L S m = some (.inl q)) (hH : mm_Hp D cA N0 sp m s H) (hS : va_S (fun x => N0 ≤ x) s.heap H locs) (hL : mm_LS (mm_ad N0 sp) (mm_mx j) ls L) (hc : mm_nc m = nb + cells) (hsl : mm_ns m = sb + slots) (kk : mm_KK p l e R s mid args below meth c Q D cA N0 sp j nb sb q) : W p l e R s mid args below meth c H locs cells slots Q (F0 mid pc ls (S.map (mm_tr (mm_ad N0 sp)))) := by
  obtain ⟨hx, hb, hml, hown, hts, hnm, hAt, hR, hN, hz⟩ := C
  unfold mm_ic at hst
  split at hst
  · next y x r =>
    refine lv_icmp_ge hx hb hd ht (fun h => ?_) (fun h => ?_)
    · simp only [mm_cd, decide_eq_true_eq] at hst
      rw [if_pos h] at hst
      cases hst
      exact kk _ _ _ _ _ hH hS hL hc hsl
    · simp only [mm_cd, decide_eq_true_eq] at hst
      rw [if_neg h] at hst
      cases hst
      exact kk _ _ _ _ _ hH hS hL hc hsl
  · cases hst
theorem so_if_gt {off : Int} {t : Nat} (C : mm_Cx p s mid args meth c R j D cA N0 sp nb) (hd : decode (mm_b j) pc = .ok (.ifCond .gt off, 3)) (ht : (pc : Int) + off = (t : Int)) (hst : mm_if (fun x => mm_cd .gt x 0) t (pc + 3) L S m = some (.inl q)) (hH : mm_Hp D cA N0 sp m s H) (hS : va_S (fun x => N0 ≤ x) s.heap H locs) (hL : mm_LS (mm_ad N0 sp) (mm_mx j) ls L) (hc : mm_nc m = nb + cells) (hsl : mm_ns m = sb + slots) (kk : mm_KK p l e R s mid args below meth c Q D cA N0 sp j nb sb q) : W p l e R s mid args below meth c H locs cells slots Q (F0 mid pc ls (S.map (mm_tr (mm_ad N0 sp)))) := by
  obtain ⟨hx, hb, hml, hown, hts, hnm, hAt, hR, hN, hz⟩ := C
  unfold mm_if at hst
  split at hst
  · next x r =>
    refine lv_if_gt hx hb hd ht (fun h => ?_) (fun h => ?_)
    · simp only [mm_cd, decide_eq_true_eq] at hst
      rw [if_pos h] at hst
      cases hst
      exact kk _ _ _ _ _ hH hS hL hc hsl
    · simp only [mm_cd, decide_eq_true_eq] at hst
      rw [if_neg h] at hst
      cases hst
      exact kk _ _ _ _ _ hH hS hL hc hsl
  · cases hst
theorem so_icmp_gt {off : Int} {t : Nat} (C : mm_Cx p s mid args meth c R j D cA N0 sp nb) (hd : decode (mm_b j) pc = .ok (.if_icmp .gt off, 3)) (ht : (pc : Int) + off = (t : Int)) (hst : mm_ic (mm_cd .gt) t (pc + 3) L S m = some (.inl q)) (hH : mm_Hp D cA N0 sp m s H) (hS : va_S (fun x => N0 ≤ x) s.heap H locs) (hL : mm_LS (mm_ad N0 sp) (mm_mx j) ls L) (hc : mm_nc m = nb + cells) (hsl : mm_ns m = sb + slots) (kk : mm_KK p l e R s mid args below meth c Q D cA N0 sp j nb sb q) : W p l e R s mid args below meth c H locs cells slots Q (F0 mid pc ls (S.map (mm_tr (mm_ad N0 sp)))) := by
  obtain ⟨hx, hb, hml, hown, hts, hnm, hAt, hR, hN, hz⟩ := C
  unfold mm_ic at hst
  split at hst
  · next y x r =>
    refine lv_icmp_gt hx hb hd ht (fun h => ?_) (fun h => ?_)
    · simp only [mm_cd, decide_eq_true_eq] at hst
      rw [if_pos h] at hst
      cases hst
      exact kk _ _ _ _ _ hH hS hL hc hsl
    · simp only [mm_cd, decide_eq_true_eq] at hst
      rw [if_neg h] at hst
      cases hst
      exact kk _ _ _ _ _ hH hS hL hc hsl
  · cases hst
theorem so_if_le {off : Int} {t : Nat} (C : mm_Cx p s mid args meth c R j D cA N0 sp nb) (hd : decode (mm_b j) pc = .ok (.ifCond .le off, 3)) (ht : (pc : Int) + off = (t : Int)) (hst : mm_if (fun x => mm_cd .le x 0) t (pc + 3) L S m = some (.inl q)) (hH : mm_Hp D cA N0 sp m s H) (hS : va_S (fun x => N0 ≤ x) s.heap H locs) (hL : mm_LS (mm_ad N0 sp) (mm_mx j) ls L) (hc : mm_nc m = nb + cells) (hsl : mm_ns m = sb + slots) (kk : mm_KK p l e R s mid args below meth c Q D cA N0 sp j nb sb q) : W p l e R s mid args below meth c H locs cells slots Q (F0 mid pc ls (S.map (mm_tr (mm_ad N0 sp)))) := by
  obtain ⟨hx, hb, hml, hown, hts, hnm, hAt, hR, hN, hz⟩ := C
  unfold mm_if at hst
  split at hst
  · next x r =>
    refine lv_if_le hx hb hd ht (fun h => ?_) (fun h => ?_)
    · simp only [mm_cd, decide_eq_true_eq] at hst
      rw [if_pos h] at hst
      cases hst
      exact kk _ _ _ _ _ hH hS hL hc hsl
    · simp only [mm_cd, decide_eq_true_eq] at hst
      rw [if_neg h] at hst
      cases hst
      exact kk _ _ _ _ _ hH hS hL hc hsl
  · cases hst
theorem so_icmp_le {off : Int} {t : Nat} (C : mm_Cx p s mid args meth c R j D cA N0 sp nb) (hd : decode (mm_b j) pc = .ok (.if_icmp .le off, 3)) (ht : (pc : Int) + off = (t : Int)) (hst : mm_ic (mm_cd .le) t (pc + 3) L S m = some (.inl q)) (hH : mm_Hp D cA N0 sp m s H) (hS : va_S (fun x => N0 ≤ x) s.heap H locs) (hL : mm_LS (mm_ad N0 sp) (mm_mx j) ls L) (hc : mm_nc m = nb + cells) (hsl : mm_ns m = sb + slots) (kk : mm_KK p l e R s mid args below meth c Q D cA N0 sp j nb sb q) : W p l e R s mid args below meth c H locs cells slots Q (F0 mid pc ls (S.map (mm_tr (mm_ad N0 sp)))) := by
  obtain ⟨hx, hb, hml, hown, hts, hnm, hAt, hR, hN, hz⟩ := C
  unfold mm_ic at hst
  split at hst
  · next y x r =>
    refine lv_icmp_le hx hb hd ht (fun h => ?_) (fun h => ?_)
    · simp only [mm_cd, decide_eq_true_eq] at hst
      rw [if_pos h] at hst
      cases hst
      exact kk _ _ _ _ _ hH hS hL hc hsl
    · simp only [mm_cd, decide_eq_true_eq] at hst
      rw [if_neg h] at hst
      cases hst
      exact kk _ _ _ _ _ hH hS hL hc hsl
  · cases hst
theorem so_tsw {d lo hi : Int} {offs : Array Int} {len : Nat} (C : mm_Cx p s mid args meth c R j D cA N0 sp nb) (hd : decode (mm_b j) pc = .ok (.tableswitch d lo hi offs, len)) (ht : 0 ≤ (pc : Int) + d ∧ ∀ o ∈ offs.toList, 0 ≤ (pc : Int) + o) (hst : mm_tsw d lo hi offs pc L S m = some (.inl q)) (hH : mm_Hp D cA N0 sp m s H) (hS : va_S (fun x => N0 ≤ x) s.heap H locs) (hL : mm_LS (mm_ad N0 sp) (mm_mx j) ls L) (hc : mm_nc m = nb + cells) (hsl : mm_ns m = sb + slots) (kk : mm_KK p l e R s mid args below meth c Q D cA N0 sp j nb sb q) : W p l e R s mid args below meth c H locs cells slots Q (F0 mid pc ls (S.map (mm_tr (mm_ad N0 sp)))) := by
  obtain ⟨hx, hb, hml, hown, hts, hnm, hAt, hR, hN, hz⟩ := C
  unfold mm_tsw at hst
  split at hst
  · next x r =>
    split at hst
    · next hx2 =>
      cases hst
      refine lv_tableOut hx hb hd hx2 (by omega : (pc : Int) + d = ((((pc : Int) + d).toNat : Nat) : Int)) ?_
      exact kk _ _ _ _ _ hH hS hL hc hsl
    · next hx2 =>
      split at hst
      · next o ho =>
        cases hst
        have h0 : 0 ≤ (pc : Int) + o := ht.2 o (List.mem_of_getElem? (by rw [Array.getElem?_toList]; exact ho))
        refine lv_tableIn hx hb hd (fun z => hx2 (Or.inl z)) (fun z => hx2 (Or.inr z)) ho (by omega : (pc : Int) + o = ((((pc : Int) + o).toNat : Nat) : Int)) ?_
        exact kk _ _ _ _ _ hH hS hL hc hsl
      · cases hst
  · cases hst
theorem mm_lsw_in (d : Int) (x : Int) : ∀ ps : List (Int × Int), Op.lookupswitch.offset ps d x = d ∨ ∃ q ∈ ps, Op.lookupswitch.offset ps d x = q.2
  | [] => Or.inl rfl
  | (a, b) :: r => by
    unfold Op.lookupswitch.offset
    split
    · exact Or.inr ⟨(a, b), List.mem_cons_self, rfl⟩
    · rcases mm_lsw_in d x r with h | ⟨q, h1, h2⟩
      · exact Or.inl h
      · exact Or.inr ⟨q, List.mem_cons_of_mem _ h1, h2⟩
theorem so_lsw {d : Int} {ps : Array (Int × Int)} {len : Nat} (C : mm_Cx p s mid args meth c R j D cA N0 sp nb) (hd : decode (mm_b j) pc = .ok (.lookupswitch d ps, len)) (ht : (ps.toList.zip (ps.toList.drop 1)).all (fun (a, next) => a.1 < next.1) = true ∧ 0 ≤ (pc : Int) + d ∧ ∀ o ∈ ps.toList, 0 ≤ (pc : Int) + o.2) (hst : mm_lsw d ps pc L S m = some (.inl q)) (hH : mm_Hp D cA N0 sp m s H) (hS : va_S (fun x => N0 ≤ x) s.heap H locs) (hL : mm_LS (mm_ad N0 sp) (mm_mx j) ls L) (hc : mm_nc m = nb + cells) (hsl : mm_ns m = sb + slots) (kk : mm_KK p l e R s mid args below meth c Q D cA N0 sp j nb sb q) : W p l e R s mid args below meth c H locs cells slots Q (F0 mid pc ls (S.map (mm_tr (mm_ad N0 sp)))) := by
  obtain ⟨hx, hb, hml, hown, hts, hnm, hAt, hR, hN, hz⟩ := C
  unfold mm_lsw at hst
  split at hst
  · next x r =>
    cases hst
    have h0 : 0 ≤ (pc : Int) + Op.lookupswitch.offset ps.toList d x.toInt := by
      rcases mm_lsw_in d x.toInt ps.toList with h | ⟨q, h1, h2⟩
      · rw [h]; exact ht.2.1
      · rw [h2]; exact ht.2.2 q h1
    refine lv_lookup hx hb hd ht.1 rfl (by omega : (pc : Int) + Op.lookupswitch.offset ps.toList d x.toInt = ((((pc : Int) + Op.lookupswitch.offset ps.toList d x.toInt).toNat : Nat) : Int)) ?_
    exact kk _ _ _ _ _ hH hS hL hc hsl
  · cases hst
end SO
end
section
theorem mm_vw : ∀ ci : Nat, ci < 13 → vwCl[ci]? = some (mm_cn ci, mm_T ci, (mm_ft ci).length)
  | 0, _ => rfl
  | 1, _ => rfl
  | 2, _ => rfl
  | 3, _ => rfl
  | 4, _ => rfl
  | 5, _ => rfl
  | 6, _ => rfl
  | 7, _ => rfl
  | 8, _ => rfl
  | 9, _ => rfl
  | 10, _ => rfl
  | 11, _ => rfl
  | 12, _ => rfl
  | _ + 13, h => absurd h (by omega)
theorem mm_ft_lt {ci k ty : Nat} (h : (mm_ft ci)[k]? = some ty) : ci < 13 := by
  by_cases hc : ci < 13
  · exact hc
  · obtain ⟨n, rfl⟩ : ∃ n, ci = n + 13 := ⟨ci - 13, by omega⟩
    exact absurd h (by simp [mm_ft])
theorem mm_lay_good (C : String) (T : u_T) (k : Nat) : goodWord (u_lay C T k) = true := by
  unfold u_lay
  split <;> rfl
theorem mm_uin : ∀ ci : Nat, ci < 13 → ∀ w ∈ u_ws (mm_cn ci) (mm_T ci) (mm_ft ci).length, w ∈ mm_g := by
  intro ci hci w hw
  have hg : goodWord w = true := by
    obtain ⟨k, -, rfl⟩ := List.mem_map.mp hw
    exact mm_lay_good _ _ _
  refine mm_g_in (mm_uw_w w ?_) hg
  unfold mm_uw
  simp only [List.mem_append]
  match ci, hci, hw with
  | 0, _, hw => exact Or.inl (Or.inl (Or.inl (Or.inl (Or.inl (Or.inl (Or.inl (Or.inl (Or.inl (Or.inl (Or.inl (Or.inl (hw))))))))))))
  | 1, _, hw => exact Or.inl (Or.inl (Or.inl (Or.inl (Or.inl (Or.inl (Or.inl (Or.inl (Or.inl (Or.inl (Or.inl (Or.inr hw)))))))))))
  | 2, _, hw => exact Or.inl (Or.inl (Or.inl (Or.inl (Or.inl (Or.inl (Or.inl (Or.inl (Or.inl (Or.inl (Or.inr hw))))))))))
  | 3, _, hw => exact Or.inl (Or.inl (Or.inl (Or.inl (Or.inl (Or.inl (Or.inl (Or.inl (Or.inl (Or.inr hw)))))))))
  | 4, _, hw => exact Or.inl (Or.inl (Or.inl (Or.inl (Or.inl (Or.inl (Or.inl (Or.inl (Or.inr hw))))))))
  | 5, _, hw => exact Or.inl (Or.inl (Or.inl (Or.inl (Or.inl (Or.inl (Or.inl (Or.inr hw)))))))
  | 6, _, hw => exact Or.inl (Or.inl (Or.inl (Or.inl (Or.inl (Or.inl (Or.inr hw))))))
  | 7, _, hw => exact Or.inl (Or.inl (Or.inl (Or.inl (Or.inl (Or.inr hw)))))
  | 8, _, hw => exact Or.inl (Or.inl (Or.inl (Or.inl (Or.inr hw))))
  | 9, _, hw => exact Or.inl (Or.inl (Or.inl (Or.inr hw)))
  | 10, _, hw => exact Or.inl (Or.inl (Or.inr hw))
  | 11, _, hw => exact Or.inl (Or.inr hw)
  | 12, _, hw => exact Or.inr hw
  | n + 13, h, _ => exact absurd h (by omega)
theorem mm_nmd : ∀ ci : Nat, ci < 13 → ∀ a, a < (mm_ft ci).length → ∀ b, b < (mm_ft ci).length → a ≠ b → (mm_T ci a).2.1 ≠ (mm_T ci b).2.1
  | 0, _ => nmX0
  | 1, _ => nmX1
  | 2, _ => nmX2
  | 3, _ => nmX3
  | 4, _ => nmX4
  | 5, _ => nmX5
  | 6, _ => nmX6
  | 7, _ => nmX7
  | 8, _ => nmX8
  | 9, _ => nmX9
  | 10, _ => nmX10
  | 11, _ => nmX11
  | 12, _ => nmX12
  | _ + 13, h => absurd h (by omega)
theorem mm_tyd : ∀ ci : Nat, ci < 13 → ∀ k, k < (mm_ft ci).length → parseFieldDescriptor (mm_T ci k).2.2.1 = some (mm_ty ci k)
  | 0, _ => tyX0_ok
  | 1, _ => tyX1_ok
  | 2, _ => tyX2_ok
  | 3, _ => tyX3_ok
  | 4, _ => tyX4_ok
  | 5, _ => tyX5_ok
  | 6, _ => tyX6_ok
  | 7, _ => tyX7_ok
  | 8, _ => tyX8_ok
  | 9, _ => tyX9_ok
  | 10, _ => tyX10_ok
  | 11, _ => tyX11_ok
  | 12, _ => tyX12_ok
  | _ + 13, h => absurd h (by omega)
def mm_isR : FieldType → Bool
  | .object _ => true
  | .array _ => true
  | _ => false
def mm_kty (n : Nat) (t : FieldType) : Bool := if n = 0 then decide (t = .int) else if n = 1 then decide (t = .long) else if n = 3 then decide (t = .boolean) else decide (n = 2) && mm_isR t
theorem mm_tyk0 : (List.range 13).all (fun ci => (List.range (mm_ft ci).length).all (fun k => mm_kty ((mm_ft ci).getD k 0) (mm_ty ci k))) = true := by decide +kernel
theorem mm_tyk {ci k ty : Nat} (h : (mm_ft ci)[k]? = some ty) : mm_kty ty (mm_ty ci k) = true := by
  have hci := mm_ft_lt h
  have h1 := List.all_eq_true.mp mm_tyk0 ci (List.mem_range.mpr hci)
  have h2 := List.all_eq_true.mp h1 k (List.mem_range.mpr (List.getElem?_eq_some_iff.mp h).1)
  have e : (mm_ft ci).getD k 0 = ty := by rw [List.getD_eq_getElem?_getD, h]; rfl
  rw [e] at h2
  exact h2
theorem mm_cel_ob {m : mm_M} {ad : Nat → Nat} {cA : Nat → ClassId} {a : Nat} {s : Nat × Nat} (h : s.1 < 20) : mm_cel m ad cA a s = .inr (s.1, (mm_ft s.1).mapIdx (fun k ty => mm_fc (m.2.2.1 a) (m.2.2.2.1 a) (m.2.2.2.2 a) ad k ty)) := by
  unfold mm_cel mm_cc
  rw [if_pos h]
theorem mm_cel_lo {m : mm_M} {ad : Nat → Nat} {cA : Nat → ClassId} {a : Nat} {s : Nat × Nat} (h : s.1 = 21) : mm_cel m ad cA a s = .inl (cA 21, s.2, .inr (.inl (m.2.2.2.1 a))) := by
  unfold mm_cel mm_cc
  rw [if_neg (by omega), if_pos h]
theorem mm_cel_rf {m : mm_M} {ad : Nat → Nat} {cA : Nat → ClassId} {a : Nat} {s : Nat × Nat} (h : 24 ≤ s.1) : mm_cel m ad cA a s = .inl (cA s.1, s.2, .inr (.inr (.inr (.inr (fun j => (m.2.2.2.2 a j).map ad))))) := by
  unfold mm_cel mm_cc
  rw [if_neg (by omega), if_neg (by omega), if_pos h]
theorem mm_cel_in {m : mm_M} {ad : Nat → Nat} {cA : Nat → ClassId} {a : Nat} {s : Nat × Nat} (h : s.1 = 20 ∨ s.1 = 22 ∨ s.1 = 23) : mm_cel m ad cA a s = .inl (cA s.1, s.2, .inl (m.2.2.1 a)) := by
  unfold mm_cel mm_cc
  rw [if_neg (by omega), if_neg (by omega), if_neg (by omega)]
theorem mm_fs_set {fI fI' : Nat → Int32} {fL fL' : Nat → Int64} {fR fR' : Nat → Option Nat} {ad : Nat → Nat} {l : List Nat} {k ty : Nat} {v : Value} (hk : l[k]? = some ty) (hv : v = mm_fc fI' fL' fR' ad k ty) (ho : ∀ i : Nat, i ≠ k → fI' i = fI i ∧ fL' i = fL i ∧ fR' i = fR i) :
    (l.mapIdx (fun k ty => mm_fc fI fL fR ad k ty)).set k v = l.mapIdx (fun k ty => mm_fc fI' fL' fR' ad k ty) := by
  apply List.ext_getElem?
  intro i
  have hl : k < (l.mapIdx (fun k ty => mm_fc fI fL fR ad k ty)).length := by rw [List.length_mapIdx]; exact (List.getElem?_eq_some_iff.mp hk).1
  by_cases hi : k = i
  · subst hi
    rw [List.getElem?_set_self hl, List.getElem?_mapIdx, hk, hv]
    rfl
  · rw [List.getElem?_set_ne hi, List.getElem?_mapIdx, List.getElem?_mapIdx]
    obtain ⟨g1, g2, g3⟩ := ho i (fun z => hi z.symm)
    unfold mm_fc
    rw [g1, g2, g3]
theorem mm_ad_hi {N0 : Nat} {sp : Nat → Nat} {a : Nat} (h : 100 ≤ a) : mm_ad N0 sp a = N0 + (a - 100) := by
  unfold mm_ad
  rw [if_neg (by omega)]
section SO2
variable {p : Program} {l : Launch} {e : Env} {R : Room} {s : State} {mid : MethodId} {args : Array Value} {below : List Frame} {meth : Method} {c : Code} {Q : State → Prop} {D : va_G} {cA : Nat → ClassId} {N0 : Nat} {sp : Nat → Nat} {j nb sb : Nat}
variable {H : Heap} {locs : List Loc} {cells slots pc : Nat} {ls : Array Slot} {L : mm_L} {S : List Value} {m : mm_M} {q : Nat × mm_L × List Value × mm_M}
theorem mm_ks_lt : ∀ x ∈ mm_ks, x.2.2 < 100 := by decide +kernel
theorem so_ldc {ix r1 r2 : Nat} {r3 : Int} (C : mm_Cx p s mid args meth c R j D cA N0 sp nb) (hd : decode (mm_b j) pc = .ok (.ldc ix, 2)) (hk : (if r1 = 0 then mm_kc.contains (mm_ow j, ix, r3) else mm_ks.contains (mm_ow j, ix, r2)) = true) (hst : mm_ldc r1 r2 r3 (pc + 2) L S m = some (.inl q)) (hH : mm_Hp D cA N0 sp m s H) (hS : va_S (fun x => N0 ≤ x) s.heap H locs) (hL : mm_LS (mm_ad N0 sp) (mm_mx j) ls L) (hc : mm_nc m = nb + cells) (hsl : mm_ns m = sb + slots) (kk : mm_KK p l e R s mid args below meth c Q D cA N0 sp j nb sb q) : W p l e R s mid args below meth c H locs cells slots Q (F0 mid pc ls (S.map (mm_tr (mm_ad N0 sp)))) := by
  obtain ⟨hx, hb, hml, hown, hts, hnm, hAt, hR, hN, hz⟩ := C
  unfold mm_ldc at hst
  split at hst
  · next h0 =>
    cases hst
    rw [if_pos h0] at hk
    refine lv_ldc hx hb hown (hts _ (mm_g_in (mm_kc_w _ (List.contains_iff_mem.mp hk)) rfl)) hd ?_
    exact kk _ _ _ _ _ hH hS hL hc hsl
  · next h0 =>
    rw [if_neg h0] at hk
    split at hst
    · next h2 =>
      cases hst
      obtain ⟨tx, htx⟩ := hAt.2.2.2.2.2.1 _ (List.contains_iff_mem.mp hk)
      have hlo : r2 < 100 := mm_ks_lt _ (List.contains_iff_mem.mp hk)
      refine va_ldcS hx hb hown htx hd ?_
      have e9 : sp r2 = mm_ad N0 sp r2 := by unfold mm_ad; rw [if_pos hlo]
      show W p l e R s mid args below meth c H locs cells slots Q (F0 mid (pc + 2) ls (.ref (sp r2) :: S.map (mm_tr (mm_ad N0 sp))))
      rw [e9]
      exact kk _ _ _ _ _ hH hS hL hc hsl
    · cases hst
theorem so_ldc_w {ix r1 : Nat} {r3 : Int} (C : mm_Cx p s mid args meth c R j D cA N0 sp nb) (hd : decode (mm_b j) pc = .ok (.ldc_w ix, 3)) (hk : r1 = 0 → mm_kc.contains (mm_ow j, ix, r3) = true) (hst : (if r1 = 0 then mm_nx (pc + 3) L (.int (Int32.ofInt r3) :: S) m else none) = some (.inl q)) (hH : mm_Hp D cA N0 sp m s H) (hS : va_S (fun x => N0 ≤ x) s.heap H locs) (hL : mm_LS (mm_ad N0 sp) (mm_mx j) ls L) (hc : mm_nc m = nb + cells) (hsl : mm_ns m = sb + slots) (kk : mm_KK p l e R s mid args below meth c Q D cA N0 sp j nb sb q) : W p l e R s mid args below meth c H locs cells slots Q (F0 mid pc ls (S.map (mm_tr (mm_ad N0 sp)))) := by
  obtain ⟨hx, hb, hml, hown, hts, hnm, hAt, hR, hN, hz⟩ := C
  split at hst
  · next h0 =>
    cases hst
    refine lv_ldcw hx hb hown (hts _ (mm_g_in (mm_kc_w _ (List.contains_iff_mem.mp (hk h0))) rfl)) hd ?_
    exact kk _ _ _ _ _ hH hS hL hc hsl
  · cases hst
theorem so_ldc2_w {ix r1 : Nat} {r3 : Int} (C : mm_Cx p s mid args meth c R j D cA N0 sp nb) (hd : decode (mm_b j) pc = .ok (.ldc2_w ix, 3)) (hk : mm_kl2.contains (mm_ow j, ix, r3) = true) (hst : (if r1 = 1 then mm_nx (pc + 3) L (.long (Int64.ofInt r3) :: S) m else none) = some (.inl q)) (hH : mm_Hp D cA N0 sp m s H) (hS : va_S (fun x => N0 ≤ x) s.heap H locs) (hL : mm_LS (mm_ad N0 sp) (mm_mx j) ls L) (hc : mm_nc m = nb + cells) (hsl : mm_ns m = sb + slots) (kk : mm_KK p l e R s mid args below meth c Q D cA N0 sp j nb sb q) : W p l e R s mid args below meth c H locs cells slots Q (F0 mid pc ls (S.map (mm_tr (mm_ad N0 sp)))) := by
  obtain ⟨hx, hb, hml, hown, hts, hnm, hAt, hR, hN, hz⟩ := C
  split at hst
  · next h0 =>
    cases hst
    refine lv_ldc2 hx hb hown (hts _ (mm_g_in (mm_kl2_w _ (List.contains_iff_mem.mp hk)) rfl)) hd ?_
    exact kk _ _ _ _ _ hH hS hL hc hsl
  · cases hst
theorem so_getfield {ix ci k : Nat} {ty : Int} (C : mm_Cx p s mid args meth c R j D cA N0 sp nb) (hd : decode (mm_b j) pc = .ok (.getfield ix, 3)) (hk : mm_fl.contains (mm_ow j, ix, ci, k) = true ∧ (mm_ft ci)[k]? = some ty.toNat ∧ 0 ≤ ty) (hst : mm_get ci k ty (pc + 3) L S m = some (.inl q)) (hH : mm_Hp D cA N0 sp m s H) (hS : va_S (fun x => N0 ≤ x) s.heap H locs) (hL : mm_LS (mm_ad N0 sp) (mm_mx j) ls L) (hc : mm_nc m = nb + cells) (hsl : mm_ns m = sb + slots) (kk : mm_KK p l e R s mid args below meth c Q D cA N0 sp j nb sb q) : W p l e R s mid args below meth c H locs cells slots Q (F0 mid pc ls (S.map (mm_tr (mm_ad N0 sp)))) := by
  obtain ⟨hx, hb, hml, hown, hts, hnm, hAt, hR, hN, hz⟩ := C
  obtain ⟨hk1, hk2, hk3⟩ := hk
  have hci := mm_ft_lt hk2
  unfold mm_get at hst
  split at hst
  · next a r =>
    split at hst
    · next sh hsh =>
      split at hst
      · next hs1 =>
        split at hst
        · cases hst
        cases hst
        obtain ⟨ha, hm1⟩ := mm_sh_ob hsh (by omega) (by omega)
        have hg := mm_ws_get (ad := mm_ad N0 sp) (cA := cA) ha hm1
        rw [mm_cel_ob (by omega), hs1] at hg
        have hv : ((mm_ft ci).mapIdx (fun k ty => mm_fc (m.2.2.1 a) (m.2.2.2.1 a) (m.2.2.2.2 a) (mm_ad N0 sp) k ty))[k]? = some (mm_tr (mm_ad N0 sp) (mm_fv m a k ty)) := by
          rw [List.getElem?_mapIdx, hk2, Option.map_some]
          congr 1
          unfold mm_fc mm_fv
          by_cases h1 : ty = 1
          · subst h1; rfl
          · by_cases h2 : ty = 2
            · subst h2; exact (mm_tr_rf _ _).symm
            · rw [if_neg (by omega), if_neg (by omega), if_neg h1, if_neg h2]; rfl
        exact va_get hx hb hts (mm_uin ci hci) hown hAt.1 hH.1 (a - 100) hg (mm_vw ci hci) k (List.getElem?_eq_some_iff.mp hk2).1 (hts _ (mm_g_in (mm_fl_w _ (List.contains_iff_mem.mp hk1)) rfl)) (fun _ h => h) hv hd (kk _ _ _ _ _ hH hS hL hc hsl)
      · cases hst
    · cases hst
  · cases hst
theorem mm_put_go {ix ci k : Nat} {ty : Int} {a : Nat} {r : List Value} {sh : Nat × Nat} {v : Value} {m' : mm_M} (C : mm_Cx p s mid args meth c R j D cA N0 sp nb) (hd : decode (mm_b j) pc = .ok (.putfield ix, 3)) (hk : mm_fl.contains (mm_ow j, ix, ci, k) = true ∧ (mm_ft ci)[k]? = some ty.toNat ∧ 0 ≤ ty) (hf : (mm_T ci k).2.2.2 = false ∨ ((mm_y j).name = "<init>" ∧ (mm_T ci k).1 = mm_cn (mm_ow j)))
    (hsh : mm_sh m a = some sh) (hs1 : sh.1 = ci) (hn : narrow (mm_ty ci k) (mm_tr (mm_ad N0 sp) v) = mm_tr (mm_ad N0 sp) v) (hfit : fits (mm_ty ci k) (mm_tr (mm_ad N0 sp) v) = true) (e1 : m'.1 = m.1) (e2 : m'.2.1 = m.2.1) (hv : mm_tr (mm_ad N0 sp) v = mm_fc (m'.2.2.1 a) (m'.2.2.2.1 a) (m'.2.2.2.2 a) (mm_ad N0 sp) k ty.toNat)
    (ho : ∀ i : Nat, i ≠ k → m'.2.2.1 a i = m.2.2.1 a i ∧ m'.2.2.2.1 a i = m.2.2.2.1 a i ∧ m'.2.2.2.2 a i = m.2.2.2.2 a i) (ho2 : ∀ b : Nat, b ≠ a → m'.2.2.1 b = m.2.2.1 b ∧ m'.2.2.2.1 b = m.2.2.2.1 b ∧ m'.2.2.2.2 b = m.2.2.2.2 b)
    (hH : mm_Hp D cA N0 sp m s H) (hS : va_S (fun x => N0 ≤ x) s.heap H locs) (hL : mm_LS (mm_ad N0 sp) (mm_mx j) ls L) (hc : mm_nc m = nb + cells) (hsl : mm_ns m = sb + slots) (kk : mm_KK p l e R s mid args below meth c Q D cA N0 sp j nb sb (pc + 3, L, r, m')) : W p l e R s mid args below meth c H locs cells slots Q (F0 mid pc ls ((v :: .ref a :: r).map (mm_tr (mm_ad N0 sp)))) := by
  obtain ⟨hx, hb, hml, hown, hts, hnm, hAt, hR, hN, hz⟩ := C
  obtain ⟨hk1, hk2, hk3⟩ := hk
  have hci := mm_ft_lt hk2
  have hkl := (List.getElem?_eq_some_iff.mp hk2).1
  obtain ⟨ha, hm1⟩ := mm_sh_ob hsh (by omega) (by omega)
  have hg := mm_ws_get (ad := mm_ad N0 sp) (cA := cA) ha hm1
  rw [mm_cel_ob (by omega), hs1] at hg
  have hset := mm_ws_set (m := m) (m' := m') (ad := mm_ad N0 sp) (cA := cA) (e := .inr (ci, ((mm_ft ci).mapIdx (fun k ty => mm_fc (m.2.2.1 a) (m.2.2.2.1 a) (m.2.2.2.2 a) (mm_ad N0 sp) k ty)).set k (mm_tr (mm_ad N0 sp) v))) ha hm1 e1 (by rw [mm_cel_ob (by omega), hs1, mm_fs_set hk2 hv ho]) ho2
  have hlink := hts _ (mm_g_in (mm_fl_w _ (List.contains_iff_mem.mp hk1)) rfl)
  have hl : k < ((mm_ft ci).mapIdx (fun k ty => mm_fc (m.2.2.1 a) (m.2.2.2.1 a) (m.2.2.2.2 a) (mm_ad N0 sp) k ty)).length := by rw [List.length_mapIdx]; exact hkl
  have fin : ∀ (H1 : Heap) (locs1 : List Loc), va_P D vwCl ((mm_ws m (mm_ad N0 sp) cA).set (a - 100) (mm_ad N0 sp a, .inr (ci, ((mm_ft ci).mapIdx (fun k ty => mm_fc (m.2.2.1 a) (m.2.2.2.1 a) (m.2.2.2.2 a) (mm_ad N0 sp) k ty)).set k (mm_tr (mm_ad N0 sp) v)))) H1 → va_S (fun x => N0 ≤ x) s.heap H1 locs1 → W p l e R s mid args below meth c H1 locs1 cells slots Q (F0 mid (pc + 3) ls (r.map (mm_tr (mm_ad N0 sp)))) := by
    intro H1 locs1 hP1 hS1
    rw [hset] at hP1
    refine kk H1 locs1 ls cells slots (hH.to hN hS hS1 hP1 e2 ?_ ?_) hS1 hL ?_ ?_
    · exact (ho2 0 (by omega)).1
    · exact (ho2 99 (by omega)).2.2
    · unfold mm_nc at hc ⊢
      dsimp only
      rw [e1, e2]; exact hc
    · unfold mm_ns at hsl ⊢
      dsimp only
      rw [e1, e2]; exact hsl
  by_cases hfin : (mm_T ci k).2.2.2 = true
  · rcases hf with h | ⟨h1, h2⟩
    · rw [h] at hfin; cases hfin
    · exact va_putF hx hb hts (mm_uin ci hci) (mm_ty ci) (mm_tyd ci hci) (mm_nmd ci hci) hown hAt.1 hH.1 (mm_ws_D m N0 sp cA) hS (a - 100) hg (mm_vw ci hci) k hkl hlink (fun _ h => h) hfin (by rw [hnm]; exact h1) h2 (mm_tyd ci hci k hkl) hn hfit hl hd (fun H1 locs1 hP1 _ hS1 => fin H1 locs1 hP1 hS1)
  · exact va_put hx hb hts (mm_uin ci hci) (mm_ty ci) (mm_tyd ci hci) (mm_nmd ci hci) hown hAt.1 hH.1 (mm_ws_D m N0 sp cA) hS (a - 100) hg (mm_vw ci hci) k hkl hlink (fun _ h => h) (by simpa using hfin) (mm_tyd ci hci k hkl) hn hfit hl hd (fun H1 locs1 hP1 _ hS1 => fin H1 locs1 hP1 hS1)
theorem mm_sI_o {a k : Nat} {x : Int32} : (∀ i : Nat, i ≠ k → (mm_sI m a k x).2.2.1 a i = m.2.2.1 a i ∧ (mm_sI m a k x).2.2.2.1 a i = m.2.2.2.1 a i ∧ (mm_sI m a k x).2.2.2.2 a i = m.2.2.2.2 a i) ∧ ∀ b : Nat, b ≠ a → (mm_sI m a k x).2.2.1 b = m.2.2.1 b ∧ (mm_sI m a k x).2.2.2.1 b = m.2.2.2.1 b ∧ (mm_sI m a k x).2.2.2.2 b = m.2.2.2.2 b := by
  refine ⟨fun i hi => ⟨?_, rfl, rfl⟩, fun b hb => ⟨mm_u_ne hb, rfl, rfl⟩⟩
  show mm_u m.2.2.1 a k x a i = _
  rw [mm_u_eq]; exact if_neg hi
theorem mm_sL_o {a k : Nat} {x : Int64} : (∀ i : Nat, i ≠ k → (mm_sL m a k x).2.2.1 a i = m.2.2.1 a i ∧ (mm_sL m a k x).2.2.2.1 a i = m.2.2.2.1 a i ∧ (mm_sL m a k x).2.2.2.2 a i = m.2.2.2.2 a i) ∧ ∀ b : Nat, b ≠ a → (mm_sL m a k x).2.2.1 b = m.2.2.1 b ∧ (mm_sL m a k x).2.2.2.1 b = m.2.2.2.1 b ∧ (mm_sL m a k x).2.2.2.2 b = m.2.2.2.2 b := by
  refine ⟨fun i hi => ⟨rfl, ?_, rfl⟩, fun b hb => ⟨rfl, mm_u_ne hb, rfl⟩⟩
  show mm_u m.2.2.2.1 a k x a i = _
  rw [mm_u_eq]; exact if_neg hi
theorem mm_sR_o {a k : Nat} {x : Option Nat} : (∀ i : Nat, i ≠ k → (mm_sR m a k x).2.2.1 a i = m.2.2.1 a i ∧ (mm_sR m a k x).2.2.2.1 a i = m.2.2.2.1 a i ∧ (mm_sR m a k x).2.2.2.2 a i = m.2.2.2.2 a i) ∧ ∀ b : Nat, b ≠ a → (mm_sR m a k x).2.2.1 b = m.2.2.1 b ∧ (mm_sR m a k x).2.2.2.1 b = m.2.2.2.1 b ∧ (mm_sR m a k x).2.2.2.2 b = m.2.2.2.2 b := by
  refine ⟨fun i hi => ⟨rfl, rfl, ?_⟩, fun b hb => ⟨rfl, rfl, mm_u_ne hb⟩⟩
  show mm_u m.2.2.2.2 a k x a i = _
  rw [mm_u_eq]; exact if_neg hi
theorem mm_sI_at {a k : Nat} {x : Int32} : (mm_sI m a k x).2.2.1 a k = x := by
  show mm_u m.2.2.1 a k x a k = x
  rw [mm_u_eq]; exact if_pos rfl
theorem mm_sL_at {a k : Nat} {x : Int64} : (mm_sL m a k x).2.2.2.1 a k = x := by
  show mm_u m.2.2.2.1 a k x a k = x
  rw [mm_u_eq]; exact if_pos rfl
theorem mm_sR_at {a k : Nat} {x : Option Nat} : (mm_sR m a k x).2.2.2.2 a k = x := by
  show mm_u m.2.2.2.2 a k x a k = x
  rw [mm_u_eq]; exact if_pos rfl
theorem so_putfield {ix ci k : Nat} {ty : Int} (C : mm_Cx p s mid args meth c R j D cA N0 sp nb) (hd : decode (mm_b j) pc = .ok (.putfield ix, 3)) (hk : (mm_fl.contains (mm_ow j, ix, ci, k) = true ∧ (mm_ft ci)[k]? = some ty.toNat ∧ 0 ≤ ty) ∧ ((mm_T ci k).2.2.2 = false ∨ ((mm_y j).name = "<init>" ∧ (mm_T ci k).1 = mm_cn (mm_ow j)))) (hst : mm_put ci k ty (pc + 3) L S m = some (.inl q)) (hH : mm_Hp D cA N0 sp m s H) (hS : va_S (fun x => N0 ≤ x) s.heap H locs) (hL : mm_LS (mm_ad N0 sp) (mm_mx j) ls L) (hc : mm_nc m = nb + cells) (hsl : mm_ns m = sb + slots) (kk : mm_KK p l e R s mid args below meth c Q D cA N0 sp j nb sb q) : W p l e R s mid args below meth c H locs cells slots Q (F0 mid pc ls (S.map (mm_tr (mm_ad N0 sp)))) := by
  obtain ⟨hx, hb, hml, hown, hts, hnm, hAt, hR, hN, hz⟩ := C
  have C : mm_Cx p s mid args meth c R j D cA N0 sp nb := ⟨hx, hb, hml, hown, hts, hnm, hAt, hR, hN, hz⟩
  obtain ⟨hk, hf⟩ := hk
  have hty := mm_tyk hk.2.1
  unfold mm_put at hst
  split at hst
  · next x a r =>
    split at hst
    · next sh hsh =>
      split at hst
      · next hs1 =>
        cases hst
        obtain ⟨hs1, ht⟩ := hs1
        refine mm_put_go (m' := mm_sI m a k x) (v := .int x) C hd hk hf hsh hs1 ?_ ?_ rfl rfl ?_ mm_sI_o.1 mm_sI_o.2 hH hS hL hc hsl kk
        · rcases ht with rfl | ⟨rfl, ht⟩
          · have e9 : mm_ty ci k = .int := by simpa [mm_kty] using hty
            rw [e9]; rfl
          · have e9 : mm_ty ci k = .boolean := by simpa [mm_kty] using hty
            rw [e9]; rcases ht with rfl | rfl <;> rfl
        · rcases ht with rfl | ⟨rfl, ht⟩
          · have e9 : mm_ty ci k = .int := by simpa [mm_kty] using hty
            rw [e9]; rfl
          · have e9 : mm_ty ci k = .boolean := by simpa [mm_kty] using hty
            rw [e9]; rcases ht with rfl | rfl <;> rfl
        · unfold mm_fc
          rw [if_neg (by rcases ht with rfl | ⟨rfl, -⟩ <;> decide), if_neg (by rcases ht with rfl | ⟨rfl, -⟩ <;> decide), mm_sI_at]; rfl
      · cases hst
    · cases hst
  · next x a r =>
    split at hst
    · next sh hsh =>
      split at hst
      · next hs1 =>
        cases hst
        obtain ⟨hs1, ht⟩ := hs1
        subst ht
        have e9 : mm_ty ci k = .long := by simpa [mm_kty] using hty
        refine mm_put_go (m' := mm_sL m a k x) (v := .long x) C hd hk hf hsh hs1 (by rw [e9]; rfl) (by rw [e9]; rfl) rfl rfl ?_ mm_sL_o.1 mm_sL_o.2 hH hS hL hc hsl kk
        unfold mm_fc
        rw [if_pos (by decide), mm_sL_at]; rfl
      · cases hst
    · cases hst
  · next x a r =>
    split at hst
    · next sh hsh =>
      split at hst
      · next hs1 =>
        cases hst
        obtain ⟨hs1, ht⟩ := hs1
        subst ht
        have e9 : mm_isR (mm_ty ci k) = true := by simpa [mm_kty] using hty
        refine mm_put_go (m' := mm_sR m a k (some x)) (v := .ref x) C hd hk hf hsh hs1 ?_ ?_ rfl rfl ?_ mm_sR_o.1 mm_sR_o.2 hH hS hL hc hsl kk
        · cases h9 : mm_ty ci k <;> rw [h9] at e9 <;> first | rfl | cases e9
        · cases h9 : mm_ty ci k <;> rw [h9] at e9 <;> first | rfl | cases e9
        · unfold mm_fc
          rw [if_neg (by decide), if_pos (by decide), mm_sR_at]; rfl
      · cases hst
    · cases hst
  · cases hst
end SO2
end
section
def mm_aty : Nat → FieldType
  | 20 => .int
  | 21 => .long
  | 22 => .boolean
  | 23 => .char
  | 24 => .object "SamePassers$Hands"
  | 25 => .object "SamePassers$Papers"
  | 26 => .object "SamePassers$Walker"
  | _ => .array .int
theorem mm_tys_get (cA : Nat → ClassId) : ∀ k : Nat, 20 ≤ k → k ≤ 27 → (mm_tys cA)[k - 20]? = some (cA k, mm_aty k)
  | 20, _, _ => rfl
  | 21, _, _ => rfl
  | 22, _, _ => rfl
  | 23, _, _ => rfl
  | 24, _, _ => rfl
  | 25, _, _ => rfl
  | 26, _, _ => rfl
  | 27, _, _ => rfl
  | 0, h, _ => absurd h (by omega)
  | 1, h, _ => absurd h (by omega)
  | 2, h, _ => absurd h (by omega)
  | 3, h, _ => absurd h (by omega)
  | 4, h, _ => absurd h (by omega)
  | 5, h, _ => absurd h (by omega)
  | 6, h, _ => absurd h (by omega)
  | 7, h, _ => absurd h (by omega)
  | 8, h, _ => absurd h (by omega)
  | 9, h, _ => absurd h (by omega)
  | 10, h, _ => absurd h (by omega)
  | 11, h, _ => absurd h (by omega)
  | 12, h, _ => absurd h (by omega)
  | 13, h, _ => absurd h (by omega)
  | 14, h, _ => absurd h (by omega)
  | 15, h, _ => absurd h (by omega)
  | 16, h, _ => absurd h (by omega)
  | 17, h, _ => absurd h (by omega)
  | 18, h, _ => absurd h (by omega)
  | 19, h, _ => absurd h (by omega)
  | _ + 28, _, h => absurd h (by omega)
theorem mm_aty_ref : ∀ k : Nat, 24 ≤ k → (mm_aty k).isReference = true
  | 24, _ => rfl
  | 25, _ => rfl
  | 26, _ => rfl
  | 27, _ => rfl
  | _ + 28, _ => rfl
  | 0, h => absurd h (by omega)
  | 1, h => absurd h (by omega)
  | 2, h => absurd h (by omega)
  | 3, h => absurd h (by omega)
  | 4, h => absurd h (by omega)
  | 5, h => absurd h (by omega)
  | 6, h => absurd h (by omega)
  | 7, h => absurd h (by omega)
  | 8, h => absurd h (by omega)
  | 9, h => absurd h (by omega)
  | 10, h => absurd h (by omega)
  | 11, h => absurd h (by omega)
  | 12, h => absurd h (by omega)
  | 13, h => absurd h (by omega)
  | 14, h => absurd h (by omega)
  | 15, h => absurd h (by omega)
  | 16, h => absurd h (by omega)
  | 17, h => absurd h (by omega)
  | 18, h => absurd h (by omega)
  | 19, h => absurd h (by omega)
  | 20, h => absurd h (by omega)
  | 21, h => absurd h (by omega)
  | 22, h => absurd h (by omega)
  | 23, h => absurd h (by omega)
theorem mm_in_vp {i : Int32} {n : Nat} (h : mm_in i n = true) : vp_in i n := by
  unfold mm_in at h
  show ¬ (i < 0 ∨ n ≤ i.toNatClampNeg)
  exact of_decide_eq_true h
theorem mm_sh0 {m : mm_M} {s : Nat × Nat} (h : mm_sh m 0 = some s) : s = (20, m.2.1.2) := by
  unfold mm_sh at h
  rw [if_pos rfl] at h
  cases h
  rfl
theorem mm_sh_by {m : mm_M} {a : Nat} (h : 50 ≤ a ∧ a ≤ 55) : mm_sh m a = some (31, (mm_str (a - 49)).length) := by
  unfold mm_sh
  rw [if_neg (by omega), if_pos (by omega), if_neg (by omega), if_pos h]
theorem mm_ad_by {N0 : Nat} {sp : Nat → Nat} {a : Nat} (h : 50 ≤ a ∧ a ≤ 55) : mm_ad N0 sp a = sp (50 + (a - 50)) ∧ a - 50 < 6 ∧ a - 50 + 1 = a - 49 := by
  refine ⟨?_, by omega, by omega⟩
  unfold mm_ad
  rw [if_pos (by omega), show 50 + (a - 50) = a by omega]
theorem mm_ad_st {N0 : Nat} {sp : Nat → Nat} {a : Nat} (h : 1 ≤ a ∧ a ≤ 6) : mm_ad N0 sp a = sp (a - 1 + 1) ∧ a - 1 < 6 ∧ mm_ad N0 sp (49 + a) = sp (50 + (a - 1)) := by
  refine ⟨?_, by omega, ?_⟩
  · unfold mm_ad
    rw [if_pos (by omega), show a - 1 + 1 = a by omega]
  · unfold mm_ad
    rw [if_pos (by omega), show 50 + (a - 1) = 49 + a by omega]
theorem mm_sln_e : ∀ i : Nat, i < 6 → mm_sln.getD i 0 = (mm_str (i + 1)).length := by decide +kernel
theorem mm_mapD (l : List Nat) (k : Nat) : (l.map nI).getD k 0 = nI (l.getD k 0) := by
  rw [List.getD_eq_getElem?_getD, List.getD_eq_getElem?_getD, List.getElem?_map]
  cases l[k]? with
  | none => exact nI_0.symm
  | some x => rfl
theorem mm_sby_e : ∀ i : Nat, i < 6 → ∀ k : Nat, ((mm_sby.getD i []).getD k 0 : Int32) = nI ((mm_str (i + 1)).getD k 0)
  | 0, _, k => mm_mapD _ k
  | 1, _, k => mm_mapD _ k
  | 2, _, k => mm_mapD _ k
  | 3, _, k => mm_mapD _ k
  | 4, _, k => mm_mapD _ k
  | 5, _, k => mm_mapD _ k
  | _ + 6, h, _ => absurd h (by omega)
section SO3
variable {p : Program} {l : Launch} {e : Env} {R : Room} {s : State} {mid : MethodId} {args : Array Value} {below : List Frame} {meth : Method} {c : Code} {Q : State → Prop} {D : va_G} {cA : Nat → ClassId} {N0 : Nat} {sp : Nat → Nat} {j nb sb : Nat}
variable {H : Heap} {locs : List Loc} {cells slots pc : Nat} {ls : Array Slot} {L : mm_L} {S : List Value} {m : mm_M} {q : Nat × mm_L × List Value × mm_M}
theorem mm_after {m' : mm_M} {pc' : Nat} {L' : mm_L} {r : List Value} {a : Nat} {sh : Nat × Nat} {en : va_E} {H1 : Heap} {locs1 : List Loc} (hN : N0 ≤ s.heap.size) (ha : 100 ≤ a) (hm1 : m.1[a - 100]? = some sh) (e1 : m'.1 = m.1) (e2 : m'.2.1 = m.2.1) (he : en = mm_cel m' (mm_ad N0 sp) cA a sh)
    (ho2 : ∀ b : Nat, b ≠ a → m'.2.2.1 b = m.2.2.1 b ∧ m'.2.2.2.1 b = m.2.2.2.1 b ∧ m'.2.2.2.2 b = m.2.2.2.2 b) (hH : mm_Hp D cA N0 sp m s H) (hS : va_S (fun x => N0 ≤ x) s.heap H locs) (hL : mm_LS (mm_ad N0 sp) (mm_mx j) ls L') (hc : mm_nc m = nb + cells) (hsl : mm_ns m = sb + slots)
    (kk : mm_KK p l e R s mid args below meth c Q D cA N0 sp j nb sb (pc', L', r, m')) (hP1 : va_P D vwCl ((mm_ws m (mm_ad N0 sp) cA).set (a - 100) (mm_ad N0 sp a, en)) H1) (hS1 : va_S (fun x => N0 ≤ x) s.heap H1 locs1) : W p l e R s mid args below meth c H1 locs1 cells slots Q (F0 mid pc' ls (r.map (mm_tr (mm_ad N0 sp)))) := by
  rw [mm_ws_set ha hm1 e1 he ho2] at hP1
  refine kk H1 locs1 ls cells slots (hH.to hN hS hS1 hP1 e2 (ho2 0 (by omega)).1 (ho2 99 (by omega)).2.2) hS1 hL ?_ ?_
  · unfold mm_nc at hc ⊢
    dsimp only
    rw [e1, e2]; exact hc
  · unfold mm_ns at hsl ⊢
    dsimp only
    rw [e1, e2]; exact hsl
theorem so_iaload (C : mm_Cx p s mid args meth c R j D cA N0 sp nb) (hd : decode (mm_b j) pc = .ok (.iaload, 1)) (hst : mm_ald 20 (fun a i => .int (mm_gI m a i)) (pc + 1) L S m = some (.inl q)) (hH : mm_Hp D cA N0 sp m s H) (hS : va_S (fun x => N0 ≤ x) s.heap H locs) (hL : mm_LS (mm_ad N0 sp) (mm_mx j) ls L) (hc : mm_nc m = nb + cells) (hsl : mm_ns m = sb + slots) (kk : mm_KK p l e R s mid args below meth c Q D cA N0 sp j nb sb q) : W p l e R s mid args below meth c H locs cells slots Q (F0 mid pc ls (S.map (mm_tr (mm_ad N0 sp)))) := by
  obtain ⟨hx, hb, hml, hown, hts, hnm, hAt, hR, hN, hz⟩ := C
  unfold mm_ald at hst
  split at hst
  · next i a r =>
    split at hst
    · next sh hsh =>
      split at hst
      · next hs =>
        cases hst
        obtain ⟨hs1, hs2⟩ := hs
        have hin := mm_in_vp hs2
        by_cases ha0 : a = 0
        · subst ha0
          have hq := mm_sh0 hsh
          subst hq
          obtain ⟨scr, h1, h2, h3, h4, h5⟩ := hH.2.1
          have hlt : i.toNatClampNeg < m.2.1.2 := Nat.not_le.mp fun z => hin (Or.inr z)
          exact W.iald (v := .int (m.2.2.1 0 i.toNatClampNeg)) (a := mm_ad N0 sp 0) hx hb h1 h2 h3 (by rw [h4]; exact hin) (h5 _ hlt) rfl rfl hd (kk _ _ _ _ _ hH hS hL hc hsl)
        · obtain ⟨ha, hm1⟩ := mm_sh_hi hsh ha0 (by omega)
          have hg := mm_ws_get (ad := mm_ad N0 sp) (cA := cA) ha hm1
          rw [mm_cel_in (by omega), hs1] at hg
          exact va_iald hx hb hAt.1 hH.1 (a - 100) 0 hg rfl hin hd (kk _ _ _ _ _ hH hS hL hc hsl)
      · cases hst
    · cases hst
  · cases hst
theorem so_laload (C : mm_Cx p s mid args meth c R j D cA N0 sp nb) (hd : decode (mm_b j) pc = .ok (.laload, 1)) (hst : mm_ald 21 (fun a i => .long (mm_gL m a i)) (pc + 1) L S m = some (.inl q)) (hH : mm_Hp D cA N0 sp m s H) (hS : va_S (fun x => N0 ≤ x) s.heap H locs) (hL : mm_LS (mm_ad N0 sp) (mm_mx j) ls L) (hc : mm_nc m = nb + cells) (hsl : mm_ns m = sb + slots) (kk : mm_KK p l e R s mid args below meth c Q D cA N0 sp j nb sb q) : W p l e R s mid args below meth c H locs cells slots Q (F0 mid pc ls (S.map (mm_tr (mm_ad N0 sp)))) := by
  obtain ⟨hx, hb, hml, hown, hts, hnm, hAt, hR, hN, hz⟩ := C
  unfold mm_ald at hst
  split at hst
  · next i a r =>
    split at hst
    · next sh hsh =>
      split at hst
      · next hs =>
        cases hst
        obtain ⟨hs1, hs2⟩ := hs
        have hin := mm_in_vp hs2
        obtain ⟨ha, hm1⟩ := mm_sh_ob hsh (by omega) (by omega)
        have hg := mm_ws_get (ad := mm_ad N0 sp) (cA := cA) ha hm1
        rw [mm_cel_lo (hs1)] at hg
        exact va_lald hx hb hAt.1 hH.1 (a - 100) 1 hg rfl hin hd (kk _ _ _ _ _ hH hS hL hc hsl)
      · cases hst
    · cases hst
  · cases hst
theorem so_zaload (C : mm_Cx p s mid args meth c R j D cA N0 sp nb) (hd : decode (mm_b j) pc = .ok (.baload, 1)) (hst : mm_ald 22 (fun a i => .int (mm_gI m a i)) (pc + 1) L S m = some (.inl q)) (hH : mm_Hp D cA N0 sp m s H) (hS : va_S (fun x => N0 ≤ x) s.heap H locs) (hL : mm_LS (mm_ad N0 sp) (mm_mx j) ls L) (hc : mm_nc m = nb + cells) (hsl : mm_ns m = sb + slots) (kk : mm_KK p l e R s mid args below meth c Q D cA N0 sp j nb sb q) : W p l e R s mid args below meth c H locs cells slots Q (F0 mid pc ls (S.map (mm_tr (mm_ad N0 sp)))) := by
  obtain ⟨hx, hb, hml, hown, hts, hnm, hAt, hR, hN, hz⟩ := C
  unfold mm_ald at hst
  split at hst
  · next i a r =>
    split at hst
    · next sh hsh =>
      split at hst
      · next hs =>
        cases hst
        obtain ⟨hs1, hs2⟩ := hs
        have hin := mm_in_vp hs2
        obtain ⟨ha, hm1⟩ := mm_sh_ob hsh (by omega) (by omega)
        have hg := mm_ws_get (ad := mm_ad N0 sp) (cA := cA) ha hm1
        rw [mm_cel_in (by omega), hs1] at hg
        exact va_zald hx hb hAt.1 hH.1 (a - 100) 2 hg rfl hin hd (kk _ _ _ _ _ hH hS hL hc hsl)
      · cases hst
    · cases hst
  · cases hst
theorem so_caload (C : mm_Cx p s mid args meth c R j D cA N0 sp nb) (hd : decode (mm_b j) pc = .ok (.caload, 1)) (hst : mm_ald 23 (fun a i => .int (mm_gI m a i)) (pc + 1) L S m = some (.inl q)) (hH : mm_Hp D cA N0 sp m s H) (hS : va_S (fun x => N0 ≤ x) s.heap H locs) (hL : mm_LS (mm_ad N0 sp) (mm_mx j) ls L) (hc : mm_nc m = nb + cells) (hsl : mm_ns m = sb + slots) (kk : mm_KK p l e R s mid args below meth c Q D cA N0 sp j nb sb q) : W p l e R s mid args below meth c H locs cells slots Q (F0 mid pc ls (S.map (mm_tr (mm_ad N0 sp)))) := by
  obtain ⟨hx, hb, hml, hown, hts, hnm, hAt, hR, hN, hz⟩ := C
  unfold mm_ald at hst
  split at hst
  · next i a r =>
    split at hst
    · next sh hsh =>
      split at hst
      · next hs =>
        cases hst
        obtain ⟨hs1, hs2⟩ := hs
        have hin := mm_in_vp hs2
        obtain ⟨ha, hm1⟩ := mm_sh_ob hsh (by omega) (by omega)
        have hg := mm_ws_get (ad := mm_ad N0 sp) (cA := cA) ha hm1
        rw [mm_cel_in (by omega), hs1] at hg
        exact va_cald hx hb hAt.1 hH.1 (a - 100) 3 hg rfl hin hd (kk _ _ _ _ _ hH hS hL hc hsl)
      · cases hst
    · cases hst
  · cases hst
theorem so_aaload (C : mm_Cx p s mid args meth c R j D cA N0 sp nb) (hd : decode (mm_b j) pc = .ok (.aaload, 1)) (hst : mm_rld (pc + 1) L S m = some (.inl q)) (hH : mm_Hp D cA N0 sp m s H) (hS : va_S (fun x => N0 ≤ x) s.heap H locs) (hL : mm_LS (mm_ad N0 sp) (mm_mx j) ls L) (hc : mm_nc m = nb + cells) (hsl : mm_ns m = sb + slots) (kk : mm_KK p l e R s mid args below meth c Q D cA N0 sp j nb sb q) : W p l e R s mid args below meth c H locs cells slots Q (F0 mid pc ls (S.map (mm_tr (mm_ad N0 sp)))) := by
  obtain ⟨hx, hb, hml, hown, hts, hnm, hAt, hR, hN, hz⟩ := C
  unfold mm_rld at hst
  split at hst
  · next i a r =>
    split at hst
    · next sh hsh =>
      split at hst
      · next hs =>
        cases hst
        obtain ⟨⟨hs0, hs1⟩, hs2, -⟩ := hs
        have hin := mm_in_vp hs2
        obtain ⟨ha, hm1⟩ := mm_sh_ob hsh (by omega) (by omega)
        have hg := mm_ws_get (ad := mm_ad N0 sp) (cA := cA) ha hm1
        rw [mm_cel_rf hs0] at hg
        have hlt : i.toNatClampNeg < sh.2 := Nat.not_le.mp fun z => hin (Or.inr z)
        have hT := mm_tys_get cA sh.1 (by omega) hs1
        have hrk : (mm_aty sh.1).isReference = true := mm_aty_ref sh.1 hs0
        have e9 : mm_tr (mm_ad N0 sp) (va_rf (mm_gR m a i.toNatClampNeg)) = va_rf ((m.2.2.2.2 a i.toNatClampNeg).map (mm_ad N0 sp)) := mm_tr_rf _ _
        refine W.aald (v := va_rf ((m.2.2.2.2 a i.toNatClampNeg).map (mm_ad N0 sp))) (ty := mm_aty sh.1) (a := mm_ad N0 sp a) hx hb (hH.1 _ _ hg) ((hAt.1.2 _ _ hT).1 sh.2 (fun k => va_rf ((m.2.2.2.2 a k).map (mm_ad N0 sp)))) hrk (fun z => by cases z) (by show ¬ (i < 0 ∨ (arrV _ _ _).slots.size ≤ _); rw [arrV_size]; exact hin) (by show (arrV _ _ _).slots[_]? = _; rw [arrV_read _ _ hlt]) rfl rfl hd ?_
        have k9 := kk _ _ _ _ _ hH hS hL hc hsl
        simp only [List.map_cons] at k9
        rw [e9] at k9
        exact k9
      · cases hst
    · cases hst
  · cases hst
theorem so_iastore (C : mm_Cx p s mid args meth c R j D cA N0 sp nb) (hd : decode (mm_b j) pc = .ok (.iastore, 1)) (hst : mm_ast 20 (fun x => x) (pc + 1) L S m = some (.inl q)) (hH : mm_Hp D cA N0 sp m s H) (hS : va_S (fun x => N0 ≤ x) s.heap H locs) (hL : mm_LS (mm_ad N0 sp) (mm_mx j) ls L) (hc : mm_nc m = nb + cells) (hsl : mm_ns m = sb + slots) (kk : mm_KK p l e R s mid args below meth c Q D cA N0 sp j nb sb q) : W p l e R s mid args below meth c H locs cells slots Q (F0 mid pc ls (S.map (mm_tr (mm_ad N0 sp)))) := by
  obtain ⟨hx, hb, hml, hown, hts, hnm, hAt, hR, hN, hz⟩ := C
  unfold mm_ast at hst
  split at hst
  · next x i a r =>
    split at hst
    · next sh hsh =>
      split at hst
      · next hs =>
        cases hst
        obtain ⟨ha, hs1, hs2⟩ := hs
        have hin := mm_in_vp hs2
        have ha3 : ¬ a = 0 := fun z => by rw [z] at ha; exact absurd ha (by decide)
        obtain ⟨-, hm1⟩ := mm_sh_hi hsh ha3 (by omega)
        have hg := mm_ws_get (ad := mm_ad N0 sp) (cA := cA) ha hm1
        rw [mm_cel_in (by omega), hs1] at hg
        refine va_iast hx hb hAt.1 hH.1 (mm_ws_D m N0 sp cA) hS (a - 100) 0 hg rfl hin hd (fun H1 locs1 hP1 _ hS1 => ?_)
        exact mm_after (m' := mm_sI m a i.toNatClampNeg (x)) hN ha hm1 rfl rfl (by rw [mm_cel_in (by omega), hs1]; congr 4; exact (mm_u_eq).symm) mm_sI_o.2 hH hS hL hc hsl kk hP1 hS1
      · cases hst
    · cases hst
  · cases hst
theorem so_bastore (C : mm_Cx p s mid args meth c R j D cA N0 sp nb) (hd : decode (mm_b j) pc = .ok (.bastore, 1)) (hst : mm_ast 22 (vp_nar .boolean) (pc + 1) L S m = some (.inl q)) (hH : mm_Hp D cA N0 sp m s H) (hS : va_S (fun x => N0 ≤ x) s.heap H locs) (hL : mm_LS (mm_ad N0 sp) (mm_mx j) ls L) (hc : mm_nc m = nb + cells) (hsl : mm_ns m = sb + slots) (kk : mm_KK p l e R s mid args below meth c Q D cA N0 sp j nb sb q) : W p l e R s mid args below meth c H locs cells slots Q (F0 mid pc ls (S.map (mm_tr (mm_ad N0 sp)))) := by
  obtain ⟨hx, hb, hml, hown, hts, hnm, hAt, hR, hN, hz⟩ := C
  unfold mm_ast at hst
  split at hst
  · next x i a r =>
    split at hst
    · next sh hsh =>
      split at hst
      · next hs =>
        cases hst
        obtain ⟨ha, hs1, hs2⟩ := hs
        have hin := mm_in_vp hs2
        have ha3 : ¬ a = 0 := fun z => by rw [z] at ha; exact absurd ha (by decide)
        obtain ⟨-, hm1⟩ := mm_sh_hi hsh ha3 (by omega)
        have hg := mm_ws_get (ad := mm_ad N0 sp) (cA := cA) ha hm1
        rw [mm_cel_in (by omega), hs1] at hg
        refine va_zast hx hb hAt.1 hH.1 (mm_ws_D m N0 sp cA) hS (a - 100) 2 hg rfl hin hd (fun H1 locs1 hP1 _ hS1 => ?_)
        exact mm_after (m' := mm_sI m a i.toNatClampNeg (vp_nar .boolean x)) hN ha hm1 rfl rfl (by rw [mm_cel_in (by omega), hs1]; congr 4; exact (mm_u_eq).symm) mm_sI_o.2 hH hS hL hc hsl kk hP1 hS1
      · cases hst
    · cases hst
  · cases hst
theorem so_castore (C : mm_Cx p s mid args meth c R j D cA N0 sp nb) (hd : decode (mm_b j) pc = .ok (.castore, 1)) (hst : mm_ast 23 (vp_nar .char) (pc + 1) L S m = some (.inl q)) (hH : mm_Hp D cA N0 sp m s H) (hS : va_S (fun x => N0 ≤ x) s.heap H locs) (hL : mm_LS (mm_ad N0 sp) (mm_mx j) ls L) (hc : mm_nc m = nb + cells) (hsl : mm_ns m = sb + slots) (kk : mm_KK p l e R s mid args below meth c Q D cA N0 sp j nb sb q) : W p l e R s mid args below meth c H locs cells slots Q (F0 mid pc ls (S.map (mm_tr (mm_ad N0 sp)))) := by
  obtain ⟨hx, hb, hml, hown, hts, hnm, hAt, hR, hN, hz⟩ := C
  unfold mm_ast at hst
  split at hst
  · next x i a r =>
    split at hst
    · next sh hsh =>
      split at hst
      · next hs =>
        cases hst
        obtain ⟨ha, hs1, hs2⟩ := hs
        have hin := mm_in_vp hs2
        have ha3 : ¬ a = 0 := fun z => by rw [z] at ha; exact absurd ha (by decide)
        obtain ⟨-, hm1⟩ := mm_sh_hi hsh ha3 (by omega)
        have hg := mm_ws_get (ad := mm_ad N0 sp) (cA := cA) ha hm1
        rw [mm_cel_in (by omega), hs1] at hg
        refine va_cast hx hb hAt.1 hH.1 (mm_ws_D m N0 sp cA) hS (a - 100) 3 hg rfl hin hd (fun H1 locs1 hP1 _ hS1 => ?_)
        exact mm_after (m' := mm_sI m a i.toNatClampNeg (vp_nar .char x)) hN ha hm1 rfl rfl (by rw [mm_cel_in (by omega), hs1]; congr 4; exact (mm_u_eq).symm) mm_sI_o.2 hH hS hL hc hsl kk hP1 hS1
      · cases hst
    · cases hst
  · cases hst
theorem so_lastore (C : mm_Cx p s mid args meth c R j D cA N0 sp nb) (hd : decode (mm_b j) pc = .ok (.lastore, 1)) (hst : mm_lst (pc + 1) L S m = some (.inl q)) (hH : mm_Hp D cA N0 sp m s H) (hS : va_S (fun x => N0 ≤ x) s.heap H locs) (hL : mm_LS (mm_ad N0 sp) (mm_mx j) ls L) (hc : mm_nc m = nb + cells) (hsl : mm_ns m = sb + slots) (kk : mm_KK p l e R s mid args below meth c Q D cA N0 sp j nb sb q) : W p l e R s mid args below meth c H locs cells slots Q (F0 mid pc ls (S.map (mm_tr (mm_ad N0 sp)))) := by
  obtain ⟨hx, hb, hml, hown, hts, hnm, hAt, hR, hN, hz⟩ := C
  unfold mm_lst at hst
  split at hst
  · next x i a r =>
    split at hst
    · next sh hsh =>
      split at hst
      · next hs =>
        cases hst
        obtain ⟨hs1, hs2⟩ := hs
        have hin := mm_in_vp hs2
        obtain ⟨ha, hm1⟩ := mm_sh_ob hsh (by omega) (by omega)
        have hg := mm_ws_get (ad := mm_ad N0 sp) (cA := cA) ha hm1
        rw [mm_cel_lo hs1] at hg
        refine va_last hx hb hAt.1 hH.1 (mm_ws_D m N0 sp cA) hS (a - 100) 1 hg rfl hin hd (fun H1 locs1 hP1 _ hS1 => ?_)
        exact mm_after (m' := mm_sL m a i.toNatClampNeg x) hN ha hm1 rfl rfl (by rw [mm_cel_lo hs1]; congr 5; exact (mm_u_eq).symm) mm_sL_o.2 hH hS hL hc hsl kk hP1 hS1
      · cases hst
    · cases hst
  · cases hst
theorem so_aastore (C : mm_Cx p s mid args meth c R j D cA N0 sp nb) (hd : decode (mm_b j) pc = .ok (.aastore, 1)) (hst : mm_rst (pc + 1) L S m = some (.inl q)) (hH : mm_Hp D cA N0 sp m s H) (hS : va_S (fun x => N0 ≤ x) s.heap H locs) (hL : mm_LS (mm_ad N0 sp) (mm_mx j) ls L) (hc : mm_nc m = nb + cells) (hsl : mm_ns m = sb + slots) (kk : mm_KK p l e R s mid args below meth c Q D cA N0 sp j nb sb q) : W p l e R s mid args below meth c H locs cells slots Q (F0 mid pc ls (S.map (mm_tr (mm_ad N0 sp)))) := by
  obtain ⟨hx, hb, hml, hown, hts, hnm, hAt, hR, hN, hz⟩ := C
  unfold mm_rst at hst
  split at hst
  · next x i a r =>
    split at hst
    · next sh sx hsh hsx =>
      split at hst
      · next hs =>
        cases hst
        obtain ⟨hs1, hs2⟩ := hs
        have hin := mm_in_vp hs2
        obtain ⟨ha, hm1⟩ := mm_sh_ob hsh (by omega) (by omega)
        obtain ⟨hax, hmx⟩ := mm_sh_ob hsx (by omega) (by omega)
        have hg := mm_ws_get (ad := mm_ad N0 sp) (cA := cA) ha hm1
        have hgx := mm_ws_get (ad := mm_ad N0 sp) (cA := cA) hax hmx
        rw [mm_cel_rf (by omega)] at hg
        rw [mm_cel_ob (by omega)] at hgx
        have hT := mm_tys_get cA sh.1 (by omega) (by omega)
        have hcl : mm_aty sh.1 = .object (mm_cn sx.1) := by
          rcases hs1 with ⟨h1, h2⟩ | ⟨h1, h2⟩ | ⟨h1, h2⟩ <;> rw [h1, h2] <;> rfl
        rw [hcl] at hT
        refine va_astq hx hb hAt.1 hH.1 (mm_ws_D m N0 sp cA) hS (a - 100) (sh.1 - 20) (x - 100) sx.1 hg hT hgx (mm_vw sx.1 (by omega)) hin hd (fun H1 locs1 hP1 _ hS1 => ?_)
        refine mm_after (m' := mm_sR m a i.toNatClampNeg (some x)) hN ha hm1 rfl rfl ?_ mm_sR_o.2 hH hS hL hc hsl kk hP1 hS1
        rw [mm_cel_rf (by omega)]
        congr 7
        funext k
        show va_up _ _ _ k = Option.map _ (mm_u m.2.2.2.2 a i.toNatClampNeg (some x) a k)
        rw [mm_u_eq]
        unfold va_up
        by_cases hk : k = i.toNatClampNeg
        · simp only [if_pos hk]; rfl
        · simp only [if_neg hk]
      · cases hst
    · cases hst
  · cases hst
theorem so_arraylength (C : mm_Cx p s mid args meth c R j D cA N0 sp nb) (hd : decode (mm_b j) pc = .ok (.arraylength, 1)) (hst : mm_len (pc + 1) L S m = some (.inl q)) (hH : mm_Hp D cA N0 sp m s H) (hS : va_S (fun x => N0 ≤ x) s.heap H locs) (hL : mm_LS (mm_ad N0 sp) (mm_mx j) ls L) (hc : mm_nc m = nb + cells) (hsl : mm_ns m = sb + slots) (kk : mm_KK p l e R s mid args below meth c Q D cA N0 sp j nb sb q) : W p l e R s mid args below meth c H locs cells slots Q (F0 mid pc ls (S.map (mm_tr (mm_ad N0 sp)))) := by
  obtain ⟨hx, hb, hml, hown, hts, hnm, hAt, hR, hN, hz⟩ := C
  unfold mm_len at hst
  split at hst
  · next a r =>
    split at hst
    · next sh hsh =>
      split at hst
      · next hs =>
        cases hst
        by_cases hsp : 50 ≤ a ∧ a ≤ 55
        · have hsh2 : sh = (31, (mm_str (a - 49)).length) := Option.some.inj (hsh.symm.trans (mm_sh_by hsp))
          subst hsh2
          obtain ⟨e9, hi6, e49⟩ := mm_ad_by (N0 := N0) (sp := sp) hsp
          obtain ⟨cell, h1, h2, h3, h4, h5, h6, h7⟩ := (hH.2.2.2.1.1 (a - 50) hi6).2.2.2
          show W p l e R s mid args below meth c H locs cells slots Q (F0 mid pc ls (.ref (mm_ad N0 sp a) :: r.map (mm_tr (mm_ad N0 sp))))
          rw [e9]
          rw [mm_sln_e (a - 50) hi6, e49] at h5
          exact W.alen (n := Int32.ofNat (mm_str (a - 49)).length) hx hb h1 h2 h5 rfl rfl hd (kk _ _ _ _ _ hH hS hL hc hsl)
        obtain ⟨hs0, hs1⟩ : 20 ≤ sh.1 ∧ sh.1 ≤ 27 := hs.resolve_right hsp
        by_cases ha0 : a = 0
        · subst ha0
          have hq := mm_sh0 hsh
          subst hq
          obtain ⟨scr, h1, h2, h3, h4, h5⟩ := hH.2.1
          exact W.alen (n := Int32.ofNat m.2.1.2) (a := mm_ad N0 sp 0) hx hb h1 h2 (by rw [h4] <;> rfl) rfl rfl hd (kk _ _ _ _ _ hH hS hL hc hsl)
        · obtain ⟨ha, hm1⟩ := mm_sh_hi hsh ha0 (by omega)
          have hg := mm_ws_get (ad := mm_ad N0 sp) (cA := cA) ha hm1
          have hT := mm_tys_get cA sh.1 hs0 hs1
          by_cases h21 : sh.1 = 21
          · rw [mm_cel_lo h21, ← h21] at hg
            exact va_alen hx hb hAt.1 hH.1 (a - 100) (sh.1 - 20) hg hT rfl hd (kk _ _ _ _ _ hH hS hL hc hsl)
          · by_cases h24 : 24 ≤ sh.1
            · rw [mm_cel_rf h24] at hg
              exact va_alen hx hb hAt.1 hH.1 (a - 100) (sh.1 - 20) hg hT rfl hd (kk _ _ _ _ _ hH hS hL hc hsl)
            · rw [mm_cel_in (by omega)] at hg
              exact va_alen hx hb hAt.1 hH.1 (a - 100) (sh.1 - 20) hg hT rfl hd (kk _ _ _ _ _ hH hS hL hc hsl)
      · cases hst
    · cases hst
  · cases hst
theorem so_gst {ix k : Nat} (C : mm_Cx p s mid args meth c R j D cA N0 sp nb) (hd : decode (mm_b j) pc = .ok (.getfield ix, 3)) (hk : mm_fs.contains (mm_ow j, ix, 30, k) = true ∧ (k = 0 ∨ k = 1)) (hst : mm_gst k (pc + 3) L S m = some (.inl q)) (hH : mm_Hp D cA N0 sp m s H) (hS : va_S (fun x => N0 ≤ x) s.heap H locs) (hL : mm_LS (mm_ad N0 sp) (mm_mx j) ls L) (hc : mm_nc m = nb + cells) (hsl : mm_ns m = sb + slots) (kk : mm_KK p l e R s mid args below meth c Q D cA N0 sp j nb sb q) : W p l e R s mid args below meth c H locs cells slots Q (F0 mid pc ls (S.map (mm_tr (mm_ad N0 sp)))) := by
  obtain ⟨hx, hb, hml, hown, hts, hnm, hAt, hR, hN, hz⟩ := C
  unfold mm_gst at hst
  split at hst
  · next a r =>
    split at hst
    · next ha =>
      cases hst
      have hlk := hts _ (mm_g_in (mm_fs_w _ (List.contains_iff_mem.mp hk.1)) rfl)
      obtain ⟨e9, hi6, e8⟩ := mm_ad_st (N0 := N0) (sp := sp) ha
      have hE := hH.2.2.2.1.1 (a - 1) hi6
      have k9 := kk _ _ _ _ _ hH hS hL hc hsl
      show W p l e R s mid args below meth c H locs cells slots Q (F0 mid pc ls (.ref (mm_ad N0 sp a) :: r.map (mm_tr (mm_ad N0 sp))))
      rw [e9]
      rcases hk.2 with rfl | rfl
      · simp only [List.map_cons, if_true, mm_tr, e8] at k9
        obtain ⟨cf, k, i, f, cell, h1, h2, h3, h4, h5, h6⟩ := hE.2.2.1
        exact W.getf hx hb hown hlk h1 h2 h3 h4 (v := .ref (sp (50 + (a - 1)))) h5 rfl rfl hd k9
      · simp only [List.map_cons, mm_tr] at k9
        obtain ⟨cf, k, i, f, cell, h1, h2, h3, h4, h5, h6⟩ := hE.2.1
        exact W.getf hx hb hown hlk h1 h2 h3 h4 (v := .int 0) h5 rfl rfl hd k9
    · cases hst
  · cases hst
theorem so_baload (C : mm_Cx p s mid args meth c R j D cA N0 sp nb) (hd : decode (mm_b j) pc = .ok (.baload, 1)) (hst : mm_bld (pc + 1) L S m = some (.inl q)) (hH : mm_Hp D cA N0 sp m s H) (hS : va_S (fun x => N0 ≤ x) s.heap H locs) (hL : mm_LS (mm_ad N0 sp) (mm_mx j) ls L) (hc : mm_nc m = nb + cells) (hsl : mm_ns m = sb + slots) (kk : mm_KK p l e R s mid args below meth c Q D cA N0 sp j nb sb q) : W p l e R s mid args below meth c H locs cells slots Q (F0 mid pc ls (S.map (mm_tr (mm_ad N0 sp)))) := by
  unfold mm_bld at hst
  split at hst
  · next i a r =>
    split at hst
    · next ha =>
      split at hst
      · next hin =>
        cases hst
        have C9 := C
        obtain ⟨hx, hb, hml, hown, hts, hnm, hAt, hR, hN, hz⟩ := C9
        obtain ⟨e9, hi6, e49⟩ := mm_ad_by (N0 := N0) (sp := sp) ha
        obtain ⟨cell, h1, h2, h3, h4, h5, h6, h7⟩ := (hH.2.2.2.1.1 (a - 50) hi6).2.2.2
        have hl := mm_sln_e (a - 50) hi6
        rw [e49] at hl
        rw [hl] at h4 h6
        have hv := mm_in_vp hin
        have hlt : i.toNatClampNeg < (mm_str (a - 49)).length := Nat.not_le.mp fun z => hv (Or.inr z)
        have h8 := h6 _ hlt
        have e7 := mm_sby_e (a - 50) hi6 i.toNatClampNeg
        rw [e49] at e7
        dsimp only at h8
        rw [e7] at h8
        show W p l e R s mid args below meth c H locs cells slots Q (F0 mid pc ls (.int i :: .ref (mm_ad N0 sp a) :: r.map (mm_tr (mm_ad N0 sp))))
        rw [e9]
        exact W.bald (v := .int (nI ((mm_str (a - 49)).getD i.toNatClampNeg 0))) hx hb h1 h2 h3 (fun z => by
          rcases z with z | z
          · exact hv (Or.inl z)
          · omega) h8 rfl rfl hd (kk _ _ _ _ _ hH hS hL hc hsl)
      · cases hst
    · exact so_zaload C hd hst hH hS hL hc hsl kk
  · cases hst
theorem so_getstatic {ix r1 r2 : Nat} (C : mm_Cx p s mid args meth c R j D cA N0 sp nb) (hd : decode (mm_b j) pc = .ok (.getstatic ix, 3)) (hk : mm_fs.contains (mm_ow j, ix, r1, r2) = true ∧ (r1 = 0 ∨ r1 = 1)) (hst : mm_nx (pc + 3) L ((if r1 = 0 then .int 1 else va_rf (mm_gR m 99 0)) :: S) m = some (.inl q)) (hH : mm_Hp D cA N0 sp m s H) (hS : va_S (fun x => N0 ≤ x) s.heap H locs) (hL : mm_LS (mm_ad N0 sp) (mm_mx j) ls L) (hc : mm_nc m = nb + cells) (hsl : mm_ns m = sb + slots) (kk : mm_KK p l e R s mid args below meth c Q D cA N0 sp j nb sb q) : W p l e R s mid args below meth c H locs cells slots Q (F0 mid pc ls (S.map (mm_tr (mm_ad N0 sp)))) := by
  obtain ⟨hx, hb, hml, hown, hts, hnm, hAt, hR, hN, hz⟩ := C
  cases hst
  have hlk := hts _ (mm_g_in (mm_fs_w _ (List.contains_iff_mem.mp hk.1)) rfl)
  have k9 := kk _ _ _ _ _ hH hS hL hc hsl
  rcases hk.2 with rfl | rfl
  · simp only [List.map_cons, if_true, mm_tr] at k9
    obtain ⟨cf, kf, fi, f, a, cell, h1, h2, h3, h4, h5, h6, h7, h8⟩ := hH.2.2.2.2.1
    exact W.gets hx hb hown hlk h1 h2 h3 h4 h5 (fun e => by rw [e] at h6; cases h6) h7 rfl hd k9
  · simp only [List.map_cons, if_neg (show ¬ (1 : Nat) = 0 by decide), mm_tr_rf] at k9
    obtain ⟨cf, kf, fi, f, a, cell, h1, h2, h3, h4, h5, h6, h7, h8⟩ := hH.2.2.2.2.2.1
    exact W.gets hx hb hown hlk h1 h2 h3 h4 h5 (fun e => by rw [e] at h6; cases h6) h7 rfl hd k9
end SO3
end
section
theorem mm_w_ai : Cond.arrayClass .int ∈ mm_g := mm_g_in (List.mem_of_getElem? (i := 298) (by decide +kernel)) (by decide +kernel)
theorem mm_w_al : Cond.arrayClass .long ∈ mm_g := mm_g_in (List.mem_of_getElem? (i := 255) (by decide +kernel)) (by decide +kernel)
theorem mm_w_az : Cond.arrayClass .boolean ∈ mm_g := mm_g_in (List.mem_of_getElem? (i := 1662) (by decide +kernel)) (by decide +kernel)
theorem mm_w_ac : Cond.arrayClass .char ∈ mm_g := mm_g_in (List.mem_of_getElem? (i := 254) (by decide +kernel)) (by decide +kernel)
theorem mm_w_oi : Cond.instanceMethod Lib.objectInit ∈ mm_g := mm_g_in (List.mem_of_getElem? (i := 166) (by decide +kernel)) (by decide +kernel)
theorem mm_w_oc : Cond.code Lib.objectInit ⟨#[0xb1]⟩ 1 none ∈ mm_g := mm_g_in (List.mem_of_getElem? (i := 167) (by decide +kernel)) (by decide +kernel)
theorem mm_w_mi : Cond.initialized "java/lang/Math" ∈ mm_g := mm_g_in (List.mem_of_getElem? (i := 151) (by decide +kernel)) (by decide +kernel)
theorem mm_w_si : Cond.initialized "java/lang/System" ∈ mm_g := mm_g_in (List.mem_of_getElem? (i := 154) (by decide +kernel)) (by decide +kernel)
theorem mm_w_mxs : Cond.static Lib.Math.max.name ∈ mm_g := mm_g_in (List.mem_of_getElem? (i := 789) (by decide +kernel)) (by decide +kernel)
theorem mm_w_mxc : Cond.code Lib.Math.max.name Lib.Math.max.code 2 (some .int) ∈ mm_g := mm_g_in (List.mem_of_getElem? (i := 790) (by decide +kernel)) (by decide +kernel)
theorem mm_w_mns : Cond.static Lib.Math.min.name ∈ mm_g := mm_g_in (List.mem_of_getElem? (i := 792) (by decide +kernel)) (by decide +kernel)
theorem mm_w_mnc : Cond.code Lib.Math.min.name Lib.Math.min.code 2 (some .int) ∈ mm_g := mm_g_in (List.mem_of_getElem? (i := 793) (by decide +kernel)) (by decide +kernel)
theorem mm_w_abs : Cond.static Lib.Math.abs.name ∈ mm_g := mm_g_in (List.mem_of_getElem? (i := 1099) (by decide +kernel)) (by decide +kernel)
theorem mm_w_abc : Cond.code Lib.Math.abs.name Lib.Math.abs.code 1 (some .int) ∈ mm_g := mm_g_in (List.mem_of_getElem? (i := 1100) (by decide +kernel)) (by decide +kernel)
theorem mm_w_cps : Cond.static arraycopyName ∈ mm_g := mm_g_in (List.mem_of_getElem? (i := 1059) (by decide +kernel)) (by decide +kernel)
theorem mm_w_cpn : Cond.native arraycopyName ∈ mm_g := mm_g_in (List.mem_of_getElem? (i := 1060) (by decide +kernel)) (by decide +kernel)
theorem mm_cl_lo {α : Type} {f : Nat → Nat → α} {a b : Nat} {v : α} (h : b < a) : mm_cl f a v b = f b := by
  funext k
  unfold mm_cl
  rw [if_neg (by omega)]
theorem mm_cl_hi {α : Type} {f : Nat → Nat → α} {a b : Nat} {v : α} (h : a ≤ b) : mm_cl f a v b = fun _ => v := by
  funext k
  unfold mm_cl
  rw [if_pos h]
/-- the cell of a new one -/
def mm_nl0 (ad : Nat → Nat) (cA : Nat → ClassId) (s : Nat × Nat) : va_E := mm_cc (fun _ => 0) (fun _ => 0) (fun _ => none) ad cA s
theorem mm_ws_new (m : mm_M) (s : Nat × Nat) (ad : Nat → Nat) (cA : Nat → ClassId) : mm_ws (mm_new m s) ad cA = mm_ws m ad cA ++ [(ad (100 + m.1.length), mm_nl0 ad cA s)] := by
  apply List.ext_getElem?
  intro i
  have hlen : (mm_ws m ad cA).length = m.1.length := List.length_mapIdx
  by_cases hi : i < m.1.length
  · rw [List.getElem?_append_left (by rw [hlen]; exact hi)]
    unfold mm_ws
    rw [List.getElem?_mapIdx, List.getElem?_mapIdx]
    show Option.map _ ((m.1 ++ [s])[i]?) = _
    rw [List.getElem?_append_left hi]
    have h9 : 100 + i < mm_next m := by unfold mm_next; omega
    show Option.map (fun s => (ad (100 + i), mm_cc (mm_cl m.2.2.1 (mm_next m) 0 (100 + i)) (mm_cl m.2.2.2.1 (mm_next m) 0 (100 + i)) (mm_cl m.2.2.2.2 (mm_next m) none (100 + i)) ad cA s)) _ = _
    rw [mm_cl_lo h9, mm_cl_lo h9, mm_cl_lo h9]
  · rw [List.getElem?_append_right (by rw [hlen]; omega), hlen]
    unfold mm_ws
    rw [List.getElem?_mapIdx]
    show Option.map _ ((m.1 ++ [s])[i]?) = _
    rw [List.getElem?_append_right (by omega)]
    by_cases he : i = m.1.length
    · subst he
      rw [Nat.sub_self]
      have h9 : mm_next m ≤ 100 + m.1.length := by unfold mm_next; omega
      show some (ad (100 + m.1.length), mm_cc (mm_cl m.2.2.1 (mm_next m) 0 (100 + m.1.length)) (mm_cl m.2.2.2.1 (mm_next m) 0 (100 + m.1.length)) (mm_cl m.2.2.2.2 (mm_next m) none (100 + m.1.length)) ad cA s) = _
      rw [mm_cl_hi h9, mm_cl_hi h9, mm_cl_hi h9]
      rfl
    · obtain ⟨k, hk⟩ : ∃ k, i - m.1.length = k + 1 := ⟨i - m.1.length - 1, by omega⟩
      rw [hk]
      rfl
section SO4
variable {p : Program} {l : Launch} {e : Env} {R : Room} {s : State} {mid : MethodId} {args : Array Value} {below : List Frame} {meth : Method} {c : Code} {Q : State → Prop} {D : va_G} {cA : Nat → ClassId} {N0 : Nat} {sp : Nat → Nat} {j nb sb : Nat}
variable {H : Heap} {locs : List Loc} {cells slots pc : Nat} {ls : Array Slot} {L : mm_L} {S : List Value} {m : mm_M} {q : Nat × mm_L × List Value × mm_M}
theorem mm_low (hH : mm_Hp D cA N0 sp m s H) (hN : N0 ≤ s.heap.size) (hS : va_S (fun x => N0 ≤ x) s.heap H locs) : N0 + m.1.length ≤ H.size := by
  cases hl : m.1.length with
  | zero => exact Nat.le_trans hN hS.1
  | succ n =>
    have hn : n < m.1.length := by omega
    have hg := mm_ws_get (m := m) (ad := mm_ad N0 sp) (cA := cA) (a := 100 + n) (s := m.1[n]) (by omega) (by rw [show 100 + n - 100 = n by omega]; exact List.getElem?_eq_getElem hn)
    have h1 := (hH.1 _ _ hg).lt
    have h2 : mm_ad N0 sp (100 + n) = N0 + n := by rw [mm_ad_hi (by omega)]; omega
    dsimp only at h1
    omega
/-- the heap's size, where nothing was thrown yet -/
theorem mm_size {T : State} (hz : s.heap.size ≤ N0 + nb) (hH : mm_Hp D cA N0 sp m s H) (hN : N0 ≤ s.heap.size) (hS : va_S (fun x => N0 ≤ x) s.heap H locs) (hc : mm_nc m = nb + cells) (h0 : m.2.1.1 = 0) (hT : T.heap = H) (X : Stand p l e R s mid args below meth c T locs cells slots) : H.size = N0 + m.1.length := by
  have h1 := mm_low hH hN hS
  have h2 := X.heapSize
  rw [hT] at h2
  unfold mm_nc at hc
  omega
/-- behind a new cell -/
theorem mm_made {H1 : Heap} {sh : Nat × Nat} {pc' n : Nat} {L' : mm_L} {r : List Value} (hN : N0 ≤ s.heap.size) (hH : mm_Hp D cA N0 sp m s H) (hS : va_S (fun x => N0 ≤ x) s.heap H locs) (hL : mm_LS (mm_ad N0 sp) (mm_mx j) ls L') (hc : mm_nc m = nb + cells) (hsl : mm_ns m = sb + slots) (hz : H.size = N0 + m.1.length) (hn : mm_sz sh = n)
    (z1 : H1.size = H.size + 1) (o1 : ∀ x : Nat, x < H.size → H1[x]? = H[x]?) (e1 : va_at D vwCl (H.size, mm_nl0 (mm_ad N0 sp) cA sh) H1) (kk : mm_KK p l e R s mid args below meth c Q D cA N0 sp j nb sb (pc', L', .ref (mm_next m) :: r, mm_new m sh)) :
    W p l e R s mid args below meth c H1 locs (cells + 1) (slots + n) Q (F0 mid pc' ls (.ref H.size :: r.map (mm_tr (mm_ad N0 sp)))) := by
  have hS1 : va_S (fun x => N0 ≤ x) s.heap H1 locs := ⟨Nat.le_trans hS.1 (by omega), fun x h1 h2 => (o1 x (Nat.lt_of_lt_of_le h1 hS.1)).trans (hS.2.1 x h1 h2), hS.2.2⟩
  have had : mm_ad N0 sp (mm_next m) = H.size := by rw [mm_ad_hi (by unfold mm_next; omega), hz]; unfold mm_next; omega
  have hP1 : va_P D vwCl (mm_ws (mm_new m sh) (mm_ad N0 sp) cA) H1 := by
    rw [mm_ws_new]
    refine (hH.1.kept (fun k x hx => o1 x.1 ((hH.1 k x hx).lt))).app (fun k x hx => ?_)
    have hk1 : k < 1 := (List.getElem?_eq_some_iff.mp hx).1
    rw [show k = 0 by omega] at hx
    cases hx
    have e9 : mm_ad N0 sp (100 + m.1.length) = H.size := had
    rw [e9]
    exact e1
  have k9 := kk H1 locs ls (cells + 1) (slots + n) (hH.to hN hS hS1 hP1 rfl (mm_cl_lo (by unfold mm_next; omega)) (mm_cl_lo (by unfold mm_next; omega))) hS1 hL (by
    unfold mm_nc at hc ⊢
    show (m.1 ++ [sh]).length + m.2.1.1 = _
    rw [List.length_append]
    show m.1.length + 1 + m.2.1.1 = _
    omega) (by
    unfold mm_ns at hsl ⊢
    show ((m.1 ++ [sh]).map mm_sz).sum + 100 * m.2.1.1 = _
    rw [List.map_append, List.sum_append]
    show (m.1.map mm_sz).sum + (mm_sz sh + 0) + 100 * m.2.1.1 = _
    omega)
  simp only [List.map_cons, mm_tr, had] at k9
  exact k9
theorem mm_nl0_ob {ad : Nat → Nat} {cA : Nat → ClassId} {ci n : Nat} (h : ci < 20) : mm_nl0 ad cA (ci, n) = .inr (ci, (mm_ft ci).mapIdx (fun k ty => mm_fc (fun _ => 0) (fun _ => 0) (fun _ => none) ad k ty)) := by
  unfold mm_nl0 mm_cc
  rw [if_pos h]
theorem mm_nc_new (m : mm_M) (sh : Nat × Nat) : mm_nc (mm_new m sh) = mm_nc m + 1 := by
  unfold mm_nc
  show (m.1 ++ [sh]).length + m.2.1.1 = _
  rw [List.length_append]
  show m.1.length + 1 + m.2.1.1 = _
  omega
theorem mm_ns_new (m : mm_M) (sh : Nat × Nat) : mm_ns (mm_new m sh) = mm_ns m + mm_sz sh := by
  unfold mm_ns
  show ((m.1 ++ [sh]).map mm_sz).sum + 100 * m.2.1.1 = _
  rw [List.map_append, List.sum_append]
  show (m.1.map mm_sz).sum + (mm_sz sh + 0) + 100 * m.2.1.1 = _
  omega
theorem mm_is_in : ∀ ci : Nat, ci < 13 → ci ∈ mm_is := by decide +kernel
theorem mm_ini_in : ∀ ci : Nat, ci < 14 → ci ∈ mm_ini := by decide +kernel
theorem so_new {ix r1 : Nat} (C : mm_Cx p s mid args meth c R j D cA N0 sp nb) (hd : decode (mm_b j) pc = .ok (.new ix, 3)) (hk : r1 = 99 ∨ (mm_nw.contains (mm_ow j, ix, r1) = true ∧ r1 < 13)) (hst : (if r1 = 99 then mm_thr S else if m.2.1.1 = 0 then mm_nx (pc + 3) L (.ref (mm_next m) :: S) (mm_new m (r1, 0)) else none : Option mm_O) = some (.inl q)) (hrm : mm_nc q.2.2.2 ≤ nb + R.cells) (hrs : mm_ns q.2.2.2 ≤ sb + R.slots) (hH : mm_Hp D cA N0 sp m s H) (hS : va_S (fun x => N0 ≤ x) s.heap H locs) (hL : mm_LS (mm_ad N0 sp) (mm_mx j) ls L) (hc : mm_nc m = nb + cells) (hsl : mm_ns m = sb + slots) (kk : mm_KK p l e R s mid args below meth c Q D cA N0 sp j nb sb q) : W p l e R s mid args below meth c H locs cells slots Q (F0 mid pc ls (S.map (mm_tr (mm_ad N0 sp)))) := by
  obtain ⟨hx, hb, hml, hown, hts, hnm, hAt, hR, hN, hz⟩ := C
  split at hst
  · unfold mm_thr at hst
    split at hst <;> cases hst
  · next h99 =>
    split at hst
    · next h0 =>
      cases hst
      obtain ⟨hk1, hci⟩ : mm_nw.contains (mm_ow j, ix, r1) = true ∧ r1 < 13 := hk.resolve_left h99
      intro T hT X
      have hsz := mm_size hz hH hN hS hc h0 hT X
      have hKn := hAt.1.1 r1 _ (mm_vw r1 hci)
      have hsm : mm_sz (r1, 0) = (mm_ft r1).length := if_pos (show r1 < 20 by omega)
      dsimp only at hrm hrs
      rw [mm_nc_new] at hrm
      rw [mm_ns_new, hsm] at hrs
      refine (W.newcK hx hb hown (hts _ (mm_g_in (mm_nw_w _ (List.contains_iff_mem.mp hk1)) rfl)) (hts _ (mm_g_in (mm_is_w r1 (mm_is_in r1 hci)) rfl)) (hts _ (mm_g_in (mm_ini_w r1 (mm_ini_in r1 (by omega))) rfl)) rfl hd (by omega) (by omega) hKn.2.1 rfl (fun H1 kC hkC e1 z1 o1 => ?_) : W p l e R s mid args below meth c H locs cells slots Q (F0 mid pc ls (S.map (mm_tr (mm_ad N0 sp))))) T hT X
      refine mm_made hN hH hS hL hc hsl hsz hsm z1 o1 ?_ kk
      rw [mm_nl0_ob (by omega)]
      refine ⟨_, mm_vw r1 hci, (u_born (mm_ty r1) hts (mm_uin r1 hci) hKn hkC e1 (mm_tyd r1 hci)).to (fun k hk => ?_)⟩
      have hkk : (mm_ft r1)[k]? = some (mm_ft r1)[k] := List.getElem?_eq_getElem hk
      have hty := mm_tyk hkk
      show defaultValue (mm_ty r1 k) = List.getD _ _ _
      rw [List.getD_eq_getElem?_getD, List.getElem?_mapIdx, hkk]
      rw [Option.map_some, Option.getD_some]
      generalize (mm_ft r1)[k] = kd at hty
      generalize mm_ty r1 k = t at hty
      unfold mm_kty at hty
      unfold mm_fc
      by_cases h0 : kd = 0
      · subst h0; have e9 : t = .int := by simpa using hty
        subst e9; rfl
      · by_cases h1 : kd = 1
        · subst h1; have e9 : t = .long := by simpa using hty
          subst e9; rfl
        · by_cases h3 : kd = 3
          · subst h3; have e9 : t = .boolean := by simpa using hty
            subst e9; rfl
          · rw [if_neg h0, if_neg h1, if_neg h3] at hty
            simp only [Bool.and_eq_true, decide_eq_true_eq] at hty
            obtain ⟨h2, h9⟩ := hty
            subst h2
            cases t <;> first | rfl | cases h9
    · cases hst
theorem so_nwa_i (C : mm_Cx p s mid args meth c R j D cA N0 sp nb) (hd : decode (mm_b j) pc = .ok (.newarray .int, 2)) (hst : mm_nwa 20 (pc + 2) L S m = some (.inl q)) (hrm : mm_nc q.2.2.2 ≤ nb + R.cells) (hrs : mm_ns q.2.2.2 ≤ sb + R.slots) (hH : mm_Hp D cA N0 sp m s H) (hS : va_S (fun x => N0 ≤ x) s.heap H locs) (hL : mm_LS (mm_ad N0 sp) (mm_mx j) ls L) (hc : mm_nc m = nb + cells) (hsl : mm_ns m = sb + slots) (kk : mm_KK p l e R s mid args below meth c Q D cA N0 sp j nb sb q) : W p l e R s mid args below meth c H locs cells slots Q (F0 mid pc ls (S.map (mm_tr (mm_ad N0 sp)))) := by
  obtain ⟨hx, hb, hml, hown, hts, hnm, hAt, hR, hN, hz⟩ := C
  unfold mm_nwa at hst
  split at hst
  · next n r =>
    split at hst
    · next hn =>
      cases hst
      obtain ⟨hn1, hn2, h0⟩ := hn
      intro T hT X
      have hsz := mm_size hz hH hN hS hc h0 hT X
      have hsm : mm_sz (20, n.toNatClampNeg) = n.toNatClampNeg := if_neg (show ¬ (20 : Nat) < 20 by decide)
      dsimp only at hrm hrs
      rw [mm_nc_new] at hrm
      rw [mm_ns_new, hsm] at hrs
      have hcb : componentBytes (newarray.typeOf .int) ≤ 8 := by decide
      have hbb : n.toNatClampNeg * componentBytes (newarray.typeOf .int) ≤ 536870912 := Nat.le_trans (Nat.mul_le_mul hn2 hcb) (by decide)
      refine (va_newaK (atype := .int) (g := F0 mid pc ls ((Value.int n :: r).map (mm_tr (mm_ad N0 sp)))) hx hb (hts _ mm_w_ai) rfl hd (n := n) (N := n.toNatClampNeg) (rest := r.map (mm_tr (mm_ad N0 sp))) rfl hn1 rfl hbb (by omega) (by omega) rfl (fun H1 cA2 e1 z1 o1 hAr hNm => ?_) : W p l e R s mid args below meth c H locs cells slots Q (F0 mid pc ls ((Value.int n :: r).map (mm_tr (mm_ad N0 sp))))) T hT X
      have hcA : cA2 = cA 20 := Option.some.inj (hNm.symm.trans (hAt.1.2 _ _ (mm_tys_get cA 20 (by decide) (by decide))).2)
      subst hcA
      exact mm_made (sh := (20, n.toNatClampNeg)) hN hH hS hL hc hsl hsz hsm z1 o1 e1 kk
    · cases hst
  · cases hst
theorem so_nwa_l (C : mm_Cx p s mid args meth c R j D cA N0 sp nb) (hd : decode (mm_b j) pc = .ok (.newarray .long, 2)) (hst : mm_nwa 21 (pc + 2) L S m = some (.inl q)) (hrm : mm_nc q.2.2.2 ≤ nb + R.cells) (hrs : mm_ns q.2.2.2 ≤ sb + R.slots) (hH : mm_Hp D cA N0 sp m s H) (hS : va_S (fun x => N0 ≤ x) s.heap H locs) (hL : mm_LS (mm_ad N0 sp) (mm_mx j) ls L) (hc : mm_nc m = nb + cells) (hsl : mm_ns m = sb + slots) (kk : mm_KK p l e R s mid args below meth c Q D cA N0 sp j nb sb q) : W p l e R s mid args below meth c H locs cells slots Q (F0 mid pc ls (S.map (mm_tr (mm_ad N0 sp)))) := by
  obtain ⟨hx, hb, hml, hown, hts, hnm, hAt, hR, hN, hz⟩ := C
  unfold mm_nwa at hst
  split at hst
  · next n r =>
    split at hst
    · next hn =>
      cases hst
      obtain ⟨hn1, hn2, h0⟩ := hn
      intro T hT X
      have hsz := mm_size hz hH hN hS hc h0 hT X
      have hsm : mm_sz (21, n.toNatClampNeg) = n.toNatClampNeg := if_neg (show ¬ (21 : Nat) < 20 by decide)
      dsimp only at hrm hrs
      rw [mm_nc_new] at hrm
      rw [mm_ns_new, hsm] at hrs
      have hcb : componentBytes (newarray.typeOf .long) ≤ 8 := by decide
      have hbb : n.toNatClampNeg * componentBytes (newarray.typeOf .long) ≤ 536870912 := Nat.le_trans (Nat.mul_le_mul hn2 hcb) (by decide)
      refine (va_newaK (atype := .long) (g := F0 mid pc ls ((Value.int n :: r).map (mm_tr (mm_ad N0 sp)))) hx hb (hts _ mm_w_al) rfl hd (n := n) (N := n.toNatClampNeg) (rest := r.map (mm_tr (mm_ad N0 sp))) rfl hn1 rfl hbb (by omega) (by omega) rfl (fun H1 cA2 e1 z1 o1 hAr hNm => ?_) : W p l e R s mid args below meth c H locs cells slots Q (F0 mid pc ls ((Value.int n :: r).map (mm_tr (mm_ad N0 sp))))) T hT X
      have hcA : cA2 = cA 21 := Option.some.inj (hNm.symm.trans (hAt.1.2 _ _ (mm_tys_get cA 21 (by decide) (by decide))).2)
      subst hcA
      exact mm_made (sh := (21, n.toNatClampNeg)) hN hH hS hL hc hsl hsz hsm z1 o1 e1 kk
    · cases hst
  · cases hst
theorem so_nwa_z (C : mm_Cx p s mid args meth c R j D cA N0 sp nb) (hd : decode (mm_b j) pc = .ok (.newarray .boolean, 2)) (hst : mm_nwa 22 (pc + 2) L S m = some (.inl q)) (hrm : mm_nc q.2.2.2 ≤ nb + R.cells) (hrs : mm_ns q.2.2.2 ≤ sb + R.slots) (hH : mm_Hp D cA N0 sp m s H) (hS : va_S (fun x => N0 ≤ x) s.heap H locs) (hL : mm_LS (mm_ad N0 sp) (mm_mx j) ls L) (hc : mm_nc m = nb + cells) (hsl : mm_ns m = sb + slots) (kk : mm_KK p l e R s mid args below meth c Q D cA N0 sp j nb sb q) : W p l e R s mid args below meth c H locs cells slots Q (F0 mid pc ls (S.map (mm_tr (mm_ad N0 sp)))) := by
  obtain ⟨hx, hb, hml, hown, hts, hnm, hAt, hR, hN, hz⟩ := C
  unfold mm_nwa at hst
  split at hst
  · next n r =>
    split at hst
    · next hn =>
      cases hst
      obtain ⟨hn1, hn2, h0⟩ := hn
      intro T hT X
      have hsz := mm_size hz hH hN hS hc h0 hT X
      have hsm : mm_sz (22, n.toNatClampNeg) = n.toNatClampNeg := if_neg (show ¬ (22 : Nat) < 20 by decide)
      dsimp only at hrm hrs
      rw [mm_nc_new] at hrm
      rw [mm_ns_new, hsm] at hrs
      have hcb : componentBytes (newarray.typeOf .boolean) ≤ 8 := by decide
      have hbb : n.toNatClampNeg * componentBytes (newarray.typeOf .boolean) ≤ 536870912 := Nat.le_trans (Nat.mul_le_mul hn2 hcb) (by decide)
      refine (va_newaK (atype := .boolean) (g := F0 mid pc ls ((Value.int n :: r).map (mm_tr (mm_ad N0 sp)))) hx hb (hts _ mm_w_az) rfl hd (n := n) (N := n.toNatClampNeg) (rest := r.map (mm_tr (mm_ad N0 sp))) rfl hn1 rfl hbb (by omega) (by omega) rfl (fun H1 cA2 e1 z1 o1 hAr hNm => ?_) : W p l e R s mid args below meth c H locs cells slots Q (F0 mid pc ls ((Value.int n :: r).map (mm_tr (mm_ad N0 sp))))) T hT X
      have hcA : cA2 = cA 22 := Option.some.inj (hNm.symm.trans (hAt.1.2 _ _ (mm_tys_get cA 22 (by decide) (by decide))).2)
      subst hcA
      exact mm_made (sh := (22, n.toNatClampNeg)) hN hH hS hL hc hsl hsz hsm z1 o1 e1 kk
    · cases hst
  · cases hst
theorem so_nwa_c (C : mm_Cx p s mid args meth c R j D cA N0 sp nb) (hd : decode (mm_b j) pc = .ok (.newarray .char, 2)) (hst : mm_nwa 23 (pc + 2) L S m = some (.inl q)) (hrm : mm_nc q.2.2.2 ≤ nb + R.cells) (hrs : mm_ns q.2.2.2 ≤ sb + R.slots) (hH : mm_Hp D cA N0 sp m s H) (hS : va_S (fun x => N0 ≤ x) s.heap H locs) (hL : mm_LS (mm_ad N0 sp) (mm_mx j) ls L) (hc : mm_nc m = nb + cells) (hsl : mm_ns m = sb + slots) (kk : mm_KK p l e R s mid args below meth c Q D cA N0 sp j nb sb q) : W p l e R s mid args below meth c H locs cells slots Q (F0 mid pc ls (S.map (mm_tr (mm_ad N0 sp)))) := by
  obtain ⟨hx, hb, hml, hown, hts, hnm, hAt, hR, hN, hz⟩ := C
  unfold mm_nwa at hst
  split at hst
  · next n r =>
    split at hst
    · next hn =>
      cases hst
      obtain ⟨hn1, hn2, h0⟩ := hn
      intro T hT X
      have hsz := mm_size hz hH hN hS hc h0 hT X
      have hsm : mm_sz (23, n.toNatClampNeg) = n.toNatClampNeg := if_neg (show ¬ (23 : Nat) < 20 by decide)
      dsimp only at hrm hrs
      rw [mm_nc_new] at hrm
      rw [mm_ns_new, hsm] at hrs
      have hcb : componentBytes (newarray.typeOf .char) ≤ 8 := by decide
      have hbb : n.toNatClampNeg * componentBytes (newarray.typeOf .char) ≤ 536870912 := Nat.le_trans (Nat.mul_le_mul hn2 hcb) (by decide)
      refine (va_newaK (atype := .char) (g := F0 mid pc ls ((Value.int n :: r).map (mm_tr (mm_ad N0 sp)))) hx hb (hts _ mm_w_ac) rfl hd (n := n) (N := n.toNatClampNeg) (rest := r.map (mm_tr (mm_ad N0 sp))) rfl hn1 rfl hbb (by omega) (by omega) rfl (fun H1 cA2 e1 z1 o1 hAr hNm => ?_) : W p l e R s mid args below meth c H locs cells slots Q (F0 mid pc ls ((Value.int n :: r).map (mm_tr (mm_ad N0 sp))))) T hT X
      have hcA : cA2 = cA 23 := Option.some.inj (hNm.symm.trans (hAt.1.2 _ _ (mm_tys_get cA 23 (by decide) (by decide))).2)
      subst hcA
      exact mm_made (sh := (23, n.toNatClampNeg)) hN hH hS hL hc hsl hsz hsm z1 o1 e1 kk
    · cases hst
  · cases hst
theorem so_anewarray {ix r1 : Nat} (C : mm_Cx p s mid args meth c R j D cA N0 sp nb) (hd : decode (mm_b j) pc = .ok (.anewarray ix, 3)) (hk : mm_an.contains (mm_ow j, ix, r1) = true ∧ (r1 = 24 ∨ r1 = 25 ∨ r1 = 26)) (hst : mm_nwa r1 (pc + 3) L S m = some (.inl q)) (hrm : mm_nc q.2.2.2 ≤ nb + R.cells) (hrs : mm_ns q.2.2.2 ≤ sb + R.slots) (hH : mm_Hp D cA N0 sp m s H) (hS : va_S (fun x => N0 ≤ x) s.heap H locs) (hL : mm_LS (mm_ad N0 sp) (mm_mx j) ls L) (hc : mm_nc m = nb + cells) (hsl : mm_ns m = sb + slots) (kk : mm_KK p l e R s mid args below meth c Q D cA N0 sp j nb sb q) : W p l e R s mid args below meth c H locs cells slots Q (F0 mid pc ls (S.map (mm_tr (mm_ad N0 sp)))) := by
  obtain ⟨hx, hb, hml, hown, hts, hnm, hAt, hR, hN, hz⟩ := C
  unfold mm_nwa at hst
  split at hst
  · next n r =>
    split at hst
    · next hn =>
      cases hst
      obtain ⟨hn1, hn2, h0⟩ := hn
      intro T hT X
      have hsz := mm_size hz hH hN hS hc h0 hT X
      have hsm : mm_sz (r1, n.toNatClampNeg) = n.toNatClampNeg := if_neg (show ¬ r1 < 20 by omega)
      dsimp only at hrm hrs
      rw [mm_nc_new] at hrm
      rw [mm_ns_new, hsm] at hrs
      have hao : (Cond.arrayOver (.object (mm_cn (mm_ac r1)))).before args s = true := by
        rcases hk.2 with rfl | rfl | rfl
        · exact va_AO.use hAt.2.2.1
        · exact va_AO.use hAt.2.2.2.1
        · exact va_AO.use hAt.2.2.2.2.1
      have hat : mm_aty r1 = .object (mm_cn (mm_ac r1)) := by rcases hk.2 with rfl | rfl | rfl <;> rfl
      refine (W.anew (g := F0 mid pc ls ((Value.int n :: r).map (mm_tr (mm_ad N0 sp)))) hx hb hown (hts _ (mm_g_in (mm_an_w _ (List.contains_iff_mem.mp hk.1)) rfl)) hao rfl hd (n := n) (rest := r.map (mm_tr (mm_ad N0 sp))) rfl hn1 (by omega) (by omega) (by omega) (fun cA2 kA comp f1 f2 f3 f4 => ?_) : W p l e R s mid args below meth c H locs cells slots Q (F0 mid pc ls ((Value.int n :: r).map (mm_tr (mm_ad N0 sp))))) T hT X
      have hRA := (hAt.1.2 _ _ (mm_tys_get cA r1 (by omega) (by omega))).2
      rw [hat] at hRA
      obtain ⟨kA9, comp9, -, -, -, g4⟩ := hRA
      have hcA : cA2 = cA r1 := Option.some.inj (f1.symm.trans g4)
      subst hcA
      have e1 : (H.push ({ cls := cA r1, slots := Array.replicate n.toNatClampNeg .null, vm := .none } : Cell))[H.size]? = some (arrV (cA r1) n.toNatClampNeg (fun _ => .null)) := by rw [Array.getElem?_push_size, ← arrV_new]
      refine mm_made (sh := (r1, n.toNatClampNeg)) hN hH hS hL hc hsl hsz hsm (Array.size_push _) (fun x hx => by rw [Array.getElem?_push, if_neg (Nat.ne_of_lt hx)]) ?_ kk
      unfold mm_nl0 mm_cc
      rw [if_neg (show ¬ r1 < 20 by omega), if_neg (show ¬ r1 = 21 by omega), if_pos (show 24 ≤ r1 by omega)]
      exact e1
    · cases hst
  · cases hst
end SO4
end
section
theorem mm_n2_lo {m : mm_M} {n k : Nat} {ad : Nat → Nat} {cA : Nat → ClassId} {i : Nat} (hi : i < m.1.length) : (mm_ws (mm_new2 m n k) ad cA)[i]? = (mm_ws m ad cA)[i]? := by
  unfold mm_ws
  rw [List.getElem?_mapIdx, List.getElem?_mapIdx]
  show Option.map _ ((m.1 ++ (27, n) :: List.replicate n (20, k))[i]?) = _
  rw [List.getElem?_append_left hi]
  have h9 : 100 + i < mm_next m := by unfold mm_next; omega
  have e1 : (mm_new2 m n k).2.2.1 (100 + i) = m.2.2.1 (100 + i) := mm_cl_lo h9
  have e2 : (mm_new2 m n k).2.2.2.1 (100 + i) = m.2.2.2.1 (100 + i) := mm_cl_lo h9
  have e3 : (mm_new2 m n k).2.2.2.2 (100 + i) = m.2.2.2.2 (100 + i) := by
    funext t
    show (if 100 + i = mm_next m then _ else mm_cl m.2.2.2.2 (mm_next m) none (100 + i) t) = _
    rw [if_neg (by omega), mm_cl_lo h9]
  rw [e1, e2, e3]
theorem mm_n2_at {m : mm_M} {n k : Nat} {ad : Nat → Nat} {cA : Nat → ClassId} : (mm_ws (mm_new2 m n k) ad cA)[m.1.length]? = some (ad (mm_next m), .inl (cA 27, n, .inr (.inr (.inr (.inr (fun t => if t < n then some (ad (mm_next m + 1 + t)) else none)))))) := by
  unfold mm_ws
  rw [List.getElem?_mapIdx]
  show Option.map _ ((m.1 ++ (27, n) :: List.replicate n (20, k))[m.1.length]?) = _
  rw [List.getElem?_append_right (Nat.le_refl _), Nat.sub_self]
  have e3 : (mm_new2 m n k).2.2.2.2 (100 + m.1.length) = fun t => if t < n then some (mm_next m + 1 + t) else none := by
    funext t
    show (if 100 + m.1.length = mm_next m then _ else _) = _
    rw [if_pos (show 100 + m.1.length = mm_next m from rfl)]
  show some (ad (100 + m.1.length), mm_cc _ _ ((mm_new2 m n k).2.2.2.2 (100 + m.1.length)) ad cA (27, n)) = _
  rw [e3]
  unfold mm_cc
  rw [if_neg (show ¬ (27 : Nat) < 20 by decide), if_neg (show ¬ (27 : Nat) = 21 by decide), if_pos (show 24 ≤ (27 : Nat) by decide)]
  have e4 : (fun j => Option.map ad (if j < n then some (mm_next m + 1 + j) else none)) = (fun t => if t < n then some (ad (mm_next m + 1 + t)) else none) := by
    funext t
    by_cases h : t < n
    · rw [if_pos h, if_pos h]; rfl
    · rw [if_neg h, if_neg h]; rfl
  rw [e4]
  rfl
theorem mm_n2_in {m : mm_M} {n k : Nat} {ad : Nat → Nat} {cA : Nat → ClassId} {t : Nat} (ht : t < n) : (mm_ws (mm_new2 m n k) ad cA)[m.1.length + 1 + t]? = some (ad (mm_next m + 1 + t), .inl (cA 20, k, .inl (fun _ => 0))) := by
  unfold mm_ws
  rw [List.getElem?_mapIdx]
  show Option.map _ ((m.1 ++ (27, n) :: List.replicate n (20, k))[m.1.length + 1 + t]?) = _
  rw [List.getElem?_append_right (by omega), show m.1.length + 1 + t - m.1.length = t + 1 by omega, List.getElem?_cons_succ, List.getElem?_replicate, if_pos ht]
  have h9 : mm_next m ≤ 100 + (m.1.length + 1 + t) := by unfold mm_next; omega
  have e1 : (mm_new2 m n k).2.2.1 (100 + (m.1.length + 1 + t)) = fun _ => 0 := mm_cl_hi h9
  show some (ad (100 + (m.1.length + 1 + t)), mm_cc ((mm_new2 m n k).2.2.1 (100 + (m.1.length + 1 + t))) _ _ ad cA (20, k)) = _
  rw [e1]
  unfold mm_cc
  rw [if_neg (show ¬ (20 : Nat) < 20 by decide), if_neg (show ¬ (20 : Nat) = 21 by decide), if_neg (show ¬ 24 ≤ (20 : Nat) by decide)]
  have e9 : 100 + (m.1.length + 1 + t) = mm_next m + 1 + t := by unfold mm_next; omega
  rw [e9]
theorem mm_n2_out {m : mm_M} {n k : Nat} {ad : Nat → Nat} {cA : Nat → ClassId} {i : Nat} (hi : m.1.length + 1 + n ≤ i) : (mm_ws (mm_new2 m n k) ad cA)[i]? = none := by
  apply List.getElem?_eq_none
  unfold mm_ws
  rw [List.length_mapIdx]
  show (m.1 ++ (27, n) :: List.replicate n (20, k)).length ≤ i
  rw [List.length_append, List.length_cons, List.length_replicate]
  omega
theorem mm_nc_new2 (m : mm_M) (n k : Nat) : mm_nc (mm_new2 m n k) = mm_nc m + 1 + n := by
  unfold mm_nc
  show (m.1 ++ (27, n) :: List.replicate n (20, k)).length + m.2.1.1 = _
  rw [List.length_append, List.length_cons, List.length_replicate]
  omega
theorem mm_ns_new2 (m : mm_M) (n k : Nat) : mm_ns (mm_new2 m n k) = mm_ns m + n + n * k := by
  unfold mm_ns
  show ((m.1 ++ (27, n) :: List.replicate n (20, k)).map mm_sz).sum + 100 * m.2.1.1 = _
  rw [List.map_append, List.sum_append, List.map_cons, List.sum_cons, List.map_replicate, List.sum_replicate_nat]
  show (m.1.map mm_sz).sum + (n + n * k) + 100 * m.2.1.1 = _
  omega
section SO5
variable {p : Program} {l : Launch} {e : Env} {R : Room} {s : State} {mid : MethodId} {args : Array Value} {below : List Frame} {meth : Method} {c : Code} {Q : State → Prop} {D : va_G} {cA : Nat → ClassId} {N0 : Nat} {sp : Nat → Nat} {j nb sb : Nat}
variable {H : Heap} {locs : List Loc} {cells slots pc : Nat} {ls : Array Slot} {L : mm_L} {S : List Value} {m : mm_M} {q : Nat × mm_L × List Value × mm_M}
theorem mm_outer1 (c : ClassId) (N h0 : Nat) : ∀ i : Nat, Jvm.Free.Multi.outerC c N h0 i = arrV c N (fun j => va_rf (if j < i then some (h0 + 1 + j) else none))
  | 0 => by
    show ({ cls := c, slots := Array.replicate N .null, vm := .none } : Cell) = _
    rw [arrV_new]
    refine congrArg (arrV c N) (funext fun j => ?_)
    simp [va_rf]
  | i + 1 => by
    show (Jvm.Free.Multi.outerC c N h0 i).setSlot i (.ref (h0 + 1 + i)) = _
    rw [mm_outer1 c N h0 i, arrV_store]
    refine congrArg (arrV c N) (funext fun j => ?_)
    by_cases e : j = i
    · subst e
      simp [updV, va_rf]
    · by_cases h : j < i
      · simp [updV, e, h, Nat.lt_succ_of_lt h]
      · simp [updV, e, h, show ¬ j < i + 1 by omega]
theorem va_AO2 {A : Array Value} {U : State} (h : (Cond.arrayOver (.array .int)).before #[] U = true) : (Cond.arrayOver (.array .int)).before A U = true := h
theorem mm_outer (c : ClassId) (N h0 : Nat) : Jvm.Free.Multi.outerC c N h0 N = arrV c N (fun j => va_rf (if j < N then some (h0 + 1 + j) else none)) := mm_outer1 c N h0 N
theorem mm_inner (c : ClassId) (N : Nat) : Jvm.Free.Multi.innerC c N (defaultValue .int) = arrV c N (fun _ => .int 0) := arrV_new c N (.int 0)
theorem so_multi {ix : Nat} (C : mm_Cx p s mid args meth c R j D cA N0 sp nb) (hd : decode (mm_b j) pc = .ok (.multianewarray ix 2, 4)) (hk : mm_n2.contains (mm_ow j, ix) = true) (hst : mm_nw2 (pc + 4) L S m = some (.inl q)) (hrm : mm_nc q.2.2.2 ≤ nb + R.cells) (hrs : mm_ns q.2.2.2 ≤ sb + R.slots) (hH : mm_Hp D cA N0 sp m s H) (hS : va_S (fun x => N0 ≤ x) s.heap H locs) (hL : mm_LS (mm_ad N0 sp) (mm_mx j) ls L) (hc : mm_nc m = nb + cells) (hsl : mm_ns m = sb + slots) (kk : mm_KK p l e R s mid args below meth c Q D cA N0 sp j nb sb q) : W p l e R s mid args below meth c H locs cells slots Q (F0 mid pc ls (S.map (mm_tr (mm_ad N0 sp)))) := by
  obtain ⟨hx, hb, hml, hown, hts, hnm, hAt, hR, hN, hz⟩ := C
  unfold mm_nw2 at hst
  split at hst
  · next k n r =>
    split at hst
    · next hn =>
      cases hst
      obtain ⟨hn1, hn2, hn3, hn4, h0⟩ := hn
      intro T hT X
      have hsz := mm_size hz hH hN hS hc h0 hT X
      dsimp only at hrm hrs
      rw [mm_nc_new2] at hrm
      rw [mm_ns_new2] at hrs
      have hb2 : k.toNatClampNeg * componentBytes .int ≤ 536870912 := Nat.le_trans (Nat.mul_le_mul hn4 (show componentBytes .int ≤ 8 by decide)) (by decide)
      have hw0 : Cond.classLink (mm_cn (mm_ow j)) ix "[[I" ∈ mm_g := mm_g_in (mm_n2_w _ (List.contains_iff_mem.mp hk)) rfl
      obtain ⟨vm₁, cA2, comp, -, fA, fC, hO, -, X', step⟩ := X.multianewarray2F (ty := .int) hx hown (hts _ hw0) (va_AO2 hAt.2.2.2.2.2.2.1) (hts _ mm_w_ai) (g := F0 mid pc ls ((Value.int k :: Value.int n :: r).map (mm_tr (mm_ad N0 sp)))) rfl (by rw [hb]; exact hd) (n := n) (k := k) (rest := r.map (mm_tr (mm_ad N0 sp))) rfl hn1 hn2 (by omega) hb2 (by omega) rfl rfl (by omega) (by omega)
      have hTh : (T.setVm vm₁).heap = H := hT
      have hg2 : cA2 = cA 27 := Option.some.inj (fA.symm.trans (hAt.1.2 _ _ (mm_tys_get cA 27 (by decide) (by decide))).2)
      have hg0 : comp = cA 20 := Option.some.inj (fC.symm.trans (hAt.1.2 _ _ (mm_tys_get cA 20 (by decide) (by decide))).2)
      subst hg2
      subst hg0
      generalize hF : Jvm.Free.Multi.fill (T.setVm vm₁) (cA 27) (cA 20) n.toNatClampNeg k.toNatClampNeg (defaultValue .int) n.toNatClampNeg = F at X' step
      obtain ⟨f1, f2, -, -⟩ := Jvm.Free.Multi.fill_facts (T.setVm vm₁) (cA 27) (cA 20) n.toNatClampNeg k.toNatClampNeg (defaultValue .int) n.toNatClampNeg
      rw [hF, hTh] at f1 f2
      have hold : ∀ x : Nat, x < H.size → F.heap[x]? = H[x]? := fun x hx => by
        have := Jvm.Free.Multi.fill_old (T.setVm vm₁) (cA 27) (cA 20) n.toNatClampNeg k.toNatClampNeg (defaultValue .int) (a := x) (by rw [hTh]; exact hx) n.toNatClampNeg
        rw [hF, hTh] at this
        exact this
      have hrow : ∀ t : Nat, t < n.toNatClampNeg → F.heap[H.size + 1 + t]? = some (Jvm.Free.Multi.innerC (cA 20) k.toNatClampNeg (defaultValue .int)) := fun t ht => by
        have := Jvm.Free.Multi.fill_inner (T.setVm vm₁) (cA 27) (cA 20) n.toNatClampNeg k.toNatClampNeg (defaultValue .int) n.toNatClampNeg t ht
        rw [hF, hTh] at this
        exact this
      have hS1 : va_S (fun x => N0 ≤ x) s.heap F.heap locs := ⟨Nat.le_trans hS.1 (by omega), fun x h1 h2 => (hold x (Nat.lt_of_lt_of_le h1 hS.1)).trans (hS.2.1 x h1 h2), hS.2.2⟩
      have had : ∀ t : Nat, mm_ad N0 sp (mm_next m + t) = H.size + t := fun t => by rw [mm_ad_hi (by unfold mm_next; omega), hsz]; unfold mm_next; omega
      have hP1 : va_P D vwCl (mm_ws (mm_new2 m n.toNatClampNeg k.toNatClampNeg) (mm_ad N0 sp) cA) F.heap := by
        intro i x hx
        by_cases hi : i < m.1.length
        · rw [mm_n2_lo hi] at hx
          exact (hH.1 i x hx).kept (hold x.1 ((hH.1 i x hx).lt))
        · by_cases he : i = m.1.length
          · subst he
            rw [mm_n2_at] at hx
            cases hx
            show F.heap[mm_ad N0 sp (mm_next m)]? = some (vp_cell _ _)
            rw [show mm_ad N0 sp (mm_next m) = H.size from had 0, f2, vp_cell_q, mm_outer]
            congr 2
            funext t
            by_cases ht : t < n.toNatClampNeg
            · simp only [if_pos ht]
              rw [show mm_next m + 1 + t = mm_next m + (1 + t) by omega, had, show H.size + (1 + t) = H.size + 1 + t by omega]
            · simp only [if_neg ht]
          · by_cases hl : i < m.1.length + 1 + n.toNatClampNeg
            · obtain ⟨t, rfl⟩ : ∃ t, i = m.1.length + 1 + t := ⟨i - (m.1.length + 1), by omega⟩
              rw [mm_n2_in (by omega)] at hx
              cases hx
              show F.heap[mm_ad N0 sp (mm_next m + 1 + t)]? = some (vp_cell _ _)
              rw [show mm_next m + 1 + t = mm_next m + (1 + t) by omega, had, show H.size + (1 + t) = H.size + 1 + t by omega, hrow t (by omega), vp_cell_i, mm_inner]
            · rw [mm_n2_out (by omega)] at hx
              cases hx
      have k9 := kk F.heap locs ls (cells + 1 + n.toNatClampNeg) (slots + n.toNatClampNeg + n.toNatClampNeg * k.toNatClampNeg) (hH.to hN hS hS1 hP1 rfl (mm_cl_lo (by unfold mm_next; omega)) (by funext t; show (if 99 = mm_next m then _ else mm_cl m.2.2.2.2 (mm_next m) none 99 t) = _; rw [if_neg (by unfold mm_next; omega), mm_cl_lo (by unfold mm_next; omega)])) hS1 hL (by dsimp only; rw [mm_nc_new2]; omega) (by dsimp only; rw [mm_ns_new2]; omega)
      have e9 : mm_ad N0 sp (mm_next m) = T.heap.size := by rw [hT]; exact had 0
      simp only [List.map_cons, mm_tr, e9] at k9
      obtain ⟨t, a1, b1⟩ := k9 F rfl X'
      exact ⟨t, step t a1, b1⟩
    · cases hst
  · cases hst
theorem so_objinit {ix : Nat} (C : mm_Cx p s mid args meth c R j D cA N0 sp nb) (hd : decode (mm_b j) pc = .ok (.invokespecial ix, 3)) (hk : mm_pm.contains (mm_ow j, ix, 4) = true) (hst : mm_prim 4 (pc + 3) L S m = some (.inl q)) (hrm : mm_nc q.2.2.2 ≤ nb + R.cells) (hrs : mm_ns q.2.2.2 ≤ sb + R.slots) (hH : mm_Hp D cA N0 sp m s H) (hS : va_S (fun x => N0 ≤ x) s.heap H locs) (hL : mm_LS (mm_ad N0 sp) (mm_mx j) ls L) (hc : mm_nc m = nb + cells) (hsl : mm_ns m = sb + slots) (kk : mm_KK p l e R s mid args below meth c Q D cA N0 sp j nb sb q) : W p l e R s mid args below meth c H locs cells slots Q (F0 mid pc ls (S.map (mm_tr (mm_ad N0 sp)))) := by
  obtain ⟨hx, hb, hml, hown, hts, hnm, hAt, hR, hN, hz⟩ := C
  unfold mm_prim at hst
  rw [if_pos (by decide)] at hst
  split at hst
  · next a r =>
    split at hst
    · next hs =>
      cases hst
      have hrm2 := lv_room (m := mid) (pc := pc) (ls := ls) (rest := (Value.ref a :: r).map (mm_tr (mm_ad N0 sp))) (st := r.map (mm_tr (mm_ad N0 sp))) (by rw [mm_tr_sum]; exact hs.2)
      refine W.objInit (a := mm_ad N0 sp a) (rest := r.map (mm_tr (mm_ad N0 sp))) hx hb hown (hts _ (mm_g_in (mm_pm_w _ (List.contains_iff_mem.mp hk)) rfl)) (hts _ mm_w_oi) (hts _ mm_w_oc) rfl (by rw [hml]; exact hL.2.1) rfl hd hR.1 (by have := hR.2; omega) ?_
      exact kk _ _ _ _ _ hH hS hL hc hsl
    · cases hst
  · cases hst
theorem so_mmax {ix : Nat} (C : mm_Cx p s mid args meth c R j D cA N0 sp nb) (hd : decode (mm_b j) pc = .ok (.invokestatic ix, 3)) (hk : mm_pm.contains (mm_ow j, ix, 10) = true) (hst : mm_prim 10 (pc + 3) L S m = some (.inl q)) (hrm : mm_nc q.2.2.2 ≤ nb + R.cells) (hrs : mm_ns q.2.2.2 ≤ sb + R.slots) (hH : mm_Hp D cA N0 sp m s H) (hS : va_S (fun x => N0 ≤ x) s.heap H locs) (hL : mm_LS (mm_ad N0 sp) (mm_mx j) ls L) (hc : mm_nc m = nb + cells) (hsl : mm_ns m = sb + slots) (kk : mm_KK p l e R s mid args below meth c Q D cA N0 sp j nb sb q) : W p l e R s mid args below meth c H locs cells slots Q (F0 mid pc ls (S.map (mm_tr (mm_ad N0 sp)))) := by
  obtain ⟨hx, hb, hml, hown, hts, hnm, hAt, hR, hN, hz⟩ := C
  unfold mm_prim at hst
  rw [if_neg (by decide)] at hst
  rw [if_pos (by decide)] at hst
  split at hst
  · next y x r =>
    split at hst
    · next hs =>
      cases hst
      have hs2 : ((r.map (mm_tr (mm_ad N0 sp))).map fun v => v.category).sum ≤ 8 := by rw [mm_tr_sum]; exact hs
      dsimp only at hrm hrs
      refine va_mmax (rest := r.map (mm_tr (mm_ad N0 sp))) hx hb (by rw [hml]; exact hL.2.1.symm) hown (hts _ (mm_g_in (mm_pm_w _ (List.contains_iff_mem.mp hk)) rfl)) (hts _ mm_w_mxs) (hts _ mm_w_mi) (hts _ mm_w_mxc) hR.1 (by have := hR.2; omega) (by omega) (by omega) hd ?_
      exact kk _ _ _ _ _ hH hS hL hc hsl
    · cases hst
  · cases hst
theorem so_mmin {ix : Nat} (C : mm_Cx p s mid args meth c R j D cA N0 sp nb) (hd : decode (mm_b j) pc = .ok (.invokestatic ix, 3)) (hk : mm_pm.contains (mm_ow j, ix, 11) = true) (hst : mm_prim 11 (pc + 3) L S m = some (.inl q)) (hrm : mm_nc q.2.2.2 ≤ nb + R.cells) (hrs : mm_ns q.2.2.2 ≤ sb + R.slots) (hH : mm_Hp D cA N0 sp m s H) (hS : va_S (fun x => N0 ≤ x) s.heap H locs) (hL : mm_LS (mm_ad N0 sp) (mm_mx j) ls L) (hc : mm_nc m = nb + cells) (hsl : mm_ns m = sb + slots) (kk : mm_KK p l e R s mid args below meth c Q D cA N0 sp j nb sb q) : W p l e R s mid args below meth c H locs cells slots Q (F0 mid pc ls (S.map (mm_tr (mm_ad N0 sp)))) := by
  obtain ⟨hx, hb, hml, hown, hts, hnm, hAt, hR, hN, hz⟩ := C
  unfold mm_prim at hst
  rw [if_neg (by decide)] at hst
  rw [if_neg (by decide)] at hst
  rw [if_pos (by decide)] at hst
  split at hst
  · next y x r =>
    split at hst
    · next hs =>
      cases hst
      have hs2 : ((r.map (mm_tr (mm_ad N0 sp))).map fun v => v.category).sum ≤ 8 := by rw [mm_tr_sum]; exact hs
      dsimp only at hrm hrs
      refine va_mmin (rest := r.map (mm_tr (mm_ad N0 sp))) hx hb (by rw [hml]; exact hL.2.1.symm) hown (hts _ (mm_g_in (mm_pm_w _ (List.contains_iff_mem.mp hk)) rfl)) (hts _ mm_w_mns) (hts _ mm_w_mi) (hts _ mm_w_mnc) hR.1 (by have := hR.2; omega) (by omega) (by omega) hd ?_
      exact kk _ _ _ _ _ hH hS hL hc hsl
    · cases hst
  · cases hst
theorem so_mabs {ix : Nat} (C : mm_Cx p s mid args meth c R j D cA N0 sp nb) (hd : decode (mm_b j) pc = .ok (.invokestatic ix, 3)) (hk : mm_pm.contains (mm_ow j, ix, 12) = true) (hst : mm_prim 12 (pc + 3) L S m = some (.inl q)) (hrm : mm_nc q.2.2.2 ≤ nb + R.cells) (hrs : mm_ns q.2.2.2 ≤ sb + R.slots) (hH : mm_Hp D cA N0 sp m s H) (hS : va_S (fun x => N0 ≤ x) s.heap H locs) (hL : mm_LS (mm_ad N0 sp) (mm_mx j) ls L) (hc : mm_nc m = nb + cells) (hsl : mm_ns m = sb + slots) (kk : mm_KK p l e R s mid args below meth c Q D cA N0 sp j nb sb q) : W p l e R s mid args below meth c H locs cells slots Q (F0 mid pc ls (S.map (mm_tr (mm_ad N0 sp)))) := by
  obtain ⟨hx, hb, hml, hown, hts, hnm, hAt, hR, hN, hz⟩ := C
  unfold mm_prim at hst
  rw [if_neg (by decide)] at hst
  rw [if_neg (by decide)] at hst
  rw [if_neg (by decide)] at hst
  rw [if_pos (by decide)] at hst
  split at hst
  · next x r =>
    split at hst
    · next hs =>
      cases hst
      have hs2 : ((r.map (mm_tr (mm_ad N0 sp))).map fun v => v.category).sum ≤ 8 := by rw [mm_tr_sum]; exact hs
      dsimp only at hrm hrs
      refine va_mabs (rest := r.map (mm_tr (mm_ad N0 sp))) hx hb (by rw [hml]; exact hL.2.1.symm) hown (hts _ (mm_g_in (mm_pm_w _ (List.contains_iff_mem.mp hk)) rfl)) (hts _ mm_w_abs) (hts _ mm_w_mi) (hts _ mm_w_abc) hR.1 (by have := hR.2; omega) (by omega) (by omega) hd ?_
      exact kk _ _ _ _ _ hH hS hL hc hsl
    · cases hst
  · cases hst
theorem so_acopy {ix : Nat} (C : mm_Cx p s mid args meth c R j D cA N0 sp nb) (hd : decode (mm_b j) pc = .ok (.invokestatic ix, 3)) (hk : mm_pm.contains (mm_ow j, ix, 13) = true) (hst : mm_prim 13 (pc + 3) L S m = some (.inl q)) (hrm : mm_nc q.2.2.2 ≤ nb + R.cells) (hrs : mm_ns q.2.2.2 ≤ sb + R.slots) (hH : mm_Hp D cA N0 sp m s H) (hS : va_S (fun x => N0 ≤ x) s.heap H locs) (hL : mm_LS (mm_ad N0 sp) (mm_mx j) ls L) (hc : mm_nc m = nb + cells) (hsl : mm_ns m = sb + slots) (kk : mm_KK p l e R s mid args below meth c Q D cA N0 sp j nb sb q) : W p l e R s mid args below meth c H locs cells slots Q (F0 mid pc ls (S.map (mm_tr (mm_ad N0 sp)))) := by
  obtain ⟨hx, hb, hml, hown, hts, hnm, hAt, hR, hN, hz⟩ := C
  unfold mm_prim at hst
  rw [if_neg (by decide)] at hst
  rw [if_neg (by decide)] at hst
  rw [if_neg (by decide)] at hst
  rw [if_neg (by decide)] at hst
  rw [if_pos (by decide)] at hst
  split at hst
  · next n dp b spp a r =>
    split at hst
    · next sh sq hsh hsq =>
      split at hst
      · next hs =>
        cases hst
        obtain ⟨ha, hbb, hs1, hs2, h1, h2, h3, h4, h5, hs⟩ := hs
        have hs9 : ((r.map (mm_tr (mm_ad N0 sp))).map fun v => v.category).sum ≤ 8 := by rw [mm_tr_sum]; exact hs
        obtain ⟨-, hm1⟩ := mm_sh_hi hsh (fun z => by rw [z] at ha; exact absurd ha (by decide)) (by omega)
        obtain ⟨-, hm2⟩ := mm_sh_hi hsq (fun z => by rw [z] at hbb; exact absurd hbb (by decide)) (by omega)
        have hg1 := mm_ws_get (ad := mm_ad N0 sp) (cA := cA) ha hm1
        have hg2 := mm_ws_get (ad := mm_ad N0 sp) (cA := cA) hbb hm2
        rw [mm_cel_in (by omega), hs1] at hg1
        rw [mm_cel_in (by omega), hs2] at hg2
        refine va_copyi (ty := .int) (rest := r.map (mm_tr (mm_ad N0 sp))) hx hb (by rw [hml]; exact hL.2.1.symm) hown (hts _ (mm_g_in (mm_pm_w _ (List.contains_iff_mem.mp hk)) rfl)) (hts _ mm_w_cpn) (hts _ mm_w_cps) (hts _ mm_w_si) hAt.1 hH.1 (mm_ws_D m N0 sp cA) hS (a - 100) (b - 100) 0 0 hg1 hg2 rfl rfl rfl h1 h2 h3 h4 h5 (fun _ _ => rfl) hR.1 (by have := hR.2; have : nativeFrameWords "java/lang/System" "arraycopy" 5 ≤ 60 := (by decide); omega) hd (fun H1 locs1 hP1 _ hS1 => ?_)
        refine mm_after (m' := mm_cp m a spp.toNatClampNeg b dp.toNatClampNeg n.toNatClampNeg) hN hbb hm2 rfl rfl ?_ ?_ hH hS hL hc hsl kk hP1 hS1
        · rw [mm_cel_in (by omega), hs2]
          congr 4
          funext t
          show va_cpy _ _ _ _ _ t = if b = b ∧ _ then _ else _
          unfold va_cpy
          by_cases ht : dp.toNatClampNeg ≤ t ∧ t < dp.toNatClampNeg + n.toNatClampNeg
          · rw [if_pos ht, if_pos ⟨rfl, ht⟩]; rfl
          · rw [if_neg ht, if_neg (fun z => ht z.2)]
        · intro d hd2
          refine ⟨?_, rfl, rfl⟩
          funext t
          show (if d = b ∧ _ then _ else _) = _
          rw [if_neg (fun z => hd2 z.1)]
      · cases hst
    · cases hst
  · cases hst
end SO5
end
section
def mm_pz : List (List (Nat × mm_E) × Nat) := [(mm_c0, 0), (mm_c1, 1), (mm_c2, 2), (mm_c3, 3), (mm_c4, 4), (mm_c5, 5), (mm_c6, 6), (mm_c7, 7), (mm_c8, 8), (mm_c9, 9), (mm_c10, 10), (mm_c11, 11), (mm_c12, 12), (mm_c13, 13), (mm_c14, 14), (mm_c15, 15), (mm_c16, 16), (mm_c17, 17), (mm_c18, 18), (mm_c19, 19), (mm_c20, 20), (mm_c21, 21), (mm_c22, 22), (mm_c23, 23), (mm_c24, 24), (mm_c25, 25), (mm_c26, 26), (mm_c27, 27), (mm_c28, 28), (mm_c29, 29), (mm_c30, 30), (mm_c31, 31), (mm_c32, 32), (mm_c33, 33), (mm_c34, 34), (mm_c35, 35), (mm_c36, 36), (mm_c37, 37), (mm_c38, 38), (mm_c39, 39), (mm_c40, 40), (mm_c41, 41), (mm_c42, 42), (mm_c43, 43), (mm_c44, 44), (mm_c45, 45), (mm_c46, 46), (mm_c47, 47), (mm_c48, 48), (mm_c49, 49), (mm_c50, 50), (mm_c51, 51), (mm_c52, 52), (mm_c53, 53), (mm_c54, 54), (mm_c55, 55), (mm_c56, 56), (mm_c57, 57), (mm_c58, 58), (mm_c59, 59), (mm_c60, 60), (mm_c61, 61), (mm_c62, 62), (mm_c63, 63), (mm_c64, 64), (mm_c65, 65), (mm_c66, 66), (mm_c67, 67), (mm_c68, 68), (mm_c69, 69), (mm_c70, 70), (mm_c71, 71), (mm_c72, 72), (mm_c73, 73), (mm_c74, 74), (mm_c75, 75), (mm_c76, 76), (mm_c77, 77), (mm_c78, 78), (mm_c79, 79), (mm_c80, 80), (mm_c81, 81), (mm_c82, 82), (mm_c83, 83), (mm_c84, 84), (mm_c85, 85), (mm_c86, 86), (mm_c87, 87), (mm_c88, 88), (mm_c89, 89), (mm_c90, 90), (mm_c91, 91), (mm_c92, 92), (mm_c93, 93), (mm_c94, 94), (mm_c95, 95), (mm_c96, 96), (mm_c97, 97), (mm_c98, 98), (mm_c99, 99), (mm_c100, 100), (mm_c101, 101), (mm_c102, 102), (mm_c103, 103), (mm_c104, 104), (mm_c105, 105), (mm_c106, 106), (mm_c107, 107), (mm_c108, 108), (mm_c109, 109), (mm_c110, 110), (mm_c111, 111), (mm_c112, 112), (mm_c113, 113), (mm_c114, 114), (mm_c115, 115), (mm_c116, 116), (mm_c117, 117), (mm_c118, 118), (mm_c119, 119), (mm_c120, 120), (mm_c121, 121), (mm_c122, 122), (mm_c123, 123), (mm_c124, 124), (mm_c125, 125), (mm_c126, 126), (mm_c127, 127), (mm_c128, 128), (mm_c129, 129), (mm_c130, 130), (mm_c131, 131), (mm_c132, 132), (mm_c133, 133), (mm_c134, 134), (mm_c135, 135), (mm_c136, 136), (mm_c137, 137), (mm_c138, 138), (mm_c139, 139), (mm_c140, 140), (mm_c141, 141), (mm_c142, 142), (mm_c143, 143), (mm_c144, 144), (mm_c145, 145), (mm_c146, 146), (mm_c147, 147), (mm_c148, 148), (mm_c149, 149), (mm_c150, 150), (mm_c151, 151), (mm_c152, 152), (mm_c153, 153), (mm_c154, 154), (mm_c155, 155), (mm_c156, 156), (mm_c157, 157), (mm_c158, 158), (mm_c159, 159), (mm_c160, 160), (mm_c161, 161), (mm_c162, 162), (mm_c163, 163), (mm_c164, 164), (mm_c165, 165), (mm_c166, 166), (mm_c167, 167), (mm_c168, 168), (mm_c169, 169), (mm_c170, 170), (mm_c171, 171), (mm_c172, 172), (mm_c173, 173), (mm_c174, 174), (mm_c175, 175), (mm_c176, 176), (mm_c177, 177), (mm_c178, 178), (mm_c179, 179), (mm_c180, 180), (mm_c181, 181), (mm_c182, 182), (mm_c183, 183), (mm_c184, 184), (mm_c185, 185), (mm_c186, 186), (mm_c187, 187), (mm_c188, 188), (mm_c189, 189), (mm_c190, 190), (mm_c191, 191), (mm_c192, 192), (mm_c193, 193), (mm_c194, 194), (mm_c195, 195), (mm_c196, 196), (mm_c197, 197), (mm_c198, 198), (mm_c199, 199), (mm_c200, 200), (mm_c201, 201), (mm_c202, 202), (mm_c203, 203), (mm_c204, 204), (mm_c205, 205), (mm_c206, 206), (mm_c207, 207), (mm_c208, 208), (mm_c209, 209), (mm_c210, 210), (mm_c211, 211), (mm_c212, 212), (mm_c213, 213), (mm_c214, 214), (mm_c215, 215), (mm_c216, 216), (mm_c217, 217), (mm_c218, 218), (mm_c219, 219), (mm_c220, 220), (mm_c221, 221), (mm_c222, 222), (mm_c223, 223), (mm_c224, 224), (mm_c225, 225), (mm_c226, 226), (mm_c227, 227), (mm_c228, 228), (mm_c229, 229), (mm_c230, 230), (mm_c231, 231), (mm_c232, 232), (mm_c233, 233), (mm_c234, 234), (mm_c235, 235), (mm_c236, 236), (mm_c237, 237), (mm_c238, 238), (mm_c239, 239), (mm_c240, 240), (mm_c241, 241), (mm_c242, 242), (mm_c243, 243), (mm_c244, 244), (mm_c245, 245), (mm_c246, 246), (mm_c247, 247), (mm_c248, 248), (mm_c249, 249), (mm_c250, 250), (mm_c251, 251), (mm_c252, 252), (mm_c253, 253), (mm_c254, 254), (mm_c255, 255), (mm_c256, 256), (mm_c257, 257), (mm_c258, 258), (mm_c259, 259), (mm_c260, 260), (mm_c261, 261), (mm_c262, 262), (mm_c263, 263), (mm_c264, 264), (mm_c265, 265), (mm_c266, 266), (mm_c267, 267), (mm_c268, 268), (mm_c269, 269), (mm_c270, 270), (mm_c271, 271), (mm_c272, 272), (mm_c273, 273), (mm_c274, 274), (mm_c275, 275), (mm_c276, 276), (mm_c277, 277), (mm_c278, 278), (mm_c279, 279), (mm_c280, 280), (mm_c281, 281), (mm_c282, 282), (mm_c283, 283), (mm_c284, 284), (mm_c285, 285), (mm_c286, 286), (mm_c287, 287), (mm_c288, 288), (mm_c289, 289), (mm_c290, 290), (mm_c291, 291), (mm_c292, 292), (mm_c293, 293)]
set_option maxRecDepth 100000 in
theorem mm_pz_e : List.zipIdx mm_prog = mm_pz := rfl
theorem mm_pz_0 : ∀ x ∈ ([(mm_c0, 0), (mm_c1, 1), (mm_c2, 2), (mm_c3, 3), (mm_c4, 4), (mm_c5, 5), (mm_c6, 6), (mm_c7, 7), (mm_c8, 8), (mm_c9, 9), (mm_c10, 10), (mm_c11, 11), (mm_c12, 12), (mm_c13, 13), (mm_c14, 14), (mm_c15, 15), (mm_c16, 16), (mm_c17, 17), (mm_c18, 18), (mm_c19, 19), (mm_c20, 20), (mm_c21, 21), (mm_c22, 22), (mm_c23, 23), (mm_c24, 24), (mm_c25, 25), (mm_c26, 26), (mm_c27, 27), (mm_c28, 28), (mm_c29, 29), (mm_c30, 30), (mm_c31, 31), (mm_c32, 32), (mm_c33, 33), (mm_c34, 34), (mm_c35, 35), (mm_c36, 36), (mm_c37, 37), (mm_c38, 38), (mm_c39, 39), (mm_c40, 40), (mm_c41, 41), (mm_c42, 42), (mm_c43, 43), (mm_c44, 44), (mm_c45, 45), (mm_c46, 46)] : List (List (Nat × mm_E) × Nat)), x.1.all (mm_chk x.2) = true := List.forall_mem_cons.mpr ⟨mm_chk_0, List.forall_mem_cons.mpr ⟨mm_chk_1, List.forall_mem_cons.mpr ⟨mm_chk_2, List.forall_mem_cons.mpr ⟨mm_chk_3, List.forall_mem_cons.mpr ⟨mm_chk_4, List.forall_mem_cons.mpr ⟨mm_chk_5, List.forall_mem_cons.mpr ⟨mm_chk_6, List.forall_mem_cons.mpr ⟨mm_chk_7, List.forall_mem_cons.mpr ⟨mm_chk_8, List.forall_mem_cons.mpr ⟨mm_chk_9, List.forall_mem_cons.mpr ⟨mm_chk_10, List.forall_mem_cons.mpr ⟨mm_chk_11, List.forall_mem_cons.mpr ⟨mm_chk_12, List.forall_mem_cons.mpr ⟨mm_chk_13, List.forall_mem_cons.mpr ⟨mm_chk_14, List.forall_mem_cons.mpr ⟨mm_chk_15, List.forall_mem_cons.mpr ⟨mm_chk_16, List.forall_mem_cons.mpr ⟨mm_chk_17, List.forall_mem_cons.mpr ⟨mm_chk_18, List.forall_mem_cons.mpr ⟨mm_chk_19, List.forall_mem_cons.mpr ⟨mm_chk_20, List.forall_mem_cons.mpr ⟨mm_chk_21, List.forall_mem_cons.mpr ⟨mm_chk_22, List.forall_mem_cons.mpr ⟨mm_chk_23, List.forall_mem_cons.mpr ⟨mm_chk_24, List.forall_mem_cons.mpr ⟨mm_chk_25, List.forall_mem_cons.mpr ⟨mm_chk_26, List.forall_mem_cons.mpr ⟨mm_chk_27, List.forall_mem_cons.mpr ⟨mm_chk_28, List.forall_mem_cons.mpr ⟨mm_chk_29, List.forall_mem_cons.mpr ⟨mm_chk_30, List.forall_mem_cons.mpr ⟨mm_chk_31, List.forall_mem_cons.mpr ⟨mm_chk_32, List.forall_mem_cons.mpr ⟨mm_chk_33, List.forall_mem_cons.mpr ⟨mm_chk_34, List.forall_mem_cons.mpr ⟨mm_chk_35, List.forall_mem_cons.mpr ⟨mm_chk_36, List.forall_mem_cons.mpr ⟨mm_chk_37, List.forall_mem_cons.mpr ⟨mm_chk_38, List.forall_mem_cons.mpr ⟨mm_chk_39, List.forall_mem_cons.mpr ⟨mm_chk_40, List.forall_mem_cons.mpr ⟨mm_chk_41, List.forall_mem_cons.mpr ⟨mm_chk_42, List.forall_mem_cons.mpr ⟨mm_chk_43, List.forall_mem_cons.mpr ⟨mm_chk_44, List.forall_mem_cons.mpr ⟨mm_chk_45, List.forall_mem_cons.mpr ⟨mm_chk_46, fun _ h => absurd h List.not_mem_nil⟩⟩⟩⟩⟩⟩⟩⟩⟩⟩⟩⟩⟩⟩⟩⟩⟩⟩⟩⟩⟩⟩⟩⟩⟩⟩⟩⟩⟩⟩⟩⟩⟩⟩⟩⟩⟩⟩⟩⟩⟩⟩⟩⟩⟩⟩⟩
theorem mm_pz_1 : ∀ x ∈ ([(mm_c47, 47), (mm_c48, 48), (mm_c49, 49), (mm_c50, 50), (mm_c51, 51), (mm_c52, 52), (mm_c53, 53), (mm_c54, 54), (mm_c55, 55), (mm_c56, 56), (mm_c57, 57), (mm_c58, 58), (mm_c59, 59), (mm_c60, 60), (mm_c61, 61), (mm_c62, 62), (mm_c63, 63), (mm_c64, 64), (mm_c65, 65), (mm_c66, 66), (mm_c67, 67), (mm_c68, 68), (mm_c69, 69), (mm_c70, 70), (mm_c71, 71), (mm_c72, 72), (mm_c73, 73), (mm_c74, 74), (mm_c75, 75), (mm_c76, 76), (mm_c77, 77), (mm_c78, 78), (mm_c79, 79), (mm_c80, 80), (mm_c81, 81), (mm_c82, 82), (mm_c83, 83), (mm_c84, 84), (mm_c85, 85), (mm_c86, 86), (mm_c87, 87), (mm_c88, 88), (mm_c89, 89), (mm_c90, 90), (mm_c91, 91), (mm_c92, 92), (mm_c93, 93)] : List (List (Nat × mm_E) × Nat)), x.1.all (mm_chk x.2) = true := List.forall_mem_cons.mpr ⟨mm_chk_47, List.forall_mem_cons.mpr ⟨mm_chk_48, List.forall_mem_cons.mpr ⟨mm_chk_49, List.forall_mem_cons.mpr ⟨mm_chk_50, List.forall_mem_cons.mpr ⟨mm_chk_51, List.forall_mem_cons.mpr ⟨mm_chk_52, List.forall_mem_cons.mpr ⟨mm_chk_53, List.forall_mem_cons.mpr ⟨mm_chk_54, List.forall_mem_cons.mpr ⟨mm_chk_55, List.forall_mem_cons.mpr ⟨mm_chk_56, List.forall_mem_cons.mpr ⟨mm_chk_57, List.forall_mem_cons.mpr ⟨mm_chk_58, List.forall_mem_cons.mpr ⟨mm_chk_59, List.forall_mem_cons.mpr ⟨mm_chk_60, List.forall_mem_cons.mpr ⟨mm_chk_61, List.forall_mem_cons.mpr ⟨mm_chk_62, List.forall_mem_cons.mpr ⟨mm_chk_63, List.forall_mem_cons.mpr ⟨mm_chk_64, List.forall_mem_cons.mpr ⟨mm_chk_65, List.forall_mem_cons.mpr ⟨mm_chk_66, List.forall_mem_cons.mpr ⟨mm_chk_67, List.forall_mem_cons.mpr ⟨mm_chk_68, List.forall_mem_cons.mpr ⟨mm_chk_69, List.forall_mem_cons.mpr ⟨mm_chk_70, List.forall_mem_cons.mpr ⟨mm_chk_71, List.forall_mem_cons.mpr ⟨mm_chk_72, List.forall_mem_cons.mpr ⟨mm_chk_73, List.forall_mem_cons.mpr ⟨mm_chk_74, List.forall_mem_cons.mpr ⟨mm_chk_75, List.forall_mem_cons.mpr ⟨mm_chk_76, List.forall_mem_cons.mpr ⟨mm_chk_77, List.forall_mem_cons.mpr ⟨mm_chk_78, List.forall_mem_cons.mpr ⟨mm_chk_79, List.forall_mem_cons.mpr ⟨mm_chk_80, List.forall_mem_cons.mpr ⟨mm_chk_81, List.forall_mem_cons.mpr ⟨mm_chk_82, List.forall_mem_cons.mpr ⟨mm_chk_83, List.forall_mem_cons.mpr ⟨mm_chk_84, List.forall_mem_cons.mpr ⟨mm_chk_85, List.forall_mem_cons.mpr ⟨mm_chk_86, List.forall_mem_cons.mpr ⟨mm_chk_87, List.forall_mem_cons.mpr ⟨mm_chk_88, List.forall_mem_cons.mpr ⟨mm_chk_89, List.forall_mem_cons.mpr ⟨mm_chk_90, List.forall_mem_cons.mpr ⟨mm_chk_91, List.forall_mem_cons.mpr ⟨mm_chk_92, List.forall_mem_cons.mpr ⟨mm_chk_93, fun _ h => absurd h List.not_mem_nil⟩⟩⟩⟩⟩⟩⟩⟩⟩⟩⟩⟩⟩⟩⟩⟩⟩⟩⟩⟩⟩⟩⟩⟩⟩⟩⟩⟩⟩⟩⟩⟩⟩⟩⟩⟩⟩⟩⟩⟩⟩⟩⟩⟩⟩⟩⟩
theorem mm_pz_2 : ∀ x ∈ ([(mm_c94, 94), (mm_c95, 95), (mm_c96, 96), (mm_c97, 97), (mm_c98, 98), (mm_c99, 99), (mm_c100, 100), (mm_c101, 101), (mm_c102, 102), (mm_c103, 103), (mm_c104, 104), (mm_c105, 105), (mm_c106, 106), (mm_c107, 107), (mm_c108, 108), (mm_c109, 109), (mm_c110, 110), (mm_c111, 111), (mm_c112, 112), (mm_c113, 113), (mm_c114, 114), (mm_c115, 115), (mm_c116, 116), (mm_c117, 117), (mm_c118, 118), (mm_c119, 119), (mm_c120, 120), (mm_c121, 121), (mm_c122, 122), (mm_c123, 123), (mm_c124, 124), (mm_c125, 125), (mm_c126, 126), (mm_c127, 127), (mm_c128, 128), (mm_c129, 129), (mm_c130, 130), (mm_c131, 131), (mm_c132, 132), (mm_c133, 133), (mm_c134, 134), (mm_c135, 135), (mm_c136, 136), (mm_c137, 137), (mm_c138, 138), (mm_c139, 139), (mm_c140, 140)] : List (List (Nat × mm_E) × Nat)), x.1.all (mm_chk x.2) = true := List.forall_mem_cons.mpr ⟨mm_chk_94, List.forall_mem_cons.mpr ⟨mm_chk_95, List.forall_mem_cons.mpr ⟨mm_chk_96, List.forall_mem_cons.mpr ⟨mm_chk_97, List.forall_mem_cons.mpr ⟨mm_chk_98, List.forall_mem_cons.mpr ⟨mm_chk_99, List.forall_mem_cons.mpr ⟨mm_chk_100, List.forall_mem_cons.mpr ⟨mm_chk_101, List.forall_mem_cons.mpr ⟨mm_chk_102, List.forall_mem_cons.mpr ⟨mm_chk_103, List.forall_mem_cons.mpr ⟨mm_chk_104, List.forall_mem_cons.mpr ⟨mm_chk_105, List.forall_mem_cons.mpr ⟨mm_chk_106, List.forall_mem_cons.mpr ⟨mm_chk_107, List.forall_mem_cons.mpr ⟨mm_chk_108, List.forall_mem_cons.mpr ⟨mm_chk_109, List.forall_mem_cons.mpr ⟨mm_chk_110, List.forall_mem_cons.mpr ⟨mm_chk_111, List.forall_mem_cons.mpr ⟨mm_chk_112, List.forall_mem_cons.mpr ⟨mm_chk_113, List.forall_mem_cons.mpr ⟨mm_chk_114, List.forall_mem_cons.mpr ⟨mm_chk_115, List.forall_mem_cons.mpr ⟨mm_chk_116, List.forall_mem_cons.mpr ⟨mm_chk_117, List.forall_mem_cons.mpr ⟨mm_chk_118, List.forall_mem_cons.mpr ⟨mm_chk_119, List.forall_mem_cons.mpr ⟨mm_chk_120, List.forall_mem_cons.mpr ⟨mm_chk_121, List.forall_mem_cons.mpr ⟨mm_chk_122, List.forall_mem_cons.mpr ⟨mm_chk_123, List.forall_mem_cons.mpr ⟨mm_chk_124, List.forall_mem_cons.mpr ⟨mm_chk_125, List.forall_mem_cons.mpr ⟨mm_chk_126, List.forall_mem_cons.mpr ⟨mm_chk_127, List.forall_mem_cons.mpr ⟨mm_chk_128, List.forall_mem_cons.mpr ⟨mm_chk_129, List.forall_mem_cons.mpr ⟨mm_chk_130, List.forall_mem_cons.mpr ⟨mm_chk_131, List.forall_mem_cons.mpr ⟨mm_chk_132, List.forall_mem_cons.mpr ⟨mm_chk_133, List.forall_mem_cons.mpr ⟨mm_chk_134, List.forall_mem_cons.mpr ⟨mm_chk_135, List.forall_mem_cons.mpr ⟨mm_chk_136, List.forall_mem_cons.mpr ⟨mm_chk_137, List.forall_mem_cons.mpr ⟨mm_chk_138, List.forall_mem_cons.mpr ⟨mm_chk_139, List.forall_mem_cons.mpr ⟨mm_chk_140, fun _ h => absurd h List.not_mem_nil⟩⟩⟩⟩⟩⟩⟩⟩⟩⟩⟩⟩⟩⟩⟩⟩⟩⟩⟩⟩⟩⟩⟩⟩⟩⟩⟩⟩⟩⟩⟩⟩⟩⟩⟩⟩⟩⟩⟩⟩⟩⟩⟩⟩⟩⟩⟩
theorem mm_pz_3 : ∀ x ∈ ([(mm_c141, 141), (mm_c142, 142), (mm_c143, 143), (mm_c144, 144), (mm_c145, 145), (mm_c146, 146), (mm_c147, 147), (mm_c148, 148), (mm_c149, 149), (mm_c150, 150), (mm_c151, 151), (mm_c152, 152), (mm_c153, 153), (mm_c154, 154), (mm_c155, 155), (mm_c156, 156), (mm_c157, 157), (mm_c158, 158), (mm_c159, 159), (mm_c160, 160), (mm_c161, 161), (mm_c162, 162), (mm_c163, 163), (mm_c164, 164), (mm_c165, 165), (mm_c166, 166), (mm_c167, 167), (mm_c168, 168), (mm_c169, 169), (mm_c170, 170), (mm_c171, 171), (mm_c172, 172), (mm_c173, 173), (mm_c174, 174), (mm_c175, 175), (mm_c176, 176), (mm_c177, 177), (mm_c178, 178), (mm_c179, 179), (mm_c180, 180), (mm_c181, 181), (mm_c182, 182), (mm_c183, 183), (mm_c184, 184), (mm_c185, 185), (mm_c186, 186), (mm_c187, 187)] : List (List (Nat × mm_E) × Nat)), x.1.all (mm_chk x.2) = true := List.forall_mem_cons.mpr ⟨mm_chk_141, List.forall_mem_cons.mpr ⟨mm_chk_142, List.forall_mem_cons.mpr ⟨mm_chk_143, List.forall_mem_cons.mpr ⟨mm_chk_144, List.forall_mem_cons.mpr ⟨mm_chk_145, List.forall_mem_cons.mpr ⟨mm_chk_146, List.forall_mem_cons.mpr ⟨mm_chk_147, List.forall_mem_cons.mpr ⟨mm_chk_148, List.forall_mem_cons.mpr ⟨mm_chk_149, List.forall_mem_cons.mpr ⟨mm_chk_150, List.forall_mem_cons.mpr ⟨mm_chk_151, List.forall_mem_cons.mpr ⟨mm_chk_152, List.forall_mem_cons.mpr ⟨mm_chk_153, List.forall_mem_cons.mpr ⟨mm_chk_154, List.forall_mem_cons.mpr ⟨mm_chk_155, List.forall_mem_cons.mpr ⟨mm_chk_156, List.forall_mem_cons.mpr ⟨mm_chk_157, List.forall_mem_cons.mpr ⟨mm_chk_158, List.forall_mem_cons.mpr ⟨mm_chk_159, List.forall_mem_cons.mpr ⟨mm_chk_160, List.forall_mem_cons.mpr ⟨mm_chk_161, List.forall_mem_cons.mpr ⟨mm_chk_162, List.forall_mem_cons.mpr ⟨mm_chk_163, List.forall_mem_cons.mpr ⟨mm_chk_164, List.forall_mem_cons.mpr ⟨mm_chk_165, List.forall_mem_cons.mpr ⟨mm_chk_166, List.forall_mem_cons.mpr ⟨mm_chk_167, List.forall_mem_cons.mpr ⟨mm_chk_168, List.forall_mem_cons.mpr ⟨mm_chk_169, List.forall_mem_cons.mpr ⟨mm_chk_170, List.forall_mem_cons.mpr ⟨mm_chk_171, List.forall_mem_cons.mpr ⟨mm_chk_172, List.forall_mem_cons.mpr ⟨mm_chk_173, List.forall_mem_cons.mpr ⟨mm_chk_174, List.forall_mem_cons.mpr ⟨mm_chk_175, List.forall_mem_cons.mpr ⟨mm_chk_176, List.forall_mem_cons.mpr ⟨mm_chk_177, List.forall_mem_cons.mpr ⟨mm_chk_178, List.forall_mem_cons.mpr ⟨mm_chk_179, List.forall_mem_cons.mpr ⟨mm_chk_180, List.forall_mem_cons.mpr ⟨mm_chk_181, List.forall_mem_cons.mpr ⟨mm_chk_182, List.forall_mem_cons.mpr ⟨mm_chk_183, List.forall_mem_cons.mpr ⟨mm_chk_184, List.forall_mem_cons.mpr ⟨mm_chk_185, List.forall_mem_cons.mpr ⟨mm_chk_186, List.forall_mem_cons.mpr ⟨mm_chk_187, fun _ h => absurd h List.not_mem_nil⟩⟩⟩⟩⟩⟩⟩⟩⟩⟩⟩⟩⟩⟩⟩⟩⟩⟩⟩⟩⟩⟩⟩⟩⟩⟩⟩⟩⟩⟩⟩⟩⟩⟩⟩⟩⟩⟩⟩⟩⟩⟩⟩⟩⟩⟩⟩
theorem mm_pz_4 : ∀ x ∈ ([(mm_c188, 188), (mm_c189, 189), (mm_c190, 190), (mm_c191, 191), (mm_c192, 192), (mm_c193, 193), (mm_c194, 194), (mm_c195, 195), (mm_c196, 196), (mm_c197, 197), (mm_c198, 198), (mm_c199, 199), (mm_c200, 200), (mm_c201, 201), (mm_c202, 202), (mm_c203, 203), (mm_c204, 204), (mm_c205, 205), (mm_c206, 206), (mm_c207, 207), (mm_c208, 208), (mm_c209, 209), (mm_c210, 210), (mm_c211, 211), (mm_c212, 212), (mm_c213, 213), (mm_c214, 214), (mm_c215, 215), (mm_c216, 216), (mm_c217, 217), (mm_c218, 218), (mm_c219, 219), (mm_c220, 220), (mm_c221, 221), (mm_c222, 222), (mm_c223, 223), (mm_c224, 224), (mm_c225, 225), (mm_c226, 226), (mm_c227, 227), (mm_c228, 228), (mm_c229, 229), (mm_c230, 230), (mm_c231, 231), (mm_c232, 232), (mm_c233, 233), (mm_c234, 234)] : List (List (Nat × mm_E) × Nat)), x.1.all (mm_chk x.2) = true := List.forall_mem_cons.mpr ⟨mm_chk_188, List.forall_mem_cons.mpr ⟨mm_chk_189, List.forall_mem_cons.mpr ⟨mm_chk_190, List.forall_mem_cons.mpr ⟨mm_chk_191, List.forall_mem_cons.mpr ⟨mm_chk_192, List.forall_mem_cons.mpr ⟨mm_chk_193, List.forall_mem_cons.mpr ⟨mm_chk_194, List.forall_mem_cons.mpr ⟨mm_chk_195, List.forall_mem_cons.mpr ⟨mm_chk_196, List.forall_mem_cons.mpr ⟨mm_chk_197, List.forall_mem_cons.mpr ⟨mm_chk_198, List.forall_mem_cons.mpr ⟨mm_chk_199, List.forall_mem_cons.mpr ⟨mm_chk_200, List.forall_mem_cons.mpr ⟨mm_chk_201, List.forall_mem_cons.mpr ⟨mm_chk_202, List.forall_mem_cons.mpr ⟨mm_chk_203, List.forall_mem_cons.mpr ⟨mm_chk_204, List.forall_mem_cons.mpr ⟨mm_chk_205, List.forall_mem_cons.mpr ⟨mm_chk_206, List.forall_mem_cons.mpr ⟨mm_chk_207, List.forall_mem_cons.mpr ⟨mm_chk_208, List.forall_mem_cons.mpr ⟨mm_chk_209, List.forall_mem_cons.mpr ⟨mm_chk_210, List.forall_mem_cons.mpr ⟨mm_chk_211, List.forall_mem_cons.mpr ⟨mm_chk_212, List.forall_mem_cons.mpr ⟨mm_chk_213, List.forall_mem_cons.mpr ⟨mm_chk_214, List.forall_mem_cons.mpr ⟨mm_chk_215, List.forall_mem_cons.mpr ⟨mm_chk_216, List.forall_mem_cons.mpr ⟨mm_chk_217, List.forall_mem_cons.mpr ⟨mm_chk_218, List.forall_mem_cons.mpr ⟨mm_chk_219, List.forall_mem_cons.mpr ⟨mm_chk_220, List.forall_mem_cons.mpr ⟨mm_chk_221, List.forall_mem_cons.mpr ⟨mm_chk_222, List.forall_mem_cons.mpr ⟨mm_chk_223, List.forall_mem_cons.mpr ⟨mm_chk_224, List.forall_mem_cons.mpr ⟨mm_chk_225, List.forall_mem_cons.mpr ⟨mm_chk_226, List.forall_mem_cons.mpr ⟨mm_chk_227, List.forall_mem_cons.mpr ⟨mm_chk_228, List.forall_mem_cons.mpr ⟨mm_chk_229, List.forall_mem_cons.mpr ⟨mm_chk_230, List.forall_mem_cons.mpr ⟨mm_chk_231, List.forall_mem_cons.mpr ⟨mm_chk_232, List.forall_mem_cons.mpr ⟨mm_chk_233, List.forall_mem_cons.mpr ⟨mm_chk_234, fun _ h => absurd h List.not_mem_nil⟩⟩⟩⟩⟩⟩⟩⟩⟩⟩⟩⟩⟩⟩⟩⟩⟩⟩⟩⟩⟩⟩⟩⟩⟩⟩⟩⟩⟩⟩⟩⟩⟩⟩⟩⟩⟩⟩⟩⟩⟩⟩⟩⟩⟩⟩⟩
theorem mm_pz_5 : ∀ x ∈ ([(mm_c235, 235), (mm_c236, 236), (mm_c237, 237), (mm_c238, 238), (mm_c239, 239), (mm_c240, 240), (mm_c241, 241), (mm_c242, 242), (mm_c243, 243), (mm_c244, 244), (mm_c245, 245), (mm_c246, 246), (mm_c247, 247), (mm_c248, 248), (mm_c249, 249), (mm_c250, 250), (mm_c251, 251), (mm_c252, 252), (mm_c253, 253), (mm_c254, 254), (mm_c255, 255), (mm_c256, 256), (mm_c257, 257), (mm_c258, 258), (mm_c259, 259), (mm_c260, 260), (mm_c261, 261), (mm_c262, 262), (mm_c263, 263), (mm_c264, 264), (mm_c265, 265), (mm_c266, 266), (mm_c267, 267), (mm_c268, 268), (mm_c269, 269), (mm_c270, 270), (mm_c271, 271), (mm_c272, 272), (mm_c273, 273), (mm_c274, 274), (mm_c275, 275), (mm_c276, 276), (mm_c277, 277), (mm_c278, 278), (mm_c279, 279), (mm_c280, 280), (mm_c281, 281)] : List (List (Nat × mm_E) × Nat)), x.1.all (mm_chk x.2) = true := List.forall_mem_cons.mpr ⟨mm_chk_235, List.forall_mem_cons.mpr ⟨mm_chk_236, List.forall_mem_cons.mpr ⟨mm_chk_237, List.forall_mem_cons.mpr ⟨mm_chk_238, List.forall_mem_cons.mpr ⟨mm_chk_239, List.forall_mem_cons.mpr ⟨mm_chk_240, List.forall_mem_cons.mpr ⟨mm_chk_241, List.forall_mem_cons.mpr ⟨mm_chk_242, List.forall_mem_cons.mpr ⟨mm_chk_243, List.forall_mem_cons.mpr ⟨mm_chk_244, List.forall_mem_cons.mpr ⟨mm_chk_245, List.forall_mem_cons.mpr ⟨mm_chk_246, List.forall_mem_cons.mpr ⟨mm_chk_247, List.forall_mem_cons.mpr ⟨mm_chk_248, List.forall_mem_cons.mpr ⟨mm_chk_249, List.forall_mem_cons.mpr ⟨mm_chk_250, List.forall_mem_cons.mpr ⟨mm_chk_251, List.forall_mem_cons.mpr ⟨mm_chk_252, List.forall_mem_cons.mpr ⟨mm_chk_253, List.forall_mem_cons.mpr ⟨mm_chk_254, List.forall_mem_cons.mpr ⟨mm_chk_255, List.forall_mem_cons.mpr ⟨mm_chk_256, List.forall_mem_cons.mpr ⟨mm_chk_257, List.forall_mem_cons.mpr ⟨mm_chk_258, List.forall_mem_cons.mpr ⟨mm_chk_259, List.forall_mem_cons.mpr ⟨mm_chk_260, List.forall_mem_cons.mpr ⟨mm_chk_261, List.forall_mem_cons.mpr ⟨mm_chk_262, List.forall_mem_cons.mpr ⟨mm_chk_263, List.forall_mem_cons.mpr ⟨mm_chk_264, List.forall_mem_cons.mpr ⟨mm_chk_265, List.forall_mem_cons.mpr ⟨mm_chk_266, List.forall_mem_cons.mpr ⟨mm_chk_267, List.forall_mem_cons.mpr ⟨mm_chk_268, List.forall_mem_cons.mpr ⟨mm_chk_269, List.forall_mem_cons.mpr ⟨mm_chk_270, List.forall_mem_cons.mpr ⟨mm_chk_271, List.forall_mem_cons.mpr ⟨mm_chk_272, List.forall_mem_cons.mpr ⟨mm_chk_273, List.forall_mem_cons.mpr ⟨mm_chk_274, List.forall_mem_cons.mpr ⟨mm_chk_275, List.forall_mem_cons.mpr ⟨mm_chk_276, List.forall_mem_cons.mpr ⟨mm_chk_277, List.forall_mem_cons.mpr ⟨mm_chk_278, List.forall_mem_cons.mpr ⟨mm_chk_279, List.forall_mem_cons.mpr ⟨mm_chk_280, List.forall_mem_cons.mpr ⟨mm_chk_281, fun _ h => absurd h List.not_mem_nil⟩⟩⟩⟩⟩⟩⟩⟩⟩⟩⟩⟩⟩⟩⟩⟩⟩⟩⟩⟩⟩⟩⟩⟩⟩⟩⟩⟩⟩⟩⟩⟩⟩⟩⟩⟩⟩⟩⟩⟩⟩⟩⟩⟩⟩⟩⟩
theorem mm_pz_6 : ∀ x ∈ ([(mm_c282, 282), (mm_c283, 283), (mm_c284, 284), (mm_c285, 285), (mm_c286, 286), (mm_c287, 287), (mm_c288, 288), (mm_c289, 289), (mm_c290, 290), (mm_c291, 291), (mm_c292, 292), (mm_c293, 293)] : List (List (Nat × mm_E) × Nat)), x.1.all (mm_chk x.2) = true := List.forall_mem_cons.mpr ⟨mm_chk_282, List.forall_mem_cons.mpr ⟨mm_chk_283, List.forall_mem_cons.mpr ⟨mm_chk_284, List.forall_mem_cons.mpr ⟨mm_chk_285, List.forall_mem_cons.mpr ⟨mm_chk_286, List.forall_mem_cons.mpr ⟨mm_chk_287, List.forall_mem_cons.mpr ⟨mm_chk_288, List.forall_mem_cons.mpr ⟨mm_chk_289, List.forall_mem_cons.mpr ⟨mm_chk_290, List.forall_mem_cons.mpr ⟨mm_chk_291, List.forall_mem_cons.mpr ⟨mm_chk_292, List.forall_mem_cons.mpr ⟨mm_chk_293, fun _ h => absurd h List.not_mem_nil⟩⟩⟩⟩⟩⟩⟩⟩⟩⟩⟩⟩
set_option maxRecDepth 100000 in
theorem mm_pz_ok : ∀ x ∈ mm_pz, x.1.all (mm_chk x.2) = true := List.forall_mem_append.mpr ⟨mm_pz_0, List.forall_mem_append.mpr ⟨mm_pz_1, List.forall_mem_append.mpr ⟨mm_pz_2, List.forall_mem_append.mpr ⟨mm_pz_3, List.forall_mem_append.mpr ⟨mm_pz_4, List.forall_mem_append.mpr ⟨mm_pz_5, mm_pz_6⟩⟩⟩⟩⟩⟩
def mm_iln : Instr → Nat
  | .bipush _ => 2
  | .sipush _ => 3
  | .ldc _ => 2
  | .ldc_w _ => 3
  | .ldc2_w _ => 3
  | .iload _ => 2
  | .lload _ => 2
  | .aload _ => 2
  | .istore _ => 2
  | .lstore _ => 2
  | .astore _ => 2
  | .iinc _ _ => 3
  | .ifCond _ _ => 3
  | .if_icmp _ _ => 3
  | .goto _ => 3
  | .getstatic _ => 3
  | .getfield _ => 3
  | .putfield _ => 3
  | .invokestatic _ => 3
  | .invokevirtual _ => 3
  | .invokespecial _ => 3
  | .new _ => 3
  | .newarray _ => 2
  | .anewarray _ => 3
  | .multianewarray _ _ => 4
  | .tableswitch _ _ _ _ => 0
  | .lookupswitch _ _ => 0
  | _ => 1
def mm_lnok (e : mm_E) : Bool := decide (mm_iln e.1 = 0) || decide (e.2.1 = mm_iln e.1)
set_option maxRecDepth 100000 in
theorem mm_lnk : mm_prog.all (fun t => t.all (fun x => mm_lnok x.2)) = true := by decide +kernel
theorem mm_lk_mem : ∀ (t : List (Nat × mm_E)) (pc : Nat) (e : mm_E), mm_lk t pc = some e → (pc, e) ∈ t
  | [], _, _, h => by cases h
  | q :: r, pc, e, h => by
    unfold mm_lk at h
    split at h
    · next hq =>
      cases h
      have e1 : q.1 = pc := Nat.eq_of_beq_eq_true hq
      subst e1
      exact List.mem_cons_self
    · exact List.mem_cons_of_mem _ (mm_lk_mem r pc e h)
theorem mm_at_ok {j pc : Nat} {e : mm_E} (h : mm_at j pc = some e) : decode (mm_b j) pc = .ok (e.1, e.2.1) ∧ mm_ok j pc e = true ∧ mm_lnok e = true := by
  unfold mm_at at h
  split at h
  · next t ht =>
    have hm := mm_lk_mem t pc e h
    have hz : (t, j) ∈ mm_pz := by
      rw [← mm_pz_e]
      exact List.mem_zipIdx_iff_getElem?.mpr ht
    have h1 := List.all_eq_true.mp (mm_pz_ok _ hz) (pc, e) hm
    unfold mm_chk at h1
    simp only [Bool.and_eq_true, decide_eq_true_eq] at h1
    have h2 := List.all_eq_true.mp mm_lnk t (List.mem_of_getElem? ht)
    have h3 := List.all_eq_true.mp h2 (pc, e) hm
    exact ⟨h1.1, h1.2, h3⟩
  · cases h
theorem mm_dc {j pc : Nat} {i : Instr} {n : Nat} {r : Nat × Nat × Int} (h : mm_at j pc = some (i, n, r)) (hi : ¬ mm_iln i = 0) : decode (mm_b j) pc = .ok (i, mm_iln i) := by
  obtain ⟨h1, -, h3⟩ := mm_at_ok h
  unfold mm_lnok at h3
  simp only [Bool.or_eq_true, decide_eq_true_eq] at h3
  rw [← h3.resolve_left hi]
  exact h1
section SO6
variable {p : Program} {l : Launch} {e : Env} {R : Room} {s : State} {mid : MethodId} {args : Array Value} {below : List Frame} {meth : Method} {c : Code} {Q : State → Prop} {D : va_G} {cA : Nat → ClassId} {N0 : Nat} {sp : Nat → Nat} {j nb sb : Nat}
variable {H : Heap} {locs : List Loc} {cells slots pc : Nat} {ls : Array Slot} {L : mm_L} {S : List Value} {m : mm_M} {q : Nat × mm_L × List Value × mm_M}
theorem mm_call_ne {k n : Nat} {S : List Value} {q : Nat × mm_L × List Value × mm_M} {pc : Nat} : ¬ mm_call k n pc S = some (.inl q) := by
  unfold mm_call
  split <;> simp
theorem mm_inv_pr {k n : Nat} {kd : Int} {pc : Nat} {L : mm_L} {S : List Value} {m : mm_M} {q : Nat × mm_L × List Value × mm_M} (h : mm_inv k n kd pc L S m = some (.inl q)) : ¬ kd = 0 ∧ ¬ kd = 1 ∧ ¬ kd = 20 ∧ ¬ kd = 2 ∧ ¬ kd = 3 ∧ ¬ kd = 5 ∧ mm_prim kd pc L S m = some (.inl q) := by
  unfold mm_inv at h
  split at h
  · exact absurd h mm_call_ne
  · next h1 =>
    split at h
    · split at h
      · exact absurd h mm_call_ne
      · cases h
    · next h2 =>
      split at h
      · split at h
        · exact absurd h mm_call_ne
        · cases h
      · next h3 => exact ⟨fun z => h1 (Or.inl z), fun z => h1 (Or.inr (Or.inl z)), fun z => h1 (Or.inr (Or.inr z)), h2, fun z => h3 (Or.inl z), fun z => h3 (Or.inr z), h⟩
theorem mm_inv_st {ix r1 r2 : Nat} {r3 : Int} (C : mm_Cx p s mid args meth c R j D cA N0 sp nb) (hd : decode (mm_b j) pc = .ok (.invokestatic ix, 3)) (hok : mm_ok j pc (.invokestatic ix, 3, r1, r2, r3) = true) (hst : mm_inv r1 r2 r3 (pc + 3) L S m = some (.inl q)) (hrm : mm_nc q.2.2.2 ≤ nb + R.cells) (hrs : mm_ns q.2.2.2 ≤ sb + R.slots) (hH : mm_Hp D cA N0 sp m s H) (hS : va_S (fun x => N0 ≤ x) s.heap H locs) (hL : mm_LS (mm_ad N0 sp) (mm_mx j) ls L) (hc : mm_nc m = nb + cells) (hsl : mm_ns m = sb + slots) (kk : mm_KK p l e R s mid args below meth c Q D cA N0 sp j nb sb q) : W p l e R s mid args below meth c H locs cells slots Q (F0 mid pc ls (S.map (mm_tr (mm_ad N0 sp)))) := by
  obtain ⟨g0, g1, g20, g2, g3, g5, hpr⟩ := mm_inv_pr hst
  by_cases h10 : r3 = 10
  · subst h10
    exact so_mmax C hd (by simpa [mm_ok] using hok) hpr hrm hrs hH hS hL hc hsl kk
  by_cases h11 : r3 = 11
  · subst h11
    exact so_mmin C hd (by simpa [mm_ok] using hok) hpr hrm hrs hH hS hL hc hsl kk
  by_cases h12 : r3 = 12
  · subst h12
    exact so_mabs C hd (by simpa [mm_ok] using hok) hpr hrm hrs hH hS hL hc hsl kk
  by_cases h13 : r3 = 13
  · subst h13
    exact so_acopy C hd (by simpa [mm_ok] using hok) hpr hrm hrs hH hS hL hc hsl kk
  exfalso
  unfold mm_prim at hpr
  have hne : ¬ r3 = 4 ∧ ¬ r3 = 10 ∧ ¬ r3 = 11 ∧ ¬ r3 = 12 ∧ ¬ r3 = 13 := by
    first
      | (exfalso; simp [mm_ok, g0, g1, g20, g2, g3, g5] at hok; done)
      | (simp [mm_ok, g0, g1, g20, g2, g3, g5] at hok; refine ⟨?_, ?_, ?_, ?_, ?_⟩ <;> omega)
  obtain ⟨n1, n2, n3, n4, n5⟩ := hne
  rw [if_neg n1, if_neg n2, if_neg n3, if_neg n4, if_neg n5] at hpr
  cases hpr
theorem mm_inv_vi {ix r1 r2 : Nat} {r3 : Int} (C : mm_Cx p s mid args meth c R j D cA N0 sp nb) (hd : decode (mm_b j) pc = .ok (.invokevirtual ix, 3)) (hok : mm_ok j pc (.invokevirtual ix, 3, r1, r2, r3) = true) (hst : mm_inv r1 r2 r3 (pc + 3) L S m = some (.inl q)) (hrm : mm_nc q.2.2.2 ≤ nb + R.cells) (hrs : mm_ns q.2.2.2 ≤ sb + R.slots) (hH : mm_Hp D cA N0 sp m s H) (hS : va_S (fun x => N0 ≤ x) s.heap H locs) (hL : mm_LS (mm_ad N0 sp) (mm_mx j) ls L) (hc : mm_nc m = nb + cells) (hsl : mm_ns m = sb + slots) (kk : mm_KK p l e R s mid args below meth c Q D cA N0 sp j nb sb q) : W p l e R s mid args below meth c H locs cells slots Q (F0 mid pc ls (S.map (mm_tr (mm_ad N0 sp)))) := by
  obtain ⟨g0, g1, g20, g2, g3, g5, hpr⟩ := mm_inv_pr hst
  exfalso
  unfold mm_prim at hpr
  have hne : ¬ r3 = 4 ∧ ¬ r3 = 10 ∧ ¬ r3 = 11 ∧ ¬ r3 = 12 ∧ ¬ r3 = 13 := by
    first
      | (exfalso; simp [mm_ok, g0, g1, g20, g2, g3, g5] at hok; done)
      | (simp [mm_ok, g0, g1, g20, g2, g3, g5] at hok; refine ⟨?_, ?_, ?_, ?_, ?_⟩ <;> omega)
  obtain ⟨n1, n2, n3, n4, n5⟩ := hne
  rw [if_neg n1, if_neg n2, if_neg n3, if_neg n4, if_neg n5] at hpr
  cases hpr
theorem mm_inv_sp {ix r1 r2 : Nat} {r3 : Int} (C : mm_Cx p s mid args meth c R j D cA N0 sp nb) (hd : decode (mm_b j) pc = .ok (.invokespecial ix, 3)) (hok : mm_ok j pc (.invokespecial ix, 3, r1, r2, r3) = true) (hst : mm_inv r1 r2 r3 (pc + 3) L S m = some (.inl q)) (hrm : mm_nc q.2.2.2 ≤ nb + R.cells) (hrs : mm_ns q.2.2.2 ≤ sb + R.slots) (hH : mm_Hp D cA N0 sp m s H) (hS : va_S (fun x => N0 ≤ x) s.heap H locs) (hL : mm_LS (mm_ad N0 sp) (mm_mx j) ls L) (hc : mm_nc m = nb + cells) (hsl : mm_ns m = sb + slots) (kk : mm_KK p l e R s mid args below meth c Q D cA N0 sp j nb sb q) : W p l e R s mid args below meth c H locs cells slots Q (F0 mid pc ls (S.map (mm_tr (mm_ad N0 sp)))) := by
  obtain ⟨g0, g1, g20, g2, g3, g5, hpr⟩ := mm_inv_pr hst
  by_cases h4 : r3 = 4
  · subst h4
    exact so_objinit C hd (by simpa [mm_ok] using hok) hpr hrm hrs hH hS hL hc hsl kk
  exfalso
  unfold mm_prim at hpr
  have hne : ¬ r3 = 4 ∧ ¬ r3 = 10 ∧ ¬ r3 = 11 ∧ ¬ r3 = 12 ∧ ¬ r3 = 13 := by
    first
      | (exfalso; simp [mm_ok, g0, g1, g20, g2, g3, g5] at hok; done)
      | (simp [mm_ok, g0, g1, g20, g2, g3, g5] at hok; refine ⟨?_, ?_, ?_, ?_, ?_⟩ <;> omega)
  obtain ⟨n1, n2, n3, n4, n5⟩ := hne
  rw [if_neg n1, if_neg n2, if_neg n3, if_neg n4, if_neg n5] at hpr
  cases hpr
theorem mm_one {e9 : mm_E} (C : mm_Cx p s mid args meth c R j D cA N0 sp nb) (he : mm_at j pc = some e9) (hst : mm_step j e9 pc L S m = some (.inl q)) (hrm : mm_nc q.2.2.2 ≤ nb + R.cells) (hrs : mm_ns q.2.2.2 ≤ sb + R.slots) (hH : mm_Hp D cA N0 sp m s H) (hS : va_S (fun x => N0 ≤ x) s.heap H locs) (hL : mm_LS (mm_ad N0 sp) (mm_mx j) ls L) (hc : mm_nc m = nb + cells) (hsl : mm_ns m = sb + slots) (kk : mm_KK p l e R s mid args below meth c Q D cA N0 sp j nb sb q) : W p l e R s mid args below meth c H locs cells slots Q (F0 mid pc ls (S.map (mm_tr (mm_ad N0 sp)))) := by
  obtain ⟨i, n, r1, r2, r3⟩ := e9
  obtain ⟨hdc, hok, -⟩ := mm_at_ok he
  cases i
  case iconst => exact so_iconst C (mm_dc he (fun z => by cases z)) hst hH hS hL hc hsl kk
  case bipush => exact so_bipush C (mm_dc he (fun z => by cases z)) hst hH hS hL hc hsl kk
  case sipush => exact so_sipush C (mm_dc he (fun z => by cases z)) hst hH hS hL hc hsl kk
  case lconst => exact so_lconst C (mm_dc he (fun z => by cases z)) hst hH hS hL hc hsl kk
  case iload_n => exact so_iload_n C (mm_dc he (fun z => by cases z)) hst hH hS hL hc hsl kk
  case istore_n => exact so_istore_n C (mm_dc he (fun z => by cases z)) hst hH hS hL hc hsl kk
  case iload => exact so_iload C (mm_dc he (fun z => by cases z)) hst hH hS hL hc hsl kk
  case istore => exact so_istore C (mm_dc he (fun z => by cases z)) hst hH hS hL hc hsl kk
  case lload_n => exact so_lload_n C (mm_dc he (fun z => by cases z)) hst hH hS hL hc hsl kk
  case lstore_n => exact so_lstore_n C (mm_dc he (fun z => by cases z)) hst hH hS hL hc hsl kk
  case lload => exact so_lload C (mm_dc he (fun z => by cases z)) hst hH hS hL hc hsl kk
  case lstore => exact so_lstore C (mm_dc he (fun z => by cases z)) hst hH hS hL hc hsl kk
  case aload_n => exact so_aload_n C (mm_dc he (fun z => by cases z)) hst hH hS hL hc hsl kk
  case astore_n => exact so_astore_n C (mm_dc he (fun z => by cases z)) hst hH hS hL hc hsl kk
  case aload => exact so_aload C (mm_dc he (fun z => by cases z)) hst hH hS hL hc hsl kk
  case astore => exact so_astore C (mm_dc he (fun z => by cases z)) hst hH hS hL hc hsl kk
  case iinc => exact so_iinc C (mm_dc he (fun z => by cases z)) hst hH hS hL hc hsl kk
  case iadd => exact so_iadd C (mm_dc he (fun z => by cases z)) hst hH hS hL hc hsl kk
  case isub => exact so_isub C (mm_dc he (fun z => by cases z)) hst hH hS hL hc hsl kk
  case imul => exact so_imul C (mm_dc he (fun z => by cases z)) hst hH hS hL hc hsl kk
  case iand => exact so_iand C (mm_dc he (fun z => by cases z)) hst hH hS hL hc hsl kk
  case ior => exact so_ior C (mm_dc he (fun z => by cases z)) hst hH hS hL hc hsl kk
  case ixor => exact so_ixor C (mm_dc he (fun z => by cases z)) hst hH hS hL hc hsl kk
  case ishl => exact so_ishl C (mm_dc he (fun z => by cases z)) hst hH hS hL hc hsl kk
  case ishr => exact so_ishr C (mm_dc he (fun z => by cases z)) hst hH hS hL hc hsl kk
  case iushr => exact so_iushr C (mm_dc he (fun z => by cases z)) hst hH hS hL hc hsl kk
  case idiv => exact so_idiv C (mm_dc he (fun z => by cases z)) hst hH hS hL hc hsl kk
  case irem => exact so_irem C (mm_dc he (fun z => by cases z)) hst hH hS hL hc hsl kk
  case ladd => exact so_ladd C (mm_dc he (fun z => by cases z)) hst hH hS hL hc hsl kk
  case lsub => exact so_lsub C (mm_dc he (fun z => by cases z)) hst hH hS hL hc hsl kk
  case lmul => exact so_lmul C (mm_dc he (fun z => by cases z)) hst hH hS hL hc hsl kk
  case land => exact so_land C (mm_dc he (fun z => by cases z)) hst hH hS hL hc hsl kk
  case lor => exact so_lor C (mm_dc he (fun z => by cases z)) hst hH hS hL hc hsl kk
  case ldiv => exact so_ldiv C (mm_dc he (fun z => by cases z)) hst hH hS hL hc hsl kk
  case lrem => exact so_lrem C (mm_dc he (fun z => by cases z)) hst hH hS hL hc hsl kk
  case lshl => exact so_lshl C (mm_dc he (fun z => by cases z)) hst hH hS hL hc hsl kk
  case lshr => exact so_lshr C (mm_dc he (fun z => by cases z)) hst hH hS hL hc hsl kk
  case lushr => exact so_lushr C (mm_dc he (fun z => by cases z)) hst hH hS hL hc hsl kk
  case lcmp => exact so_lcmp C (mm_dc he (fun z => by cases z)) hst hH hS hL hc hsl kk
  case ineg => exact so_ineg C (mm_dc he (fun z => by cases z)) hst hH hS hL hc hsl kk
  case i2l => exact so_i2l C (mm_dc he (fun z => by cases z)) hst hH hS hL hc hsl kk
  case l2i => exact so_l2i C (mm_dc he (fun z => by cases z)) hst hH hS hL hc hsl kk
  case i2b => exact so_i2b C (mm_dc he (fun z => by cases z)) hst hH hS hL hc hsl kk
  case i2c => exact so_i2c C (mm_dc he (fun z => by cases z)) hst hH hS hL hc hsl kk
  case dup => exact so_dup C (mm_dc he (fun z => by cases z)) hst hH hS hL hc hsl kk
  case dup2 => exact so_dup2 C (mm_dc he (fun z => by cases z)) hst hH hS hL hc hsl kk
  case pop => exact so_pop C (mm_dc he (fun z => by cases z)) hst hH hS hL hc hsl kk
  case iaload => exact so_iaload C (mm_dc he (fun z => by cases z)) hst hH hS hL hc hsl kk
  case laload => exact so_laload C (mm_dc he (fun z => by cases z)) hst hH hS hL hc hsl kk
  case baload => exact so_baload C (mm_dc he (fun z => by cases z)) hst hH hS hL hc hsl kk
  case caload => exact so_caload C (mm_dc he (fun z => by cases z)) hst hH hS hL hc hsl kk
  case aaload => exact so_aaload C (mm_dc he (fun z => by cases z)) hst hH hS hL hc hsl kk
  case iastore => exact so_iastore C (mm_dc he (fun z => by cases z)) hst hH hS hL hc hsl kk
  case bastore => exact so_bastore C (mm_dc he (fun z => by cases z)) hst hH hS hL hc hsl kk
  case castore => exact so_castore C (mm_dc he (fun z => by cases z)) hst hH hS hL hc hsl kk
  case lastore => exact so_lastore C (mm_dc he (fun z => by cases z)) hst hH hS hL hc hsl kk
  case aastore => exact so_aastore C (mm_dc he (fun z => by cases z)) hst hH hS hL hc hsl kk
  case arraylength => exact so_arraylength C (mm_dc he (fun z => by cases z)) hst hH hS hL hc hsl kk
  case ldc ix => exact so_ldc C (mm_dc he (fun z => by cases z)) hok hst hH hS hL hc hsl kk
  case ldc_w ix =>
    refine so_ldc_w C (mm_dc he (fun z => by cases z)) (fun h0 => ?_) hst hH hS hL hc hsl kk
    have h9 : (decide (¬ r1 = 0) || mm_kc.contains (mm_ow j, ix, r3)) = true := hok
    rw [decide_eq_false (fun z => z h0), Bool.false_or] at h9
    exact h9
  case ldc2_w ix => exact so_ldc2_w C (mm_dc he (fun z => by cases z)) hok hst hH hS hL hc hsl kk
  case goto off => exact so_goto C (mm_dc he (fun z => by cases z)) (of_decide_eq_true hok) hst hH hS hL hc hsl kk
  case ifCond cd off =>
    have ht : (pc : Int) + off = (r1 : Int) := of_decide_eq_true hok
    cases cd
    case eq => exact so_if_eq C (mm_dc he (fun z => by cases z)) ht hst hH hS hL hc hsl kk
    case ne => exact so_if_ne C (mm_dc he (fun z => by cases z)) ht hst hH hS hL hc hsl kk
    case lt => exact so_if_lt C (mm_dc he (fun z => by cases z)) ht hst hH hS hL hc hsl kk
    case ge => exact so_if_ge C (mm_dc he (fun z => by cases z)) ht hst hH hS hL hc hsl kk
    case gt => exact so_if_gt C (mm_dc he (fun z => by cases z)) ht hst hH hS hL hc hsl kk
    case le => exact so_if_le C (mm_dc he (fun z => by cases z)) ht hst hH hS hL hc hsl kk
  case if_icmp cd off =>
    have ht : (pc : Int) + off = (r1 : Int) := of_decide_eq_true hok
    cases cd
    case eq => exact so_icmp_eq C (mm_dc he (fun z => by cases z)) ht hst hH hS hL hc hsl kk
    case ne => exact so_icmp_ne C (mm_dc he (fun z => by cases z)) ht hst hH hS hL hc hsl kk
    case lt => exact so_icmp_lt C (mm_dc he (fun z => by cases z)) ht hst hH hS hL hc hsl kk
    case ge => exact so_icmp_ge C (mm_dc he (fun z => by cases z)) ht hst hH hS hL hc hsl kk
    case gt => exact so_icmp_gt C (mm_dc he (fun z => by cases z)) ht hst hH hS hL hc hsl kk
    case le => exact so_icmp_le C (mm_dc he (fun z => by cases z)) ht hst hH hS hL hc hsl kk
  case tableswitch d lo hi offs =>
    have h9 : (decide (0 ≤ (pc : Int) + d) && offs.toList.all (fun o => decide (0 ≤ (pc : Int) + o))) = true := hok
    rw [Bool.and_eq_true] at h9
    exact so_tsw C hdc ⟨of_decide_eq_true h9.1, fun o ho => of_decide_eq_true (List.all_eq_true.mp h9.2 o ho)⟩ hst hH hS hL hc hsl kk
  case lookupswitch d ps =>
    have h9 : ((ps.toList.zip (ps.toList.drop 1)).all (fun (a, next) => a.1 < next.1) && decide (0 ≤ (pc : Int) + d) && ps.toList.all (fun o => decide (0 ≤ (pc : Int) + o.2))) = true := hok
    rw [Bool.and_eq_true, Bool.and_eq_true] at h9
    exact so_lsw C hdc ⟨h9.1.1, of_decide_eq_true h9.1.2, fun o ho => of_decide_eq_true (List.all_eq_true.mp h9.2 o ho)⟩ hst hH hS hL hc hsl kk
  case getstatic ix =>
    have h9 : (mm_fs.contains (mm_ow j, ix, r1, r2) && (decide (r1 = 0) || decide (r1 = 1))) = true := hok
    simp only [Bool.and_eq_true, Bool.or_eq_true, decide_eq_true_eq] at h9
    exact so_getstatic C (mm_dc he (fun z => by cases z)) h9 hst hH hS hL hc hsl kk
  case getfield ix =>
    by_cases h30 : r1 = 30
    · subst h30
      have h9 : (mm_fs.contains (mm_ow j, ix, 30, r2) && (decide (r2 = 0) || decide (r2 = 1))) = true := by
        unfold mm_ok at hok
        dsimp only at hok
        rw [if_pos rfl] at hok
        exact hok
      simp only [Bool.and_eq_true, Bool.or_eq_true, decide_eq_true_eq] at h9
      have hst2 : mm_gst r2 (pc + 3) L S m = some (.inl q) := by
        unfold mm_step at hst
        dsimp only at hst
        rw [if_pos rfl] at hst
        exact hst
      exact so_gst C (mm_dc he (fun z => by cases z)) h9 hst2 hH hS hL hc hsl kk
    have hst2 : mm_get r1 r2 r3 (pc + 3) L S m = some (.inl q) := by
      unfold mm_step at hst
      dsimp only at hst
      rw [if_neg h30] at hst
      exact hst
    have hok2 : mm_ok j pc (.getfield ix, n, r1, r2, r3) = true := hok
    unfold mm_ok at hok2
    dsimp only at hok2
    rw [if_neg h30] at hok2
    have h9 : (mm_fl.contains (mm_ow j, ix, r1, r2) && decide ((mm_ft r1)[r2]? = some r3.toNat) && decide (0 ≤ r3)) = true := hok2
    rw [Bool.and_eq_true, Bool.and_eq_true] at h9
    exact so_getfield C (mm_dc he (fun z => by cases z)) ⟨h9.1.1, of_decide_eq_true h9.1.2, of_decide_eq_true h9.2⟩ hst2 hH hS hL hc hsl kk
  case putfield ix =>
    have h9 : (mm_fl.contains (mm_ow j, ix, r1, r2) && decide ((mm_ft r1)[r2]? = some r3.toNat) && decide (0 ≤ r3) && (!(mm_T r1 r2).2.2.2 || (decide ((mm_y j).name = "<init>") && decide ((mm_T r1 r2).1 = mm_cn (mm_ow j))))) = true := hok
    rw [Bool.and_eq_true, Bool.and_eq_true, Bool.and_eq_true, Bool.or_eq_true, Bool.and_eq_true] at h9
    refine so_putfield C (mm_dc he (fun z => by cases z)) ⟨⟨h9.1.1.1, of_decide_eq_true h9.1.1.2, of_decide_eq_true h9.1.2⟩, ?_⟩ hst hH hS hL hc hsl kk
    rcases h9.2 with h | h
    · exact Or.inl (by simpa using h)
    · exact Or.inr ⟨of_decide_eq_true h.1, of_decide_eq_true h.2⟩
  case new ix =>
    have h9 : (decide (r1 = 99) || (mm_nw.contains (mm_ow j, ix, r1) && decide (r1 < 13))) = true := hok
    rw [Bool.or_eq_true, Bool.and_eq_true] at h9
    refine so_new C (mm_dc he (fun z => by cases z)) ?_ hst hrm hrs hH hS hL hc hsl kk
    rcases h9 with h | h
    · exact Or.inl (of_decide_eq_true h)
    · exact Or.inr ⟨h.1, of_decide_eq_true h.2⟩
  case newarray t =>
    cases t
    case int => exact so_nwa_i C (mm_dc he (fun z => by cases z)) hst hrm hrs hH hS hL hc hsl kk
    case long => exact so_nwa_l C (mm_dc he (fun z => by cases z)) hst hrm hrs hH hS hL hc hsl kk
    case boolean => exact so_nwa_z C (mm_dc he (fun z => by cases z)) hst hrm hrs hH hS hL hc hsl kk
    case char => exact so_nwa_c C (mm_dc he (fun z => by cases z)) hst hrm hrs hH hS hL hc hsl kk
    all_goals cases hst
  case anewarray ix =>
    have h9 : (mm_an.contains (mm_ow j, ix, r1) && (decide (r1 = 24) || decide (r1 = 25) || decide (r1 = 26))) = true := hok
    rw [Bool.and_eq_true, Bool.or_eq_true, Bool.or_eq_true] at h9
    refine so_anewarray C (mm_dc he (fun z => by cases z)) ⟨h9.1, ?_⟩ hst hrm hrs hH hS hL hc hsl kk
    rcases h9.2 with (h | h) | h
    · exact Or.inl (of_decide_eq_true h)
    · exact Or.inr (Or.inl (of_decide_eq_true h))
    · exact Or.inr (Or.inr (of_decide_eq_true h))
  case multianewarray ix dims =>
    have h9 : (mm_n2.contains (mm_ow j, ix) && decide (dims = 2)) = true := hok
    rw [Bool.and_eq_true] at h9
    have hdm : dims = 2 := of_decide_eq_true h9.2
    subst hdm
    exact so_multi C (mm_dc he (fun z => by cases z)) h9.1 hst hrm hrs hH hS hL hc hsl kk
  case invokestatic ix =>
    exact mm_inv_st C (mm_dc he (fun z => by cases z)) hok hst hrm hrs hH hS hL hc hsl kk
  case invokevirtual ix =>
    exact mm_inv_vi C (mm_dc he (fun z => by cases z)) hok hst hrm hrs hH hS hL hc hsl kk
  case invokespecial ix =>
    exact mm_inv_sp C (mm_dc he (fun z => by cases z)) hok hst hrm hrs hH hS hL hc hsl kk
  case ireturn =>
    exact absurd hst (by show ¬ mm_ret (mm_isZ j) S = _; unfold mm_ret; split <;> first | (split <;> simp) | simp)
  case lreturn =>
    exact absurd hst (by show ¬ mm_lrt S = _; unfold mm_lrt; split <;> simp)
  case return_ =>
    cases S with
    | nil => cases hst
    | cons a b => cases hst
  all_goals cases hst
end SO6
end
section
def mm_gr (m m' : mm_M) : Prop := mm_nc m ≤ mm_nc m' ∧ mm_ns m ≤ mm_ns m'
theorem mm_gr_rfl (m : mm_M) : mm_gr m m := ⟨Nat.le_refl _, Nat.le_refl _⟩
theorem mm_gr_new (m : mm_M) (sh : Nat × Nat) : mm_gr m (mm_new m sh) := ⟨by rw [mm_nc_new]; omega, by rw [mm_ns_new]; omega⟩
theorem mm_gr_new2 (m : mm_M) (n k : Nat) : mm_gr m (mm_new2 m n k) := ⟨by rw [mm_nc_new2]; omega, by rw [mm_ns_new2]; omega⟩
theorem mm_gr_exc (m : mm_M) : mm_gr m (mm_exc m) := by
  constructor
  · show m.1.length + m.2.1.1 ≤ m.1.length + (m.2.1.1 + 1)
    omega
  · show (m.1.map mm_sz).sum + 100 * m.2.1.1 ≤ (m.1.map mm_sz).sum + 100 * (m.2.1.1 + 1)
    omega
theorem mm_gr_tr {a b c : mm_M} (h1 : mm_gr a b) (h2 : mm_gr b c) : mm_gr a c := ⟨Nat.le_trans h1.1 h2.1, Nat.le_trans h1.2 h2.2⟩
theorem mm_inv_gr {k n : Nat} {kd : Int} {pc : Nat} {L : mm_L} {S : List Value} {m : mm_M} {q : Nat × mm_L × List Value × mm_M} (h : mm_inv k n kd pc L S m = some (.inl q)) : mm_gr m q.2.2.2 := by
  obtain ⟨-, -, -, -, -, -, h⟩ := mm_inv_pr h
  unfold mm_prim at h
  repeat' split at h
  all_goals first
    | (cases h; exact mm_gr_rfl _)
    | (cases h; exact ⟨Nat.le_refl _, Nat.le_refl _⟩)
    | cases h
set_option maxHeartbeats 4000000 in
theorem mm_step_gr {j : Nat} {e : mm_E} {pc : Nat} {L : mm_L} {S : List Value} {m : mm_M} {q : Nat × mm_L × List Value × mm_M} (h : mm_step j e pc L S m = some (.inl q)) : mm_gr m q.2.2.2 := by
  unfold mm_step at h
  split at h <;> (try simp only [mm_nx, mm_ldc, mm_ldI, mm_ldL, mm_ldR, mm_stI, mm_stL, mm_stR, mm_inc, mm_bI, mm_dI, mm_bL, mm_dL, mm_hL, mm_cL, mm_1I, mm_1L, mm_dup, mm_dup2, mm_pop, mm_if, mm_ic, mm_get, mm_gst, mm_bld, mm_put, mm_ald, mm_rld, mm_ast, mm_lst, mm_rst, mm_len, mm_nwa, mm_nw2, mm_thr, mm_ret, mm_lrt, mm_tsw, mm_lsw] at h) <;> (repeat' split at h) <;>
    first
    | (cases h; exact mm_gr_rfl _)
    | (cases h; exact ⟨Nat.le_refl _, Nat.le_refl _⟩)
    | (cases h; exact mm_gr_new _ _)
    | (cases h; exact mm_gr_new2 _ _ _)
    | exact mm_inv_gr h
    | cases h
theorem mm_run_gr : ∀ (n d j pc : Nat) (L : mm_L) (S : List Value) (m : mm_M) (r : mm_R), mm_run n d j pc L S m = some r → mm_gr m r.2
  | 0, _, _, _, _, _, _, _, h => by cases h
  | n + 1, d, j, pc, L, S, m, r, h => by
    have ih := mm_run_gr n
    have h1 : mm_body (mm_run n) d j pc L S m = some r := h
    unfold mm_body at h1
    obtain ⟨x, -, h2⟩ := Option.bind_eq_some_iff.mp h1
    obtain ⟨o, h3, h4⟩ := Option.bind_eq_some_iff.mp h2
    rcases o with q | q | v | u
    · exact mm_gr_tr (mm_step_gr h3) (ih _ _ _ _ _ _ _ h4)
    · have h5 : mm_cal (mm_run n) d q.1 q.2.1 j q.2.2.2 L q.2.2.1 m = some r := h4
      unfold mm_cal at h5
      split at h5
      · cases h5
      · split at h5
        · unfold mm_cl2 at h5
          split at h5
          · split at h5
            · obtain ⟨y, h6, h7⟩ := Option.bind_eq_some_iff.mp h5
              have g1 := ih _ _ _ _ _ _ _ h6
              unfold mm_k2 at h7
              split at h7
              · split at h7
                · have g2 := ih _ _ _ _ _ _ _ h7
                  exact ⟨Nat.le_trans g1.1 g2.1, Nat.le_trans g1.2 g2.2⟩
                · cases h7
              · exact mm_gr_tr g1 (ih _ _ _ _ _ _ _ h7)
              · cases h7
            · cases h5
          · cases h5
        · obtain ⟨y, h6, h7⟩ := Option.bind_eq_some_iff.mp h5
          have g1 := ih _ _ _ _ _ _ _ h6
          unfold mm_k1 at h7
          split at h7
          · split at h7
            · exact mm_gr_tr g1 (ih _ _ _ _ _ _ _ h7)
            · cases h7
          · cases h7
    · cases h4
      exact mm_gr_rfl _
    · cases h4
      exact mm_gr_exc _
end
section
def mm_fin (o : Option Value ⊕ Unit) (m : mm_M) : mm_R := match o with
  | .inl v => (some v, m)
  | .inr _ => (none, mm_exc m)
def mm_trO (ad : Nat → Nat) (v : Option Value) : Option Value := v.map (mm_tr ad)
theorem mm_trO_l (ad : Nat → Nat) (v : Option Value) (S : List Value) : (v.toList ++ S).map (mm_tr ad) = (mm_trO ad v).toList ++ S.map (mm_tr ad) := by cases v <;> rfl
/-- a run's frame goes over to the machine -/
def mm_Fr (d j pc : Nat) (L : mm_L) (S : List Value) (m : mm_M) (r : mm_R) : Prop :=
  ∀ (p : Program) (l : Launch) (e : Env) (R : Room) (s : State) (mid : MethodId) (args : Array Value) (below : List Frame) (meth : Method) (c : Code) (Q : State → Prop) (D : va_G) (cA : Nat → ClassId) (N0 : Nat) (sp : Nat → Nat) (nb sb : Nat) (H : Heap) (locs : List Loc) (cells slots : Nat) (ls : Array Slot),
    l.stackTraces = false → mm_Cx p s mid args meth c R j D cA N0 sp nb → d + 1 ≤ R.frames → 100 + 50 * d ≤ R.locals → mm_Hp D cA N0 sp m s H → va_S (fun x => N0 ≤ x) s.heap H locs → mm_LS (mm_ad N0 sp) (mm_mx j) ls L → mm_nc m = nb + cells → mm_ns m = sb + slots → mm_nc r.2 ≤ nb + R.cells → mm_ns r.2 ≤ sb + R.slots →
    (∀ (pc' : Nat) (e' : mm_E) (L' : mm_L) (S' : List Value) (m0 : mm_M) (o : Option Value ⊕ Unit) (H' : Heap) (locs' : List Loc) (ls' : Array Slot) (cells' slots' : Nat), mm_at j pc' = some e' → mm_step j e' pc' L' S' m0 = some (.inr (.inr o)) → r = mm_fin o m0 → mm_Hp D cA N0 sp m0 s H' → va_S (fun x => N0 ≤ x) s.heap H' locs' → mm_LS (mm_ad N0 sp) (mm_mx j) ls' L' → mm_nc m0 = nb + cells' → mm_ns m0 = sb + slots' →
      W p l e R s mid args below meth c H' locs' cells' slots' Q (F0 mid pc' ls' (S'.map (mm_tr (mm_ad N0 sp))))) →
    W p l e R s mid args below meth c H locs cells slots Q (F0 mid pc ls (S.map (mm_tr (mm_ad N0 sp))))
/-- a callee's start, and its end with an answer -/
def mm_Pc (D : va_G) (cA : Nat → ClassId) (N0 : Nat) (sp : Nat → Nat) (m : mm_M) (as : List Value) : Array Value → State → Prop := va_Pc (as.map (mm_tr (mm_ad N0 sp))) (fun U => mm_At D cA sp U ∧ mm_Hp D cA N0 sp m U U.heap ∧ N0 ≤ U.heap.size ∧ U.heap.size ≤ N0 + mm_nc m)
def mm_Qc (D : va_G) (cA : Nat → ClassId) (N0 : Nat) (sp : Nat → Nat) (m : mm_M) (v : Option Value) : Array Value → State → Outcome → State → Prop := fun _ st oc t => oc = .returned (mm_trO (mm_ad N0 sp) v) ∧ mm_Hp D cA N0 sp m t t.heap ∧ va_F (fun x => N0 ≤ x) st t
def mm_rm (d mc ms : Nat) : Room := { frames := d + 1, cells := mc, slots := ms, locals := 100 + 50 * d }
def mm_wk (k : Nat) : List Cond := Cond.code (mm_y k) (mm_b k) (mm_mx k) (mm_rt k) :: mm_g
theorem mm_Pc_blind {D : va_G} {cA : Nat → ClassId} {N0 : Nat} {sp : Nat → Nat} {m : mm_M} {as : List Value} : FrameBlind (mm_Pc D cA N0 sp m as) := by
  intro a U g mk h
  obtain ⟨h0, h1, h2, h3, h4⟩ := h
  exact ⟨h0, mm_At.warm (s := U) (U := U.calling g mk a) (State.WarmedH.refl U) h1, h2.moved (U := U.calling g mk a) (Vm.Alike.refl U.vm), h3, h4⟩
def mm_kok (k : Nat) : Bool := plainName (mm_y k).cls && decide ((mm_y k).cls = mm_cn (mm_ow k)) && decide ((mm_y k).cls ≠ "java/lang/invoke/MethodHandle") && decide ((mm_y k).cls ≠ "java/lang/invoke/VarHandle") && decide ((parseMethodDescriptor (mm_y k).desc).map (fun d => d.parameters.length) = some (mm_na k)) && mm_ini.contains (mm_ow k) && decide (mm_mx k ≤ 31)
set_option maxRecDepth 100000 in
theorem mm_kok_all : mm_ck.all mm_kok = true := by decide +kernel
theorem mm_kok_of {k : Nat} (h : k ∈ mm_ck) : plainName (mm_y k).cls = true ∧ (mm_y k).cls = mm_cn (mm_ow k) ∧ (mm_y k).cls ≠ "java/lang/invoke/MethodHandle" ∧ (mm_y k).cls ≠ "java/lang/invoke/VarHandle" ∧ (parseMethodDescriptor (mm_y k).desc).map (fun d => d.parameters.length) = some (mm_na k) ∧ Cond.initialized (mm_y k).cls ∈ mm_g ∧ mm_mx k ≤ 31 := by
  have h1 := List.all_eq_true.mp mm_kok_all k h
  unfold mm_kok at h1
  simp only [Bool.and_eq_true, decide_eq_true_eq] at h1
  obtain ⟨⟨⟨⟨⟨⟨a1, a2⟩, a3⟩, a4⟩, a5⟩, a6⟩, a7⟩ := h1
  refine ⟨a1, a2, a3, a4, a5, ?_, a7⟩
  rw [a2]
  exact mm_g_in (mm_ini_w _ (List.contains_iff_mem.mp a6)) rfl
theorem mm_code_g {k : Nat} (h : k ∈ mm_ck) : Cond.code (mm_y k) (mm_b k) (mm_mx k) (mm_rt k) ∈ mm_g := mm_g_in (mm_ck_w k h) rfl
theorem mm_wk_good {k : Nat} (h : k ∈ mm_ck) : GoodIn mm_g (mm_wk k) := by
  intro w hw
  rcases List.mem_cons.mp hw with rfl | hw
  · exact mm_g_self _ (mm_code_g h)
  · exact mm_g_self _ hw
/-- the locals at a method's start -/
theorem mm_ar_at {ad : Nat → Nat} : ∀ (as : List Value) (b i : Nat) (v : Value), (mm_ar as)[i]? = some (some v) → (b + i, mm_tr ad v) ∈ lv_args b (as.map (mm_tr ad))
  | [], _, _, _, h => by simp [mm_ar] at h
  | a :: r, b, i, v, h => by
    unfold mm_ar at h
    simp only [List.map_cons, lv_args, mm_tr_cat]
    split at h
    · next hc =>
      rw [if_pos hc]
      match i, h with
      | 0, h =>
        cases h
        exact List.mem_cons_self
      | 1, h => cases h
      | i + 2, h =>
        have := mm_ar_at (ad := ad) r (b + 2) i v h
        rw [show b + 2 + i = b + (i + 2) by omega] at this
        exact List.mem_cons_of_mem _ this
    · next hc =>
      rw [if_neg hc]
      match i, h with
      | 0, h =>
        cases h
        exact List.mem_cons_self
      | i + 1, h =>
        have := mm_ar_at (ad := ad) r (b + 1) i v h
        rw [show b + 1 + i = b + (i + 1) by omega] at this
        exact List.mem_cons_of_mem _ this
theorem mm_ar_len {ad : Nat → Nat} : ∀ as : List Value, (lg_sl (as.map (mm_tr ad))).length = (mm_ar as).length
  | [] => rfl
  | a :: r => by
    have ih := mm_ar_len (ad := ad) r
    unfold lg_sl at ih ⊢
    unfold mm_ar
    simp only [List.map_cons, List.flatMap_cons, List.length_append, mm_tr_cat, ih]
    split
    · simp only [List.length_cons, List.length_nil]; omega
    · simp only [List.length_cons, List.length_nil]; omega
theorem mm_en_LS {ad : Nat → Nat} {k : Nat} {as : List Value} (h : (mm_ar as).length ≤ mm_mx k) : mm_LS ad (mm_mx k) ((lg_sl (as.map (mm_tr ad)) ++ List.replicate (mm_mx k - (lg_sl (as.map (mm_tr ad))).length) Slot.unset).toArray) (mm_en k as) := by
  have hl := lv_entry (as.map (mm_tr ad)) (n := mm_mx k) (by rw [mm_ar_len]; exact h)
  refine ⟨by unfold mm_en; rw [List.length_append, List.length_replicate]; omega, hl.1, hl.2.1, fun q hq => ?_⟩
  obtain ⟨v, h1, h2⟩ := mm_as_mem.mp hq
  apply hl.2.2
  unfold mm_en at h1
  by_cases hi : q.1 < (mm_ar as).length
  · rw [List.getElem?_append_left hi] at h1
    have := mm_ar_at (ad := ad) as 0 q.1 v h1
    rw [Nat.zero_add, ← h2] at this
    exact this
  · rw [List.getElem?_append_right (by omega)] at h1
    have := List.eq_of_mem_replicate (List.mem_of_getElem? h1)
    cases this
set_option maxHeartbeats 4000000 in
theorem mm_step_cls {j : Nat} {i : Instr} {n r1 r2 : Nat} {r3 : Int} {pc : Nat} {L : mm_L} {S : List Value} {m : mm_M} {o : (Nat × List Value × List Value × Nat) ⊕ (Option Value ⊕ Unit)} (h : mm_step j (i, n, r1, r2, r3) pc L S m = some (.inr o)) :
    (i = .ireturn ∨ i = .lreturn ∨ i = .return_) ∨ (∃ ix, i = .new ix ∧ r1 = 99 ∧ S = []) ∨ (∃ ix, (i = .invokestatic ix ∨ i = .invokevirtual ix ∨ i = .invokespecial ix) ∧ mm_inv r1 r2 r3 (pc + 3) L S m = some (.inr o)) := by
  cases i
  case new ix =>
    refine Or.inr (Or.inl ⟨ix, rfl, ?_⟩)
    have h9 : (if r1 = 99 then mm_thr S else if m.2.1.1 = 0 then mm_nx (pc + 3) L (.ref (mm_next m) :: S) (mm_new m (r1, 0)) else none : Option mm_O) = some (.inr o) := h
    split at h9
    · next h1 =>
      unfold mm_thr at h9
      split at h9
      · exact ⟨h1, rfl⟩
      · cases h9
    · split at h9 <;> cases h9
  case newarray t =>
    exfalso
    cases t <;> simp only [mm_step, mm_nwa, mm_nx] at h <;> (repeat' split at h) <;> cases h
  all_goals first
    | exact Or.inl (Or.inl rfl)
    | exact Or.inl (Or.inr (Or.inl rfl))
    | exact Or.inl (Or.inr (Or.inr rfl))
    | exact Or.inr (Or.inr ⟨_, Or.inl rfl, h⟩)
    | exact Or.inr (Or.inr ⟨_, Or.inr (Or.inl rfl), h⟩)
    | exact Or.inr (Or.inr ⟨_, Or.inr (Or.inr rfl), h⟩)
    | (exfalso; cases h)
    | (exfalso; simp only [mm_step, mm_nx, mm_ldc, mm_ldI, mm_ldL, mm_ldR, mm_stI, mm_stL, mm_stR, mm_inc, mm_bI, mm_dI, mm_bL, mm_dL, mm_hL, mm_cL, mm_1I, mm_1L, mm_dup, mm_dup2, mm_pop, mm_if, mm_ic, mm_get, mm_gst, mm_bld, mm_put, mm_ald, mm_rld, mm_ast, mm_lst, mm_rst, mm_len, mm_nwa, mm_nw2, mm_tsw, mm_lsw] at h; (repeat' split at h) <;> cases h)
theorem mm_inv_call {k n : Nat} {kd : Int} {pc : Nat} {L : mm_L} {S : List Value} {m : mm_M} {o : (Nat × List Value × List Value × Nat) ⊕ (Option Value ⊕ Unit)} (h : mm_inv k n kd pc L S m = some (.inr o)) :
    (n ≤ S.length ∧ ((S.drop n).map fun v => v.category).sum ≤ 8 ∧ (mm_ar (S.take n).reverse).length ≤ mm_mx k) ∧ o = .inl (k, (S.take n).reverse, S.drop n, pc) ∧ ((kd = 0 ∨ kd = 1 ∨ kd = 20) ∨ (kd = 2 ∧ mm_rc m (mm_ow k) (S.take n).reverse = true) ∨ ((kd = 3 ∨ kd = 5) ∧ mm_rf (S.take n).reverse = true)) := by
  have key : ∀ {P : Prop}, P → mm_call k n pc S = some (.inr o) → (n ≤ S.length ∧ ((S.drop n).map fun v => v.category).sum ≤ 8 ∧ (mm_ar (S.take n).reverse).length ≤ mm_mx k) ∧ o = .inl (k, (S.take n).reverse, S.drop n, pc) ∧ P := by
    intro P hP hc
    unfold mm_call at hc
    split at hc
    · next h1 => cases hc; exact ⟨h1, rfl, hP⟩
    · cases hc
  unfold mm_inv at h
  split at h
  · next h1 => exact key (Or.inl h1) h
  · split at h
    · next h2 =>
      split at h
      · next h3 => exact key (Or.inr (Or.inl ⟨h2, h3⟩)) h
      · cases h
    · split at h
      · next h2 =>
        split at h
        · next h3 => exact key (Or.inr (Or.inr ⟨h2, h3⟩)) h
        · cases h
      · exfalso
        unfold mm_prim at h
        repeat' split at h
        all_goals cases h
section CALL
variable {p : Program} {l : Launch} {e : Env} {R : Room} {s : State} {mid : MethodId} {args : Array Value} {below : List Frame} {meth : Method} {c : Code} {Q : State → Prop} {D : va_G} {cA : Nat → ClassId} {N0 : Nat} {sp : Nat → Nat} {j nb sb : Nat}
variable {H : Heap} {locs : List Loc} {cells slots pc : Nat} {ls : Array Slot} {L : mm_L} {S : List Value} {m : mm_M}
/-- the end of a method that answers -/
theorem mm_exit {e9 : mm_E} {v : Option Value} {mc ms : Nat} (C : mm_Cx p s mid args meth c R j D cA N0 sp nb) (hr : meth.sig.returnType = mm_rt j) (hlk : meth.locks = false) (he : mm_at j pc = some e9) (hst : mm_step j e9 pc L S m = some (.inr (.inr (.inl v)))) (hH : mm_Hp D cA N0 sp m s H) (hS : va_S (fun x => N0 ≤ x) s.heap H locs) (hmc : cells = mc) (hms : slots = ms) :
    W p l e R s mid args below meth c H locs cells slots (MQ below (mm_Qc D cA N0 sp m v) args s mc ms (fun x => N0 ≤ x)) (F0 mid pc ls (S.map (mm_tr (mm_ad N0 sp)))) := by
  obtain ⟨hx, hb, hml, hown, hts, hnm, hAt, hR, hN, hz⟩ := C
  subst hmc; subst hms
  have hq : ∀ t : State, t.heap = H → s.WarmedH t.vm → mm_Qc D cA N0 sp m v args s (.returned (mm_trO (mm_ad N0 sp) v)) t := fun t ht hW => ⟨rfl, by rw [ht]; exact hH.moved hW.alike, hS.F ht⟩
  obtain ⟨i, n, r1, r2, r3⟩ := e9
  obtain ⟨hdc, hok, -⟩ := mm_at_ok he
  rcases mm_step_cls hst with hi | ⟨ix, rfl, rfl, rfl⟩ | ⟨ix, -, h9⟩
  rotate_left
  · have h9 : (some (.inr (.inr (.inr ()))) : Option mm_O) = some (.inr (.inr (.inl v))) := hst
    cases h9
  · obtain ⟨-, h8, -⟩ := mm_inv_call h9
    cases h8
  rcases hi with rfl | rfl | rfl
  · have hd := mm_dc he (fun z => by cases z)
    have h9 : mm_ret (mm_isZ j) S = some (.inr (.inr (.inl v))) := hst
    unfold mm_ret at h9
    split at h9
    · next x =>
      split at h9
      · next hx2 =>
        cases h9
        have hok2 : (((decide (mm_rt j = some .int) || decide (mm_rt j = some .boolean)) || decide (mm_rt j = some .char)) || decide (mm_rt j = some .byte)) = true := hok
        simp only [Bool.or_eq_true, decide_eq_true_eq] at hok2
        unfold mm_isZ at hx2
        rcases hok2 with ((h1 | h1) | h1) | h1
        · exact W.iret hx hb (hr.trans h1) hq hS.2.2 hd hlk
        · refine W.zret hx hb (hr.trans h1) ?_ hq hS.2.2 hd hlk
          rw [h1] at hx2
          simp at hx2
          rcases hx2 with rfl | rfl <;> rfl
        · refine W.zret hx hb (hr.trans h1) ?_ hq hS.2.2 hd hlk
          rw [h1] at hx2
          simp at hx2
          have h8 := pk_nc x
          rw [hx2] at h8
          exact h8
        · refine W.zret hx hb (hr.trans h1) ?_ hq hS.2.2 hd hlk
          rw [h1] at hx2
          simp at hx2
          have h8 := pk_nb x
          rw [hx2] at h8
          exact h8
      · cases h9
    · cases h9
  · have hd := mm_dc he (fun z => by cases z)
    have h9 : mm_lrt S = some (.inr (.inr (.inl v))) := hst
    unfold mm_lrt at h9
    split at h9
    · next x =>
      cases h9
      exact W.lret hx hb (hr.trans (of_decide_eq_true hok)) hq hS.2.2 hd hlk
    · cases h9
  · have hd := mm_dc he (fun z => by cases z)
    cases S with
    | nil =>
      cases hst
      exact W.vret hx hb (hr.trans (of_decide_eq_true hok)) hq hS.2.2 hd hlk
    | cons a b => cases hst
end CALL
end
section
theorem mm_gi {a : List Cond} (h : ∀ w ∈ a, w ∈ mm_g) : GoodIn mm_g a := fun w hw => mm_g_self w (h w hw)
theorem mm_met {l : Launch} {D : va_G} {cA : Nat → ClassId} {N0 : Nat} {sp : Nat → Nat} {d k : Nat} {as : List Value} {m m' : mm_M} {v : Option Value} (hls : l.stackTraces = false) (hk : k ∈ mm_ck) (har : (mm_ar as).length ≤ mm_mx k) (hF : mm_Fr d k 0 (mm_en k as) [] m (some v, m')) (hgr : mm_gr m m') :
    Met l (mm_y k) (mm_wk k) (mm_rm d (mm_nc m' - mm_nc m) (mm_ns m' - mm_ns m)) (mm_Pc D cA N0 sp m as) (mm_Qc D cA N0 sp m' v) (mm_nc m' - mm_nc m) (mm_ns m' - mm_ns m) (fun x => N0 ≤ x) := by
  obtain ⟨hpl, hcn, -, -, -, -, -⟩ := mm_kok_of hk
  refine Met.ofW (cc := mm_b k) (maxL := mm_mx k) (ret := mm_rt k) hpl rfl ?_
  intro p e s mid args below meth c s₁ B hml hv
  obtain ⟨rfl, hAt, hHp, hN, hz⟩ := hv
  have hts := atoms_spec (ws := mm_wk k) B.pre
  have hown := findClass_of_methodNamed B.named
  rw [hcn] at hown
  have C : mm_Cx p s mid ((as.map (mm_tr (mm_ad N0 sp))).toArray) meth c (mm_rm d (mm_nc m' - mm_nc m) (mm_ns m' - mm_ns m)) k D cA N0 sp (mm_nc m) := ⟨B.exec, B.bytes, hml, hown, fun w hw => hts w (List.mem_cons_of_mem _ hw), (name_of_methodNamed B.named B.method).1, hAt, ⟨Nat.le_add_left _ _, Nat.le_add_right _ _⟩, hN, hz⟩
  rw [lg_entry_eq]
  have g1 := hgr.1
  have g2 := hgr.2
  refine hF p l e (mm_rm d (mm_nc m' - mm_nc m) (mm_ns m' - mm_ns m)) s mid _ below meth c _ D cA N0 sp (mm_nc m) (mm_ns m) s.heap [] 0 0 _ hls C (Nat.le_refl _) (Nat.le_refl _) hHp va_S.rf (mm_en_LS har) rfl rfl ?_ ?_ ?_
  · show mm_nc m' ≤ mm_nc m + (mm_nc m' - mm_nc m)
    omega
  · show mm_ns m' ≤ mm_ns m + (mm_ns m' - mm_ns m)
    omega
  · intro pc' e' L' S' m0 o H' locs' ls' cells' slots' he hst hr hH hS hL hc hsl
    cases o with
    | inr u => cases hr
    | inl v' =>
      cases hr
      exact mm_exit C B.returns B.notSynchronized he hst hH hS (by omega) (by omega)
section CALL2
variable {p : Program} {l : Launch} {e : Env} {R : Room} {s : State} {mid : MethodId} {args : Array Value} {below : List Frame} {meth : Method} {c : Code} {Q : State → Prop} {D : va_G} {cA : Nat → ClassId} {N0 : Nat} {sp : Nat → Nat} {j nb sb : Nat}
variable {H : Heap} {locs : List Loc} {cells slots pc : Nat} {ls : Array Slot} {L : mm_L} {S : List Value} {m : mm_M}
theorem mm_goon {v : Option Value} {m' : mm_M} {mc ms : Nat} {st0 rest : List Value} {aa : Array Value} (hr : va_Run p l e R s mid args below meth c H locs cells slots mc ms (F0 mid pc ls st0) rest (mm_Qc D cA N0 sp m' v aa) (fun x => N0 ≤ x)) (hS : va_S (fun x => N0 ≤ x) s.heap H locs)
    (kk : ∀ (H1 : Heap) (locs1 : List Loc), mm_Hp D cA N0 sp m' s H1 → va_S (fun x => N0 ≤ x) s.heap H1 locs1 → W p l e R s mid args below meth c H1 locs1 (cells + mc) (slots + ms) Q (F0 mid (pc + 3) ls ((mm_trO (mm_ad N0 sp) v).toList ++ rest))) : W p l e R s mid args below meth c H locs cells slots Q (F0 mid pc ls st0) := by
  intro T hT X
  obtain ⟨v2, st₀, t, T', L2, h0, X', hL, e1, e2, ⟨hv, hp, hz, hk⟩, st⟩ := hr T hT X
  cases hv
  rw [h0] at hz hk
  have hal : t.vm.Alike s.vm := by rw [← e2]; exact X'.warmed.alike.symm
  obtain ⟨t2, a1, b1⟩ := kk T'.heap (locs ++ L2) (by rw [e1]; exact hp.moved hal) ⟨Nat.le_trans hS.1 (by rw [e1]; exact hz), fun q h1 h2 => by
      rw [e1, hk q (Nat.lt_of_lt_of_le h1 hS.1) h2]
      exact hS.2.1 q h1 h2, fun q hq => by
      rcases List.mem_append.mp hq with h | h
      · exact hS.2.2 q h
      · exact hL q h⟩ T' rfl X'
  exact ⟨t2, st t2 a1, b1⟩
theorem mm_do {d k pc' : Nat} {e9 : mm_E} {as S' : List Value} {v : Option Value} {m' : mm_M} (hls : l.stackTraces = false) (C : mm_Cx p s mid args meth c R j D cA N0 sp nb) (he : mm_at j pc = some e9) (hst : mm_step j e9 pc L S m = some (.inr (.inl (k, as, S', pc')))) (hk8 : ¬ k = 278) (hd1 : d + 2 ≤ R.frames) (hd2 : 100 + 50 * (d + 1) ≤ R.locals) (hF : mm_Fr d k 0 (mm_en k as) [] m (some v, m')) (hgr : mm_gr m m') (hrm : mm_nc m' ≤ nb + R.cells) (hrs : mm_ns m' ≤ sb + R.slots)
    (hH : mm_Hp D cA N0 sp m s H) (hS : va_S (fun x => N0 ≤ x) s.heap H locs) (hL : mm_LS (mm_ad N0 sp) (mm_mx j) ls L) (hc : mm_nc m = nb + cells) (hsl : mm_ns m = sb + slots) (kk : mm_KK p l e R s mid args below meth c Q D cA N0 sp j nb sb (pc', L, v.toList ++ S', m')) :
    W p l e R s mid args below meth c H locs cells slots Q (F0 mid pc ls (S.map (mm_tr (mm_ad N0 sp)))) := by
  obtain ⟨hx, hb, hml, hown, hts, hnm, hAt, hR, hN, hz⟩ := C
  obtain ⟨i, n, r1, r2, r3⟩ := e9
  obtain ⟨hdc, hok, -⟩ := mm_at_ok he
  obtain ⟨hg1, hg2⟩ := hgr
  rcases mm_step_cls hst with hi | ⟨ix, rfl, rfl, rfl⟩ | ⟨ix, hi, h9⟩
  · exfalso
    rcases hi with rfl | rfl | rfl
    · have h9 : mm_ret (mm_isZ j) S = some (.inr (.inl (k, as, S', pc'))) := hst
      unfold mm_ret at h9
      split at h9
      · split at h9 <;> cases h9
      · cases h9
    · have h9 : mm_lrt S = some (.inr (.inl (k, as, S', pc'))) := hst
      unfold mm_lrt at h9
      split at h9 <;> cases h9
    · cases S with
      | nil => cases hst
      | cons a b => cases hst
  · have h9 : (some (.inr (.inr (.inr ()))) : Option mm_O) = some (.inr (.inl (k, as, S', pc'))) := hst
    cases h9
  · obtain ⟨⟨hl, hs8, har⟩, ho, hkd⟩ := mm_inv_call h9
    cases ho
    intro T hT X
    have hup : H.size ≤ N0 + mm_nc m := by
      have h2 := X.heapSize
      rw [hT] at h2
      omega
    have hlow : N0 ≤ H.size := Nat.le_trans hN hS.1
    have hpre : ∀ U : State, U.heap = H → s.WarmedH U.vm → mm_Pc D cA N0 sp m (S.take r2).reverse (((S.take r2).reverse.map (mm_tr (mm_ad N0 sp))).toArray) U := fun U hU hW => ⟨rfl, hAt.warm hW, by rw [hU]; exact hH.moved hW.alike, by rw [hU]; exact hlow, by rw [hU]; exact hup⟩
    have hstk : S.map (mm_tr (mm_ad N0 sp)) = ((S.take r2).reverse.map (mm_tr (mm_ad N0 sp))).reverse ++ (S.drop r2).map (mm_tr (mm_ad N0 sp)) := by
      rw [List.map_reverse, List.reverse_reverse, ← List.map_append, List.take_append_drop]
    have hrm8 : ((S.drop r2).map (mm_tr (mm_ad N0 sp))).map (fun v => v.category) = (S.drop r2).map (fun v => v.category) := by
      rw [List.map_map]
      exact List.map_congr_left (fun v _ => mm_tr_cat _ v)
    have hro : 2 * (F0 mid pc ls (S.map (mm_tr (mm_ad N0 sp)))).monitorRoom + (((S.drop r2).map (mm_tr (mm_ad N0 sp))).map fun v => v.category).sum ≤ 8 := lv_room (by rw [hrm8]; exact hs8)
    have fin : ∀ (H1 : Heap) (locs1 : List Loc), mm_Hp D cA N0 sp m' s H1 → va_S (fun x => N0 ≤ x) s.heap H1 locs1 → W p l e R s mid args below meth c H1 locs1 (cells + (mm_nc m' - mm_nc m)) (slots + (mm_ns m' - mm_ns m)) Q (F0 mid (pc + 3) ls ((mm_trO (mm_ad N0 sp) v).toList ++ (S.drop r2).map (mm_tr (mm_ad N0 sp)))) := by
      intro H1 locs1 hH1 hS1
      have k9 := kk H1 locs1 ls (cells + (mm_nc m' - mm_nc m)) (slots + (mm_ns m' - mm_ns m)) hH1 hS1 hL (by dsimp only; omega) (by dsimp only; omega)
      dsimp only at k9
      rw [mm_trO_l] at k9
      exact k9
    have hmx : ∀ k9 : Nat, mm_mx k9 ≤ 31 → 8 + (mm_mx k9 + 11) + (100 + 50 * d) ≤ R.locals := fun k9 h => by omega
    have hfr : d + 1 + 1 ≤ R.frames := hd1
    have hcs : cells + (mm_nc m' - mm_nc m) ≤ R.cells ∧ slots + (mm_ns m' - mm_ns m) ≤ R.slots := ⟨by omega, by omega⟩
    rcases hi with rfl | rfl | rfl
    · have hd := mm_dc he (fun z => by cases z)
      have hkd2 : r3 = 0 ∨ r3 = 1 := by
        rcases hkd with (h | h | h) | ⟨h, -⟩ | ⟨h | h, -⟩
        · exact Or.inl h
        · exact Or.inr h
        · subst h
          simp [mm_ok] at hok
          exact absurd hok.1.2 hk8
        · subst h; simp [mm_ok] at hok
        · subst h; simp [mm_ok] at hok
        · subst h; simp [mm_ok] at hok
      have hok2 : ((((mm_ml.contains (mm_ow j, ix, k) && mm_si.contains k) && mm_ck.contains k) && decide (r2 = mm_na k)) && decide (¬ k = 278)) = true := by
        unfold mm_ok at hok
        dsimp only at hok
        rw [if_pos hkd2] at hok
        exact hok
      simp only [Bool.and_eq_true, decide_eq_true_eq] at hok2
      obtain ⟨⟨⟨⟨o1, o2⟩, o3⟩, o4⟩, -⟩ := hok2
      have hkm := List.contains_iff_mem.mp o3
      obtain ⟨hpl, hcn, hn1, hn2, hna, hini, hm31⟩ := mm_kok_of hkm
      have hM := mm_met (l := l) (D := D) (cA := cA) (N0 := N0) (sp := sp) hls hkm har hF ⟨hg1, hg2⟩
      have cw := va_cwS (R := R) (own := mm_cn (mm_ow j)) (index := ix) (mm_na k) hts (mm_gi (a := va_wsS (mm_cn (mm_ow j)) ix (mm_y k) (mm_wk k)) (fun w hw => by
        unfold va_wsS at hw
        rcases List.mem_append.mp hw with h | h
        · simp only [List.mem_cons, List.not_mem_nil, or_false] at h
          rcases h with rfl | rfl | rfl
          · exact mm_g_in (mm_ml_w _ (List.contains_iff_mem.mp o1)) rfl
          · exact mm_g_in (mm_si_w _ (List.contains_iff_mem.mp o2)) rfl
          · exact hini
        · exact (mm_wk_good hkm w h).1)) rfl (rm := mm_rm d (mm_nc m' - mm_nc m) (mm_ns m' - mm_ns m)) rfl rfl ⟨hn1, hn2, hna⟩ ⟨hfr, hmx k hm31⟩
      have hrun := va_runS (p := p) (l := l) (e := e) (below := below) (meth := meth) (H := H) (locs := locs) (cells := cells) (slots := slots) (As := (S.take r2).reverse.map (mm_tr (mm_ad N0 sp))) (rest := (S.drop r2).map (mm_tr (mm_ad N0 sp))) (g := F0 mid pc ls (S.map (mm_tr (mm_ad N0 sp)))) ⟨hx, hb, hml, hown, hts⟩ hM cw ⟨mm_Pc_blind, hpre⟩ rfl (by rw [List.length_map, List.length_reverse, List.length_take]; omega) hL.2.1 hstk hro hd hcs
      exact mm_goon hrun hS fin T hT X
    · have hd := mm_dc he (fun z => by cases z)
      have hkd2 : r3 = 2 ∧ mm_rc m (mm_ow k) (S.take r2).reverse = true := by
        rcases hkd with (h | h | h) | h | ⟨h | h, -⟩
        · subst h; simp [mm_ok] at hok
        · subst h; simp [mm_ok] at hok
        · subst h; simp [mm_ok] at hok
        · exact h
        · subst h; simp [mm_ok] at hok
        · subst h; simp [mm_ok] at hok
      obtain ⟨hr3, hrc⟩ := hkd2
      have hok2 : (((((mm_ml.contains (mm_ow j, ix, k) && mm_vi.contains k) && mm_in1.contains k) && mm_ck.contains k) && decide (r2 = mm_na k + 1)) && decide (¬ k = 278)) = true := by
        unfold mm_ok at hok
        dsimp only at hok
        rw [if_pos hr3] at hok
        exact hok
      simp only [Bool.and_eq_true, decide_eq_true_eq] at hok2
      obtain ⟨⟨⟨⟨⟨o1, o2⟩, o5⟩, o3⟩, o4⟩, -⟩ := hok2
      have hkm := List.contains_iff_mem.mp o3
      obtain ⟨hpl, hcn, hn1, hn2, hna, hini, hm31⟩ := mm_kok_of hkm
      have hM := mm_met (l := l) (D := D) (cA := cA) (N0 := N0) (sp := sp) hls hkm har hF ⟨hg1, hg2⟩
      have cw := cwV (R := R) (own := mm_cn (mm_ow j)) (index := ix) (C := (mm_y k).cls) (mm_na k) hts (mm_gi (a := wsV (mm_cn (mm_ow j)) ix (mm_y k).cls (mm_y k) (mm_wk k)) (fun w hw => by
        unfold wsV at hw
        rcases List.mem_append.mp hw with h | h
        · simp only [List.mem_cons, List.not_mem_nil, or_false] at h
          rcases h with rfl | rfl | rfl | rfl
          · exact mm_g_in (mm_ml_w _ (List.contains_iff_mem.mp o1)) rfl
          · exact mm_g_in (mm_in1_w _ (List.contains_iff_mem.mp o5)) rfl
          · exact mm_g_in (mm_vi_w _ (List.contains_iff_mem.mp o2)) rfl
          · exact hini
        · exact (mm_wk_good hkm w h).1)) rfl (rm := mm_rm d (mm_nc m' - mm_nc m) (mm_ns m' - mm_ns m)) rfl rfl ⟨rfl, hn1, hn2, hna⟩ ⟨hfr, hmx k hm31⟩
      generalize has : (S.take r2).reverse = as0 at hrc hpre hstk har hF hM
      have hal : as0.length = r2 := by rw [← has, List.length_reverse, List.length_take]; omega
      unfold mm_rc at hrc
      split at hrc
      · next a As =>
        split at hrc
        · next sh hsh =>
          have hs1 : (sh.1 = mm_ow k ∧ mm_ow k < 13) ∨ (1 ≤ a ∧ a ≤ 6 ∧ mm_ow k = 16) := of_decide_eq_true hrc
          have hrec : ∃ cell : Cell, H[mm_ad N0 sp a]? = some cell ∧ cell.vm.isStatics = false ∧ s.vm.findClass (mm_y k).cls = some cell.cls := by
            rcases hs1 with ⟨hs1, h13⟩ | ⟨ha1, ha6, h16⟩
            · obtain ⟨ha, hm1⟩ := mm_sh_ob hsh (by omega) (by omega)
              have hg := mm_ws_get (ad := mm_ad N0 sp) (cA := cA) ha hm1
              rw [mm_cel_ob (by omega), hs1] at hg
              have hrec := va_recv hAt.1 hH.1 (mm_vw _ h13) hg
              rw [← hcn] at hrec
              exact hrec
            · obtain ⟨e9, hi6, -⟩ := mm_ad_st (N0 := N0) (sp := sp) ⟨ha1, ha6⟩
              obtain ⟨cell, g1, g2, g3, -⟩ := (hH.2.2.2.1.1 (a - 1) hi6).1
              refine ⟨cell, by rw [e9]; exact g1, g2, ?_⟩
              rw [hcn, h16]
              exact g3
          have hrun := va_runV (p := p) (l := l) (e := e) (below := below) (meth := meth) (H := H) (locs := locs) (cells := cells) (slots := slots) (b := mm_ad N0 sp a) (As := As.map (mm_tr (mm_ad N0 sp))) (rest := (S.drop r2).map (mm_tr (mm_ad N0 sp))) (g := F0 mid pc ls (S.map (mm_tr (mm_ad N0 sp)))) ⟨hx, hb, hml, hown, hts⟩ hM cw ⟨mm_Pc_blind, hrec, hpre⟩ rfl (by rw [List.length_map]; simp only [List.length_cons] at hal; omega) hL.2.1 (by
            show S.map _ = _
            rw [hstk]
            simp [mm_tr]) hro hd hcs
          exact mm_goon hrun hS fin T hT X
        · cases hrc
      · cases hrc
    · have hd := mm_dc he (fun z => by cases z)
      have hkd2 : (r3 = 3 ∨ r3 = 5) ∧ mm_rf (S.take r2).reverse = true := by
        rcases hkd with (h | h | h) | ⟨h, -⟩ | h
        · subst h; simp [mm_ok] at hok
        · subst h; simp [mm_ok] at hok
        · subst h; simp [mm_ok] at hok
        · subst h; simp [mm_ok] at hok
        · exact h
      obtain ⟨hr3, hrf⟩ := hkd2
      generalize has : (S.take r2).reverse = as0 at hrf hpre hstk har hF
      have hal : as0.length = r2 := by rw [← has, List.length_reverse, List.length_take]; omega
      unfold mm_rf at hrf
      split at hrf
      · next a As =>
        rcases hr3 with hr3 | hr3
        · have hok2 : ((((((mm_ml.contains (mm_ow j, ix, k) && mm_in1.contains k) && mm_ck.contains k) && decide ((mm_y k).name = "<init>")) && decide (mm_rt k = none)) && decide (r2 = mm_na k + 1)) && decide (¬ k = 278)) = true := by
            unfold mm_ok at hok
            dsimp only at hok
            rw [if_pos hr3] at hok
            exact hok
          simp only [Bool.and_eq_true, decide_eq_true_eq] at hok2
          obtain ⟨⟨⟨⟨⟨⟨o1, o5⟩, o3⟩, o6⟩, o7⟩, o4⟩, -⟩ := hok2
          have hkm := List.contains_iff_mem.mp o3
          obtain ⟨hpl, hcn, hn1, hn2, hna, hini, hm31⟩ := mm_kok_of hkm
          have hM := mm_met (l := l) (D := D) (cA := cA) (N0 := N0) (sp := sp) hls hkm har hF ⟨hg1, hg2⟩
          have cw := cwI (R := R) (own := mm_cn (mm_ow j)) (index := ix) (y := mm_y k) (bytes := mm_b k) (maxL := mm_mx k) (ws := mm_wk k) (ws' := mm_g) (mm_na k) hts (mm_wk_good hkm) (by unfold mm_wk; rw [o7]) (rm := mm_rm d (mm_nc m' - mm_nc m) (mm_ns m' - mm_ns m)) rfl rfl (hts _ hini) (hts _ (mm_g_in (mm_ml_w _ (List.contains_iff_mem.mp o1)) rfl)) (hts _ (mm_g_in (mm_in1_w _ (List.contains_iff_mem.mp o5)) rfl)) o6 ⟨hn1, hn2, hna⟩ ⟨hfr, hmx k hm31⟩
          have hrun := va_runI (p := p) (l := l) (e := e) (below := below) (meth := meth) (H := H) (locs := locs) (cells := cells) (slots := slots) (b := mm_ad N0 sp a) (As := As.map (mm_tr (mm_ad N0 sp))) (rest := (S.drop r2).map (mm_tr (mm_ad N0 sp))) (g := F0 mid pc ls (S.map (mm_tr (mm_ad N0 sp)))) ⟨hx, hb, hml, hown, hts⟩ hM cw ⟨mm_Pc_blind, hpre⟩ rfl (by rw [List.length_map]; simp only [List.length_cons] at hal; omega) hL.2.1 (by
            show S.map _ = _
            rw [hstk]
            simp [mm_tr]) hro hd hcs
          exact mm_goon hrun hS fin T hT X
        · have hok2 : ((((((mm_nl.contains (mm_ow j, ix, k) && mm_in1.contains k) && mm_ck.contains k) && decide ((mm_y k).name = "<init>")) && decide (mm_rt k = none)) && decide (r2 = mm_na k + 1)) && decide (¬ k = 278)) = true := by
            unfold mm_ok at hok
            dsimp only at hok
            rw [if_neg (by omega), if_pos hr3] at hok
            exact hok
          simp only [Bool.and_eq_true, decide_eq_true_eq] at hok2
          obtain ⟨⟨⟨⟨⟨⟨o1, o5⟩, o3⟩, o6⟩, o7⟩, o4⟩, -⟩ := hok2
          have hkm := List.contains_iff_mem.mp o3
          obtain ⟨hpl, hcn, hn1, hn2, hna, hini, hm31⟩ := mm_kok_of hkm
          have hM := mm_met (l := l) (D := D) (cA := cA) (N0 := N0) (sp := sp) hls hkm har hF ⟨hg1, hg2⟩
          have hnw : va_Nw (.methodLinkNest (mm_cn (mm_ow j)) ix (mm_y k) "SamePassers") s := hAt.2.1 (mm_ow j, ix, k) (List.contains_iff_mem.mp o1)
          have cw := va_cnB (R := R) (own := mm_cn (mm_ow j)) (host := "SamePassers") (index := ix) (y := mm_y k) (bytes := mm_b k) (maxL := mm_mx k) (ret := none) (ws := mm_wk k) (ws' := mm_g) (mm_na k) hts (mm_wk_good hkm) (by unfold mm_wk; rw [o7]) (rm := mm_rm d (mm_nc m' - mm_nc m) (mm_ns m' - mm_ns m)) rfl rfl hnw (hts _ hini) ⟨hn1, hn2, hna⟩ ⟨hfr, hmx k hm31⟩
          have hrun := va_runIN (p := p) (l := l) (e := e) (below := below) (meth := meth) (H := H) (locs := locs) (cells := cells) (slots := slots) (b := mm_ad N0 sp a) (As := As.map (mm_tr (mm_ad N0 sp))) (rest := (S.drop r2).map (mm_tr (mm_ad N0 sp))) (g := F0 mid pc ls (S.map (mm_tr (mm_ad N0 sp)))) ⟨hx, hb, hml, hown, hts⟩ hM ⟨cw, o6, hts _ (mm_g_in (mm_in1_w _ (List.contains_iff_mem.mp o5)) rfl)⟩ ⟨mm_Pc_blind, hpre⟩ rfl (by rw [List.length_map]; simp only [List.length_cons] at hal; omega) hL.2.1 (by
            show S.map _ = _
            rw [hstk]
            simp [mm_tr]) hro hd hcs
          exact mm_goon hrun hS fin T hT X
      · cases hrf
end CALL2
end
section
theorem mm_thr154 : ∀ x ∈ mm_c154, x.2.2.2.1 = 99 → x.1 = 12 ∨ x.1 = 58 ∨ x.1 = 93 := by decide +kernel
theorem mm_w_xk : Cond.classLink "SamePassers" 308 "java/util/NoSuchElementException" ∈ mm_g := mm_g_in (List.mem_of_getElem? (i := 1392) (by decide +kernel)) rfl
theorem mm_w_xi : Cond.initialized "java/util/NoSuchElementException" ∈ mm_g := mm_g_in (List.mem_of_getElem? (i := 159) (by decide +kernel)) rfl
theorem mm_w_xc : Cond.classLink "SamePassersLaw" 13 "java/util/NoSuchElementException" ∈ mm_g := mm_g_in (List.mem_of_getElem? (i := 1387) (by decide +kernel)) rfl
theorem mm_w_xs : Cond.static (mm_y 278) ∈ mm_g := mm_g_in (List.mem_of_getElem? (i := 1385) (by decide +kernel)) rfl
theorem mm_w_xl : Cond.initialized "SamePassersLaw" ∈ mm_g := mm_g_in (mm_ini_w 13 (by decide +kernel)) rfl
def mm_nmW : Option Cond → Option (MethodName × Nat × Option FieldType)
  | some (.codeWith y _ n r h) => if h = [(0, 9, 12, 13)] then some (y, n, r) else none
  | _ => none
theorem mm_nmW_e {o : Option Cond} {y : MethodName} {n : Nat} {r : Option FieldType} (h : mm_nmW o = some (y, n, r)) : ∃ b, o = some (.codeWith y b n r [(0, 9, 12, 13)]) := by
  unfold mm_nmW at h
  split at h
  · split at h
    · next h1 => cases h; subst h1; exact ⟨_, rfl⟩
    · cases h
  · cases h
theorem mm_w_xw0 : mm_nmW (lw_tbl[1386]?) = some (mm_y 278, 4, some .int) := by decide +kernel
theorem mm_w_xp : mm_plc.getD 278 0 = 1386 := by decide +kernel
theorem mm_w_xw : Cond.codeWith (mm_y 278) (mm_b 278) 4 (some .int) [(0, 9, 12, 13)] ∈ mm_g := by
  obtain ⟨b, hb⟩ := mm_nmW_e mm_w_xw0
  have e : mm_b 278 = b := by
    unfold mm_b
    rw [if_neg (by decide), mm_w_xp, hb]
    rfl
  rw [e]
  exact mm_g_in (List.mem_of_getElem? hb) rfl
theorem mm_xat_on : mm_xw.all (fun w => w.onTables) = true := by decide +kernel
def mm_xat : List Cond := vx_atS "SamePassers" 312 "java/util/NoSuchElementException" ["java/lang/RuntimeException", "java/lang/Exception"]
theorem mm_xat_g : ∀ w ∈ mm_xat.filter goodWord, w ∈ lw_tbl := sorry
theorem mm_xat_ot : mm_xat.all vx_ot = true := by decide +kernel
theorem mm_Wmono {p : Program} {l : Launch} {e : Env} {R : Room} {s : State} {m : MethodId} {args : Array Value} {below : List Frame} {meth : Method} {c : Code} {H : Heap} {locs : List Loc} {cells slots : Nat} {Q Q' : State → Prop} {g : JFrame} (h : ∀ t, Q t → Q' t) (k : W p l e R s m args below meth c H locs cells slots Q g) : W p l e R s m args below meth c H locs cells slots Q' g := fun T hT X => by
  obtain ⟨t, a, b⟩ := k T hT X
  exact ⟨t, a, h t b⟩
def mm_QX (D : va_G) (cA : Nat → ClassId) (N0 : Nat) (sp : Nat → Nat) (y : mm_R) : Array Value → State → Outcome → State → Prop := fun a st oc t => ∃ v, y.1 = some v ∧ mm_Qc D cA N0 sp y.2 v a st oc t
def mm_XX (D : va_G) (cA : Nat → ClassId) (N0 : Nat) (sp : Nat → Nat) (y : mm_R) : String → State → State → Prop := fun E st t => y.1 = none ∧ E = "java/util/NoSuchElementException" ∧ mm_Hp D cA N0 sp y.2 t t.heap ∧ va_F (fun x => N0 ≤ x) st t
theorem mm_metX {l : Launch} {D : va_G} {cA : Nat → ClassId} {N0 : Nat} {sp : Nat → Nat} {d : Nat} {as : List Value} {m : mm_M} {y : mm_R} (hls : l.stackTraces = false) (har : (mm_ar as).length ≤ mm_mx 154) (hd6 : 6 ≤ d) (hF : mm_Fr d 154 0 (mm_en 154 as) [] m y) (hgr : mm_gr m y.2) :
    vx_Met l (mm_y 154) (mm_wk 154) (mm_rm d (mm_nc y.2 - mm_nc m) (mm_ns y.2 - mm_ns m)) (mm_Pc D cA N0 sp m as) (mm_QX D cA N0 sp y) (mm_XX D cA N0 sp y) (mm_nc y.2 - mm_nc m) (mm_ns y.2 - mm_ns m) (fun x => N0 ≤ x) := by
  have hk : 154 ∈ mm_ck := by decide +kernel
  obtain ⟨hpl, hcn, -, -, -, -, -⟩ := mm_kok_of hk
  refine vx_ofW (cc := mm_b 154) (maxL := mm_mx 154) (ret := mm_rt 154) hpl rfl ?_
  intro p e s mid args below meth c s₁ B hml htab hv
  obtain ⟨rfl, hAt, hHp, hN, hz⟩ := hv
  have hts := atoms_spec (ws := mm_wk 154) B.pre
  have hown := findClass_of_methodNamed B.named
  rw [hcn] at hown
  have htg : ∀ w ∈ mm_g, w.before ((as.map (mm_tr (mm_ad N0 sp))).toArray) s = true := fun w hw => hts w (List.mem_cons_of_mem _ hw)
  have C : mm_Cx p s mid ((as.map (mm_tr (mm_ad N0 sp))).toArray) meth c (mm_rm d (mm_nc y.2 - mm_nc m) (mm_ns y.2 - mm_ns m)) 154 D cA N0 sp (mm_nc m) := ⟨B.exec, B.bytes, hml, hown, htg, (name_of_methodNamed B.named B.method).1, hAt, ⟨Nat.le_add_left _ _, Nat.le_add_right _ _⟩, hN, hz⟩
  rw [lg_entry_eq]
  have g1 := hgr.1
  have g2 := hgr.2
  refine hF p l e (mm_rm d (mm_nc y.2 - mm_nc m) (mm_ns y.2 - mm_ns m)) s mid _ below meth c _ D cA N0 sp (mm_nc m) (mm_ns m) s.heap [] 0 0 _ hls C (Nat.le_refl _) (Nat.le_refl _) hHp va_S.rf (mm_en_LS har) rfl rfl ?_ ?_ ?_
  · show mm_nc y.2 ≤ mm_nc m + (mm_nc y.2 - mm_nc m)
    omega
  · show mm_ns y.2 ≤ mm_ns m + (mm_ns y.2 - mm_ns m)
    omega
  · intro pc' e' L' S' m0 o H' locs' ls' cells' slots' he hst hr hH hS hL hc hsl
    cases o with
    | inl v' =>
      have hy : y = (some v', m0) := hr
      subst hy
      refine vx_ret (mm_Wmono ?_ (mm_exit C B.returns B.notSynchronized he hst hH hS (show cells' = mm_nc m0 - mm_nc m by omega) (show slots' = mm_ns m0 - mm_ns m by omega)))
      rintro t ⟨o, h1, h2, h3, h4⟩
      exact ⟨o, h1, h2, ⟨v', rfl, h3⟩, h4⟩
    | inr u =>
      have hy : y = (none, mm_exc m0) := hr
      subst hy
      obtain ⟨i, n, r1, r2, r3⟩ := e'
      have hnc : mm_nc (mm_exc m0) = mm_nc m0 + 1 := by
        show m0.1.length + (m0.2.1.1 + 1) = m0.1.length + m0.2.1.1 + 1
        omega
      have hns : mm_ns (mm_exc m0) = mm_ns m0 + 100 := by
        show (m0.1.map mm_sz).sum + 100 * (m0.2.1.1 + 1) = (m0.1.map mm_sz).sum + 100 * m0.2.1.1 + 100
        omega
      rcases mm_step_cls hst with hi | ⟨ix, rfl, rfl, rfl⟩ | ⟨ix, -, h9⟩
      · exfalso
        rcases hi with rfl | rfl | rfl
        · have h9 : mm_ret (mm_isZ 154) S' = some (.inr (.inr (.inr u))) := hst
          unfold mm_ret at h9
          split at h9
          · split at h9 <;> cases h9
          · cases h9
        · have h9 : mm_lrt S' = some (.inr (.inr (.inr u))) := hst
          unfold mm_lrt at h9
          split at h9 <;> cases h9
        · cases S' with
          | nil => cases hst
          | cons a b => cases hst
      · have hpc : pc' = 12 ∨ pc' = 58 ∨ pc' = 93 := mm_thr154 (pc', _) (mm_lk_mem mm_c154 pc' _ he) rfl
        have hgo : ∀ (is sx : Nat), ix = 308 → (11, is, sx) ∈ mm_ks → mm_at 154 (pc' + 3) = some (.dup, 1, 0, 0, 0) → mm_at 154 (pc' + 4) = some (.ldc_w is, 3, 2, sx, 0) → mm_at 154 (pc' + 7) = some (.invokespecial 312, 3, 999, 0, 98) → mm_at 154 (pc' + 10) = some (.athrow, 1, 0, 0, 0) →
            W p l e (mm_rm d (mm_nc (mm_exc m0) - mm_nc m) (mm_ns (mm_exc m0) - mm_ns m)) s mid ((as.map (mm_tr (mm_ad N0 sp))).toArray) below meth c H' locs' cells' slots' (vx_MQ below (mm_QX D cA N0 sp (none, mm_exc m0)) (mm_XX D cA N0 sp (none, mm_exc m0)) ((as.map (mm_tr (mm_ad N0 sp))).toArray) s (mm_nc (mm_exc m0) - mm_nc m) (mm_ns (mm_exc m0) - mm_ns m) (fun x => N0 ≤ x)) (F0 mid pc' ls' []) := by
          intro is sx hix hks a3 a4 a7 a10
          subst hix
          obtain ⟨tx, htx⟩ := hAt.2.2.2.2.2.1 _ hks
          have hat : ∀ w ∈ mm_xat, w.before ((as.map (mm_tr (mm_ad N0 sp))).toArray) s = true := vx_hat (L := mm_xat) (B := mm_xw) (fun w hw => htg w (mm_g_in (mm_xat_g w hw) (List.mem_filter.mp hw).2)) (fun w hw => hw) (fun w hw => va_Nw.use (List.all_eq_true.mp mm_xat_on w hw) (hAt.2.2.2.2.2.2.2 w hw))
          refine vx_throwSW (own := "SamePassers") (cls := "java/util/NoSuchElementException") (text := tx) (names := ["java/lang/RuntimeException", "java/lang/Exception"]) (ik := 308) (is := is) (ic := 312) (A := fun x => N0 ≤ x) B.exec B.bytes hls hown (by decide +kernel) (by decide +kernel) (htg _ mm_w_xk) (htg _ mm_w_xi) htx hat ?_ hHp.2.2.2.2.2.2.1 hHp.2.2.2.2.2.2.2 hS (by rw [hml]; exact hL.2.1) (mm_dc he (fun z => by cases z)) (mm_dc a3 (fun z => by cases z)) (mm_dc a4 (fun z => by cases z)) (mm_dc a7 (fun z => by cases z)) (mm_dc a10 (fun z => by cases z)) (fun x hx => (htab x hx).elim) ?_ ?_ ?_ ?_ B.notSynchronized ?_ hS.2.2 (by omega) (by omega)
          · intro w hw
            rcases List.mem_cons.mp hw with rfl | hw
            · rfl
            · rcases List.mem_cons.mp hw with rfl | hw
              · rfl
              · exact List.all_eq_true.mp mm_xat_ot w hw
          · show 2 + 3 < d + 1
            omega
          · show 0 + (13 * (2 + 1) + 43) ≤ 100 + 50 * d
            omega
          · show cells' + 1 ≤ mm_nc (mm_exc m0) - mm_nc m
            omega
          · show slots' + 6 ≤ mm_ns (mm_exc m0) - mm_ns m
            omega
          · intro t hal hsz2 hold
            have hold2 : ∀ a : Nat, a < H'.size → ¬ N0 ≤ a → t.heap[a]? = H'[a]? := fun a h1 _ => hold a h1
            have hsp : sp 0 < H'.size := Nat.lt_of_lt_of_le hH.2.2.1 (Nat.le_trans hN hS.1)
            refine ⟨rfl, rfl, ?_, Nat.le_trans hS.1 hsz2, fun q h1 h2 => (hold q (Nat.lt_of_lt_of_le h1 hS.1)).trans (hS.2.1 q h1 h2)⟩
            refine mm_Hp.moved (m := mm_exc m0) hal ?_
            exact ⟨hH.1.kept (fun k x hx => hold x.1 ((hH.1 k x hx).lt)), hH.2.1.kept (hold _ hsp), hH.2.2.1, hH.2.2.2.1.kept hold2, hH.2.2.2.2.1.kept hold2, hH.2.2.2.2.2.1.kept hold2, vx_Zq.kept hH.2.2.2.2.2.2.1 hold2, vx_Zq.kept hH.2.2.2.2.2.2.2 hold2⟩
        rcases hpc with rfl | rfl | rfl
        · have h9 : some ((.new 308, 3, 99, 0, 0) : mm_E) = some (.new ix, n, 99, r2, r3) := he
          cases h9
          exact hgo 310 7 rfl (by decide +kernel) rfl rfl rfl rfl
        · have h9 : some ((.new 308, 3, 99, 0, 0) : mm_E) = some (.new ix, n, 99, r2, r3) := he
          cases h9
          exact hgo 327 8 rfl (by decide +kernel) rfl rfl rfl rfl
        · have h9 : some ((.new 308, 3, 99, 0, 0) : mm_E) = some (.new ix, n, 99, r2, r3) := he
          cases h9
          exact hgo 336 9 rfl (by decide +kernel) rfl rfl rfl rfl
      · obtain ⟨-, h8, -⟩ := mm_inv_call h9
        cases h8
end
section
def tst_M : List Cond := (mm_xat.filter goodWord).filter (fun w => !decide (w ∈ lw_tbl))
theorem tst_1 : tst_M.length = 1 := by decide +kernel
theorem tst_2 : tst_M.length = 2 := by decide +kernel
theorem tst_3 : tst_M.length = 3 := by decide +kernel
theorem tst_4 : tst_M.length = 4 := by decide +kernel
theorem tst_a : tst_M.all (fun w => match w with | .code _ _ _ _ => true | _ => false) = true := by decide +kernel
theorem tst_b : tst_M.all (fun w => match w with | .lays _ _ _ _ => true | _ => false) = true := by decide +kernel
theorem tst_c : tst_M.all (fun w => match w with | .fieldLink _ _ _ _ _ => true | _ => false) = true := by decide +kernel
theorem tst_d : tst_M.all (fun w => match w with | .selects _ _ _ => true | _ => false) = true := by decide +kernel
theorem tst_e : tst_M.all (fun w => match w with | .methodLink _ _ _ => true | _ => false) = true := by decide +kernel
theorem tst_f : tst_M.all (fun w => match w with | .initialized _ => true | _ => false) = true := by decide +kernel
theorem tst_g : tst_M.length = 0 := by decide +kernel
theorem tst_h : (match tst_M with | [.code y _ _ _] => decide (y.cls = "java/lang/Throwable") | _ => false) = true := by decide +kernel
end
