-- ===== PART A: goes FIRST, ahead of the names: the tables' words, and 'selects' of the private methods out of them =====
/-- a private method of a class that the tables say can be made, by its rows of tables_1 -/
def lw_okq (q : MethodName × Nat) : Prop := (q.1.cls ≠ "java/lang/invoke/MethodHandle" ∧ q.1.cls ≠ "java/lang/invoke/VarHandle") ∧ Cond.instantiable q.1.cls q.2 ∈ tables_1 ∧ Cond.privateMethod q.1 ∈ tables_1 ∧ Cond.instanceMethod q.1 ∈ tables_1
theorem lw_p0 : lw_okq (⟨"QuietLine", "addFour", "(I)V"⟩, 13) := ⟨⟨by decide +kernel, by decide +kernel⟩, List.mem_of_getElem? (i := 25) (by decide +kernel), List.mem_of_getElem? (i := 404) (by decide +kernel), List.mem_of_getElem? (i := 405) (by decide +kernel)⟩
theorem lw_p1 : lw_okq (⟨"QuietLine$Row", "makeRoom", "(I)V"⟩, 3) := ⟨⟨by decide +kernel, by decide +kernel⟩, List.mem_of_getElem? (i := 39) (by decide +kernel), List.mem_of_getElem? (i := 412) (by decide +kernel), List.mem_of_getElem? (i := 413) (by decide +kernel)⟩
theorem lw_p2 : lw_okq (⟨"QuietLine$Tape", "nextPart", "()V"⟩, 6) := ⟨⟨by decide +kernel, by decide +kernel⟩, List.mem_of_getElem? (i := 33) (by decide +kernel), List.mem_of_getElem? (i := 441) (by decide +kernel), List.mem_of_getElem? (i := 442) (by decide +kernel)⟩
theorem lw_p3 : lw_okq (⟨"QuietLine$Tape", "endOf", "(Z)I"⟩, 6) := ⟨⟨by decide +kernel, by decide +kernel⟩, List.mem_of_getElem? (i := 33) (by decide +kernel), List.mem_of_getElem? (i := 456) (by decide +kernel), List.mem_of_getElem? (i := 457) (by decide +kernel)⟩
theorem lw_p4 : lw_okq (⟨"QuietLine$Tape", "sortOfWord", "()I"⟩, 6) := ⟨⟨by decide +kernel, by decide +kernel⟩, List.mem_of_getElem? (i := 33) (by decide +kernel), List.mem_of_getElem? (i := 463) (by decide +kernel), List.mem_of_getElem? (i := 464) (by decide +kernel)⟩
theorem lw_p5 : lw_okq (⟨"QuietLine$Tape", "isWord", "(Ljava/lang/String;)Z"⟩, 6) := ⟨⟨by decide +kernel, by decide +kernel⟩, List.mem_of_getElem? (i := 33) (by decide +kernel), List.mem_of_getElem? (i := 468) (by decide +kernel), List.mem_of_getElem? (i := 469) (by decide +kernel)⟩
theorem lw_p6 : lw_okq (⟨"QuietLine$Tape", "mayStand", "(I)Z"⟩, 6) := ⟨⟨by decide +kernel, by decide +kernel⟩, List.mem_of_getElem? (i := 33) (by decide +kernel), List.mem_of_getElem? (i := 525) (by decide +kernel), List.mem_of_getElem? (i := 526) (by decide +kernel)⟩
theorem lw_p7 : lw_okq (⟨"QuietLine$Tape", "tell", "(I)Z"⟩, 6) := ⟨⟨by decide +kernel, by decide +kernel⟩, List.mem_of_getElem? (i := 33) (by decide +kernel), List.mem_of_getElem? (i := 529) (by decide +kernel), List.mem_of_getElem? (i := 530) (by decide +kernel)⟩
theorem lw_p8 : lw_okq (⟨"QuietLine$Tape", "choice", "(Ljava/lang/String;Ljava/lang/String;Ljava/lang/String;)I"⟩, 6) := ⟨⟨by decide +kernel, by decide +kernel⟩, List.mem_of_getElem? (i := 33) (by decide +kernel), List.mem_of_getElem? (i := 535) (by decide +kernel), List.mem_of_getElem? (i := 536) (by decide +kernel)⟩
theorem lw_p9 : lw_okq (⟨"QuietLine$Tape", "number", "(II)I"⟩, 6) := ⟨⟨by decide +kernel, by decide +kernel⟩, List.mem_of_getElem? (i := 33) (by decide +kernel), List.mem_of_getElem? (i := 539) (by decide +kernel), List.mem_of_getElem? (i := 540) (by decide +kernel)⟩
theorem lw_p10 : lw_okq (⟨"QuietLine", "framesThere", "()I"⟩, 13) := ⟨⟨by decide +kernel, by decide +kernel⟩, List.mem_of_getElem? (i := 25) (by decide +kernel), List.mem_of_getElem? (i := 588) (by decide +kernel), List.mem_of_getElem? (i := 589) (by decide +kernel)⟩
theorem lw_p11 : lw_okq (⟨"QuietLine", "refuse", "(I)I"⟩, 13) := ⟨⟨by decide +kernel, by decide +kernel⟩, List.mem_of_getElem? (i := 25) (by decide +kernel), List.mem_of_getElem? (i := 618) (by decide +kernel), List.mem_of_getElem? (i := 619) (by decide +kernel)⟩
theorem lw_p12 : lw_okq (⟨"QuietLine$State", "putFrame", "(LQuietLine$Framing;)Z"⟩, 8) := ⟨⟨by decide +kernel, by decide +kernel⟩, List.mem_of_getElem? (i := 234) (by decide +kernel), List.mem_of_getElem? (i := 675) (by decide +kernel), List.mem_of_getElem? (i := 676) (by decide +kernel)⟩
theorem lw_p13 : lw_okq (⟨"QuietLine$Framing", "checkOf", "(I)I"⟩, 6) := ⟨⟨by decide +kernel, by decide +kernel⟩, List.mem_of_getElem? (i := 148) (by decide +kernel), List.mem_of_getElem? (i := 699) (by decide +kernel), List.mem_of_getElem? (i := 700) (by decide +kernel)⟩
theorem lw_p14 : lw_okq (⟨"QuietLine$Stuffing", "runFrom", "(LQuietLine$Row;I)I"⟩, 2) := ⟨⟨by decide +kernel, by decide +kernel⟩, List.mem_of_getElem? (i := 70) (by decide +kernel), List.mem_of_getElem? (i := 712) (by decide +kernel), List.mem_of_getElem? (i := 713) (by decide +kernel)⟩
theorem lw_p15 : lw_okq (⟨"QuietLine$Stuffing", "codeOf", "(LQuietLine$Row;III)I"⟩, 2) := ⟨⟨by decide +kernel, by decide +kernel⟩, List.mem_of_getElem? (i := 70) (by decide +kernel), List.mem_of_getElem? (i := 717) (by decide +kernel), List.mem_of_getElem? (i := 718) (by decide +kernel)⟩
def lw_privs_1 : List (MethodName × Nat) := [(⟨"QuietLine", "addFour", "(I)V"⟩, 13), (⟨"QuietLine$Row", "makeRoom", "(I)V"⟩, 3), (⟨"QuietLine$Tape", "nextPart", "()V"⟩, 6), (⟨"QuietLine$Tape", "endOf", "(Z)I"⟩, 6), (⟨"QuietLine$Tape", "sortOfWord", "()I"⟩, 6), (⟨"QuietLine$Tape", "isWord", "(Ljava/lang/String;)Z"⟩, 6), (⟨"QuietLine$Tape", "mayStand", "(I)Z"⟩, 6), (⟨"QuietLine$Tape", "tell", "(I)Z"⟩, 6), (⟨"QuietLine$Tape", "choice", "(Ljava/lang/String;Ljava/lang/String;Ljava/lang/String;)I"⟩, 6), (⟨"QuietLine$Tape", "number", "(II)I"⟩, 6), (⟨"QuietLine", "framesThere", "()I"⟩, 13), (⟨"QuietLine", "refuse", "(I)I"⟩, 13), (⟨"QuietLine$State", "putFrame", "(LQuietLine$Framing;)Z"⟩, 8), (⟨"QuietLine$Framing", "checkOf", "(I)I"⟩, 6), (⟨"QuietLine$Stuffing", "runFrom", "(LQuietLine$Row;I)I"⟩, 2), (⟨"QuietLine$Stuffing", "codeOf", "(LQuietLine$Row;III)I"⟩, 2)]
theorem lw_r1 : ∀ q ∈ lw_privs_1, lw_okq q := List.forall_mem_cons.mpr ⟨lw_p0, List.forall_mem_cons.mpr ⟨lw_p1, List.forall_mem_cons.mpr ⟨lw_p2, List.forall_mem_cons.mpr ⟨lw_p3, List.forall_mem_cons.mpr ⟨lw_p4, List.forall_mem_cons.mpr ⟨lw_p5, List.forall_mem_cons.mpr ⟨lw_p6, List.forall_mem_cons.mpr ⟨lw_p7, List.forall_mem_cons.mpr ⟨lw_p8, List.forall_mem_cons.mpr ⟨lw_p9, List.forall_mem_cons.mpr ⟨lw_p10, List.forall_mem_cons.mpr ⟨lw_p11, List.forall_mem_cons.mpr ⟨lw_p12, List.forall_mem_cons.mpr ⟨lw_p13, List.forall_mem_cons.mpr ⟨lw_p14, List.forall_mem_cons.mpr ⟨lw_p15, fun _ h => absurd h List.not_mem_nil⟩⟩⟩⟩⟩⟩⟩⟩⟩⟩⟩⟩⟩⟩⟩⟩
theorem lw_p16 : lw_okq (⟨"QuietLine$State", "readMark", "(LQuietLine$Framing;)V"⟩, 8) := ⟨⟨by decide +kernel, by decide +kernel⟩, List.mem_of_getElem? (i := 234) (by decide +kernel), List.mem_of_getElem? (i := 803) (by decide +kernel), List.mem_of_getElem? (i := 804) (by decide +kernel)⟩
theorem lw_p17 : lw_okq (⟨"QuietLine$Stuffing", "zerosBehind", "(IZ)I"⟩, 2) := ⟨⟨by decide +kernel, by decide +kernel⟩, List.mem_of_getElem? (i := 70) (by decide +kernel), List.mem_of_getElem? (i := 822) (by decide +kernel), List.mem_of_getElem? (i := 823) (by decide +kernel)⟩
theorem lw_p18 : lw_okq (⟨"QuietLine$Port", "tear", "()V"⟩, 12) := ⟨⟨by decide +kernel, by decide +kernel⟩, List.mem_of_getElem? (i := 243) (by decide +kernel), List.mem_of_getElem? (i := 832) (by decide +kernel), List.mem_of_getElem? (i := 833) (by decide +kernel)⟩
theorem lw_p19 : lw_okq (⟨"QuietLine", "stuffedLength", "(I)I"⟩, 13) := ⟨⟨by decide +kernel, by decide +kernel⟩, List.mem_of_getElem? (i := 25) (by decide +kernel), List.mem_of_getElem? (i := 887) (by decide +kernel), List.mem_of_getElem? (i := 888) (by decide +kernel)⟩
theorem lw_p20 : lw_okq (⟨"QuietLine$Framing", "blindCodes", "(II)I"⟩, 6) := ⟨⟨by decide +kernel, by decide +kernel⟩, List.mem_of_getElem? (i := 148) (by decide +kernel), List.mem_of_getElem? (i := 925) (by decide +kernel), List.mem_of_getElem? (i := 926) (by decide +kernel)⟩
theorem lw_p21 : lw_okq (⟨"QuietLine", "longestFrame", "()I"⟩, 13) := ⟨⟨by decide +kernel, by decide +kernel⟩, List.mem_of_getElem? (i := 25) (by decide +kernel), List.mem_of_getElem? (i := 989) (by decide +kernel), List.mem_of_getElem? (i := 990) (by decide +kernel)⟩
theorem lw_p22 : lw_okq (⟨"java/lang/Throwable", "fillInStackTrace", "(I)Ljava/lang/Throwable;"⟩, 6) := ⟨⟨by decide +kernel, by decide +kernel⟩, List.mem_of_getElem? (i := 1050) (by decide +kernel), List.mem_of_getElem? (i := 1048) (by decide +kernel), List.mem_of_getElem? (i := 1049) (by decide +kernel)⟩
theorem lw_p23 : lw_okq (⟨"QuietLineModel", "four", "(I)V"⟩, 44) := ⟨⟨by decide +kernel, by decide +kernel⟩, List.mem_of_getElem? (i := 1080) (by decide +kernel), List.mem_of_getElem? (i := 1228) (by decide +kernel), List.mem_of_getElem? (i := 1229) (by decide +kernel)⟩
theorem lw_p24 : lw_okq (⟨"QuietLineModel", "reads", "()I"⟩, 44) := ⟨⟨by decide +kernel, by decide +kernel⟩, List.mem_of_getElem? (i := 1080) (by decide +kernel), List.mem_of_getElem? (i := 1243) (by decide +kernel), List.mem_of_getElem? (i := 1244) (by decide +kernel)⟩
theorem lw_p25 : lw_okq (⟨"QuietLineModel", "next", "()V"⟩, 44) := ⟨⟨by decide +kernel, by decide +kernel⟩, List.mem_of_getElem? (i := 1080) (by decide +kernel), List.mem_of_getElem? (i := 1247) (by decide +kernel), List.mem_of_getElem? (i := 1248) (by decide +kernel)⟩
theorem lw_p26 : lw_okq (⟨"QuietLineModel", "here", "()I"⟩, 44) := ⟨⟨by decide +kernel, by decide +kernel⟩, List.mem_of_getElem? (i := 1080) (by decide +kernel), List.mem_of_getElem? (i := 1251) (by decide +kernel), List.mem_of_getElem? (i := 1252) (by decide +kernel)⟩
theorem lw_p27 : lw_okq (⟨"QuietLineModel", "readsPiece", "()V"⟩, 44) := ⟨⟨by decide +kernel, by decide +kernel⟩, List.mem_of_getElem? (i := 1080) (by decide +kernel), List.mem_of_getElem? (i := 1262) (by decide +kernel), List.mem_of_getElem? (i := 1263) (by decide +kernel)⟩
theorem lw_p28 : lw_okq (⟨"QuietLineModel", "isWord", "(Ljava/lang/String;)Z"⟩, 44) := ⟨⟨by decide +kernel, by decide +kernel⟩, List.mem_of_getElem? (i := 1080) (by decide +kernel), List.mem_of_getElem? (i := 1267) (by decide +kernel), List.mem_of_getElem? (i := 1268) (by decide +kernel)⟩
theorem lw_p29 : lw_okq (⟨"QuietLineModel", "isNew", "(I)Z"⟩, 44) := ⟨⟨by decide +kernel, by decide +kernel⟩, List.mem_of_getElem? (i := 1080) (by decide +kernel), List.mem_of_getElem? (i := 1273) (by decide +kernel), List.mem_of_getElem? (i := 1274) (by decide +kernel)⟩
theorem lw_p30 : lw_okq (⟨"QuietLineModel", "takesOne", "(Ljava/lang/String;Ljava/lang/String;Ljava/lang/String;)I"⟩, 44) := ⟨⟨by decide +kernel, by decide +kernel⟩, List.mem_of_getElem? (i := 1080) (by decide +kernel), List.mem_of_getElem? (i := 1280) (by decide +kernel), List.mem_of_getElem? (i := 1281) (by decide +kernel)⟩
theorem lw_p31 : lw_okq (⟨"QuietLineModel", "bad", "()V"⟩, 44) := ⟨⟨by decide +kernel, by decide +kernel⟩, List.mem_of_getElem? (i := 1080) (by decide +kernel), List.mem_of_getElem? (i := 1284) (by decide +kernel), List.mem_of_getElem? (i := 1285) (by decide +kernel)⟩
def lw_privs_2 : List (MethodName × Nat) := [(⟨"QuietLine$State", "readMark", "(LQuietLine$Framing;)V"⟩, 8), (⟨"QuietLine$Stuffing", "zerosBehind", "(IZ)I"⟩, 2), (⟨"QuietLine$Port", "tear", "()V"⟩, 12), (⟨"QuietLine", "stuffedLength", "(I)I"⟩, 13), (⟨"QuietLine$Framing", "blindCodes", "(II)I"⟩, 6), (⟨"QuietLine", "longestFrame", "()I"⟩, 13), (⟨"java/lang/Throwable", "fillInStackTrace", "(I)Ljava/lang/Throwable;"⟩, 6), (⟨"QuietLineModel", "four", "(I)V"⟩, 44), (⟨"QuietLineModel", "reads", "()I"⟩, 44), (⟨"QuietLineModel", "next", "()V"⟩, 44), (⟨"QuietLineModel", "here", "()I"⟩, 44), (⟨"QuietLineModel", "readsPiece", "()V"⟩, 44), (⟨"QuietLineModel", "isWord", "(Ljava/lang/String;)Z"⟩, 44), (⟨"QuietLineModel", "isNew", "(I)Z"⟩, 44), (⟨"QuietLineModel", "takesOne", "(Ljava/lang/String;Ljava/lang/String;Ljava/lang/String;)I"⟩, 44), (⟨"QuietLineModel", "bad", "()V"⟩, 44)]
theorem lw_r2 : ∀ q ∈ lw_privs_2, lw_okq q := List.forall_mem_cons.mpr ⟨lw_p16, List.forall_mem_cons.mpr ⟨lw_p17, List.forall_mem_cons.mpr ⟨lw_p18, List.forall_mem_cons.mpr ⟨lw_p19, List.forall_mem_cons.mpr ⟨lw_p20, List.forall_mem_cons.mpr ⟨lw_p21, List.forall_mem_cons.mpr ⟨lw_p22, List.forall_mem_cons.mpr ⟨lw_p23, List.forall_mem_cons.mpr ⟨lw_p24, List.forall_mem_cons.mpr ⟨lw_p25, List.forall_mem_cons.mpr ⟨lw_p26, List.forall_mem_cons.mpr ⟨lw_p27, List.forall_mem_cons.mpr ⟨lw_p28, List.forall_mem_cons.mpr ⟨lw_p29, List.forall_mem_cons.mpr ⟨lw_p30, List.forall_mem_cons.mpr ⟨lw_p31, fun _ h => absurd h List.not_mem_nil⟩⟩⟩⟩⟩⟩⟩⟩⟩⟩⟩⟩⟩⟩⟩⟩
theorem lw_p32 : lw_okq (⟨"QuietLineModel", "takesNumber", "(II)I"⟩, 44) := ⟨⟨by decide +kernel, by decide +kernel⟩, List.mem_of_getElem? (i := 1080) (by decide +kernel), List.mem_of_getElem? (i := 1289) (by decide +kernel), List.mem_of_getElem? (i := 1290) (by decide +kernel)⟩
theorem lw_p33 : lw_okq (⟨"QuietLineModel", "takesSemicolon", "()Z"⟩, 44) := ⟨⟨by decide +kernel, by decide +kernel⟩, List.mem_of_getElem? (i := 1080) (by decide +kernel), List.mem_of_getElem? (i := 1299) (by decide +kernel), List.mem_of_getElem? (i := 1300) (by decide +kernel)⟩
theorem lw_p34 : lw_okq (⟨"QuietLineModel", "lay", "(III)V"⟩, 44) := ⟨⟨by decide +kernel, by decide +kernel⟩, List.mem_of_getElem? (i := 1080) (by decide +kernel), List.mem_of_getElem? (i := 1307) (by decide +kernel), List.mem_of_getElem? (i := 1308) (by decide +kernel)⟩
theorem lw_p35 : lw_okq (⟨"QuietLineModel", "lettersPlain", "()V"⟩, 44) := ⟨⟨by decide +kernel, by decide +kernel⟩, List.mem_of_getElem? (i := 1080) (by decide +kernel), List.mem_of_getElem? (i := 1319) (by decide +kernel), List.mem_of_getElem? (i := 1320) (by decide +kernel)⟩
theorem lw_p36 : lw_okq (⟨"QuietLineModel", "stuffs", "(I)V"⟩, 44) := ⟨⟨by decide +kernel, by decide +kernel⟩, List.mem_of_getElem? (i := 1080) (by decide +kernel), List.mem_of_getElem? (i := 1323) (by decide +kernel), List.mem_of_getElem? (i := 1324) (by decide +kernel)⟩
theorem lw_p37 : lw_okq (⟨"QuietLineModel", "runFrom", "(I)I"⟩, 44) := ⟨⟨by decide +kernel, by decide +kernel⟩, List.mem_of_getElem? (i := 1080) (by decide +kernel), List.mem_of_getElem? (i := 1327) (by decide +kernel), List.mem_of_getElem? (i := 1328) (by decide +kernel)⟩
theorem lw_p38 : lw_okq (⟨"QuietLineModel", "block", "(III)V"⟩, 44) := ⟨⟨by decide +kernel, by decide +kernel⟩, List.mem_of_getElem? (i := 1080) (by decide +kernel), List.mem_of_getElem? (i := 1331) (by decide +kernel), List.mem_of_getElem? (i := 1332) (by decide +kernel)⟩
theorem lw_p39 : lw_okq (⟨"QuietLineModel", "puts", "(I)V"⟩, 44) := ⟨⟨by decide +kernel, by decide +kernel⟩, List.mem_of_getElem? (i := 1080) (by decide +kernel), List.mem_of_getElem? (i := 1335) (by decide +kernel), List.mem_of_getElem? (i := 1336) (by decide +kernel)⟩
theorem lw_p40 : lw_okq (⟨"QuietLineModel", "isPair", "(I)Z"⟩, 44) := ⟨⟨by decide +kernel, by decide +kernel⟩, List.mem_of_getElem? (i := 1080) (by decide +kernel), List.mem_of_getElem? (i := 1339) (by decide +kernel), List.mem_of_getElem? (i := 1340) (by decide +kernel)⟩
theorem lw_p41 : lw_okq (⟨"QuietLineModel", "unstuffs", "(I)I"⟩, 44) := ⟨⟨by decide +kernel, by decide +kernel⟩, List.mem_of_getElem? (i := 1080) (by decide +kernel), List.mem_of_getElem? (i := 1347) (by decide +kernel), List.mem_of_getElem? (i := 1348) (by decide +kernel)⟩
theorem lw_p42 : lw_okq (⟨"QuietLineModel", "copies", "(II)I"⟩, 44) := ⟨⟨by decide +kernel, by decide +kernel⟩, List.mem_of_getElem? (i := 1080) (by decide +kernel), List.mem_of_getElem? (i := 1351) (by decide +kernel), List.mem_of_getElem? (i := 1352) (by decide +kernel)⟩
theorem lw_p43 : lw_okq (⟨"QuietLineModel", "plainly", "(I)V"⟩, 44) := ⟨⟨by decide +kernel, by decide +kernel⟩, List.mem_of_getElem? (i := 1080) (by decide +kernel), List.mem_of_getElem? (i := 1355) (by decide +kernel), List.mem_of_getElem? (i := 1356) (by decide +kernel)⟩
theorem lw_p44 : lw_okq (⟨"QuietLineModel", "isCode", "(II)Z"⟩, 44) := ⟨⟨by decide +kernel, by decide +kernel⟩, List.mem_of_getElem? (i := 1080) (by decide +kernel), List.mem_of_getElem? (i := 1359) (by decide +kernel), List.mem_of_getElem? (i := 1360) (by decide +kernel)⟩
theorem lw_p45 : lw_okq (⟨"QuietLineModel", "mostOf", "(I)I"⟩, 44) := ⟨⟨by decide +kernel, by decide +kernel⟩, List.mem_of_getElem? (i := 1080) (by decide +kernel), List.mem_of_getElem? (i := 1376) (by decide +kernel), List.mem_of_getElem? (i := 1377) (by decide +kernel)⟩
theorem lw_p46 : lw_okq (⟨"QuietLineModel", "refuses", "(I)I"⟩, 44) := ⟨⟨by decide +kernel, by decide +kernel⟩, List.mem_of_getElem? (i := 1080) (by decide +kernel), List.mem_of_getElem? (i := 1394) (by decide +kernel), List.mem_of_getElem? (i := 1395) (by decide +kernel)⟩
theorem lw_p47 : lw_okq (⟨"QuietLineModel", "isChannel", "(I)Z"⟩, 44) := ⟨⟨by decide +kernel, by decide +kernel⟩, List.mem_of_getElem? (i := 1080) (by decide +kernel), List.mem_of_getElem? (i := 1398) (by decide +kernel), List.mem_of_getElem? (i := 1399) (by decide +kernel)⟩
def lw_privs_3 : List (MethodName × Nat) := [(⟨"QuietLineModel", "takesNumber", "(II)I"⟩, 44), (⟨"QuietLineModel", "takesSemicolon", "()Z"⟩, 44), (⟨"QuietLineModel", "lay", "(III)V"⟩, 44), (⟨"QuietLineModel", "lettersPlain", "()V"⟩, 44), (⟨"QuietLineModel", "stuffs", "(I)V"⟩, 44), (⟨"QuietLineModel", "runFrom", "(I)I"⟩, 44), (⟨"QuietLineModel", "block", "(III)V"⟩, 44), (⟨"QuietLineModel", "puts", "(I)V"⟩, 44), (⟨"QuietLineModel", "isPair", "(I)Z"⟩, 44), (⟨"QuietLineModel", "unstuffs", "(I)I"⟩, 44), (⟨"QuietLineModel", "copies", "(II)I"⟩, 44), (⟨"QuietLineModel", "plainly", "(I)V"⟩, 44), (⟨"QuietLineModel", "isCode", "(II)Z"⟩, 44), (⟨"QuietLineModel", "mostOf", "(I)I"⟩, 44), (⟨"QuietLineModel", "refuses", "(I)I"⟩, 44), (⟨"QuietLineModel", "isChannel", "(I)Z"⟩, 44)]
theorem lw_r3 : ∀ q ∈ lw_privs_3, lw_okq q := List.forall_mem_cons.mpr ⟨lw_p32, List.forall_mem_cons.mpr ⟨lw_p33, List.forall_mem_cons.mpr ⟨lw_p34, List.forall_mem_cons.mpr ⟨lw_p35, List.forall_mem_cons.mpr ⟨lw_p36, List.forall_mem_cons.mpr ⟨lw_p37, List.forall_mem_cons.mpr ⟨lw_p38, List.forall_mem_cons.mpr ⟨lw_p39, List.forall_mem_cons.mpr ⟨lw_p40, List.forall_mem_cons.mpr ⟨lw_p41, List.forall_mem_cons.mpr ⟨lw_p42, List.forall_mem_cons.mpr ⟨lw_p43, List.forall_mem_cons.mpr ⟨lw_p44, List.forall_mem_cons.mpr ⟨lw_p45, List.forall_mem_cons.mpr ⟨lw_p46, List.forall_mem_cons.mpr ⟨lw_p47, fun _ h => absurd h List.not_mem_nil⟩⟩⟩⟩⟩⟩⟩⟩⟩⟩⟩⟩⟩⟩⟩⟩
theorem lw_p48 : lw_okq (⟨"QuietLineModel", "its", "(II)I"⟩, 44) := ⟨⟨by decide +kernel, by decide +kernel⟩, List.mem_of_getElem? (i := 1080) (by decide +kernel), List.mem_of_getElem? (i := 1402) (by decide +kernel), List.mem_of_getElem? (i := 1403) (by decide +kernel)⟩
theorem lw_p49 : lw_okq (⟨"QuietLineModel", "keeps", "()V"⟩, 44) := ⟨⟨by decide +kernel, by decide +kernel⟩, List.mem_of_getElem? (i := 1080) (by decide +kernel), List.mem_of_getElem? (i := 1406) (by decide +kernel), List.mem_of_getElem? (i := 1407) (by decide +kernel)⟩
theorem lw_p50 : lw_okq (⟨"QuietLineModel", "keepsRow", "([I)V"⟩, 44) := ⟨⟨by decide +kernel, by decide +kernel⟩, List.mem_of_getElem? (i := 1080) (by decide +kernel), List.mem_of_getElem? (i := 1410) (by decide +kernel), List.mem_of_getElem? (i := 1411) (by decide +kernel)⟩
theorem lw_p51 : lw_okq (⟨"QuietLineModel", "more", "(III)V"⟩, 44) := ⟨⟨by decide +kernel, by decide +kernel⟩, List.mem_of_getElem? (i := 1080) (by decide +kernel), List.mem_of_getElem? (i := 1417) (by decide +kernel), List.mem_of_getElem? (i := 1418) (by decide +kernel)⟩
theorem lw_p52 : lw_okq (⟨"QuietLineModel", "canPut", "()Z"⟩, 44) := ⟨⟨by decide +kernel, by decide +kernel⟩, List.mem_of_getElem? (i := 1080) (by decide +kernel), List.mem_of_getElem? (i := 1426) (by decide +kernel), List.mem_of_getElem? (i := 1427) (by decide +kernel)⟩
theorem lw_p53 : lw_okq (⟨"QuietLineModel", "pick", "()I"⟩, 44) := ⟨⟨by decide +kernel, by decide +kernel⟩, List.mem_of_getElem? (i := 1080) (by decide +kernel), List.mem_of_getElem? (i := 1430) (by decide +kernel), List.mem_of_getElem? (i := 1431) (by decide +kernel)⟩
theorem lw_p54 : lw_okq (⟨"QuietLineModel", "laysFrame", "(I)I"⟩, 44) := ⟨⟨by decide +kernel, by decide +kernel⟩, List.mem_of_getElem? (i := 1080) (by decide +kernel), List.mem_of_getElem? (i := 1434) (by decide +kernel), List.mem_of_getElem? (i := 1435) (by decide +kernel)⟩
theorem lw_p55 : lw_okq (⟨"QuietLineModel", "checkOf", "(I)I"⟩, 44) := ⟨⟨by decide +kernel, by decide +kernel⟩, List.mem_of_getElem? (i := 1080) (by decide +kernel), List.mem_of_getElem? (i := 1438) (by decide +kernel), List.mem_of_getElem? (i := 1439) (by decide +kernel)⟩
theorem lw_p56 : lw_okq (⟨"QuietLineModel", "putsOne", "()Z"⟩, 44) := ⟨⟨by decide +kernel, by decide +kernel⟩, List.mem_of_getElem? (i := 1080) (by decide +kernel), List.mem_of_getElem? (i := 1442) (by decide +kernel), List.mem_of_getElem? (i := 1443) (by decide +kernel)⟩
theorem lw_p57 : lw_okq (⟨"QuietLineModel", "shiftsWaiting", "(I)V"⟩, 44) := ⟨⟨by decide +kernel, by decide +kernel⟩, List.mem_of_getElem? (i := 1080) (by decide +kernel), List.mem_of_getElem? (i := 1446) (by decide +kernel), List.mem_of_getElem? (i := 1447) (by decide +kernel)⟩
theorem lw_p58 : lw_okq (⟨"QuietLineModel", "isByte", "(I)Z"⟩, 44) := ⟨⟨by decide +kernel, by decide +kernel⟩, List.mem_of_getElem? (i := 1080) (by decide +kernel), List.mem_of_getElem? (i := 1454) (by decide +kernel), List.mem_of_getElem? (i := 1455) (by decide +kernel)⟩
theorem lw_p59 : lw_okq (⟨"QuietLineModel", "loses", "(I)V"⟩, 44) := ⟨⟨by decide +kernel, by decide +kernel⟩, List.mem_of_getElem? (i := 1080) (by decide +kernel), List.mem_of_getElem? (i := 1467) (by decide +kernel), List.mem_of_getElem? (i := 1468) (by decide +kernel)⟩
theorem lw_p60 : lw_okq (⟨"QuietLineModel", "inserts", "(II)V"⟩, 44) := ⟨⟨by decide +kernel, by decide +kernel⟩, List.mem_of_getElem? (i := 1080) (by decide +kernel), List.mem_of_getElem? (i := 1475) (by decide +kernel), List.mem_of_getElem? (i := 1476) (by decide +kernel)⟩
theorem lw_p61 : lw_okq (⟨"QuietLineModel", "putAside", "()V"⟩, 44) := ⟨⟨by decide +kernel, by decide +kernel⟩, List.mem_of_getElem? (i := 1080) (by decide +kernel), List.mem_of_getElem? (i := 1484) (by decide +kernel), List.mem_of_getElem? (i := 1485) (by decide +kernel)⟩
theorem lw_p62 : lw_okq (⟨"QuietLineModel", "noisy", "()Z"⟩, 44) := ⟨⟨by decide +kernel, by decide +kernel⟩, List.mem_of_getElem? (i := 1080) (by decide +kernel), List.mem_of_getElem? (i := 1488) (by decide +kernel), List.mem_of_getElem? (i := 1489) (by decide +kernel)⟩
theorem lw_p63 : lw_okq (⟨"QuietLineModel", "draw", "(I)I"⟩, 44) := ⟨⟨by decide +kernel, by decide +kernel⟩, List.mem_of_getElem? (i := 1080) (by decide +kernel), List.mem_of_getElem? (i := 1492) (by decide +kernel), List.mem_of_getElem? (i := 1493) (by decide +kernel)⟩
def lw_privs_4 : List (MethodName × Nat) := [(⟨"QuietLineModel", "its", "(II)I"⟩, 44), (⟨"QuietLineModel", "keeps", "()V"⟩, 44), (⟨"QuietLineModel", "keepsRow", "([I)V"⟩, 44), (⟨"QuietLineModel", "more", "(III)V"⟩, 44), (⟨"QuietLineModel", "canPut", "()Z"⟩, 44), (⟨"QuietLineModel", "pick", "()I"⟩, 44), (⟨"QuietLineModel", "laysFrame", "(I)I"⟩, 44), (⟨"QuietLineModel", "checkOf", "(I)I"⟩, 44), (⟨"QuietLineModel", "putsOne", "()Z"⟩, 44), (⟨"QuietLineModel", "shiftsWaiting", "(I)V"⟩, 44), (⟨"QuietLineModel", "isByte", "(I)Z"⟩, 44), (⟨"QuietLineModel", "loses", "(I)V"⟩, 44), (⟨"QuietLineModel", "inserts", "(II)V"⟩, 44), (⟨"QuietLineModel", "putAside", "()V"⟩, 44), (⟨"QuietLineModel", "noisy", "()Z"⟩, 44), (⟨"QuietLineModel", "draw", "(I)I"⟩, 44)]
theorem lw_r4 : ∀ q ∈ lw_privs_4, lw_okq q := List.forall_mem_cons.mpr ⟨lw_p48, List.forall_mem_cons.mpr ⟨lw_p49, List.forall_mem_cons.mpr ⟨lw_p50, List.forall_mem_cons.mpr ⟨lw_p51, List.forall_mem_cons.mpr ⟨lw_p52, List.forall_mem_cons.mpr ⟨lw_p53, List.forall_mem_cons.mpr ⟨lw_p54, List.forall_mem_cons.mpr ⟨lw_p55, List.forall_mem_cons.mpr ⟨lw_p56, List.forall_mem_cons.mpr ⟨lw_p57, List.forall_mem_cons.mpr ⟨lw_p58, List.forall_mem_cons.mpr ⟨lw_p59, List.forall_mem_cons.mpr ⟨lw_p60, List.forall_mem_cons.mpr ⟨lw_p61, List.forall_mem_cons.mpr ⟨lw_p62, List.forall_mem_cons.mpr ⟨lw_p63, fun _ h => absurd h List.not_mem_nil⟩⟩⟩⟩⟩⟩⟩⟩⟩⟩⟩⟩⟩⟩⟩⟩
theorem lw_p64 : lw_okq (⟨"QuietLineModel", "readsBytes", "(I)V"⟩, 44) := ⟨⟨by decide +kernel, by decide +kernel⟩, List.mem_of_getElem? (i := 1080) (by decide +kernel), List.mem_of_getElem? (i := 1503) (by decide +kernel), List.mem_of_getElem? (i := 1504) (by decide +kernel)⟩
theorem lw_p65 : lw_okq (⟨"QuietLineModel", "readsByte", "(I)V"⟩, 44) := ⟨⟨by decide +kernel, by decide +kernel⟩, List.mem_of_getElem? (i := 1080) (by decide +kernel), List.mem_of_getElem? (i := 1507) (by decide +kernel), List.mem_of_getElem? (i := 1508) (by decide +kernel)⟩
theorem lw_p66 : lw_okq (⟨"QuietLineModel", "marks", "()V"⟩, 44) := ⟨⟨by decide +kernel, by decide +kernel⟩, List.mem_of_getElem? (i := 1080) (by decide +kernel), List.mem_of_getElem? (i := 1511) (by decide +kernel), List.mem_of_getElem? (i := 1512) (by decide +kernel)⟩
theorem lw_p67 : lw_okq (⟨"QuietLineModel", "frameIs", "(Z)I"⟩, 44) := ⟨⟨by decide +kernel, by decide +kernel⟩, List.mem_of_getElem? (i := 1080) (by decide +kernel), List.mem_of_getElem? (i := 1515) (by decide +kernel), List.mem_of_getElem? (i := 1516) (by decide +kernel)⟩
theorem lw_p68 : lw_okq (⟨"QuietLineModel", "checkLong", "()I"⟩, 44) := ⟨⟨by decide +kernel, by decide +kernel⟩, List.mem_of_getElem? (i := 1080) (by decide +kernel), List.mem_of_getElem? (i := 1519) (by decide +kernel), List.mem_of_getElem? (i := 1520) (by decide +kernel)⟩
theorem lw_p69 : lw_okq (⟨"QuietLineModel", "event", "(IIIII)V"⟩, 44) := ⟨⟨by decide +kernel, by decide +kernel⟩, List.mem_of_getElem? (i := 1080) (by decide +kernel), List.mem_of_getElem? (i := 1523) (by decide +kernel), List.mem_of_getElem? (i := 1524) (by decide +kernel)⟩
theorem lw_p70 : lw_okq (⟨"QuietLineModel", "partLong", "()I"⟩, 44) := ⟨⟨by decide +kernel, by decide +kernel⟩, List.mem_of_getElem? (i := 1080) (by decide +kernel), List.mem_of_getElem? (i := 1527) (by decide +kernel), List.mem_of_getElem? (i := 1528) (by decide +kernel)⟩
theorem lw_p71 : lw_okq (⟨"QuietLineModel", "takesFrame", "()I"⟩, 44) := ⟨⟨by decide +kernel, by decide +kernel⟩, List.mem_of_getElem? (i := 1080) (by decide +kernel), List.mem_of_getElem? (i := 1531) (by decide +kernel), List.mem_of_getElem? (i := 1532) (by decide +kernel)⟩
theorem lw_p72 : lw_okq (⟨"QuietLineModel", "torn", "(I)V"⟩, 44) := ⟨⟨by decide +kernel, by decide +kernel⟩, List.mem_of_getElem? (i := 1080) (by decide +kernel), List.mem_of_getElem? (i := 1535) (by decide +kernel), List.mem_of_getElem? (i := 1536) (by decide +kernel)⟩
theorem lw_p73 : lw_okq (⟨"QuietLineModel", "ends", "(I)I"⟩, 44) := ⟨⟨by decide +kernel, by decide +kernel⟩, List.mem_of_getElem? (i := 1080) (by decide +kernel), List.mem_of_getElem? (i := 1539) (by decide +kernel), List.mem_of_getElem? (i := 1540) (by decide +kernel)⟩
theorem lw_p74 : lw_okq (⟨"QuietLineModel", "laysFrames", "()I"⟩, 44) := ⟨⟨by decide +kernel, by decide +kernel⟩, List.mem_of_getElem? (i := 1080) (by decide +kernel), List.mem_of_getElem? (i := 1572) (by decide +kernel), List.mem_of_getElem? (i := 1573) (by decide +kernel)⟩
theorem lw_p75 : lw_okq (⟨"QuietLineModel", "frameAt", "(I)I"⟩, 44) := ⟨⟨by decide +kernel, by decide +kernel⟩, List.mem_of_getElem? (i := 1080) (by decide +kernel), List.mem_of_getElem? (i := 1576) (by decide +kernel), List.mem_of_getElem? (i := 1577) (by decide +kernel)⟩
theorem lw_p76 : lw_okq (⟨"QuietLineModel", "thereAll", "()I"⟩, 44) := ⟨⟨by decide +kernel, by decide +kernel⟩, List.mem_of_getElem? (i := 1080) (by decide +kernel), List.mem_of_getElem? (i := 1589) (by decide +kernel), List.mem_of_getElem? (i := 1590) (by decide +kernel)⟩
theorem lw_p77 : lw_okq (⟨"QuietLineModel", "takeBack", "()V"⟩, 44) := ⟨⟨by decide +kernel, by decide +kernel⟩, List.mem_of_getElem? (i := 1080) (by decide +kernel), List.mem_of_getElem? (i := 1593) (by decide +kernel), List.mem_of_getElem? (i := 1594) (by decide +kernel)⟩
theorem lw_p78 : lw_okq (⟨"QuietLineModel", "sumOf", "(I)I"⟩, 44) := ⟨⟨by decide +kernel, by decide +kernel⟩, List.mem_of_getElem? (i := 1080) (by decide +kernel), List.mem_of_getElem? (i := 1610) (by decide +kernel), List.mem_of_getElem? (i := 1611) (by decide +kernel)⟩
theorem lw_p79 : lw_okq (⟨"QuietLineModel", "mostLost", "()I"⟩, 44) := ⟨⟨by decide +kernel, by decide +kernel⟩, List.mem_of_getElem? (i := 1080) (by decide +kernel), List.mem_of_getElem? (i := 1630) (by decide +kernel), List.mem_of_getElem? (i := 1631) (by decide +kernel)⟩
def lw_privs_5 : List (MethodName × Nat) := [(⟨"QuietLineModel", "readsBytes", "(I)V"⟩, 44), (⟨"QuietLineModel", "readsByte", "(I)V"⟩, 44), (⟨"QuietLineModel", "marks", "()V"⟩, 44), (⟨"QuietLineModel", "frameIs", "(Z)I"⟩, 44), (⟨"QuietLineModel", "checkLong", "()I"⟩, 44), (⟨"QuietLineModel", "event", "(IIIII)V"⟩, 44), (⟨"QuietLineModel", "partLong", "()I"⟩, 44), (⟨"QuietLineModel", "takesFrame", "()I"⟩, 44), (⟨"QuietLineModel", "torn", "(I)V"⟩, 44), (⟨"QuietLineModel", "ends", "(I)I"⟩, 44), (⟨"QuietLineModel", "laysFrames", "()I"⟩, 44), (⟨"QuietLineModel", "frameAt", "(I)I"⟩, 44), (⟨"QuietLineModel", "thereAll", "()I"⟩, 44), (⟨"QuietLineModel", "takeBack", "()V"⟩, 44), (⟨"QuietLineModel", "sumOf", "(I)I"⟩, 44), (⟨"QuietLineModel", "mostLost", "()I"⟩, 44)]
theorem lw_r5 : ∀ q ∈ lw_privs_5, lw_okq q := List.forall_mem_cons.mpr ⟨lw_p64, List.forall_mem_cons.mpr ⟨lw_p65, List.forall_mem_cons.mpr ⟨lw_p66, List.forall_mem_cons.mpr ⟨lw_p67, List.forall_mem_cons.mpr ⟨lw_p68, List.forall_mem_cons.mpr ⟨lw_p69, List.forall_mem_cons.mpr ⟨lw_p70, List.forall_mem_cons.mpr ⟨lw_p71, List.forall_mem_cons.mpr ⟨lw_p72, List.forall_mem_cons.mpr ⟨lw_p73, List.forall_mem_cons.mpr ⟨lw_p74, List.forall_mem_cons.mpr ⟨lw_p75, List.forall_mem_cons.mpr ⟨lw_p76, List.forall_mem_cons.mpr ⟨lw_p77, List.forall_mem_cons.mpr ⟨lw_p78, List.forall_mem_cons.mpr ⟨lw_p79, fun _ h => absurd h List.not_mem_nil⟩⟩⟩⟩⟩⟩⟩⟩⟩⟩⟩⟩⟩⟩⟩⟩
theorem lw_p80 : lw_okq (⟨"QuietLineModel", "broken", "()I"⟩, 44) := ⟨⟨by decide +kernel, by decide +kernel⟩, List.mem_of_getElem? (i := 1080) (by decide +kernel), List.mem_of_getElem? (i := 1634) (by decide +kernel), List.mem_of_getElem? (i := 1635) (by decide +kernel)⟩
theorem lw_p81 : lw_okq (⟨"QuietLineModel", "longestFrame", "()I"⟩, 44) := ⟨⟨by decide +kernel, by decide +kernel⟩, List.mem_of_getElem? (i := 1080) (by decide +kernel), List.mem_of_getElem? (i := 1638) (by decide +kernel), List.mem_of_getElem? (i := 1639) (by decide +kernel)⟩
theorem lw_p82 : lw_okq (⟨"QuietLineModel", "waitingBytes", "()I"⟩, 44) := ⟨⟨by decide +kernel, by decide +kernel⟩, List.mem_of_getElem? (i := 1080) (by decide +kernel), List.mem_of_getElem? (i := 1642) (by decide +kernel), List.mem_of_getElem? (i := 1643) (by decide +kernel)⟩
theorem lw_p83 : lw_okq (⟨"QuietLineModel", "greatestByte", "()I"⟩, 44) := ⟨⟨by decide +kernel, by decide +kernel⟩, List.mem_of_getElem? (i := 1080) (by decide +kernel), List.mem_of_getElem? (i := 1646) (by decide +kernel), List.mem_of_getElem? (i := 1647) (by decide +kernel)⟩
def lw_privs_6 : List (MethodName × Nat) := [(⟨"QuietLineModel", "broken", "()I"⟩, 44), (⟨"QuietLineModel", "longestFrame", "()I"⟩, 44), (⟨"QuietLineModel", "waitingBytes", "()I"⟩, 44), (⟨"QuietLineModel", "greatestByte", "()I"⟩, 44)]
theorem lw_r6 : ∀ q ∈ lw_privs_6, lw_okq q := List.forall_mem_cons.mpr ⟨lw_p80, List.forall_mem_cons.mpr ⟨lw_p81, List.forall_mem_cons.mpr ⟨lw_p82, List.forall_mem_cons.mpr ⟨lw_p83, fun _ h => absurd h List.not_mem_nil⟩⟩⟩⟩
def lw_privs : List (MethodName × Nat) := lw_privs_1 ++ (lw_privs_2 ++ (lw_privs_3 ++ (lw_privs_4 ++ (lw_privs_5 ++ (lw_privs_6)))))
def lw_tbl : List Cond := k2_sels lw_privs ++ tables_1
theorem lw_privs_ok : ∀ q ∈ lw_privs, lw_okq q := by
  show ∀ q ∈ lw_privs_1 ++ (lw_privs_2 ++ (lw_privs_3 ++ (lw_privs_4 ++ (lw_privs_5 ++ (lw_privs_6))))), lw_okq q
  exact List.forall_mem_append.mpr ⟨lw_r1, List.forall_mem_append.mpr ⟨lw_r2, List.forall_mem_append.mpr ⟨lw_r3, List.forall_mem_append.mpr ⟨lw_r4, List.forall_mem_append.mpr ⟨lw_r5, lw_r6⟩⟩⟩⟩⟩

/-! ===== BEGIN words of one list among another's, by their places ===== -/
theorem goodIn_r {big : List Cond} (ws : List Cond) (ps : List Nat) (hp : ws = ps.filterMap (fun i => big[i]?)) (h : ws.all goodWord = true) : GoodIn big ws := by
  intro w hw
  have h1 := List.all_eq_true.mp h w hw
  rw [hp] at hw
  obtain ⟨i, -, hi⟩ := List.mem_filterMap.mp hw
  have hm : w ∈ big := by first | exact List.mem_of_getElem? hi | exact List.getElem?_mem hi
  exact ⟨hm, good_of_word h1⟩
theorem goodIn_app {big a b : List Cond} (ha : GoodIn big a) (hb : GoodIn big b) : GoodIn big (a ++ b) := fun w h => (List.mem_append.mp h).elim (ha w) (hb w)
theorem goodIn_ca {big a b : List Cond} {c : Cond} (ha : GoodIn big (c :: a)) (hb : GoodIn big b) : GoodIn big (c :: (a ++ b)) := fun w h => (List.mem_cons.mp h).elim (fun e => ha w (List.mem_cons.mpr (Or.inl e))) (fun h => (List.mem_append.mp h).elim (fun h => ha w (List.mem_cons.mpr (Or.inr h))) (hb w))
theorem goodIn_sub {big ws : List Cond} (hm : ∀ w ∈ ws, w ∈ big) (h : ws.all goodWord = true) : GoodIn big ws := fun w hw => ⟨hm w hw, good_of_word (List.all_eq_true.mp h w hw)⟩
/-! ===== END ===== -/


/-! ===== BEGIN printed: names, fields, word lists, decode rows ===== -/
def RX0 : String := "QuietLine$Draws"
def TX0 : u_T := fun k => match k with
  | _ => ("QuietLine$Draws", "seed", "J", false)
def tyX0 : Nat → FieldType := fun k => match k with
  | _ => .long
abbrev wsX00 : List Cond := u_ws RX0 TX0 1
theorem nmX0 : ∀ a, a < 1 → ∀ b, b < 1 → a ≠ b → (TX0 a).2.1 ≠ (TX0 b).2.1 := by decide +kernel
theorem tyX0_ok : ∀ k, k < 1 → parseFieldDescriptor (TX0 k).2.2.1 = some (tyX0 k) := by decide +kernel
abbrev cX0_init : ByteArray := prog_2_method_1_code
def yX0_init : MethodName := ⟨RX0, "<init>", "()V"⟩
abbrev cX0_draw : ByteArray := prog_2_method_2_code
def yX0_draw : MethodName := ⟨RX0, "draw", "(I)I"⟩
def RX1 : String := "QuietLine$Framing"
def TX1 : u_T := fun k => match k with
  | 0 => ("QuietLine$Framing", "rules", "LQuietLine$Rules;", true)
  | 1 => ("QuietLine$Framing", "plain", "LQuietLine$Row;", true)
  | 2 => ("QuietLine$Framing", "packed", "LQuietLine$Row;", true)
  | 3 => ("QuietLine$Framing", "head", "I", false)
  | 4 => ("QuietLine$Framing", "part", "I", false)
  | _ => ("QuietLine$Framing", "tried", "LQuietLine$Row;", true)
def tyX1 : Nat → FieldType := fun k => match k with
  | 0 => .object "QuietLine$Rules"
  | 1 => .object "QuietLine$Row"
  | 2 => .object "QuietLine$Row"
  | 3 => .int
  | 4 => .int
  | _ => .object "QuietLine$Row"
abbrev wsX10 : List Cond := u_ws RX1 TX1 6
theorem nmX1 : ∀ a, a < 6 → ∀ b, b < 6 → a ≠ b → (TX1 a).2.1 ≠ (TX1 b).2.1 := by decide +kernel
theorem tyX1_ok : ∀ k, k < 6 → parseFieldDescriptor (TX1 k).2.2.1 = some (tyX1 k) := by decide +kernel
abbrev cX1_init : ByteArray := prog_3_method_1_code
def yX1_init : MethodName := ⟨RX1, "<init>", "()V"⟩
abbrev cX1_make : ByteArray := prog_3_method_2_code
def yX1_make : MethodName := ⟨RX1, "make", "(LQuietLine$Port;I)I"⟩
abbrev cX1_checkOf : ByteArray := prog_3_method_3_code
def yX1_checkOf : MethodName := ⟨RX1, "checkOf", "(I)I"⟩
abbrev cX1_crcStep : ByteArray := prog_3_method_4_code
def yX1_crcStep : MethodName := ⟨RX1, "crcStep", "(I)I"⟩
abbrev cX1_judge : ByteArray := prog_3_method_5_code
def yX1_judge : MethodName := ⟨RX1, "judge", "(LQuietLine$Row;II)I"⟩
abbrev cX1_blindFlips : ByteArray := prog_3_method_6_code
def yX1_blindFlips : MethodName := ⟨RX1, "blindFlips", "(LQuietLine$Row;II)I"⟩
abbrev cX1_blindCodes : ByteArray := prog_3_method_7_code
def yX1_blindCodes : MethodName := ⟨RX1, "blindCodes", "(II)I"⟩
def RX2 : String := "QuietLine$Mail"
def TX2 : u_T := fun k => match k with
  | 0 => ("QuietLine$Mail", "bytes", "LQuietLine$Row;", true)
  | 1 => ("QuietLine$Mail", "lengths", "LQuietLine$Row;", true)
  | _ => ("QuietLine$Mail", "frames", "LQuietLine$Row;", true)
def tyX2 : Nat → FieldType := fun k => match k with
  | 0 => .object "QuietLine$Row"
  | 1 => .object "QuietLine$Row"
  | _ => .object "QuietLine$Row"
abbrev wsX20 : List Cond := u_ws RX2 TX2 3
theorem nmX2 : ∀ a, a < 3 → ∀ b, b < 3 → a ≠ b → (TX2 a).2.1 ≠ (TX2 b).2.1 := by decide +kernel
theorem tyX2_ok : ∀ k, k < 3 → parseFieldDescriptor (TX2 k).2.2.1 = some (tyX2 k) := by decide +kernel
abbrev cX2_init : ByteArray := prog_4_method_1_code
def yX2_init : MethodName := ⟨RX2, "<init>", "()V"⟩
abbrev cX2_many : ByteArray := prog_4_method_2_code
def yX2_many : MethodName := ⟨RX2, "many", "()I"⟩
abbrev cX2_firstLength : ByteArray := prog_4_method_3_code
def yX2_firstLength : MethodName := ⟨RX2, "firstLength", "()I"⟩
abbrev cX2_firstFrames : ByteArray := prog_4_method_4_code
def yX2_firstFrames : MethodName := ⟨RX2, "firstFrames", "()I"⟩
abbrev cX2_push : ByteArray := prog_4_method_5_code
def yX2_push : MethodName := ⟨RX2, "push", "(LQuietLine$Row;I)V"⟩
abbrev cX2_dropFirst : ByteArray := prog_4_method_6_code
def yX2_dropFirst : MethodName := ⟨RX2, "dropFirst", "()V"⟩
abbrev cX2_clear : ByteArray := prog_4_method_7_code
def yX2_clear : MethodName := ⟨RX2, "clear", "()V"⟩
abbrev cX2_copyFrom : ByteArray := prog_4_method_8_code
def yX2_copyFrom : MethodName := ⟨RX2, "copyFrom", "(LQuietLine$Mail;)V"⟩
def RX3 : String := "QuietLine$Past"
def TX3 : u_T := fun k => match k with
  | 0 => ("QuietLine$Past", "many", "I", false)
  | 1 => ("QuietLine$Past", "states", "[LQuietLine$State;", true)
  | _ => ("QuietLine$Past", "next", "I", false)
def tyX3 : Nat → FieldType := fun k => match k with
  | 0 => .int
  | 1 => .array (.object "QuietLine$State")
  | _ => .int
abbrev wsX30 : List Cond := u_ws RX3 TX3 3
theorem nmX3 : ∀ a, a < 3 → ∀ b, b < 3 → a ≠ b → (TX3 a).2.1 ≠ (TX3 b).2.1 := by decide +kernel
theorem tyX3_ok : ∀ k, k < 3 → parseFieldDescriptor (TX3 k).2.2.1 = some (tyX3 k) := by decide +kernel
abbrev cX3_init : ByteArray := prog_5_method_1_code
def yX3_init : MethodName := ⟨RX3, "<init>", "()V"⟩
abbrev cX3_forget : ByteArray := prog_5_method_2_code
def yX3_forget : MethodName := ⟨RX3, "forget", "()V"⟩
abbrev cX3_stage : ByteArray := prog_5_method_3_code
def yX3_stage : MethodName := ⟨RX3, "stage", "(LQuietLine$State;)V"⟩
abbrev cX3_commit : ByteArray := prog_5_method_4_code
def yX3_commit : MethodName := ⟨RX3, "commit", "()V"⟩
abbrev cX3_swapBack : ByteArray := prog_5_method_5_code
def yX3_swapBack : MethodName := ⟨RX3, "swapBack", "(LQuietLine$State;)LQuietLine$State;"⟩
def RX4 : String := "QuietLine$Port"
def TX4 : u_T := fun k => match k with
  | 0 => ("QuietLine$Port", "waits", "LQuietLine$Mail;", true)
  | 1 => ("QuietLine$Port", "there", "LQuietLine$Mail;", true)
  | 2 => ("QuietLine$Port", "built", "LQuietLine$Row;", true)
  | 3 => ("QuietLine$Port", "told", "I", false)
  | 4 => ("QuietLine$Port", "credits", "I", false)
  | 5 => ("QuietLine$Port", "gone", "I", false)
  | 6 => ("QuietLine$Port", "number", "I", false)
  | 7 => ("QuietLine$Port", "expected", "I", false)
  | 8 => ("QuietLine$Port", "lost", "I", false)
  | 9 => ("QuietLine$Port", "torn", "I", false)
  | 10 => ("QuietLine$Port", "frames", "I", false)
  | _ => ("QuietLine$Port", "taken", "I", false)
def tyX4 : Nat → FieldType := fun k => match k with
  | 0 => .object "QuietLine$Mail"
  | 1 => .object "QuietLine$Mail"
  | 2 => .object "QuietLine$Row"
  | 3 => .int
  | 4 => .int
  | 5 => .int
  | 6 => .int
  | 7 => .int
  | 8 => .int
  | 9 => .int
  | 10 => .int
  | _ => .int
abbrev wsX40 : List Cond := u_ws RX4 TX4 12
theorem nmX4 : ∀ a, a < 12 → ∀ b, b < 12 → a ≠ b → (TX4 a).2.1 ≠ (TX4 b).2.1 := by decide +kernel
theorem tyX4_ok : ∀ k, k < 12 → parseFieldDescriptor (TX4 k).2.2.1 = some (tyX4 k) := by decide +kernel
abbrev cX4_init : ByteArray := prog_6_method_1_code
def yX4_init : MethodName := ⟨RX4, "<init>", "()V"⟩
abbrev cX4_reset : ByteArray := prog_6_method_2_code
def yX4_reset : MethodName := ⟨RX4, "reset", "(I)V"⟩
abbrev cX4_copyFrom : ByteArray := prog_6_method_3_code
def yX4_copyFrom : MethodName := ⟨RX4, "copyFrom", "(LQuietLine$Port;)V"⟩
abbrev cX4_frameWasPut : ByteArray := prog_6_method_4_code
def yX4_frameWasPut : MethodName := ⟨RX4, "frameWasPut", "(I)V"⟩
abbrev cX4_accept : ByteArray := prog_6_method_5_code
def yX4_accept : MethodName := ⟨RX4, "accept", "(LQuietLine$Row;I)I"⟩
abbrev cX4_tear : ByteArray := prog_6_method_6_code
def yX4_tear : MethodName := ⟨RX4, "tear", "()V"⟩
abbrev cX4_giveInto : ByteArray := prog_6_method_7_code
def yX4_giveInto : MethodName := ⟨RX4, "giveInto", "(LQuietLine$Row;)V"⟩
def RX5 : String := "QuietLine$Row"
def TX5 : u_T := fun k => match k with
  | 0 => ("QuietLine$Row", "limit", "I", true)
  | 1 => ("QuietLine$Row", "cells", "[I", false)
  | _ => ("QuietLine$Row", "size", "I", false)
def tyX5 : Nat → FieldType := fun k => match k with
  | 0 => .int
  | 1 => .array .int
  | _ => .int
abbrev wsX50 : List Cond := u_ws RX5 TX5 3
theorem nmX5 : ∀ a, a < 3 → ∀ b, b < 3 → a ≠ b → (TX5 a).2.1 ≠ (TX5 b).2.1 := by decide +kernel
theorem tyX5_ok : ∀ k, k < 3 → parseFieldDescriptor (TX5 k).2.2.1 = some (tyX5 k) := by decide +kernel
abbrev cX5_init : ByteArray := prog_7_method_1_code
def yX5_init : MethodName := ⟨RX5, "<init>", "(I)V"⟩
abbrev cX5_has : ByteArray := prog_7_method_2_code
def yX5_has : MethodName := ⟨RX5, "has", "(I)Z"⟩
abbrev cX5_at : ByteArray := prog_7_method_3_code
def yX5_at : MethodName := ⟨RX5, "at", "(I)I"⟩
abbrev cX5_set : ByteArray := prog_7_method_4_code
def yX5_set : MethodName := ⟨RX5, "set", "(II)V"⟩
abbrev cX5_clear : ByteArray := prog_7_method_5_code
def yX5_clear : MethodName := ⟨RX5, "clear", "()V"⟩
abbrev cX5_add : ByteArray := prog_7_method_6_code
def yX5_add : MethodName := ⟨RX5, "add", "(I)V"⟩
abbrev cX5_addAll : ByteArray := prog_7_method_7_code
def yX5_addAll : MethodName := ⟨RX5, "addAll", "(LQuietLine$Row;II)V"⟩
abbrev cX5_makeRoom : ByteArray := prog_7_method_8_code
def yX5_makeRoom : MethodName := ⟨RX5, "makeRoom", "(I)V"⟩
abbrev cX5_insertAt : ByteArray := prog_7_method_9_code
def yX5_insertAt : MethodName := ⟨RX5, "insertAt", "(II)V"⟩
abbrev cX5_removeAt : ByteArray := prog_7_method_10_code
def yX5_removeAt : MethodName := ⟨RX5, "removeAt", "(I)V"⟩
abbrev cX5_dropFirst : ByteArray := prog_7_method_11_code
def yX5_dropFirst : MethodName := ⟨RX5, "dropFirst", "(I)V"⟩
abbrev cX5_copyFrom : ByteArray := prog_7_method_12_code
def yX5_copyFrom : MethodName := ⟨RX5, "copyFrom", "(LQuietLine$Row;)V"⟩
abbrev cX5_greatest : ByteArray := prog_7_method_13_code
def yX5_greatest : MethodName := ⟨RX5, "greatest", "()I"⟩
def RX6 : String := "QuietLine$Rules"
def TX6 : u_T := fun k => match k with
  | 0 => ("QuietLine$Rules", "stuffing", "LQuietLine$Stuffing;", true)
  | 1 => ("QuietLine$Rules", "credits", "[I", true)
  | 2 => ("QuietLine$Rules", "way", "I", false)
  | 3 => ("QuietLine$Rules", "check", "I", false)
  | 4 => ("QuietLine$Rules", "size", "I", false)
  | _ => ("QuietLine$Rules", "ports", "I", false)
def tyX6 : Nat → FieldType := fun k => match k with
  | 0 => .object "QuietLine$Stuffing"
  | 1 => .array .int
  | 2 => .int
  | 3 => .int
  | 4 => .int
  | _ => .int
abbrev wsX60 : List Cond := u_ws RX6 TX6 6
theorem nmX6 : ∀ a, a < 6 → ∀ b, b < 6 → a ≠ b → (TX6 a).2.1 ≠ (TX6 b).2.1 := by decide +kernel
theorem tyX6_ok : ∀ k, k < 6 → parseFieldDescriptor (TX6 k).2.2.1 = some (tyX6 k) := by decide +kernel
abbrev cX6_init : ByteArray := prog_8_method_1_code
def yX6_init : MethodName := ⟨RX6, "<init>", "()V"⟩
abbrev cX6_forget : ByteArray := prog_8_method_2_code
def yX6_forget : MethodName := ⟨RX6, "forget", "()V"⟩
abbrev cX6_copyFrom : ByteArray := prog_8_method_3_code
def yX6_copyFrom : MethodName := ⟨RX6, "copyFrom", "(LQuietLine$Rules;)V"⟩
abbrev cX6_addPort : ByteArray := prog_8_method_4_code
def yX6_addPort : MethodName := ⟨RX6, "addPort", "(I)V"⟩
abbrev cX6_checkBytes : ByteArray := prog_8_method_5_code
def yX6_checkBytes : MethodName := ⟨RX6, "checkBytes", "()I"⟩
abbrev cX6_widestFrame : ByteArray := prog_8_method_6_code
def yX6_widestFrame : MethodName := ⟨RX6, "widestFrame", "(I)I"⟩
def RX7 : String := "QuietLine$State"
def TX7 : u_T := fun k => match k with
  | 0 => ("QuietLine$State", "wire", "LQuietLine$Row;", true)
  | 1 => ("QuietLine$State", "reader", "LQuietLine$Row;", true)
  | 2 => ("QuietLine$State", "events", "LQuietLine$Row;", true)
  | 3 => ("QuietLine$State", "came", "I", false)
  | 4 => ("QuietLine$State", "picked", "I", false)
  | 5 => ("QuietLine$State", "ports", "[LQuietLine$Port;", true)
  | 6 => ("QuietLine$State", "portCount", "I", false)
  | _ => ("QuietLine$State", "readerOver", "Z", false)
def tyX7 : Nat → FieldType := fun k => match k with
  | 0 => .object "QuietLine$Row"
  | 1 => .object "QuietLine$Row"
  | 2 => .object "QuietLine$Row"
  | 3 => .int
  | 4 => .int
  | 5 => .array (.object "QuietLine$Port")
  | 6 => .int
  | _ => .boolean
abbrev wsX70 : List Cond := u_ws RX7 TX7 8
theorem nmX7 : ∀ a, a < 8 → ∀ b, b < 8 → a ≠ b → (TX7 a).2.1 ≠ (TX7 b).2.1 := by decide +kernel
theorem tyX7_ok : ∀ k, k < 8 → parseFieldDescriptor (TX7 k).2.2.1 = some (tyX7 k) := by decide +kernel
abbrev cX7_init : ByteArray := prog_9_method_1_code
def yX7_init : MethodName := ⟨RX7, "<init>", "()V"⟩
abbrev cX7_reset : ByteArray := prog_9_method_2_code
def yX7_reset : MethodName := ⟨RX7, "reset", "(LQuietLine$Rules;)V"⟩
abbrev cX7_copyFrom : ByteArray := prog_9_method_3_code
def yX7_copyFrom : MethodName := ⟨RX7, "copyFrom", "(LQuietLine$State;)V"⟩
abbrev cX7_portAt : ByteArray := prog_9_method_4_code
def yX7_portAt : MethodName := ⟨RX7, "portAt", "(I)LQuietLine$Port;"⟩
abbrev cX7_pick : ByteArray := prog_9_method_5_code
def yX7_pick : MethodName := ⟨RX7, "pick", "()I"⟩
abbrev cX7_putFrames : ByteArray := prog_9_method_6_code
def yX7_putFrames : MethodName := ⟨RX7, "putFrames", "(ILQuietLine$Framing;)I"⟩
abbrev cX7_putFrame : ByteArray := prog_9_method_7_code
def yX7_putFrame : MethodName := ⟨RX7, "putFrame", "(LQuietLine$Framing;)Z"⟩
abbrev cX7_disturb : ByteArray := prog_9_method_8_code
def yX7_disturb : MethodName := ⟨RX7, "disturb", "(LQuietLine$Draws;)Z"⟩
abbrev cX7_readBytes : ByteArray := prog_9_method_9_code
def yX7_readBytes : MethodName := ⟨RX7, "readBytes", "(ILQuietLine$Framing;)I"⟩
abbrev cX7_readMark : ByteArray := prog_9_method_10_code
def yX7_readMark : MethodName := ⟨RX7, "readMark", "(LQuietLine$Framing;)V"⟩
abbrev cX7_messagesThere : ByteArray := prog_9_method_11_code
def yX7_messagesThere : MethodName := ⟨RX7, "messagesThere", "()I"⟩
abbrev cX7_messagesWaiting : ByteArray := prog_9_method_12_code
def yX7_messagesWaiting : MethodName := ⟨RX7, "messagesWaiting", "()I"⟩
abbrev cX7_bytesWaiting : ByteArray := prog_9_method_13_code
def yX7_bytesWaiting : MethodName := ⟨RX7, "bytesWaiting", "()I"⟩
abbrev cX7_lostInAll : ByteArray := prog_9_method_14_code
def yX7_lostInAll : MethodName := ⟨RX7, "lostInAll", "()I"⟩
abbrev cX7_tornInAll : ByteArray := prog_9_method_15_code
def yX7_tornInAll : MethodName := ⟨RX7, "tornInAll", "()I"⟩
abbrev cX7_portWithMostLost : ByteArray := prog_9_method_16_code
def yX7_portWithMostLost : MethodName := ⟨RX7, "portWithMostLost", "()I"⟩
abbrev cX7_eventsUnreadable : ByteArray := prog_9_method_17_code
def yX7_eventsUnreadable : MethodName := ⟨RX7, "eventsUnreadable", "()I"⟩
def RX8 : String := "QuietLine$Stuffing"
def TX8 : u_T := fun k => match k with
  | 0 => ("QuietLine$Stuffing", "longest", "I", false)
  | _ => ("QuietLine$Stuffing", "pairs", "I", false)
def tyX8 : Nat → FieldType := fun k => match k with
  | 0 => .int
  | _ => .int
abbrev wsX80 : List Cond := u_ws RX8 TX8 2
theorem nmX8 : ∀ a, a < 2 → ∀ b, b < 2 → a ≠ b → (TX8 a).2.1 ≠ (TX8 b).2.1 := by decide +kernel
theorem tyX8_ok : ∀ k, k < 2 → parseFieldDescriptor (TX8 k).2.2.1 = some (tyX8 k) := by decide +kernel
abbrev cX8_init : ByteArray := prog_10_method_1_code
def yX8_init : MethodName := ⟨RX8, "<init>", "()V"⟩
abbrev cX8_widest : ByteArray := prog_10_method_2_code
def yX8_widest : MethodName := ⟨RX8, "widest", "(I)I"⟩
abbrev cX8_pack : ByteArray := prog_10_method_3_code
def yX8_pack : MethodName := ⟨RX8, "pack", "(LQuietLine$Row;ILQuietLine$Row;)V"⟩
abbrev cX8_runFrom : ByteArray := prog_10_method_4_code
def yX8_runFrom : MethodName := ⟨RX8, "runFrom", "(LQuietLine$Row;I)I"⟩
abbrev cX8_codeOf : ByteArray := prog_10_method_5_code
def yX8_codeOf : MethodName := ⟨RX8, "codeOf", "(LQuietLine$Row;III)I"⟩
abbrev cX8_reduce : ByteArray := prog_10_method_6_code
def yX8_reduce : MethodName := ⟨RX8, "reduce", "(LQuietLine$Row;I)V"⟩
abbrev cX8_unpack : ByteArray := prog_10_method_7_code
def yX8_unpack : MethodName := ⟨RX8, "unpack", "(LQuietLine$Row;IIILQuietLine$Row;)I"⟩
abbrev cX8_runOf : ByteArray := prog_10_method_8_code
def yX8_runOf : MethodName := ⟨RX8, "runOf", "(III)I"⟩
abbrev cX8_isTail : ByteArray := prog_10_method_9_code
def yX8_isTail : MethodName := ⟨RX8, "isTail", "(III)Z"⟩
abbrev cX8_zerosBehind : ByteArray := prog_10_method_10_code
def yX8_zerosBehind : MethodName := ⟨RX8, "zerosBehind", "(IZ)I"⟩
def RX9 : String := "QuietLine$Tape"
def TX9 : u_T := fun k => match k with
  | 0 => ("QuietLine$Tape", "bytes", "LQuietLine$Row;", true)
  | 1 => ("QuietLine$Tape", "told", "LQuietLine$Rules;", true)
  | 2 => ("QuietLine$Tape", "kind", "I", false)
  | 3 => ("QuietLine$Tape", "from", "I", false)
  | 4 => ("QuietLine$Tape", "to", "I", false)
  | _ => ("QuietLine$Tape", "sortsSeen", "I", false)
def tyX9 : Nat → FieldType := fun k => match k with
  | 0 => .object "QuietLine$Row"
  | 1 => .object "QuietLine$Rules"
  | 2 => .int
  | 3 => .int
  | 4 => .int
  | _ => .int
abbrev wsX90 : List Cond := u_ws RX9 TX9 6
theorem nmX9 : ∀ a, a < 6 → ∀ b, b < 6 → a ≠ b → (TX9 a).2.1 ≠ (TX9 b).2.1 := by decide +kernel
theorem tyX9_ok : ∀ k, k < 6 → parseFieldDescriptor (TX9 k).2.2.1 = some (tyX9 k) := by decide +kernel
abbrev cX9_init : ByteArray := prog_11_method_1_code
def yX9_init : MethodName := ⟨RX9, "<init>", "()V"⟩
abbrev cX9_firstFault : ByteArray := prog_11_method_2_code
def yX9_firstFault : MethodName := ⟨RX9, "firstFault", "()I"⟩
abbrev cX9_nextPart : ByteArray := prog_11_method_3_code
def yX9_nextPart : MethodName := ⟨RX9, "nextPart", "()V"⟩
abbrev cX9_endOf : ByteArray := prog_11_method_4_code
def yX9_endOf : MethodName := ⟨RX9, "endOf", "(Z)I"⟩
abbrev cX9_isLetter : ByteArray := prog_11_method_5_code
def yX9_isLetter : MethodName := ⟨RX9, "isLetter", "(I)Z"⟩
abbrev cX9_isDigit : ByteArray := prog_11_method_6_code
def yX9_isDigit : MethodName := ⟨RX9, "isDigit", "(I)Z"⟩
abbrev cX9_sortOfWord : ByteArray := prog_11_method_7_code
def yX9_sortOfWord : MethodName := ⟨RX9, "sortOfWord", "()I"⟩
abbrev cX9_isWord : ByteArray := prog_11_method_8_code
def yX9_isWord : MethodName := ⟨RX9, "isWord", "(Ljava/lang/String;)Z"⟩
abbrev cX9_mayStand : ByteArray := prog_11_method_9_code
def yX9_mayStand : MethodName := ⟨RX9, "mayStand", "(I)Z"⟩
abbrev cX9_tell : ByteArray := prog_11_method_10_code
def yX9_tell : MethodName := ⟨RX9, "tell", "(I)Z"⟩
abbrev cX9_choice : ByteArray := prog_11_method_11_code
def yX9_choice : MethodName := ⟨RX9, "choice", "(Ljava/lang/String;Ljava/lang/String;Ljava/lang/String;)I"⟩
abbrev cX9_number : ByteArray := prog_11_method_12_code
def yX9_number : MethodName := ⟨RX9, "number", "(II)I"⟩
def RX10 : String := "QuietLine$Walk"
def TX10 : u_T := fun k => match k with
  | 0 => ("QuietLine$Walk", "from", "I", false)
  | 1 => ("QuietLine$Walk", "length", "I", false)
  | _ => ("QuietLine$Walk", "next", "I", false)
def tyX10 : Nat → FieldType := fun k => match k with
  | 0 => .int
  | 1 => .int
  | _ => .int
abbrev wsX100 : List Cond := u_ws RX10 TX10 3
theorem nmX10 : ∀ a, a < 3 → ∀ b, b < 3 → a ≠ b → (TX10 a).2.1 ≠ (TX10 b).2.1 := by decide +kernel
theorem tyX10_ok : ∀ k, k < 3 → parseFieldDescriptor (TX10 k).2.2.1 = some (tyX10 k) := by decide +kernel
abbrev cX10_init : ByteArray := prog_12_method_1_code
def yX10_init : MethodName := ⟨RX10, "<init>", "()V"⟩
abbrev cX10_begin : ByteArray := prog_12_method_2_code
def yX10_begin : MethodName := ⟨RX10, "begin", "()V"⟩
abbrev cX10_step : ByteArray := prog_12_method_3_code
def yX10_step : MethodName := ⟨RX10, "step", "(LQuietLine$Row;)Z"⟩
abbrev cX10_find : ByteArray := prog_12_method_4_code
def yX10_find : MethodName := ⟨RX10, "find", "(LQuietLine$Row;I)Z"⟩
def RX11 : String := "QuietLine"
def TX11 : u_T := fun k => match k with
  | 0 => ("QuietLine", "tape", "LQuietLine$Tape;", true)
  | 1 => ("QuietLine", "inBox", "LQuietLine$Row;", true)
  | 2 => ("QuietLine", "inHand", "LQuietLine$Row;", true)
  | 3 => ("QuietLine", "framing", "LQuietLine$Framing;", true)
  | 4 => ("QuietLine", "walk", "LQuietLine$Walk;", true)
  | 5 => ("QuietLine", "draws", "LQuietLine$Draws;", true)
  | 6 => ("QuietLine", "past", "LQuietLine$Past;", true)
  | 7 => ("QuietLine", "spare", "LQuietLine$State;", true)
  | 8 => ("QuietLine", "kept", "LQuietLine$State;", true)
  | 9 => ("QuietLine", "refused", "[I", true)
  | 10 => ("QuietLine", "now", "LQuietLine$State;", false)
  | 11 => ("QuietLine", "hasLine", "Z", false)
  | _ => ("QuietLine", "hasImage", "Z", false)
def tyX11 : Nat → FieldType := fun k => match k with
  | 0 => .object "QuietLine$Tape"
  | 1 => .object "QuietLine$Row"
  | 2 => .object "QuietLine$Row"
  | 3 => .object "QuietLine$Framing"
  | 4 => .object "QuietLine$Walk"
  | 5 => .object "QuietLine$Draws"
  | 6 => .object "QuietLine$Past"
  | 7 => .object "QuietLine$State"
  | 8 => .object "QuietLine$State"
  | 9 => .array .int
  | 10 => .object "QuietLine$State"
  | 11 => .boolean
  | _ => .boolean
abbrev wsX110 : List Cond := u_ws RX11 TX11 13
theorem nmX11 : ∀ a, a < 13 → ∀ b, b < 13 → a ≠ b → (TX11 a).2.1 ≠ (TX11 b).2.1 := by decide +kernel
theorem tyX11_ok : ∀ k, k < 13 → parseFieldDescriptor (TX11 k).2.2.1 = some (tyX11 k) := by decide +kernel
abbrev cX11_init : ByteArray := prog_1_method_1_code
def yX11_init : MethodName := ⟨RX11, "<init>", "()V"⟩
abbrev cX11_feed : ByteArray := prog_1_method_2_code
def yX11_feed : MethodName := ⟨RX11, "feed", "(IIIII)I"⟩
abbrev cX11_addFour : ByteArray := prog_1_method_3_code
def yX11_addFour : MethodName := ⟨RX11, "addFour", "(I)V"⟩
abbrev cX11_end : ByteArray := prog_1_method_4_code
def yX11_end : MethodName := ⟨RX11, "end", "(I)Z"⟩
abbrev cX11_fault : ByteArray := prog_1_method_5_code
def yX11_fault : MethodName := ⟨RX11, "fault", "()I"⟩
abbrev cX11_line : ByteArray := prog_1_method_6_code
def yX11_line : MethodName := ⟨RX11, "line", "()I"⟩
abbrev cX11_rule : ByteArray := prog_1_method_7_code
def yX11_rule : MethodName := ⟨RX11, "rule", "(I)I"⟩
abbrev cX11_framesThere : ByteArray := prog_1_method_8_code
def yX11_framesThere : MethodName := ⟨RX11, "framesThere", "()I"⟩
abbrev cX11_send : ByteArray := prog_1_method_9_code
def yX11_send : MethodName := ⟨RX11, "send", "(I)I"⟩
abbrev cX11_put : ByteArray := prog_1_method_10_code
def yX11_put : MethodName := ⟨RX11, "put", "(I)I"⟩
abbrev cX11_refuse : ByteArray := prog_1_method_11_code
def yX11_refuse : MethodName := ⟨RX11, "refuse", "(I)I"⟩
abbrev cX11_byteAt : ByteArray := prog_1_method_12_code
def yX11_byteAt : MethodName := ⟨RX11, "byteAt", "(I)I"⟩
abbrev cX11_flip : ByteArray := prog_1_method_13_code
def yX11_flip : MethodName := ⟨RX11, "flip", "(II)I"⟩
abbrev cX11_isFlip : ByteArray := prog_1_method_14_code
def yX11_isFlip : MethodName := ⟨RX11, "isFlip", "(I)Z"⟩
abbrev cX11_lose : ByteArray := prog_1_method_15_code
def yX11_lose : MethodName := ⟨RX11, "lose", "(I)I"⟩
abbrev cX11_insert : ByteArray := prog_1_method_16_code
def yX11_insert : MethodName := ⟨RX11, "insert", "(II)I"⟩
abbrev cX11_noise : ByteArray := prog_1_method_17_code
def yX11_noise : MethodName := ⟨RX11, "noise", "(IJ)I"⟩
abbrev cX11_read : ByteArray := prog_1_method_18_code
def yX11_read : MethodName := ⟨RX11, "read", "(I)I"⟩
abbrev cX11_take : ByteArray := prog_1_method_19_code
def yX11_take : MethodName := ⟨RX11, "take", "(I)I"⟩
abbrev cX11_hand : ByteArray := prog_1_method_20_code
def yX11_hand : MethodName := ⟨RX11, "hand", "(I)I"⟩
abbrev cX11_renew : ByteArray := prog_1_method_21_code
def yX11_renew : MethodName := ⟨RX11, "renew", "(I)I"⟩
abbrev cX11_channel : ByteArray := prog_1_method_22_code
def yX11_channel : MethodName := ⟨RX11, "channel", "(II)I"⟩
abbrev cX11_event : ByteArray := prog_1_method_23_code
def yX11_event : MethodName := ⟨RX11, "event", "(II)I"⟩
abbrev cX11_stuff : ByteArray := prog_1_method_24_code
def yX11_stuff : MethodName := ⟨RX11, "stuff", "(I)I"⟩
abbrev cX11_unstuff : ByteArray := prog_1_method_25_code
def yX11_unstuff : MethodName := ⟨RX11, "unstuff", "(I)I"⟩
abbrev cX11_isWay : ByteArray := prog_1_method_26_code
def yX11_isWay : MethodName := ⟨RX11, "isWay", "(I)Z"⟩
abbrev cX11_box : ByteArray := prog_1_method_27_code
def yX11_box : MethodName := ⟨RX11, "box", "(I)I"⟩
abbrev cX11_shortest : ByteArray := prog_1_method_28_code
def yX11_shortest : MethodName := ⟨RX11, "shortest", "()I"⟩
abbrev cX11_stuffedLength : ByteArray := prog_1_method_29_code
def yX11_stuffedLength : MethodName := ⟨RX11, "stuffedLength", "(I)I"⟩
abbrev cX11_bound : ByteArray := prog_1_method_30_code
def yX11_bound : MethodName := ⟨RX11, "bound", "(I)I"⟩
abbrev cX11_frame : ByteArray := prog_1_method_31_code
def yX11_frame : MethodName := ⟨RX11, "frame", "(II)I"⟩
abbrev cX11_harm : ByteArray := prog_1_method_32_code
def yX11_harm : MethodName := ⟨RX11, "harm", "(II)I"⟩
abbrev cX11_blind : ByteArray := prog_1_method_33_code
def yX11_blind : MethodName := ⟨RX11, "blind", "(I)I"⟩
abbrev cX11_cost : ByteArray := prog_1_method_34_code
def yX11_cost : MethodName := ⟨RX11, "cost", "(II)I"⟩
abbrev cX11_share : ByteArray := prog_1_method_35_code
def yX11_share : MethodName := ⟨RX11, "share", "(II)I"⟩
abbrev cX11_flushed : ByteArray := prog_1_method_36_code
def yX11_flushed : MethodName := ⟨RX11, "flushed", "(I)I"⟩
abbrev cX11_undo : ByteArray := prog_1_method_37_code
def yX11_undo : MethodName := ⟨RX11, "undo", "()I"⟩
abbrev cX11_image : ByteArray := prog_1_method_38_code
def yX11_image : MethodName := ⟨RX11, "image", "()I"⟩
abbrev cX11_back : ByteArray := prog_1_method_39_code
def yX11_back : MethodName := ⟨RX11, "back", "()I"⟩
abbrev cX11_status : ByteArray := prog_1_method_40_code
def yX11_status : MethodName := ⟨RX11, "status", "(I)I"⟩
abbrev cX11_most : ByteArray := prog_1_method_41_code
def yX11_most : MethodName := ⟨RX11, "most", "(I)I"⟩
abbrev cX11_longestFrame : ByteArray := prog_1_method_42_code
def yX11_longestFrame : MethodName := ⟨RX11, "longestFrame", "()I"⟩
abbrev cX11_count : ByteArray := prog_1_method_43_code
def yX11_count : MethodName := ⟨RX11, "count", "(I)I"⟩
def RX12 : String := "QuietLineModel"
def TX12 : u_T := fun k => match k with
  | 0 => ("QuietLineModel", "thrown", "I", false)
  | 1 => ("QuietLineModel", "tape", "[I", true)
  | 2 => ("QuietLineModel", "taped", "I", false)
  | 3 => ("QuietLineModel", "at", "I", false)
  | 4 => ("QuietLineModel", "from", "I", false)
  | 5 => ("QuietLineModel", "wrong", "I", false)
  | 6 => ("QuietLineModel", "part", "I", false)
  | 7 => ("QuietLineModel", "number", "I", false)
  | 8 => ("QuietLineModel", "readWay", "I", false)
  | 9 => ("QuietLineModel", "readLongest", "I", false)
  | 10 => ("QuietLineModel", "readPairs", "I", false)
  | 11 => ("QuietLineModel", "readCheck", "I", false)
  | 12 => ("QuietLineModel", "readSize", "I", false)
  | 13 => ("QuietLineModel", "readChannels", "I", false)
  | 14 => ("QuietLineModel", "readSorts", "I", false)
  | 15 => ("QuietLineModel", "readCredits", "[I", true)
  | 16 => ("QuietLineModel", "now", "[I", true)
  | 17 => ("QuietLineModel", "isLine", "Z", false)
  | 18 => ("QuietLineModel", "way", "I", false)
  | 19 => ("QuietLineModel", "longest", "I", false)
  | 20 => ("QuietLineModel", "pairs", "I", false)
  | 21 => ("QuietLineModel", "check", "I", false)
  | 22 => ("QuietLineModel", "size", "I", false)
  | 23 => ("QuietLineModel", "channels", "I", false)
  | 24 => ("QuietLineModel", "told", "[I", true)
  | 25 => ("QuietLineModel", "plain", "[I", true)
  | 26 => ("QuietLineModel", "plainMany", "I", false)
  | 27 => ("QuietLineModel", "stuffed", "[I", true)
  | 28 => ("QuietLineModel", "stuffedMany", "I", false)
  | 29 => ("QuietLineModel", "lastCode", "I", false)
  | 30 => ("QuietLineModel", "box", "[I", true)
  | 31 => ("QuietLineModel", "boxed", "I", false)
  | 32 => ("QuietLineModel", "were", "[I", true)
  | 33 => ("QuietLineModel", "acts", "I", false)
  | 34 => ("QuietLineModel", "aside", "[I", true)
  | 35 => ("QuietLineModel", "refused", "[I", true)
  | 36 => ("QuietLineModel", "draws", "J", false)
  | 37 => ("QuietLineModel", "hand", "[I", true)
  | 38 => ("QuietLineModel", "handed", "I", false)
  | 39 => ("QuietLineModel", "begins", "[I", true)
  | 40 => ("QuietLineModel", "ends", "[I", true)
  | 41 => ("QuietLineModel", "frames", "I", false)
  | 42 => ("QuietLineModel", "imaged", "[I", true)
  | _ => ("QuietLineModel", "hasImage", "Z", false)
def tyX12 : Nat → FieldType := fun k => match k with
  | 0 => .int
  | 1 => .array .int
  | 2 => .int
  | 3 => .int
  | 4 => .int
  | 5 => .int
  | 6 => .int
  | 7 => .int
  | 8 => .int
  | 9 => .int
  | 10 => .int
  | 11 => .int
  | 12 => .int
  | 13 => .int
  | 14 => .int
  | 15 => .array .int
  | 16 => .array .int
  | 17 => .boolean
  | 18 => .int
  | 19 => .int
  | 20 => .int
  | 21 => .int
  | 22 => .int
  | 23 => .int
  | 24 => .array .int
  | 25 => .array .int
  | 26 => .int
  | 27 => .array .int
  | 28 => .int
  | 29 => .int
  | 30 => .array .int
  | 31 => .int
  | 32 => .array .int
  | 33 => .int
  | 34 => .array .int
  | 35 => .array .int
  | 36 => .long
  | 37 => .array .int
  | 38 => .int
  | 39 => .array .int
  | 40 => .array .int
  | 41 => .int
  | 42 => .array .int
  | _ => .boolean
abbrev wsX120 : List Cond := u_ws RX12 TX12 44
theorem nmX12 : ∀ a, a < 44 → ∀ b, b < 44 → a ≠ b → (TX12 a).2.1 ≠ (TX12 b).2.1 := by decide +kernel
theorem tyX12_ok : ∀ k, k < 44 → parseFieldDescriptor (TX12 k).2.2.1 = some (tyX12 k) := by decide +kernel
abbrev cX12_in : ByteArray := prog_14_method_1_code
def yX12_in : MethodName := ⟨RX12, "in", "(JJJ)Z"⟩
abbrev cX12_init : ByteArray := prog_14_method_2_code
def yX12_init : MethodName := ⟨RX12, "<init>", "()V"⟩
abbrev cX12_thrown : ByteArray := prog_14_method_3_code
def yX12_thrown : MethodName := ⟨RX12, "thrown", "()I"⟩
abbrev cX12_four : ByteArray := prog_14_method_4_code
def yX12_four : MethodName := ⟨RX12, "four", "(I)V"⟩
abbrev cX12_feed : ByteArray := prog_14_method_5_code
def yX12_feed : MethodName := ⟨RX12, "feed", "(IIIII)I"⟩
abbrev cX12_end : ByteArray := prog_14_method_6_code
def yX12_end : MethodName := ⟨RX12, "end", "(I)Z"⟩
abbrev cX12_here : ByteArray := prog_14_method_7_code
def yX12_here : MethodName := ⟨RX12, "here", "()I"⟩
abbrev cX12_isSmall : ByteArray := prog_14_method_8_code
def yX12_isSmall : MethodName := ⟨RX12, "isSmall", "(I)Z"⟩
abbrev cX12_isDigit : ByteArray := prog_14_method_9_code
def yX12_isDigit : MethodName := ⟨RX12, "isDigit", "(I)Z"⟩
abbrev cX12_next : ByteArray := prog_14_method_10_code
def yX12_next : MethodName := ⟨RX12, "next", "()V"⟩
abbrev cX12_bad : ByteArray := prog_14_method_11_code
def yX12_bad : MethodName := ⟨RX12, "bad", "()V"⟩
abbrev cX12_isWord : ByteArray := prog_14_method_12_code
def yX12_isWord : MethodName := ⟨RX12, "isWord", "(Ljava/lang/String;)Z"⟩
abbrev cX12_takesSemicolon : ByteArray := prog_14_method_13_code
def yX12_takesSemicolon : MethodName := ⟨RX12, "takesSemicolon", "()Z"⟩
abbrev cX12_takesNumber : ByteArray := prog_14_method_14_code
def yX12_takesNumber : MethodName := ⟨RX12, "takesNumber", "(II)I"⟩
abbrev cX12_isNew : ByteArray := prog_14_method_15_code
def yX12_isNew : MethodName := ⟨RX12, "isNew", "(I)Z"⟩
abbrev cX12_takesOne : ByteArray := prog_14_method_16_code
def yX12_takesOne : MethodName := ⟨RX12, "takesOne", "(Ljava/lang/String;Ljava/lang/String;Ljava/lang/String;)I"⟩
abbrev cX12_readsPiece : ByteArray := prog_14_method_17_code
def yX12_readsPiece : MethodName := ⟨RX12, "readsPiece", "()V"⟩
abbrev cX12_reads : ByteArray := prog_14_method_18_code
def yX12_reads : MethodName := ⟨RX12, "reads", "()I"⟩
abbrev cX12_fault : ByteArray := prog_14_method_19_code
def yX12_fault : MethodName := ⟨RX12, "fault", "()I"⟩
abbrev cX12_ofChannel : ByteArray := prog_14_method_20_code
def yX12_ofChannel : MethodName := ⟨RX12, "ofChannel", "(II)I"⟩
abbrev cX12_its : ByteArray := prog_14_method_21_code
def yX12_its : MethodName := ⟨RX12, "its", "(II)I"⟩
abbrev cX12_lay : ByteArray := prog_14_method_22_code
def yX12_lay : MethodName := ⟨RX12, "lay", "(III)V"⟩
abbrev cX12_more : ByteArray := prog_14_method_23_code
def yX12_more : MethodName := ⟨RX12, "more", "(III)V"⟩
abbrev cX12_line : ByteArray := prog_14_method_24_code
def yX12_line : MethodName := ⟨RX12, "line", "()I"⟩
abbrev cX12_puts : ByteArray := prog_14_method_25_code
def yX12_puts : MethodName := ⟨RX12, "puts", "(I)V"⟩
abbrev cX12_runFrom : ByteArray := prog_14_method_26_code
def yX12_runFrom : MethodName := ⟨RX12, "runFrom", "(I)I"⟩
abbrev cX12_block : ByteArray := prog_14_method_27_code
def yX12_block : MethodName := ⟨RX12, "block", "(III)V"⟩
abbrev cX12_isPair : ByteArray := prog_14_method_28_code
def yX12_isPair : MethodName := ⟨RX12, "isPair", "(I)Z"⟩
abbrev cX12_stuffs : ByteArray := prog_14_method_29_code
def yX12_stuffs : MethodName := ⟨RX12, "stuffs", "(I)V"⟩
abbrev cX12_plainly : ByteArray := prog_14_method_30_code
def yX12_plainly : MethodName := ⟨RX12, "plainly", "(I)V"⟩
abbrev cX12_copies : ByteArray := prog_14_method_31_code
def yX12_copies : MethodName := ⟨RX12, "copies", "(II)I"⟩
abbrev cX12_isCode : ByteArray := prog_14_method_32_code
def yX12_isCode : MethodName := ⟨RX12, "isCode", "(II)Z"⟩
abbrev cX12_unstuffs : ByteArray := prog_14_method_33_code
def yX12_unstuffs : MethodName := ⟨RX12, "unstuffs", "(I)I"⟩
abbrev cX12_lettersPlain : ByteArray := prog_14_method_34_code
def yX12_lettersPlain : MethodName := ⟨RX12, "lettersPlain", "()V"⟩
abbrev cX12_stuff : ByteArray := prog_14_method_35_code
def yX12_stuff : MethodName := ⟨RX12, "stuff", "(I)I"⟩
abbrev cX12_unstuff : ByteArray := prog_14_method_36_code
def yX12_unstuff : MethodName := ⟨RX12, "unstuff", "(I)I"⟩
abbrev cX12_box : ByteArray := prog_14_method_37_code
def yX12_box : MethodName := ⟨RX12, "box", "(I)I"⟩
abbrev cX12_shortest : ByteArray := prog_14_method_38_code
def yX12_shortest : MethodName := ⟨RX12, "shortest", "()I"⟩
abbrev cX12_mostOf : ByteArray := prog_14_method_39_code
def yX12_mostOf : MethodName := ⟨RX12, "mostOf", "(I)I"⟩
abbrev cX12_bound : ByteArray := prog_14_method_40_code
def yX12_bound : MethodName := ⟨RX12, "bound", "(I)I"⟩
abbrev cX12_checkLong : ByteArray := prog_14_method_41_code
def yX12_checkLong : MethodName := ⟨RX12, "checkLong", "()I"⟩
abbrev cX12_checkOf : ByteArray := prog_14_method_42_code
def yX12_checkOf : MethodName := ⟨RX12, "checkOf", "(I)I"⟩
abbrev cX12_frameIs : ByteArray := prog_14_method_43_code
def yX12_frameIs : MethodName := ⟨RX12, "frameIs", "(Z)I"⟩
abbrev cX12_partLong : ByteArray := prog_14_method_44_code
def yX12_partLong : MethodName := ⟨RX12, "partLong", "()I"⟩
abbrev cX12_keepsRow : ByteArray := prog_14_method_45_code
def yX12_keepsRow : MethodName := ⟨RX12, "keepsRow", "([I)V"⟩
abbrev cX12_keeps : ByteArray := prog_14_method_46_code
def yX12_keeps : MethodName := ⟨RX12, "keeps", "()V"⟩
abbrev cX12_putAside : ByteArray := prog_14_method_47_code
def yX12_putAside : MethodName := ⟨RX12, "putAside", "()V"⟩
abbrev cX12_takeBack : ByteArray := prog_14_method_48_code
def yX12_takeBack : MethodName := ⟨RX12, "takeBack", "()V"⟩
abbrev cX12_undo : ByteArray := prog_14_method_49_code
def yX12_undo : MethodName := ⟨RX12, "undo", "()I"⟩
abbrev cX12_refuses : ByteArray := prog_14_method_50_code
def yX12_refuses : MethodName := ⟨RX12, "refuses", "(I)I"⟩
abbrev cX12_status : ByteArray := prog_14_method_51_code
def yX12_status : MethodName := ⟨RX12, "status", "(I)I"⟩
abbrev cX12_isChannel : ByteArray := prog_14_method_52_code
def yX12_isChannel : MethodName := ⟨RX12, "isChannel", "(I)Z"⟩
abbrev cX12_waitAt : ByteArray := prog_14_method_53_code
def yX12_waitAt : MethodName := ⟨RX12, "waitAt", "(I)I"⟩
abbrev cX12_send : ByteArray := prog_14_method_54_code
def yX12_send : MethodName := ⟨RX12, "send", "(I)I"⟩
abbrev cX12_pick : ByteArray := prog_14_method_55_code
def yX12_pick : MethodName := ⟨RX12, "pick", "()I"⟩
abbrev cX12_laysFrame : ByteArray := prog_14_method_56_code
def yX12_laysFrame : MethodName := ⟨RX12, "laysFrame", "(I)I"⟩
abbrev cX12_shiftsWaiting : ByteArray := prog_14_method_57_code
def yX12_shiftsWaiting : MethodName := ⟨RX12, "shiftsWaiting", "(I)V"⟩
abbrev cX12_putsOne : ByteArray := prog_14_method_58_code
def yX12_putsOne : MethodName := ⟨RX12, "putsOne", "()Z"⟩
abbrev cX12_canPut : ByteArray := prog_14_method_59_code
def yX12_canPut : MethodName := ⟨RX12, "canPut", "()Z"⟩
abbrev cX12_put : ByteArray := prog_14_method_60_code
def yX12_put : MethodName := ⟨RX12, "put", "(I)I"⟩
abbrev cX12_isByte : ByteArray := prog_14_method_61_code
def yX12_isByte : MethodName := ⟨RX12, "isByte", "(I)Z"⟩
abbrev cX12_byteAt : ByteArray := prog_14_method_62_code
def yX12_byteAt : MethodName := ⟨RX12, "byteAt", "(I)I"⟩
abbrev cX12_loses : ByteArray := prog_14_method_63_code
def yX12_loses : MethodName := ⟨RX12, "loses", "(I)V"⟩
abbrev cX12_inserts : ByteArray := prog_14_method_64_code
def yX12_inserts : MethodName := ⟨RX12, "inserts", "(II)V"⟩
abbrev cX12_flip : ByteArray := prog_14_method_65_code
def yX12_flip : MethodName := ⟨RX12, "flip", "(II)I"⟩
abbrev cX12_lose : ByteArray := prog_14_method_66_code
def yX12_lose : MethodName := ⟨RX12, "lose", "(I)I"⟩
abbrev cX12_insert : ByteArray := prog_14_method_67_code
def yX12_insert : MethodName := ⟨RX12, "insert", "(II)I"⟩
abbrev cX12_draw : ByteArray := prog_14_method_68_code
def yX12_draw : MethodName := ⟨RX12, "draw", "(I)I"⟩
abbrev cX12_noisy : ByteArray := prog_14_method_69_code
def yX12_noisy : MethodName := ⟨RX12, "noisy", "()Z"⟩
abbrev cX12_noise : ByteArray := prog_14_method_70_code
def yX12_noise : MethodName := ⟨RX12, "noise", "(IJ)I"⟩
abbrev cX12_torn : ByteArray := prog_14_method_71_code
def yX12_torn : MethodName := ⟨RX12, "torn", "(I)V"⟩
abbrev cX12_hereAt : ByteArray := prog_14_method_72_code
def yX12_hereAt : MethodName := ⟨RX12, "hereAt", "(I)I"⟩
abbrev cX12_ends : ByteArray := prog_14_method_73_code
def yX12_ends : MethodName := ⟨RX12, "ends", "(I)I"⟩
abbrev cX12_takesFrame : ByteArray := prog_14_method_74_code
def yX12_takesFrame : MethodName := ⟨RX12, "takesFrame", "()I"⟩
abbrev cX12_event : ByteArray := prog_14_method_75_code
def yX12_event : MethodName := ⟨RX12, "event", "(IIIII)V"⟩
abbrev cX12_marks : ByteArray := prog_14_method_76_code
def yX12_marks : MethodName := ⟨RX12, "marks", "()V"⟩
abbrev cX12_readsByte : ByteArray := prog_14_method_77_code
def yX12_readsByte : MethodName := ⟨RX12, "readsByte", "(I)V"⟩
abbrev cX12_readsBytes : ByteArray := prog_14_method_78_code
def yX12_readsBytes : MethodName := ⟨RX12, "readsBytes", "(I)V"⟩
abbrev cX12_read : ByteArray := prog_14_method_79_code
def yX12_read : MethodName := ⟨RX12, "read", "(I)I"⟩
abbrev cX12_event_ : ByteArray := prog_14_method_80_code
def yX12_event_ : MethodName := ⟨RX12, "event", "(II)I"⟩
abbrev cX12_take : ByteArray := prog_14_method_81_code
def yX12_take : MethodName := ⟨RX12, "take", "(I)I"⟩
abbrev cX12_hand : ByteArray := prog_14_method_82_code
def yX12_hand : MethodName := ⟨RX12, "hand", "(I)I"⟩
abbrev cX12_renew : ByteArray := prog_14_method_83_code
def yX12_renew : MethodName := ⟨RX12, "renew", "(I)I"⟩
abbrev cX12_channel : ByteArray := prog_14_method_84_code
def yX12_channel : MethodName := ⟨RX12, "channel", "(II)I"⟩
abbrev cX12_laysFrames : ByteArray := prog_14_method_85_code
def yX12_laysFrames : MethodName := ⟨RX12, "laysFrames", "()I"⟩
abbrev cX12_frameAt : ByteArray := prog_14_method_86_code
def yX12_frameAt : MethodName := ⟨RX12, "frameAt", "(I)I"⟩
abbrev cX12_frame : ByteArray := prog_14_method_87_code
def yX12_frame : MethodName := ⟨RX12, "frame", "(II)I"⟩
abbrev cX12_blind : ByteArray := prog_14_method_88_code
def yX12_blind : MethodName := ⟨RX12, "blind", "(I)I"⟩
abbrev cX12_thereAll : ByteArray := prog_14_method_89_code
def yX12_thereAll : MethodName := ⟨RX12, "thereAll", "()I"⟩
abbrev cX12_sumOf : ByteArray := prog_14_method_90_code
def yX12_sumOf : MethodName := ⟨RX12, "sumOf", "(I)I"⟩
abbrev cX12_harm : ByteArray := prog_14_method_91_code
def yX12_harm : MethodName := ⟨RX12, "harm", "(II)I"⟩
abbrev cX12_cost : ByteArray := prog_14_method_92_code
def yX12_cost : MethodName := ⟨RX12, "cost", "(II)I"⟩
abbrev cX12_share : ByteArray := prog_14_method_93_code
def yX12_share : MethodName := ⟨RX12, "share", "(II)I"⟩
abbrev cX12_flushed : ByteArray := prog_14_method_94_code
def yX12_flushed : MethodName := ⟨RX12, "flushed", "(I)I"⟩
abbrev cX12_image : ByteArray := prog_14_method_95_code
def yX12_image : MethodName := ⟨RX12, "image", "()I"⟩
abbrev cX12_back : ByteArray := prog_14_method_96_code
def yX12_back : MethodName := ⟨RX12, "back", "()I"⟩
abbrev cX12_rule : ByteArray := prog_14_method_97_code
def yX12_rule : MethodName := ⟨RX12, "rule", "(I)I"⟩
abbrev cX12_mostLost : ByteArray := prog_14_method_98_code
def yX12_mostLost : MethodName := ⟨RX12, "mostLost", "()I"⟩
abbrev cX12_broken : ByteArray := prog_14_method_99_code
def yX12_broken : MethodName := ⟨RX12, "broken", "()I"⟩
abbrev cX12_longestFrame : ByteArray := prog_14_method_100_code
def yX12_longestFrame : MethodName := ⟨RX12, "longestFrame", "()I"⟩
abbrev cX12_waitingBytes : ByteArray := prog_14_method_101_code
def yX12_waitingBytes : MethodName := ⟨RX12, "waitingBytes", "()I"⟩
abbrev cX12_greatestByte : ByteArray := prog_14_method_102_code
def yX12_greatestByte : MethodName := ⟨RX12, "greatestByte", "()I"⟩
abbrev cX12_most : ByteArray := prog_14_method_103_code
def yX12_most : MethodName := ⟨RX12, "most", "(I)I"⟩
abbrev cX12_count : ByteArray := prog_14_method_104_code
def yX12_count : MethodName := ⟨RX12, "count", "(I)I"⟩
def RJx145de : String := "java/io/Serializable"
def TJx145de : u_T := fun k => match k with
  | _ => ("", "", "", false)
def tyJx145de : Nat → FieldType := fun k => match k with
  | _ => .int
abbrev wsJx145de0 : List Cond := u_ws RJx145de TJx145de 0
theorem nmJx145de : ∀ a, a < 0 → ∀ b, b < 0 → a ≠ b → (TJx145de a).2.1 ≠ (TJx145de b).2.1 := by decide +kernel
theorem tyJx145de_ok : ∀ k, k < 0 → parseFieldDescriptor (TJx145de k).2.2.1 = some (tyJx145de k) := by decide +kernel
def RJx9f9b0 : String := "java/lang/CharSequence"
def TJx9f9b0 : u_T := fun k => match k with
  | _ => ("", "", "", false)
def tyJx9f9b0 : Nat → FieldType := fun k => match k with
  | _ => .int
abbrev wsJx9f9b00 : List Cond := u_ws RJx9f9b0 TJx9f9b0 0
theorem nmJx9f9b0 : ∀ a, a < 0 → ∀ b, b < 0 → a ≠ b → (TJx9f9b0 a).2.1 ≠ (TJx9f9b0 b).2.1 := by decide +kernel
theorem tyJx9f9b0_ok : ∀ k, k < 0 → parseFieldDescriptor (TJx9f9b0 k).2.2.1 = some (tyJx9f9b0 k) := by decide +kernel
def RJxb160c : String := "java/lang/Comparable"
def TJxb160c : u_T := fun k => match k with
  | _ => ("", "", "", false)
def tyJxb160c : Nat → FieldType := fun k => match k with
  | _ => .int
abbrev wsJxb160c0 : List Cond := u_ws RJxb160c TJxb160c 0
theorem nmJxb160c : ∀ a, a < 0 → ∀ b, b < 0 → a ≠ b → (TJxb160c a).2.1 ≠ (TJxb160c b).2.1 := by decide +kernel
theorem tyJxb160c_ok : ∀ k, k < 0 → parseFieldDescriptor (TJxb160c k).2.2.1 = some (tyJxb160c k) := by decide +kernel
def RJ9 : String := "java/lang/Math"
def TJ9 : u_T := fun k => match k with
  | _ => ("", "", "", false)
def tyJ9 : Nat → FieldType := fun k => match k with
  | _ => .int
abbrev wsJ90 : List Cond := u_ws RJ9 TJ9 0
theorem nmJ9 : ∀ a, a < 0 → ∀ b, b < 0 → a ≠ b → (TJ9 a).2.1 ≠ (TJ9 b).2.1 := by decide +kernel
theorem tyJ9_ok : ∀ k, k < 0 → parseFieldDescriptor (TJ9 k).2.2.1 = some (tyJ9 k) := by decide +kernel
abbrev cJ9_max_7cf53 : ByteArray := prog_19_method_65_code
def yJ9_max_7cf53 : MethodName := ⟨RJ9, "max", "(II)I"⟩
abbrev cJ9_min_7cf53 : ByteArray := prog_19_method_69_code
def yJ9_min_7cf53 : MethodName := ⟨RJ9, "min", "(II)I"⟩
def RJ0 : String := "java/lang/String"
def TJ0 : u_T := fun k => match k with
  | _ => ("", "", "", false)
def tyJ0 : Nat → FieldType := fun k => match k with
  | _ => .int
abbrev wsJ00 : List Cond := u_ws RJ0 TJ0 0
theorem nmJ0 : ∀ a, a < 0 → ∀ b, b < 0 → a ≠ b → (TJ0 a).2.1 ≠ (TJ0 b).2.1 := by decide +kernel
theorem tyJ0_ok : ∀ k, k < 0 → parseFieldDescriptor (TJ0 k).2.2.1 = some (tyJ0 k) := by decide +kernel
abbrev cJ0_length_8abf5 : ByteArray := prog_21_method_54_code
def yJ0_length_8abf5 : MethodName := ⟨RJ0, "length", "()I"⟩
abbrev cJ0_charAt_5068e : ByteArray := prog_21_method_56_code
def yJ0_charAt_5068e : MethodName := ⟨RJ0, "charAt", "(I)C"⟩
abbrev cJ0_coder_7d493 : ByteArray := prog_21_method_152_code
def yJ0_coder_7d493 : MethodName := ⟨RJ0, "coder", "()B"⟩
abbrev cJ0_isLatin1_aae02 : ByteArray := prog_21_method_154_code
def yJ0_isLatin1_aae02 : MethodName := ⟨RJ0, "isLatin1", "()Z"⟩
abbrev cJ0_checkIndex_df160 : ByteArray := prog_21_method_155_code
def yJ0_checkIndex_df160 : MethodName := ⟨RJ0, "checkIndex", "(II)V"⟩
def RJ1 : String := "java/lang/StringLatin1"
def TJ1 : u_T := fun k => match k with
  | _ => ("", "", "", false)
def tyJ1 : Nat → FieldType := fun k => match k with
  | _ => .int
abbrev wsJ10 : List Cond := u_ws RJ1 TJ1 0
theorem nmJ1 : ∀ a, a < 0 → ∀ b, b < 0 → a ≠ b → (TJ1 a).2.1 ≠ (TJ1 b).2.1 := by decide +kernel
theorem tyJ1_ok : ∀ k, k < 0 → parseFieldDescriptor (TJ1 k).2.2.1 = some (tyJ1 k) := by decide +kernel
abbrev cJ1_charAt_3b067 : ByteArray := prog_22_method_2_code
def yJ1_charAt_3b067 : MethodName := ⟨RJ1, "charAt", "([BI)C"⟩
def RJ2 : String := "java/lang/StringUTF16"
def TJ2 : u_T := fun k => match k with
  | _ => ("", "", "", false)
def tyJ2 : Nat → FieldType := fun k => match k with
  | _ => .int
abbrev wsJ20 : List Cond := u_ws RJ2 TJ2 0
theorem nmJ2 : ∀ a, a < 0 → ∀ b, b < 0 → a ≠ b → (TJ2 a).2.1 ≠ (TJ2 b).2.1 := by decide +kernel
theorem tyJ2_ok : ∀ k, k < 0 → parseFieldDescriptor (TJ2 k).2.2.1 = some (tyJ2 k) := by decide +kernel
abbrev cJ2_getChar_3b067 : ByteArray := prog_23_method_5_code
def yJ2_getChar_3b067 : MethodName := ⟨RJ2, "getChar", "([BI)C"⟩
abbrev cJ2_length_9d52b : ByteArray := prog_23_method_6_code
def yJ2_length_9d52b : MethodName := ⟨RJ2, "length", "([B)I"⟩
abbrev cJ2_charAt_3b067 : ByteArray := prog_23_method_83_code
def yJ2_charAt_3b067 : MethodName := ⟨RJ2, "charAt", "([BI)C"⟩
abbrev cJ2_checkIndex_2214a : ByteArray := prog_23_method_91_code
def yJ2_checkIndex_2214a : MethodName := ⟨RJ2, "checkIndex", "(I[B)V"⟩
def RJ10 : String := "java/lang/System"
def TJ10 : u_T := fun k => match k with
  | _ => ("", "", "", false)
def tyJ10 : Nat → FieldType := fun k => match k with
  | _ => .int
abbrev wsJ100 : List Cond := u_ws RJ10 TJ10 0
theorem nmJ10 : ∀ a, a < 0 → ∀ b, b < 0 → a ≠ b → (TJ10 a).2.1 ≠ (TJ10 b).2.1 := by decide +kernel
theorem tyJ10_ok : ∀ k, k < 0 → parseFieldDescriptor (TJ10 k).2.2.1 = some (tyJ10 k) := by decide +kernel
def RJxfd54e : String := "java/lang/constant/Constable"
def TJxfd54e : u_T := fun k => match k with
  | _ => ("", "", "", false)
def tyJxfd54e : Nat → FieldType := fun k => match k with
  | _ => .int
abbrev wsJxfd54e0 : List Cond := u_ws RJxfd54e TJxfd54e 0
theorem nmJxfd54e : ∀ a, a < 0 → ∀ b, b < 0 → a ≠ b → (TJxfd54e a).2.1 ≠ (TJxfd54e b).2.1 := by decide +kernel
theorem tyJxfd54e_ok : ∀ k, k < 0 → parseFieldDescriptor (TJxfd54e k).2.2.1 = some (tyJxfd54e k) := by decide +kernel
def RJx3cf43 : String := "java/lang/constant/ConstantDesc"
def TJx3cf43 : u_T := fun k => match k with
  | _ => ("", "", "", false)
def tyJx3cf43 : Nat → FieldType := fun k => match k with
  | _ => .int
abbrev wsJx3cf430 : List Cond := u_ws RJx3cf43 TJx3cf43 0
theorem nmJx3cf43 : ∀ a, a < 0 → ∀ b, b < 0 → a ≠ b → (TJx3cf43 a).2.1 ≠ (TJx3cf43 b).2.1 := by decide +kernel
theorem tyJx3cf43_ok : ∀ k, k < 0 → parseFieldDescriptor (TJx3cf43 k).2.2.1 = some (tyJx3cf43 k) := by decide +kernel
def RJ3 : String := "jdk/internal/util/Preconditions"
def TJ3 : u_T := fun k => match k with
  | _ => ("", "", "", false)
def tyJ3 : Nat → FieldType := fun k => match k with
  | _ => .int
abbrev wsJ30 : List Cond := u_ws RJ3 TJ3 0
theorem nmJ3 : ∀ a, a < 0 → ∀ b, b < 0 → a ≠ b → (TJ3 a).2.1 ≠ (TJ3 b).2.1 := by decide +kernel
theorem tyJ3_ok : ∀ k, k < 0 → parseFieldDescriptor (TJ3 k).2.2.1 = some (tyJ3 k) := by decide +kernel
abbrev cJ3_checkIndex_8e157 : ByteArray := prog_29_method_11_code
def yJ3_checkIndex_8e157 : MethodName := ⟨RJ3, "checkIndex", "(IILjava/util/function/BiFunction;)I"⟩
def RL : String := "QuietLineLaw"
abbrev cL_channel : ByteArray := method_3_code
def yL_channel : MethodName := ⟨RL, "channel", "(LQuietLine;II[J)I"⟩
abbrev cL_law : ByteArray := code
def yL_law : MethodName := ⟨RL, "law", "([I)Z"⟩
abbrev vwCl : List vw_C := [(RX0, TX0, 1), (RX1, TX1, 6), (RX2, TX2, 3), (RX3, TX3, 3), (RX4, TX4, 12), (RX5, TX5, 3), (RX6, TX6, 6), (RX7, TX7, 8), (RX8, TX8, 2), (RX9, TX9, 6), (RX10, TX10, 3), (RX11, TX11, 13), (RX12, TX12, 44)]
