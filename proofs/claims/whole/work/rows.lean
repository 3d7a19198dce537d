section
-- ===== PART A: goes FIRST, ahead of the names: the tables' words, and 'selects' of the private methods out of them =====
/-- a private method of a class that the tables say can be made, by its rows of tables_1 -/
def lw_okq (q : MethodName × Nat) : Prop := (q.1.cls ≠ "java/lang/invoke/MethodHandle" ∧ q.1.cls ≠ "java/lang/invoke/VarHandle") ∧ Cond.instantiable q.1.cls q.2 ∈ tables_1 ∧ Cond.privateMethod q.1 ∈ tables_1 ∧ Cond.instanceMethod q.1 ∈ tables_1
theorem lw_p0 : lw_okq (⟨"QuietLine", "addFour", "(I)V"⟩, 13) := ⟨⟨by decide +kernel, by decide +kernel⟩, List.mem_of_getElem? (i := 25) (by decide +kernel), List.mem_of_getElem? (i := 404) (by decide +kernel), List.mem_of_getElem? (i := 405) (by decide +kernel)⟩
theorem lw_p1 : lw_okq (⟨"QuietLine$Row", "makeRoom", "(I)V"⟩, 3) := ⟨⟨by decide +kernel, by decide +kernel⟩, List.mem_of_getElem? (i := 39) (by decide +kernel), List.mem_of_getElem? (i := 412) (by decide +kernel), List.mem_of_getElem? (i := 413) (by decide +kernel)⟩
theorem lw_p2 : lw_okq (⟨"QuietLine$Tape", "nextPart", "()V"⟩, 6) := ⟨⟨by decide +kernel, by decide +kernel⟩, List.mem_of_getElem? (i := 33) (by decide +kernel), List.mem_of_getElem? (i := 441) (by decide +kernel), List.mem_of_getElem? (i := 442) (by decide +kernel)⟩
theorem lw_p3 : lw_okq (⟨"QuietLine$Tape", "endOf", "(Z)I"⟩, 6) := ⟨⟨by decide +kernel, by decide +kernel⟩, List.mem_of_getElem? (i := 33) (by decide +kernel), List.mem_of_getElem? (i := 456) (by decide +kernel), List.mem_of_getElem? (i := 457) (by decide +kernel)⟩
theorem lw_p4 : lw_okq (⟨"QuietLine$Tape", "sortOfWord", "()I"⟩, 6) := ⟨⟨by decide +kernel, by decide +kernel⟩, List.mem_of_getElem? (i := 33) (by decide +kernel), List.mem_of_getElem? (i := 463) (by decide +kernel), List.mem_of_getElem? (i := 464) (by decide +kernel)⟩
theorem lw_p5 : lw_okq (⟨"QuietLine$Tape", "isWord", "(Ljava/lang/String;)Z"⟩, 6) := ⟨⟨by decide +kernel, by decide +kernel⟩, List.mem_of_getElem? (i := 33) (by decide +kernel), List.mem_of_getElem? (i := 468) (by decide +kernel), List.mem_of_getElem? (i := 469) (by decide +kernel)⟩
theorem lw_p6 : lw_okq (⟨"QuietLine$Tape", "mayStand", "(I)Z"⟩, 6) := ⟨⟨by decide +kernel, by decide +kernel⟩, List.mem_of_getElem? (i := 33) (by decide +kernel), List.mem_of_getElem? (i := 525) (by decide +kernel), List.mem_of_getElem? (i := 526) (by decide +kernel)⟩
theorem lw_p7 : lw_okq (⟨"QuietLine$Tape", "tell", "(I)Z"⟩, 6) := ⟨⟨by decide +kernel, by decide +kernel⟩, List.mem_of_getElem? (i := 33) (by decide +kernel), List.mem_of_getElem? (i := 529) (by decide +kernel), List.mem_of_getElem? (i := 530) (by decide +kernel)⟩
theorem lw_p8 : lw_okq (⟨"QuietLine$Tape", "choice", "(Ljava/lang/String;Ljava/lang/String;Ljava/lang/String;)I"⟩, 6) := ⟨⟨by decide +kernel, by decide +kernel⟩, List.mem_of_getElem? (i := 33) (by decide +kernel), List.mem_of_getElem? (i := 535) (by decide +kernel), List.mem_of_getElem? (i := 536) (by decide +kernel)⟩
theorem lw_p9 : lw_okq (⟨"QuietLine$Tape", "number", "(II)I"⟩, 6) := ⟨⟨by decide +kernel, by decide +kernel⟩, List.mem_of_getElem? (i := 33) (by decide +kernel), List.mem_of_getElem? (i := 539) (by decide +kernel), List.mem_of_getElem? (i := 540) (by decide +kernel)⟩
theorem lw_p10 : lw_okq (⟨"QuietLine", "framesThere", "()I"⟩, 13) := ⟨⟨by decide +kernel, by decide +kernel⟩, List.mem_of_getElem? (i := 25) (by decide +kernel), List.mem_of_getElem? (i := 588) (by decide +kernel), List.mem_of_getElem? (i := 589) (by decide +kernel)⟩
theorem lw_p11 : lw_okq (⟨"QuietLine", "refuse", "(I)I"⟩, 13) := ⟨⟨by decide +kernel, by decide +kernel⟩, List.mem_of_getElem? (i := 25) (by decide +kernel), List.mem_of_getElem? (i := 618) (by decide +kernel), List.mem_of_getElem? (i := 619) (by decide +kernel)⟩
theorem lw_p12 : lw_okq (⟨"QuietLine$State", "putFrame", "(LQuietLine$Framing;)Z"⟩, 8) := ⟨⟨by decide +kernel, by decide +kernel⟩, List.mem_of_getElem? (i := 234) (by decide +kernel), List.mem_of_getElem? (i := 675) (by decide +kernel), List.mem_of_getElem? (i := 676) (by decide +kernel)⟩
theorem lw_p13 : lw_okq (⟨"QuietLine$Framing", "checkOf", "(I)I"⟩, 6) := ⟨⟨by decide +kernel, by decide +kernel⟩, List.mem_of_getElem? (i := 148) (by decide +kernel), List.mem_of_getElem? (i := 699) (by decide +kernel), List.mem_of_getElem? (i := 700) (by decide +kernel)⟩
theorem lw_p14 : lw_okq (⟨"QuietLine$Stuffing", "runFrom", "(LQuietLine$Row;I)I"⟩, 2) := ⟨⟨by decide +kernel, by decide +kernel⟩, List.mem_of_getElem? (i := 70) (by decide +kernel), List.mem_of_getElem? (i := 712) (by decide +kernel), List.mem_of_getElem? (i := 713) (by decide +kernel)⟩
theorem lw_p15 : lw_okq (⟨"QuietLine$Stuffing", "codeOf", "(LQuietLine$Row;III)I"⟩, 2) := ⟨⟨by decide +kernel, by decide +kernel⟩, List.mem_of_getElem? (i := 70) (by decide +kernel), List.mem_of_getElem? (i := 717) (by decide +kernel), List.mem_of_getElem? (i := 718) (by decide +kernel)⟩
def lw_privs_1 : List (MethodName × Nat) := [(⟨"QuietLine", "addFour", "(I)V"⟩, 13), (⟨"QuietLine$Row", "makeRoom", "(I)V"⟩, 3), (⟨"QuietLine$Tape", "nextPart", "()V"⟩, 6), (⟨"QuietLine$Tape", "endOf", "(Z)I"⟩, 6), (⟨"QuietLine$Tape", "sortOfWord", "()I"⟩, 6), (⟨"QuietLine$Tape", "isWord", "(Ljava/lang/String;)Z"⟩, 6), (⟨"QuietLine$Tape", "mayStand", "(I)Z"⟩, 6), (⟨"QuietLine$Tape", "tell", "(I)Z"⟩, 6), (⟨"QuietLine$Tape", "choice", "(Ljava/lang/String;Ljava/lang/String;Ljava/lang/String;)I"⟩, 6), (⟨"QuietLine$Tape", "number", "(II)I"⟩, 6), (⟨"QuietLine", "framesThere", "()I"⟩, 13), (⟨"QuietLine", "refuse", "(I)I"⟩, 13), (⟨"QuietLine$State", "putFrame", "(LQuietLine$Framing;)Z"⟩, 8), (⟨"QuietLine$Framing", "checkOf", "(I)I"⟩, 6), (⟨"QuietLine$Stuffing", "runFrom", "(LQuietLine$Row;I)I"⟩, 2), (⟨"QuietLine$Stuffing", "codeOf", "(LQuietLine$Row;III)I"⟩, 2)]
theorem lw_r1 : ∀ q ∈ lw_privs_1, lw_okq q := List.forall_mem_cons.mpr ⟨lw_p0, List.forall_mem_cons.mpr ⟨lw_p1, List.forall_mem_cons.mpr ⟨lw_p2, List.forall_mem_cons.mpr ⟨lw_p3, List.forall_mem_cons.mpr ⟨lw_p4, List.forall_mem_cons.mpr ⟨lw_p5, List.forall_mem_cons.mpr ⟨lw_p6, List.forall_mem_cons.mpr ⟨lw_p7, List.forall_mem_cons.mpr ⟨lw_p8, List.forall_mem_cons.mpr ⟨lw_p9, List.forall_mem_cons.mpr ⟨lw_p10, List.forall_mem_cons.mpr ⟨lw_p11, List.forall_mem_cons.mpr ⟨lw_p12, List.forall_mem_cons.mpr ⟨lw_p13, List.forall_mem_cons.mpr ⟨lw_p14, List.forall_mem_cons.mpr ⟨lw_p15, fun _ h => absurd h List.not_mem_nil⟩⟩⟩⟩⟩⟩⟩⟩⟩⟩⟩⟩⟩⟩⟩⟩
theorem lw_p16 : lw_okq (⟨"QuietLine$State", "readMark", "(LQuietLine$Framing;)V"⟩, 8) := ⟨⟨by decide +kernel, by decide +kernel⟩, List.mem_of_getElem? (i := 234) (by decide +kernel), List.mem_of_getElem? (i := 803) (by decide +kernel), List.mem_of_getElem? (i := 804) (by decide +kernel)⟩
theorem lw_p17 : lw_okq (⟨"QuietLine$Stuffing", "zerosBehind", "(IZ)I"⟩, 2) := ⟨⟨by decide +kernel, by decide +kernel⟩, List.mem_of_getElem? (i := 70) (by decide +kernel), List.mem_of_getElem? (i := 822) (by decide +kernel), List.mem_of_getElem? (i := 823) (by decide +kernel)⟩
theorem lw_p18 : lw_okq (⟨"QuietLine$Port", "tear", "()V"⟩, 12) := ⟨⟨by decide +kernel, by decide +kernel⟩, List.mem_of_getElem? (i := 243) (by decide +kernel), List.mem_of_getElem? (i := 832) (by decide +kernel), List.mem_of_getElem? (i := 833) (by decide +kernel)⟩
theorem lw_p19 : lw_okq (⟨"QuietLine", "stuffedLength", "(I)I"⟩, 13) := ⟨⟨by decide +kernel, by decide +kernel⟩, List.mem_of_getElem? (i := 25) (by decide +kernel), List.mem_of_getElem? (i := 887) (by decide +kernel), List.mem_of_getElem? (i := 888) (by decide +kernel)⟩
theorem lw_p20 : lw_okq (⟨"QuietLine$Framing", "blindCodes", "(II)I"⟩, 6) := ⟨⟨by decide +kernel, by decide +kernel⟩, List.mem_of_getElem? (i := 148) (by decide +kernel), List.mem_of_getElem? (i := 925) (by decide +kernel), List.mem_of_getElem? (i := 926) (by decide +kernel)⟩
theorem lw_p21 : lw_okq (⟨"QuietLine", "longestFrame", "()I"⟩, 13) := ⟨⟨by decide +kernel, by decide +kernel⟩, List.mem_of_getElem? (i := 25) (by decide +kernel), List.mem_of_getElem? (i := 989) (by decide +kernel), List.mem_of_getElem? (i := 990) (by decide +kernel)⟩
theorem lw_p22 : lw_okq (⟨"java/lang/Throwable", "fillInStackTrace", "(I)Ljava/lang/Throwable;"⟩, 6) := ⟨⟨by decide +kernel, by decide +kernel⟩, List.mem_of_getElem? (i := 1050) (by decide +kernel), List.mem_of_getElem? (i := 1048) (by decide +kernel), List.mem_of_getElem? (i := 1049) (by decide +kernel)⟩
theorem lw_p23 : lw_okq (⟨"QuietLineModel", "four", "(I)V"⟩, 44) := ⟨⟨by decide +kernel, by decide +kernel⟩, List.mem_of_getElem? (i := 1080) (by decide +kernel), List.mem_of_getElem? (i := 1228) (by decide +kernel), List.mem_of_getElem? (i := 1229) (by decide +kernel)⟩
theorem lw_p24 : lw_okq (⟨"QuietLineModel", "reads", "()I"⟩, 44) := ⟨⟨by decide +kernel, by decide +kernel⟩, List.mem_of_getElem? (i := 1080) (by decide +kernel), List.mem_of_getElem? (i := 1243) (by decide +kernel), List.mem_of_getElem? (i := 1244) (by decide +kernel)⟩
theorem lw_p25 : lw_okq (⟨"QuietLineModel", "next", "()V"⟩, 44) := ⟨⟨by decide +kernel, by decide +kernel⟩, List.mem_of_getElem? (i := 1080) (by decide +kernel), List.mem_of_getElem? (i := 1247) (by decide +kernel), List.mem_of_getElem? (i := 1248) (by decide +kernel)⟩
theorem lw_p26 : lw_okq (⟨"QuietLineModel", "here", "()I"⟩, 44) := ⟨⟨by decide +kernel, by decide +kernel⟩, List.mem_of_getElem? (i := 1080) (by decide +kernel), List.mem_of_getElem? (i := 1251) (by decide +kernel), List.mem_of_getElem? (i := 1252) (by decide +kernel)⟩
theorem lw_p27 : lw_okq (⟨"QuietLineModel", "readsPiece", "()V"⟩, 44) := ⟨⟨by decide +kernel, by decide +kernel⟩, List.mem_of_getElem? (i := 1080) (by decide +kernel), List.mem_of_getElem? (i := 1262) (by decide +kernel), List.mem_of_getElem? (i := 1263) (by decide +kernel)⟩
theorem lw_p28 : lw_okq (⟨"QuietLineModel", "isWord", "(Ljava/lang/String;)Z"⟩, 44) := ⟨⟨by decide +kernel, by decide +kernel⟩, List.mem_of_getElem? (i := 1080) (by decide +kernel), List.mem_of_getElem? (i := 1267) (by decide +kernel), List.mem_of_getElem? (i := 1268) (by decide +kernel)⟩
theorem lw_p29 : lw_okq (⟨"QuietLineModel", "isNew", "(I)Z"⟩, 44) := ⟨⟨by decide +kernel, by decide +kernel⟩, List.mem_of_getElem? (i := 1080) (by decide +kernel), List.mem_of_getElem? (i := 1273) (by decide +kernel), List.mem_of_getElem? (i := 1274) (by decide +kernel)⟩
theorem lw_p30 : lw_okq (⟨"QuietLineModel", "takesOne", "(Ljava/lang/String;Ljava/lang/String;Ljava/lang/String;)I"⟩, 44) := ⟨⟨by decide +kernel, by decide +kernel⟩, List.mem_of_getElem? (i := 1080) (by decide +kernel), List.mem_of_getElem? (i := 1280) (by decide +kernel), List.mem_of_getElem? (i := 1281) (by decide +kernel)⟩
theorem lw_p31 : lw_okq (⟨"QuietLineModel", "bad", "()V"⟩, 44) := ⟨⟨by decide +kernel, by decide +kernel⟩, List.mem_of_getElem? (i := 1080) (by decide +kernel), List.mem_of_getElem? (i := 1284) (by decide +kernel), List.mem_of_getElem? (i := 1285) (by decide +kernel)⟩
def lw_privs_2 : List (MethodName × Nat) := [(⟨"QuietLine$State", "readMark", "(LQuietLine$Framing;)V"⟩, 8), (⟨"QuietLine$Stuffing", "zerosBehind", "(IZ)I"⟩, 2), (⟨"QuietLine$Port", "tear", "()V"⟩, 12), (⟨"QuietLine", "stuffedLength", "(I)I"⟩, 13), (⟨"QuietLine$Framing", "blindCodes", "(II)I"⟩, 6), (⟨"QuietLine", "longestFrame", "()I"⟩, 13), (⟨"java/lang/Throwable", "fillInStackTrace", "(I)Ljava/lang/Throwable;"⟩, 6), (⟨"QuietLineModel", "four", "(I)V"⟩, 44), (⟨"QuietLineModel", "reads", "()I"⟩, 44), (⟨"QuietLineModel", "next", "()V"⟩, 44), (⟨"QuietLineModel", "here", "()I"⟩, 44), (⟨"QuietLineModel", "readsPiece", "()V"⟩, 44), (⟨"QuietLineModel", "isWord", "(Ljava/lang/String;)Z"⟩, 44), (⟨"QuietLineModel", "isNew", "(I)Z"⟩, 44), (⟨"QuietLineModel", "takesOne", "(Ljava/lang/String;Ljava/lang/String;Ljava/lang/String;)I"⟩, 44), (⟨"QuietLineModel", "bad", "()V"⟩, 44)]
theorem lw_r2 : ∀ q ∈ lw_privs_2, lw_okq q := List.forall_mem_cons.mpr ⟨lw_p16, List.forall_mem_cons.mpr ⟨lw_p17, List.forall_mem_cons.mpr ⟨lw_p18, List.forall_mem_cons.mpr ⟨lw_p19, List.forall_mem_cons.mpr ⟨lw_p20, List.forall_mem_cons.mpr ⟨lw_p21, List.forall_mem_cons.mpr ⟨lw_p22, List.forall_mem_cons.mpr ⟨lw_p23, List.forall_mem_cons.mpr ⟨lw_p24, List.forall_mem_cons.mpr ⟨lw_p25, List.forall_mem_cons.mpr ⟨lw_p26, List.forall_mem_cons.mpr ⟨lw_p27, List.forall_mem_cons.mpr ⟨lw_p28, List.forall_mem_cons.mpr ⟨lw_p29, List.forall_mem_cons.mpr ⟨lw_p30, List.forall_mem_cons.mpr ⟨lw_p31, fun _ h => absurd h List.not_mem_nil⟩⟩⟩⟩⟩⟩⟩⟩⟩⟩⟩⟩⟩⟩⟩⟩
theorem lw_p32 : lw_okq (⟨"QuietLineModel", "takesNumber", "(II)I"⟩, 44) := ⟨⟨by decide +kernel, by decide +kernel⟩, List.mem_of_getElem? (i := 1080) (by decide +kernel), List.mem_of_getElem? (i := 1289) (by decide +kernel), List.mem_of_getElem? (i := 1290) (by decide +kernel)⟩
theorem lw_p33 : lw_okq (⟨"QuietLineModel", "takesSemicolon", "()Z"⟩, 44) := ⟨⟨by decide +kernel, by decide +kernel⟩, List.mem_of_getElem? (i := 1080) (by decide +kernel), List.mem_of_getElem? (i := 1299) (by decide +kernel), List.mem_of_getElem? (i := 1300) (by decide +kernel)⟩
theorem lw_p34 : lw_okq (⟨"QuietLineModel", "lay", "(III)V"⟩, 44) := ⟨⟨by decide +kernel, by decide +kernel⟩, List.mem_of_getElem? (i := 1080) (by decide +kernel), List.mem_of_getElem? (i := 1307) (by decide +kernel), List.mem_of_getElem? (i := 1308) (by decide +kernel)⟩
theorem lw_p35 : lw_okq (⟨"QuietLineModel", "lettersPlain", "()V"⟩, 44) := ⟨⟨by decide +kernel, by decide +kernel⟩, List.mem_of_getElem? (i := 1080) (by decide +kernel), List.mem_of_getElem? (i := 1319) (by decide +kernel), List.mem_of_getElem? (i := 1320) (by decide +kernel)⟩
theorem lw_p36 : lw_okq (⟨"QuietLineModel", "stuffs", "(I)V"⟩, 44) := ⟨⟨by decide +kernel, by decide +kernel⟩, List.mem_of_getElem? (i := 1080) (by decide +kernel), List.mem_of_getElem? (i := 1323) (by decide +kernel), List.mem_of_getElem? (i := 1324) (by decide +kernel)⟩
theorem lw_p37 : lw_okq (⟨"QuietLineModel", "runFrom", "(I)I"⟩, 44) := ⟨⟨by decide +kernel, by decide +kernel⟩, List.mem_of_getElem? (i := 1080) (by decide +kernel), List.mem_of_getElem? (i := 1327) (by decide +kernel), List.mem_of_getElem? (i := 1328) (by decide +kernel)⟩
theorem lw_p38 : lw_okq (⟨"QuietLineModel", "block", "(III)V"⟩, 44) := ⟨⟨by decide +kernel, by decide +kernel⟩, List.mem_of_getElem? (i := 1080) (by decide +kernel), List.mem_of_getElem? (i := 1331) (by decide +kernel), List.mem_of_getElem? (i := 1332) (by decide +kernel)⟩
theorem lw_p39 : lw_okq (⟨"QuietLineModel", "puts", "(I)V"⟩, 44) := ⟨⟨by decide +kernel, by decide +kernel⟩, List.mem_of_getElem? (i := 1080) (by decide +kernel), List.mem_of_getElem? (i := 1335) (by decide +kernel), List.mem_of_getElem? (i := 1336) (by decide +kernel)⟩
theorem lw_p40 : lw_okq (⟨"QuietLineModel", "isPair", "(I)Z"⟩, 44) := ⟨⟨by decide +kernel, by decide +kernel⟩, List.mem_of_getElem? (i := 1080) (by decide +kernel), List.mem_of_getElem? (i := 1339) (by decide +kernel), List.mem_of_getElem? (i := 1340) (by decide +kernel)⟩
theorem lw_p41 : lw_okq (⟨"QuietLineModel", "unstuffs", "(I)I"⟩, 44) := ⟨⟨by decide +kernel, by decide +kernel⟩, List.mem_of_getElem? (i := 1080) (by decide +kernel), List.mem_of_getElem? (i := 1347) (by decide +kernel), List.mem_of_getElem? (i := 1348) (by decide +kernel)⟩
theorem lw_p42 : lw_okq (⟨"QuietLineModel", "copies", "(II)I"⟩, 44) := ⟨⟨by decide +kernel, by decide +kernel⟩, List.mem_of_getElem? (i := 1080) (by decide +kernel), List.mem_of_getElem? (i := 1351) (by decide +kernel), List.mem_of_getElem? (i := 1352) (by decide +kernel)⟩
theorem lw_p43 : lw_okq (⟨"QuietLineModel", "plainly", "(I)V"⟩, 44) := ⟨⟨by decide +kernel, by decide +kernel⟩, List.mem_of_getElem? (i := 1080) (by decide +kernel), List.mem_of_getElem? (i := 1355) (by decide +kernel), List.mem_of_getElem? (i := 1356) (by decide +kernel)⟩
theorem lw_p44 : lw_okq (⟨"QuietLineModel", "isCode", "(II)Z"⟩, 44) := ⟨⟨by decide +kernel, by decide +kernel⟩, List.mem_of_getElem? (i := 1080) (by decide +kernel), List.mem_of_getElem? (i := 1359) (by decide +kernel), List.mem_of_getElem? (i := 1360) (by decide +kernel)⟩
theorem lw_p45 : lw_okq (⟨"QuietLineModel", "mostOf", "(I)I"⟩, 44) := ⟨⟨by decide +kernel, by decide +kernel⟩, List.mem_of_getElem? (i := 1080) (by decide +kernel), List.mem_of_getElem? (i := 1376) (by decide +kernel), List.mem_of_getElem? (i := 1377) (by decide +kernel)⟩
theorem lw_p46 : lw_okq (⟨"QuietLineModel", "refuses", "(I)I"⟩, 44) := ⟨⟨by decide +kernel, by decide +kernel⟩, List.mem_of_getElem? (i := 1080) (by decide +kernel), List.mem_of_getElem? (i := 1394) (by decide +kernel), List.mem_of_getElem? (i := 1395) (by decide +kernel)⟩
theorem lw_p47 : lw_okq (⟨"QuietLineModel", "isChannel", "(I)Z"⟩, 44) := ⟨⟨by decide +kernel, by decide +kernel⟩, List.mem_of_getElem? (i := 1080) (by decide +kernel), List.mem_of_getElem? (i := 1398) (by decide +kernel), List.mem_of_getElem? (i := 1399) (by decide +kernel)⟩
def lw_privs_3 : List (MethodName × Nat) := [(⟨"QuietLineModel", "takesNumber", "(II)I"⟩, 44), (⟨"QuietLineModel", "takesSemicolon", "()Z"⟩, 44), (⟨"QuietLineModel", "lay", "(III)V"⟩, 44), (⟨"QuietLineModel", "lettersPlain", "()V"⟩, 44), (⟨"QuietLineModel", "stuffs", "(I)V"⟩, 44), (⟨"QuietLineModel", "runFrom", "(I)I"⟩, 44), (⟨"QuietLineModel", "block", "(III)V"⟩, 44), (⟨"QuietLineModel", "puts", "(I)V"⟩, 44), (⟨"QuietLineModel", "isPair", "(I)Z"⟩, 44), (⟨"QuietLineModel", "unstuffs", "(I)I"⟩, 44), (⟨"QuietLineModel", "copies", "(II)I"⟩, 44), (⟨"QuietLineModel", "plainly", "(I)V"⟩, 44), (⟨"QuietLineModel", "isCode", "(II)Z"⟩, 44), (⟨"QuietLineModel", "mostOf", "(I)I"⟩, 44), (⟨"QuietLineModel", "refuses", "(I)I"⟩, 44), (⟨"QuietLineModel", "isChannel", "(I)Z"⟩, 44)]
theorem lw_r3 : ∀ q ∈ lw_privs_3, lw_okq q := List.forall_mem_cons.mpr ⟨lw_p32, List.forall_mem_cons.mpr ⟨lw_p33, List.forall_mem_cons.mpr ⟨lw_p34, List.forall_mem_cons.mpr ⟨lw_p35, List.forall_mem_cons.mpr ⟨lw_p36, List.forall_mem_cons.mpr ⟨lw_p37, List.forall_mem_cons.mpr ⟨lw_p38, List.forall_mem_cons.mpr ⟨lw_p39, List.forall_mem_cons.mpr ⟨lw_p40, List.forall_mem_cons.mpr ⟨lw_p41, List.forall_mem_cons.mpr ⟨lw_p42, List.forall_mem_cons.mpr ⟨lw_p43, List.forall_mem_cons.mpr ⟨lw_p44, List.forall_mem_cons.mpr ⟨lw_p45, List.forall_mem_cons.mpr ⟨lw_p46, List.forall_mem_cons.mpr ⟨lw_p47, fun _ h => absurd h List.not_mem_nil⟩⟩⟩⟩⟩⟩⟩⟩⟩⟩⟩⟩⟩⟩⟩⟩
theorem lw_p48 : lw_okq (⟨"QuietLineModel", "its", "(II)I"⟩, 44) := ⟨⟨by decide +kernel, by decide +kernel⟩, List.mem_of_getElem? (i := 1080) (by decide +kernel), List.mem_of_getElem? (i := 1402) (by decide +kernel), List.mem_of_getElem? (i := 1403) (by decide +kernel)⟩
theorem lw_p49 : lw_okq (⟨"QuietLineModel", "keeps", "()V"⟩, 44) := ⟨⟨by decide +kernel, by decide +kernel⟩, List.mem_of_getElem? (i := 1080) (by decide +kernel), List.mem_of_getElem? (i := 1406) (by decide +kernel), List.mem_of_getElem? (i := 1407) (by decide +kernel)⟩
theorem lw_p50 : lw_okq (⟨"QuietLineModel", "keepsRow", "([I)V"⟩, 44) := ⟨⟨by decide +kernel, by decide +kernel⟩, List.mem_of_getElem? (i := 1080) (by decide +kernel), List.mem_of_getElem? (i := 1410) (by decide +kernel), List.mem_of_getElem? (i := 1411) (by decide +kernel)⟩
theorem lw_p51 : lw_okq (⟨"QuietLineModel", "more", "(III)V"⟩, 44) := ⟨⟨by decide +kernel, by decide +kernel⟩, List.mem_of_getElem? (i := 1080) (by decide +kernel), List.mem_of_getElem? (i := 1417) (by decide +kernel), List.mem_of_getElem? (i := 1418) (by decide +kernel)⟩
theorem lw_p52 : lw_okq (⟨"QuietLineModel", "canPut", "()Z"⟩, 44) := ⟨⟨by decide +kernel, by decide +kernel⟩, List.mem_of_getElem? (i := 1080) (by decide +kernel), List.mem_of_getElem? (i := 1426) (by decide +kernel), List.mem_of_getElem? (i := 1427) (by decide +kernel)⟩
theorem lw_p53 : lw_okq (⟨"QuietLineModel", "pick", "()I"⟩, 44) := ⟨⟨by decide +kernel, by decide +kernel⟩, List.mem_of_getElem? (i := 1080) (by decide +kernel), List.mem_of_getElem? (i := 1430) (by decide +kernel), List.mem_of_getElem? (i := 1431) (by decide +kernel)⟩
theorem lw_p54 : lw_okq (⟨"QuietLineModel", "laysFrame", "(I)I"⟩, 44) := ⟨⟨by decide +kernel, by decide +kernel⟩, List.mem_of_getElem? (i := 1080) (by decide +kernel), List.mem_of_getElem? (i := 1434) (by decide +kernel), List.mem_of_getElem? (i := 1435) (by decide +kernel)⟩
theorem lw_p55 : lw_okq (⟨"QuietLineModel", "checkOf", "(I)I"⟩, 44) := ⟨⟨by decide +kernel, by decide +kernel⟩, List.mem_of_getElem? (i := 1080) (by decide +kernel), List.mem_of_getElem? (i := 1438) (by decide +kernel), List.mem_of_getElem? (i := 1439) (by decide +kernel)⟩
theorem lw_p56 : lw_okq (⟨"QuietLineModel", "putsOne", "()Z"⟩, 44) := ⟨⟨by decide +kernel, by decide +kernel⟩, List.mem_of_getElem? (i := 1080) (by decide +kernel), List.mem_of_getElem? (i := 1442) (by decide +kernel), List.mem_of_getElem? (i := 1443) (by decide +kernel)⟩
theorem lw_p57 : lw_okq (⟨"QuietLineModel", "shiftsWaiting", "(I)V"⟩, 44) := ⟨⟨by decide +kernel, by decide +kernel⟩, List.mem_of_getElem? (i := 1080) (by decide +kernel), List.mem_of_getElem? (i := 1446) (by decide +kernel), List.mem_of_getElem? (i := 1447) (by decide +kernel)⟩
theorem lw_p58 : lw_okq (⟨"QuietLineModel", "isByte", "(I)Z"⟩, 44) := ⟨⟨by decide +kernel, by decide +kernel⟩, List.mem_of_getElem? (i := 1080) (by decide +kernel), List.mem_of_getElem? (i := 1454) (by decide +kernel), List.mem_of_getElem? (i := 1455) (by decide +kernel)⟩
theorem lw_p59 : lw_okq (⟨"QuietLineModel", "loses", "(I)V"⟩, 44) := ⟨⟨by decide +kernel, by decide +kernel⟩, List.mem_of_getElem? (i := 1080) (by decide +kernel), List.mem_of_getElem? (i := 1467) (by decide +kernel), List.mem_of_getElem? (i := 1468) (by decide +kernel)⟩
theorem lw_p60 : lw_okq (⟨"QuietLineModel", "inserts", "(II)V"⟩, 44) := ⟨⟨by decide +kernel, by decide +kernel⟩, List.mem_of_getElem? (i := 1080) (by decide +kernel), List.mem_of_getElem? (i := 1475) (by decide +kernel), List.mem_of_getElem? (i := 1476) (by decide +kernel)⟩
theorem lw_p61 : lw_okq (⟨"QuietLineModel", "putAside", "()V"⟩, 44) := ⟨⟨by decide +kernel, by decide +kernel⟩, List.mem_of_getElem? (i := 1080) (by decide +kernel), List.mem_of_getElem? (i := 1484) (by decide +kernel), List.mem_of_getElem? (i := 1485) (by decide +kernel)⟩
theorem lw_p62 : lw_okq (⟨"QuietLineModel", "noisy", "()Z"⟩, 44) := ⟨⟨by decide +kernel, by decide +kernel⟩, List.mem_of_getElem? (i := 1080) (by decide +kernel), List.mem_of_getElem? (i := 1488) (by decide +kernel), List.mem_of_getElem? (i := 1489) (by decide +kernel)⟩
theorem lw_p63 : lw_okq (⟨"QuietLineModel", "draw", "(I)I"⟩, 44) := ⟨⟨by decide +kernel, by decide +kernel⟩, List.mem_of_getElem? (i := 1080) (by decide +kernel), List.mem_of_getElem? (i := 1492) (by decide +kernel), List.mem_of_getElem? (i := 1493) (by decide +kernel)⟩
def lw_privs_4 : List (MethodName × Nat) := [(⟨"QuietLineModel", "its", "(II)I"⟩, 44), (⟨"QuietLineModel", "keeps", "()V"⟩, 44), (⟨"QuietLineModel", "keepsRow", "([I)V"⟩, 44), (⟨"QuietLineModel", "more", "(III)V"⟩, 44), (⟨"QuietLineModel", "canPut", "()Z"⟩, 44), (⟨"QuietLineModel", "pick", "()I"⟩, 44), (⟨"QuietLineModel", "laysFrame", "(I)I"⟩, 44), (⟨"QuietLineModel", "checkOf", "(I)I"⟩, 44), (⟨"QuietLineModel", "putsOne", "()Z"⟩, 44), (⟨"QuietLineModel", "shiftsWaiting", "(I)V"⟩, 44), (⟨"QuietLineModel", "isByte", "(I)Z"⟩, 44), (⟨"QuietLineModel", "loses", "(I)V"⟩, 44), (⟨"QuietLineModel", "inserts", "(II)V"⟩, 44), (⟨"QuietLineModel", "putAside", "()V"⟩, 44), (⟨"QuietLineModel", "noisy", "()Z"⟩, 44), (⟨"QuietLineModel", "draw", "(I)I"⟩, 44)]
theorem lw_r4 : ∀ q ∈ lw_privs_4, lw_okq q := List.forall_mem_cons.mpr ⟨lw_p48, List.forall_mem_cons.mpr ⟨lw_p49, List.forall_mem_cons.mpr ⟨lw_p50, List.forall_mem_cons.mpr ⟨lw_p51, List.forall_mem_cons.mpr ⟨lw_p52, List.forall_mem_cons.mpr ⟨lw_p53, List.forall_mem_cons.mpr ⟨lw_p54, List.forall_mem_cons.mpr ⟨lw_p55, List.forall_mem_cons.mpr ⟨lw_p56, List.forall_mem_cons.mpr ⟨lw_p57, List.forall_mem_cons.mpr ⟨lw_p58, List.forall_mem_cons.mpr ⟨lw_p59, List.forall_mem_cons.mpr ⟨lw_p60, List.forall_mem_cons.mpr ⟨lw_p61, List.forall_mem_cons.mpr ⟨lw_p62, List.forall_mem_cons.mpr ⟨lw_p63, fun _ h => absurd h List.not_mem_nil⟩⟩⟩⟩⟩⟩⟩⟩⟩⟩⟩⟩⟩⟩⟩⟩
theorem lw_p64 : lw_okq (⟨"QuietLineModel", "readsBytes", "(I)V"⟩, 44) := ⟨⟨by decide +kernel, by decide +kernel⟩, List.mem_of_getElem? (i := 1080) (by decide +kernel), List.mem_of_getElem? (i := 1503) (by decide +kernel), List.mem_of_getElem? (i := 1504) (by decide +kernel)⟩
theorem lw_p65 : lw_okq (⟨"QuietLineModel", "readsByte", "(I)V"⟩, 44) := ⟨⟨by decide +kernel, by decide +kernel⟩, List.mem_of_getElem? (i := 1080) (by decide +kernel), List.mem_of_getElem? (i := 1507) (by decide +kernel), List.mem_of_getElem? (i := 1508) (by decide +kernel)⟩
theorem lw_p66 : lw_okq (⟨"QuietLineModel", "marks", "()V"⟩, 44) := ⟨⟨by decide +kernel, by decide +kernel⟩, List.mem_of_getElem? (i := 1080) (by decide +kernel), List.mem_of_getElem? (i := 1511) (by decide +kernel), List.mem_of_getElem? (i := 1512) (by decide +kernel)⟩
theorem lw_p67 : lw_okq (⟨"QuietLineModel", "frameIs", "(Z)I"⟩, 44) := ⟨⟨by decide +kernel, by decide +kernel⟩, List.mem_of_getElem? (i := 1080) (by decide +kernel), List.mem_of_getElem? (i := 1515) (by decide +kernel), List.mem_of_getElem? (i := 1516) (by decide +kernel)⟩
theorem lw_p68 : lw_okq (⟨"QuietLineModel", "checkLong", "()I"⟩, 44) := ⟨⟨by decide +kernel, by decide +kernel⟩, List.mem_of_getElem? (i := 1080) (by decide +kernel), List.mem_of_getElem? (i := 1519) (by decide +kernel), List.mem_of_getElem? (i := 1520) (by decide +kernel)⟩
theorem lw_p69 : lw_okq (⟨"QuietLineModel", "event", "(IIIII)V"⟩, 44) := ⟨⟨by decide +kernel, by decide +kernel⟩, List.mem_of_getElem? (i := 1080) (by decide +kernel), List.mem_of_getElem? (i := 1523) (by decide +kernel), List.mem_of_getElem? (i := 1524) (by decide +kernel)⟩
theorem lw_p70 : lw_okq (⟨"QuietLineModel", "partLong", "()I"⟩, 44) := ⟨⟨by decide +kernel, by decide +kernel⟩, List.mem_of_getElem? (i := 1080) (by decide +kernel), List.mem_of_getElem? (i := 1527) (by decide +kernel), List.mem_of_getElem? (i := 1528) (by decide +kernel)⟩
theorem lw_p71 : lw_okq (⟨"QuietLineModel", "takesFrame", "()I"⟩, 44) := ⟨⟨by decide +kernel, by decide +kernel⟩, List.mem_of_getElem? (i := 1080) (by decide +kernel), List.mem_of_getElem? (i := 1531) (by decide +kernel), List.mem_of_getElem? (i := 1532) (by decide +kernel)⟩
theorem lw_p72 : lw_okq (⟨"QuietLineModel", "torn", "(I)V"⟩, 44) := ⟨⟨by decide +kernel, by decide +kernel⟩, List.mem_of_getElem? (i := 1080) (by decide +kernel), List.mem_of_getElem? (i := 1535) (by decide +kernel), List.mem_of_getElem? (i := 1536) (by decide +kernel)⟩
theorem lw_p73 : lw_okq (⟨"QuietLineModel", "ends", "(I)I"⟩, 44) := ⟨⟨by decide +kernel, by decide +kernel⟩, List.mem_of_getElem? (i := 1080) (by decide +kernel), List.mem_of_getElem? (i := 1539) (by decide +kernel), List.mem_of_getElem? (i := 1540) (by decide +kernel)⟩
theorem lw_p74 : lw_okq (⟨"QuietLineModel", "laysFrames", "()I"⟩, 44) := ⟨⟨by decide +kernel, by decide +kernel⟩, List.mem_of_getElem? (i := 1080) (by decide +kernel), List.mem_of_getElem? (i := 1572) (by decide +kernel), List.mem_of_getElem? (i := 1573) (by decide +kernel)⟩
theorem lw_p75 : lw_okq (⟨"QuietLineModel", "frameAt", "(I)I"⟩, 44) := ⟨⟨by decide +kernel, by decide +kernel⟩, List.mem_of_getElem? (i := 1080) (by decide +kernel), List.mem_of_getElem? (i := 1576) (by decide +kernel), List.mem_of_getElem? (i := 1577) (by decide +kernel)⟩
theorem lw_p76 : lw_okq (⟨"QuietLineModel", "thereAll", "()I"⟩, 44) := ⟨⟨by decide +kernel, by decide +kernel⟩, List.mem_of_getElem? (i := 1080) (by decide +kernel), List.mem_of_getElem? (i := 1589) (by decide +kernel), List.mem_of_getElem? (i := 1590) (by decide +kernel)⟩
theorem lw_p77 : lw_okq (⟨"QuietLineModel", "takeBack", "()V"⟩, 44) := ⟨⟨by decide +kernel, by decide +kernel⟩, List.mem_of_getElem? (i := 1080) (by decide +kernel), List.mem_of_getElem? (i := 1593) (by decide +kernel), List.mem_of_getElem? (i := 1594) (by decide +kernel)⟩
theorem lw_p78 : lw_okq (⟨"QuietLineModel", "sumOf", "(I)I"⟩, 44) := ⟨⟨by decide +kernel, by decide +kernel⟩, List.mem_of_getElem? (i := 1080) (by decide +kernel), List.mem_of_getElem? (i := 1610) (by decide +kernel), List.mem_of_getElem? (i := 1611) (by decide +kernel)⟩
theorem lw_p79 : lw_okq (⟨"QuietLineModel", "mostLost", "()I"⟩, 44) := ⟨⟨by decide +kernel, by decide +kernel⟩, List.mem_of_getElem? (i := 1080) (by decide +kernel), List.mem_of_getElem? (i := 1630) (by decide +kernel), List.mem_of_getElem? (i := 1631) (by decide +kernel)⟩
def lw_privs_5 : List (MethodName × Nat) := [(⟨"QuietLineModel", "readsBytes", "(I)V"⟩, 44), (⟨"QuietLineModel", "readsByte", "(I)V"⟩, 44), (⟨"QuietLineModel", "marks", "()V"⟩, 44), (⟨"QuietLineModel", "frameIs", "(Z)I"⟩, 44), (⟨"QuietLineModel", "checkLong", "()I"⟩, 44), (⟨"QuietLineModel", "event", "(IIIII)V"⟩, 44), (⟨"QuietLineModel", "partLong", "()I"⟩, 44), (⟨"QuietLineModel", "takesFrame", "()I"⟩, 44), (⟨"QuietLineModel", "torn", "(I)V"⟩, 44), (⟨"QuietLineModel", "ends", "(I)I"⟩, 44), (⟨"QuietLineModel", "laysFrames", "()I"⟩, 44), (⟨"QuietLineModel", "frameAt", "(I)I"⟩, 44), (⟨"QuietLineModel", "thereAll", "()I"⟩, 44), (⟨"QuietLineModel", "takeBack", "()V"⟩, 44), (⟨"QuietLineModel", "sumOf", "(I)I"⟩, 44), (⟨"QuietLineModel", "mostLost", "()I"⟩, 44)]
theorem lw_r5 : ∀ q ∈ lw_privs_5, lw_okq q := List.forall_mem_cons.mpr ⟨lw_p64, List.forall_mem_cons.mpr ⟨lw_p65, List.forall_mem_cons.mpr ⟨lw_p66, List.forall_mem_cons.mpr ⟨lw_p67, List.forall_mem_cons.mpr ⟨lw_p68, List.forall_mem_cons.mpr ⟨lw_p69, List.forall_mem_cons.mpr ⟨lw_p70, List.forall_mem_cons.mpr ⟨lw_p71, List.forall_mem_cons.mpr ⟨lw_p72, List.forall_mem_cons.mpr ⟨lw_p73, List.forall_mem_cons.mpr ⟨lw_p74, List.forall_mem_cons.mpr ⟨lw_p75, List.forall_mem_cons.mpr ⟨lw_p76, List.forall_mem_cons.mpr ⟨lw_p77, List.forall_mem_cons.mpr ⟨lw_p78, List.forall_mem_cons.mpr ⟨lw_p79, fun _ h => absurd h List.not_mem_nil⟩⟩⟩⟩⟩⟩⟩⟩⟩⟩⟩⟩⟩⟩⟩⟩
theorem lw_p80 : lw_okq (⟨"QuietLineModel", "broken", "()I"⟩, 44) := ⟨⟨by decide +kernel, by decide +kernel⟩, List.mem_of_getElem? (i := 1080) (by decide +kernel), List.mem_of_getElem? (i := 1634) (by decide +kernel), List.mem_of_getElem? (i := 1635) (by decide +kernel)⟩
theorem lw_p81 : lw_okq (⟨"QuietLineModel", "longestFrame", "()I"⟩, 44) := ⟨⟨by decide +kernel, by decide +kernel⟩, List.mem_of_getElem? (i := 1080) (by decide +kernel), List.mem_of_getElem? (i := 1638) (by decide +kernel), List.mem_of_getElem? (i := 1639) (by decide +kernel)⟩
theorem lw_p82 : lw_okq (⟨"QuietLineModel", "waitingBytes", "()I"⟩, 44) := ⟨⟨by decide +kernel, by decide +kernel⟩, List.mem_of_getElem? (i := 1080) (by decide +kernel), List.mem_of_getElem? (i := 1642) (by decide +kernel), List.mem_of_getElem? (i := 1643) (by decide +kernel)⟩
theorem lw_p83 : lw_okq (⟨"QuietLineModel", "greatestByte", "()I"⟩, 44) := ⟨⟨by decide +kernel, by decide +kernel⟩, List.mem_of_getElem? (i := 1080) (by decide +kernel), List.mem_of_getElem? (i := 1646) (by decide +kernel), List.mem_of_getElem? (i := 1647) (by decide +kernel)⟩
def lw_privs_6 : List (MethodName × Nat) := [(⟨"QuietLineModel", "broken", "()I"⟩, 44), (⟨"QuietLineModel", "longestFrame", "()I"⟩, 44), (⟨"QuietLineModel", "waitingBytes", "()I"⟩, 44), (⟨"QuietLineModel", "greatestByte", "()I"⟩, 44)]
theorem lw_r6 : ∀ q ∈ lw_privs_6, lw_okq q := List.forall_mem_cons.mpr ⟨lw_p80, List.forall_mem_cons.mpr ⟨lw_p81, List.forall_mem_cons.mpr ⟨lw_p82, List.forall_mem_cons.mpr ⟨lw_p83, fun _ h => absurd h List.not_mem_nil⟩⟩⟩⟩
def lw_privs : List (MethodName × Nat) := lw_privs_1 ++ (lw_privs_2 ++ (lw_privs_3 ++ (lw_privs_4 ++ (lw_privs_5 ++ (lw_privs_6)))))
def lw_tbl : List Cond := k2_sels lw_privs ++ tables_1
theorem lw_privs_ok : ∀ q ∈ lw_privs, lw_okq q := by
  show ∀ q ∈ lw_privs_1 ++ (lw_privs_2 ++ (lw_privs_3 ++ (lw_privs_4 ++ (lw_privs_5 ++ (lw_privs_6))))), lw_okq q
  exact List.forall_mem_append.mpr ⟨lw_r1, List.forall_mem_append.mpr ⟨lw_r2, List.forall_mem_append.mpr ⟨lw_r3, List.forall_mem_append.mpr ⟨lw_r4, List.forall_mem_append.mpr ⟨lw_r5, lw_r6⟩⟩⟩⟩⟩

/-! ===== BEGIN words of one list among another's, by their places ===== -/
theorem goodIn_r {big : List Cond} (ws : List Cond) (ps : List Nat) (hp : ws = ps.filterMap (fun i => big[i]?)) (h : ws.all goodWord = true) : GoodIn big ws := by
  intro w hw
  have h1 := List.all_eq_true.mp h w hw
  rw [hp] at hw
  obtain ⟨i, -, hi⟩ := List.mem_filterMap.mp hw
  have hm : w ∈ big := by first | exact List.mem_of_getElem? hi | exact List.getElem?_mem hi
  exact ⟨hm, good_of_word h1⟩
theorem goodIn_app {big a b : List Cond} (ha : GoodIn big a) (hb : GoodIn big b) : GoodIn big (a ++ b) := fun w h => (List.mem_append.mp h).elim (ha w) (hb w)
theorem goodIn_ca {big a b : List Cond} {c : Cond} (ha : GoodIn big (c :: a)) (hb : GoodIn big b) : GoodIn big (c :: (a ++ b)) := fun w h => (List.mem_cons.mp h).elim (fun e => ha w (List.mem_cons.mpr (Or.inl e))) (fun h => (List.mem_append.mp h).elim (fun h => ha w (List.mem_cons.mpr (Or.inr h))) (hb w))
theorem goodIn_sub {big ws : List Cond} (hm : ∀ w ∈ ws, w ∈ big) (h : ws.all goodWord = true) : GoodIn big ws := fun w hw => ⟨hm w hw, good_of_word (List.all_eq_true.mp h w hw)⟩
/-! ===== END ===== -/


/-! ===== BEGIN printed: names, fields, word lists, decode rows ===== -/
def RX0 : String := "QuietLine$Draws"
def TX0 : u_T := fun k => match k with
  | _ => ("QuietLine$Draws", "seed", "J", false)
def tyX0 : Nat → FieldType := fun k => match k with
  | _ => .long
abbrev wsX00 : List Cond := u_ws RX0 TX0 1
theorem nmX0 : ∀ a, a < 1 → ∀ b, b < 1 → a ≠ b → (TX0 a).2.1 ≠ (TX0 b).2.1 := by decide +kernel
theorem tyX0_ok : ∀ k, k < 1 → parseFieldDescriptor (TX0 k).2.2.1 = some (tyX0 k) := by decide +kernel
abbrev cX0_init : ByteArray := prog_2_method_1_code
def yX0_init : MethodName := ⟨RX0, "<init>", "()V"⟩
abbrev cX0_draw : ByteArray := prog_2_method_2_code
def yX0_draw : MethodName := ⟨RX0, "draw", "(I)I"⟩
def RX1 : String := "QuietLine$Framing"
def TX1 : u_T := fun k => match k with
  | 0 => ("QuietLine$Framing", "rules", "LQuietLine$Rules;", true)
  | 1 => ("QuietLine$Framing", "plain", "LQuietLine$Row;", true)
  | 2 => ("QuietLine$Framing", "packed", "LQuietLine$Row;", true)
  | 3 => ("QuietLine$Framing", "head", "I", false)
  | 4 => ("QuietLine$Framing", "part", "I", false)
  | _ => ("QuietLine$Framing", "tried", "LQuietLine$Row;", true)
def tyX1 : Nat → FieldType := fun k => match k with
  | 0 => .object "QuietLine$Rules"
  | 1 => .object "QuietLine$Row"
  | 2 => .object "QuietLine$Row"
  | 3 => .int
  | 4 => .int
  | _ => .object "QuietLine$Row"
abbrev wsX10 : List Cond := u_ws RX1 TX1 6
theorem nmX1 : ∀ a, a < 6 → ∀ b, b < 6 → a ≠ b → (TX1 a).2.1 ≠ (TX1 b).2.1 := by decide +kernel
theorem tyX1_ok : ∀ k, k < 6 → parseFieldDescriptor (TX1 k).2.2.1 = some (tyX1 k) := by decide +kernel
abbrev cX1_init : ByteArray := prog_3_method_1_code
def yX1_init : MethodName := ⟨RX1, "<init>", "()V"⟩
abbrev cX1_make : ByteArray := prog_3_method_2_code
def yX1_make : MethodName := ⟨RX1, "make", "(LQuietLine$Port;I)I"⟩
abbrev cX1_checkOf : ByteArray := prog_3_method_3_code
def yX1_checkOf : MethodName := ⟨RX1, "checkOf", "(I)I"⟩
abbrev cX1_crcStep : ByteArray := prog_3_method_4_code
def yX1_crcStep : MethodName := ⟨RX1, "crcStep", "(I)I"⟩
abbrev cX1_judge : ByteArray := prog_3_method_5_code
def yX1_judge : MethodName := ⟨RX1, "judge", "(LQuietLine$Row;II)I"⟩
abbrev cX1_blindFlips : ByteArray := prog_3_method_6_code
def yX1_blindFlips : MethodName := ⟨RX1, "blindFlips", "(LQuietLine$Row;II)I"⟩
abbrev cX1_blindCodes : ByteArray := prog_3_method_7_code
def yX1_blindCodes : MethodName := ⟨RX1, "blindCodes", "(II)I"⟩
def RX2 : String := "QuietLine$Mail"
def TX2 : u_T := fun k => match k with
  | 0 => ("QuietLine$Mail", "bytes", "LQuietLine$Row;", true)
  | 1 => ("QuietLine$Mail", "lengths", "LQuietLine$Row;", true)
  | _ => ("QuietLine$Mail", "frames", "LQuietLine$Row;", true)
def tyX2 : Nat → FieldType := fun k => match k with
  | 0 => .object "QuietLine$Row"
  | 1 => .object "QuietLine$Row"
  | _ => .object "QuietLine$Row"
abbrev wsX20 : List Cond := u_ws RX2 TX2 3
theorem nmX2 : ∀ a, a < 3 → ∀ b, b < 3 → a ≠ b → (TX2 a).2.1 ≠ (TX2 b).2.1 := by decide +kernel
theorem tyX2_ok : ∀ k, k < 3 → parseFieldDescriptor (TX2 k).2.2.1 = some (tyX2 k) := by decide +kernel
abbrev cX2_init : ByteArray := prog_4_method_1_code
def yX2_init : MethodName := ⟨RX2, "<init>", "()V"⟩
abbrev cX2_many : ByteArray := prog_4_method_2_code
def yX2_many : MethodName := ⟨RX2, "many", "()I"⟩
abbrev cX2_firstLength : ByteArray := prog_4_method_3_code
def yX2_firstLength : MethodName := ⟨RX2, "firstLength", "()I"⟩
abbrev cX2_firstFrames : ByteArray := prog_4_method_4_code
def yX2_firstFrames : MethodName := ⟨RX2, "firstFrames", "()I"⟩
abbrev cX2_push : ByteArray := prog_4_method_5_code
def yX2_push : MethodName := ⟨RX2, "push", "(LQuietLine$Row;I)V"⟩
abbrev cX2_dropFirst : ByteArray := prog_4_method_6_code
def yX2_dropFirst : MethodName := ⟨RX2, "dropFirst", "()V"⟩
abbrev cX2_clear : ByteArray := prog_4_method_7_code
def yX2_clear : MethodName := ⟨RX2, "clear", "()V"⟩
abbrev cX2_copyFrom : ByteArray := prog_4_method_8_code
def yX2_copyFrom : MethodName := ⟨RX2, "copyFrom", "(LQuietLine$Mail;)V"⟩
def RX3 : String := "QuietLine$Past"
def TX3 : u_T := fun k => match k with
  | 0 => ("QuietLine$Past", "many", "I", false)
  | 1 => ("QuietLine$Past", "states", "[LQuietLine$State;", true)
  | _ => ("QuietLine$Past", "next", "I", false)
def tyX3 : Nat → FieldType := fun k => match k with
  | 0 => .int
  | 1 => .array (.object "QuietLine$State")
  | _ => .int
abbrev wsX30 : List Cond := u_ws RX3 TX3 3
theorem nmX3 : ∀ a, a < 3 → ∀ b, b < 3 → a ≠ b → (TX3 a).2.1 ≠ (TX3 b).2.1 := by decide +kernel
theorem tyX3_ok : ∀ k, k < 3 → parseFieldDescriptor (TX3 k).2.2.1 = some (tyX3 k) := by decide +kernel
abbrev cX3_init : ByteArray := prog_5_method_1_code
def yX3_init : MethodName := ⟨RX3, "<init>", "()V"⟩
abbrev cX3_forget : ByteArray := prog_5_method_2_code
def yX3_forget : MethodName := ⟨RX3, "forget", "()V"⟩
abbrev cX3_stage : ByteArray := prog_5_method_3_code
def yX3_stage : MethodName := ⟨RX3, "stage", "(LQuietLine$State;)V"⟩
abbrev cX3_commit : ByteArray := prog_5_method_4_code
def yX3_commit : MethodName := ⟨RX3, "commit", "()V"⟩
abbrev cX3_swapBack : ByteArray := prog_5_method_5_code
def yX3_swapBack : MethodName := ⟨RX3, "swapBack", "(LQuietLine$State;)LQuietLine$State;"⟩
def RX4 : String := "QuietLine$Port"
def TX4 : u_T := fun k => match k with
  | 0 => ("QuietLine$Port", "waits", "LQuietLine$Mail;", true)
  | 1 => ("QuietLine$Port", "there", "LQuietLine$Mail;", true)
  | 2 => ("QuietLine$Port", "built", "LQuietLine$Row;", true)
  | 3 => ("QuietLine$Port", "told", "I", false)
  | 4 => ("QuietLine$Port", "credits", "I", false)
  | 5 => ("QuietLine$Port", "gone", "I", false)
  | 6 => ("QuietLine$Port", "number", "I", false)
  | 7 => ("QuietLine$Port", "expected", "I", false)
  | 8 => ("QuietLine$Port", "lost", "I", false)
  | 9 => ("QuietLine$Port", "torn", "I", false)
  | 10 => ("QuietLine$Port", "frames", "I", false)
  | _ => ("QuietLine$Port", "taken", "I", false)
def tyX4 : Nat → FieldType := fun k => match k with
  | 0 => .object "QuietLine$Mail"
  | 1 => .object "QuietLine$Mail"
  | 2 => .object "QuietLine$Row"
  | 3 => .int
  | 4 => .int
  | 5 => .int
  | 6 => .int
  | 7 => .int
  | 8 => .int
  | 9 => .int
  | 10 => .int
  | _ => .int
abbrev wsX40 : List Cond := u_ws RX4 TX4 12
theorem nmX4 : ∀ a, a < 12 → ∀ b, b < 12 → a ≠ b → (TX4 a).2.1 ≠ (TX4 b).2.1 := by decide +kernel
theorem tyX4_ok : ∀ k, k < 12 → parseFieldDescriptor (TX4 k).2.2.1 = some (tyX4 k) := by decide +kernel
abbrev cX4_init : ByteArray := prog_6_method_1_code
def yX4_init : MethodName := ⟨RX4, "<init>", "()V"⟩
abbrev cX4_reset : ByteArray := prog_6_method_2_code
def yX4_reset : MethodName := ⟨RX4, "reset", "(I)V"⟩
abbrev cX4_copyFrom : ByteArray := prog_6_method_3_code
def yX4_copyFrom : MethodName := ⟨RX4, "copyFrom", "(LQuietLine$Port;)V"⟩
abbrev cX4_frameWasPut : ByteArray := prog_6_method_4_code
def yX4_frameWasPut : MethodName := ⟨RX4, "frameWasPut", "(I)V"⟩
abbrev cX4_accept : ByteArray := prog_6_method_5_code
def yX4_accept : MethodName := ⟨RX4, "accept", "(LQuietLine$Row;I)I"⟩
abbrev cX4_tear : ByteArray := prog_6_method_6_code
def yX4_tear : MethodName := ⟨RX4, "tear", "()V"⟩
abbrev cX4_giveInto : ByteArray := prog_6_method_7_code
def yX4_giveInto : MethodName := ⟨RX4, "giveInto", "(LQuietLine$Row;)V"⟩
def RX5 : String := "QuietLine$Row"
def TX5 : u_T := fun k => match k with
  | 0 => ("QuietLine$Row", "limit", "I", true)
  | 1 => ("QuietLine$Row", "cells", "[I", false)
  | _ => ("QuietLine$Row", "size", "I", false)
def tyX5 : Nat → FieldType := fun k => match k with
  | 0 => .int
  | 1 => .array .int
  | _ => .int
abbrev wsX50 : List Cond := u_ws RX5 TX5 3
theorem nmX5 : ∀ a, a < 3 → ∀ b, b < 3 → a ≠ b → (TX5 a).2.1 ≠ (TX5 b).2.1 := by decide +kernel
theorem tyX5_ok : ∀ k, k < 3 → parseFieldDescriptor (TX5 k).2.2.1 = some (tyX5 k) := by decide +kernel
abbrev cX5_init : ByteArray := prog_7_method_1_code
def yX5_init : MethodName := ⟨RX5, "<init>", "(I)V"⟩
abbrev cX5_has : ByteArray := prog_7_method_2_code
def yX5_has : MethodName := ⟨RX5, "has", "(I)Z"⟩
abbrev cX5_at : ByteArray := prog_7_method_3_code
def yX5_at : MethodName := ⟨RX5, "at", "(I)I"⟩
abbrev cX5_set : ByteArray := prog_7_method_4_code
def yX5_set : MethodName := ⟨RX5, "set", "(II)V"⟩
abbrev cX5_clear : ByteArray := prog_7_method_5_code
def yX5_clear : MethodName := ⟨RX5, "clear", "()V"⟩
abbrev cX5_add : ByteArray := prog_7_method_6_code
def yX5_add : MethodName := ⟨RX5, "add", "(I)V"⟩
abbrev cX5_addAll : ByteArray := prog_7_method_7_code
def yX5_addAll : MethodName := ⟨RX5, "addAll", "(LQuietLine$Row;II)V"⟩
abbrev cX5_makeRoom : ByteArray := prog_7_method_8_code
def yX5_makeRoom : MethodName := ⟨RX5, "makeRoom", "(I)V"⟩
abbrev cX5_insertAt : ByteArray := prog_7_method_9_code
def yX5_insertAt : MethodName := ⟨RX5, "insertAt", "(II)V"⟩
abbrev cX5_removeAt : ByteArray := prog_7_method_10_code
def yX5_removeAt : MethodName := ⟨RX5, "removeAt", "(I)V"⟩
abbrev cX5_dropFirst : ByteArray := prog_7_method_11_code
def yX5_dropFirst : MethodName := ⟨RX5, "dropFirst", "(I)V"⟩
abbrev cX5_copyFrom : ByteArray := prog_7_method_12_code
def yX5_copyFrom : MethodName := ⟨RX5, "copyFrom", "(LQuietLine$Row;)V"⟩
abbrev cX5_greatest : ByteArray := prog_7_method_13_code
def yX5_greatest : MethodName := ⟨RX5, "greatest", "()I"⟩
def RX6 : String := "QuietLine$Rules"
def TX6 : u_T := fun k => match k with
  | 0 => ("QuietLine$Rules", "stuffing", "LQuietLine$Stuffing;", true)
  | 1 => ("QuietLine$Rules", "credits", "[I", true)
  | 2 => ("QuietLine$Rules", "way", "I", false)
  | 3 => ("QuietLine$Rules", "check", "I", false)
  | 4 => ("QuietLine$Rules", "size", "I", false)
  | _ => ("QuietLine$Rules", "ports", "I", false)
def tyX6 : Nat → FieldType := fun k => match k with
  | 0 => .object "QuietLine$Stuffing"
  | 1 => .array .int
  | 2 => .int
  | 3 => .int
  | 4 => .int
  | _ => .int
abbrev wsX60 : List Cond := u_ws RX6 TX6 6
theorem nmX6 : ∀ a, a < 6 → ∀ b, b < 6 → a ≠ b → (TX6 a).2.1 ≠ (TX6 b).2.1 := by decide +kernel
theorem tyX6_ok : ∀ k, k < 6 → parseFieldDescriptor (TX6 k).2.2.1 = some (tyX6 k) := by decide +kernel
abbrev cX6_init : ByteArray := prog_8_method_1_code
def yX6_init : MethodName := ⟨RX6, "<init>", "()V"⟩
abbrev cX6_forget : ByteArray := prog_8_method_2_code
def yX6_forget : MethodName := ⟨RX6, "forget", "()V"⟩
abbrev cX6_copyFrom : ByteArray := prog_8_method_3_code
def yX6_copyFrom : MethodName := ⟨RX6, "copyFrom", "(LQuietLine$Rules;)V"⟩
abbrev cX6_addPort : ByteArray := prog_8_method_4_code
def yX6_addPort : MethodName := ⟨RX6, "addPort", "(I)V"⟩
abbrev cX6_checkBytes : ByteArray := prog_8_method_5_code
def yX6_checkBytes : MethodName := ⟨RX6, "checkBytes", "()I"⟩
abbrev cX6_widestFrame : ByteArray := prog_8_method_6_code
def yX6_widestFrame : MethodName := ⟨RX6, "widestFrame", "(I)I"⟩
def RX7 : String := "QuietLine$State"
def TX7 : u_T := fun k => match k with
  | 0 => ("QuietLine$State", "wire", "LQuietLine$Row;", true)
  | 1 => ("QuietLine$State", "reader", "LQuietLine$Row;", true)
  | 2 => ("QuietLine$State", "events", "LQuietLine$Row;", true)
  | 3 => ("QuietLine$State", "came", "I", false)
  | 4 => ("QuietLine$State", "picked", "I", false)
  | 5 => ("QuietLine$State", "ports", "[LQuietLine$Port;", true)
  | 6 => ("QuietLine$State", "portCount", "I", false)
  | _ => ("QuietLine$State", "readerOver", "Z", false)
def tyX7 : Nat → FieldType := fun k => match k with
  | 0 => .object "QuietLine$Row"
  | 1 => .object "QuietLine$Row"
  | 2 => .object "QuietLine$Row"
  | 3 => .int
  | 4 => .int
  | 5 => .array (.object "QuietLine$Port")
  | 6 => .int
  | _ => .boolean
abbrev wsX70 : List Cond := u_ws RX7 TX7 8
theorem nmX7 : ∀ a, a < 8 → ∀ b, b < 8 → a ≠ b → (TX7 a).2.1 ≠ (TX7 b).2.1 := by decide +kernel
theorem tyX7_ok : ∀ k, k < 8 → parseFieldDescriptor (TX7 k).2.2.1 = some (tyX7 k) := by decide +kernel
abbrev cX7_init : ByteArray := prog_9_method_1_code
def yX7_init : MethodName := ⟨RX7, "<init>", "()V"⟩
abbrev cX7_reset : ByteArray := prog_9_method_2_code
def yX7_reset : MethodName := ⟨RX7, "reset", "(LQuietLine$Rules;)V"⟩
abbrev cX7_copyFrom : ByteArray := prog_9_method_3_code
def yX7_copyFrom : MethodName := ⟨RX7, "copyFrom", "(LQuietLine$State;)V"⟩
abbrev cX7_portAt : ByteArray := prog_9_method_4_code
def yX7_portAt : MethodName := ⟨RX7, "portAt", "(I)LQuietLine$Port;"⟩
abbrev cX7_pick : ByteArray := prog_9_method_5_code
def yX7_pick : MethodName := ⟨RX7, "pick", "()I"⟩
abbrev cX7_putFrames : ByteArray := prog_9_method_6_code
def yX7_putFrames : MethodName := ⟨RX7, "putFrames", "(ILQuietLine$Framing;)I"⟩
abbrev cX7_putFrame : ByteArray := prog_9_method_7_code
def yX7_putFrame : MethodName := ⟨RX7, "putFrame", "(LQuietLine$Framing;)Z"⟩
abbrev cX7_disturb : ByteArray := prog_9_method_8_code
def yX7_disturb : MethodName := ⟨RX7, "disturb", "(LQuietLine$Draws;)Z"⟩
abbrev cX7_readBytes : ByteArray := prog_9_method_9_code
def yX7_readBytes : MethodName := ⟨RX7, "readBytes", "(ILQuietLine$Framing;)I"⟩
abbrev cX7_readMark : ByteArray := prog_9_method_10_code
def yX7_readMark : MethodName := ⟨RX7, "readMark", "(LQuietLine$Framing;)V"⟩
abbrev cX7_messagesThere : ByteArray := prog_9_method_11_code
def yX7_messagesThere : MethodName := ⟨RX7, "messagesThere", "()I"⟩
abbrev cX7_messagesWaiting : ByteArray := prog_9_method_12_code
def yX7_messagesWaiting : MethodName := ⟨RX7, "messagesWaiting", "()I"⟩
abbrev cX7_bytesWaiting : ByteArray := prog_9_method_13_code
def yX7_bytesWaiting : MethodName := ⟨RX7, "bytesWaiting", "()I"⟩
abbrev cX7_lostInAll : ByteArray := prog_9_method_14_code
def yX7_lostInAll : MethodName := ⟨RX7, "lostInAll", "()I"⟩
abbrev cX7_tornInAll : ByteArray := prog_9_method_15_code
def yX7_tornInAll : MethodName := ⟨RX7, "tornInAll", "()I"⟩
abbrev cX7_portWithMostLost : ByteArray := prog_9_method_16_code
def yX7_portWithMostLost : MethodName := ⟨RX7, "portWithMostLost", "()I"⟩
abbrev cX7_eventsUnreadable : ByteArray := prog_9_method_17_code
def yX7_eventsUnreadable : MethodName := ⟨RX7, "eventsUnreadable", "()I"⟩
def RX8 : String := "QuietLine$Stuffing"
def TX8 : u_T := fun k => match k with
  | 0 => ("QuietLine$Stuffing", "longest", "I", false)
  | _ => ("QuietLine$Stuffing", "pairs", "I", false)
def tyX8 : Nat → FieldType := fun k => match k with
  | 0 => .int
  | _ => .int
abbrev wsX80 : List Cond := u_ws RX8 TX8 2
theorem nmX8 : ∀ a, a < 2 → ∀ b, b < 2 → a ≠ b → (TX8 a).2.1 ≠ (TX8 b).2.1 := by decide +kernel
theorem tyX8_ok : ∀ k, k < 2 → parseFieldDescriptor (TX8 k).2.2.1 = some (tyX8 k) := by decide +kernel
abbrev cX8_init : ByteArray := prog_10_method_1_code
def yX8_init : MethodName := ⟨RX8, "<init>", "()V"⟩
abbrev cX8_widest : ByteArray := prog_10_method_2_code
def yX8_widest : MethodName := ⟨RX8, "widest", "(I)I"⟩
abbrev cX8_pack : ByteArray := prog_10_method_3_code
def yX8_pack : MethodName := ⟨RX8, "pack", "(LQuietLine$Row;ILQuietLine$Row;)V"⟩
abbrev cX8_runFrom : ByteArray := prog_10_method_4_code
def yX8_runFrom : MethodName := ⟨RX8, "runFrom", "(LQuietLine$Row;I)I"⟩
abbrev cX8_codeOf : ByteArray := prog_10_method_5_code
def yX8_codeOf : MethodName := ⟨RX8, "codeOf", "(LQuietLine$Row;III)I"⟩
abbrev cX8_reduce : ByteArray := prog_10_method_6_code
def yX8_reduce : MethodName := ⟨RX8, "reduce", "(LQuietLine$Row;I)V"⟩
abbrev cX8_unpack : ByteArray := prog_10_method_7_code
def yX8_unpack : MethodName := ⟨RX8, "unpack", "(LQuietLine$Row;IIILQuietLine$Row;)I"⟩
abbrev cX8_runOf : ByteArray := prog_10_method_8_code
def yX8_runOf : MethodName := ⟨RX8, "runOf", "(III)I"⟩
abbrev cX8_isTail : ByteArray := prog_10_method_9_code
def yX8_isTail : MethodName := ⟨RX8, "isTail", "(III)Z"⟩
abbrev cX8_zerosBehind : ByteArray := prog_10_method_10_code
def yX8_zerosBehind : MethodName := ⟨RX8, "zerosBehind", "(IZ)I"⟩
def RX9 : String := "QuietLine$Tape"
def TX9 : u_T := fun k => match k with
  | 0 => ("QuietLine$Tape", "bytes", "LQuietLine$Row;", true)
  | 1 => ("QuietLine$Tape", "told", "LQuietLine$Rules;", true)
  | 2 => ("QuietLine$Tape", "kind", "I", false)
  | 3 => ("QuietLine$Tape", "from", "I", false)
  | 4 => ("QuietLine$Tape", "to", "I", false)
  | _ => ("QuietLine$Tape", "sortsSeen", "I", false)
def tyX9 : Nat → FieldType := fun k => match k with
  | 0 => .object "QuietLine$Row"
  | 1 => .object "QuietLine$Rules"
  | 2 => .int
  | 3 => .int
  | 4 => .int
  | _ => .int
abbrev wsX90 : List Cond := u_ws RX9 TX9 6
theorem nmX9 : ∀ a, a < 6 → ∀ b, b < 6 → a ≠ b → (TX9 a).2.1 ≠ (TX9 b).2.1 := by decide +kernel
theorem tyX9_ok : ∀ k, k < 6 → parseFieldDescriptor (TX9 k).2.2.1 = some (tyX9 k) := by decide +kernel
abbrev cX9_init : ByteArray := prog_11_method_1_code
def yX9_init : MethodName := ⟨RX9, "<init>", "()V"⟩
abbrev cX9_firstFault : ByteArray := prog_11_method_2_code
def yX9_firstFault : MethodName := ⟨RX9, "firstFault", "()I"⟩
abbrev cX9_nextPart : ByteArray := prog_11_method_3_code
def yX9_nextPart : MethodName := ⟨RX9, "nextPart", "()V"⟩
abbrev cX9_endOf : ByteArray := prog_11_method_4_code
def yX9_endOf : MethodName := ⟨RX9, "endOf", "(Z)I"⟩
abbrev cX9_isLetter : ByteArray := prog_11_method_5_code
def yX9_isLetter : MethodName := ⟨RX9, "isLetter", "(I)Z"⟩
abbrev cX9_isDigit : ByteArray := prog_11_method_6_code
def yX9_isDigit : MethodName := ⟨RX9, "isDigit", "(I)Z"⟩
abbrev cX9_sortOfWord : ByteArray := prog_11_method_7_code
def yX9_sortOfWord : MethodName := ⟨RX9, "sortOfWord", "()I"⟩
abbrev cX9_isWord : ByteArray := prog_11_method_8_code
def yX9_isWord : MethodName := ⟨RX9, "isWord", "(Ljava/lang/String;)Z"⟩
abbrev cX9_mayStand : ByteArray := prog_11_method_9_code
def yX9_mayStand : MethodName := ⟨RX9, "mayStand", "(I)Z"⟩
abbrev cX9_tell : ByteArray := prog_11_method_10_code
def yX9_tell : MethodName := ⟨RX9, "tell", "(I)Z"⟩
abbrev cX9_choice : ByteArray := prog_11_method_11_code
def yX9_choice : MethodName := ⟨RX9, "choice", "(Ljava/lang/String;Ljava/lang/String;Ljava/lang/String;)I"⟩
abbrev cX9_number : ByteArray := prog_11_method_12_code
def yX9_number : MethodName := ⟨RX9, "number", "(II)I"⟩
def RX10 : String := "QuietLine$Walk"
def TX10 : u_T := fun k => match k with
  | 0 => ("QuietLine$Walk", "from", "I", false)
  | 1 => ("QuietLine$Walk", "length", "I", false)
  | _ => ("QuietLine$Walk", "next", "I", false)
def tyX10 : Nat → FieldType := fun k => match k with
  | 0 => .int
  | 1 => .int
  | _ => .int
abbrev wsX100 : List Cond := u_ws RX10 TX10 3
theorem nmX10 : ∀ a, a < 3 → ∀ b, b < 3 → a ≠ b → (TX10 a).2.1 ≠ (TX10 b).2.1 := by decide +kernel
theorem tyX10_ok : ∀ k, k < 3 → parseFieldDescriptor (TX10 k).2.2.1 = some (tyX10 k) := by decide +kernel
abbrev cX10_init : ByteArray := prog_12_method_1_code
def yX10_init : MethodName := ⟨RX10, "<init>", "()V"⟩
abbrev cX10_begin : ByteArray := prog_12_method_2_code
def yX10_begin : MethodName := ⟨RX10, "begin", "()V"⟩
abbrev cX10_step : ByteArray := prog_12_method_3_code
def yX10_step : MethodName := ⟨RX10, "step", "(LQuietLine$Row;)Z"⟩
abbrev cX10_find : ByteArray := prog_12_method_4_code
def yX10_find : MethodName := ⟨RX10, "find", "(LQuietLine$Row;I)Z"⟩
def RX11 : String := "QuietLine"
def TX11 : u_T := fun k => match k with
  | 0 => ("QuietLine", "tape", "LQuietLine$Tape;", true)
  | 1 => ("QuietLine", "inBox", "LQuietLine$Row;", true)
  | 2 => ("QuietLine", "inHand", "LQuietLine$Row;", true)
  | 3 => ("QuietLine", "framing", "LQuietLine$Framing;", true)
  | 4 => ("QuietLine", "walk", "LQuietLine$Walk;", true)
  | 5 => ("QuietLine", "draws", "LQuietLine$Draws;", true)
  | 6 => ("QuietLine", "past", "LQuietLine$Past;", true)
  | 7 => ("QuietLine", "spare", "LQuietLine$State;", true)
  | 8 => ("QuietLine", "kept", "LQuietLine$State;", true)
  | 9 => ("QuietLine", "refused", "[I", true)
  | 10 => ("QuietLine", "now", "LQuietLine$State;", false)
  | 11 => ("QuietLine", "hasLine", "Z", false)
  | _ => ("QuietLine", "hasImage", "Z", false)
def tyX11 : Nat → FieldType := fun k => match k with
  | 0 => .object "QuietLine$Tape"
  | 1 => .object "QuietLine$Row"
  | 2 => .object "QuietLine$Row"
  | 3 => .object "QuietLine$Framing"
  | 4 => .object "QuietLine$Walk"
  | 5 => .object "QuietLine$Draws"
  | 6 => .object "QuietLine$Past"
  | 7 => .object "QuietLine$State"
  | 8 => .object "QuietLine$State"
  | 9 => .array .int
  | 10 => .object "QuietLine$State"
  | 11 => .boolean
  | _ => .boolean
abbrev wsX110 : List Cond := u_ws RX11 TX11 13
theorem nmX11 : ∀ a, a < 13 → ∀ b, b < 13 → a ≠ b → (TX11 a).2.1 ≠ (TX11 b).2.1 := by decide +kernel
theorem tyX11_ok : ∀ k, k < 13 → parseFieldDescriptor (TX11 k).2.2.1 = some (tyX11 k) := by decide +kernel
abbrev cX11_init : ByteArray := prog_1_method_1_code
def yX11_init : MethodName := ⟨RX11, "<init>", "()V"⟩
abbrev cX11_feed : ByteArray := prog_1_method_2_code
def yX11_feed : MethodName := ⟨RX11, "feed", "(IIIII)I"⟩
abbrev cX11_addFour : ByteArray := prog_1_method_3_code
def yX11_addFour : MethodName := ⟨RX11, "addFour", "(I)V"⟩
abbrev cX11_end : ByteArray := prog_1_method_4_code
def yX11_end : MethodName := ⟨RX11, "end", "(I)Z"⟩
abbrev cX11_fault : ByteArray := prog_1_method_5_code
def yX11_fault : MethodName := ⟨RX11, "fault", "()I"⟩
abbrev cX11_line : ByteArray := prog_1_method_6_code
def yX11_line : MethodName := ⟨RX11, "line", "()I"⟩
abbrev cX11_rule : ByteArray := prog_1_method_7_code
def yX11_rule : MethodName := ⟨RX11, "rule", "(I)I"⟩
abbrev cX11_framesThere : ByteArray := prog_1_method_8_code
def yX11_framesThere : MethodName := ⟨RX11, "framesThere", "()I"⟩
abbrev cX11_send : ByteArray := prog_1_method_9_code
def yX11_send : MethodName := ⟨RX11, "send", "(I)I"⟩
abbrev cX11_put : ByteArray := prog_1_method_10_code
def yX11_put : MethodName := ⟨RX11, "put", "(I)I"⟩
abbrev cX11_refuse : ByteArray := prog_1_method_11_code
def yX11_refuse : MethodName := ⟨RX11, "refuse", "(I)I"⟩
abbrev cX11_byteAt : ByteArray := prog_1_method_12_code
def yX11_byteAt : MethodName := ⟨RX11, "byteAt", "(I)I"⟩
abbrev cX11_flip : ByteArray := prog_1_method_13_code
def yX11_flip : MethodName := ⟨RX11, "flip", "(II)I"⟩
abbrev cX11_isFlip : ByteArray := prog_1_method_14_code
def yX11_isFlip : MethodName := ⟨RX11, "isFlip", "(I)Z"⟩
abbrev cX11_lose : ByteArray := prog_1_method_15_code
def yX11_lose : MethodName := ⟨RX11, "lose", "(I)I"⟩
abbrev cX11_insert : ByteArray := prog_1_method_16_code
def yX11_insert : MethodName := ⟨RX11, "insert", "(II)I"⟩
abbrev cX11_noise : ByteArray := prog_1_method_17_code
def yX11_noise : MethodName := ⟨RX11, "noise", "(IJ)I"⟩
abbrev cX11_read : ByteArray := prog_1_method_18_code
def yX11_read : MethodName := ⟨RX11, "read", "(I)I"⟩
abbrev cX11_take : ByteArray := prog_1_method_19_code
def yX11_take : MethodName := ⟨RX11, "take", "(I)I"⟩
abbrev cX11_hand : ByteArray := prog_1_method_20_code
def yX11_hand : MethodName := ⟨RX11, "hand", "(I)I"⟩
abbrev cX11_renew : ByteArray := prog_1_method_21_code
def yX11_renew : MethodName := ⟨RX11, "renew", "(I)I"⟩
abbrev cX11_channel : ByteArray := prog_1_method_22_code
def yX11_channel : MethodName := ⟨RX11, "channel", "(II)I"⟩
abbrev cX11_event : ByteArray := prog_1_method_23_code
def yX11_event : MethodName := ⟨RX11, "event", "(II)I"⟩
abbrev cX11_stuff : ByteArray := prog_1_method_24_code
def yX11_stuff : MethodName := ⟨RX11, "stuff", "(I)I"⟩
abbrev cX11_unstuff : ByteArray := prog_1_method_25_code
def yX11_unstuff : MethodName := ⟨RX11, "unstuff", "(I)I"⟩
abbrev cX11_isWay : ByteArray := prog_1_method_26_code
def yX11_isWay : MethodName := ⟨RX11, "isWay", "(I)Z"⟩
abbrev cX11_box : ByteArray := prog_1_method_27_code
def yX11_box : MethodName := ⟨RX11, "box", "(I)I"⟩
abbrev cX11_shortest : ByteArray := prog_1_method_28_code
def yX11_shortest : MethodName := ⟨RX11, "shortest", "()I"⟩
abbrev cX11_stuffedLength : ByteArray := prog_1_method_29_code
def yX11_stuffedLength : MethodName := ⟨RX11, "stuffedLength", "(I)I"⟩
abbrev cX11_bound : ByteArray := prog_1_method_30_code
def yX11_bound : MethodName := ⟨RX11, "bound", "(I)I"⟩
abbrev cX11_frame : ByteArray := prog_1_method_31_code
def yX11_frame : MethodName := ⟨RX11, "frame", "(II)I"⟩
abbrev cX11_harm : ByteArray := prog_1_method_32_code
def yX11_harm : MethodName := ⟨RX11, "harm", "(II)I"⟩
abbrev cX11_blind : ByteArray := prog_1_method_33_code
def yX11_blind : MethodName := ⟨RX11, "blind", "(I)I"⟩
abbrev cX11_cost : ByteArray := prog_1_method_34_code
def yX11_cost : MethodName := ⟨RX11, "cost", "(II)I"⟩
abbrev cX11_share : ByteArray := prog_1_method_35_code
def yX11_share : MethodName := ⟨RX11, "share", "(II)I"⟩
abbrev cX11_flushed : ByteArray := prog_1_method_36_code
def yX11_flushed : MethodName := ⟨RX11, "flushed", "(I)I"⟩
abbrev cX11_undo : ByteArray := prog_1_method_37_code
def yX11_undo : MethodName := ⟨RX11, "undo", "()I"⟩
abbrev cX11_image : ByteArray := prog_1_method_38_code
def yX11_image : MethodName := ⟨RX11, "image", "()I"⟩
abbrev cX11_back : ByteArray := prog_1_method_39_code
def yX11_back : MethodName := ⟨RX11, "back", "()I"⟩
abbrev cX11_status : ByteArray := prog_1_method_40_code
def yX11_status : MethodName := ⟨RX11, "status", "(I)I"⟩
abbrev cX11_most : ByteArray := prog_1_method_41_code
def yX11_most : MethodName := ⟨RX11, "most", "(I)I"⟩
abbrev cX11_longestFrame : ByteArray := prog_1_method_42_code
def yX11_longestFrame : MethodName := ⟨RX11, "longestFrame", "()I"⟩
abbrev cX11_count : ByteArray := prog_1_method_43_code
def yX11_count : MethodName := ⟨RX11, "count", "(I)I"⟩
def RX12 : String := "QuietLineModel"
def TX12 : u_T := fun k => match k with
  | 0 => ("QuietLineModel", "thrown", "I", false)
  | 1 => ("QuietLineModel", "tape", "[I", true)
  | 2 => ("QuietLineModel", "taped", "I", false)
  | 3 => ("QuietLineModel", "at", "I", false)
  | 4 => ("QuietLineModel", "from", "I", false)
  | 5 => ("QuietLineModel", "wrong", "I", false)
  | 6 => ("QuietLineModel", "part", "I", false)
  | 7 => ("QuietLineModel", "number", "I", false)
  | 8 => ("QuietLineModel", "readWay", "I", false)
  | 9 => ("QuietLineModel", "readLongest", "I", false)
  | 10 => ("QuietLineModel", "readPairs", "I", false)
  | 11 => ("QuietLineModel", "readCheck", "I", false)
  | 12 => ("QuietLineModel", "readSize", "I", false)
  | 13 => ("QuietLineModel", "readChannels", "I", false)
  | 14 => ("QuietLineModel", "readSorts", "I", false)
  | 15 => ("QuietLineModel", "readCredits", "[I", true)
  | 16 => ("QuietLineModel", "now", "[I", true)
  | 17 => ("QuietLineModel", "isLine", "Z", false)
  | 18 => ("QuietLineModel", "way", "I", false)
  | 19 => ("QuietLineModel", "longest", "I", false)
  | 20 => ("QuietLineModel", "pairs", "I", false)
  | 21 => ("QuietLineModel", "check", "I", false)
  | 22 => ("QuietLineModel", "size", "I", false)
  | 23 => ("QuietLineModel", "channels", "I", false)
  | 24 => ("QuietLineModel", "told", "[I", true)
  | 25 => ("QuietLineModel", "plain", "[I", true)
  | 26 => ("QuietLineModel", "plainMany", "I", false)
  | 27 => ("QuietLineModel", "stuffed", "[I", true)
  | 28 => ("QuietLineModel", "stuffedMany", "I", false)
  | 29 => ("QuietLineModel", "lastCode", "I", false)
  | 30 => ("QuietLineModel", "box", "[I", true)
  | 31 => ("QuietLineModel", "boxed", "I", false)
  | 32 => ("QuietLineModel", "were", "[I", true)
  | 33 => ("QuietLineModel", "acts", "I", false)
  | 34 => ("QuietLineModel", "aside", "[I", true)
  | 35 => ("QuietLineModel", "refused", "[I", true)
  | 36 => ("QuietLineModel", "draws", "J", false)
  | 37 => ("QuietLineModel", "hand", "[I", true)
  | 38 => ("QuietLineModel", "handed", "I", false)
  | 39 => ("QuietLineModel", "begins", "[I", true)
  | 40 => ("QuietLineModel", "ends", "[I", true)
  | 41 => ("QuietLineModel", "frames", "I", false)
  | 42 => ("QuietLineModel", "imaged", "[I", true)
  | _ => ("QuietLineModel", "hasImage", "Z", false)
def tyX12 : Nat → FieldType := fun k => match k with
  | 0 => .int
  | 1 => .array .int
  | 2 => .int
  | 3 => .int
  | 4 => .int
  | 5 => .int
  | 6 => .int
  | 7 => .int
  | 8 => .int
  | 9 => .int
  | 10 => .int
  | 11 => .int
  | 12 => .int
  | 13 => .int
  | 14 => .int
  | 15 => .array .int
  | 16 => .array .int
  | 17 => .boolean
  | 18 => .int
  | 19 => .int
  | 20 => .int
  | 21 => .int
  | 22 => .int
  | 23 => .int
  | 24 => .array .int
  | 25 => .array .int
  | 26 => .int
  | 27 => .array .int
  | 28 => .int
  | 29 => .int
  | 30 => .array .int
  | 31 => .int
  | 32 => .array .int
  | 33 => .int
  | 34 => .array .int
  | 35 => .array .int
  | 36 => .long
  | 37 => .array .int
  | 38 => .int
  | 39 => .array .int
  | 40 => .array .int
  | 41 => .int
  | 42 => .array .int
  | _ => .boolean
abbrev wsX120 : List Cond := u_ws RX12 TX12 44
theorem nmX12 : ∀ a, a < 44 → ∀ b, b < 44 → a ≠ b → (TX12 a).2.1 ≠ (TX12 b).2.1 := by decide +kernel
theorem tyX12_ok : ∀ k, k < 44 → parseFieldDescriptor (TX12 k).2.2.1 = some (tyX12 k) := by decide +kernel
abbrev cX12_in : ByteArray := prog_14_method_1_code
def yX12_in : MethodName := ⟨RX12, "in", "(JJJ)Z"⟩
abbrev cX12_init : ByteArray := prog_14_method_2_code
def yX12_init : MethodName := ⟨RX12, "<init>", "()V"⟩
abbrev cX12_thrown : ByteArray := prog_14_method_3_code
def yX12_thrown : MethodName := ⟨RX12, "thrown", "()I"⟩
abbrev cX12_four : ByteArray := prog_14_method_4_code
def yX12_four : MethodName := ⟨RX12, "four", "(I)V"⟩
abbrev cX12_feed : ByteArray := prog_14_method_5_code
def yX12_feed : MethodName := ⟨RX12, "feed", "(IIIII)I"⟩
abbrev cX12_end : ByteArray := prog_14_method_6_code
def yX12_end : MethodName := ⟨RX12, "end", "(I)Z"⟩
abbrev cX12_here : ByteArray := prog_14_method_7_code
def yX12_here : MethodName := ⟨RX12, "here", "()I"⟩
abbrev cX12_isSmall : ByteArray := prog_14_method_8_code
def yX12_isSmall : MethodName := ⟨RX12, "isSmall", "(I)Z"⟩
abbrev cX12_isDigit : ByteArray := prog_14_method_9_code
def yX12_isDigit : MethodName := ⟨RX12, "isDigit", "(I)Z"⟩
abbrev cX12_next : ByteArray := prog_14_method_10_code
def yX12_next : MethodName := ⟨RX12, "next", "()V"⟩
abbrev cX12_bad : ByteArray := prog_14_method_11_code
def yX12_bad : MethodName := ⟨RX12, "bad", "()V"⟩
abbrev cX12_isWord : ByteArray := prog_14_method_12_code
def yX12_isWord : MethodName := ⟨RX12, "isWord", "(Ljava/lang/String;)Z"⟩
abbrev cX12_takesSemicolon : ByteArray := prog_14_method_13_code
def yX12_takesSemicolon : MethodName := ⟨RX12, "takesSemicolon", "()Z"⟩
abbrev cX12_takesNumber : ByteArray := prog_14_method_14_code
def yX12_takesNumber : MethodName := ⟨RX12, "takesNumber", "(II)I"⟩
abbrev cX12_isNew : ByteArray := prog_14_method_15_code
def yX12_isNew : MethodName := ⟨RX12, "isNew", "(I)Z"⟩
abbrev cX12_takesOne : ByteArray := prog_14_method_16_code
def yX12_takesOne : MethodName := ⟨RX12, "takesOne", "(Ljava/lang/String;Ljava/lang/String;Ljava/lang/String;)I"⟩
abbrev cX12_readsPiece : ByteArray := prog_14_method_17_code
def yX12_readsPiece : MethodName := ⟨RX12, "readsPiece", "()V"⟩
abbrev cX12_reads : ByteArray := prog_14_method_18_code
def yX12_reads : MethodName := ⟨RX12, "reads", "()I"⟩
abbrev cX12_fault : ByteArray := prog_14_method_19_code
def yX12_fault : MethodName := ⟨RX12, "fault", "()I"⟩
abbrev cX12_ofChannel : ByteArray := prog_14_method_20_code
def yX12_ofChannel : MethodName := ⟨RX12, "ofChannel", "(II)I"⟩
abbrev cX12_its : ByteArray := prog_14_method_21_code
def yX12_its : MethodName := ⟨RX12, "its", "(II)I"⟩
abbrev cX12_lay : ByteArray := prog_14_method_22_code
def yX12_lay : MethodName := ⟨RX12, "lay", "(III)V"⟩
abbrev cX12_more : ByteArray := prog_14_method_23_code
def yX12_more : MethodName := ⟨RX12, "more", "(III)V"⟩
abbrev cX12_line : ByteArray := prog_14_method_24_code
def yX12_line : MethodName := ⟨RX12, "line", "()I"⟩
abbrev cX12_puts : ByteArray := prog_14_method_25_code
def yX12_puts : MethodName := ⟨RX12, "puts", "(I)V"⟩
abbrev cX12_runFrom : ByteArray := prog_14_method_26_code
def yX12_runFrom : MethodName := ⟨RX12, "runFrom", "(I)I"⟩
abbrev cX12_block : ByteArray := prog_14_method_27_code
def yX12_block : MethodName := ⟨RX12, "block", "(III)V"⟩
abbrev cX12_isPair : ByteArray := prog_14_method_28_code
def yX12_isPair : MethodName := ⟨RX12, "isPair", "(I)Z"⟩
abbrev cX12_stuffs : ByteArray := prog_14_method_29_code
def yX12_stuffs : MethodName := ⟨RX12, "stuffs", "(I)V"⟩
abbrev cX12_plainly : ByteArray := prog_14_method_30_code
def yX12_plainly : MethodName := ⟨RX12, "plainly", "(I)V"⟩
abbrev cX12_copies : ByteArray := prog_14_method_31_code
def yX12_copies : MethodName := ⟨RX12, "copies", "(II)I"⟩
abbrev cX12_isCode : ByteArray := prog_14_method_32_code
def yX12_isCode : MethodName := ⟨RX12, "isCode", "(II)Z"⟩
abbrev cX12_unstuffs : ByteArray := prog_14_method_33_code
def yX12_unstuffs : MethodName := ⟨RX12, "unstuffs", "(I)I"⟩
abbrev cX12_lettersPlain : ByteArray := prog_14_method_34_code
def yX12_lettersPlain : MethodName := ⟨RX12, "lettersPlain", "()V"⟩
abbrev cX12_stuff : ByteArray := prog_14_method_35_code
def yX12_stuff : MethodName := ⟨RX12, "stuff", "(I)I"⟩
abbrev cX12_unstuff : ByteArray := prog_14_method_36_code
def yX12_unstuff : MethodName := ⟨RX12, "unstuff", "(I)I"⟩
abbrev cX12_box : ByteArray := prog_14_method_37_code
def yX12_box : MethodName := ⟨RX12, "box", "(I)I"⟩
abbrev cX12_shortest : ByteArray := prog_14_method_38_code
def yX12_shortest : MethodName := ⟨RX12, "shortest", "()I"⟩
abbrev cX12_mostOf : ByteArray := prog_14_method_39_code
def yX12_mostOf : MethodName := ⟨RX12, "mostOf", "(I)I"⟩
abbrev cX12_bound : ByteArray := prog_14_method_40_code
def yX12_bound : MethodName := ⟨RX12, "bound", "(I)I"⟩
abbrev cX12_checkLong : ByteArray := prog_14_method_41_code
def yX12_checkLong : MethodName := ⟨RX12, "checkLong", "()I"⟩
abbrev cX12_checkOf : ByteArray := prog_14_method_42_code
def yX12_checkOf : MethodName := ⟨RX12, "checkOf", "(I)I"⟩
abbrev cX12_frameIs : ByteArray := prog_14_method_43_code
def yX12_frameIs : MethodName := ⟨RX12, "frameIs", "(Z)I"⟩
abbrev cX12_partLong : ByteArray := prog_14_method_44_code
def yX12_partLong : MethodName := ⟨RX12, "partLong", "()I"⟩
abbrev cX12_keepsRow : ByteArray := prog_14_method_45_code
def yX12_keepsRow : MethodName := ⟨RX12, "keepsRow", "([I)V"⟩
abbrev cX12_keeps : ByteArray := prog_14_method_46_code
def yX12_keeps : MethodName := ⟨RX12, "keeps", "()V"⟩
abbrev cX12_putAside : ByteArray := prog_14_method_47_code
def yX12_putAside : MethodName := ⟨RX12, "putAside", "()V"⟩
abbrev cX12_takeBack : ByteArray := prog_14_method_48_code
def yX12_takeBack : MethodName := ⟨RX12, "takeBack", "()V"⟩
abbrev cX12_undo : ByteArray := prog_14_method_49_code
def yX12_undo : MethodName := ⟨RX12, "undo", "()I"⟩
abbrev cX12_refuses : ByteArray := prog_14_method_50_code
def yX12_refuses : MethodName := ⟨RX12, "refuses", "(I)I"⟩
abbrev cX12_status : ByteArray := prog_14_method_51_code
def yX12_status : MethodName := ⟨RX12, "status", "(I)I"⟩
abbrev cX12_isChannel : ByteArray := prog_14_method_52_code
def yX12_isChannel : MethodName := ⟨RX12, "isChannel", "(I)Z"⟩
abbrev cX12_waitAt : ByteArray := prog_14_method_53_code
def yX12_waitAt : MethodName := ⟨RX12, "waitAt", "(I)I"⟩
abbrev cX12_send : ByteArray := prog_14_method_54_code
def yX12_send : MethodName := ⟨RX12, "send", "(I)I"⟩
abbrev cX12_pick : ByteArray := prog_14_method_55_code
def yX12_pick : MethodName := ⟨RX12, "pick", "()I"⟩
abbrev cX12_laysFrame : ByteArray := prog_14_method_56_code
def yX12_laysFrame : MethodName := ⟨RX12, "laysFrame", "(I)I"⟩
abbrev cX12_shiftsWaiting : ByteArray := prog_14_method_57_code
def yX12_shiftsWaiting : MethodName := ⟨RX12, "shiftsWaiting", "(I)V"⟩
abbrev cX12_putsOne : ByteArray := prog_14_method_58_code
def yX12_putsOne : MethodName := ⟨RX12, "putsOne", "()Z"⟩
abbrev cX12_canPut : ByteArray := prog_14_method_59_code
def yX12_canPut : MethodName := ⟨RX12, "canPut", "()Z"⟩
abbrev cX12_put : ByteArray := prog_14_method_60_code
def yX12_put : MethodName := ⟨RX12, "put", "(I)I"⟩
abbrev cX12_isByte : ByteArray := prog_14_method_61_code
def yX12_isByte : MethodName := ⟨RX12, "isByte", "(I)Z"⟩
abbrev cX12_byteAt : ByteArray := prog_14_method_62_code
def yX12_byteAt : MethodName := ⟨RX12, "byteAt", "(I)I"⟩
abbrev cX12_loses : ByteArray := prog_14_method_63_code
def yX12_loses : MethodName := ⟨RX12, "loses", "(I)V"⟩
abbrev cX12_inserts : ByteArray := prog_14_method_64_code
def yX12_inserts : MethodName := ⟨RX12, "inserts", "(II)V"⟩
abbrev cX12_flip : ByteArray := prog_14_method_65_code
def yX12_flip : MethodName := ⟨RX12, "flip", "(II)I"⟩
abbrev cX12_lose : ByteArray := prog_14_method_66_code
def yX12_lose : MethodName := ⟨RX12, "lose", "(I)I"⟩
abbrev cX12_insert : ByteArray := prog_14_method_67_code
def yX12_insert : MethodName := ⟨RX12, "insert", "(II)I"⟩
abbrev cX12_draw : ByteArray := prog_14_method_68_code
def yX12_draw : MethodName := ⟨RX12, "draw", "(I)I"⟩
abbrev cX12_noisy : ByteArray := prog_14_method_69_code
def yX12_noisy : MethodName := ⟨RX12, "noisy", "()Z"⟩
abbrev cX12_noise : ByteArray := prog_14_method_70_code
def yX12_noise : MethodName := ⟨RX12, "noise", "(IJ)I"⟩
abbrev cX12_torn : ByteArray := prog_14_method_71_code
def yX12_torn : MethodName := ⟨RX12, "torn", "(I)V"⟩
abbrev cX12_hereAt : ByteArray := prog_14_method_72_code
def yX12_hereAt : MethodName := ⟨RX12, "hereAt", "(I)I"⟩
abbrev cX12_ends : ByteArray := prog_14_method_73_code
def yX12_ends : MethodName := ⟨RX12, "ends", "(I)I"⟩
abbrev cX12_takesFrame : ByteArray := prog_14_method_74_code
def yX12_takesFrame : MethodName := ⟨RX12, "takesFrame", "()I"⟩
abbrev cX12_event : ByteArray := prog_14_method_75_code
def yX12_event : MethodName := ⟨RX12, "event", "(IIIII)V"⟩
abbrev cX12_marks : ByteArray := prog_14_method_76_code
def yX12_marks : MethodName := ⟨RX12, "marks", "()V"⟩
abbrev cX12_readsByte : ByteArray := prog_14_method_77_code
def yX12_readsByte : MethodName := ⟨RX12, "readsByte", "(I)V"⟩
abbrev cX12_readsBytes : ByteArray := prog_14_method_78_code
def yX12_readsBytes : MethodName := ⟨RX12, "readsBytes", "(I)V"⟩
abbrev cX12_read : ByteArray := prog_14_method_79_code
def yX12_read : MethodName := ⟨RX12, "read", "(I)I"⟩
abbrev cX12_event_ : ByteArray := prog_14_method_80_code
def yX12_event_ : MethodName := ⟨RX12, "event", "(II)I"⟩
abbrev cX12_take : ByteArray := prog_14_method_81_code
def yX12_take : MethodName := ⟨RX12, "take", "(I)I"⟩
abbrev cX12_hand : ByteArray := prog_14_method_82_code
def yX12_hand : MethodName := ⟨RX12, "hand", "(I)I"⟩
abbrev cX12_renew : ByteArray := prog_14_method_83_code
def yX12_renew : MethodName := ⟨RX12, "renew", "(I)I"⟩
abbrev cX12_channel : ByteArray := prog_14_method_84_code
def yX12_channel : MethodName := ⟨RX12, "channel", "(II)I"⟩
abbrev cX12_laysFrames : ByteArray := prog_14_method_85_code
def yX12_laysFrames : MethodName := ⟨RX12, "laysFrames", "()I"⟩
abbrev cX12_frameAt : ByteArray := prog_14_method_86_code
def yX12_frameAt : MethodName := ⟨RX12, "frameAt", "(I)I"⟩
abbrev cX12_frame : ByteArray := prog_14_method_87_code
def yX12_frame : MethodName := ⟨RX12, "frame", "(II)I"⟩
abbrev cX12_blind : ByteArray := prog_14_method_88_code
def yX12_blind : MethodName := ⟨RX12, "blind", "(I)I"⟩
abbrev cX12_thereAll : ByteArray := prog_14_method_89_code
def yX12_thereAll : MethodName := ⟨RX12, "thereAll", "()I"⟩
abbrev cX12_sumOf : ByteArray := prog_14_method_90_code
def yX12_sumOf : MethodName := ⟨RX12, "sumOf", "(I)I"⟩
abbrev cX12_harm : ByteArray := prog_14_method_91_code
def yX12_harm : MethodName := ⟨RX12, "harm", "(II)I"⟩
abbrev cX12_cost : ByteArray := prog_14_method_92_code
def yX12_cost : MethodName := ⟨RX12, "cost", "(II)I"⟩
abbrev cX12_share : ByteArray := prog_14_method_93_code
def yX12_share : MethodName := ⟨RX12, "share", "(II)I"⟩
abbrev cX12_flushed : ByteArray := prog_14_method_94_code
def yX12_flushed : MethodName := ⟨RX12, "flushed", "(I)I"⟩
abbrev cX12_image : ByteArray := prog_14_method_95_code
def yX12_image : MethodName := ⟨RX12, "image", "()I"⟩
abbrev cX12_back : ByteArray := prog_14_method_96_code
def yX12_back : MethodName := ⟨RX12, "back", "()I"⟩
abbrev cX12_rule : ByteArray := prog_14_method_97_code
def yX12_rule : MethodName := ⟨RX12, "rule", "(I)I"⟩
abbrev cX12_mostLost : ByteArray := prog_14_method_98_code
def yX12_mostLost : MethodName := ⟨RX12, "mostLost", "()I"⟩
abbrev cX12_broken : ByteArray := prog_14_method_99_code
def yX12_broken : MethodName := ⟨RX12, "broken", "()I"⟩
abbrev cX12_longestFrame : ByteArray := prog_14_method_100_code
def yX12_longestFrame : MethodName := ⟨RX12, "longestFrame", "()I"⟩
abbrev cX12_waitingBytes : ByteArray := prog_14_method_101_code
def yX12_waitingBytes : MethodName := ⟨RX12, "waitingBytes", "()I"⟩
abbrev cX12_greatestByte : ByteArray := prog_14_method_102_code
def yX12_greatestByte : MethodName := ⟨RX12, "greatestByte", "()I"⟩
abbrev cX12_most : ByteArray := prog_14_method_103_code
def yX12_most : MethodName := ⟨RX12, "most", "(I)I"⟩
abbrev cX12_count : ByteArray := prog_14_method_104_code
def yX12_count : MethodName := ⟨RX12, "count", "(I)I"⟩
def RJx145de : String := "java/io/Serializable"
def TJx145de : u_T := fun k => match k with
  | _ => ("", "", "", false)
def tyJx145de : Nat → FieldType := fun k => match k with
  | _ => .int
abbrev wsJx145de0 : List Cond := u_ws RJx145de TJx145de 0
theorem nmJx145de : ∀ a, a < 0 → ∀ b, b < 0 → a ≠ b → (TJx145de a).2.1 ≠ (TJx145de b).2.1 := by decide +kernel
theorem tyJx145de_ok : ∀ k, k < 0 → parseFieldDescriptor (TJx145de k).2.2.1 = some (tyJx145de k) := by decide +kernel
def RJx9f9b0 : String := "java/lang/CharSequence"
def TJx9f9b0 : u_T := fun k => match k with
  | _ => ("", "", "", false)
def tyJx9f9b0 : Nat → FieldType := fun k => match k with
  | _ => .int
abbrev wsJx9f9b00 : List Cond := u_ws RJx9f9b0 TJx9f9b0 0
theorem nmJx9f9b0 : ∀ a, a < 0 → ∀ b, b < 0 → a ≠ b → (TJx9f9b0 a).2.1 ≠ (TJx9f9b0 b).2.1 := by decide +kernel
theorem tyJx9f9b0_ok : ∀ k, k < 0 → parseFieldDescriptor (TJx9f9b0 k).2.2.1 = some (tyJx9f9b0 k) := by decide +kernel
def RJxb160c : String := "java/lang/Comparable"
def TJxb160c : u_T := fun k => match k with
  | _ => ("", "", "", false)
def tyJxb160c : Nat → FieldType := fun k => match k with
  | _ => .int
abbrev wsJxb160c0 : List Cond := u_ws RJxb160c TJxb160c 0
theorem nmJxb160c : ∀ a, a < 0 → ∀ b, b < 0 → a ≠ b → (TJxb160c a).2.1 ≠ (TJxb160c b).2.1 := by decide +kernel
theorem tyJxb160c_ok : ∀ k, k < 0 → parseFieldDescriptor (TJxb160c k).2.2.1 = some (tyJxb160c k) := by decide +kernel
def RJ9 : String := "java/lang/Math"
def TJ9 : u_T := fun k => match k with
  | _ => ("", "", "", false)
def tyJ9 : Nat → FieldType := fun k => match k with
  | _ => .int
abbrev wsJ90 : List Cond := u_ws RJ9 TJ9 0
theorem nmJ9 : ∀ a, a < 0 → ∀ b, b < 0 → a ≠ b → (TJ9 a).2.1 ≠ (TJ9 b).2.1 := by decide +kernel
theorem tyJ9_ok : ∀ k, k < 0 → parseFieldDescriptor (TJ9 k).2.2.1 = some (tyJ9 k) := by decide +kernel
abbrev cJ9_max_7cf53 : ByteArray := prog_19_method_65_code
def yJ9_max_7cf53 : MethodName := ⟨RJ9, "max", "(II)I"⟩
abbrev cJ9_min_7cf53 : ByteArray := prog_19_method_69_code
def yJ9_min_7cf53 : MethodName := ⟨RJ9, "min", "(II)I"⟩
def RJ0 : String := "java/lang/String"
def TJ0 : u_T := fun k => match k with
  | _ => ("", "", "", false)
def tyJ0 : Nat → FieldType := fun k => match k with
  | _ => .int
abbrev wsJ00 : List Cond := u_ws RJ0 TJ0 0
theorem nmJ0 : ∀ a, a < 0 → ∀ b, b < 0 → a ≠ b → (TJ0 a).2.1 ≠ (TJ0 b).2.1 := by decide +kernel
theorem tyJ0_ok : ∀ k, k < 0 → parseFieldDescriptor (TJ0 k).2.2.1 = some (tyJ0 k) := by decide +kernel
abbrev cJ0_length_8abf5 : ByteArray := prog_21_method_54_code
def yJ0_length_8abf5 : MethodName := ⟨RJ0, "length", "()I"⟩
abbrev cJ0_charAt_5068e : ByteArray := prog_21_method_56_code
def yJ0_charAt_5068e : MethodName := ⟨RJ0, "charAt", "(I)C"⟩
abbrev cJ0_coder_7d493 : ByteArray := prog_21_method_152_code
def yJ0_coder_7d493 : MethodName := ⟨RJ0, "coder", "()B"⟩
abbrev cJ0_isLatin1_aae02 : ByteArray := prog_21_method_154_code
def yJ0_isLatin1_aae02 : MethodName := ⟨RJ0, "isLatin1", "()Z"⟩
abbrev cJ0_checkIndex_df160 : ByteArray := prog_21_method_155_code
def yJ0_checkIndex_df160 : MethodName := ⟨RJ0, "checkIndex", "(II)V"⟩
def RJ1 : String := "java/lang/StringLatin1"
def TJ1 : u_T := fun k => match k with
  | _ => ("", "", "", false)
def tyJ1 : Nat → FieldType := fun k => match k with
  | _ => .int
abbrev wsJ10 : List Cond := u_ws RJ1 TJ1 0
theorem nmJ1 : ∀ a, a < 0 → ∀ b, b < 0 → a ≠ b → (TJ1 a).2.1 ≠ (TJ1 b).2.1 := by decide +kernel
theorem tyJ1_ok : ∀ k, k < 0 → parseFieldDescriptor (TJ1 k).2.2.1 = some (tyJ1 k) := by decide +kernel
abbrev cJ1_charAt_3b067 : ByteArray := prog_22_method_2_code
def yJ1_charAt_3b067 : MethodName := ⟨RJ1, "charAt", "([BI)C"⟩
def RJ2 : String := "java/lang/StringUTF16"
def TJ2 : u_T := fun k => match k with
  | _ => ("", "", "", false)
def tyJ2 : Nat → FieldType := fun k => match k with
  | _ => .int
abbrev wsJ20 : List Cond := u_ws RJ2 TJ2 0
theorem nmJ2 : ∀ a, a < 0 → ∀ b, b < 0 → a ≠ b → (TJ2 a).2.1 ≠ (TJ2 b).2.1 := by decide +kernel
theorem tyJ2_ok : ∀ k, k < 0 → parseFieldDescriptor (TJ2 k).2.2.1 = some (tyJ2 k) := by decide +kernel
abbrev cJ2_getChar_3b067 : ByteArray := prog_23_method_5_code
def yJ2_getChar_3b067 : MethodName := ⟨RJ2, "getChar", "([BI)C"⟩
abbrev cJ2_length_9d52b : ByteArray := prog_23_method_6_code
def yJ2_length_9d52b : MethodName := ⟨RJ2, "length", "([B)I"⟩
abbrev cJ2_charAt_3b067 : ByteArray := prog_23_method_83_code
def yJ2_charAt_3b067 : MethodName := ⟨RJ2, "charAt", "([BI)C"⟩
abbrev cJ2_checkIndex_2214a : ByteArray := prog_23_method_91_code
def yJ2_checkIndex_2214a : MethodName := ⟨RJ2, "checkIndex", "(I[B)V"⟩
def RJ10 : String := "java/lang/System"
def TJ10 : u_T := fun k => match k with
  | _ => ("", "", "", false)
def tyJ10 : Nat → FieldType := fun k => match k with
  | _ => .int
abbrev wsJ100 : List Cond := u_ws RJ10 TJ10 0
theorem nmJ10 : ∀ a, a < 0 → ∀ b, b < 0 → a ≠ b → (TJ10 a).2.1 ≠ (TJ10 b).2.1 := by decide +kernel
theorem tyJ10_ok : ∀ k, k < 0 → parseFieldDescriptor (TJ10 k).2.2.1 = some (tyJ10 k) := by decide +kernel
def RJxfd54e : String := "java/lang/constant/Constable"
def TJxfd54e : u_T := fun k => match k with
  | _ => ("", "", "", false)
def tyJxfd54e : Nat → FieldType := fun k => match k with
  | _ => .int
abbrev wsJxfd54e0 : List Cond := u_ws RJxfd54e TJxfd54e 0
theorem nmJxfd54e : ∀ a, a < 0 → ∀ b, b < 0 → a ≠ b → (TJxfd54e a).2.1 ≠ (TJxfd54e b).2.1 := by decide +kernel
theorem tyJxfd54e_ok : ∀ k, k < 0 → parseFieldDescriptor (TJxfd54e k).2.2.1 = some (tyJxfd54e k) := by decide +kernel
def RJx3cf43 : String := "java/lang/constant/ConstantDesc"
def TJx3cf43 : u_T := fun k => match k with
  | _ => ("", "", "", false)
def tyJx3cf43 : Nat → FieldType := fun k => match k with
  | _ => .int
abbrev wsJx3cf430 : List Cond := u_ws RJx3cf43 TJx3cf43 0
theorem nmJx3cf43 : ∀ a, a < 0 → ∀ b, b < 0 → a ≠ b → (TJx3cf43 a).2.1 ≠ (TJx3cf43 b).2.1 := by decide +kernel
theorem tyJx3cf43_ok : ∀ k, k < 0 → parseFieldDescriptor (TJx3cf43 k).2.2.1 = some (tyJx3cf43 k) := by decide +kernel
def RJ3 : String := "jdk/internal/util/Preconditions"
def TJ3 : u_T := fun k => match k with
  | _ => ("", "", "", false)
def tyJ3 : Nat → FieldType := fun k => match k with
  | _ => .int
abbrev wsJ30 : List Cond := u_ws RJ3 TJ3 0
theorem nmJ3 : ∀ a, a < 0 → ∀ b, b < 0 → a ≠ b → (TJ3 a).2.1 ≠ (TJ3 b).2.1 := by decide +kernel
theorem tyJ3_ok : ∀ k, k < 0 → parseFieldDescriptor (TJ3 k).2.2.1 = some (tyJ3 k) := by decide +kernel
abbrev cJ3_checkIndex_8e157 : ByteArray := prog_29_method_11_code
def yJ3_checkIndex_8e157 : MethodName := ⟨RJ3, "checkIndex", "(IILjava/util/function/BiFunction;)I"⟩
def RL : String := "QuietLineLaw"
abbrev cL_channel : ByteArray := method_3_code
def yL_channel : MethodName := ⟨RL, "channel", "(LQuietLine;II[J)I"⟩
abbrev cL_law : ByteArray := code
def yL_law : MethodName := ⟨RL, "law", "([I)Z"⟩
abbrev vwCl : List vw_C := [(RX0, TX0, 1), (RX1, TX1, 6), (RX2, TX2, 3), (RX3, TX3, 3), (RX4, TX4, 12), (RX5, TX5, 3), (RX6, TX6, 6), (RX7, TX7, 8), (RX8, TX8, 2), (RX9, TX9, 6), (RX10, TX10, 3), (RX11, TX11, 13), (RX12, TX12, 44)]
end
section
theorem dX0_init_0 : decode cX0_init 0 = .ok (.aload_n 0, 1) := by decide +kernel
theorem dX0_init_1 : decode cX0_init 1 = .ok (.invokespecial 1, 3) := by decide +kernel
theorem dX0_init_4 : decode cX0_init 4 = .ok (.return_, 1) := by decide +kernel
theorem dX0_draw_0 : decode cX0_draw 0 = .ok (.aload_n 0, 1) := by decide +kernel
theorem dX0_draw_1 : decode cX0_draw 1 = .ok (.aload_n 0, 1) := by decide +kernel
theorem dX0_draw_2 : decode cX0_draw 2 = .ok (.getfield 7, 3) := by decide +kernel
theorem dX0_draw_5 : decode cX0_draw 5 = .ok (.ldc2_w 13, 3) := by decide +kernel
theorem dX0_draw_8 : decode cX0_draw 8 = .ok (.lmul, 1) := by decide +kernel
theorem dX0_draw_9 : decode cX0_draw 9 = .ok (.ldc2_w 15, 3) := by decide +kernel
theorem dX0_draw_12 : decode cX0_draw 12 = .ok (.ladd, 1) := by decide +kernel
theorem dX0_draw_13 : decode cX0_draw 13 = .ok (.putfield 7, 3) := by decide +kernel
theorem dX0_draw_16 : decode cX0_draw 16 = .ok (.iload_n 1, 1) := by decide +kernel
theorem dX0_draw_17 : decode cX0_draw 17 = .ok (.iconst 1, 1) := by decide +kernel
theorem dX0_draw_18 : decode cX0_draw 18 = .ok (.if_icmp .ge 7, 3) := by decide +kernel
theorem dX0_draw_21 : decode cX0_draw 21 = .ok (.iconst 0, 1) := by decide +kernel
theorem dX0_draw_22 : decode cX0_draw 22 = .ok (.goto 14, 3) := by decide +kernel
theorem dX0_draw_25 : decode cX0_draw 25 = .ok (.aload_n 0, 1) := by decide +kernel
theorem dX0_draw_26 : decode cX0_draw 26 = .ok (.getfield 7, 3) := by decide +kernel
theorem dX0_draw_29 : decode cX0_draw 29 = .ok (.bipush 33, 2) := by decide +kernel
theorem dX0_draw_31 : decode cX0_draw 31 = .ok (.lushr, 1) := by decide +kernel
theorem dX0_draw_32 : decode cX0_draw 32 = .ok (.iload_n 1, 1) := by decide +kernel
theorem dX0_draw_33 : decode cX0_draw 33 = .ok (.i2l, 1) := by decide +kernel
theorem dX0_draw_34 : decode cX0_draw 34 = .ok (.lrem, 1) := by decide +kernel
theorem dX0_draw_35 : decode cX0_draw 35 = .ok (.l2i, 1) := by decide +kernel
theorem dX0_draw_36 : decode cX0_draw 36 = .ok (.ireturn, 1) := by decide +kernel
theorem dX1_init_0 : decode cX1_init 0 = .ok (.aload_n 0, 1) := by decide +kernel
theorem dX1_init_1 : decode cX1_init 1 = .ok (.invokespecial 3, 3) := by decide +kernel
theorem dX1_init_4 : decode cX1_init 4 = .ok (.aload_n 0, 1) := by decide +kernel
theorem dX1_init_5 : decode cX1_init 5 = .ok (.new 9, 3) := by decide +kernel
theorem dX1_init_8 : decode cX1_init 8 = .ok (.dup, 1) := by decide +kernel
theorem dX1_init_9 : decode cX1_init 9 = .ok (.invokespecial 11, 3) := by decide +kernel
theorem dX1_init_12 : decode cX1_init 12 = .ok (.putfield 12, 3) := by decide +kernel
theorem dX1_init_15 : decode cX1_init 15 = .ok (.aload_n 0, 1) := by decide +kernel
theorem dX1_init_16 : decode cX1_init 16 = .ok (.new 18, 3) := by decide +kernel
theorem dX1_init_19 : decode cX1_init 19 = .ok (.dup, 1) := by decide +kernel
theorem dX1_init_20 : decode cX1_init 20 = .ok (.sipush 600, 3) := by decide +kernel
theorem dX1_init_23 : decode cX1_init 23 = .ok (.invokespecial 20, 3) := by decide +kernel
theorem dX1_init_26 : decode cX1_init 26 = .ok (.putfield 23, 3) := by decide +kernel
theorem dX1_init_29 : decode cX1_init 29 = .ok (.aload_n 0, 1) := by decide +kernel
theorem dX1_init_30 : decode cX1_init 30 = .ok (.new 18, 3) := by decide +kernel
theorem dX1_init_33 : decode cX1_init 33 = .ok (.dup, 1) := by decide +kernel
theorem dX1_init_34 : decode cX1_init 34 = .ok (.sipush 600, 3) := by decide +kernel
theorem dX1_init_37 : decode cX1_init 37 = .ok (.invokespecial 20, 3) := by decide +kernel
theorem dX1_init_40 : decode cX1_init 40 = .ok (.putfield 27, 3) := by decide +kernel
theorem dX1_init_43 : decode cX1_init 43 = .ok (.aload_n 0, 1) := by decide +kernel
theorem dX1_init_44 : decode cX1_init 44 = .ok (.new 18, 3) := by decide +kernel
theorem dX1_init_47 : decode cX1_init 47 = .ok (.dup, 1) := by decide +kernel
theorem dX1_init_48 : decode cX1_init 48 = .ok (.sipush 200, 3) := by decide +kernel
theorem dX1_init_51 : decode cX1_init 51 = .ok (.invokespecial 20, 3) := by decide +kernel
theorem dX1_init_54 : decode cX1_init 54 = .ok (.putfield 30, 3) := by decide +kernel
theorem dX1_init_57 : decode cX1_init 57 = .ok (.return_, 1) := by decide +kernel
theorem dX1_make_0 : decode cX1_make 0 = .ok (.aload_n 1, 1) := by decide +kernel
theorem dX1_make_1 : decode cX1_make 1 = .ok (.getfield 33, 3) := by decide +kernel
theorem dX1_make_4 : decode cX1_make 4 = .ok (.invokevirtual 39, 3) := by decide +kernel
theorem dX1_make_7 : decode cX1_make 7 = .ok (.istore_n 3, 1) := by decide +kernel
theorem dX1_make_8 : decode cX1_make 8 = .ok (.aload_n 0, 1) := by decide +kernel
theorem dX1_make_9 : decode cX1_make 9 = .ok (.getfield 12, 3) := by decide +kernel
theorem dX1_make_12 : decode cX1_make 12 = .ok (.getfield 45, 3) := by decide +kernel
theorem dX1_make_15 : decode cX1_make 15 = .ok (.iload_n 3, 1) := by decide +kernel
theorem dX1_make_16 : decode cX1_make 16 = .ok (.aload_n 1, 1) := by decide +kernel
theorem dX1_make_17 : decode cX1_make 17 = .ok (.getfield 49, 3) := by decide +kernel
theorem dX1_make_20 : decode cX1_make 20 = .ok (.isub, 1) := by decide +kernel
theorem dX1_make_21 : decode cX1_make 21 = .ok (.invokestatic 52, 3) := by decide +kernel
theorem dX1_make_24 : decode cX1_make 24 = .ok (.istore 4, 2) := by decide +kernel
theorem dX1_make_26 : decode cX1_make 26 = .ok (.aload_n 1, 1) := by decide +kernel
theorem dX1_make_27 : decode cX1_make 27 = .ok (.getfield 49, 3) := by decide +kernel
theorem dX1_make_30 : decode cX1_make 30 = .ok (.iload 4, 2) := by decide +kernel
theorem dX1_make_32 : decode cX1_make 32 = .ok (.iadd, 1) := by decide +kernel
theorem dX1_make_33 : decode cX1_make 33 = .ok (.iload_n 3, 1) := by decide +kernel
theorem dX1_make_34 : decode cX1_make 34 = .ok (.if_icmp .lt 7, 3) := by decide +kernel
theorem dX1_make_37 : decode cX1_make 37 = .ok (.iconst 1, 1) := by decide +kernel
theorem dX1_make_38 : decode cX1_make 38 = .ok (.goto 4, 3) := by decide +kernel
theorem dX1_make_41 : decode cX1_make 41 = .ok (.iconst 0, 1) := by decide +kernel
theorem dX1_make_42 : decode cX1_make 42 = .ok (.istore 5, 2) := by decide +kernel
theorem dX1_make_44 : decode cX1_make 44 = .ok (.aload_n 0, 1) := by decide +kernel
theorem dX1_make_45 : decode cX1_make 45 = .ok (.getfield 23, 3) := by decide +kernel
theorem dX1_make_48 : decode cX1_make 48 = .ok (.invokevirtual 58, 3) := by decide +kernel
theorem dX1_make_51 : decode cX1_make 51 = .ok (.aload_n 0, 1) := by decide +kernel
theorem dX1_make_52 : decode cX1_make 52 = .ok (.getfield 23, 3) := by decide +kernel
theorem dX1_make_55 : decode cX1_make 55 = .ok (.bipush 64, 2) := by decide +kernel
theorem dX1_make_57 : decode cX1_make 57 = .ok (.iload_n 2, 1) := by decide +kernel
theorem dX1_make_58 : decode cX1_make 58 = .ok (.imul, 1) := by decide +kernel
theorem dX1_make_59 : decode cX1_make 59 = .ok (.aload_n 1, 1) := by decide +kernel
theorem dX1_make_60 : decode cX1_make 60 = .ok (.getfield 49, 3) := by decide +kernel
theorem dX1_make_63 : decode cX1_make 63 = .ok (.ifCond .ne 8, 3) := by decide +kernel
theorem dX1_make_66 : decode cX1_make 66 = .ok (.bipush 32, 2) := by decide +kernel
theorem dX1_make_68 : decode cX1_make 68 = .ok (.goto 4, 3) := by decide +kernel
theorem dX1_make_71 : decode cX1_make 71 = .ok (.iconst 0, 1) := by decide +kernel
theorem dX1_make_72 : decode cX1_make 72 = .ok (.iadd, 1) := by decide +kernel
theorem dX1_make_73 : decode cX1_make 73 = .ok (.iload 5, 2) := by decide +kernel
theorem dX1_make_75 : decode cX1_make 75 = .ok (.ifCond .eq 8, 3) := by decide +kernel
theorem dX1_make_78 : decode cX1_make 78 = .ok (.bipush 16, 2) := by decide +kernel
theorem dX1_make_80 : decode cX1_make 80 = .ok (.goto 4, 3) := by decide +kernel
theorem dX1_make_83 : decode cX1_make 83 = .ok (.iconst 0, 1) := by decide +kernel
theorem dX1_make_84 : decode cX1_make 84 = .ok (.iadd, 1) := by decide +kernel
theorem dX1_make_85 : decode cX1_make 85 = .ok (.aload_n 1, 1) := by decide +kernel
theorem dX1_make_86 : decode cX1_make 86 = .ok (.getfield 61, 3) := by decide +kernel
theorem dX1_make_89 : decode cX1_make 89 = .ok (.iadd, 1) := by decide +kernel
theorem dX1_make_90 : decode cX1_make 90 = .ok (.invokevirtual 64, 3) := by decide +kernel
theorem dX1_make_93 : decode cX1_make 93 = .ok (.aload_n 0, 1) := by decide +kernel
theorem dX1_make_94 : decode cX1_make 94 = .ok (.getfield 23, 3) := by decide +kernel
theorem dX1_make_97 : decode cX1_make 97 = .ok (.aload_n 1, 1) := by decide +kernel
theorem dX1_make_98 : decode cX1_make 98 = .ok (.getfield 33, 3) := by decide +kernel
theorem dX1_make_101 : decode cX1_make 101 = .ok (.getfield 67, 3) := by decide +kernel
theorem dX1_make_104 : decode cX1_make 104 = .ok (.aload_n 1, 1) := by decide +kernel
theorem dX1_make_105 : decode cX1_make 105 = .ok (.getfield 49, 3) := by decide +kernel
theorem dX1_make_108 : decode cX1_make 108 = .ok (.iload 4, 2) := by decide +kernel
theorem dX1_make_110 : decode cX1_make 110 = .ok (.invokevirtual 70, 3) := by decide +kernel
theorem dX1_make_113 : decode cX1_make 113 = .ok (.aload_n 0, 1) := by decide +kernel
theorem dX1_make_114 : decode cX1_make 114 = .ok (.getfield 12, 3) := by decide +kernel
theorem dX1_make_117 : decode cX1_make 117 = .ok (.getfield 74, 3) := by decide +kernel
theorem dX1_make_120 : decode cX1_make 120 = .ok (.ifCond .eq 21, 3) := by decide +kernel
theorem dX1_make_123 : decode cX1_make 123 = .ok (.aload_n 0, 1) := by decide +kernel
theorem dX1_make_124 : decode cX1_make 124 = .ok (.getfield 23, 3) := by decide +kernel
theorem dX1_make_127 : decode cX1_make 127 = .ok (.aload_n 0, 1) := by decide +kernel
theorem dX1_make_128 : decode cX1_make 128 = .ok (.aload_n 0, 1) := by decide +kernel
theorem dX1_make_129 : decode cX1_make 129 = .ok (.getfield 23, 3) := by decide +kernel
theorem dX1_make_132 : decode cX1_make 132 = .ok (.getfield 77, 3) := by decide +kernel
theorem dX1_make_135 : decode cX1_make 135 = .ok (.invokevirtual 78, 3) := by decide +kernel
theorem dX1_make_138 : decode cX1_make 138 = .ok (.invokevirtual 64, 3) := by decide +kernel
theorem dX1_make_141 : decode cX1_make 141 = .ok (.aload_n 0, 1) := by decide +kernel
theorem dX1_make_142 : decode cX1_make 142 = .ok (.getfield 12, 3) := by decide +kernel
theorem dX1_make_145 : decode cX1_make 145 = .ok (.getfield 82, 3) := by decide +kernel
theorem dX1_make_148 : decode cX1_make 148 = .ok (.aload_n 0, 1) := by decide +kernel
theorem dX1_make_149 : decode cX1_make 149 = .ok (.getfield 23, 3) := by decide +kernel
theorem dX1_make_152 : decode cX1_make 152 = .ok (.aload_n 0, 1) := by decide +kernel
theorem dX1_make_153 : decode cX1_make 153 = .ok (.getfield 12, 3) := by decide +kernel
theorem dX1_make_156 : decode cX1_make 156 = .ok (.getfield 86, 3) := by decide +kernel
theorem dX1_make_159 : decode cX1_make 159 = .ok (.aload_n 0, 1) := by decide +kernel
theorem dX1_make_160 : decode cX1_make 160 = .ok (.getfield 27, 3) := by decide +kernel
theorem dX1_make_163 : decode cX1_make 163 = .ok (.invokevirtual 89, 3) := by decide +kernel
theorem dX1_make_166 : decode cX1_make 166 = .ok (.iload 4, 2) := by decide +kernel
theorem dX1_make_168 : decode cX1_make 168 = .ok (.ireturn, 1) := by decide +kernel
theorem dX1_checkOf_0 : decode cX1_checkOf 0 = .ok (.iconst 0, 1) := by decide +kernel
theorem dX1_checkOf_1 : decode cX1_checkOf 1 = .ok (.istore_n 2, 1) := by decide +kernel
theorem dX1_checkOf_2 : decode cX1_checkOf 2 = .ok (.iconst 0, 1) := by decide +kernel
theorem dX1_checkOf_3 : decode cX1_checkOf 3 = .ok (.istore_n 3, 1) := by decide +kernel
theorem dX1_checkOf_4 : decode cX1_checkOf 4 = .ok (.iload_n 3, 1) := by decide +kernel
theorem dX1_checkOf_5 : decode cX1_checkOf 5 = .ok (.iload_n 1, 1) := by decide +kernel
theorem dX1_checkOf_6 : decode cX1_checkOf 6 = .ok (.if_icmp .ge 51, 3) := by decide +kernel
theorem dX1_checkOf_9 : decode cX1_checkOf 9 = .ok (.aload_n 0, 1) := by decide +kernel
theorem dX1_checkOf_10 : decode cX1_checkOf 10 = .ok (.getfield 12, 3) := by decide +kernel
theorem dX1_checkOf_13 : decode cX1_checkOf 13 = .ok (.getfield 74, 3) := by decide +kernel
theorem dX1_checkOf_16 : decode cX1_checkOf 16 = .ok (.iconst 2, 1) := by decide +kernel
theorem dX1_checkOf_17 : decode cX1_checkOf 17 = .ok (.if_icmp .ne 19, 3) := by decide +kernel
theorem dX1_checkOf_20 : decode cX1_checkOf 20 = .ok (.iload_n 2, 1) := by decide +kernel
theorem dX1_checkOf_21 : decode cX1_checkOf 21 = .ok (.aload_n 0, 1) := by decide +kernel
theorem dX1_checkOf_22 : decode cX1_checkOf 22 = .ok (.getfield 23, 3) := by decide +kernel
theorem dX1_checkOf_25 : decode cX1_checkOf 25 = .ok (.iload_n 3, 1) := by decide +kernel
theorem dX1_checkOf_26 : decode cX1_checkOf 26 = .ok (.invokevirtual 95, 3) := by decide +kernel
theorem dX1_checkOf_29 : decode cX1_checkOf 29 = .ok (.ixor, 1) := by decide +kernel
theorem dX1_checkOf_30 : decode cX1_checkOf 30 = .ok (.invokestatic 98, 3) := by decide +kernel
theorem dX1_checkOf_33 : decode cX1_checkOf 33 = .ok (.goto 17, 3) := by decide +kernel
theorem dX1_checkOf_36 : decode cX1_checkOf 36 = .ok (.iload_n 2, 1) := by decide +kernel
theorem dX1_checkOf_37 : decode cX1_checkOf 37 = .ok (.aload_n 0, 1) := by decide +kernel
theorem dX1_checkOf_38 : decode cX1_checkOf 38 = .ok (.getfield 23, 3) := by decide +kernel
theorem dX1_checkOf_41 : decode cX1_checkOf 41 = .ok (.iload_n 3, 1) := by decide +kernel
theorem dX1_checkOf_42 : decode cX1_checkOf 42 = .ok (.invokevirtual 95, 3) := by decide +kernel
theorem dX1_checkOf_45 : decode cX1_checkOf 45 = .ok (.iadd, 1) := by decide +kernel
theorem dX1_checkOf_46 : decode cX1_checkOf 46 = .ok (.sipush 255, 3) := by decide +kernel
theorem dX1_checkOf_49 : decode cX1_checkOf 49 = .ok (.iand, 1) := by decide +kernel
theorem dX1_checkOf_50 : decode cX1_checkOf 50 = .ok (.istore_n 2, 1) := by decide +kernel
theorem dX1_checkOf_51 : decode cX1_checkOf 51 = .ok (.iinc 3 1, 3) := by decide +kernel
theorem dX1_checkOf_54 : decode cX1_checkOf 54 = .ok (.goto (-50), 3) := by decide +kernel
theorem dX1_checkOf_57 : decode cX1_checkOf 57 = .ok (.iload_n 2, 1) := by decide +kernel
theorem dX1_checkOf_58 : decode cX1_checkOf 58 = .ok (.ireturn, 1) := by decide +kernel
theorem dX1_crcStep_0 : decode cX1_crcStep 0 = .ok (.iload_n 0, 1) := by decide +kernel
theorem dX1_crcStep_1 : decode cX1_crcStep 1 = .ok (.istore_n 1, 1) := by decide +kernel
theorem dX1_crcStep_2 : decode cX1_crcStep 2 = .ok (.iconst 0, 1) := by decide +kernel
theorem dX1_crcStep_3 : decode cX1_crcStep 3 = .ok (.istore_n 2, 1) := by decide +kernel
theorem dX1_crcStep_4 : decode cX1_crcStep 4 = .ok (.iload_n 2, 1) := by decide +kernel
theorem dX1_crcStep_5 : decode cX1_crcStep 5 = .ok (.bipush 8, 2) := by decide +kernel
theorem dX1_crcStep_7 : decode cX1_crcStep 7 = .ok (.if_icmp .ge 31, 3) := by decide +kernel
theorem dX1_crcStep_10 : decode cX1_crcStep 10 = .ok (.iconst 2, 1) := by decide +kernel
theorem dX1_crcStep_11 : decode cX1_crcStep 11 = .ok (.iload_n 1, 1) := by decide +kernel
theorem dX1_crcStep_12 : decode cX1_crcStep 12 = .ok (.imul, 1) := by decide +kernel
theorem dX1_crcStep_13 : decode cX1_crcStep 13 = .ok (.sipush 255, 3) := by decide +kernel
theorem dX1_crcStep_16 : decode cX1_crcStep 16 = .ok (.iand, 1) := by decide +kernel
theorem dX1_crcStep_17 : decode cX1_crcStep 17 = .ok (.iload_n 1, 1) := by decide +kernel
theorem dX1_crcStep_18 : decode cX1_crcStep 18 = .ok (.sipush 128, 3) := by decide +kernel
theorem dX1_crcStep_21 : decode cX1_crcStep 21 = .ok (.if_icmp .lt 8, 3) := by decide +kernel
theorem dX1_crcStep_24 : decode cX1_crcStep 24 = .ok (.bipush 7, 2) := by decide +kernel
theorem dX1_crcStep_26 : decode cX1_crcStep 26 = .ok (.goto 4, 3) := by decide +kernel
theorem dX1_crcStep_29 : decode cX1_crcStep 29 = .ok (.iconst 0, 1) := by decide +kernel
theorem dX1_crcStep_30 : decode cX1_crcStep 30 = .ok (.ixor, 1) := by decide +kernel
theorem dX1_crcStep_31 : decode cX1_crcStep 31 = .ok (.istore_n 1, 1) := by decide +kernel
theorem dX1_crcStep_32 : decode cX1_crcStep 32 = .ok (.iinc 2 1, 3) := by decide +kernel
theorem dX1_crcStep_35 : decode cX1_crcStep 35 = .ok (.goto (-31), 3) := by decide +kernel
theorem dX1_crcStep_38 : decode cX1_crcStep 38 = .ok (.iload_n 1, 1) := by decide +kernel
theorem dX1_crcStep_39 : decode cX1_crcStep 39 = .ok (.ireturn, 1) := by decide +kernel
theorem dX1_judge_0 : decode cX1_judge 0 = .ok (.iload_n 3, 1) := by decide +kernel
theorem dX1_judge_1 : decode cX1_judge 1 = .ok (.sipush 200, 3) := by decide +kernel
theorem dX1_judge_4 : decode cX1_judge 4 = .ok (.if_icmp .gt 31, 3) := by decide +kernel
theorem dX1_judge_7 : decode cX1_judge 7 = .ok (.aload_n 0, 1) := by decide +kernel
theorem dX1_judge_8 : decode cX1_judge 8 = .ok (.getfield 12, 3) := by decide +kernel
theorem dX1_judge_11 : decode cX1_judge 11 = .ok (.getfield 82, 3) := by decide +kernel
theorem dX1_judge_14 : decode cX1_judge 14 = .ok (.aload_n 1, 1) := by decide +kernel
theorem dX1_judge_15 : decode cX1_judge 15 = .ok (.iload_n 2, 1) := by decide +kernel
theorem dX1_judge_16 : decode cX1_judge 16 = .ok (.iload_n 3, 1) := by decide +kernel
theorem dX1_judge_17 : decode cX1_judge 17 = .ok (.aload_n 0, 1) := by decide +kernel
theorem dX1_judge_18 : decode cX1_judge 18 = .ok (.getfield 12, 3) := by decide +kernel
theorem dX1_judge_21 : decode cX1_judge 21 = .ok (.getfield 86, 3) := by decide +kernel
theorem dX1_judge_24 : decode cX1_judge 24 = .ok (.aload_n 0, 1) := by decide +kernel
theorem dX1_judge_25 : decode cX1_judge 25 = .ok (.getfield 23, 3) := by decide +kernel
theorem dX1_judge_28 : decode cX1_judge 28 = .ok (.invokevirtual 101, 3) := by decide +kernel
theorem dX1_judge_31 : decode cX1_judge 31 = .ok (.iconst (-1), 1) := by decide +kernel
theorem dX1_judge_32 : decode cX1_judge 32 = .ok (.if_icmp .eq 5, 3) := by decide +kernel
theorem dX1_judge_35 : decode cX1_judge 35 = .ok (.iconst 2, 1) := by decide +kernel
theorem dX1_judge_36 : decode cX1_judge 36 = .ok (.ireturn, 1) := by decide +kernel
theorem dX1_judge_37 : decode cX1_judge 37 = .ok (.aload_n 0, 1) := by decide +kernel
theorem dX1_judge_38 : decode cX1_judge 38 = .ok (.getfield 23, 3) := by decide +kernel
theorem dX1_judge_41 : decode cX1_judge 41 = .ok (.getfield 77, 3) := by decide +kernel
theorem dX1_judge_44 : decode cX1_judge 44 = .ok (.aload_n 0, 1) := by decide +kernel
theorem dX1_judge_45 : decode cX1_judge 45 = .ok (.getfield 12, 3) := by decide +kernel
theorem dX1_judge_48 : decode cX1_judge 48 = .ok (.invokevirtual 105, 3) := by decide +kernel
theorem dX1_judge_51 : decode cX1_judge 51 = .ok (.isub, 1) := by decide +kernel
theorem dX1_judge_52 : decode cX1_judge 52 = .ok (.istore 4, 2) := by decide +kernel
theorem dX1_judge_54 : decode cX1_judge 54 = .ok (.iload 4, 2) := by decide +kernel
theorem dX1_judge_56 : decode cX1_judge 56 = .ok (.iconst 1, 1) := by decide +kernel
theorem dX1_judge_57 : decode cX1_judge 57 = .ok (.if_icmp .ge 5, 3) := by decide +kernel
theorem dX1_judge_60 : decode cX1_judge 60 = .ok (.iconst 3, 1) := by decide +kernel
theorem dX1_judge_61 : decode cX1_judge 61 = .ok (.ireturn, 1) := by decide +kernel
theorem dX1_judge_62 : decode cX1_judge 62 = .ok (.aload_n 0, 1) := by decide +kernel
theorem dX1_judge_63 : decode cX1_judge 63 = .ok (.getfield 12, 3) := by decide +kernel
theorem dX1_judge_66 : decode cX1_judge 66 = .ok (.getfield 74, 3) := by decide +kernel
theorem dX1_judge_69 : decode cX1_judge 69 = .ok (.ifCond .eq 23, 3) := by decide +kernel
theorem dX1_judge_72 : decode cX1_judge 72 = .ok (.aload_n 0, 1) := by decide +kernel
theorem dX1_judge_73 : decode cX1_judge 73 = .ok (.getfield 23, 3) := by decide +kernel
theorem dX1_judge_76 : decode cX1_judge 76 = .ok (.iload 4, 2) := by decide +kernel
theorem dX1_judge_78 : decode cX1_judge 78 = .ok (.invokevirtual 95, 3) := by decide +kernel
theorem dX1_judge_81 : decode cX1_judge 81 = .ok (.aload_n 0, 1) := by decide +kernel
theorem dX1_judge_82 : decode cX1_judge 82 = .ok (.iload 4, 2) := by decide +kernel
theorem dX1_judge_84 : decode cX1_judge 84 = .ok (.invokevirtual 78, 3) := by decide +kernel
theorem dX1_judge_87 : decode cX1_judge 87 = .ok (.if_icmp .eq 5, 3) := by decide +kernel
theorem dX1_judge_90 : decode cX1_judge 90 = .ok (.iconst 3, 1) := by decide +kernel
theorem dX1_judge_91 : decode cX1_judge 91 = .ok (.ireturn, 1) := by decide +kernel
theorem dX1_judge_92 : decode cX1_judge 92 = .ok (.aload_n 0, 1) := by decide +kernel
theorem dX1_judge_93 : decode cX1_judge 93 = .ok (.aload_n 0, 1) := by decide +kernel
theorem dX1_judge_94 : decode cX1_judge 94 = .ok (.getfield 23, 3) := by decide +kernel
theorem dX1_judge_97 : decode cX1_judge 97 = .ok (.iconst 0, 1) := by decide +kernel
theorem dX1_judge_98 : decode cX1_judge 98 = .ok (.invokevirtual 95, 3) := by decide +kernel
theorem dX1_judge_101 : decode cX1_judge 101 = .ok (.putfield 108, 3) := by decide +kernel
theorem dX1_judge_104 : decode cX1_judge 104 = .ok (.aload_n 0, 1) := by decide +kernel
theorem dX1_judge_105 : decode cX1_judge 105 = .ok (.iload 4, 2) := by decide +kernel
theorem dX1_judge_107 : decode cX1_judge 107 = .ok (.iconst 1, 1) := by decide +kernel
theorem dX1_judge_108 : decode cX1_judge 108 = .ok (.isub, 1) := by decide +kernel
theorem dX1_judge_109 : decode cX1_judge 109 = .ok (.putfield 111, 3) := by decide +kernel
theorem dX1_judge_112 : decode cX1_judge 112 = .ok (.aload_n 0, 1) := by decide +kernel
theorem dX1_judge_113 : decode cX1_judge 113 = .ok (.getfield 108, 3) := by decide +kernel
theorem dX1_judge_116 : decode cX1_judge 116 = .ok (.bipush 6, 2) := by decide +kernel
theorem dX1_judge_118 : decode cX1_judge 118 = .ok (.ishr, 1) := by decide +kernel
theorem dX1_judge_119 : decode cX1_judge 119 = .ok (.aload_n 0, 1) := by decide +kernel
theorem dX1_judge_120 : decode cX1_judge 120 = .ok (.getfield 12, 3) := by decide +kernel
theorem dX1_judge_123 : decode cX1_judge 123 = .ok (.getfield 114, 3) := by decide +kernel
theorem dX1_judge_126 : decode cX1_judge 126 = .ok (.if_icmp .ge 17, 3) := by decide +kernel
theorem dX1_judge_129 : decode cX1_judge 129 = .ok (.aload_n 0, 1) := by decide +kernel
theorem dX1_judge_130 : decode cX1_judge 130 = .ok (.getfield 111, 3) := by decide +kernel
theorem dX1_judge_133 : decode cX1_judge 133 = .ok (.aload_n 0, 1) := by decide +kernel
theorem dX1_judge_134 : decode cX1_judge 134 = .ok (.getfield 12, 3) := by decide +kernel
theorem dX1_judge_137 : decode cX1_judge 137 = .ok (.getfield 45, 3) := by decide +kernel
theorem dX1_judge_140 : decode cX1_judge 140 = .ok (.if_icmp .le 7, 3) := by decide +kernel
theorem dX1_judge_143 : decode cX1_judge 143 = .ok (.iconst 4, 1) := by decide +kernel
theorem dX1_judge_144 : decode cX1_judge 144 = .ok (.goto 4, 3) := by decide +kernel
theorem dX1_judge_147 : decode cX1_judge 147 = .ok (.iconst 0, 1) := by decide +kernel
theorem dX1_judge_148 : decode cX1_judge 148 = .ok (.ireturn, 1) := by decide +kernel
theorem dX1_blindFlips_0 : decode cX1_blindFlips 0 = .ok (.aload_n 0, 1) := by decide +kernel
theorem dX1_blindFlips_1 : decode cX1_blindFlips 1 = .ok (.getfield 30, 3) := by decide +kernel
theorem dX1_blindFlips_4 : decode cX1_blindFlips 4 = .ok (.invokevirtual 58, 3) := by decide +kernel
theorem dX1_blindFlips_7 : decode cX1_blindFlips 7 = .ok (.aload_n 0, 1) := by decide +kernel
theorem dX1_blindFlips_8 : decode cX1_blindFlips 8 = .ok (.getfield 30, 3) := by decide +kernel
theorem dX1_blindFlips_11 : decode cX1_blindFlips 11 = .ok (.aload_n 1, 1) := by decide +kernel
theorem dX1_blindFlips_12 : decode cX1_blindFlips 12 = .ok (.iload_n 2, 1) := by decide +kernel
theorem dX1_blindFlips_13 : decode cX1_blindFlips 13 = .ok (.iload_n 3, 1) := by decide +kernel
theorem dX1_blindFlips_14 : decode cX1_blindFlips 14 = .ok (.invokevirtual 70, 3) := by decide +kernel
theorem dX1_blindFlips_17 : decode cX1_blindFlips 17 = .ok (.iconst 0, 1) := by decide +kernel
theorem dX1_blindFlips_18 : decode cX1_blindFlips 18 = .ok (.istore 4, 2) := by decide +kernel
theorem dX1_blindFlips_20 : decode cX1_blindFlips 20 = .ok (.iconst 0, 1) := by decide +kernel
theorem dX1_blindFlips_21 : decode cX1_blindFlips 21 = .ok (.istore 5, 2) := by decide +kernel
theorem dX1_blindFlips_23 : decode cX1_blindFlips 23 = .ok (.iconst 0, 1) := by decide +kernel
theorem dX1_blindFlips_24 : decode cX1_blindFlips 24 = .ok (.istore 6, 2) := by decide +kernel
theorem dX1_blindFlips_26 : decode cX1_blindFlips 26 = .ok (.iload 5, 2) := by decide +kernel
theorem dX1_blindFlips_28 : decode cX1_blindFlips 28 = .ok (.iload_n 3, 1) := by decide +kernel
theorem dX1_blindFlips_29 : decode cX1_blindFlips 29 = .ok (.if_icmp .ge 134, 3) := by decide +kernel
theorem dX1_blindFlips_32 : decode cX1_blindFlips 32 = .ok (.iload 6, 2) := by decide +kernel
theorem dX1_blindFlips_34 : decode cX1_blindFlips 34 = .ok (.iload_n 3, 1) := by decide +kernel
theorem dX1_blindFlips_35 : decode cX1_blindFlips 35 = .ok (.if_icmp .ge 128, 3) := by decide +kernel
theorem dX1_blindFlips_38 : decode cX1_blindFlips 38 = .ok (.iload_n 3, 1) := by decide +kernel
theorem dX1_blindFlips_39 : decode cX1_blindFlips 39 = .ok (.iload 5, 2) := by decide +kernel
theorem dX1_blindFlips_41 : decode cX1_blindFlips 41 = .ok (.isub, 1) := by decide +kernel
theorem dX1_blindFlips_42 : decode cX1_blindFlips 42 = .ok (.iconst 1, 1) := by decide +kernel
theorem dX1_blindFlips_43 : decode cX1_blindFlips 43 = .ok (.isub, 1) := by decide +kernel
theorem dX1_blindFlips_44 : decode cX1_blindFlips 44 = .ok (.istore 7, 2) := by decide +kernel
theorem dX1_blindFlips_46 : decode cX1_blindFlips 46 = .ok (.aload_n 0, 1) := by decide +kernel
theorem dX1_blindFlips_47 : decode cX1_blindFlips 47 = .ok (.getfield 12, 3) := by decide +kernel
theorem dX1_blindFlips_50 : decode cX1_blindFlips 50 = .ok (.getfield 82, 3) := by decide +kernel
theorem dX1_blindFlips_53 : decode cX1_blindFlips 53 = .ok (.aload_n 0, 1) := by decide +kernel
theorem dX1_blindFlips_54 : decode cX1_blindFlips 54 = .ok (.getfield 30, 3) := by decide +kernel
theorem dX1_blindFlips_57 : decode cX1_blindFlips 57 = .ok (.iload 5, 2) := by decide +kernel
theorem dX1_blindFlips_59 : decode cX1_blindFlips 59 = .ok (.invokevirtual 95, 3) := by decide +kernel
theorem dX1_blindFlips_62 : decode cX1_blindFlips 62 = .ok (.iload 7, 2) := by decide +kernel
theorem dX1_blindFlips_64 : decode cX1_blindFlips 64 = .ok (.aload_n 0, 1) := by decide +kernel
theorem dX1_blindFlips_65 : decode cX1_blindFlips 65 = .ok (.getfield 12, 3) := by decide +kernel
theorem dX1_blindFlips_68 : decode cX1_blindFlips 68 = .ok (.getfield 86, 3) := by decide +kernel
theorem dX1_blindFlips_71 : decode cX1_blindFlips 71 = .ok (.invokevirtual 117, 3) := by decide +kernel
theorem dX1_blindFlips_74 : decode cX1_blindFlips 74 = .ok (.istore 8, 2) := by decide +kernel
theorem dX1_blindFlips_76 : decode cX1_blindFlips 76 = .ok (.iload 8, 2) := by decide +kernel
theorem dX1_blindFlips_78 : decode cX1_blindFlips 78 = .ok (.iconst (-1), 1) := by decide +kernel
theorem dX1_blindFlips_79 : decode cX1_blindFlips 79 = .ok (.if_icmp .ne 6, 3) := by decide +kernel
theorem dX1_blindFlips_82 : decode cX1_blindFlips 82 = .ok (.iload 4, 2) := by decide +kernel
theorem dX1_blindFlips_84 : decode cX1_blindFlips 84 = .ok (.ireturn, 1) := by decide +kernel
theorem dX1_blindFlips_85 : decode cX1_blindFlips 85 = .ok (.iload 4, 2) := by decide +kernel
theorem dX1_blindFlips_87 : decode cX1_blindFlips 87 = .ok (.aload_n 0, 1) := by decide +kernel
theorem dX1_blindFlips_88 : decode cX1_blindFlips 88 = .ok (.iload 5, 2) := by decide +kernel
theorem dX1_blindFlips_90 : decode cX1_blindFlips 90 = .ok (.iload 7, 2) := by decide +kernel
theorem dX1_blindFlips_92 : decode cX1_blindFlips 92 = .ok (.invokevirtual 121, 3) := by decide +kernel
theorem dX1_blindFlips_95 : decode cX1_blindFlips 95 = .ok (.iadd, 1) := by decide +kernel
theorem dX1_blindFlips_96 : decode cX1_blindFlips 96 = .ok (.istore 4, 2) := by decide +kernel
theorem dX1_blindFlips_98 : decode cX1_blindFlips 98 = .ok (.aload_n 0, 1) := by decide +kernel
theorem dX1_blindFlips_99 : decode cX1_blindFlips 99 = .ok (.getfield 12, 3) := by decide +kernel
theorem dX1_blindFlips_102 : decode cX1_blindFlips 102 = .ok (.getfield 74, 3) := by decide +kernel
theorem dX1_blindFlips_105 : decode cX1_blindFlips 105 = .ok (.ifCond .ne 43, 3) := by decide +kernel
theorem dX1_blindFlips_108 : decode cX1_blindFlips 108 = .ok (.iload 4, 2) := by decide +kernel
theorem dX1_blindFlips_110 : decode cX1_blindFlips 110 = .ok (.sipush 254, 3) := by decide +kernel
theorem dX1_blindFlips_113 : decode cX1_blindFlips 113 = .ok (.iload 8, 2) := by decide +kernel
theorem dX1_blindFlips_115 : decode cX1_blindFlips 115 = .ok (.imul, 1) := by decide +kernel
theorem dX1_blindFlips_116 : decode cX1_blindFlips 116 = .ok (.iadd, 1) := by decide +kernel
theorem dX1_blindFlips_117 : decode cX1_blindFlips 117 = .ok (.istore 4, 2) := by decide +kernel
theorem dX1_blindFlips_119 : decode cX1_blindFlips 119 = .ok (.iload 5, 2) := by decide +kernel
theorem dX1_blindFlips_121 : decode cX1_blindFlips 121 = .ok (.ifCond .ne 27, 3) := by decide +kernel
theorem dX1_blindFlips_124 : decode cX1_blindFlips 124 = .ok (.iload 8, 2) := by decide +kernel
theorem dX1_blindFlips_126 : decode cX1_blindFlips 126 = .ok (.ifCond .le 22, 3) := by decide +kernel
theorem dX1_blindFlips_129 : decode cX1_blindFlips 129 = .ok (.iload 4, 2) := by decide +kernel
theorem dX1_blindFlips_131 : decode cX1_blindFlips 131 = .ok (.sipush 256, 3) := by decide +kernel
theorem dX1_blindFlips_134 : decode cX1_blindFlips 134 = .ok (.bipush 64, 2) := by decide +kernel
theorem dX1_blindFlips_136 : decode cX1_blindFlips 136 = .ok (.aload_n 0, 1) := by decide +kernel
theorem dX1_blindFlips_137 : decode cX1_blindFlips 137 = .ok (.getfield 12, 3) := by decide +kernel
theorem dX1_blindFlips_140 : decode cX1_blindFlips 140 = .ok (.getfield 114, 3) := by decide +kernel
theorem dX1_blindFlips_143 : decode cX1_blindFlips 143 = .ok (.imul, 1) := by decide +kernel
theorem dX1_blindFlips_144 : decode cX1_blindFlips 144 = .ok (.isub, 1) := by decide +kernel
theorem dX1_blindFlips_145 : decode cX1_blindFlips 145 = .ok (.isub, 1) := by decide +kernel
theorem dX1_blindFlips_146 : decode cX1_blindFlips 146 = .ok (.istore 4, 2) := by decide +kernel
theorem dX1_blindFlips_148 : decode cX1_blindFlips 148 = .ok (.iload 5, 2) := by decide +kernel
theorem dX1_blindFlips_150 : decode cX1_blindFlips 150 = .ok (.iconst 1, 1) := by decide +kernel
theorem dX1_blindFlips_151 : decode cX1_blindFlips 151 = .ok (.iload 8, 2) := by decide +kernel
theorem dX1_blindFlips_153 : decode cX1_blindFlips 153 = .ok (.iadd, 1) := by decide +kernel
theorem dX1_blindFlips_154 : decode cX1_blindFlips 154 = .ok (.iadd, 1) := by decide +kernel
theorem dX1_blindFlips_155 : decode cX1_blindFlips 155 = .ok (.istore 5, 2) := by decide +kernel
theorem dX1_blindFlips_157 : decode cX1_blindFlips 157 = .ok (.iinc 6 1, 3) := by decide +kernel
theorem dX1_blindFlips_160 : decode cX1_blindFlips 160 = .ok (.goto (-134), 3) := by decide +kernel
theorem dX1_blindFlips_163 : decode cX1_blindFlips 163 = .ok (.iload 4, 2) := by decide +kernel
theorem dX1_blindFlips_165 : decode cX1_blindFlips 165 = .ok (.ireturn, 1) := by decide +kernel
theorem dX1_blindCodes_0 : decode cX1_blindCodes 0 = .ok (.iconst 0, 1) := by decide +kernel
theorem dX1_blindCodes_1 : decode cX1_blindCodes 1 = .ok (.istore_n 3, 1) := by decide +kernel
theorem dX1_blindCodes_2 : decode cX1_blindCodes 2 = .ok (.aload_n 0, 1) := by decide +kernel
theorem dX1_blindCodes_3 : decode cX1_blindCodes 3 = .ok (.getfield 30, 3) := by decide +kernel
theorem dX1_blindCodes_6 : decode cX1_blindCodes 6 = .ok (.iload_n 1, 1) := by decide +kernel
theorem dX1_blindCodes_7 : decode cX1_blindCodes 7 = .ok (.invokevirtual 95, 3) := by decide +kernel
theorem dX1_blindCodes_10 : decode cX1_blindCodes 10 = .ok (.istore 4, 2) := by decide +kernel
theorem dX1_blindCodes_12 : decode cX1_blindCodes 12 = .ok (.iconst 1, 1) := by decide +kernel
theorem dX1_blindCodes_13 : decode cX1_blindCodes 13 = .ok (.istore 5, 2) := by decide +kernel
theorem dX1_blindCodes_15 : decode cX1_blindCodes 15 = .ok (.iload 5, 2) := by decide +kernel
theorem dX1_blindCodes_17 : decode cX1_blindCodes 17 = .ok (.sipush 255, 3) := by decide +kernel
theorem dX1_blindCodes_20 : decode cX1_blindCodes 20 = .ok (.if_icmp .gt 77, 3) := by decide +kernel
theorem dX1_blindCodes_23 : decode cX1_blindCodes 23 = .ok (.iload 5, 2) := by decide +kernel
theorem dX1_blindCodes_25 : decode cX1_blindCodes 25 = .ok (.iload 4, 2) := by decide +kernel
theorem dX1_blindCodes_27 : decode cX1_blindCodes 27 = .ok (.if_icmp .eq 64, 3) := by decide +kernel
theorem dX1_blindCodes_30 : decode cX1_blindCodes 30 = .ok (.aload_n 0, 1) := by decide +kernel
theorem dX1_blindCodes_31 : decode cX1_blindCodes 31 = .ok (.getfield 12, 3) := by decide +kernel
theorem dX1_blindCodes_34 : decode cX1_blindCodes 34 = .ok (.getfield 82, 3) := by decide +kernel
theorem dX1_blindCodes_37 : decode cX1_blindCodes 37 = .ok (.iload 5, 2) := by decide +kernel
theorem dX1_blindCodes_39 : decode cX1_blindCodes 39 = .ok (.iload_n 2, 1) := by decide +kernel
theorem dX1_blindCodes_40 : decode cX1_blindCodes 40 = .ok (.aload_n 0, 1) := by decide +kernel
theorem dX1_blindCodes_41 : decode cX1_blindCodes 41 = .ok (.getfield 12, 3) := by decide +kernel
theorem dX1_blindCodes_44 : decode cX1_blindCodes 44 = .ok (.getfield 86, 3) := by decide +kernel
theorem dX1_blindCodes_47 : decode cX1_blindCodes 47 = .ok (.invokevirtual 117, 3) := by decide +kernel
theorem dX1_blindCodes_50 : decode cX1_blindCodes 50 = .ok (.iconst (-1), 1) := by decide +kernel
theorem dX1_blindCodes_51 : decode cX1_blindCodes 51 = .ok (.if_icmp .eq 40, 3) := by decide +kernel
theorem dX1_blindCodes_54 : decode cX1_blindCodes 54 = .ok (.aload_n 0, 1) := by decide +kernel
theorem dX1_blindCodes_55 : decode cX1_blindCodes 55 = .ok (.getfield 30, 3) := by decide +kernel
theorem dX1_blindCodes_58 : decode cX1_blindCodes 58 = .ok (.iload_n 1, 1) := by decide +kernel
theorem dX1_blindCodes_59 : decode cX1_blindCodes 59 = .ok (.iload 5, 2) := by decide +kernel
theorem dX1_blindCodes_61 : decode cX1_blindCodes 61 = .ok (.invokevirtual 124, 3) := by decide +kernel
theorem dX1_blindCodes_64 : decode cX1_blindCodes 64 = .ok (.iload_n 3, 1) := by decide +kernel
theorem dX1_blindCodes_65 : decode cX1_blindCodes 65 = .ok (.aload_n 0, 1) := by decide +kernel
theorem dX1_blindCodes_66 : decode cX1_blindCodes 66 = .ok (.aload_n 0, 1) := by decide +kernel
theorem dX1_blindCodes_67 : decode cX1_blindCodes 67 = .ok (.getfield 30, 3) := by decide +kernel
theorem dX1_blindCodes_70 : decode cX1_blindCodes 70 = .ok (.iconst 0, 1) := by decide +kernel
theorem dX1_blindCodes_71 : decode cX1_blindCodes 71 = .ok (.aload_n 0, 1) := by decide +kernel
theorem dX1_blindCodes_72 : decode cX1_blindCodes 72 = .ok (.getfield 30, 3) := by decide +kernel
theorem dX1_blindCodes_75 : decode cX1_blindCodes 75 = .ok (.getfield 77, 3) := by decide +kernel
theorem dX1_blindCodes_78 : decode cX1_blindCodes 78 = .ok (.invokevirtual 128, 3) := by decide +kernel
theorem dX1_blindCodes_81 : decode cX1_blindCodes 81 = .ok (.ifCond .ne 7, 3) := by decide +kernel
theorem dX1_blindCodes_84 : decode cX1_blindCodes 84 = .ok (.iconst 1, 1) := by decide +kernel
theorem dX1_blindCodes_85 : decode cX1_blindCodes 85 = .ok (.goto 4, 3) := by decide +kernel
theorem dX1_blindCodes_88 : decode cX1_blindCodes 88 = .ok (.iconst 0, 1) := by decide +kernel
theorem dX1_blindCodes_89 : decode cX1_blindCodes 89 = .ok (.iadd, 1) := by decide +kernel
theorem dX1_blindCodes_90 : decode cX1_blindCodes 90 = .ok (.istore_n 3, 1) := by decide +kernel
theorem dX1_blindCodes_91 : decode cX1_blindCodes 91 = .ok (.iinc 5 1, 3) := by decide +kernel
theorem dX1_blindCodes_94 : decode cX1_blindCodes 94 = .ok (.goto (-79), 3) := by decide +kernel
theorem dX1_blindCodes_97 : decode cX1_blindCodes 97 = .ok (.aload_n 0, 1) := by decide +kernel
theorem dX1_blindCodes_98 : decode cX1_blindCodes 98 = .ok (.getfield 30, 3) := by decide +kernel
theorem dX1_blindCodes_101 : decode cX1_blindCodes 101 = .ok (.iload_n 1, 1) := by decide +kernel
theorem dX1_blindCodes_102 : decode cX1_blindCodes 102 = .ok (.iload 4, 2) := by decide +kernel
theorem dX1_blindCodes_104 : decode cX1_blindCodes 104 = .ok (.invokevirtual 124, 3) := by decide +kernel
theorem dX1_blindCodes_107 : decode cX1_blindCodes 107 = .ok (.iload_n 3, 1) := by decide +kernel
theorem dX1_blindCodes_108 : decode cX1_blindCodes 108 = .ok (.ireturn, 1) := by decide +kernel
theorem dX2_init_0 : decode cX2_init 0 = .ok (.aload_n 0, 1) := by decide +kernel
theorem dX2_init_1 : decode cX2_init 1 = .ok (.invokespecial 3, 3) := by decide +kernel
theorem dX2_init_4 : decode cX2_init 4 = .ok (.aload_n 0, 1) := by decide +kernel
theorem dX2_init_5 : decode cX2_init 5 = .ok (.new 9, 3) := by decide +kernel
theorem dX2_init_8 : decode cX2_init 8 = .ok (.dup, 1) := by decide +kernel
theorem dX2_init_9 : decode cX2_init 9 = .ok (.sipush 960, 3) := by decide +kernel
theorem dX2_init_12 : decode cX2_init 12 = .ok (.invokespecial 11, 3) := by decide +kernel
theorem dX2_init_15 : decode cX2_init 15 = .ok (.putfield 14, 3) := by decide +kernel
theorem dX2_init_18 : decode cX2_init 18 = .ok (.aload_n 0, 1) := by decide +kernel
theorem dX2_init_19 : decode cX2_init 19 = .ok (.new 9, 3) := by decide +kernel
theorem dX2_init_22 : decode cX2_init 22 = .ok (.dup, 1) := by decide +kernel
theorem dX2_init_23 : decode cX2_init 23 = .ok (.bipush 8, 2) := by decide +kernel
theorem dX2_init_25 : decode cX2_init 25 = .ok (.invokespecial 11, 3) := by decide +kernel
theorem dX2_init_28 : decode cX2_init 28 = .ok (.putfield 20, 3) := by decide +kernel
theorem dX2_init_31 : decode cX2_init 31 = .ok (.aload_n 0, 1) := by decide +kernel
theorem dX2_init_32 : decode cX2_init 32 = .ok (.new 9, 3) := by decide +kernel
theorem dX2_init_35 : decode cX2_init 35 = .ok (.dup, 1) := by decide +kernel
theorem dX2_init_36 : decode cX2_init 36 = .ok (.bipush 8, 2) := by decide +kernel
theorem dX2_init_38 : decode cX2_init 38 = .ok (.invokespecial 11, 3) := by decide +kernel
theorem dX2_init_41 : decode cX2_init 41 = .ok (.putfield 23, 3) := by decide +kernel
theorem dX2_init_44 : decode cX2_init 44 = .ok (.return_, 1) := by decide +kernel
theorem dX2_many_0 : decode cX2_many 0 = .ok (.aload_n 0, 1) := by decide +kernel
theorem dX2_many_1 : decode cX2_many 1 = .ok (.getfield 20, 3) := by decide +kernel
theorem dX2_many_4 : decode cX2_many 4 = .ok (.getfield 26, 3) := by decide +kernel
theorem dX2_many_7 : decode cX2_many 7 = .ok (.ireturn, 1) := by decide +kernel
theorem dX2_firstLength_0 : decode cX2_firstLength 0 = .ok (.iconst 0, 1) := by decide +kernel
theorem dX2_firstLength_1 : decode cX2_firstLength 1 = .ok (.aload_n 0, 1) := by decide +kernel
theorem dX2_firstLength_2 : decode cX2_firstLength 2 = .ok (.getfield 20, 3) := by decide +kernel
theorem dX2_firstLength_5 : decode cX2_firstLength 5 = .ok (.iconst 0, 1) := by decide +kernel
theorem dX2_firstLength_6 : decode cX2_firstLength 6 = .ok (.invokevirtual 30, 3) := by decide +kernel
theorem dX2_firstLength_9 : decode cX2_firstLength 9 = .ok (.invokestatic 34, 3) := by decide +kernel
theorem dX2_firstLength_12 : decode cX2_firstLength 12 = .ok (.ireturn, 1) := by decide +kernel
theorem dX2_firstFrames_0 : decode cX2_firstFrames 0 = .ok (.iconst 0, 1) := by decide +kernel
theorem dX2_firstFrames_1 : decode cX2_firstFrames 1 = .ok (.aload_n 0, 1) := by decide +kernel
theorem dX2_firstFrames_2 : decode cX2_firstFrames 2 = .ok (.getfield 23, 3) := by decide +kernel
theorem dX2_firstFrames_5 : decode cX2_firstFrames 5 = .ok (.iconst 0, 1) := by decide +kernel
theorem dX2_firstFrames_6 : decode cX2_firstFrames 6 = .ok (.invokevirtual 30, 3) := by decide +kernel
theorem dX2_firstFrames_9 : decode cX2_firstFrames 9 = .ok (.invokestatic 34, 3) := by decide +kernel
theorem dX2_firstFrames_12 : decode cX2_firstFrames 12 = .ok (.ireturn, 1) := by decide +kernel
theorem dX2_push_0 : decode cX2_push 0 = .ok (.aload_n 0, 1) := by decide +kernel
theorem dX2_push_1 : decode cX2_push 1 = .ok (.getfield 14, 3) := by decide +kernel
theorem dX2_push_4 : decode cX2_push 4 = .ok (.aload_n 1, 1) := by decide +kernel
theorem dX2_push_5 : decode cX2_push 5 = .ok (.iconst 0, 1) := by decide +kernel
theorem dX2_push_6 : decode cX2_push 6 = .ok (.aload_n 1, 1) := by decide +kernel
theorem dX2_push_7 : decode cX2_push 7 = .ok (.getfield 26, 3) := by decide +kernel
theorem dX2_push_10 : decode cX2_push 10 = .ok (.invokevirtual 40, 3) := by decide +kernel
theorem dX2_push_13 : decode cX2_push 13 = .ok (.aload_n 0, 1) := by decide +kernel
theorem dX2_push_14 : decode cX2_push 14 = .ok (.getfield 20, 3) := by decide +kernel
theorem dX2_push_17 : decode cX2_push 17 = .ok (.aload_n 1, 1) := by decide +kernel
theorem dX2_push_18 : decode cX2_push 18 = .ok (.getfield 26, 3) := by decide +kernel
theorem dX2_push_21 : decode cX2_push 21 = .ok (.invokevirtual 44, 3) := by decide +kernel
theorem dX2_push_24 : decode cX2_push 24 = .ok (.aload_n 0, 1) := by decide +kernel
theorem dX2_push_25 : decode cX2_push 25 = .ok (.getfield 23, 3) := by decide +kernel
theorem dX2_push_28 : decode cX2_push 28 = .ok (.iload_n 2, 1) := by decide +kernel
theorem dX2_push_29 : decode cX2_push 29 = .ok (.invokevirtual 44, 3) := by decide +kernel
theorem dX2_push_32 : decode cX2_push 32 = .ok (.return_, 1) := by decide +kernel
theorem dX2_dropFirst_0 : decode cX2_dropFirst 0 = .ok (.aload_n 0, 1) := by decide +kernel
theorem dX2_dropFirst_1 : decode cX2_dropFirst 1 = .ok (.getfield 14, 3) := by decide +kernel
theorem dX2_dropFirst_4 : decode cX2_dropFirst 4 = .ok (.aload_n 0, 1) := by decide +kernel
theorem dX2_dropFirst_5 : decode cX2_dropFirst 5 = .ok (.invokevirtual 47, 3) := by decide +kernel
theorem dX2_dropFirst_8 : decode cX2_dropFirst 8 = .ok (.invokevirtual 51, 3) := by decide +kernel
theorem dX2_dropFirst_11 : decode cX2_dropFirst 11 = .ok (.aload_n 0, 1) := by decide +kernel
theorem dX2_dropFirst_12 : decode cX2_dropFirst 12 = .ok (.getfield 20, 3) := by decide +kernel
theorem dX2_dropFirst_15 : decode cX2_dropFirst 15 = .ok (.iconst 1, 1) := by decide +kernel
theorem dX2_dropFirst_16 : decode cX2_dropFirst 16 = .ok (.invokevirtual 51, 3) := by decide +kernel
theorem dX2_dropFirst_19 : decode cX2_dropFirst 19 = .ok (.aload_n 0, 1) := by decide +kernel
theorem dX2_dropFirst_20 : decode cX2_dropFirst 20 = .ok (.getfield 23, 3) := by decide +kernel
theorem dX2_dropFirst_23 : decode cX2_dropFirst 23 = .ok (.iconst 1, 1) := by decide +kernel
theorem dX2_dropFirst_24 : decode cX2_dropFirst 24 = .ok (.invokevirtual 51, 3) := by decide +kernel
theorem dX2_dropFirst_27 : decode cX2_dropFirst 27 = .ok (.return_, 1) := by decide +kernel
theorem dX2_clear_0 : decode cX2_clear 0 = .ok (.aload_n 0, 1) := by decide +kernel
theorem dX2_clear_1 : decode cX2_clear 1 = .ok (.getfield 14, 3) := by decide +kernel
theorem dX2_clear_4 : decode cX2_clear 4 = .ok (.invokevirtual 54, 3) := by decide +kernel
theorem dX2_clear_7 : decode cX2_clear 7 = .ok (.aload_n 0, 1) := by decide +kernel
theorem dX2_clear_8 : decode cX2_clear 8 = .ok (.getfield 20, 3) := by decide +kernel
theorem dX2_clear_11 : decode cX2_clear 11 = .ok (.invokevirtual 54, 3) := by decide +kernel
theorem dX2_clear_14 : decode cX2_clear 14 = .ok (.aload_n 0, 1) := by decide +kernel
theorem dX2_clear_15 : decode cX2_clear 15 = .ok (.getfield 23, 3) := by decide +kernel
theorem dX2_clear_18 : decode cX2_clear 18 = .ok (.invokevirtual 54, 3) := by decide +kernel
theorem dX2_clear_21 : decode cX2_clear 21 = .ok (.return_, 1) := by decide +kernel
theorem dX2_copyFrom_0 : decode cX2_copyFrom 0 = .ok (.aload_n 0, 1) := by decide +kernel
theorem dX2_copyFrom_1 : decode cX2_copyFrom 1 = .ok (.getfield 14, 3) := by decide +kernel
theorem dX2_copyFrom_4 : decode cX2_copyFrom 4 = .ok (.aload_n 1, 1) := by decide +kernel
theorem dX2_copyFrom_5 : decode cX2_copyFrom 5 = .ok (.getfield 14, 3) := by decide +kernel
theorem dX2_copyFrom_8 : decode cX2_copyFrom 8 = .ok (.invokevirtual 57, 3) := by decide +kernel
theorem dX2_copyFrom_11 : decode cX2_copyFrom 11 = .ok (.aload_n 0, 1) := by decide +kernel
theorem dX2_copyFrom_12 : decode cX2_copyFrom 12 = .ok (.getfield 20, 3) := by decide +kernel
theorem dX2_copyFrom_15 : decode cX2_copyFrom 15 = .ok (.aload_n 1, 1) := by decide +kernel
theorem dX2_copyFrom_16 : decode cX2_copyFrom 16 = .ok (.getfield 20, 3) := by decide +kernel
theorem dX2_copyFrom_19 : decode cX2_copyFrom 19 = .ok (.invokevirtual 57, 3) := by decide +kernel
theorem dX2_copyFrom_22 : decode cX2_copyFrom 22 = .ok (.aload_n 0, 1) := by decide +kernel
theorem dX2_copyFrom_23 : decode cX2_copyFrom 23 = .ok (.getfield 23, 3) := by decide +kernel
theorem dX2_copyFrom_26 : decode cX2_copyFrom 26 = .ok (.aload_n 1, 1) := by decide +kernel
theorem dX2_copyFrom_27 : decode cX2_copyFrom 27 = .ok (.getfield 23, 3) := by decide +kernel
theorem dX2_copyFrom_30 : decode cX2_copyFrom 30 = .ok (.invokevirtual 57, 3) := by decide +kernel
theorem dX2_copyFrom_33 : decode cX2_copyFrom 33 = .ok (.return_, 1) := by decide +kernel
theorem dX3_init_0 : decode cX3_init 0 = .ok (.aload_n 0, 1) := by decide +kernel
theorem dX3_init_1 : decode cX3_init 1 = .ok (.invokespecial 3, 3) := by decide +kernel
theorem dX3_init_4 : decode cX3_init 4 = .ok (.aload_n 0, 1) := by decide +kernel
theorem dX3_init_5 : decode cX3_init 5 = .ok (.bipush 13, 2) := by decide +kernel
theorem dX3_init_7 : decode cX3_init 7 = .ok (.anewarray 9, 3) := by decide +kernel
theorem dX3_init_10 : decode cX3_init 10 = .ok (.putfield 11, 3) := by decide +kernel
theorem dX3_init_13 : decode cX3_init 13 = .ok (.return_, 1) := by decide +kernel
theorem dX3_forget_0 : decode cX3_forget 0 = .ok (.aload_n 0, 1) := by decide +kernel
theorem dX3_forget_1 : decode cX3_forget 1 = .ok (.iconst 0, 1) := by decide +kernel
theorem dX3_forget_2 : decode cX3_forget 2 = .ok (.putfield 17, 3) := by decide +kernel
theorem dX3_forget_5 : decode cX3_forget 5 = .ok (.return_, 1) := by decide +kernel
theorem dX3_stage_0 : decode cX3_stage 0 = .ok (.aload_n 0, 1) := by decide +kernel
theorem dX3_stage_1 : decode cX3_stage 1 = .ok (.getfield 11, 3) := by decide +kernel
theorem dX3_stage_4 : decode cX3_stage 4 = .ok (.aload_n 0, 1) := by decide +kernel
theorem dX3_stage_5 : decode cX3_stage 5 = .ok (.getfield 21, 3) := by decide +kernel
theorem dX3_stage_8 : decode cX3_stage 8 = .ok (.aaload, 1) := by decide +kernel
theorem dX3_stage_9 : decode cX3_stage 9 = .ok (.ifnonnull 19, 3) := by decide +kernel
theorem dX3_stage_12 : decode cX3_stage 12 = .ok (.aload_n 0, 1) := by decide +kernel
theorem dX3_stage_13 : decode cX3_stage 13 = .ok (.getfield 11, 3) := by decide +kernel
theorem dX3_stage_16 : decode cX3_stage 16 = .ok (.aload_n 0, 1) := by decide +kernel
theorem dX3_stage_17 : decode cX3_stage 17 = .ok (.getfield 21, 3) := by decide +kernel
theorem dX3_stage_20 : decode cX3_stage 20 = .ok (.new 9, 3) := by decide +kernel
theorem dX3_stage_23 : decode cX3_stage 23 = .ok (.dup, 1) := by decide +kernel
theorem dX3_stage_24 : decode cX3_stage 24 = .ok (.invokespecial 24, 3) := by decide +kernel
theorem dX3_stage_27 : decode cX3_stage 27 = .ok (.aastore, 1) := by decide +kernel
theorem dX3_stage_28 : decode cX3_stage 28 = .ok (.aload_n 0, 1) := by decide +kernel
theorem dX3_stage_29 : decode cX3_stage 29 = .ok (.getfield 11, 3) := by decide +kernel
theorem dX3_stage_32 : decode cX3_stage 32 = .ok (.aload_n 0, 1) := by decide +kernel
theorem dX3_stage_33 : decode cX3_stage 33 = .ok (.getfield 21, 3) := by decide +kernel
theorem dX3_stage_36 : decode cX3_stage 36 = .ok (.aaload, 1) := by decide +kernel
theorem dX3_stage_37 : decode cX3_stage 37 = .ok (.aload_n 1, 1) := by decide +kernel
theorem dX3_stage_38 : decode cX3_stage 38 = .ok (.invokevirtual 25, 3) := by decide +kernel
theorem dX3_stage_41 : decode cX3_stage 41 = .ok (.return_, 1) := by decide +kernel
theorem dX3_commit_0 : decode cX3_commit 0 = .ok (.aload_n 0, 1) := by decide +kernel
theorem dX3_commit_1 : decode cX3_commit 1 = .ok (.aload_n 0, 1) := by decide +kernel
theorem dX3_commit_2 : decode cX3_commit 2 = .ok (.getfield 21, 3) := by decide +kernel
theorem dX3_commit_5 : decode cX3_commit 5 = .ok (.iconst 1, 1) := by decide +kernel
theorem dX3_commit_6 : decode cX3_commit 6 = .ok (.iadd, 1) := by decide +kernel
theorem dX3_commit_7 : decode cX3_commit 7 = .ok (.bipush 13, 2) := by decide +kernel
theorem dX3_commit_9 : decode cX3_commit 9 = .ok (.irem, 1) := by decide +kernel
theorem dX3_commit_10 : decode cX3_commit 10 = .ok (.putfield 21, 3) := by decide +kernel
theorem dX3_commit_13 : decode cX3_commit 13 = .ok (.aload_n 0, 1) := by decide +kernel
theorem dX3_commit_14 : decode cX3_commit 14 = .ok (.bipush 12, 2) := by decide +kernel
theorem dX3_commit_16 : decode cX3_commit 16 = .ok (.aload_n 0, 1) := by decide +kernel
theorem dX3_commit_17 : decode cX3_commit 17 = .ok (.getfield 17, 3) := by decide +kernel
theorem dX3_commit_20 : decode cX3_commit 20 = .ok (.iconst 1, 1) := by decide +kernel
theorem dX3_commit_21 : decode cX3_commit 21 = .ok (.iadd, 1) := by decide +kernel
theorem dX3_commit_22 : decode cX3_commit 22 = .ok (.invokestatic 29, 3) := by decide +kernel
theorem dX3_commit_25 : decode cX3_commit 25 = .ok (.putfield 17, 3) := by decide +kernel
theorem dX3_commit_28 : decode cX3_commit 28 = .ok (.return_, 1) := by decide +kernel
theorem dX3_swapBack_0 : decode cX3_swapBack 0 = .ok (.aload_n 0, 1) := by decide +kernel
theorem dX3_swapBack_1 : decode cX3_swapBack 1 = .ok (.getfield 21, 3) := by decide +kernel
theorem dX3_swapBack_4 : decode cX3_swapBack 4 = .ok (.bipush 12, 2) := by decide +kernel
theorem dX3_swapBack_6 : decode cX3_swapBack 6 = .ok (.iadd, 1) := by decide +kernel
theorem dX3_swapBack_7 : decode cX3_swapBack 7 = .ok (.bipush 13, 2) := by decide +kernel
theorem dX3_swapBack_9 : decode cX3_swapBack 9 = .ok (.irem, 1) := by decide +kernel
theorem dX3_swapBack_10 : decode cX3_swapBack 10 = .ok (.istore_n 2, 1) := by decide +kernel
theorem dX3_swapBack_11 : decode cX3_swapBack 11 = .ok (.aload_n 0, 1) := by decide +kernel
theorem dX3_swapBack_12 : decode cX3_swapBack 12 = .ok (.getfield 11, 3) := by decide +kernel
theorem dX3_swapBack_15 : decode cX3_swapBack 15 = .ok (.iload_n 2, 1) := by decide +kernel
theorem dX3_swapBack_16 : decode cX3_swapBack 16 = .ok (.aaload, 1) := by decide +kernel
theorem dX3_swapBack_17 : decode cX3_swapBack 17 = .ok (.astore_n 3, 1) := by decide +kernel
theorem dX3_swapBack_18 : decode cX3_swapBack 18 = .ok (.aload_n 0, 1) := by decide +kernel
theorem dX3_swapBack_19 : decode cX3_swapBack 19 = .ok (.getfield 17, 3) := by decide +kernel
theorem dX3_swapBack_22 : decode cX3_swapBack 22 = .ok (.ifCond .eq 7, 3) := by decide +kernel
theorem dX3_swapBack_25 : decode cX3_swapBack 25 = .ok (.aload_n 3, 1) := by decide +kernel
theorem dX3_swapBack_26 : decode cX3_swapBack 26 = .ok (.ifnonnull 5, 3) := by decide +kernel
theorem dX3_swapBack_29 : decode cX3_swapBack 29 = .ok (.aload_n 1, 1) := by decide +kernel
theorem dX3_swapBack_30 : decode cX3_swapBack 30 = .ok (.areturn, 1) := by decide +kernel
theorem dX3_swapBack_31 : decode cX3_swapBack 31 = .ok (.aload_n 0, 1) := by decide +kernel
theorem dX3_swapBack_32 : decode cX3_swapBack 32 = .ok (.getfield 11, 3) := by decide +kernel
theorem dX3_swapBack_35 : decode cX3_swapBack 35 = .ok (.iload_n 2, 1) := by decide +kernel
theorem dX3_swapBack_36 : decode cX3_swapBack 36 = .ok (.aload_n 1, 1) := by decide +kernel
theorem dX3_swapBack_37 : decode cX3_swapBack 37 = .ok (.aastore, 1) := by decide +kernel
theorem dX3_swapBack_38 : decode cX3_swapBack 38 = .ok (.aload_n 0, 1) := by decide +kernel
theorem dX3_swapBack_39 : decode cX3_swapBack 39 = .ok (.iload_n 2, 1) := by decide +kernel
theorem dX3_swapBack_40 : decode cX3_swapBack 40 = .ok (.putfield 21, 3) := by decide +kernel
theorem dX3_swapBack_43 : decode cX3_swapBack 43 = .ok (.aload_n 0, 1) := by decide +kernel
theorem dX3_swapBack_44 : decode cX3_swapBack 44 = .ok (.dup, 1) := by decide +kernel
theorem dX3_swapBack_45 : decode cX3_swapBack 45 = .ok (.getfield 17, 3) := by decide +kernel
theorem dX3_swapBack_48 : decode cX3_swapBack 48 = .ok (.iconst 1, 1) := by decide +kernel
theorem dX3_swapBack_49 : decode cX3_swapBack 49 = .ok (.isub, 1) := by decide +kernel
theorem dX3_swapBack_50 : decode cX3_swapBack 50 = .ok (.putfield 17, 3) := by decide +kernel
theorem dX3_swapBack_53 : decode cX3_swapBack 53 = .ok (.aload_n 3, 1) := by decide +kernel
theorem dX3_swapBack_54 : decode cX3_swapBack 54 = .ok (.areturn, 1) := by decide +kernel
theorem dX4_init_0 : decode cX4_init 0 = .ok (.aload_n 0, 1) := by decide +kernel
theorem dX4_init_1 : decode cX4_init 1 = .ok (.invokespecial 3, 3) := by decide +kernel
theorem dX4_init_4 : decode cX4_init 4 = .ok (.aload_n 0, 1) := by decide +kernel
theorem dX4_init_5 : decode cX4_init 5 = .ok (.new 9, 3) := by decide +kernel
theorem dX4_init_8 : decode cX4_init 8 = .ok (.dup, 1) := by decide +kernel
theorem dX4_init_9 : decode cX4_init 9 = .ok (.invokespecial 11, 3) := by decide +kernel
theorem dX4_init_12 : decode cX4_init 12 = .ok (.putfield 12, 3) := by decide +kernel
theorem dX4_init_15 : decode cX4_init 15 = .ok (.aload_n 0, 1) := by decide +kernel
theorem dX4_init_16 : decode cX4_init 16 = .ok (.new 9, 3) := by decide +kernel
theorem dX4_init_19 : decode cX4_init 19 = .ok (.dup, 1) := by decide +kernel
theorem dX4_init_20 : decode cX4_init 20 = .ok (.invokespecial 11, 3) := by decide +kernel
theorem dX4_init_23 : decode cX4_init 23 = .ok (.putfield 18, 3) := by decide +kernel
theorem dX4_init_26 : decode cX4_init 26 = .ok (.aload_n 0, 1) := by decide +kernel
theorem dX4_init_27 : decode cX4_init 27 = .ok (.new 21, 3) := by decide +kernel
theorem dX4_init_30 : decode cX4_init 30 = .ok (.dup, 1) := by decide +kernel
theorem dX4_init_31 : decode cX4_init 31 = .ok (.bipush 120, 2) := by decide +kernel
theorem dX4_init_33 : decode cX4_init 33 = .ok (.invokespecial 23, 3) := by decide +kernel
theorem dX4_init_36 : decode cX4_init 36 = .ok (.putfield 26, 3) := by decide +kernel
theorem dX4_init_39 : decode cX4_init 39 = .ok (.return_, 1) := by decide +kernel
theorem dX4_reset_0 : decode cX4_reset 0 = .ok (.aload_n 0, 1) := by decide +kernel
theorem dX4_reset_1 : decode cX4_reset 1 = .ok (.getfield 12, 3) := by decide +kernel
theorem dX4_reset_4 : decode cX4_reset 4 = .ok (.invokevirtual 30, 3) := by decide +kernel
theorem dX4_reset_7 : decode cX4_reset 7 = .ok (.aload_n 0, 1) := by decide +kernel
theorem dX4_reset_8 : decode cX4_reset 8 = .ok (.getfield 18, 3) := by decide +kernel
theorem dX4_reset_11 : decode cX4_reset 11 = .ok (.invokevirtual 30, 3) := by decide +kernel
theorem dX4_reset_14 : decode cX4_reset 14 = .ok (.aload_n 0, 1) := by decide +kernel
theorem dX4_reset_15 : decode cX4_reset 15 = .ok (.getfield 26, 3) := by decide +kernel
theorem dX4_reset_18 : decode cX4_reset 18 = .ok (.invokevirtual 33, 3) := by decide +kernel
theorem dX4_reset_21 : decode cX4_reset 21 = .ok (.aload_n 0, 1) := by decide +kernel
theorem dX4_reset_22 : decode cX4_reset 22 = .ok (.iload_n 1, 1) := by decide +kernel
theorem dX4_reset_23 : decode cX4_reset 23 = .ok (.putfield 34, 3) := by decide +kernel
theorem dX4_reset_26 : decode cX4_reset 26 = .ok (.aload_n 0, 1) := by decide +kernel
theorem dX4_reset_27 : decode cX4_reset 27 = .ok (.iload_n 1, 1) := by decide +kernel
theorem dX4_reset_28 : decode cX4_reset 28 = .ok (.putfield 38, 3) := by decide +kernel
theorem dX4_reset_31 : decode cX4_reset 31 = .ok (.aload_n 0, 1) := by decide +kernel
theorem dX4_reset_32 : decode cX4_reset 32 = .ok (.iconst 0, 1) := by decide +kernel
theorem dX4_reset_33 : decode cX4_reset 33 = .ok (.putfield 41, 3) := by decide +kernel
theorem dX4_reset_36 : decode cX4_reset 36 = .ok (.aload_n 0, 1) := by decide +kernel
theorem dX4_reset_37 : decode cX4_reset 37 = .ok (.iconst 0, 1) := by decide +kernel
theorem dX4_reset_38 : decode cX4_reset 38 = .ok (.putfield 44, 3) := by decide +kernel
theorem dX4_reset_41 : decode cX4_reset 41 = .ok (.aload_n 0, 1) := by decide +kernel
theorem dX4_reset_42 : decode cX4_reset 42 = .ok (.iconst 0, 1) := by decide +kernel
theorem dX4_reset_43 : decode cX4_reset 43 = .ok (.putfield 47, 3) := by decide +kernel
theorem dX4_reset_46 : decode cX4_reset 46 = .ok (.aload_n 0, 1) := by decide +kernel
theorem dX4_reset_47 : decode cX4_reset 47 = .ok (.iconst 0, 1) := by decide +kernel
theorem dX4_reset_48 : decode cX4_reset 48 = .ok (.putfield 50, 3) := by decide +kernel
theorem dX4_reset_51 : decode cX4_reset 51 = .ok (.aload_n 0, 1) := by decide +kernel
theorem dX4_reset_52 : decode cX4_reset 52 = .ok (.iconst 0, 1) := by decide +kernel
theorem dX4_reset_53 : decode cX4_reset 53 = .ok (.putfield 53, 3) := by decide +kernel
theorem dX4_reset_56 : decode cX4_reset 56 = .ok (.aload_n 0, 1) := by decide +kernel
theorem dX4_reset_57 : decode cX4_reset 57 = .ok (.iconst 0, 1) := by decide +kernel
theorem dX4_reset_58 : decode cX4_reset 58 = .ok (.putfield 56, 3) := by decide +kernel
theorem dX4_reset_61 : decode cX4_reset 61 = .ok (.aload_n 0, 1) := by decide +kernel
theorem dX4_reset_62 : decode cX4_reset 62 = .ok (.iconst 0, 1) := by decide +kernel
theorem dX4_reset_63 : decode cX4_reset 63 = .ok (.putfield 59, 3) := by decide +kernel
theorem dX4_reset_66 : decode cX4_reset 66 = .ok (.return_, 1) := by decide +kernel
theorem dX4_copyFrom_0 : decode cX4_copyFrom 0 = .ok (.aload_n 0, 1) := by decide +kernel
theorem dX4_copyFrom_1 : decode cX4_copyFrom 1 = .ok (.getfield 12, 3) := by decide +kernel
theorem dX4_copyFrom_4 : decode cX4_copyFrom 4 = .ok (.aload_n 1, 1) := by decide +kernel
theorem dX4_copyFrom_5 : decode cX4_copyFrom 5 = .ok (.getfield 12, 3) := by decide +kernel
theorem dX4_copyFrom_8 : decode cX4_copyFrom 8 = .ok (.invokevirtual 62, 3) := by decide +kernel
theorem dX4_copyFrom_11 : decode cX4_copyFrom 11 = .ok (.aload_n 0, 1) := by decide +kernel
theorem dX4_copyFrom_12 : decode cX4_copyFrom 12 = .ok (.getfield 18, 3) := by decide +kernel
theorem dX4_copyFrom_15 : decode cX4_copyFrom 15 = .ok (.aload_n 1, 1) := by decide +kernel
theorem dX4_copyFrom_16 : decode cX4_copyFrom 16 = .ok (.getfield 18, 3) := by decide +kernel
theorem dX4_copyFrom_19 : decode cX4_copyFrom 19 = .ok (.invokevirtual 62, 3) := by decide +kernel
theorem dX4_copyFrom_22 : decode cX4_copyFrom 22 = .ok (.aload_n 0, 1) := by decide +kernel
theorem dX4_copyFrom_23 : decode cX4_copyFrom 23 = .ok (.getfield 26, 3) := by decide +kernel
theorem dX4_copyFrom_26 : decode cX4_copyFrom 26 = .ok (.aload_n 1, 1) := by decide +kernel
theorem dX4_copyFrom_27 : decode cX4_copyFrom 27 = .ok (.getfield 26, 3) := by decide +kernel
theorem dX4_copyFrom_30 : decode cX4_copyFrom 30 = .ok (.invokevirtual 66, 3) := by decide +kernel
theorem dX4_copyFrom_33 : decode cX4_copyFrom 33 = .ok (.aload_n 0, 1) := by decide +kernel
theorem dX4_copyFrom_34 : decode cX4_copyFrom 34 = .ok (.aload_n 1, 1) := by decide +kernel
theorem dX4_copyFrom_35 : decode cX4_copyFrom 35 = .ok (.getfield 34, 3) := by decide +kernel
theorem dX4_copyFrom_38 : decode cX4_copyFrom 38 = .ok (.putfield 34, 3) := by decide +kernel
theorem dX4_copyFrom_41 : decode cX4_copyFrom 41 = .ok (.aload_n 0, 1) := by decide +kernel
theorem dX4_copyFrom_42 : decode cX4_copyFrom 42 = .ok (.aload_n 1, 1) := by decide +kernel
theorem dX4_copyFrom_43 : decode cX4_copyFrom 43 = .ok (.getfield 38, 3) := by decide +kernel
theorem dX4_copyFrom_46 : decode cX4_copyFrom 46 = .ok (.putfield 38, 3) := by decide +kernel
theorem dX4_copyFrom_49 : decode cX4_copyFrom 49 = .ok (.aload_n 0, 1) := by decide +kernel
theorem dX4_copyFrom_50 : decode cX4_copyFrom 50 = .ok (.aload_n 1, 1) := by decide +kernel
theorem dX4_copyFrom_51 : decode cX4_copyFrom 51 = .ok (.getfield 41, 3) := by decide +kernel
theorem dX4_copyFrom_54 : decode cX4_copyFrom 54 = .ok (.putfield 41, 3) := by decide +kernel
theorem dX4_copyFrom_57 : decode cX4_copyFrom 57 = .ok (.aload_n 0, 1) := by decide +kernel
theorem dX4_copyFrom_58 : decode cX4_copyFrom 58 = .ok (.aload_n 1, 1) := by decide +kernel
theorem dX4_copyFrom_59 : decode cX4_copyFrom 59 = .ok (.getfield 44, 3) := by decide +kernel
theorem dX4_copyFrom_62 : decode cX4_copyFrom 62 = .ok (.putfield 44, 3) := by decide +kernel
theorem dX4_copyFrom_65 : decode cX4_copyFrom 65 = .ok (.aload_n 0, 1) := by decide +kernel
theorem dX4_copyFrom_66 : decode cX4_copyFrom 66 = .ok (.aload_n 1, 1) := by decide +kernel
theorem dX4_copyFrom_67 : decode cX4_copyFrom 67 = .ok (.getfield 47, 3) := by decide +kernel
theorem dX4_copyFrom_70 : decode cX4_copyFrom 70 = .ok (.putfield 47, 3) := by decide +kernel
theorem dX4_copyFrom_73 : decode cX4_copyFrom 73 = .ok (.aload_n 0, 1) := by decide +kernel
theorem dX4_copyFrom_74 : decode cX4_copyFrom 74 = .ok (.aload_n 1, 1) := by decide +kernel
theorem dX4_copyFrom_75 : decode cX4_copyFrom 75 = .ok (.getfield 50, 3) := by decide +kernel
theorem dX4_copyFrom_78 : decode cX4_copyFrom 78 = .ok (.putfield 50, 3) := by decide +kernel
theorem dX4_copyFrom_81 : decode cX4_copyFrom 81 = .ok (.aload_n 0, 1) := by decide +kernel
theorem dX4_copyFrom_82 : decode cX4_copyFrom 82 = .ok (.aload_n 1, 1) := by decide +kernel
theorem dX4_copyFrom_83 : decode cX4_copyFrom 83 = .ok (.getfield 53, 3) := by decide +kernel
theorem dX4_copyFrom_86 : decode cX4_copyFrom 86 = .ok (.putfield 53, 3) := by decide +kernel
theorem dX4_copyFrom_89 : decode cX4_copyFrom 89 = .ok (.aload_n 0, 1) := by decide +kernel
theorem dX4_copyFrom_90 : decode cX4_copyFrom 90 = .ok (.aload_n 1, 1) := by decide +kernel
theorem dX4_copyFrom_91 : decode cX4_copyFrom 91 = .ok (.getfield 56, 3) := by decide +kernel
theorem dX4_copyFrom_94 : decode cX4_copyFrom 94 = .ok (.putfield 56, 3) := by decide +kernel
theorem dX4_copyFrom_97 : decode cX4_copyFrom 97 = .ok (.aload_n 0, 1) := by decide +kernel
theorem dX4_copyFrom_98 : decode cX4_copyFrom 98 = .ok (.aload_n 1, 1) := by decide +kernel
theorem dX4_copyFrom_99 : decode cX4_copyFrom 99 = .ok (.getfield 59, 3) := by decide +kernel
theorem dX4_copyFrom_102 : decode cX4_copyFrom 102 = .ok (.putfield 59, 3) := by decide +kernel
theorem dX4_copyFrom_105 : decode cX4_copyFrom 105 = .ok (.return_, 1) := by decide +kernel
theorem dX4_frameWasPut_0 : decode cX4_frameWasPut 0 = .ok (.aload_n 0, 1) := by decide +kernel
theorem dX4_frameWasPut_1 : decode cX4_frameWasPut 1 = .ok (.dup, 1) := by decide +kernel
theorem dX4_frameWasPut_2 : decode cX4_frameWasPut 2 = .ok (.getfield 38, 3) := by decide +kernel
theorem dX4_frameWasPut_5 : decode cX4_frameWasPut 5 = .ok (.iconst 1, 1) := by decide +kernel
theorem dX4_frameWasPut_6 : decode cX4_frameWasPut 6 = .ok (.isub, 1) := by decide +kernel
theorem dX4_frameWasPut_7 : decode cX4_frameWasPut 7 = .ok (.putfield 38, 3) := by decide +kernel
theorem dX4_frameWasPut_10 : decode cX4_frameWasPut 10 = .ok (.aload_n 0, 1) := by decide +kernel
theorem dX4_frameWasPut_11 : decode cX4_frameWasPut 11 = .ok (.aload_n 0, 1) := by decide +kernel
theorem dX4_frameWasPut_12 : decode cX4_frameWasPut 12 = .ok (.getfield 44, 3) := by decide +kernel
theorem dX4_frameWasPut_15 : decode cX4_frameWasPut 15 = .ok (.iconst 1, 1) := by decide +kernel
theorem dX4_frameWasPut_16 : decode cX4_frameWasPut 16 = .ok (.iadd, 1) := by decide +kernel
theorem dX4_frameWasPut_17 : decode cX4_frameWasPut 17 = .ok (.bipush 15, 2) := by decide +kernel
theorem dX4_frameWasPut_19 : decode cX4_frameWasPut 19 = .ok (.iand, 1) := by decide +kernel
theorem dX4_frameWasPut_20 : decode cX4_frameWasPut 20 = .ok (.putfield 44, 3) := by decide +kernel
theorem dX4_frameWasPut_23 : decode cX4_frameWasPut 23 = .ok (.aload_n 0, 1) := by decide +kernel
theorem dX4_frameWasPut_24 : decode cX4_frameWasPut 24 = .ok (.dup, 1) := by decide +kernel
theorem dX4_frameWasPut_25 : decode cX4_frameWasPut 25 = .ok (.getfield 41, 3) := by decide +kernel
theorem dX4_frameWasPut_28 : decode cX4_frameWasPut 28 = .ok (.iload_n 1, 1) := by decide +kernel
theorem dX4_frameWasPut_29 : decode cX4_frameWasPut 29 = .ok (.iadd, 1) := by decide +kernel
theorem dX4_frameWasPut_30 : decode cX4_frameWasPut 30 = .ok (.putfield 41, 3) := by decide +kernel
theorem dX4_frameWasPut_33 : decode cX4_frameWasPut 33 = .ok (.aload_n 0, 1) := by decide +kernel
theorem dX4_frameWasPut_34 : decode cX4_frameWasPut 34 = .ok (.getfield 41, 3) := by decide +kernel
theorem dX4_frameWasPut_37 : decode cX4_frameWasPut 37 = .ok (.aload_n 0, 1) := by decide +kernel
theorem dX4_frameWasPut_38 : decode cX4_frameWasPut 38 = .ok (.getfield 12, 3) := by decide +kernel
theorem dX4_frameWasPut_41 : decode cX4_frameWasPut 41 = .ok (.invokevirtual 69, 3) := by decide +kernel
theorem dX4_frameWasPut_44 : decode cX4_frameWasPut 44 = .ok (.if_icmp .lt 15, 3) := by decide +kernel
theorem dX4_frameWasPut_47 : decode cX4_frameWasPut 47 = .ok (.aload_n 0, 1) := by decide +kernel
theorem dX4_frameWasPut_48 : decode cX4_frameWasPut 48 = .ok (.getfield 12, 3) := by decide +kernel
theorem dX4_frameWasPut_51 : decode cX4_frameWasPut 51 = .ok (.invokevirtual 73, 3) := by decide +kernel
theorem dX4_frameWasPut_54 : decode cX4_frameWasPut 54 = .ok (.aload_n 0, 1) := by decide +kernel
theorem dX4_frameWasPut_55 : decode cX4_frameWasPut 55 = .ok (.iconst 0, 1) := by decide +kernel
theorem dX4_frameWasPut_56 : decode cX4_frameWasPut 56 = .ok (.putfield 41, 3) := by decide +kernel
theorem dX4_frameWasPut_59 : decode cX4_frameWasPut 59 = .ok (.return_, 1) := by decide +kernel
theorem dX4_accept_0 : decode cX4_accept 0 = .ok (.aload_n 1, 1) := by decide +kernel
theorem dX4_accept_1 : decode cX4_accept 1 = .ok (.iconst 0, 1) := by decide +kernel
theorem dX4_accept_2 : decode cX4_accept 2 = .ok (.invokevirtual 76, 3) := by decide +kernel
theorem dX4_accept_5 : decode cX4_accept 5 = .ok (.istore_n 3, 1) := by decide +kernel
theorem dX4_accept_6 : decode cX4_accept 6 = .ok (.iload_n 3, 1) := by decide +kernel
theorem dX4_accept_7 : decode cX4_accept 7 = .ok (.bipush 15, 2) := by decide +kernel
theorem dX4_accept_9 : decode cX4_accept 9 = .ok (.iand, 1) := by decide +kernel
theorem dX4_accept_10 : decode cX4_accept 10 = .ok (.istore 4, 2) := by decide +kernel
theorem dX4_accept_12 : decode cX4_accept 12 = .ok (.iload 4, 2) := by decide +kernel
theorem dX4_accept_14 : decode cX4_accept 14 = .ok (.aload_n 0, 1) := by decide +kernel
theorem dX4_accept_15 : decode cX4_accept 15 = .ok (.getfield 47, 3) := by decide +kernel
theorem dX4_accept_18 : decode cX4_accept 18 = .ok (.if_icmp .eq 26, 3) := by decide +kernel
theorem dX4_accept_21 : decode cX4_accept 21 = .ok (.aload_n 0, 1) := by decide +kernel
theorem dX4_accept_22 : decode cX4_accept 22 = .ok (.dup, 1) := by decide +kernel
theorem dX4_accept_23 : decode cX4_accept 23 = .ok (.getfield 50, 3) := by decide +kernel
theorem dX4_accept_26 : decode cX4_accept 26 = .ok (.iload 4, 2) := by decide +kernel
theorem dX4_accept_28 : decode cX4_accept 28 = .ok (.aload_n 0, 1) := by decide +kernel
theorem dX4_accept_29 : decode cX4_accept 29 = .ok (.getfield 47, 3) := by decide +kernel
theorem dX4_accept_32 : decode cX4_accept 32 = .ok (.isub, 1) := by decide +kernel
theorem dX4_accept_33 : decode cX4_accept 33 = .ok (.bipush 15, 2) := by decide +kernel
theorem dX4_accept_35 : decode cX4_accept 35 = .ok (.iand, 1) := by decide +kernel
theorem dX4_accept_36 : decode cX4_accept 36 = .ok (.iadd, 1) := by decide +kernel
theorem dX4_accept_37 : decode cX4_accept 37 = .ok (.putfield 50, 3) := by decide +kernel
theorem dX4_accept_40 : decode cX4_accept 40 = .ok (.aload_n 0, 1) := by decide +kernel
theorem dX4_accept_41 : decode cX4_accept 41 = .ok (.invokevirtual 80, 3) := by decide +kernel
theorem dX4_accept_44 : decode cX4_accept 44 = .ok (.aload_n 0, 1) := by decide +kernel
theorem dX4_accept_45 : decode cX4_accept 45 = .ok (.iload 4, 2) := by decide +kernel
theorem dX4_accept_47 : decode cX4_accept 47 = .ok (.iconst 1, 1) := by decide +kernel
theorem dX4_accept_48 : decode cX4_accept 48 = .ok (.iadd, 1) := by decide +kernel
theorem dX4_accept_49 : decode cX4_accept 49 = .ok (.bipush 15, 2) := by decide +kernel
theorem dX4_accept_51 : decode cX4_accept 51 = .ok (.iand, 1) := by decide +kernel
theorem dX4_accept_52 : decode cX4_accept 52 = .ok (.putfield 47, 3) := by decide +kernel
theorem dX4_accept_55 : decode cX4_accept 55 = .ok (.iload_n 3, 1) := by decide +kernel
theorem dX4_accept_56 : decode cX4_accept 56 = .ok (.bipush 32, 2) := by decide +kernel
theorem dX4_accept_58 : decode cX4_accept 58 = .ok (.iand, 1) := by decide +kernel
theorem dX4_accept_59 : decode cX4_accept 59 = .ok (.ifCond .eq 10, 3) := by decide +kernel
theorem dX4_accept_62 : decode cX4_accept 62 = .ok (.aload_n 0, 1) := by decide +kernel
theorem dX4_accept_63 : decode cX4_accept 63 = .ok (.invokevirtual 80, 3) := by decide +kernel
theorem dX4_accept_66 : decode cX4_accept 66 = .ok (.goto 32, 3) := by decide +kernel
theorem dX4_accept_69 : decode cX4_accept 69 = .ok (.aload_n 0, 1) := by decide +kernel
theorem dX4_accept_70 : decode cX4_accept 70 = .ok (.getfield 56, 3) := by decide +kernel
theorem dX4_accept_73 : decode cX4_accept 73 = .ok (.ifCond .ne 5, 3) := by decide +kernel
theorem dX4_accept_76 : decode cX4_accept 76 = .ok (.iconst 5, 1) := by decide +kernel
theorem dX4_accept_77 : decode cX4_accept 77 = .ok (.ireturn, 1) := by decide +kernel
theorem dX4_accept_78 : decode cX4_accept 78 = .ok (.aload_n 0, 1) := by decide +kernel
theorem dX4_accept_79 : decode cX4_accept 79 = .ok (.getfield 26, 3) := by decide +kernel
theorem dX4_accept_82 : decode cX4_accept 82 = .ok (.getfield 83, 3) := by decide +kernel
theorem dX4_accept_85 : decode cX4_accept 85 = .ok (.iload_n 2, 1) := by decide +kernel
theorem dX4_accept_86 : decode cX4_accept 86 = .ok (.iadd, 1) := by decide +kernel
theorem dX4_accept_87 : decode cX4_accept 87 = .ok (.bipush 120, 2) := by decide +kernel
theorem dX4_accept_89 : decode cX4_accept 89 = .ok (.if_icmp .le 9, 3) := by decide +kernel
theorem dX4_accept_92 : decode cX4_accept 92 = .ok (.aload_n 0, 1) := by decide +kernel
theorem dX4_accept_93 : decode cX4_accept 93 = .ok (.invokevirtual 80, 3) := by decide +kernel
theorem dX4_accept_96 : decode cX4_accept 96 = .ok (.iconst 5, 1) := by decide +kernel
theorem dX4_accept_97 : decode cX4_accept 97 = .ok (.ireturn, 1) := by decide +kernel
theorem dX4_accept_98 : decode cX4_accept 98 = .ok (.aload_n 0, 1) := by decide +kernel
theorem dX4_accept_99 : decode cX4_accept 99 = .ok (.getfield 26, 3) := by decide +kernel
theorem dX4_accept_102 : decode cX4_accept 102 = .ok (.aload_n 1, 1) := by decide +kernel
theorem dX4_accept_103 : decode cX4_accept 103 = .ok (.iconst 1, 1) := by decide +kernel
theorem dX4_accept_104 : decode cX4_accept 104 = .ok (.iload_n 2, 1) := by decide +kernel
theorem dX4_accept_105 : decode cX4_accept 105 = .ok (.invokevirtual 86, 3) := by decide +kernel
theorem dX4_accept_108 : decode cX4_accept 108 = .ok (.aload_n 0, 1) := by decide +kernel
theorem dX4_accept_109 : decode cX4_accept 109 = .ok (.dup, 1) := by decide +kernel
theorem dX4_accept_110 : decode cX4_accept 110 = .ok (.getfield 56, 3) := by decide +kernel
theorem dX4_accept_113 : decode cX4_accept 113 = .ok (.iconst 1, 1) := by decide +kernel
theorem dX4_accept_114 : decode cX4_accept 114 = .ok (.iadd, 1) := by decide +kernel
theorem dX4_accept_115 : decode cX4_accept 115 = .ok (.putfield 56, 3) := by decide +kernel
theorem dX4_accept_118 : decode cX4_accept 118 = .ok (.iload_n 3, 1) := by decide +kernel
theorem dX4_accept_119 : decode cX4_accept 119 = .ok (.bipush 16, 2) := by decide +kernel
theorem dX4_accept_121 : decode cX4_accept 121 = .ok (.iand, 1) := by decide +kernel
theorem dX4_accept_122 : decode cX4_accept 122 = .ok (.ifCond .ne 5, 3) := by decide +kernel
theorem dX4_accept_125 : decode cX4_accept 125 = .ok (.iconst 0, 1) := by decide +kernel
theorem dX4_accept_126 : decode cX4_accept 126 = .ok (.ireturn, 1) := by decide +kernel
theorem dX4_accept_127 : decode cX4_accept 127 = .ok (.aload_n 0, 1) := by decide +kernel
theorem dX4_accept_128 : decode cX4_accept 128 = .ok (.getfield 18, 3) := by decide +kernel
theorem dX4_accept_131 : decode cX4_accept 131 = .ok (.invokevirtual 90, 3) := by decide +kernel
theorem dX4_accept_134 : decode cX4_accept 134 = .ok (.bipush 8, 2) := by decide +kernel
theorem dX4_accept_136 : decode cX4_accept 136 = .ok (.if_icmp .lt 10, 3) := by decide +kernel
theorem dX4_accept_139 : decode cX4_accept 139 = .ok (.aload_n 0, 1) := by decide +kernel
theorem dX4_accept_140 : decode cX4_accept 140 = .ok (.invokevirtual 80, 3) := by decide +kernel
theorem dX4_accept_143 : decode cX4_accept 143 = .ok (.bipush 6, 2) := by decide +kernel
theorem dX4_accept_145 : decode cX4_accept 145 = .ok (.ireturn, 1) := by decide +kernel
theorem dX4_accept_146 : decode cX4_accept 146 = .ok (.aload_n 0, 1) := by decide +kernel
theorem dX4_accept_147 : decode cX4_accept 147 = .ok (.getfield 18, 3) := by decide +kernel
theorem dX4_accept_150 : decode cX4_accept 150 = .ok (.aload_n 0, 1) := by decide +kernel
theorem dX4_accept_151 : decode cX4_accept 151 = .ok (.getfield 26, 3) := by decide +kernel
theorem dX4_accept_154 : decode cX4_accept 154 = .ok (.aload_n 0, 1) := by decide +kernel
theorem dX4_accept_155 : decode cX4_accept 155 = .ok (.getfield 56, 3) := by decide +kernel
theorem dX4_accept_158 : decode cX4_accept 158 = .ok (.invokevirtual 93, 3) := by decide +kernel
theorem dX4_accept_161 : decode cX4_accept 161 = .ok (.aload_n 0, 1) := by decide +kernel
theorem dX4_accept_162 : decode cX4_accept 162 = .ok (.getfield 26, 3) := by decide +kernel
theorem dX4_accept_165 : decode cX4_accept 165 = .ok (.invokevirtual 33, 3) := by decide +kernel
theorem dX4_accept_168 : decode cX4_accept 168 = .ok (.aload_n 0, 1) := by decide +kernel
theorem dX4_accept_169 : decode cX4_accept 169 = .ok (.iconst 0, 1) := by decide +kernel
theorem dX4_accept_170 : decode cX4_accept 170 = .ok (.putfield 56, 3) := by decide +kernel
theorem dX4_accept_173 : decode cX4_accept 173 = .ok (.iconst 1, 1) := by decide +kernel
theorem dX4_accept_174 : decode cX4_accept 174 = .ok (.ireturn, 1) := by decide +kernel
theorem dX4_tear_0 : decode cX4_tear 0 = .ok (.aload_n 0, 1) := by decide +kernel
theorem dX4_tear_1 : decode cX4_tear 1 = .ok (.getfield 56, 3) := by decide +kernel
theorem dX4_tear_4 : decode cX4_tear 4 = .ok (.ifCond .le 13, 3) := by decide +kernel
theorem dX4_tear_7 : decode cX4_tear 7 = .ok (.aload_n 0, 1) := by decide +kernel
theorem dX4_tear_8 : decode cX4_tear 8 = .ok (.dup, 1) := by decide +kernel
theorem dX4_tear_9 : decode cX4_tear 9 = .ok (.getfield 53, 3) := by decide +kernel
theorem dX4_tear_12 : decode cX4_tear 12 = .ok (.iconst 1, 1) := by decide +kernel
theorem dX4_tear_13 : decode cX4_tear 13 = .ok (.iadd, 1) := by decide +kernel
theorem dX4_tear_14 : decode cX4_tear 14 = .ok (.putfield 53, 3) := by decide +kernel
theorem dX4_tear_17 : decode cX4_tear 17 = .ok (.aload_n 0, 1) := by decide +kernel
theorem dX4_tear_18 : decode cX4_tear 18 = .ok (.getfield 26, 3) := by decide +kernel
theorem dX4_tear_21 : decode cX4_tear 21 = .ok (.invokevirtual 33, 3) := by decide +kernel
theorem dX4_tear_24 : decode cX4_tear 24 = .ok (.aload_n 0, 1) := by decide +kernel
theorem dX4_tear_25 : decode cX4_tear 25 = .ok (.iconst 0, 1) := by decide +kernel
theorem dX4_tear_26 : decode cX4_tear 26 = .ok (.putfield 56, 3) := by decide +kernel
theorem dX4_tear_29 : decode cX4_tear 29 = .ok (.return_, 1) := by decide +kernel
theorem dX4_giveInto_0 : decode cX4_giveInto 0 = .ok (.aload_n 1, 1) := by decide +kernel
theorem dX4_giveInto_1 : decode cX4_giveInto 1 = .ok (.invokevirtual 33, 3) := by decide +kernel
theorem dX4_giveInto_4 : decode cX4_giveInto 4 = .ok (.aload_n 1, 1) := by decide +kernel
theorem dX4_giveInto_5 : decode cX4_giveInto 5 = .ok (.aload_n 0, 1) := by decide +kernel
theorem dX4_giveInto_6 : decode cX4_giveInto 6 = .ok (.getfield 18, 3) := by decide +kernel
theorem dX4_giveInto_9 : decode cX4_giveInto 9 = .ok (.getfield 97, 3) := by decide +kernel
theorem dX4_giveInto_12 : decode cX4_giveInto 12 = .ok (.iconst 0, 1) := by decide +kernel
theorem dX4_giveInto_13 : decode cX4_giveInto 13 = .ok (.aload_n 0, 1) := by decide +kernel
theorem dX4_giveInto_14 : decode cX4_giveInto 14 = .ok (.getfield 18, 3) := by decide +kernel
theorem dX4_giveInto_17 : decode cX4_giveInto 17 = .ok (.invokevirtual 69, 3) := by decide +kernel
theorem dX4_giveInto_20 : decode cX4_giveInto 20 = .ok (.invokevirtual 86, 3) := by decide +kernel
theorem dX4_giveInto_23 : decode cX4_giveInto 23 = .ok (.aload_n 0, 1) := by decide +kernel
theorem dX4_giveInto_24 : decode cX4_giveInto 24 = .ok (.aload_n 0, 1) := by decide +kernel
theorem dX4_giveInto_25 : decode cX4_giveInto 25 = .ok (.getfield 34, 3) := by decide +kernel
theorem dX4_giveInto_28 : decode cX4_giveInto 28 = .ok (.aload_n 0, 1) := by decide +kernel
theorem dX4_giveInto_29 : decode cX4_giveInto 29 = .ok (.getfield 38, 3) := by decide +kernel
theorem dX4_giveInto_32 : decode cX4_giveInto 32 = .ok (.aload_n 0, 1) := by decide +kernel
theorem dX4_giveInto_33 : decode cX4_giveInto 33 = .ok (.getfield 18, 3) := by decide +kernel
theorem dX4_giveInto_36 : decode cX4_giveInto 36 = .ok (.invokevirtual 100, 3) := by decide +kernel
theorem dX4_giveInto_39 : decode cX4_giveInto 39 = .ok (.iadd, 1) := by decide +kernel
theorem dX4_giveInto_40 : decode cX4_giveInto 40 = .ok (.invokestatic 103, 3) := by decide +kernel
theorem dX4_giveInto_43 : decode cX4_giveInto 43 = .ok (.putfield 38, 3) := by decide +kernel
theorem dX4_giveInto_46 : decode cX4_giveInto 46 = .ok (.aload_n 0, 1) := by decide +kernel
theorem dX4_giveInto_47 : decode cX4_giveInto 47 = .ok (.getfield 18, 3) := by decide +kernel
theorem dX4_giveInto_50 : decode cX4_giveInto 50 = .ok (.invokevirtual 73, 3) := by decide +kernel
theorem dX4_giveInto_53 : decode cX4_giveInto 53 = .ok (.aload_n 0, 1) := by decide +kernel
theorem dX4_giveInto_54 : decode cX4_giveInto 54 = .ok (.dup, 1) := by decide +kernel
theorem dX4_giveInto_55 : decode cX4_giveInto 55 = .ok (.getfield 59, 3) := by decide +kernel
theorem dX4_giveInto_58 : decode cX4_giveInto 58 = .ok (.iconst 1, 1) := by decide +kernel
theorem dX4_giveInto_59 : decode cX4_giveInto 59 = .ok (.iadd, 1) := by decide +kernel
theorem dX4_giveInto_60 : decode cX4_giveInto 60 = .ok (.putfield 59, 3) := by decide +kernel
theorem dX4_giveInto_63 : decode cX4_giveInto 63 = .ok (.return_, 1) := by decide +kernel
theorem dX5_init_0 : decode cX5_init 0 = .ok (.aload_n 0, 1) := by decide +kernel
theorem dX5_init_1 : decode cX5_init 1 = .ok (.invokespecial 3, 3) := by decide +kernel
theorem dX5_init_4 : decode cX5_init 4 = .ok (.aload_n 0, 1) := by decide +kernel
theorem dX5_init_5 : decode cX5_init 5 = .ok (.iconst 0, 1) := by decide +kernel
theorem dX5_init_6 : decode cX5_init 6 = .ok (.newarray .int, 2) := by decide +kernel
theorem dX5_init_8 : decode cX5_init 8 = .ok (.putfield 9, 3) := by decide +kernel
theorem dX5_init_11 : decode cX5_init 11 = .ok (.aload_n 0, 1) := by decide +kernel
theorem dX5_init_12 : decode cX5_init 12 = .ok (.iload_n 1, 1) := by decide +kernel
theorem dX5_init_13 : decode cX5_init 13 = .ok (.putfield 15, 3) := by decide +kernel
theorem dX5_init_16 : decode cX5_init 16 = .ok (.return_, 1) := by decide +kernel
theorem dX5_has_0 : decode cX5_has 0 = .ok (.iload_n 1, 1) := by decide +kernel
theorem dX5_has_1 : decode cX5_has 1 = .ok (.ifCond .lt 15, 3) := by decide +kernel
theorem dX5_has_4 : decode cX5_has 4 = .ok (.iload_n 1, 1) := by decide +kernel
theorem dX5_has_5 : decode cX5_has 5 = .ok (.aload_n 0, 1) := by decide +kernel
theorem dX5_has_6 : decode cX5_has 6 = .ok (.getfield 19, 3) := by decide +kernel
theorem dX5_has_9 : decode cX5_has 9 = .ok (.if_icmp .ge 7, 3) := by decide +kernel
theorem dX5_has_12 : decode cX5_has 12 = .ok (.iconst 1, 1) := by decide +kernel
theorem dX5_has_13 : decode cX5_has 13 = .ok (.goto 4, 3) := by decide +kernel
theorem dX5_has_16 : decode cX5_has 16 = .ok (.iconst 0, 1) := by decide +kernel
theorem dX5_has_17 : decode cX5_has 17 = .ok (.ireturn, 1) := by decide +kernel
theorem dX5_at_0 : decode cX5_at 0 = .ok (.aload_n 0, 1) := by decide +kernel
theorem dX5_at_1 : decode cX5_at 1 = .ok (.iload_n 1, 1) := by decide +kernel
theorem dX5_at_2 : decode cX5_at 2 = .ok (.invokevirtual 22, 3) := by decide +kernel
theorem dX5_at_5 : decode cX5_at 5 = .ok (.ifCond .eq 12, 3) := by decide +kernel
theorem dX5_at_8 : decode cX5_at 8 = .ok (.aload_n 0, 1) := by decide +kernel
theorem dX5_at_9 : decode cX5_at 9 = .ok (.getfield 9, 3) := by decide +kernel
theorem dX5_at_12 : decode cX5_at 12 = .ok (.iload_n 1, 1) := by decide +kernel
theorem dX5_at_13 : decode cX5_at 13 = .ok (.iaload, 1) := by decide +kernel
theorem dX5_at_14 : decode cX5_at 14 = .ok (.goto 4, 3) := by decide +kernel
theorem dX5_at_17 : decode cX5_at 17 = .ok (.iconst (-1), 1) := by decide +kernel
theorem dX5_at_18 : decode cX5_at 18 = .ok (.ireturn, 1) := by decide +kernel
theorem dX5_set_0 : decode cX5_set 0 = .ok (.aload_n 0, 1) := by decide +kernel
theorem dX5_set_1 : decode cX5_set 1 = .ok (.iload_n 1, 1) := by decide +kernel
theorem dX5_set_2 : decode cX5_set 2 = .ok (.invokevirtual 22, 3) := by decide +kernel
theorem dX5_set_5 : decode cX5_set 5 = .ok (.ifCond .eq 10, 3) := by decide +kernel
theorem dX5_set_8 : decode cX5_set 8 = .ok (.aload_n 0, 1) := by decide +kernel
theorem dX5_set_9 : decode cX5_set 9 = .ok (.getfield 9, 3) := by decide +kernel
theorem dX5_set_12 : decode cX5_set 12 = .ok (.iload_n 1, 1) := by decide +kernel
theorem dX5_set_13 : decode cX5_set 13 = .ok (.iload_n 2, 1) := by decide +kernel
theorem dX5_set_14 : decode cX5_set 14 = .ok (.iastore, 1) := by decide +kernel
theorem dX5_set_15 : decode cX5_set 15 = .ok (.return_, 1) := by decide +kernel
theorem dX5_clear_0 : decode cX5_clear 0 = .ok (.aload_n 0, 1) := by decide +kernel
theorem dX5_clear_1 : decode cX5_clear 1 = .ok (.iconst 0, 1) := by decide +kernel
theorem dX5_clear_2 : decode cX5_clear 2 = .ok (.putfield 19, 3) := by decide +kernel
theorem dX5_clear_5 : decode cX5_clear 5 = .ok (.return_, 1) := by decide +kernel
theorem dX5_add_0 : decode cX5_add 0 = .ok (.aload_n 0, 1) := by decide +kernel
theorem dX5_add_1 : decode cX5_add 1 = .ok (.getfield 19, 3) := by decide +kernel
theorem dX5_add_4 : decode cX5_add 4 = .ok (.aload_n 0, 1) := by decide +kernel
theorem dX5_add_5 : decode cX5_add 5 = .ok (.getfield 15, 3) := by decide +kernel
theorem dX5_add_8 : decode cX5_add 8 = .ok (.if_icmp .ge 33, 3) := by decide +kernel
theorem dX5_add_11 : decode cX5_add 11 = .ok (.aload_n 0, 1) := by decide +kernel
theorem dX5_add_12 : decode cX5_add 12 = .ok (.aload_n 0, 1) := by decide +kernel
theorem dX5_add_13 : decode cX5_add 13 = .ok (.getfield 19, 3) := by decide +kernel
theorem dX5_add_16 : decode cX5_add 16 = .ok (.iconst 1, 1) := by decide +kernel
theorem dX5_add_17 : decode cX5_add 17 = .ok (.iadd, 1) := by decide +kernel
theorem dX5_add_18 : decode cX5_add 18 = .ok (.invokevirtual 26, 3) := by decide +kernel
theorem dX5_add_21 : decode cX5_add 21 = .ok (.aload_n 0, 1) := by decide +kernel
theorem dX5_add_22 : decode cX5_add 22 = .ok (.getfield 9, 3) := by decide +kernel
theorem dX5_add_25 : decode cX5_add 25 = .ok (.aload_n 0, 1) := by decide +kernel
theorem dX5_add_26 : decode cX5_add 26 = .ok (.getfield 19, 3) := by decide +kernel
theorem dX5_add_29 : decode cX5_add 29 = .ok (.iload_n 1, 1) := by decide +kernel
theorem dX5_add_30 : decode cX5_add 30 = .ok (.iastore, 1) := by decide +kernel
theorem dX5_add_31 : decode cX5_add 31 = .ok (.aload_n 0, 1) := by decide +kernel
theorem dX5_add_32 : decode cX5_add 32 = .ok (.dup, 1) := by decide +kernel
theorem dX5_add_33 : decode cX5_add 33 = .ok (.getfield 19, 3) := by decide +kernel
theorem dX5_add_36 : decode cX5_add 36 = .ok (.iconst 1, 1) := by decide +kernel
theorem dX5_add_37 : decode cX5_add 37 = .ok (.iadd, 1) := by decide +kernel
theorem dX5_add_38 : decode cX5_add 38 = .ok (.putfield 19, 3) := by decide +kernel
theorem dX5_add_41 : decode cX5_add 41 = .ok (.return_, 1) := by decide +kernel
theorem dX5_addAll_0 : decode cX5_addAll 0 = .ok (.iload_n 2, 1) := by decide +kernel
theorem dX5_addAll_1 : decode cX5_addAll 1 = .ok (.ifCond .lt 30, 3) := by decide +kernel
theorem dX5_addAll_4 : decode cX5_addAll 4 = .ok (.iload_n 3, 1) := by decide +kernel
theorem dX5_addAll_5 : decode cX5_addAll 5 = .ok (.ifCond .le 26, 3) := by decide +kernel
theorem dX5_addAll_8 : decode cX5_addAll 8 = .ok (.iload_n 3, 1) := by decide +kernel
theorem dX5_addAll_9 : decode cX5_addAll 9 = .ok (.aload_n 1, 1) := by decide +kernel
theorem dX5_addAll_10 : decode cX5_addAll 10 = .ok (.getfield 19, 3) := by decide +kernel
theorem dX5_addAll_13 : decode cX5_addAll 13 = .ok (.iload_n 2, 1) := by decide +kernel
theorem dX5_addAll_14 : decode cX5_addAll 14 = .ok (.isub, 1) := by decide +kernel
theorem dX5_addAll_15 : decode cX5_addAll 15 = .ok (.if_icmp .gt 16, 3) := by decide +kernel
theorem dX5_addAll_18 : decode cX5_addAll 18 = .ok (.iload_n 3, 1) := by decide +kernel
theorem dX5_addAll_19 : decode cX5_addAll 19 = .ok (.aload_n 0, 1) := by decide +kernel
theorem dX5_addAll_20 : decode cX5_addAll 20 = .ok (.getfield 15, 3) := by decide +kernel
theorem dX5_addAll_23 : decode cX5_addAll 23 = .ok (.aload_n 0, 1) := by decide +kernel
theorem dX5_addAll_24 : decode cX5_addAll 24 = .ok (.getfield 19, 3) := by decide +kernel
theorem dX5_addAll_27 : decode cX5_addAll 27 = .ok (.isub, 1) := by decide +kernel
theorem dX5_addAll_28 : decode cX5_addAll 28 = .ok (.if_icmp .le 4, 3) := by decide +kernel
theorem dX5_addAll_31 : decode cX5_addAll 31 = .ok (.return_, 1) := by decide +kernel
theorem dX5_addAll_32 : decode cX5_addAll 32 = .ok (.aload_n 0, 1) := by decide +kernel
theorem dX5_addAll_33 : decode cX5_addAll 33 = .ok (.aload_n 0, 1) := by decide +kernel
theorem dX5_addAll_34 : decode cX5_addAll 34 = .ok (.getfield 19, 3) := by decide +kernel
theorem dX5_addAll_37 : decode cX5_addAll 37 = .ok (.iload_n 3, 1) := by decide +kernel
theorem dX5_addAll_38 : decode cX5_addAll 38 = .ok (.iadd, 1) := by decide +kernel
theorem dX5_addAll_39 : decode cX5_addAll 39 = .ok (.invokevirtual 26, 3) := by decide +kernel
theorem dX5_addAll_42 : decode cX5_addAll 42 = .ok (.aload_n 1, 1) := by decide +kernel
theorem dX5_addAll_43 : decode cX5_addAll 43 = .ok (.getfield 9, 3) := by decide +kernel
theorem dX5_addAll_46 : decode cX5_addAll 46 = .ok (.iload_n 2, 1) := by decide +kernel
theorem dX5_addAll_47 : decode cX5_addAll 47 = .ok (.aload_n 0, 1) := by decide +kernel
theorem dX5_addAll_48 : decode cX5_addAll 48 = .ok (.getfield 9, 3) := by decide +kernel
theorem dX5_addAll_51 : decode cX5_addAll 51 = .ok (.aload_n 0, 1) := by decide +kernel
theorem dX5_addAll_52 : decode cX5_addAll 52 = .ok (.getfield 19, 3) := by decide +kernel
theorem dX5_addAll_55 : decode cX5_addAll 55 = .ok (.iload_n 3, 1) := by decide +kernel
theorem dX5_addAll_56 : decode cX5_addAll 56 = .ok (.invokestatic 30, 3) := by decide +kernel
theorem dX5_addAll_59 : decode cX5_addAll 59 = .ok (.aload_n 0, 1) := by decide +kernel
theorem dX5_addAll_60 : decode cX5_addAll 60 = .ok (.dup, 1) := by decide +kernel
theorem dX5_addAll_61 : decode cX5_addAll 61 = .ok (.getfield 19, 3) := by decide +kernel
theorem dX5_addAll_64 : decode cX5_addAll 64 = .ok (.iload_n 3, 1) := by decide +kernel
theorem dX5_addAll_65 : decode cX5_addAll 65 = .ok (.iadd, 1) := by decide +kernel
theorem dX5_addAll_66 : decode cX5_addAll 66 = .ok (.putfield 19, 3) := by decide +kernel
theorem dX5_addAll_69 : decode cX5_addAll 69 = .ok (.return_, 1) := by decide +kernel
theorem dX5_makeRoom_0 : decode cX5_makeRoom 0 = .ok (.iload_n 1, 1) := by decide +kernel
theorem dX5_makeRoom_1 : decode cX5_makeRoom 1 = .ok (.aload_n 0, 1) := by decide +kernel
theorem dX5_makeRoom_2 : decode cX5_makeRoom 2 = .ok (.getfield 9, 3) := by decide +kernel
theorem dX5_makeRoom_5 : decode cX5_makeRoom 5 = .ok (.arraylength, 1) := by decide +kernel
theorem dX5_makeRoom_6 : decode cX5_makeRoom 6 = .ok (.if_icmp .le 48, 3) := by decide +kernel
theorem dX5_makeRoom_9 : decode cX5_makeRoom 9 = .ok (.aload_n 0, 1) := by decide +kernel
theorem dX5_makeRoom_10 : decode cX5_makeRoom 10 = .ok (.getfield 15, 3) := by decide +kernel
theorem dX5_makeRoom_13 : decode cX5_makeRoom 13 = .ok (.iload_n 1, 1) := by decide +kernel
theorem dX5_makeRoom_14 : decode cX5_makeRoom 14 = .ok (.bipush 16, 2) := by decide +kernel
theorem dX5_makeRoom_16 : decode cX5_makeRoom 16 = .ok (.iconst 4, 1) := by decide +kernel
theorem dX5_makeRoom_17 : decode cX5_makeRoom 17 = .ok (.aload_n 0, 1) := by decide +kernel
theorem dX5_makeRoom_18 : decode cX5_makeRoom 18 = .ok (.getfield 9, 3) := by decide +kernel
theorem dX5_makeRoom_21 : decode cX5_makeRoom 21 = .ok (.arraylength, 1) := by decide +kernel
theorem dX5_makeRoom_22 : decode cX5_makeRoom 22 = .ok (.imul, 1) := by decide +kernel
theorem dX5_makeRoom_23 : decode cX5_makeRoom 23 = .ok (.invokestatic 36, 3) := by decide +kernel
theorem dX5_makeRoom_26 : decode cX5_makeRoom 26 = .ok (.invokestatic 36, 3) := by decide +kernel
theorem dX5_makeRoom_29 : decode cX5_makeRoom 29 = .ok (.invokestatic 42, 3) := by decide +kernel
theorem dX5_makeRoom_32 : decode cX5_makeRoom 32 = .ok (.newarray .int, 2) := by decide +kernel
theorem dX5_makeRoom_34 : decode cX5_makeRoom 34 = .ok (.astore_n 2, 1) := by decide +kernel
theorem dX5_makeRoom_35 : decode cX5_makeRoom 35 = .ok (.aload_n 0, 1) := by decide +kernel
theorem dX5_makeRoom_36 : decode cX5_makeRoom 36 = .ok (.getfield 9, 3) := by decide +kernel
theorem dX5_makeRoom_39 : decode cX5_makeRoom 39 = .ok (.iconst 0, 1) := by decide +kernel
theorem dX5_makeRoom_40 : decode cX5_makeRoom 40 = .ok (.aload_n 2, 1) := by decide +kernel
theorem dX5_makeRoom_41 : decode cX5_makeRoom 41 = .ok (.iconst 0, 1) := by decide +kernel
theorem dX5_makeRoom_42 : decode cX5_makeRoom 42 = .ok (.aload_n 0, 1) := by decide +kernel
theorem dX5_makeRoom_43 : decode cX5_makeRoom 43 = .ok (.getfield 19, 3) := by decide +kernel
theorem dX5_makeRoom_46 : decode cX5_makeRoom 46 = .ok (.invokestatic 30, 3) := by decide +kernel
theorem dX5_makeRoom_49 : decode cX5_makeRoom 49 = .ok (.aload_n 0, 1) := by decide +kernel
theorem dX5_makeRoom_50 : decode cX5_makeRoom 50 = .ok (.aload_n 2, 1) := by decide +kernel
theorem dX5_makeRoom_51 : decode cX5_makeRoom 51 = .ok (.putfield 9, 3) := by decide +kernel
theorem dX5_makeRoom_54 : decode cX5_makeRoom 54 = .ok (.return_, 1) := by decide +kernel
theorem dX5_insertAt_0 : decode cX5_insertAt 0 = .ok (.iload_n 1, 1) := by decide +kernel
theorem dX5_insertAt_1 : decode cX5_insertAt 1 = .ok (.ifCond .lt 22, 3) := by decide +kernel
theorem dX5_insertAt_4 : decode cX5_insertAt 4 = .ok (.iload_n 1, 1) := by decide +kernel
theorem dX5_insertAt_5 : decode cX5_insertAt 5 = .ok (.aload_n 0, 1) := by decide +kernel
theorem dX5_insertAt_6 : decode cX5_insertAt 6 = .ok (.getfield 19, 3) := by decide +kernel
theorem dX5_insertAt_9 : decode cX5_insertAt 9 = .ok (.if_icmp .gt 14, 3) := by decide +kernel
theorem dX5_insertAt_12 : decode cX5_insertAt 12 = .ok (.aload_n 0, 1) := by decide +kernel
theorem dX5_insertAt_13 : decode cX5_insertAt 13 = .ok (.getfield 19, 3) := by decide +kernel
theorem dX5_insertAt_16 : decode cX5_insertAt 16 = .ok (.aload_n 0, 1) := by decide +kernel
theorem dX5_insertAt_17 : decode cX5_insertAt 17 = .ok (.getfield 15, 3) := by decide +kernel
theorem dX5_insertAt_20 : decode cX5_insertAt 20 = .ok (.if_icmp .lt 4, 3) := by decide +kernel
theorem dX5_insertAt_23 : decode cX5_insertAt 23 = .ok (.return_, 1) := by decide +kernel
theorem dX5_insertAt_24 : decode cX5_insertAt 24 = .ok (.aload_n 0, 1) := by decide +kernel
theorem dX5_insertAt_25 : decode cX5_insertAt 25 = .ok (.aload_n 0, 1) := by decide +kernel
theorem dX5_insertAt_26 : decode cX5_insertAt 26 = .ok (.getfield 19, 3) := by decide +kernel
theorem dX5_insertAt_29 : decode cX5_insertAt 29 = .ok (.iconst 1, 1) := by decide +kernel
theorem dX5_insertAt_30 : decode cX5_insertAt 30 = .ok (.iadd, 1) := by decide +kernel
theorem dX5_insertAt_31 : decode cX5_insertAt 31 = .ok (.invokevirtual 26, 3) := by decide +kernel
theorem dX5_insertAt_34 : decode cX5_insertAt 34 = .ok (.aload_n 0, 1) := by decide +kernel
theorem dX5_insertAt_35 : decode cX5_insertAt 35 = .ok (.getfield 9, 3) := by decide +kernel
theorem dX5_insertAt_38 : decode cX5_insertAt 38 = .ok (.iload_n 1, 1) := by decide +kernel
theorem dX5_insertAt_39 : decode cX5_insertAt 39 = .ok (.aload_n 0, 1) := by decide +kernel
theorem dX5_insertAt_40 : decode cX5_insertAt 40 = .ok (.getfield 9, 3) := by decide +kernel
theorem dX5_insertAt_43 : decode cX5_insertAt 43 = .ok (.iload_n 1, 1) := by decide +kernel
theorem dX5_insertAt_44 : decode cX5_insertAt 44 = .ok (.iconst 1, 1) := by decide +kernel
theorem dX5_insertAt_45 : decode cX5_insertAt 45 = .ok (.iadd, 1) := by decide +kernel
theorem dX5_insertAt_46 : decode cX5_insertAt 46 = .ok (.aload_n 0, 1) := by decide +kernel
theorem dX5_insertAt_47 : decode cX5_insertAt 47 = .ok (.getfield 19, 3) := by decide +kernel
theorem dX5_insertAt_50 : decode cX5_insertAt 50 = .ok (.iload_n 1, 1) := by decide +kernel
theorem dX5_insertAt_51 : decode cX5_insertAt 51 = .ok (.isub, 1) := by decide +kernel
theorem dX5_insertAt_52 : decode cX5_insertAt 52 = .ok (.invokestatic 30, 3) := by decide +kernel
theorem dX5_insertAt_55 : decode cX5_insertAt 55 = .ok (.aload_n 0, 1) := by decide +kernel
theorem dX5_insertAt_56 : decode cX5_insertAt 56 = .ok (.getfield 9, 3) := by decide +kernel
theorem dX5_insertAt_59 : decode cX5_insertAt 59 = .ok (.iload_n 1, 1) := by decide +kernel
theorem dX5_insertAt_60 : decode cX5_insertAt 60 = .ok (.iload_n 2, 1) := by decide +kernel
theorem dX5_insertAt_61 : decode cX5_insertAt 61 = .ok (.iastore, 1) := by decide +kernel
theorem dX5_insertAt_62 : decode cX5_insertAt 62 = .ok (.aload_n 0, 1) := by decide +kernel
theorem dX5_insertAt_63 : decode cX5_insertAt 63 = .ok (.dup, 1) := by decide +kernel
theorem dX5_insertAt_64 : decode cX5_insertAt 64 = .ok (.getfield 19, 3) := by decide +kernel
theorem dX5_insertAt_67 : decode cX5_insertAt 67 = .ok (.iconst 1, 1) := by decide +kernel
theorem dX5_insertAt_68 : decode cX5_insertAt 68 = .ok (.iadd, 1) := by decide +kernel
theorem dX5_insertAt_69 : decode cX5_insertAt 69 = .ok (.putfield 19, 3) := by decide +kernel
theorem dX5_insertAt_72 : decode cX5_insertAt 72 = .ok (.return_, 1) := by decide +kernel
theorem dX5_removeAt_0 : decode cX5_removeAt 0 = .ok (.aload_n 0, 1) := by decide +kernel
theorem dX5_removeAt_1 : decode cX5_removeAt 1 = .ok (.iload_n 1, 1) := by decide +kernel
theorem dX5_removeAt_2 : decode cX5_removeAt 2 = .ok (.invokevirtual 22, 3) := by decide +kernel
theorem dX5_removeAt_5 : decode cX5_removeAt 5 = .ok (.ifCond .eq 36, 3) := by decide +kernel
theorem dX5_removeAt_8 : decode cX5_removeAt 8 = .ok (.aload_n 0, 1) := by decide +kernel
theorem dX5_removeAt_9 : decode cX5_removeAt 9 = .ok (.getfield 9, 3) := by decide +kernel
theorem dX5_removeAt_12 : decode cX5_removeAt 12 = .ok (.iload_n 1, 1) := by decide +kernel
theorem dX5_removeAt_13 : decode cX5_removeAt 13 = .ok (.iconst 1, 1) := by decide +kernel
theorem dX5_removeAt_14 : decode cX5_removeAt 14 = .ok (.iadd, 1) := by decide +kernel
theorem dX5_removeAt_15 : decode cX5_removeAt 15 = .ok (.aload_n 0, 1) := by decide +kernel
theorem dX5_removeAt_16 : decode cX5_removeAt 16 = .ok (.getfield 9, 3) := by decide +kernel
theorem dX5_removeAt_19 : decode cX5_removeAt 19 = .ok (.iload_n 1, 1) := by decide +kernel
theorem dX5_removeAt_20 : decode cX5_removeAt 20 = .ok (.aload_n 0, 1) := by decide +kernel
theorem dX5_removeAt_21 : decode cX5_removeAt 21 = .ok (.getfield 19, 3) := by decide +kernel
theorem dX5_removeAt_24 : decode cX5_removeAt 24 = .ok (.iload_n 1, 1) := by decide +kernel
theorem dX5_removeAt_25 : decode cX5_removeAt 25 = .ok (.isub, 1) := by decide +kernel
theorem dX5_removeAt_26 : decode cX5_removeAt 26 = .ok (.iconst 1, 1) := by decide +kernel
theorem dX5_removeAt_27 : decode cX5_removeAt 27 = .ok (.isub, 1) := by decide +kernel
theorem dX5_removeAt_28 : decode cX5_removeAt 28 = .ok (.invokestatic 30, 3) := by decide +kernel
theorem dX5_removeAt_31 : decode cX5_removeAt 31 = .ok (.aload_n 0, 1) := by decide +kernel
theorem dX5_removeAt_32 : decode cX5_removeAt 32 = .ok (.dup, 1) := by decide +kernel
theorem dX5_removeAt_33 : decode cX5_removeAt 33 = .ok (.getfield 19, 3) := by decide +kernel
theorem dX5_removeAt_36 : decode cX5_removeAt 36 = .ok (.iconst 1, 1) := by decide +kernel
theorem dX5_removeAt_37 : decode cX5_removeAt 37 = .ok (.isub, 1) := by decide +kernel
theorem dX5_removeAt_38 : decode cX5_removeAt 38 = .ok (.putfield 19, 3) := by decide +kernel
theorem dX5_removeAt_41 : decode cX5_removeAt 41 = .ok (.return_, 1) := by decide +kernel
theorem dX5_dropFirst_0 : decode cX5_dropFirst 0 = .ok (.iload_n 1, 1) := by decide +kernel
theorem dX5_dropFirst_1 : decode cX5_dropFirst 1 = .ok (.ifCond .le 40, 3) := by decide +kernel
theorem dX5_dropFirst_4 : decode cX5_dropFirst 4 = .ok (.iload_n 1, 1) := by decide +kernel
theorem dX5_dropFirst_5 : decode cX5_dropFirst 5 = .ok (.aload_n 0, 1) := by decide +kernel
theorem dX5_dropFirst_6 : decode cX5_dropFirst 6 = .ok (.getfield 19, 3) := by decide +kernel
theorem dX5_dropFirst_9 : decode cX5_dropFirst 9 = .ok (.if_icmp .gt 32, 3) := by decide +kernel
theorem dX5_dropFirst_12 : decode cX5_dropFirst 12 = .ok (.aload_n 0, 1) := by decide +kernel
theorem dX5_dropFirst_13 : decode cX5_dropFirst 13 = .ok (.getfield 9, 3) := by decide +kernel
theorem dX5_dropFirst_16 : decode cX5_dropFirst 16 = .ok (.iload_n 1, 1) := by decide +kernel
theorem dX5_dropFirst_17 : decode cX5_dropFirst 17 = .ok (.aload_n 0, 1) := by decide +kernel
theorem dX5_dropFirst_18 : decode cX5_dropFirst 18 = .ok (.getfield 9, 3) := by decide +kernel
theorem dX5_dropFirst_21 : decode cX5_dropFirst 21 = .ok (.iconst 0, 1) := by decide +kernel
theorem dX5_dropFirst_22 : decode cX5_dropFirst 22 = .ok (.aload_n 0, 1) := by decide +kernel
theorem dX5_dropFirst_23 : decode cX5_dropFirst 23 = .ok (.getfield 19, 3) := by decide +kernel
theorem dX5_dropFirst_26 : decode cX5_dropFirst 26 = .ok (.iload_n 1, 1) := by decide +kernel
theorem dX5_dropFirst_27 : decode cX5_dropFirst 27 = .ok (.isub, 1) := by decide +kernel
theorem dX5_dropFirst_28 : decode cX5_dropFirst 28 = .ok (.invokestatic 30, 3) := by decide +kernel
theorem dX5_dropFirst_31 : decode cX5_dropFirst 31 = .ok (.aload_n 0, 1) := by decide +kernel
theorem dX5_dropFirst_32 : decode cX5_dropFirst 32 = .ok (.dup, 1) := by decide +kernel
theorem dX5_dropFirst_33 : decode cX5_dropFirst 33 = .ok (.getfield 19, 3) := by decide +kernel
theorem dX5_dropFirst_36 : decode cX5_dropFirst 36 = .ok (.iload_n 1, 1) := by decide +kernel
theorem dX5_dropFirst_37 : decode cX5_dropFirst 37 = .ok (.isub, 1) := by decide +kernel
theorem dX5_dropFirst_38 : decode cX5_dropFirst 38 = .ok (.putfield 19, 3) := by decide +kernel
theorem dX5_dropFirst_41 : decode cX5_dropFirst 41 = .ok (.return_, 1) := by decide +kernel
theorem dX5_copyFrom_0 : decode cX5_copyFrom 0 = .ok (.aload_n 0, 1) := by decide +kernel
theorem dX5_copyFrom_1 : decode cX5_copyFrom 1 = .ok (.getfield 15, 3) := by decide +kernel
theorem dX5_copyFrom_4 : decode cX5_copyFrom 4 = .ok (.aload_n 1, 1) := by decide +kernel
theorem dX5_copyFrom_5 : decode cX5_copyFrom 5 = .ok (.getfield 19, 3) := by decide +kernel
theorem dX5_copyFrom_8 : decode cX5_copyFrom 8 = .ok (.invokestatic 42, 3) := by decide +kernel
theorem dX5_copyFrom_11 : decode cX5_copyFrom 11 = .ok (.istore_n 2, 1) := by decide +kernel
theorem dX5_copyFrom_12 : decode cX5_copyFrom 12 = .ok (.aload_n 0, 1) := by decide +kernel
theorem dX5_copyFrom_13 : decode cX5_copyFrom 13 = .ok (.iconst 0, 1) := by decide +kernel
theorem dX5_copyFrom_14 : decode cX5_copyFrom 14 = .ok (.putfield 19, 3) := by decide +kernel
theorem dX5_copyFrom_17 : decode cX5_copyFrom 17 = .ok (.aload_n 0, 1) := by decide +kernel
theorem dX5_copyFrom_18 : decode cX5_copyFrom 18 = .ok (.iload_n 2, 1) := by decide +kernel
theorem dX5_copyFrom_19 : decode cX5_copyFrom 19 = .ok (.invokevirtual 26, 3) := by decide +kernel
theorem dX5_copyFrom_22 : decode cX5_copyFrom 22 = .ok (.aload_n 1, 1) := by decide +kernel
theorem dX5_copyFrom_23 : decode cX5_copyFrom 23 = .ok (.getfield 9, 3) := by decide +kernel
theorem dX5_copyFrom_26 : decode cX5_copyFrom 26 = .ok (.iconst 0, 1) := by decide +kernel
theorem dX5_copyFrom_27 : decode cX5_copyFrom 27 = .ok (.aload_n 0, 1) := by decide +kernel
theorem dX5_copyFrom_28 : decode cX5_copyFrom 28 = .ok (.getfield 9, 3) := by decide +kernel
theorem dX5_copyFrom_31 : decode cX5_copyFrom 31 = .ok (.iconst 0, 1) := by decide +kernel
theorem dX5_copyFrom_32 : decode cX5_copyFrom 32 = .ok (.iload_n 2, 1) := by decide +kernel
theorem dX5_copyFrom_33 : decode cX5_copyFrom 33 = .ok (.invokestatic 30, 3) := by decide +kernel
theorem dX5_copyFrom_36 : decode cX5_copyFrom 36 = .ok (.aload_n 0, 1) := by decide +kernel
theorem dX5_copyFrom_37 : decode cX5_copyFrom 37 = .ok (.iload_n 2, 1) := by decide +kernel
theorem dX5_copyFrom_38 : decode cX5_copyFrom 38 = .ok (.putfield 19, 3) := by decide +kernel
theorem dX5_copyFrom_41 : decode cX5_copyFrom 41 = .ok (.return_, 1) := by decide +kernel
theorem dX5_greatest_0 : decode cX5_greatest 0 = .ok (.iconst (-1), 1) := by decide +kernel
theorem dX5_greatest_1 : decode cX5_greatest 1 = .ok (.istore_n 1, 1) := by decide +kernel
theorem dX5_greatest_2 : decode cX5_greatest 2 = .ok (.iconst 0, 1) := by decide +kernel
theorem dX5_greatest_3 : decode cX5_greatest 3 = .ok (.istore_n 2, 1) := by decide +kernel
theorem dX5_greatest_4 : decode cX5_greatest 4 = .ok (.iload_n 2, 1) := by decide +kernel
theorem dX5_greatest_5 : decode cX5_greatest 5 = .ok (.aload_n 0, 1) := by decide +kernel
theorem dX5_greatest_6 : decode cX5_greatest 6 = .ok (.getfield 19, 3) := by decide +kernel
theorem dX5_greatest_9 : decode cX5_greatest 9 = .ok (.if_icmp .ge 20, 3) := by decide +kernel
theorem dX5_greatest_12 : decode cX5_greatest 12 = .ok (.iload_n 1, 1) := by decide +kernel
theorem dX5_greatest_13 : decode cX5_greatest 13 = .ok (.aload_n 0, 1) := by decide +kernel
theorem dX5_greatest_14 : decode cX5_greatest 14 = .ok (.getfield 9, 3) := by decide +kernel
theorem dX5_greatest_17 : decode cX5_greatest 17 = .ok (.iload_n 2, 1) := by decide +kernel
theorem dX5_greatest_18 : decode cX5_greatest 18 = .ok (.iaload, 1) := by decide +kernel
theorem dX5_greatest_19 : decode cX5_greatest 19 = .ok (.invokestatic 36, 3) := by decide +kernel
theorem dX5_greatest_22 : decode cX5_greatest 22 = .ok (.istore_n 1, 1) := by decide +kernel
theorem dX5_greatest_23 : decode cX5_greatest 23 = .ok (.iinc 2 1, 3) := by decide +kernel
theorem dX5_greatest_26 : decode cX5_greatest 26 = .ok (.goto (-22), 3) := by decide +kernel
theorem dX5_greatest_29 : decode cX5_greatest 29 = .ok (.iload_n 1, 1) := by decide +kernel
theorem dX5_greatest_30 : decode cX5_greatest 30 = .ok (.ireturn, 1) := by decide +kernel
theorem dX6_init_0 : decode cX6_init 0 = .ok (.aload_n 0, 1) := by decide +kernel
theorem dX6_init_1 : decode cX6_init 1 = .ok (.invokespecial 3, 3) := by decide +kernel
theorem dX6_init_4 : decode cX6_init 4 = .ok (.aload_n 0, 1) := by decide +kernel
theorem dX6_init_5 : decode cX6_init 5 = .ok (.new 9, 3) := by decide +kernel
theorem dX6_init_8 : decode cX6_init 8 = .ok (.dup, 1) := by decide +kernel
theorem dX6_init_9 : decode cX6_init 9 = .ok (.invokespecial 11, 3) := by decide +kernel
theorem dX6_init_12 : decode cX6_init 12 = .ok (.putfield 12, 3) := by decide +kernel
theorem dX6_init_15 : decode cX6_init 15 = .ok (.aload_n 0, 1) := by decide +kernel
theorem dX6_init_16 : decode cX6_init 16 = .ok (.iconst 4, 1) := by decide +kernel
theorem dX6_init_17 : decode cX6_init 17 = .ok (.newarray .int, 2) := by decide +kernel
theorem dX6_init_19 : decode cX6_init 19 = .ok (.putfield 18, 3) := by decide +kernel
theorem dX6_init_22 : decode cX6_init 22 = .ok (.aload_n 0, 1) := by decide +kernel
theorem dX6_init_23 : decode cX6_init 23 = .ok (.iconst 0, 1) := by decide +kernel
theorem dX6_init_24 : decode cX6_init 24 = .ok (.putfield 22, 3) := by decide +kernel
theorem dX6_init_27 : decode cX6_init 27 = .ok (.aload_n 0, 1) := by decide +kernel
theorem dX6_init_28 : decode cX6_init 28 = .ok (.iconst 1, 1) := by decide +kernel
theorem dX6_init_29 : decode cX6_init 29 = .ok (.putfield 26, 3) := by decide +kernel
theorem dX6_init_32 : decode cX6_init 32 = .ok (.aload_n 0, 1) := by decide +kernel
theorem dX6_init_33 : decode cX6_init 33 = .ok (.bipush 16, 2) := by decide +kernel
theorem dX6_init_35 : decode cX6_init 35 = .ok (.putfield 29, 3) := by decide +kernel
theorem dX6_init_38 : decode cX6_init 38 = .ok (.return_, 1) := by decide +kernel
theorem dX6_forget_0 : decode cX6_forget 0 = .ok (.aload_n 0, 1) := by decide +kernel
theorem dX6_forget_1 : decode cX6_forget 1 = .ok (.getfield 12, 3) := by decide +kernel
theorem dX6_forget_4 : decode cX6_forget 4 = .ok (.bipush 20, 2) := by decide +kernel
theorem dX6_forget_6 : decode cX6_forget 6 = .ok (.putfield 32, 3) := by decide +kernel
theorem dX6_forget_9 : decode cX6_forget 9 = .ok (.aload_n 0, 1) := by decide +kernel
theorem dX6_forget_10 : decode cX6_forget 10 = .ok (.getfield 12, 3) := by decide +kernel
theorem dX6_forget_13 : decode cX6_forget 13 = .ok (.bipush 10, 2) := by decide +kernel
theorem dX6_forget_15 : decode cX6_forget 15 = .ok (.putfield 35, 3) := by decide +kernel
theorem dX6_forget_18 : decode cX6_forget 18 = .ok (.aload_n 0, 1) := by decide +kernel
theorem dX6_forget_19 : decode cX6_forget 19 = .ok (.iconst 0, 1) := by decide +kernel
theorem dX6_forget_20 : decode cX6_forget 20 = .ok (.putfield 22, 3) := by decide +kernel
theorem dX6_forget_23 : decode cX6_forget 23 = .ok (.aload_n 0, 1) := by decide +kernel
theorem dX6_forget_24 : decode cX6_forget 24 = .ok (.iconst 1, 1) := by decide +kernel
theorem dX6_forget_25 : decode cX6_forget 25 = .ok (.putfield 26, 3) := by decide +kernel
theorem dX6_forget_28 : decode cX6_forget 28 = .ok (.aload_n 0, 1) := by decide +kernel
theorem dX6_forget_29 : decode cX6_forget 29 = .ok (.bipush 16, 2) := by decide +kernel
theorem dX6_forget_31 : decode cX6_forget 31 = .ok (.putfield 29, 3) := by decide +kernel
theorem dX6_forget_34 : decode cX6_forget 34 = .ok (.aload_n 0, 1) := by decide +kernel
theorem dX6_forget_35 : decode cX6_forget 35 = .ok (.iconst 0, 1) := by decide +kernel
theorem dX6_forget_36 : decode cX6_forget 36 = .ok (.putfield 38, 3) := by decide +kernel
theorem dX6_forget_39 : decode cX6_forget 39 = .ok (.return_, 1) := by decide +kernel
theorem dX6_copyFrom_0 : decode cX6_copyFrom 0 = .ok (.aload_n 0, 1) := by decide +kernel
theorem dX6_copyFrom_1 : decode cX6_copyFrom 1 = .ok (.getfield 12, 3) := by decide +kernel
theorem dX6_copyFrom_4 : decode cX6_copyFrom 4 = .ok (.aload_n 1, 1) := by decide +kernel
theorem dX6_copyFrom_5 : decode cX6_copyFrom 5 = .ok (.getfield 12, 3) := by decide +kernel
theorem dX6_copyFrom_8 : decode cX6_copyFrom 8 = .ok (.getfield 32, 3) := by decide +kernel
theorem dX6_copyFrom_11 : decode cX6_copyFrom 11 = .ok (.putfield 32, 3) := by decide +kernel
theorem dX6_copyFrom_14 : decode cX6_copyFrom 14 = .ok (.aload_n 0, 1) := by decide +kernel
theorem dX6_copyFrom_15 : decode cX6_copyFrom 15 = .ok (.getfield 12, 3) := by decide +kernel
theorem dX6_copyFrom_18 : decode cX6_copyFrom 18 = .ok (.aload_n 1, 1) := by decide +kernel
theorem dX6_copyFrom_19 : decode cX6_copyFrom 19 = .ok (.getfield 12, 3) := by decide +kernel
theorem dX6_copyFrom_22 : decode cX6_copyFrom 22 = .ok (.getfield 35, 3) := by decide +kernel
theorem dX6_copyFrom_25 : decode cX6_copyFrom 25 = .ok (.putfield 35, 3) := by decide +kernel
theorem dX6_copyFrom_28 : decode cX6_copyFrom 28 = .ok (.aload_n 0, 1) := by decide +kernel
theorem dX6_copyFrom_29 : decode cX6_copyFrom 29 = .ok (.aload_n 1, 1) := by decide +kernel
theorem dX6_copyFrom_30 : decode cX6_copyFrom 30 = .ok (.getfield 22, 3) := by decide +kernel
theorem dX6_copyFrom_33 : decode cX6_copyFrom 33 = .ok (.putfield 22, 3) := by decide +kernel
theorem dX6_copyFrom_36 : decode cX6_copyFrom 36 = .ok (.aload_n 0, 1) := by decide +kernel
theorem dX6_copyFrom_37 : decode cX6_copyFrom 37 = .ok (.aload_n 1, 1) := by decide +kernel
theorem dX6_copyFrom_38 : decode cX6_copyFrom 38 = .ok (.getfield 26, 3) := by decide +kernel
theorem dX6_copyFrom_41 : decode cX6_copyFrom 41 = .ok (.putfield 26, 3) := by decide +kernel
theorem dX6_copyFrom_44 : decode cX6_copyFrom 44 = .ok (.aload_n 0, 1) := by decide +kernel
theorem dX6_copyFrom_45 : decode cX6_copyFrom 45 = .ok (.aload_n 1, 1) := by decide +kernel
theorem dX6_copyFrom_46 : decode cX6_copyFrom 46 = .ok (.getfield 29, 3) := by decide +kernel
theorem dX6_copyFrom_49 : decode cX6_copyFrom 49 = .ok (.putfield 29, 3) := by decide +kernel
theorem dX6_copyFrom_52 : decode cX6_copyFrom 52 = .ok (.aload_n 0, 1) := by decide +kernel
theorem dX6_copyFrom_53 : decode cX6_copyFrom 53 = .ok (.aload_n 1, 1) := by decide +kernel
theorem dX6_copyFrom_54 : decode cX6_copyFrom 54 = .ok (.getfield 38, 3) := by decide +kernel
theorem dX6_copyFrom_57 : decode cX6_copyFrom 57 = .ok (.putfield 38, 3) := by decide +kernel
theorem dX6_copyFrom_60 : decode cX6_copyFrom 60 = .ok (.aload_n 1, 1) := by decide +kernel
theorem dX6_copyFrom_61 : decode cX6_copyFrom 61 = .ok (.getfield 18, 3) := by decide +kernel
theorem dX6_copyFrom_64 : decode cX6_copyFrom 64 = .ok (.iconst 0, 1) := by decide +kernel
theorem dX6_copyFrom_65 : decode cX6_copyFrom 65 = .ok (.aload_n 0, 1) := by decide +kernel
theorem dX6_copyFrom_66 : decode cX6_copyFrom 66 = .ok (.getfield 18, 3) := by decide +kernel
theorem dX6_copyFrom_69 : decode cX6_copyFrom 69 = .ok (.iconst 0, 1) := by decide +kernel
theorem dX6_copyFrom_70 : decode cX6_copyFrom 70 = .ok (.iconst 4, 1) := by decide +kernel
theorem dX6_copyFrom_71 : decode cX6_copyFrom 71 = .ok (.invokestatic 41, 3) := by decide +kernel
theorem dX6_copyFrom_74 : decode cX6_copyFrom 74 = .ok (.return_, 1) := by decide +kernel
theorem dX6_addPort_0 : decode cX6_addPort 0 = .ok (.aload_n 0, 1) := by decide +kernel
theorem dX6_addPort_1 : decode cX6_addPort 1 = .ok (.getfield 38, 3) := by decide +kernel
theorem dX6_addPort_4 : decode cX6_addPort 4 = .ok (.ifCond .lt 31, 3) := by decide +kernel
theorem dX6_addPort_7 : decode cX6_addPort 7 = .ok (.aload_n 0, 1) := by decide +kernel
theorem dX6_addPort_8 : decode cX6_addPort 8 = .ok (.getfield 38, 3) := by decide +kernel
theorem dX6_addPort_11 : decode cX6_addPort 11 = .ok (.iconst 4, 1) := by decide +kernel
theorem dX6_addPort_12 : decode cX6_addPort 12 = .ok (.if_icmp .ge 23, 3) := by decide +kernel
theorem dX6_addPort_15 : decode cX6_addPort 15 = .ok (.aload_n 0, 1) := by decide +kernel
theorem dX6_addPort_16 : decode cX6_addPort 16 = .ok (.getfield 18, 3) := by decide +kernel
theorem dX6_addPort_19 : decode cX6_addPort 19 = .ok (.aload_n 0, 1) := by decide +kernel
theorem dX6_addPort_20 : decode cX6_addPort 20 = .ok (.getfield 38, 3) := by decide +kernel
theorem dX6_addPort_23 : decode cX6_addPort 23 = .ok (.iload_n 1, 1) := by decide +kernel
theorem dX6_addPort_24 : decode cX6_addPort 24 = .ok (.iastore, 1) := by decide +kernel
theorem dX6_addPort_25 : decode cX6_addPort 25 = .ok (.aload_n 0, 1) := by decide +kernel
theorem dX6_addPort_26 : decode cX6_addPort 26 = .ok (.dup, 1) := by decide +kernel
theorem dX6_addPort_27 : decode cX6_addPort 27 = .ok (.getfield 38, 3) := by decide +kernel
theorem dX6_addPort_30 : decode cX6_addPort 30 = .ok (.iconst 1, 1) := by decide +kernel
theorem dX6_addPort_31 : decode cX6_addPort 31 = .ok (.iadd, 1) := by decide +kernel
theorem dX6_addPort_32 : decode cX6_addPort 32 = .ok (.putfield 38, 3) := by decide +kernel
theorem dX6_addPort_35 : decode cX6_addPort 35 = .ok (.return_, 1) := by decide +kernel
theorem dX6_checkBytes_0 : decode cX6_checkBytes 0 = .ok (.aload_n 0, 1) := by decide +kernel
theorem dX6_checkBytes_1 : decode cX6_checkBytes 1 = .ok (.getfield 26, 3) := by decide +kernel
theorem dX6_checkBytes_4 : decode cX6_checkBytes 4 = .ok (.ifCond .ne 7, 3) := by decide +kernel
theorem dX6_checkBytes_7 : decode cX6_checkBytes 7 = .ok (.iconst 0, 1) := by decide +kernel
theorem dX6_checkBytes_8 : decode cX6_checkBytes 8 = .ok (.goto 4, 3) := by decide +kernel
theorem dX6_checkBytes_11 : decode cX6_checkBytes 11 = .ok (.iconst 1, 1) := by decide +kernel
theorem dX6_checkBytes_12 : decode cX6_checkBytes 12 = .ok (.ireturn, 1) := by decide +kernel
theorem dX6_widestFrame_0 : decode cX6_widestFrame 0 = .ok (.aload_n 0, 1) := by decide +kernel
theorem dX6_widestFrame_1 : decode cX6_widestFrame 1 = .ok (.getfield 12, 3) := by decide +kernel
theorem dX6_widestFrame_4 : decode cX6_widestFrame 4 = .ok (.iconst 1, 1) := by decide +kernel
theorem dX6_widestFrame_5 : decode cX6_widestFrame 5 = .ok (.iload_n 1, 1) := by decide +kernel
theorem dX6_widestFrame_6 : decode cX6_widestFrame 6 = .ok (.iadd, 1) := by decide +kernel
theorem dX6_widestFrame_7 : decode cX6_widestFrame 7 = .ok (.aload_n 0, 1) := by decide +kernel
theorem dX6_widestFrame_8 : decode cX6_widestFrame 8 = .ok (.invokevirtual 47, 3) := by decide +kernel
theorem dX6_widestFrame_11 : decode cX6_widestFrame 11 = .ok (.iadd, 1) := by decide +kernel
theorem dX6_widestFrame_12 : decode cX6_widestFrame 12 = .ok (.invokevirtual 51, 3) := by decide +kernel
theorem dX6_widestFrame_15 : decode cX6_widestFrame 15 = .ok (.iconst 1, 1) := by decide +kernel
theorem dX6_widestFrame_16 : decode cX6_widestFrame 16 = .ok (.iadd, 1) := by decide +kernel
theorem dX6_widestFrame_17 : decode cX6_widestFrame 17 = .ok (.ireturn, 1) := by decide +kernel
theorem dX7_init_0 : decode cX7_init 0 = .ok (.aload_n 0, 1) := by decide +kernel
theorem dX7_init_1 : decode cX7_init 1 = .ok (.invokespecial 3, 3) := by decide +kernel
theorem dX7_init_4 : decode cX7_init 4 = .ok (.aload_n 0, 1) := by decide +kernel
theorem dX7_init_5 : decode cX7_init 5 = .ok (.new 9, 3) := by decide +kernel
theorem dX7_init_8 : decode cX7_init 8 = .ok (.dup, 1) := by decide +kernel
theorem dX7_init_9 : decode cX7_init 9 = .ok (.sipush 600, 3) := by decide +kernel
theorem dX7_init_12 : decode cX7_init 12 = .ok (.invokespecial 11, 3) := by decide +kernel
theorem dX7_init_15 : decode cX7_init 15 = .ok (.putfield 14, 3) := by decide +kernel
theorem dX7_init_18 : decode cX7_init 18 = .ok (.aload_n 0, 1) := by decide +kernel
theorem dX7_init_19 : decode cX7_init 19 = .ok (.new 9, 3) := by decide +kernel
theorem dX7_init_22 : decode cX7_init 22 = .ok (.dup, 1) := by decide +kernel
theorem dX7_init_23 : decode cX7_init 23 = .ok (.sipush 200, 3) := by decide +kernel
theorem dX7_init_26 : decode cX7_init 26 = .ok (.invokespecial 11, 3) := by decide +kernel
theorem dX7_init_29 : decode cX7_init 29 = .ok (.putfield 20, 3) := by decide +kernel
theorem dX7_init_32 : decode cX7_init 32 = .ok (.aload_n 0, 1) := by decide +kernel
theorem dX7_init_33 : decode cX7_init 33 = .ok (.new 9, 3) := by decide +kernel
theorem dX7_init_36 : decode cX7_init 36 = .ok (.dup, 1) := by decide +kernel
theorem dX7_init_37 : decode cX7_init 37 = .ok (.sipush 200, 3) := by decide +kernel
theorem dX7_init_40 : decode cX7_init 40 = .ok (.invokespecial 11, 3) := by decide +kernel
theorem dX7_init_43 : decode cX7_init 43 = .ok (.putfield 23, 3) := by decide +kernel
theorem dX7_init_46 : decode cX7_init 46 = .ok (.aload_n 0, 1) := by decide +kernel
theorem dX7_init_47 : decode cX7_init 47 = .ok (.iconst (-1), 1) := by decide +kernel
theorem dX7_init_48 : decode cX7_init 48 = .ok (.putfield 26, 3) := by decide +kernel
theorem dX7_init_51 : decode cX7_init 51 = .ok (.aload_n 0, 1) := by decide +kernel
theorem dX7_init_52 : decode cX7_init 52 = .ok (.iconst 4, 1) := by decide +kernel
theorem dX7_init_53 : decode cX7_init 53 = .ok (.anewarray 30, 3) := by decide +kernel
theorem dX7_init_56 : decode cX7_init 56 = .ok (.putfield 32, 3) := by decide +kernel
theorem dX7_init_59 : decode cX7_init 59 = .ok (.iconst 0, 1) := by decide +kernel
theorem dX7_init_60 : decode cX7_init 60 = .ok (.istore_n 1, 1) := by decide +kernel
theorem dX7_init_61 : decode cX7_init 61 = .ok (.iload_n 1, 1) := by decide +kernel
theorem dX7_init_62 : decode cX7_init 62 = .ok (.iconst 4, 1) := by decide +kernel
theorem dX7_init_63 : decode cX7_init 63 = .ok (.if_icmp .ge 22, 3) := by decide +kernel
theorem dX7_init_66 : decode cX7_init 66 = .ok (.aload_n 0, 1) := by decide +kernel
theorem dX7_init_67 : decode cX7_init 67 = .ok (.getfield 32, 3) := by decide +kernel
theorem dX7_init_70 : decode cX7_init 70 = .ok (.iload_n 1, 1) := by decide +kernel
theorem dX7_init_71 : decode cX7_init 71 = .ok (.new 30, 3) := by decide +kernel
theorem dX7_init_74 : decode cX7_init 74 = .ok (.dup, 1) := by decide +kernel
theorem dX7_init_75 : decode cX7_init 75 = .ok (.invokespecial 36, 3) := by decide +kernel
theorem dX7_init_78 : decode cX7_init 78 = .ok (.aastore, 1) := by decide +kernel
theorem dX7_init_79 : decode cX7_init 79 = .ok (.iinc 1 1, 3) := by decide +kernel
theorem dX7_init_82 : decode cX7_init 82 = .ok (.goto (-21), 3) := by decide +kernel
theorem dX7_init_85 : decode cX7_init 85 = .ok (.return_, 1) := by decide +kernel
theorem dX7_reset_0 : decode cX7_reset 0 = .ok (.aload_n 0, 1) := by decide +kernel
theorem dX7_reset_1 : decode cX7_reset 1 = .ok (.getfield 14, 3) := by decide +kernel
theorem dX7_reset_4 : decode cX7_reset 4 = .ok (.invokevirtual 37, 3) := by decide +kernel
theorem dX7_reset_7 : decode cX7_reset 7 = .ok (.aload_n 0, 1) := by decide +kernel
theorem dX7_reset_8 : decode cX7_reset 8 = .ok (.getfield 20, 3) := by decide +kernel
theorem dX7_reset_11 : decode cX7_reset 11 = .ok (.invokevirtual 37, 3) := by decide +kernel
theorem dX7_reset_14 : decode cX7_reset 14 = .ok (.aload_n 0, 1) := by decide +kernel
theorem dX7_reset_15 : decode cX7_reset 15 = .ok (.getfield 23, 3) := by decide +kernel
theorem dX7_reset_18 : decode cX7_reset 18 = .ok (.invokevirtual 37, 3) := by decide +kernel
theorem dX7_reset_21 : decode cX7_reset 21 = .ok (.aload_n 0, 1) := by decide +kernel
theorem dX7_reset_22 : decode cX7_reset 22 = .ok (.iconst 0, 1) := by decide +kernel
theorem dX7_reset_23 : decode cX7_reset 23 = .ok (.putfield 40, 3) := by decide +kernel
theorem dX7_reset_26 : decode cX7_reset 26 = .ok (.aload_n 0, 1) := by decide +kernel
theorem dX7_reset_27 : decode cX7_reset 27 = .ok (.iconst (-1), 1) := by decide +kernel
theorem dX7_reset_28 : decode cX7_reset 28 = .ok (.putfield 26, 3) := by decide +kernel
theorem dX7_reset_31 : decode cX7_reset 31 = .ok (.aload_n 0, 1) := by decide +kernel
theorem dX7_reset_32 : decode cX7_reset 32 = .ok (.iconst 0, 1) := by decide +kernel
theorem dX7_reset_33 : decode cX7_reset 33 = .ok (.putfield 43, 3) := by decide +kernel
theorem dX7_reset_36 : decode cX7_reset 36 = .ok (.aload_n 0, 1) := by decide +kernel
theorem dX7_reset_37 : decode cX7_reset 37 = .ok (.aload_n 1, 1) := by decide +kernel
theorem dX7_reset_38 : decode cX7_reset 38 = .ok (.getfield 47, 3) := by decide +kernel
theorem dX7_reset_41 : decode cX7_reset 41 = .ok (.putfield 51, 3) := by decide +kernel
theorem dX7_reset_44 : decode cX7_reset 44 = .ok (.iconst 0, 1) := by decide +kernel
theorem dX7_reset_45 : decode cX7_reset 45 = .ok (.istore_n 2, 1) := by decide +kernel
theorem dX7_reset_46 : decode cX7_reset 46 = .ok (.iload_n 2, 1) := by decide +kernel
theorem dX7_reset_47 : decode cX7_reset 47 = .ok (.aload_n 0, 1) := by decide +kernel
theorem dX7_reset_48 : decode cX7_reset 48 = .ok (.getfield 51, 3) := by decide +kernel
theorem dX7_reset_51 : decode cX7_reset 51 = .ok (.if_icmp .ge 24, 3) := by decide +kernel
theorem dX7_reset_54 : decode cX7_reset 54 = .ok (.aload_n 0, 1) := by decide +kernel
theorem dX7_reset_55 : decode cX7_reset 55 = .ok (.getfield 32, 3) := by decide +kernel
theorem dX7_reset_58 : decode cX7_reset 58 = .ok (.iload_n 2, 1) := by decide +kernel
theorem dX7_reset_59 : decode cX7_reset 59 = .ok (.aaload, 1) := by decide +kernel
theorem dX7_reset_60 : decode cX7_reset 60 = .ok (.aload_n 1, 1) := by decide +kernel
theorem dX7_reset_61 : decode cX7_reset 61 = .ok (.getfield 54, 3) := by decide +kernel
theorem dX7_reset_64 : decode cX7_reset 64 = .ok (.iload_n 2, 1) := by decide +kernel
theorem dX7_reset_65 : decode cX7_reset 65 = .ok (.iaload, 1) := by decide +kernel
theorem dX7_reset_66 : decode cX7_reset 66 = .ok (.invokevirtual 58, 3) := by decide +kernel
theorem dX7_reset_69 : decode cX7_reset 69 = .ok (.iinc 2 1, 3) := by decide +kernel
theorem dX7_reset_72 : decode cX7_reset 72 = .ok (.goto (-26), 3) := by decide +kernel
theorem dX7_reset_75 : decode cX7_reset 75 = .ok (.return_, 1) := by decide +kernel
theorem dX7_copyFrom_0 : decode cX7_copyFrom 0 = .ok (.aload_n 0, 1) := by decide +kernel
theorem dX7_copyFrom_1 : decode cX7_copyFrom 1 = .ok (.getfield 14, 3) := by decide +kernel
theorem dX7_copyFrom_4 : decode cX7_copyFrom 4 = .ok (.aload_n 1, 1) := by decide +kernel
theorem dX7_copyFrom_5 : decode cX7_copyFrom 5 = .ok (.getfield 14, 3) := by decide +kernel
theorem dX7_copyFrom_8 : decode cX7_copyFrom 8 = .ok (.invokevirtual 61, 3) := by decide +kernel
theorem dX7_copyFrom_11 : decode cX7_copyFrom 11 = .ok (.aload_n 0, 1) := by decide +kernel
theorem dX7_copyFrom_12 : decode cX7_copyFrom 12 = .ok (.getfield 20, 3) := by decide +kernel
theorem dX7_copyFrom_15 : decode cX7_copyFrom 15 = .ok (.aload_n 1, 1) := by decide +kernel
theorem dX7_copyFrom_16 : decode cX7_copyFrom 16 = .ok (.getfield 20, 3) := by decide +kernel
theorem dX7_copyFrom_19 : decode cX7_copyFrom 19 = .ok (.invokevirtual 61, 3) := by decide +kernel
theorem dX7_copyFrom_22 : decode cX7_copyFrom 22 = .ok (.aload_n 0, 1) := by decide +kernel
theorem dX7_copyFrom_23 : decode cX7_copyFrom 23 = .ok (.getfield 23, 3) := by decide +kernel
theorem dX7_copyFrom_26 : decode cX7_copyFrom 26 = .ok (.aload_n 1, 1) := by decide +kernel
theorem dX7_copyFrom_27 : decode cX7_copyFrom 27 = .ok (.getfield 23, 3) := by decide +kernel
theorem dX7_copyFrom_30 : decode cX7_copyFrom 30 = .ok (.invokevirtual 61, 3) := by decide +kernel
theorem dX7_copyFrom_33 : decode cX7_copyFrom 33 = .ok (.aload_n 0, 1) := by decide +kernel
theorem dX7_copyFrom_34 : decode cX7_copyFrom 34 = .ok (.aload_n 1, 1) := by decide +kernel
theorem dX7_copyFrom_35 : decode cX7_copyFrom 35 = .ok (.getfield 40, 3) := by decide +kernel
theorem dX7_copyFrom_38 : decode cX7_copyFrom 38 = .ok (.putfield 40, 3) := by decide +kernel
theorem dX7_copyFrom_41 : decode cX7_copyFrom 41 = .ok (.aload_n 0, 1) := by decide +kernel
theorem dX7_copyFrom_42 : decode cX7_copyFrom 42 = .ok (.aload_n 1, 1) := by decide +kernel
theorem dX7_copyFrom_43 : decode cX7_copyFrom 43 = .ok (.getfield 26, 3) := by decide +kernel
theorem dX7_copyFrom_46 : decode cX7_copyFrom 46 = .ok (.putfield 26, 3) := by decide +kernel
theorem dX7_copyFrom_49 : decode cX7_copyFrom 49 = .ok (.aload_n 0, 1) := by decide +kernel
theorem dX7_copyFrom_50 : decode cX7_copyFrom 50 = .ok (.aload_n 1, 1) := by decide +kernel
theorem dX7_copyFrom_51 : decode cX7_copyFrom 51 = .ok (.getfield 43, 3) := by decide +kernel
theorem dX7_copyFrom_54 : decode cX7_copyFrom 54 = .ok (.putfield 43, 3) := by decide +kernel
theorem dX7_copyFrom_57 : decode cX7_copyFrom 57 = .ok (.aload_n 0, 1) := by decide +kernel
theorem dX7_copyFrom_58 : decode cX7_copyFrom 58 = .ok (.aload_n 1, 1) := by decide +kernel
theorem dX7_copyFrom_59 : decode cX7_copyFrom 59 = .ok (.getfield 51, 3) := by decide +kernel
theorem dX7_copyFrom_62 : decode cX7_copyFrom 62 = .ok (.putfield 51, 3) := by decide +kernel
theorem dX7_copyFrom_65 : decode cX7_copyFrom 65 = .ok (.iconst 0, 1) := by decide +kernel
theorem dX7_copyFrom_66 : decode cX7_copyFrom 66 = .ok (.istore_n 2, 1) := by decide +kernel
theorem dX7_copyFrom_67 : decode cX7_copyFrom 67 = .ok (.iload_n 2, 1) := by decide +kernel
theorem dX7_copyFrom_68 : decode cX7_copyFrom 68 = .ok (.aload_n 0, 1) := by decide +kernel
theorem dX7_copyFrom_69 : decode cX7_copyFrom 69 = .ok (.getfield 51, 3) := by decide +kernel
theorem dX7_copyFrom_72 : decode cX7_copyFrom 72 = .ok (.if_icmp .ge 24, 3) := by decide +kernel
theorem dX7_copyFrom_75 : decode cX7_copyFrom 75 = .ok (.aload_n 0, 1) := by decide +kernel
theorem dX7_copyFrom_76 : decode cX7_copyFrom 76 = .ok (.getfield 32, 3) := by decide +kernel
theorem dX7_copyFrom_79 : decode cX7_copyFrom 79 = .ok (.iload_n 2, 1) := by decide +kernel
theorem dX7_copyFrom_80 : decode cX7_copyFrom 80 = .ok (.aaload, 1) := by decide +kernel
theorem dX7_copyFrom_81 : decode cX7_copyFrom 81 = .ok (.aload_n 1, 1) := by decide +kernel
theorem dX7_copyFrom_82 : decode cX7_copyFrom 82 = .ok (.getfield 32, 3) := by decide +kernel
theorem dX7_copyFrom_85 : decode cX7_copyFrom 85 = .ok (.iload_n 2, 1) := by decide +kernel
theorem dX7_copyFrom_86 : decode cX7_copyFrom 86 = .ok (.aaload, 1) := by decide +kernel
theorem dX7_copyFrom_87 : decode cX7_copyFrom 87 = .ok (.invokevirtual 65, 3) := by decide +kernel
theorem dX7_copyFrom_90 : decode cX7_copyFrom 90 = .ok (.iinc 2 1, 3) := by decide +kernel
theorem dX7_copyFrom_93 : decode cX7_copyFrom 93 = .ok (.goto (-26), 3) := by decide +kernel
theorem dX7_copyFrom_96 : decode cX7_copyFrom 96 = .ok (.return_, 1) := by decide +kernel
theorem dX7_portAt_0 : decode cX7_portAt 0 = .ok (.iload_n 1, 1) := by decide +kernel
theorem dX7_portAt_1 : decode cX7_portAt 1 = .ok (.ifCond .lt 20, 3) := by decide +kernel
theorem dX7_portAt_4 : decode cX7_portAt 4 = .ok (.iload_n 1, 1) := by decide +kernel
theorem dX7_portAt_5 : decode cX7_portAt 5 = .ok (.aload_n 0, 1) := by decide +kernel
theorem dX7_portAt_6 : decode cX7_portAt 6 = .ok (.getfield 51, 3) := by decide +kernel
theorem dX7_portAt_9 : decode cX7_portAt 9 = .ok (.if_icmp .ge 12, 3) := by decide +kernel
theorem dX7_portAt_12 : decode cX7_portAt 12 = .ok (.aload_n 0, 1) := by decide +kernel
theorem dX7_portAt_13 : decode cX7_portAt 13 = .ok (.getfield 32, 3) := by decide +kernel
theorem dX7_portAt_16 : decode cX7_portAt 16 = .ok (.iload_n 1, 1) := by decide +kernel
theorem dX7_portAt_17 : decode cX7_portAt 17 = .ok (.aaload, 1) := by decide +kernel
theorem dX7_portAt_18 : decode cX7_portAt 18 = .ok (.goto 4, 3) := by decide +kernel
theorem dX7_portAt_21 : decode cX7_portAt 21 = .ok (.aconst_null, 1) := by decide +kernel
theorem dX7_portAt_22 : decode cX7_portAt 22 = .ok (.areturn, 1) := by decide +kernel
theorem dX7_pick_0 : decode cX7_pick 0 = .ok (.iconst (-1), 1) := by decide +kernel
theorem dX7_pick_1 : decode cX7_pick 1 = .ok (.istore_n 1, 1) := by decide +kernel
theorem dX7_pick_2 : decode cX7_pick 2 = .ok (.iconst 0, 1) := by decide +kernel
theorem dX7_pick_3 : decode cX7_pick 3 = .ok (.istore_n 2, 1) := by decide +kernel
theorem dX7_pick_4 : decode cX7_pick 4 = .ok (.aload_n 0, 1) := by decide +kernel
theorem dX7_pick_5 : decode cX7_pick 5 = .ok (.getfield 26, 3) := by decide +kernel
theorem dX7_pick_8 : decode cX7_pick 8 = .ok (.iconst (-1), 1) := by decide +kernel
theorem dX7_pick_9 : decode cX7_pick 9 = .ok (.if_icmp .ne 12, 3) := by decide +kernel
theorem dX7_pick_12 : decode cX7_pick 12 = .ok (.aload_n 0, 1) := by decide +kernel
theorem dX7_pick_13 : decode cX7_pick 13 = .ok (.getfield 51, 3) := by decide +kernel
theorem dX7_pick_16 : decode cX7_pick 16 = .ok (.iconst 1, 1) := by decide +kernel
theorem dX7_pick_17 : decode cX7_pick 17 = .ok (.isub, 1) := by decide +kernel
theorem dX7_pick_18 : decode cX7_pick 18 = .ok (.goto 7, 3) := by decide +kernel
theorem dX7_pick_21 : decode cX7_pick 21 = .ok (.aload_n 0, 1) := by decide +kernel
theorem dX7_pick_22 : decode cX7_pick 22 = .ok (.getfield 26, 3) := by decide +kernel
theorem dX7_pick_25 : decode cX7_pick 25 = .ok (.istore_n 3, 1) := by decide +kernel
theorem dX7_pick_26 : decode cX7_pick 26 = .ok (.iconst 1, 1) := by decide +kernel
theorem dX7_pick_27 : decode cX7_pick 27 = .ok (.istore 4, 2) := by decide +kernel
theorem dX7_pick_29 : decode cX7_pick 29 = .ok (.iload 4, 2) := by decide +kernel
theorem dX7_pick_31 : decode cX7_pick 31 = .ok (.aload_n 0, 1) := by decide +kernel
theorem dX7_pick_32 : decode cX7_pick 32 = .ok (.getfield 51, 3) := by decide +kernel
theorem dX7_pick_35 : decode cX7_pick 35 = .ok (.if_icmp .gt 64, 3) := by decide +kernel
theorem dX7_pick_38 : decode cX7_pick 38 = .ok (.iload_n 3, 1) := by decide +kernel
theorem dX7_pick_39 : decode cX7_pick 39 = .ok (.iload 4, 2) := by decide +kernel
theorem dX7_pick_41 : decode cX7_pick 41 = .ok (.iadd, 1) := by decide +kernel
theorem dX7_pick_42 : decode cX7_pick 42 = .ok (.aload_n 0, 1) := by decide +kernel
theorem dX7_pick_43 : decode cX7_pick 43 = .ok (.getfield 51, 3) := by decide +kernel
theorem dX7_pick_46 : decode cX7_pick 46 = .ok (.irem, 1) := by decide +kernel
theorem dX7_pick_47 : decode cX7_pick 47 = .ok (.istore 5, 2) := by decide +kernel
theorem dX7_pick_49 : decode cX7_pick 49 = .ok (.aload_n 0, 1) := by decide +kernel
theorem dX7_pick_50 : decode cX7_pick 50 = .ok (.getfield 32, 3) := by decide +kernel
theorem dX7_pick_53 : decode cX7_pick 53 = .ok (.iload 5, 2) := by decide +kernel
theorem dX7_pick_55 : decode cX7_pick 55 = .ok (.aaload, 1) := by decide +kernel
theorem dX7_pick_56 : decode cX7_pick 56 = .ok (.getfield 68, 3) := by decide +kernel
theorem dX7_pick_59 : decode cX7_pick 59 = .ok (.invokevirtual 72, 3) := by decide +kernel
theorem dX7_pick_62 : decode cX7_pick 62 = .ok (.ifCond .le 31, 3) := by decide +kernel
theorem dX7_pick_65 : decode cX7_pick 65 = .ok (.aload_n 0, 1) := by decide +kernel
theorem dX7_pick_66 : decode cX7_pick 66 = .ok (.getfield 32, 3) := by decide +kernel
theorem dX7_pick_69 : decode cX7_pick 69 = .ok (.iload 5, 2) := by decide +kernel
theorem dX7_pick_71 : decode cX7_pick 71 = .ok (.aaload, 1) := by decide +kernel
theorem dX7_pick_72 : decode cX7_pick 72 = .ok (.getfield 78, 3) := by decide +kernel
theorem dX7_pick_75 : decode cX7_pick 75 = .ok (.iload_n 2, 1) := by decide +kernel
theorem dX7_pick_76 : decode cX7_pick 76 = .ok (.if_icmp .le 17, 3) := by decide +kernel
theorem dX7_pick_79 : decode cX7_pick 79 = .ok (.iload 5, 2) := by decide +kernel
theorem dX7_pick_81 : decode cX7_pick 81 = .ok (.istore_n 1, 1) := by decide +kernel
theorem dX7_pick_82 : decode cX7_pick 82 = .ok (.aload_n 0, 1) := by decide +kernel
theorem dX7_pick_83 : decode cX7_pick 83 = .ok (.getfield 32, 3) := by decide +kernel
theorem dX7_pick_86 : decode cX7_pick 86 = .ok (.iload 5, 2) := by decide +kernel
theorem dX7_pick_88 : decode cX7_pick 88 = .ok (.aaload, 1) := by decide +kernel
theorem dX7_pick_89 : decode cX7_pick 89 = .ok (.getfield 78, 3) := by decide +kernel
theorem dX7_pick_92 : decode cX7_pick 92 = .ok (.istore_n 2, 1) := by decide +kernel
theorem dX7_pick_93 : decode cX7_pick 93 = .ok (.iinc 4 1, 3) := by decide +kernel
theorem dX7_pick_96 : decode cX7_pick 96 = .ok (.goto (-67), 3) := by decide +kernel
theorem dX7_pick_99 : decode cX7_pick 99 = .ok (.iload_n 1, 1) := by decide +kernel
theorem dX7_pick_100 : decode cX7_pick 100 = .ok (.ireturn, 1) := by decide +kernel
theorem dX7_putFrames_0 : decode cX7_putFrames 0 = .ok (.iconst 0, 1) := by decide +kernel
theorem dX7_putFrames_1 : decode cX7_putFrames 1 = .ok (.istore_n 3, 1) := by decide +kernel
theorem dX7_putFrames_2 : decode cX7_putFrames 2 = .ok (.iload_n 3, 1) := by decide +kernel
theorem dX7_putFrames_3 : decode cX7_putFrames 3 = .ok (.iload_n 1, 1) := by decide +kernel
theorem dX7_putFrames_4 : decode cX7_putFrames 4 = .ok (.if_icmp .ge 17, 3) := by decide +kernel
theorem dX7_putFrames_7 : decode cX7_putFrames 7 = .ok (.aload_n 0, 1) := by decide +kernel
theorem dX7_putFrames_8 : decode cX7_putFrames 8 = .ok (.aload_n 2, 1) := by decide +kernel
theorem dX7_putFrames_9 : decode cX7_putFrames 9 = .ok (.invokevirtual 80, 3) := by decide +kernel
theorem dX7_putFrames_12 : decode cX7_putFrames 12 = .ok (.ifCond .eq 9, 3) := by decide +kernel
theorem dX7_putFrames_15 : decode cX7_putFrames 15 = .ok (.iinc 3 1, 3) := by decide +kernel
theorem dX7_putFrames_18 : decode cX7_putFrames 18 = .ok (.goto (-16), 3) := by decide +kernel
theorem dX7_putFrames_21 : decode cX7_putFrames 21 = .ok (.iload_n 3, 1) := by decide +kernel
theorem dX7_putFrames_22 : decode cX7_putFrames 22 = .ok (.ireturn, 1) := by decide +kernel
theorem dX7_putFrame_0 : decode cX7_putFrame 0 = .ok (.aload_n 0, 1) := by decide +kernel
theorem dX7_putFrame_1 : decode cX7_putFrame 1 = .ok (.invokevirtual 84, 3) := by decide +kernel
theorem dX7_putFrame_4 : decode cX7_putFrame 4 = .ok (.istore_n 2, 1) := by decide +kernel
theorem dX7_putFrame_5 : decode cX7_putFrame 5 = .ok (.aload_n 0, 1) := by decide +kernel
theorem dX7_putFrame_6 : decode cX7_putFrame 6 = .ok (.iload_n 2, 1) := by decide +kernel
theorem dX7_putFrame_7 : decode cX7_putFrame 7 = .ok (.invokevirtual 87, 3) := by decide +kernel
theorem dX7_putFrame_10 : decode cX7_putFrame 10 = .ok (.astore_n 3, 1) := by decide +kernel
theorem dX7_putFrame_11 : decode cX7_putFrame 11 = .ok (.aload_n 3, 1) := by decide +kernel
theorem dX7_putFrame_12 : decode cX7_putFrame 12 = .ok (.ifnonnull 5, 3) := by decide +kernel
theorem dX7_putFrame_15 : decode cX7_putFrame 15 = .ok (.iconst 0, 1) := by decide +kernel
theorem dX7_putFrame_16 : decode cX7_putFrame 16 = .ok (.ireturn, 1) := by decide +kernel
theorem dX7_putFrame_17 : decode cX7_putFrame 17 = .ok (.aload_n 1, 1) := by decide +kernel
theorem dX7_putFrame_18 : decode cX7_putFrame 18 = .ok (.aload_n 3, 1) := by decide +kernel
theorem dX7_putFrame_19 : decode cX7_putFrame 19 = .ok (.iload_n 2, 1) := by decide +kernel
theorem dX7_putFrame_20 : decode cX7_putFrame 20 = .ok (.invokevirtual 91, 3) := by decide +kernel
theorem dX7_putFrame_23 : decode cX7_putFrame 23 = .ok (.istore 4, 2) := by decide +kernel
theorem dX7_putFrame_25 : decode cX7_putFrame 25 = .ok (.aload_n 0, 1) := by decide +kernel
theorem dX7_putFrame_26 : decode cX7_putFrame 26 = .ok (.getfield 14, 3) := by decide +kernel
theorem dX7_putFrame_29 : decode cX7_putFrame 29 = .ok (.getfield 97, 3) := by decide +kernel
theorem dX7_putFrame_32 : decode cX7_putFrame 32 = .ok (.aload_n 1, 1) := by decide +kernel
theorem dX7_putFrame_33 : decode cX7_putFrame 33 = .ok (.getfield 100, 3) := by decide +kernel
theorem dX7_putFrame_36 : decode cX7_putFrame 36 = .ok (.getfield 97, 3) := by decide +kernel
theorem dX7_putFrame_39 : decode cX7_putFrame 39 = .ok (.iadd, 1) := by decide +kernel
theorem dX7_putFrame_40 : decode cX7_putFrame 40 = .ok (.iconst 1, 1) := by decide +kernel
theorem dX7_putFrame_41 : decode cX7_putFrame 41 = .ok (.iadd, 1) := by decide +kernel
theorem dX7_putFrame_42 : decode cX7_putFrame 42 = .ok (.sipush 600, 3) := by decide +kernel
theorem dX7_putFrame_45 : decode cX7_putFrame 45 = .ok (.if_icmp .le 5, 3) := by decide +kernel
theorem dX7_putFrame_48 : decode cX7_putFrame 48 = .ok (.iconst 0, 1) := by decide +kernel
theorem dX7_putFrame_49 : decode cX7_putFrame 49 = .ok (.ireturn, 1) := by decide +kernel
theorem dX7_putFrame_50 : decode cX7_putFrame 50 = .ok (.aload_n 0, 1) := by decide +kernel
theorem dX7_putFrame_51 : decode cX7_putFrame 51 = .ok (.getfield 14, 3) := by decide +kernel
theorem dX7_putFrame_54 : decode cX7_putFrame 54 = .ok (.aload_n 1, 1) := by decide +kernel
theorem dX7_putFrame_55 : decode cX7_putFrame 55 = .ok (.getfield 100, 3) := by decide +kernel
theorem dX7_putFrame_58 : decode cX7_putFrame 58 = .ok (.iconst 0, 1) := by decide +kernel
theorem dX7_putFrame_59 : decode cX7_putFrame 59 = .ok (.aload_n 1, 1) := by decide +kernel
theorem dX7_putFrame_60 : decode cX7_putFrame 60 = .ok (.getfield 100, 3) := by decide +kernel
theorem dX7_putFrame_63 : decode cX7_putFrame 63 = .ok (.getfield 97, 3) := by decide +kernel
theorem dX7_putFrame_66 : decode cX7_putFrame 66 = .ok (.invokevirtual 103, 3) := by decide +kernel
theorem dX7_putFrame_69 : decode cX7_putFrame 69 = .ok (.aload_n 0, 1) := by decide +kernel
theorem dX7_putFrame_70 : decode cX7_putFrame 70 = .ok (.getfield 14, 3) := by decide +kernel
theorem dX7_putFrame_73 : decode cX7_putFrame 73 = .ok (.iconst 0, 1) := by decide +kernel
theorem dX7_putFrame_74 : decode cX7_putFrame 74 = .ok (.invokevirtual 107, 3) := by decide +kernel
theorem dX7_putFrame_77 : decode cX7_putFrame 77 = .ok (.aload_n 3, 1) := by decide +kernel
theorem dX7_putFrame_78 : decode cX7_putFrame 78 = .ok (.iload 4, 2) := by decide +kernel
theorem dX7_putFrame_80 : decode cX7_putFrame 80 = .ok (.invokevirtual 110, 3) := by decide +kernel
theorem dX7_putFrame_83 : decode cX7_putFrame 83 = .ok (.aload_n 0, 1) := by decide +kernel
theorem dX7_putFrame_84 : decode cX7_putFrame 84 = .ok (.iload_n 2, 1) := by decide +kernel
theorem dX7_putFrame_85 : decode cX7_putFrame 85 = .ok (.putfield 26, 3) := by decide +kernel
theorem dX7_putFrame_88 : decode cX7_putFrame 88 = .ok (.iconst 1, 1) := by decide +kernel
theorem dX7_putFrame_89 : decode cX7_putFrame 89 = .ok (.ireturn, 1) := by decide +kernel
theorem dX7_disturb_0 : decode cX7_disturb 0 = .ok (.aload_n 1, 1) := by decide +kernel
theorem dX7_disturb_1 : decode cX7_disturb 1 = .ok (.iconst 3, 1) := by decide +kernel
theorem dX7_disturb_2 : decode cX7_disturb 2 = .ok (.invokevirtual 113, 3) := by decide +kernel
theorem dX7_disturb_5 : decode cX7_disturb 5 = .ok (.istore_n 2, 1) := by decide +kernel
theorem dX7_disturb_6 : decode cX7_disturb 6 = .ok (.iload_n 2, 1) := by decide +kernel
theorem dX7_disturb_7 : decode cX7_disturb 7 = .ok (.iconst 2, 1) := by decide +kernel
theorem dX7_disturb_8 : decode cX7_disturb 8 = .ok (.if_icmp .ne 51, 3) := by decide +kernel
theorem dX7_disturb_11 : decode cX7_disturb 11 = .ok (.aload_n 0, 1) := by decide +kernel
theorem dX7_disturb_12 : decode cX7_disturb 12 = .ok (.getfield 14, 3) := by decide +kernel
theorem dX7_disturb_15 : decode cX7_disturb 15 = .ok (.getfield 97, 3) := by decide +kernel
theorem dX7_disturb_18 : decode cX7_disturb 18 = .ok (.sipush 600, 3) := by decide +kernel
theorem dX7_disturb_21 : decode cX7_disturb 21 = .ok (.if_icmp .lt 5, 3) := by decide +kernel
theorem dX7_disturb_24 : decode cX7_disturb 24 = .ok (.iconst 0, 1) := by decide +kernel
theorem dX7_disturb_25 : decode cX7_disturb 25 = .ok (.ireturn, 1) := by decide +kernel
theorem dX7_disturb_26 : decode cX7_disturb 26 = .ok (.aload_n 1, 1) := by decide +kernel
theorem dX7_disturb_27 : decode cX7_disturb 27 = .ok (.aload_n 0, 1) := by decide +kernel
theorem dX7_disturb_28 : decode cX7_disturb 28 = .ok (.getfield 14, 3) := by decide +kernel
theorem dX7_disturb_31 : decode cX7_disturb 31 = .ok (.getfield 97, 3) := by decide +kernel
theorem dX7_disturb_34 : decode cX7_disturb 34 = .ok (.iconst 1, 1) := by decide +kernel
theorem dX7_disturb_35 : decode cX7_disturb 35 = .ok (.iadd, 1) := by decide +kernel
theorem dX7_disturb_36 : decode cX7_disturb 36 = .ok (.invokevirtual 113, 3) := by decide +kernel
theorem dX7_disturb_39 : decode cX7_disturb 39 = .ok (.istore_n 3, 1) := by decide +kernel
theorem dX7_disturb_40 : decode cX7_disturb 40 = .ok (.aload_n 0, 1) := by decide +kernel
theorem dX7_disturb_41 : decode cX7_disturb 41 = .ok (.getfield 14, 3) := by decide +kernel
theorem dX7_disturb_44 : decode cX7_disturb 44 = .ok (.iload_n 3, 1) := by decide +kernel
theorem dX7_disturb_45 : decode cX7_disturb 45 = .ok (.aload_n 1, 1) := by decide +kernel
theorem dX7_disturb_46 : decode cX7_disturb 46 = .ok (.sipush 255, 3) := by decide +kernel
theorem dX7_disturb_49 : decode cX7_disturb 49 = .ok (.invokevirtual 113, 3) := by decide +kernel
theorem dX7_disturb_52 : decode cX7_disturb 52 = .ok (.iconst 1, 1) := by decide +kernel
theorem dX7_disturb_53 : decode cX7_disturb 53 = .ok (.iadd, 1) := by decide +kernel
theorem dX7_disturb_54 : decode cX7_disturb 54 = .ok (.invokevirtual 119, 3) := by decide +kernel
theorem dX7_disturb_57 : decode cX7_disturb 57 = .ok (.iconst 1, 1) := by decide +kernel
theorem dX7_disturb_58 : decode cX7_disturb 58 = .ok (.ireturn, 1) := by decide +kernel
theorem dX7_disturb_59 : decode cX7_disturb 59 = .ok (.aload_n 0, 1) := by decide +kernel
theorem dX7_disturb_60 : decode cX7_disturb 60 = .ok (.getfield 14, 3) := by decide +kernel
theorem dX7_disturb_63 : decode cX7_disturb 63 = .ok (.getfield 97, 3) := by decide +kernel
theorem dX7_disturb_66 : decode cX7_disturb 66 = .ok (.ifCond .ne 5, 3) := by decide +kernel
theorem dX7_disturb_69 : decode cX7_disturb 69 = .ok (.iconst 0, 1) := by decide +kernel
theorem dX7_disturb_70 : decode cX7_disturb 70 = .ok (.ireturn, 1) := by decide +kernel
theorem dX7_disturb_71 : decode cX7_disturb 71 = .ok (.aload_n 1, 1) := by decide +kernel
theorem dX7_disturb_72 : decode cX7_disturb 72 = .ok (.aload_n 0, 1) := by decide +kernel
theorem dX7_disturb_73 : decode cX7_disturb 73 = .ok (.getfield 14, 3) := by decide +kernel
theorem dX7_disturb_76 : decode cX7_disturb 76 = .ok (.getfield 97, 3) := by decide +kernel
theorem dX7_disturb_79 : decode cX7_disturb 79 = .ok (.invokevirtual 113, 3) := by decide +kernel
theorem dX7_disturb_82 : decode cX7_disturb 82 = .ok (.istore_n 3, 1) := by decide +kernel
theorem dX7_disturb_83 : decode cX7_disturb 83 = .ok (.iload_n 2, 1) := by decide +kernel
theorem dX7_disturb_84 : decode cX7_disturb 84 = .ok (.ifCond .ne 32, 3) := by decide +kernel
theorem dX7_disturb_87 : decode cX7_disturb 87 = .ok (.aload_n 0, 1) := by decide +kernel
theorem dX7_disturb_88 : decode cX7_disturb 88 = .ok (.getfield 14, 3) := by decide +kernel
theorem dX7_disturb_91 : decode cX7_disturb 91 = .ok (.iload_n 3, 1) := by decide +kernel
theorem dX7_disturb_92 : decode cX7_disturb 92 = .ok (.aload_n 0, 1) := by decide +kernel
theorem dX7_disturb_93 : decode cX7_disturb 93 = .ok (.getfield 14, 3) := by decide +kernel
theorem dX7_disturb_96 : decode cX7_disturb 96 = .ok (.iload_n 3, 1) := by decide +kernel
theorem dX7_disturb_97 : decode cX7_disturb 97 = .ok (.invokevirtual 123, 3) := by decide +kernel
theorem dX7_disturb_100 : decode cX7_disturb 100 = .ok (.aload_n 1, 1) := by decide +kernel
theorem dX7_disturb_101 : decode cX7_disturb 101 = .ok (.sipush 255, 3) := by decide +kernel
theorem dX7_disturb_104 : decode cX7_disturb 104 = .ok (.invokevirtual 113, 3) := by decide +kernel
theorem dX7_disturb_107 : decode cX7_disturb 107 = .ok (.iconst 1, 1) := by decide +kernel
theorem dX7_disturb_108 : decode cX7_disturb 108 = .ok (.iadd, 1) := by decide +kernel
theorem dX7_disturb_109 : decode cX7_disturb 109 = .ok (.ixor, 1) := by decide +kernel
theorem dX7_disturb_110 : decode cX7_disturb 110 = .ok (.invokevirtual 126, 3) := by decide +kernel
theorem dX7_disturb_113 : decode cX7_disturb 113 = .ok (.goto 11, 3) := by decide +kernel
theorem dX7_disturb_116 : decode cX7_disturb 116 = .ok (.aload_n 0, 1) := by decide +kernel
theorem dX7_disturb_117 : decode cX7_disturb 117 = .ok (.getfield 14, 3) := by decide +kernel
theorem dX7_disturb_120 : decode cX7_disturb 120 = .ok (.iload_n 3, 1) := by decide +kernel
theorem dX7_disturb_121 : decode cX7_disturb 121 = .ok (.invokevirtual 129, 3) := by decide +kernel
theorem dX7_disturb_124 : decode cX7_disturb 124 = .ok (.iconst 1, 1) := by decide +kernel
theorem dX7_disturb_125 : decode cX7_disturb 125 = .ok (.ireturn, 1) := by decide +kernel
theorem dX7_readBytes_0 : decode cX7_readBytes 0 = .ok (.aload_n 0, 1) := by decide +kernel
theorem dX7_readBytes_1 : decode cX7_readBytes 1 = .ok (.getfield 40, 3) := by decide +kernel
theorem dX7_readBytes_4 : decode cX7_readBytes 4 = .ok (.istore_n 3, 1) := by decide +kernel
theorem dX7_readBytes_5 : decode cX7_readBytes 5 = .ok (.iload_n 1, 1) := by decide +kernel
theorem dX7_readBytes_6 : decode cX7_readBytes 6 = .ok (.aload_n 0, 1) := by decide +kernel
theorem dX7_readBytes_7 : decode cX7_readBytes 7 = .ok (.getfield 14, 3) := by decide +kernel
theorem dX7_readBytes_10 : decode cX7_readBytes 10 = .ok (.getfield 97, 3) := by decide +kernel
theorem dX7_readBytes_13 : decode cX7_readBytes 13 = .ok (.invokestatic 132, 3) := by decide +kernel
theorem dX7_readBytes_16 : decode cX7_readBytes 16 = .ok (.istore 4, 2) := by decide +kernel
theorem dX7_readBytes_18 : decode cX7_readBytes 18 = .ok (.iconst 0, 1) := by decide +kernel
theorem dX7_readBytes_19 : decode cX7_readBytes 19 = .ok (.istore 5, 2) := by decide +kernel
theorem dX7_readBytes_21 : decode cX7_readBytes 21 = .ok (.iload 5, 2) := by decide +kernel
theorem dX7_readBytes_23 : decode cX7_readBytes 23 = .ok (.iload 4, 2) := by decide +kernel
theorem dX7_readBytes_25 : decode cX7_readBytes 25 = .ok (.if_icmp .ge 63, 3) := by decide +kernel
theorem dX7_readBytes_28 : decode cX7_readBytes 28 = .ok (.aload_n 0, 1) := by decide +kernel
theorem dX7_readBytes_29 : decode cX7_readBytes 29 = .ok (.getfield 14, 3) := by decide +kernel
theorem dX7_readBytes_32 : decode cX7_readBytes 32 = .ok (.iload 5, 2) := by decide +kernel
theorem dX7_readBytes_34 : decode cX7_readBytes 34 = .ok (.invokevirtual 123, 3) := by decide +kernel
theorem dX7_readBytes_37 : decode cX7_readBytes 37 = .ok (.istore 6, 2) := by decide +kernel
theorem dX7_readBytes_39 : decode cX7_readBytes 39 = .ok (.iload 6, 2) := by decide +kernel
theorem dX7_readBytes_41 : decode cX7_readBytes 41 = .ok (.ifCond .ne 11, 3) := by decide +kernel
theorem dX7_readBytes_44 : decode cX7_readBytes 44 = .ok (.aload_n 0, 1) := by decide +kernel
theorem dX7_readBytes_45 : decode cX7_readBytes 45 = .ok (.aload_n 2, 1) := by decide +kernel
theorem dX7_readBytes_46 : decode cX7_readBytes 46 = .ok (.invokevirtual 138, 3) := by decide +kernel
theorem dX7_readBytes_49 : decode cX7_readBytes 49 = .ok (.goto 33, 3) := by decide +kernel
theorem dX7_readBytes_52 : decode cX7_readBytes 52 = .ok (.aload_n 0, 1) := by decide +kernel
theorem dX7_readBytes_53 : decode cX7_readBytes 53 = .ok (.getfield 20, 3) := by decide +kernel
theorem dX7_readBytes_56 : decode cX7_readBytes 56 = .ok (.getfield 97, 3) := by decide +kernel
theorem dX7_readBytes_59 : decode cX7_readBytes 59 = .ok (.sipush 200, 3) := by decide +kernel
theorem dX7_readBytes_62 : decode cX7_readBytes 62 = .ok (.if_icmp .ge 15, 3) := by decide +kernel
theorem dX7_readBytes_65 : decode cX7_readBytes 65 = .ok (.aload_n 0, 1) := by decide +kernel
theorem dX7_readBytes_66 : decode cX7_readBytes 66 = .ok (.getfield 20, 3) := by decide +kernel
theorem dX7_readBytes_69 : decode cX7_readBytes 69 = .ok (.iload 6, 2) := by decide +kernel
theorem dX7_readBytes_71 : decode cX7_readBytes 71 = .ok (.invokevirtual 107, 3) := by decide +kernel
theorem dX7_readBytes_74 : decode cX7_readBytes 74 = .ok (.goto 8, 3) := by decide +kernel
theorem dX7_readBytes_77 : decode cX7_readBytes 77 = .ok (.aload_n 0, 1) := by decide +kernel
theorem dX7_readBytes_78 : decode cX7_readBytes 78 = .ok (.iconst 1, 1) := by decide +kernel
theorem dX7_readBytes_79 : decode cX7_readBytes 79 = .ok (.putfield 43, 3) := by decide +kernel
theorem dX7_readBytes_82 : decode cX7_readBytes 82 = .ok (.iinc 5 1, 3) := by decide +kernel
theorem dX7_readBytes_85 : decode cX7_readBytes 85 = .ok (.goto (-64), 3) := by decide +kernel
theorem dX7_readBytes_88 : decode cX7_readBytes 88 = .ok (.aload_n 0, 1) := by decide +kernel
theorem dX7_readBytes_89 : decode cX7_readBytes 89 = .ok (.getfield 14, 3) := by decide +kernel
theorem dX7_readBytes_92 : decode cX7_readBytes 92 = .ok (.iload 4, 2) := by decide +kernel
theorem dX7_readBytes_94 : decode cX7_readBytes 94 = .ok (.invokevirtual 142, 3) := by decide +kernel
theorem dX7_readBytes_97 : decode cX7_readBytes 97 = .ok (.aload_n 0, 1) := by decide +kernel
theorem dX7_readBytes_98 : decode cX7_readBytes 98 = .ok (.getfield 40, 3) := by decide +kernel
theorem dX7_readBytes_101 : decode cX7_readBytes 101 = .ok (.iload_n 3, 1) := by decide +kernel
theorem dX7_readBytes_102 : decode cX7_readBytes 102 = .ok (.isub, 1) := by decide +kernel
theorem dX7_readBytes_103 : decode cX7_readBytes 103 = .ok (.ireturn, 1) := by decide +kernel
theorem dX7_readMark_0 : decode cX7_readMark 0 = .ok (.aload_n 0, 1) := by decide +kernel
theorem dX7_readMark_1 : decode cX7_readMark 1 = .ok (.getfield 20, 3) := by decide +kernel
theorem dX7_readMark_4 : decode cX7_readMark 4 = .ok (.getfield 97, 3) := by decide +kernel
theorem dX7_readMark_7 : decode cX7_readMark 7 = .ok (.ifCond .ne 4, 3) := by decide +kernel
theorem dX7_readMark_10 : decode cX7_readMark 10 = .ok (.return_, 1) := by decide +kernel
theorem dX7_readMark_11 : decode cX7_readMark 11 = .ok (.aload_n 0, 1) := by decide +kernel
theorem dX7_readMark_12 : decode cX7_readMark 12 = .ok (.getfield 43, 3) := by decide +kernel
theorem dX7_readMark_15 : decode cX7_readMark 15 = .ok (.ifCond .eq 7, 3) := by decide +kernel
theorem dX7_readMark_18 : decode cX7_readMark 18 = .ok (.iconst 2, 1) := by decide +kernel
theorem dX7_readMark_19 : decode cX7_readMark 19 = .ok (.goto 19, 3) := by decide +kernel
theorem dX7_readMark_22 : decode cX7_readMark 22 = .ok (.aload_n 1, 1) := by decide +kernel
theorem dX7_readMark_23 : decode cX7_readMark 23 = .ok (.aload_n 0, 1) := by decide +kernel
theorem dX7_readMark_24 : decode cX7_readMark 24 = .ok (.getfield 20, 3) := by decide +kernel
theorem dX7_readMark_27 : decode cX7_readMark 27 = .ok (.iconst 0, 1) := by decide +kernel
theorem dX7_readMark_28 : decode cX7_readMark 28 = .ok (.aload_n 0, 1) := by decide +kernel
theorem dX7_readMark_29 : decode cX7_readMark 29 = .ok (.getfield 20, 3) := by decide +kernel
theorem dX7_readMark_32 : decode cX7_readMark 32 = .ok (.getfield 97, 3) := by decide +kernel
theorem dX7_readMark_35 : decode cX7_readMark 35 = .ok (.invokevirtual 145, 3) := by decide +kernel
theorem dX7_readMark_38 : decode cX7_readMark 38 = .ok (.istore_n 2, 1) := by decide +kernel
theorem dX7_readMark_39 : decode cX7_readMark 39 = .ok (.iload_n 2, 1) := by decide +kernel
theorem dX7_readMark_40 : decode cX7_readMark 40 = .ok (.iconst 2, 1) := by decide +kernel
theorem dX7_readMark_41 : decode cX7_readMark 41 = .ok (.if_icmp .eq 12, 3) := by decide +kernel
theorem dX7_readMark_44 : decode cX7_readMark 44 = .ok (.iload_n 2, 1) := by decide +kernel
theorem dX7_readMark_45 : decode cX7_readMark 45 = .ok (.iconst 3, 1) := by decide +kernel
theorem dX7_readMark_46 : decode cX7_readMark 46 = .ok (.if_icmp .eq 7, 3) := by decide +kernel
theorem dX7_readMark_49 : decode cX7_readMark 49 = .ok (.iconst 1, 1) := by decide +kernel
theorem dX7_readMark_50 : decode cX7_readMark 50 = .ok (.goto 4, 3) := by decide +kernel
theorem dX7_readMark_53 : decode cX7_readMark 53 = .ok (.iconst 0, 1) := by decide +kernel
theorem dX7_readMark_54 : decode cX7_readMark 54 = .ok (.istore_n 3, 1) := by decide +kernel
theorem dX7_readMark_55 : decode cX7_readMark 55 = .ok (.iload_n 3, 1) := by decide +kernel
theorem dX7_readMark_56 : decode cX7_readMark 56 = .ok (.ifCond .eq 13, 3) := by decide +kernel
theorem dX7_readMark_59 : decode cX7_readMark 59 = .ok (.aload_n 1, 1) := by decide +kernel
theorem dX7_readMark_60 : decode cX7_readMark 60 = .ok (.getfield 149, 3) := by decide +kernel
theorem dX7_readMark_63 : decode cX7_readMark 63 = .ok (.bipush 6, 2) := by decide +kernel
theorem dX7_readMark_65 : decode cX7_readMark 65 = .ok (.ishr, 1) := by decide +kernel
theorem dX7_readMark_66 : decode cX7_readMark 66 = .ok (.goto 4, 3) := by decide +kernel
theorem dX7_readMark_69 : decode cX7_readMark 69 = .ok (.iconst (-1), 1) := by decide +kernel
theorem dX7_readMark_70 : decode cX7_readMark 70 = .ok (.istore 4, 2) := by decide +kernel
theorem dX7_readMark_72 : decode cX7_readMark 72 = .ok (.iload_n 2, 1) := by decide +kernel
theorem dX7_readMark_73 : decode cX7_readMark 73 = .ok (.ifCond .ne 12, 3) := by decide +kernel
theorem dX7_readMark_76 : decode cX7_readMark 76 = .ok (.aload_n 0, 1) := by decide +kernel
theorem dX7_readMark_77 : decode cX7_readMark 77 = .ok (.iload 4, 2) := by decide +kernel
theorem dX7_readMark_79 : decode cX7_readMark 79 = .ok (.invokevirtual 87, 3) := by decide +kernel
theorem dX7_readMark_82 : decode cX7_readMark 82 = .ok (.goto 4, 3) := by decide +kernel
theorem dX7_readMark_85 : decode cX7_readMark 85 = .ok (.aconst_null, 1) := by decide +kernel
theorem dX7_readMark_86 : decode cX7_readMark 86 = .ok (.astore 5, 2) := by decide +kernel
theorem dX7_readMark_88 : decode cX7_readMark 88 = .ok (.aload 5, 2) := by decide +kernel
theorem dX7_readMark_90 : decode cX7_readMark 90 = .ok (.ifnull 17, 3) := by decide +kernel
theorem dX7_readMark_93 : decode cX7_readMark 93 = .ok (.aload 5, 2) := by decide +kernel
theorem dX7_readMark_95 : decode cX7_readMark 95 = .ok (.aload_n 1, 1) := by decide +kernel
theorem dX7_readMark_96 : decode cX7_readMark 96 = .ok (.getfield 152, 3) := by decide +kernel
theorem dX7_readMark_99 : decode cX7_readMark 99 = .ok (.aload_n 1, 1) := by decide +kernel
theorem dX7_readMark_100 : decode cX7_readMark 100 = .ok (.getfield 155, 3) := by decide +kernel
theorem dX7_readMark_103 : decode cX7_readMark 103 = .ok (.invokevirtual 158, 3) := by decide +kernel
theorem dX7_readMark_106 : decode cX7_readMark 106 = .ok (.istore_n 2, 1) := by decide +kernel
theorem dX7_readMark_107 : decode cX7_readMark 107 = .ok (.aload_n 0, 1) := by decide +kernel
theorem dX7_readMark_108 : decode cX7_readMark 108 = .ok (.getfield 23, 3) := by decide +kernel
theorem dX7_readMark_111 : decode cX7_readMark 111 = .ok (.getfield 97, 3) := by decide +kernel
theorem dX7_readMark_114 : decode cX7_readMark 114 = .ok (.sipush 200, 3) := by decide +kernel
theorem dX7_readMark_117 : decode cX7_readMark 117 = .ok (.if_icmp .lt 11, 3) := by decide +kernel
theorem dX7_readMark_120 : decode cX7_readMark 120 = .ok (.aload_n 0, 1) := by decide +kernel
theorem dX7_readMark_121 : decode cX7_readMark 121 = .ok (.getfield 23, 3) := by decide +kernel
theorem dX7_readMark_124 : decode cX7_readMark 124 = .ok (.iconst 5, 1) := by decide +kernel
theorem dX7_readMark_125 : decode cX7_readMark 125 = .ok (.invokevirtual 142, 3) := by decide +kernel
theorem dX7_readMark_128 : decode cX7_readMark 128 = .ok (.aload_n 0, 1) := by decide +kernel
theorem dX7_readMark_129 : decode cX7_readMark 129 = .ok (.getfield 23, 3) := by decide +kernel
theorem dX7_readMark_132 : decode cX7_readMark 132 = .ok (.iload_n 2, 1) := by decide +kernel
theorem dX7_readMark_133 : decode cX7_readMark 133 = .ok (.invokevirtual 107, 3) := by decide +kernel
theorem dX7_readMark_136 : decode cX7_readMark 136 = .ok (.aload_n 0, 1) := by decide +kernel
theorem dX7_readMark_137 : decode cX7_readMark 137 = .ok (.getfield 23, 3) := by decide +kernel
theorem dX7_readMark_140 : decode cX7_readMark 140 = .ok (.iload_n 3, 1) := by decide +kernel
theorem dX7_readMark_141 : decode cX7_readMark 141 = .ok (.ifCond .eq 10, 3) := by decide +kernel
theorem dX7_readMark_144 : decode cX7_readMark 144 = .ok (.aload_n 1, 1) := by decide +kernel
theorem dX7_readMark_145 : decode cX7_readMark 145 = .ok (.getfield 149, 3) := by decide +kernel
theorem dX7_readMark_148 : decode cX7_readMark 148 = .ok (.goto 4, 3) := by decide +kernel
theorem dX7_readMark_151 : decode cX7_readMark 151 = .ok (.iconst (-1), 1) := by decide +kernel
theorem dX7_readMark_152 : decode cX7_readMark 152 = .ok (.invokevirtual 107, 3) := by decide +kernel
theorem dX7_readMark_155 : decode cX7_readMark 155 = .ok (.aload_n 0, 1) := by decide +kernel
theorem dX7_readMark_156 : decode cX7_readMark 156 = .ok (.getfield 23, 3) := by decide +kernel
theorem dX7_readMark_159 : decode cX7_readMark 159 = .ok (.aload_n 0, 1) := by decide +kernel
theorem dX7_readMark_160 : decode cX7_readMark 160 = .ok (.getfield 20, 3) := by decide +kernel
theorem dX7_readMark_163 : decode cX7_readMark 163 = .ok (.getfield 97, 3) := by decide +kernel
theorem dX7_readMark_166 : decode cX7_readMark 166 = .ok (.invokevirtual 107, 3) := by decide +kernel
theorem dX7_readMark_169 : decode cX7_readMark 169 = .ok (.aload_n 0, 1) := by decide +kernel
theorem dX7_readMark_170 : decode cX7_readMark 170 = .ok (.getfield 23, 3) := by decide +kernel
theorem dX7_readMark_173 : decode cX7_readMark 173 = .ok (.iload_n 3, 1) := by decide +kernel
theorem dX7_readMark_174 : decode cX7_readMark 174 = .ok (.ifCond .eq 10, 3) := by decide +kernel
theorem dX7_readMark_177 : decode cX7_readMark 177 = .ok (.aload_n 1, 1) := by decide +kernel
theorem dX7_readMark_178 : decode cX7_readMark 178 = .ok (.getfield 155, 3) := by decide +kernel
theorem dX7_readMark_181 : decode cX7_readMark 181 = .ok (.goto 4, 3) := by decide +kernel
theorem dX7_readMark_184 : decode cX7_readMark 184 = .ok (.iconst (-1), 1) := by decide +kernel
theorem dX7_readMark_185 : decode cX7_readMark 185 = .ok (.invokevirtual 107, 3) := by decide +kernel
theorem dX7_readMark_188 : decode cX7_readMark 188 = .ok (.aload_n 0, 1) := by decide +kernel
theorem dX7_readMark_189 : decode cX7_readMark 189 = .ok (.getfield 23, 3) := by decide +kernel
theorem dX7_readMark_192 : decode cX7_readMark 192 = .ok (.iload 4, 2) := by decide +kernel
theorem dX7_readMark_194 : decode cX7_readMark 194 = .ok (.invokevirtual 107, 3) := by decide +kernel
theorem dX7_readMark_197 : decode cX7_readMark 197 = .ok (.aload_n 0, 1) := by decide +kernel
theorem dX7_readMark_198 : decode cX7_readMark 198 = .ok (.dup, 1) := by decide +kernel
theorem dX7_readMark_199 : decode cX7_readMark 199 = .ok (.getfield 40, 3) := by decide +kernel
theorem dX7_readMark_202 : decode cX7_readMark 202 = .ok (.iconst 1, 1) := by decide +kernel
theorem dX7_readMark_203 : decode cX7_readMark 203 = .ok (.iadd, 1) := by decide +kernel
theorem dX7_readMark_204 : decode cX7_readMark 204 = .ok (.putfield 40, 3) := by decide +kernel
theorem dX7_readMark_207 : decode cX7_readMark 207 = .ok (.aload_n 0, 1) := by decide +kernel
theorem dX7_readMark_208 : decode cX7_readMark 208 = .ok (.getfield 20, 3) := by decide +kernel
theorem dX7_readMark_211 : decode cX7_readMark 211 = .ok (.invokevirtual 37, 3) := by decide +kernel
theorem dX7_readMark_214 : decode cX7_readMark 214 = .ok (.aload_n 0, 1) := by decide +kernel
theorem dX7_readMark_215 : decode cX7_readMark 215 = .ok (.iconst 0, 1) := by decide +kernel
theorem dX7_readMark_216 : decode cX7_readMark 216 = .ok (.putfield 43, 3) := by decide +kernel
theorem dX7_readMark_219 : decode cX7_readMark 219 = .ok (.return_, 1) := by decide +kernel
theorem dX7_messagesThere_0 : decode cX7_messagesThere 0 = .ok (.iconst 0, 1) := by decide +kernel
theorem dX7_messagesThere_1 : decode cX7_messagesThere 1 = .ok (.istore_n 1, 1) := by decide +kernel
theorem dX7_messagesThere_2 : decode cX7_messagesThere 2 = .ok (.iconst 0, 1) := by decide +kernel
theorem dX7_messagesThere_3 : decode cX7_messagesThere 3 = .ok (.istore_n 2, 1) := by decide +kernel
theorem dX7_messagesThere_4 : decode cX7_messagesThere 4 = .ok (.iload_n 2, 1) := by decide +kernel
theorem dX7_messagesThere_5 : decode cX7_messagesThere 5 = .ok (.aload_n 0, 1) := by decide +kernel
theorem dX7_messagesThere_6 : decode cX7_messagesThere 6 = .ok (.getfield 51, 3) := by decide +kernel
theorem dX7_messagesThere_9 : decode cX7_messagesThere 9 = .ok (.if_icmp .ge 24, 3) := by decide +kernel
theorem dX7_messagesThere_12 : decode cX7_messagesThere 12 = .ok (.iload_n 1, 1) := by decide +kernel
theorem dX7_messagesThere_13 : decode cX7_messagesThere 13 = .ok (.aload_n 0, 1) := by decide +kernel
theorem dX7_messagesThere_14 : decode cX7_messagesThere 14 = .ok (.getfield 32, 3) := by decide +kernel
theorem dX7_messagesThere_17 : decode cX7_messagesThere 17 = .ok (.iload_n 2, 1) := by decide +kernel
theorem dX7_messagesThere_18 : decode cX7_messagesThere 18 = .ok (.aaload, 1) := by decide +kernel
theorem dX7_messagesThere_19 : decode cX7_messagesThere 19 = .ok (.getfield 162, 3) := by decide +kernel
theorem dX7_messagesThere_22 : decode cX7_messagesThere 22 = .ok (.invokevirtual 72, 3) := by decide +kernel
theorem dX7_messagesThere_25 : decode cX7_messagesThere 25 = .ok (.iadd, 1) := by decide +kernel
theorem dX7_messagesThere_26 : decode cX7_messagesThere 26 = .ok (.istore_n 1, 1) := by decide +kernel
theorem dX7_messagesThere_27 : decode cX7_messagesThere 27 = .ok (.iinc 2 1, 3) := by decide +kernel
theorem dX7_messagesThere_30 : decode cX7_messagesThere 30 = .ok (.goto (-26), 3) := by decide +kernel
theorem dX7_messagesThere_33 : decode cX7_messagesThere 33 = .ok (.iload_n 1, 1) := by decide +kernel
theorem dX7_messagesThere_34 : decode cX7_messagesThere 34 = .ok (.ireturn, 1) := by decide +kernel
theorem dX7_messagesWaiting_0 : decode cX7_messagesWaiting 0 = .ok (.iconst 0, 1) := by decide +kernel
theorem dX7_messagesWaiting_1 : decode cX7_messagesWaiting 1 = .ok (.istore_n 1, 1) := by decide +kernel
theorem dX7_messagesWaiting_2 : decode cX7_messagesWaiting 2 = .ok (.iconst 0, 1) := by decide +kernel
theorem dX7_messagesWaiting_3 : decode cX7_messagesWaiting 3 = .ok (.istore_n 2, 1) := by decide +kernel
theorem dX7_messagesWaiting_4 : decode cX7_messagesWaiting 4 = .ok (.iload_n 2, 1) := by decide +kernel
theorem dX7_messagesWaiting_5 : decode cX7_messagesWaiting 5 = .ok (.aload_n 0, 1) := by decide +kernel
theorem dX7_messagesWaiting_6 : decode cX7_messagesWaiting 6 = .ok (.getfield 51, 3) := by decide +kernel
theorem dX7_messagesWaiting_9 : decode cX7_messagesWaiting 9 = .ok (.if_icmp .ge 24, 3) := by decide +kernel
theorem dX7_messagesWaiting_12 : decode cX7_messagesWaiting 12 = .ok (.iload_n 1, 1) := by decide +kernel
theorem dX7_messagesWaiting_13 : decode cX7_messagesWaiting 13 = .ok (.aload_n 0, 1) := by decide +kernel
theorem dX7_messagesWaiting_14 : decode cX7_messagesWaiting 14 = .ok (.getfield 32, 3) := by decide +kernel
theorem dX7_messagesWaiting_17 : decode cX7_messagesWaiting 17 = .ok (.iload_n 2, 1) := by decide +kernel
theorem dX7_messagesWaiting_18 : decode cX7_messagesWaiting 18 = .ok (.aaload, 1) := by decide +kernel
theorem dX7_messagesWaiting_19 : decode cX7_messagesWaiting 19 = .ok (.getfield 68, 3) := by decide +kernel
theorem dX7_messagesWaiting_22 : decode cX7_messagesWaiting 22 = .ok (.invokevirtual 72, 3) := by decide +kernel
theorem dX7_messagesWaiting_25 : decode cX7_messagesWaiting 25 = .ok (.iadd, 1) := by decide +kernel
theorem dX7_messagesWaiting_26 : decode cX7_messagesWaiting 26 = .ok (.istore_n 1, 1) := by decide +kernel
theorem dX7_messagesWaiting_27 : decode cX7_messagesWaiting 27 = .ok (.iinc 2 1, 3) := by decide +kernel
theorem dX7_messagesWaiting_30 : decode cX7_messagesWaiting 30 = .ok (.goto (-26), 3) := by decide +kernel
theorem dX7_messagesWaiting_33 : decode cX7_messagesWaiting 33 = .ok (.iload_n 1, 1) := by decide +kernel
theorem dX7_messagesWaiting_34 : decode cX7_messagesWaiting 34 = .ok (.ireturn, 1) := by decide +kernel
theorem dX7_bytesWaiting_0 : decode cX7_bytesWaiting 0 = .ok (.iconst 0, 1) := by decide +kernel
theorem dX7_bytesWaiting_1 : decode cX7_bytesWaiting 1 = .ok (.istore_n 1, 1) := by decide +kernel
theorem dX7_bytesWaiting_2 : decode cX7_bytesWaiting 2 = .ok (.iconst 0, 1) := by decide +kernel
theorem dX7_bytesWaiting_3 : decode cX7_bytesWaiting 3 = .ok (.istore_n 2, 1) := by decide +kernel
theorem dX7_bytesWaiting_4 : decode cX7_bytesWaiting 4 = .ok (.iload_n 2, 1) := by decide +kernel
theorem dX7_bytesWaiting_5 : decode cX7_bytesWaiting 5 = .ok (.aload_n 0, 1) := by decide +kernel
theorem dX7_bytesWaiting_6 : decode cX7_bytesWaiting 6 = .ok (.getfield 51, 3) := by decide +kernel
theorem dX7_bytesWaiting_9 : decode cX7_bytesWaiting 9 = .ok (.if_icmp .ge 37, 3) := by decide +kernel
theorem dX7_bytesWaiting_12 : decode cX7_bytesWaiting 12 = .ok (.iload_n 1, 1) := by decide +kernel
theorem dX7_bytesWaiting_13 : decode cX7_bytesWaiting 13 = .ok (.aload_n 0, 1) := by decide +kernel
theorem dX7_bytesWaiting_14 : decode cX7_bytesWaiting 14 = .ok (.getfield 32, 3) := by decide +kernel
theorem dX7_bytesWaiting_17 : decode cX7_bytesWaiting 17 = .ok (.iload_n 2, 1) := by decide +kernel
theorem dX7_bytesWaiting_18 : decode cX7_bytesWaiting 18 = .ok (.aaload, 1) := by decide +kernel
theorem dX7_bytesWaiting_19 : decode cX7_bytesWaiting 19 = .ok (.getfield 68, 3) := by decide +kernel
theorem dX7_bytesWaiting_22 : decode cX7_bytesWaiting 22 = .ok (.getfield 165, 3) := by decide +kernel
theorem dX7_bytesWaiting_25 : decode cX7_bytesWaiting 25 = .ok (.getfield 97, 3) := by decide +kernel
theorem dX7_bytesWaiting_28 : decode cX7_bytesWaiting 28 = .ok (.aload_n 0, 1) := by decide +kernel
theorem dX7_bytesWaiting_29 : decode cX7_bytesWaiting 29 = .ok (.getfield 32, 3) := by decide +kernel
theorem dX7_bytesWaiting_32 : decode cX7_bytesWaiting 32 = .ok (.iload_n 2, 1) := by decide +kernel
theorem dX7_bytesWaiting_33 : decode cX7_bytesWaiting 33 = .ok (.aaload, 1) := by decide +kernel
theorem dX7_bytesWaiting_34 : decode cX7_bytesWaiting 34 = .ok (.getfield 168, 3) := by decide +kernel
theorem dX7_bytesWaiting_37 : decode cX7_bytesWaiting 37 = .ok (.isub, 1) := by decide +kernel
theorem dX7_bytesWaiting_38 : decode cX7_bytesWaiting 38 = .ok (.iadd, 1) := by decide +kernel
theorem dX7_bytesWaiting_39 : decode cX7_bytesWaiting 39 = .ok (.istore_n 1, 1) := by decide +kernel
theorem dX7_bytesWaiting_40 : decode cX7_bytesWaiting 40 = .ok (.iinc 2 1, 3) := by decide +kernel
theorem dX7_bytesWaiting_43 : decode cX7_bytesWaiting 43 = .ok (.goto (-39), 3) := by decide +kernel
theorem dX7_bytesWaiting_46 : decode cX7_bytesWaiting 46 = .ok (.iload_n 1, 1) := by decide +kernel
theorem dX7_bytesWaiting_47 : decode cX7_bytesWaiting 47 = .ok (.ireturn, 1) := by decide +kernel
theorem dX7_lostInAll_0 : decode cX7_lostInAll 0 = .ok (.iconst 0, 1) := by decide +kernel
theorem dX7_lostInAll_1 : decode cX7_lostInAll 1 = .ok (.istore_n 1, 1) := by decide +kernel
theorem dX7_lostInAll_2 : decode cX7_lostInAll 2 = .ok (.iconst 0, 1) := by decide +kernel
theorem dX7_lostInAll_3 : decode cX7_lostInAll 3 = .ok (.istore_n 2, 1) := by decide +kernel
theorem dX7_lostInAll_4 : decode cX7_lostInAll 4 = .ok (.iload_n 2, 1) := by decide +kernel
theorem dX7_lostInAll_5 : decode cX7_lostInAll 5 = .ok (.aload_n 0, 1) := by decide +kernel
theorem dX7_lostInAll_6 : decode cX7_lostInAll 6 = .ok (.getfield 51, 3) := by decide +kernel
theorem dX7_lostInAll_9 : decode cX7_lostInAll 9 = .ok (.if_icmp .ge 21, 3) := by decide +kernel
theorem dX7_lostInAll_12 : decode cX7_lostInAll 12 = .ok (.iload_n 1, 1) := by decide +kernel
theorem dX7_lostInAll_13 : decode cX7_lostInAll 13 = .ok (.aload_n 0, 1) := by decide +kernel
theorem dX7_lostInAll_14 : decode cX7_lostInAll 14 = .ok (.getfield 32, 3) := by decide +kernel
theorem dX7_lostInAll_17 : decode cX7_lostInAll 17 = .ok (.iload_n 2, 1) := by decide +kernel
theorem dX7_lostInAll_18 : decode cX7_lostInAll 18 = .ok (.aaload, 1) := by decide +kernel
theorem dX7_lostInAll_19 : decode cX7_lostInAll 19 = .ok (.getfield 171, 3) := by decide +kernel
theorem dX7_lostInAll_22 : decode cX7_lostInAll 22 = .ok (.iadd, 1) := by decide +kernel
theorem dX7_lostInAll_23 : decode cX7_lostInAll 23 = .ok (.istore_n 1, 1) := by decide +kernel
theorem dX7_lostInAll_24 : decode cX7_lostInAll 24 = .ok (.iinc 2 1, 3) := by decide +kernel
theorem dX7_lostInAll_27 : decode cX7_lostInAll 27 = .ok (.goto (-23), 3) := by decide +kernel
theorem dX7_lostInAll_30 : decode cX7_lostInAll 30 = .ok (.iload_n 1, 1) := by decide +kernel
theorem dX7_lostInAll_31 : decode cX7_lostInAll 31 = .ok (.ireturn, 1) := by decide +kernel
theorem dX7_tornInAll_0 : decode cX7_tornInAll 0 = .ok (.iconst 0, 1) := by decide +kernel
theorem dX7_tornInAll_1 : decode cX7_tornInAll 1 = .ok (.istore_n 1, 1) := by decide +kernel
theorem dX7_tornInAll_2 : decode cX7_tornInAll 2 = .ok (.iconst 0, 1) := by decide +kernel
theorem dX7_tornInAll_3 : decode cX7_tornInAll 3 = .ok (.istore_n 2, 1) := by decide +kernel
theorem dX7_tornInAll_4 : decode cX7_tornInAll 4 = .ok (.iload_n 2, 1) := by decide +kernel
theorem dX7_tornInAll_5 : decode cX7_tornInAll 5 = .ok (.aload_n 0, 1) := by decide +kernel
theorem dX7_tornInAll_6 : decode cX7_tornInAll 6 = .ok (.getfield 51, 3) := by decide +kernel
theorem dX7_tornInAll_9 : decode cX7_tornInAll 9 = .ok (.if_icmp .ge 21, 3) := by decide +kernel
theorem dX7_tornInAll_12 : decode cX7_tornInAll 12 = .ok (.iload_n 1, 1) := by decide +kernel
theorem dX7_tornInAll_13 : decode cX7_tornInAll 13 = .ok (.aload_n 0, 1) := by decide +kernel
theorem dX7_tornInAll_14 : decode cX7_tornInAll 14 = .ok (.getfield 32, 3) := by decide +kernel
theorem dX7_tornInAll_17 : decode cX7_tornInAll 17 = .ok (.iload_n 2, 1) := by decide +kernel
theorem dX7_tornInAll_18 : decode cX7_tornInAll 18 = .ok (.aaload, 1) := by decide +kernel
theorem dX7_tornInAll_19 : decode cX7_tornInAll 19 = .ok (.getfield 174, 3) := by decide +kernel
theorem dX7_tornInAll_22 : decode cX7_tornInAll 22 = .ok (.iadd, 1) := by decide +kernel
theorem dX7_tornInAll_23 : decode cX7_tornInAll 23 = .ok (.istore_n 1, 1) := by decide +kernel
theorem dX7_tornInAll_24 : decode cX7_tornInAll 24 = .ok (.iinc 2 1, 3) := by decide +kernel
theorem dX7_tornInAll_27 : decode cX7_tornInAll 27 = .ok (.goto (-23), 3) := by decide +kernel
theorem dX7_tornInAll_30 : decode cX7_tornInAll 30 = .ok (.iload_n 1, 1) := by decide +kernel
theorem dX7_tornInAll_31 : decode cX7_tornInAll 31 = .ok (.ireturn, 1) := by decide +kernel
theorem dX7_portWithMostLost_0 : decode cX7_portWithMostLost 0 = .ok (.iconst 0, 1) := by decide +kernel
theorem dX7_portWithMostLost_1 : decode cX7_portWithMostLost 1 = .ok (.istore_n 1, 1) := by decide +kernel
theorem dX7_portWithMostLost_2 : decode cX7_portWithMostLost 2 = .ok (.iconst 1, 1) := by decide +kernel
theorem dX7_portWithMostLost_3 : decode cX7_portWithMostLost 3 = .ok (.istore_n 2, 1) := by decide +kernel
theorem dX7_portWithMostLost_4 : decode cX7_portWithMostLost 4 = .ok (.iload_n 2, 1) := by decide +kernel
theorem dX7_portWithMostLost_5 : decode cX7_portWithMostLost 5 = .ok (.aload_n 0, 1) := by decide +kernel
theorem dX7_portWithMostLost_6 : decode cX7_portWithMostLost 6 = .ok (.getfield 51, 3) := by decide +kernel
theorem dX7_portWithMostLost_9 : decode cX7_portWithMostLost 9 = .ok (.if_icmp .ge 32, 3) := by decide +kernel
theorem dX7_portWithMostLost_12 : decode cX7_portWithMostLost 12 = .ok (.aload_n 0, 1) := by decide +kernel
theorem dX7_portWithMostLost_13 : decode cX7_portWithMostLost 13 = .ok (.getfield 32, 3) := by decide +kernel
theorem dX7_portWithMostLost_16 : decode cX7_portWithMostLost 16 = .ok (.iload_n 2, 1) := by decide +kernel
theorem dX7_portWithMostLost_17 : decode cX7_portWithMostLost 17 = .ok (.aaload, 1) := by decide +kernel
theorem dX7_portWithMostLost_18 : decode cX7_portWithMostLost 18 = .ok (.getfield 171, 3) := by decide +kernel
theorem dX7_portWithMostLost_21 : decode cX7_portWithMostLost 21 = .ok (.aload_n 0, 1) := by decide +kernel
theorem dX7_portWithMostLost_22 : decode cX7_portWithMostLost 22 = .ok (.getfield 32, 3) := by decide +kernel
theorem dX7_portWithMostLost_25 : decode cX7_portWithMostLost 25 = .ok (.iload_n 1, 1) := by decide +kernel
theorem dX7_portWithMostLost_26 : decode cX7_portWithMostLost 26 = .ok (.aaload, 1) := by decide +kernel
theorem dX7_portWithMostLost_27 : decode cX7_portWithMostLost 27 = .ok (.getfield 171, 3) := by decide +kernel
theorem dX7_portWithMostLost_30 : decode cX7_portWithMostLost 30 = .ok (.if_icmp .le 5, 3) := by decide +kernel
theorem dX7_portWithMostLost_33 : decode cX7_portWithMostLost 33 = .ok (.iload_n 2, 1) := by decide +kernel
theorem dX7_portWithMostLost_34 : decode cX7_portWithMostLost 34 = .ok (.istore_n 1, 1) := by decide +kernel
theorem dX7_portWithMostLost_35 : decode cX7_portWithMostLost 35 = .ok (.iinc 2 1, 3) := by decide +kernel
theorem dX7_portWithMostLost_38 : decode cX7_portWithMostLost 38 = .ok (.goto (-34), 3) := by decide +kernel
theorem dX7_portWithMostLost_41 : decode cX7_portWithMostLost 41 = .ok (.iload_n 1, 1) := by decide +kernel
theorem dX7_portWithMostLost_42 : decode cX7_portWithMostLost 42 = .ok (.ireturn, 1) := by decide +kernel
theorem dX7_eventsUnreadable_0 : decode cX7_eventsUnreadable 0 = .ok (.iconst 0, 1) := by decide +kernel
theorem dX7_eventsUnreadable_1 : decode cX7_eventsUnreadable 1 = .ok (.istore_n 1, 1) := by decide +kernel
theorem dX7_eventsUnreadable_2 : decode cX7_eventsUnreadable 2 = .ok (.iconst 0, 1) := by decide +kernel
theorem dX7_eventsUnreadable_3 : decode cX7_eventsUnreadable 3 = .ok (.istore_n 2, 1) := by decide +kernel
theorem dX7_eventsUnreadable_4 : decode cX7_eventsUnreadable 4 = .ok (.iload_n 2, 1) := by decide +kernel
theorem dX7_eventsUnreadable_5 : decode cX7_eventsUnreadable 5 = .ok (.aload_n 0, 1) := by decide +kernel
theorem dX7_eventsUnreadable_6 : decode cX7_eventsUnreadable 6 = .ok (.getfield 23, 3) := by decide +kernel
theorem dX7_eventsUnreadable_9 : decode cX7_eventsUnreadable 9 = .ok (.getfield 97, 3) := by decide +kernel
theorem dX7_eventsUnreadable_12 : decode cX7_eventsUnreadable 12 = .ok (.if_icmp .ge 36, 3) := by decide +kernel
theorem dX7_eventsUnreadable_15 : decode cX7_eventsUnreadable 15 = .ok (.aload_n 0, 1) := by decide +kernel
theorem dX7_eventsUnreadable_16 : decode cX7_eventsUnreadable 16 = .ok (.getfield 23, 3) := by decide +kernel
theorem dX7_eventsUnreadable_19 : decode cX7_eventsUnreadable 19 = .ok (.iload_n 2, 1) := by decide +kernel
theorem dX7_eventsUnreadable_20 : decode cX7_eventsUnreadable 20 = .ok (.invokevirtual 123, 3) := by decide +kernel
theorem dX7_eventsUnreadable_23 : decode cX7_eventsUnreadable 23 = .ok (.istore_n 3, 1) := by decide +kernel
theorem dX7_eventsUnreadable_24 : decode cX7_eventsUnreadable 24 = .ok (.iload_n 1, 1) := by decide +kernel
theorem dX7_eventsUnreadable_25 : decode cX7_eventsUnreadable 25 = .ok (.iload_n 3, 1) := by decide +kernel
theorem dX7_eventsUnreadable_26 : decode cX7_eventsUnreadable 26 = .ok (.iconst 2, 1) := by decide +kernel
theorem dX7_eventsUnreadable_27 : decode cX7_eventsUnreadable 27 = .ok (.if_icmp .eq 8, 3) := by decide +kernel
theorem dX7_eventsUnreadable_30 : decode cX7_eventsUnreadable 30 = .ok (.iload_n 3, 1) := by decide +kernel
theorem dX7_eventsUnreadable_31 : decode cX7_eventsUnreadable 31 = .ok (.iconst 3, 1) := by decide +kernel
theorem dX7_eventsUnreadable_32 : decode cX7_eventsUnreadable 32 = .ok (.if_icmp .ne 7, 3) := by decide +kernel
theorem dX7_eventsUnreadable_35 : decode cX7_eventsUnreadable 35 = .ok (.iconst 1, 1) := by decide +kernel
theorem dX7_eventsUnreadable_36 : decode cX7_eventsUnreadable 36 = .ok (.goto 4, 3) := by decide +kernel
theorem dX7_eventsUnreadable_39 : decode cX7_eventsUnreadable 39 = .ok (.iconst 0, 1) := by decide +kernel
theorem dX7_eventsUnreadable_40 : decode cX7_eventsUnreadable 40 = .ok (.iadd, 1) := by decide +kernel
theorem dX7_eventsUnreadable_41 : decode cX7_eventsUnreadable 41 = .ok (.istore_n 1, 1) := by decide +kernel
theorem dX7_eventsUnreadable_42 : decode cX7_eventsUnreadable 42 = .ok (.iinc 2 5, 3) := by decide +kernel
theorem dX7_eventsUnreadable_45 : decode cX7_eventsUnreadable 45 = .ok (.goto (-41), 3) := by decide +kernel
theorem dX7_eventsUnreadable_48 : decode cX7_eventsUnreadable 48 = .ok (.iload_n 1, 1) := by decide +kernel
theorem dX7_eventsUnreadable_49 : decode cX7_eventsUnreadable 49 = .ok (.ireturn, 1) := by decide +kernel
theorem dX8_init_0 : decode cX8_init 0 = .ok (.aload_n 0, 1) := by decide +kernel
theorem dX8_init_1 : decode cX8_init 1 = .ok (.invokespecial 3, 3) := by decide +kernel
theorem dX8_init_4 : decode cX8_init 4 = .ok (.aload_n 0, 1) := by decide +kernel
theorem dX8_init_5 : decode cX8_init 5 = .ok (.bipush 20, 2) := by decide +kernel
theorem dX8_init_7 : decode cX8_init 7 = .ok (.putfield 9, 3) := by decide +kernel
theorem dX8_init_10 : decode cX8_init 10 = .ok (.aload_n 0, 1) := by decide +kernel
theorem dX8_init_11 : decode cX8_init 11 = .ok (.bipush 10, 2) := by decide +kernel
theorem dX8_init_13 : decode cX8_init 13 = .ok (.putfield 15, 3) := by decide +kernel
theorem dX8_init_16 : decode cX8_init 16 = .ok (.return_, 1) := by decide +kernel
theorem dX8_widest_0 : decode cX8_widest 0 = .ok (.iload_n 1, 1) := by decide +kernel
theorem dX8_widest_1 : decode cX8_widest 1 = .ok (.iconst 1, 1) := by decide +kernel
theorem dX8_widest_2 : decode cX8_widest 2 = .ok (.aload_n 0, 1) := by decide +kernel
theorem dX8_widest_3 : decode cX8_widest 3 = .ok (.getfield 9, 3) := by decide +kernel
theorem dX8_widest_6 : decode cX8_widest 6 = .ok (.iconst 1, 1) := by decide +kernel
theorem dX8_widest_7 : decode cX8_widest 7 = .ok (.if_icmp .ge 7, 3) := by decide +kernel
theorem dX8_widest_10 : decode cX8_widest 10 = .ok (.iload_n 1, 1) := by decide +kernel
theorem dX8_widest_11 : decode cX8_widest 11 = .ok (.goto 16, 3) := by decide +kernel
theorem dX8_widest_14 : decode cX8_widest 14 = .ok (.iload_n 1, 1) := by decide +kernel
theorem dX8_widest_15 : decode cX8_widest 15 = .ok (.aload_n 0, 1) := by decide +kernel
theorem dX8_widest_16 : decode cX8_widest 16 = .ok (.getfield 9, 3) := by decide +kernel
theorem dX8_widest_19 : decode cX8_widest 19 = .ok (.iadd, 1) := by decide +kernel
theorem dX8_widest_20 : decode cX8_widest 20 = .ok (.iconst 1, 1) := by decide +kernel
theorem dX8_widest_21 : decode cX8_widest 21 = .ok (.isub, 1) := by decide +kernel
theorem dX8_widest_22 : decode cX8_widest 22 = .ok (.aload_n 0, 1) := by decide +kernel
theorem dX8_widest_23 : decode cX8_widest 23 = .ok (.getfield 9, 3) := by decide +kernel
theorem dX8_widest_26 : decode cX8_widest 26 = .ok (.idiv, 1) := by decide +kernel
theorem dX8_widest_27 : decode cX8_widest 27 = .ok (.invokestatic 18, 3) := by decide +kernel
theorem dX8_widest_30 : decode cX8_widest 30 = .ok (.iadd, 1) := by decide +kernel
theorem dX8_widest_31 : decode cX8_widest 31 = .ok (.ireturn, 1) := by decide +kernel
theorem dX8_pack_0 : decode cX8_pack 0 = .ok (.aload_n 3, 1) := by decide +kernel
theorem dX8_pack_1 : decode cX8_pack 1 = .ok (.invokevirtual 24, 3) := by decide +kernel
theorem dX8_pack_4 : decode cX8_pack 4 = .ok (.iconst 0, 1) := by decide +kernel
theorem dX8_pack_5 : decode cX8_pack 5 = .ok (.istore 4, 2) := by decide +kernel
theorem dX8_pack_7 : decode cX8_pack 7 = .ok (.iconst 1, 1) := by decide +kernel
theorem dX8_pack_8 : decode cX8_pack 8 = .ok (.istore 5, 2) := by decide +kernel
theorem dX8_pack_10 : decode cX8_pack 10 = .ok (.iconst 0, 1) := by decide +kernel
theorem dX8_pack_11 : decode cX8_pack 11 = .ok (.istore 6, 2) := by decide +kernel
theorem dX8_pack_13 : decode cX8_pack 13 = .ok (.iload 5, 2) := by decide +kernel
theorem dX8_pack_15 : decode cX8_pack 15 = .ok (.ifCond .eq 159, 3) := by decide +kernel
theorem dX8_pack_18 : decode cX8_pack 18 = .ok (.iload 6, 2) := by decide +kernel
theorem dX8_pack_20 : decode cX8_pack 20 = .ok (.aload_n 1, 1) := by decide +kernel
theorem dX8_pack_21 : decode cX8_pack 21 = .ok (.getfield 29, 3) := by decide +kernel
theorem dX8_pack_24 : decode cX8_pack 24 = .ok (.if_icmp .gt 150, 3) := by decide +kernel
theorem dX8_pack_27 : decode cX8_pack 27 = .ok (.aload_n 0, 1) := by decide +kernel
theorem dX8_pack_28 : decode cX8_pack 28 = .ok (.aload_n 1, 1) := by decide +kernel
theorem dX8_pack_29 : decode cX8_pack 29 = .ok (.iload 4, 2) := by decide +kernel
theorem dX8_pack_31 : decode cX8_pack 31 = .ok (.invokevirtual 32, 3) := by decide +kernel
theorem dX8_pack_34 : decode cX8_pack 34 = .ok (.istore 7, 2) := by decide +kernel
theorem dX8_pack_36 : decode cX8_pack 36 = .ok (.iload 4, 2) := by decide +kernel
theorem dX8_pack_38 : decode cX8_pack 38 = .ok (.iload 7, 2) := by decide +kernel
theorem dX8_pack_40 : decode cX8_pack 40 = .ok (.iadd, 1) := by decide +kernel
theorem dX8_pack_41 : decode cX8_pack 41 = .ok (.istore 8, 2) := by decide +kernel
theorem dX8_pack_43 : decode cX8_pack 43 = .ok (.aload_n 0, 1) := by decide +kernel
theorem dX8_pack_44 : decode cX8_pack 44 = .ok (.aload_n 1, 1) := by decide +kernel
theorem dX8_pack_45 : decode cX8_pack 45 = .ok (.iload 8, 2) := by decide +kernel
theorem dX8_pack_47 : decode cX8_pack 47 = .ok (.iload 7, 2) := by decide +kernel
theorem dX8_pack_49 : decode cX8_pack 49 = .ok (.iload_n 2, 1) := by decide +kernel
theorem dX8_pack_50 : decode cX8_pack 50 = .ok (.invokevirtual 36, 3) := by decide +kernel
theorem dX8_pack_53 : decode cX8_pack 53 = .ok (.istore 9, 2) := by decide +kernel
theorem dX8_pack_55 : decode cX8_pack 55 = .ok (.aload_n 3, 1) := by decide +kernel
theorem dX8_pack_56 : decode cX8_pack 56 = .ok (.getfield 29, 3) := by decide +kernel
theorem dX8_pack_59 : decode cX8_pack 59 = .ok (.istore 10, 2) := by decide +kernel
theorem dX8_pack_61 : decode cX8_pack 61 = .ok (.aload_n 3, 1) := by decide +kernel
theorem dX8_pack_62 : decode cX8_pack 62 = .ok (.iload 9, 2) := by decide +kernel
theorem dX8_pack_64 : decode cX8_pack 64 = .ok (.invokevirtual 40, 3) := by decide +kernel
theorem dX8_pack_67 : decode cX8_pack 67 = .ok (.aload_n 3, 1) := by decide +kernel
theorem dX8_pack_68 : decode cX8_pack 68 = .ok (.aload_n 1, 1) := by decide +kernel
theorem dX8_pack_69 : decode cX8_pack 69 = .ok (.iload 4, 2) := by decide +kernel
theorem dX8_pack_71 : decode cX8_pack 71 = .ok (.iload 7, 2) := by decide +kernel
theorem dX8_pack_73 : decode cX8_pack 73 = .ok (.invokevirtual 44, 3) := by decide +kernel
theorem dX8_pack_76 : decode cX8_pack 76 = .ok (.iload 9, 2) := by decide +kernel
theorem dX8_pack_78 : decode cX8_pack 78 = .ok (.aload_n 0, 1) := by decide +kernel
theorem dX8_pack_79 : decode cX8_pack 79 = .ok (.getfield 9, 3) := by decide +kernel
theorem dX8_pack_82 : decode cX8_pack 82 = .ok (.if_icmp .gt 16, 3) := by decide +kernel
theorem dX8_pack_85 : decode cX8_pack 85 = .ok (.iload 8, 2) := by decide +kernel
theorem dX8_pack_87 : decode cX8_pack 87 = .ok (.aload_n 1, 1) := by decide +kernel
theorem dX8_pack_88 : decode cX8_pack 88 = .ok (.getfield 29, 3) := by decide +kernel
theorem dX8_pack_91 : decode cX8_pack 91 = .ok (.if_icmp .ge 7, 3) := by decide +kernel
theorem dX8_pack_94 : decode cX8_pack 94 = .ok (.iconst 1, 1) := by decide +kernel
theorem dX8_pack_95 : decode cX8_pack 95 = .ok (.goto 4, 3) := by decide +kernel
theorem dX8_pack_98 : decode cX8_pack 98 = .ok (.iconst 0, 1) := by decide +kernel
theorem dX8_pack_99 : decode cX8_pack 99 = .ok (.istore 11, 2) := by decide +kernel
theorem dX8_pack_101 : decode cX8_pack 101 = .ok (.iload 8, 2) := by decide +kernel
theorem dX8_pack_103 : decode cX8_pack 103 = .ok (.iload 11, 2) := by decide +kernel
theorem dX8_pack_105 : decode cX8_pack 105 = .ok (.ifCond .eq 7, 3) := by decide +kernel
theorem dX8_pack_108 : decode cX8_pack 108 = .ok (.iconst 1, 1) := by decide +kernel
theorem dX8_pack_109 : decode cX8_pack 109 = .ok (.goto 19, 3) := by decide +kernel
theorem dX8_pack_112 : decode cX8_pack 112 = .ok (.iload 9, 2) := by decide +kernel
theorem dX8_pack_114 : decode cX8_pack 114 = .ok (.aload_n 0, 1) := by decide +kernel
theorem dX8_pack_115 : decode cX8_pack 115 = .ok (.getfield 9, 3) := by decide +kernel
theorem dX8_pack_118 : decode cX8_pack 118 = .ok (.iconst 1, 1) := by decide +kernel
theorem dX8_pack_119 : decode cX8_pack 119 = .ok (.iadd, 1) := by decide +kernel
theorem dX8_pack_120 : decode cX8_pack 120 = .ok (.if_icmp .le 7, 3) := by decide +kernel
theorem dX8_pack_123 : decode cX8_pack 123 = .ok (.iconst 2, 1) := by decide +kernel
theorem dX8_pack_124 : decode cX8_pack 124 = .ok (.goto 4, 3) := by decide +kernel
theorem dX8_pack_127 : decode cX8_pack 127 = .ok (.iconst 0, 1) := by decide +kernel
theorem dX8_pack_128 : decode cX8_pack 128 = .ok (.iadd, 1) := by decide +kernel
theorem dX8_pack_129 : decode cX8_pack 129 = .ok (.istore 4, 2) := by decide +kernel
theorem dX8_pack_131 : decode cX8_pack 131 = .ok (.iload 11, 2) := by decide +kernel
theorem dX8_pack_133 : decode cX8_pack 133 = .ok (.ifCond .ne 12, 3) := by decide +kernel
theorem dX8_pack_136 : decode cX8_pack 136 = .ok (.iload 4, 2) := by decide +kernel
theorem dX8_pack_138 : decode cX8_pack 138 = .ok (.aload_n 1, 1) := by decide +kernel
theorem dX8_pack_139 : decode cX8_pack 139 = .ok (.getfield 29, 3) := by decide +kernel
theorem dX8_pack_142 : decode cX8_pack 142 = .ok (.if_icmp .ge 7, 3) := by decide +kernel
theorem dX8_pack_145 : decode cX8_pack 145 = .ok (.iconst 1, 1) := by decide +kernel
theorem dX8_pack_146 : decode cX8_pack 146 = .ok (.goto 4, 3) := by decide +kernel
theorem dX8_pack_149 : decode cX8_pack 149 = .ok (.iconst 0, 1) := by decide +kernel
theorem dX8_pack_150 : decode cX8_pack 150 = .ok (.istore 5, 2) := by decide +kernel
theorem dX8_pack_152 : decode cX8_pack 152 = .ok (.iload 5, 2) := by decide +kernel
theorem dX8_pack_154 : decode cX8_pack 154 = .ok (.ifCond .ne 14, 3) := by decide +kernel
theorem dX8_pack_157 : decode cX8_pack 157 = .ok (.iload_n 2, 1) := by decide +kernel
theorem dX8_pack_158 : decode cX8_pack 158 = .ok (.iconst 2, 1) := by decide +kernel
theorem dX8_pack_159 : decode cX8_pack 159 = .ok (.if_icmp .ne 9, 3) := by decide +kernel
theorem dX8_pack_162 : decode cX8_pack 162 = .ok (.aload_n 3, 1) := by decide +kernel
theorem dX8_pack_163 : decode cX8_pack 163 = .ok (.iload 10, 2) := by decide +kernel
theorem dX8_pack_165 : decode cX8_pack 165 = .ok (.invokestatic 48, 3) := by decide +kernel
theorem dX8_pack_168 : decode cX8_pack 168 = .ok (.iinc 6 1, 3) := by decide +kernel
theorem dX8_pack_171 : decode cX8_pack 171 = .ok (.goto (-158), 3) := by decide +kernel
theorem dX8_pack_174 : decode cX8_pack 174 = .ok (.return_, 1) := by decide +kernel
theorem dX8_runFrom_0 : decode cX8_runFrom 0 = .ok (.iconst 0, 1) := by decide +kernel
theorem dX8_runFrom_1 : decode cX8_runFrom 1 = .ok (.istore_n 3, 1) := by decide +kernel
theorem dX8_runFrom_2 : decode cX8_runFrom 2 = .ok (.iload_n 3, 1) := by decide +kernel
theorem dX8_runFrom_3 : decode cX8_runFrom 3 = .ok (.aload_n 0, 1) := by decide +kernel
theorem dX8_runFrom_4 : decode cX8_runFrom 4 = .ok (.getfield 9, 3) := by decide +kernel
theorem dX8_runFrom_7 : decode cX8_runFrom 7 = .ok (.if_icmp .ge 19, 3) := by decide +kernel
theorem dX8_runFrom_10 : decode cX8_runFrom 10 = .ok (.aload_n 1, 1) := by decide +kernel
theorem dX8_runFrom_11 : decode cX8_runFrom 11 = .ok (.iload_n 2, 1) := by decide +kernel
theorem dX8_runFrom_12 : decode cX8_runFrom 12 = .ok (.iload_n 3, 1) := by decide +kernel
theorem dX8_runFrom_13 : decode cX8_runFrom 13 = .ok (.iadd, 1) := by decide +kernel
theorem dX8_runFrom_14 : decode cX8_runFrom 14 = .ok (.invokevirtual 52, 3) := by decide +kernel
theorem dX8_runFrom_17 : decode cX8_runFrom 17 = .ok (.ifCond .le 9, 3) := by decide +kernel
theorem dX8_runFrom_20 : decode cX8_runFrom 20 = .ok (.iinc 3 1, 3) := by decide +kernel
theorem dX8_runFrom_23 : decode cX8_runFrom 23 = .ok (.goto (-21), 3) := by decide +kernel
theorem dX8_runFrom_26 : decode cX8_runFrom 26 = .ok (.iload_n 3, 1) := by decide +kernel
theorem dX8_runFrom_27 : decode cX8_runFrom 27 = .ok (.ireturn, 1) := by decide +kernel
theorem dX8_codeOf_0 : decode cX8_codeOf 0 = .ok (.iload_n 3, 1) := by decide +kernel
theorem dX8_codeOf_1 : decode cX8_codeOf 1 = .ok (.aload_n 0, 1) := by decide +kernel
theorem dX8_codeOf_2 : decode cX8_codeOf 2 = .ok (.getfield 9, 3) := by decide +kernel
theorem dX8_codeOf_5 : decode cX8_codeOf 5 = .ok (.if_icmp .ge 15, 3) := by decide +kernel
theorem dX8_codeOf_8 : decode cX8_codeOf 8 = .ok (.iload_n 3, 1) := by decide +kernel
theorem dX8_codeOf_9 : decode cX8_codeOf 9 = .ok (.aload_n 0, 1) := by decide +kernel
theorem dX8_codeOf_10 : decode cX8_codeOf 10 = .ok (.getfield 15, 3) := by decide +kernel
theorem dX8_codeOf_13 : decode cX8_codeOf 13 = .ok (.if_icmp .ge 7, 3) := by decide +kernel
theorem dX8_codeOf_16 : decode cX8_codeOf 16 = .ok (.iconst 1, 1) := by decide +kernel
theorem dX8_codeOf_17 : decode cX8_codeOf 17 = .ok (.goto 4, 3) := by decide +kernel
theorem dX8_codeOf_20 : decode cX8_codeOf 20 = .ok (.iconst 0, 1) := by decide +kernel
theorem dX8_codeOf_21 : decode cX8_codeOf 21 = .ok (.istore 5, 2) := by decide +kernel
theorem dX8_codeOf_23 : decode cX8_codeOf 23 = .ok (.aload_n 1, 1) := by decide +kernel
theorem dX8_codeOf_24 : decode cX8_codeOf 24 = .ok (.iload_n 2, 1) := by decide +kernel
theorem dX8_codeOf_25 : decode cX8_codeOf 25 = .ok (.invokevirtual 52, 3) := by decide +kernel
theorem dX8_codeOf_28 : decode cX8_codeOf 28 = .ok (.ifCond .ne 17, 3) := by decide +kernel
theorem dX8_codeOf_31 : decode cX8_codeOf 31 = .ok (.aload_n 1, 1) := by decide +kernel
theorem dX8_codeOf_32 : decode cX8_codeOf 32 = .ok (.iload_n 2, 1) := by decide +kernel
theorem dX8_codeOf_33 : decode cX8_codeOf 33 = .ok (.iconst 1, 1) := by decide +kernel
theorem dX8_codeOf_34 : decode cX8_codeOf 34 = .ok (.iadd, 1) := by decide +kernel
theorem dX8_codeOf_35 : decode cX8_codeOf 35 = .ok (.invokevirtual 52, 3) := by decide +kernel
theorem dX8_codeOf_38 : decode cX8_codeOf 38 = .ok (.ifCond .ne 7, 3) := by decide +kernel
theorem dX8_codeOf_41 : decode cX8_codeOf 41 = .ok (.iconst 1, 1) := by decide +kernel
theorem dX8_codeOf_42 : decode cX8_codeOf 42 = .ok (.goto 4, 3) := by decide +kernel
theorem dX8_codeOf_45 : decode cX8_codeOf 45 = .ok (.iconst 0, 1) := by decide +kernel
theorem dX8_codeOf_46 : decode cX8_codeOf 46 = .ok (.istore 6, 2) := by decide +kernel
theorem dX8_codeOf_48 : decode cX8_codeOf 48 = .ok (.iload 4, 2) := by decide +kernel
theorem dX8_codeOf_50 : decode cX8_codeOf 50 = .ok (.iconst 1, 1) := by decide +kernel
theorem dX8_codeOf_51 : decode cX8_codeOf 51 = .ok (.if_icmp .ne 24, 3) := by decide +kernel
theorem dX8_codeOf_54 : decode cX8_codeOf 54 = .ok (.iload 5, 2) := by decide +kernel
theorem dX8_codeOf_56 : decode cX8_codeOf 56 = .ok (.ifCond .eq 19, 3) := by decide +kernel
theorem dX8_codeOf_59 : decode cX8_codeOf 59 = .ok (.iload 6, 2) := by decide +kernel
theorem dX8_codeOf_61 : decode cX8_codeOf 61 = .ok (.ifCond .eq 14, 3) := by decide +kernel
theorem dX8_codeOf_64 : decode cX8_codeOf 64 = .ok (.aload_n 0, 1) := by decide +kernel
theorem dX8_codeOf_65 : decode cX8_codeOf 65 = .ok (.getfield 9, 3) := by decide +kernel
theorem dX8_codeOf_68 : decode cX8_codeOf 68 = .ok (.iconst 2, 1) := by decide +kernel
theorem dX8_codeOf_69 : decode cX8_codeOf 69 = .ok (.iadd, 1) := by decide +kernel
theorem dX8_codeOf_70 : decode cX8_codeOf 70 = .ok (.iload_n 3, 1) := by decide +kernel
theorem dX8_codeOf_71 : decode cX8_codeOf 71 = .ok (.iadd, 1) := by decide +kernel
theorem dX8_codeOf_72 : decode cX8_codeOf 72 = .ok (.goto 6, 3) := by decide +kernel
theorem dX8_codeOf_75 : decode cX8_codeOf 75 = .ok (.iload_n 3, 1) := by decide +kernel
theorem dX8_codeOf_76 : decode cX8_codeOf 76 = .ok (.iconst 1, 1) := by decide +kernel
theorem dX8_codeOf_77 : decode cX8_codeOf 77 = .ok (.iadd, 1) := by decide +kernel
theorem dX8_codeOf_78 : decode cX8_codeOf 78 = .ok (.ireturn, 1) := by decide +kernel
theorem dX8_reduce_0 : decode cX8_reduce 0 = .ok (.aload_n 0, 1) := by decide +kernel
theorem dX8_reduce_1 : decode cX8_reduce 1 = .ok (.getfield 29, 3) := by decide +kernel
theorem dX8_reduce_4 : decode cX8_reduce 4 = .ok (.iconst 1, 1) := by decide +kernel
theorem dX8_reduce_5 : decode cX8_reduce 5 = .ok (.isub, 1) := by decide +kernel
theorem dX8_reduce_6 : decode cX8_reduce 6 = .ok (.istore_n 2, 1) := by decide +kernel
theorem dX8_reduce_7 : decode cX8_reduce 7 = .ok (.iload_n 2, 1) := by decide +kernel
theorem dX8_reduce_8 : decode cX8_reduce 8 = .ok (.iload_n 1, 1) := by decide +kernel
theorem dX8_reduce_9 : decode cX8_reduce 9 = .ok (.if_icmp .le 31, 3) := by decide +kernel
theorem dX8_reduce_12 : decode cX8_reduce 12 = .ok (.aload_n 0, 1) := by decide +kernel
theorem dX8_reduce_13 : decode cX8_reduce 13 = .ok (.iload_n 2, 1) := by decide +kernel
theorem dX8_reduce_14 : decode cX8_reduce 14 = .ok (.invokevirtual 52, 3) := by decide +kernel
theorem dX8_reduce_17 : decode cX8_reduce 17 = .ok (.aload_n 0, 1) := by decide +kernel
theorem dX8_reduce_18 : decode cX8_reduce 18 = .ok (.iload_n 1, 1) := by decide +kernel
theorem dX8_reduce_19 : decode cX8_reduce 19 = .ok (.invokevirtual 52, 3) := by decide +kernel
theorem dX8_reduce_22 : decode cX8_reduce 22 = .ok (.if_icmp .lt 18, 3) := by decide +kernel
theorem dX8_reduce_25 : decode cX8_reduce 25 = .ok (.aload_n 0, 1) := by decide +kernel
theorem dX8_reduce_26 : decode cX8_reduce 26 = .ok (.iload_n 1, 1) := by decide +kernel
theorem dX8_reduce_27 : decode cX8_reduce 27 = .ok (.aload_n 0, 1) := by decide +kernel
theorem dX8_reduce_28 : decode cX8_reduce 28 = .ok (.iload_n 2, 1) := by decide +kernel
theorem dX8_reduce_29 : decode cX8_reduce 29 = .ok (.invokevirtual 52, 3) := by decide +kernel
theorem dX8_reduce_32 : decode cX8_reduce 32 = .ok (.invokevirtual 56, 3) := by decide +kernel
theorem dX8_reduce_35 : decode cX8_reduce 35 = .ok (.aload_n 0, 1) := by decide +kernel
theorem dX8_reduce_36 : decode cX8_reduce 36 = .ok (.iload_n 2, 1) := by decide +kernel
theorem dX8_reduce_37 : decode cX8_reduce 37 = .ok (.putfield 29, 3) := by decide +kernel
theorem dX8_reduce_40 : decode cX8_reduce 40 = .ok (.return_, 1) := by decide +kernel
theorem dX8_unpack_0 : decode cX8_unpack 0 = .ok (.aload 5, 2) := by decide +kernel
theorem dX8_unpack_2 : decode cX8_unpack 2 = .ok (.invokevirtual 24, 3) := by decide +kernel
theorem dX8_unpack_5 : decode cX8_unpack 5 = .ok (.iload_n 3, 1) := by decide +kernel
theorem dX8_unpack_6 : decode cX8_unpack 6 = .ok (.ifCond .gt 5, 3) := by decide +kernel
theorem dX8_unpack_9 : decode cX8_unpack 9 = .ok (.iconst 0, 1) := by decide +kernel
theorem dX8_unpack_10 : decode cX8_unpack 10 = .ok (.ireturn, 1) := by decide +kernel
theorem dX8_unpack_11 : decode cX8_unpack 11 = .ok (.iconst 0, 1) := by decide +kernel
theorem dX8_unpack_12 : decode cX8_unpack 12 = .ok (.istore 6, 2) := by decide +kernel
theorem dX8_unpack_14 : decode cX8_unpack 14 = .ok (.iconst 0, 1) := by decide +kernel
theorem dX8_unpack_15 : decode cX8_unpack 15 = .ok (.istore 7, 2) := by decide +kernel
theorem dX8_unpack_17 : decode cX8_unpack 17 = .ok (.iload 6, 2) := by decide +kernel
theorem dX8_unpack_19 : decode cX8_unpack 19 = .ok (.iload_n 3, 1) := by decide +kernel
theorem dX8_unpack_20 : decode cX8_unpack 20 = .ok (.if_icmp .ge 168, 3) := by decide +kernel
theorem dX8_unpack_23 : decode cX8_unpack 23 = .ok (.iload 7, 2) := by decide +kernel
theorem dX8_unpack_25 : decode cX8_unpack 25 = .ok (.iload_n 3, 1) := by decide +kernel
theorem dX8_unpack_26 : decode cX8_unpack 26 = .ok (.if_icmp .ge 162, 3) := by decide +kernel
theorem dX8_unpack_29 : decode cX8_unpack 29 = .ok (.aload_n 1, 1) := by decide +kernel
theorem dX8_unpack_30 : decode cX8_unpack 30 = .ok (.iload_n 2, 1) := by decide +kernel
theorem dX8_unpack_31 : decode cX8_unpack 31 = .ok (.iload 6, 2) := by decide +kernel
theorem dX8_unpack_33 : decode cX8_unpack 33 = .ok (.iadd, 1) := by decide +kernel
theorem dX8_unpack_34 : decode cX8_unpack 34 = .ok (.invokevirtual 52, 3) := by decide +kernel
theorem dX8_unpack_37 : decode cX8_unpack 37 = .ok (.istore 8, 2) := by decide +kernel
theorem dX8_unpack_39 : decode cX8_unpack 39 = .ok (.iload_n 3, 1) := by decide +kernel
theorem dX8_unpack_40 : decode cX8_unpack 40 = .ok (.iload 6, 2) := by decide +kernel
theorem dX8_unpack_42 : decode cX8_unpack 42 = .ok (.isub, 1) := by decide +kernel
theorem dX8_unpack_43 : decode cX8_unpack 43 = .ok (.iconst 1, 1) := by decide +kernel
theorem dX8_unpack_44 : decode cX8_unpack 44 = .ok (.isub, 1) := by decide +kernel
theorem dX8_unpack_45 : decode cX8_unpack 45 = .ok (.istore 9, 2) := by decide +kernel
theorem dX8_unpack_47 : decode cX8_unpack 47 = .ok (.aload_n 0, 1) := by decide +kernel
theorem dX8_unpack_48 : decode cX8_unpack 48 = .ok (.iload 8, 2) := by decide +kernel
theorem dX8_unpack_50 : decode cX8_unpack 50 = .ok (.iload 9, 2) := by decide +kernel
theorem dX8_unpack_52 : decode cX8_unpack 52 = .ok (.iload 4, 2) := by decide +kernel
theorem dX8_unpack_54 : decode cX8_unpack 54 = .ok (.invokevirtual 60, 3) := by decide +kernel
theorem dX8_unpack_57 : decode cX8_unpack 57 = .ok (.istore 10, 2) := by decide +kernel
theorem dX8_unpack_59 : decode cX8_unpack 59 = .ok (.iload 10, 2) := by decide +kernel
theorem dX8_unpack_61 : decode cX8_unpack 61 = .ok (.iconst (-1), 1) := by decide +kernel
theorem dX8_unpack_62 : decode cX8_unpack 62 = .ok (.if_icmp .ne 6, 3) := by decide +kernel
theorem dX8_unpack_65 : decode cX8_unpack 65 = .ok (.iload 6, 2) := by decide +kernel
theorem dX8_unpack_67 : decode cX8_unpack 67 = .ok (.ireturn, 1) := by decide +kernel
theorem dX8_unpack_68 : decode cX8_unpack 68 = .ok (.iconst 1, 1) := by decide +kernel
theorem dX8_unpack_69 : decode cX8_unpack 69 = .ok (.istore 11, 2) := by decide +kernel
theorem dX8_unpack_71 : decode cX8_unpack 71 = .ok (.iload 11, 2) := by decide +kernel
theorem dX8_unpack_73 : decode cX8_unpack 73 = .ok (.iload 10, 2) := by decide +kernel
theorem dX8_unpack_75 : decode cX8_unpack 75 = .ok (.if_icmp .gt 40, 3) := by decide +kernel
theorem dX8_unpack_78 : decode cX8_unpack 78 = .ok (.aload_n 1, 1) := by decide +kernel
theorem dX8_unpack_79 : decode cX8_unpack 79 = .ok (.iload_n 2, 1) := by decide +kernel
theorem dX8_unpack_80 : decode cX8_unpack 80 = .ok (.iload 6, 2) := by decide +kernel
theorem dX8_unpack_82 : decode cX8_unpack 82 = .ok (.iadd, 1) := by decide +kernel
theorem dX8_unpack_83 : decode cX8_unpack 83 = .ok (.iload 11, 2) := by decide +kernel
theorem dX8_unpack_85 : decode cX8_unpack 85 = .ok (.iadd, 1) := by decide +kernel
theorem dX8_unpack_86 : decode cX8_unpack 86 = .ok (.invokevirtual 52, 3) := by decide +kernel
theorem dX8_unpack_89 : decode cX8_unpack 89 = .ok (.istore 12, 2) := by decide +kernel
theorem dX8_unpack_91 : decode cX8_unpack 91 = .ok (.iload 12, 2) := by decide +kernel
theorem dX8_unpack_93 : decode cX8_unpack 93 = .ok (.ifCond .gt 9, 3) := by decide +kernel
theorem dX8_unpack_96 : decode cX8_unpack 96 = .ok (.iload 6, 2) := by decide +kernel
theorem dX8_unpack_98 : decode cX8_unpack 98 = .ok (.iload 11, 2) := by decide +kernel
theorem dX8_unpack_100 : decode cX8_unpack 100 = .ok (.iadd, 1) := by decide +kernel
theorem dX8_unpack_101 : decode cX8_unpack 101 = .ok (.ireturn, 1) := by decide +kernel
theorem dX8_unpack_102 : decode cX8_unpack 102 = .ok (.aload 5, 2) := by decide +kernel
theorem dX8_unpack_104 : decode cX8_unpack 104 = .ok (.iload 12, 2) := by decide +kernel
theorem dX8_unpack_106 : decode cX8_unpack 106 = .ok (.invokevirtual 40, 3) := by decide +kernel
theorem dX8_unpack_109 : decode cX8_unpack 109 = .ok (.iinc 11 1, 3) := by decide +kernel
theorem dX8_unpack_112 : decode cX8_unpack 112 = .ok (.goto (-41), 3) := by decide +kernel
theorem dX8_unpack_115 : decode cX8_unpack 115 = .ok (.iload 6, 2) := by decide +kernel
theorem dX8_unpack_117 : decode cX8_unpack 117 = .ok (.iconst 1, 1) := by decide +kernel
theorem dX8_unpack_118 : decode cX8_unpack 118 = .ok (.iload 10, 2) := by decide +kernel
theorem dX8_unpack_120 : decode cX8_unpack 120 = .ok (.iadd, 1) := by decide +kernel
theorem dX8_unpack_121 : decode cX8_unpack 121 = .ok (.iadd, 1) := by decide +kernel
theorem dX8_unpack_122 : decode cX8_unpack 122 = .ok (.istore 6, 2) := by decide +kernel
theorem dX8_unpack_124 : decode cX8_unpack 124 = .ok (.iload 8, 2) := by decide +kernel
theorem dX8_unpack_126 : decode cX8_unpack 126 = .ok (.iload 9, 2) := by decide +kernel
theorem dX8_unpack_128 : decode cX8_unpack 128 = .ok (.iload 4, 2) := by decide +kernel
theorem dX8_unpack_130 : decode cX8_unpack 130 = .ok (.invokestatic 64, 3) := by decide +kernel
theorem dX8_unpack_133 : decode cX8_unpack 133 = .ok (.ifCond .eq 13, 3) := by decide +kernel
theorem dX8_unpack_136 : decode cX8_unpack 136 = .ok (.aload 5, 2) := by decide +kernel
theorem dX8_unpack_138 : decode cX8_unpack 138 = .ok (.iload 8, 2) := by decide +kernel
theorem dX8_unpack_140 : decode cX8_unpack 140 = .ok (.invokevirtual 40, 3) := by decide +kernel
theorem dX8_unpack_143 : decode cX8_unpack 143 = .ok (.goto 39, 3) := by decide +kernel
theorem dX8_unpack_146 : decode cX8_unpack 146 = .ok (.aload_n 0, 1) := by decide +kernel
theorem dX8_unpack_147 : decode cX8_unpack 147 = .ok (.iload 8, 2) := by decide +kernel
theorem dX8_unpack_149 : decode cX8_unpack 149 = .ok (.iload 6, 2) := by decide +kernel
theorem dX8_unpack_151 : decode cX8_unpack 151 = .ok (.iload_n 3, 1) := by decide +kernel
theorem dX8_unpack_152 : decode cX8_unpack 152 = .ok (.if_icmp .ge 7, 3) := by decide +kernel
theorem dX8_unpack_155 : decode cX8_unpack 155 = .ok (.iconst 1, 1) := by decide +kernel
theorem dX8_unpack_156 : decode cX8_unpack 156 = .ok (.goto 4, 3) := by decide +kernel
theorem dX8_unpack_159 : decode cX8_unpack 159 = .ok (.iconst 0, 1) := by decide +kernel
theorem dX8_unpack_160 : decode cX8_unpack 160 = .ok (.invokevirtual 68, 3) := by decide +kernel
theorem dX8_unpack_163 : decode cX8_unpack 163 = .ok (.istore 11, 2) := by decide +kernel
theorem dX8_unpack_165 : decode cX8_unpack 165 = .ok (.iload 11, 2) := by decide +kernel
theorem dX8_unpack_167 : decode cX8_unpack 167 = .ok (.ifCond .le 15, 3) := by decide +kernel
theorem dX8_unpack_170 : decode cX8_unpack 170 = .ok (.aload 5, 2) := by decide +kernel
theorem dX8_unpack_172 : decode cX8_unpack 172 = .ok (.iconst 0, 1) := by decide +kernel
theorem dX8_unpack_173 : decode cX8_unpack 173 = .ok (.invokevirtual 40, 3) := by decide +kernel
theorem dX8_unpack_176 : decode cX8_unpack 176 = .ok (.iinc 11 (-1), 3) := by decide +kernel
theorem dX8_unpack_179 : decode cX8_unpack 179 = .ok (.goto (-14), 3) := by decide +kernel
theorem dX8_unpack_182 : decode cX8_unpack 182 = .ok (.iinc 7 1, 3) := by decide +kernel
theorem dX8_unpack_185 : decode cX8_unpack 185 = .ok (.goto (-168), 3) := by decide +kernel
theorem dX8_unpack_188 : decode cX8_unpack 188 = .ok (.iconst (-1), 1) := by decide +kernel
theorem dX8_unpack_189 : decode cX8_unpack 189 = .ok (.ireturn, 1) := by decide +kernel
theorem dX8_runOf_0 : decode cX8_runOf 0 = .ok (.iload_n 1, 1) := by decide +kernel
theorem dX8_runOf_1 : decode cX8_runOf 1 = .ok (.iconst 1, 1) := by decide +kernel
theorem dX8_runOf_2 : decode cX8_runOf 2 = .ok (.if_icmp .ge 5, 3) := by decide +kernel
theorem dX8_runOf_5 : decode cX8_runOf 5 = .ok (.iconst (-1), 1) := by decide +kernel
theorem dX8_runOf_6 : decode cX8_runOf 6 = .ok (.ireturn, 1) := by decide +kernel
theorem dX8_runOf_7 : decode cX8_runOf 7 = .ok (.iload_n 1, 1) := by decide +kernel
theorem dX8_runOf_8 : decode cX8_runOf 8 = .ok (.iload_n 2, 1) := by decide +kernel
theorem dX8_runOf_9 : decode cX8_runOf 9 = .ok (.iload_n 3, 1) := by decide +kernel
theorem dX8_runOf_10 : decode cX8_runOf 10 = .ok (.invokestatic 64, 3) := by decide +kernel
theorem dX8_runOf_13 : decode cX8_runOf 13 = .ok (.ifCond .eq 5, 3) := by decide +kernel
theorem dX8_runOf_16 : decode cX8_runOf 16 = .ok (.iload_n 2, 1) := by decide +kernel
theorem dX8_runOf_17 : decode cX8_runOf 17 = .ok (.ireturn, 1) := by decide +kernel
theorem dX8_runOf_18 : decode cX8_runOf 18 = .ok (.iconst (-1), 1) := by decide +kernel
theorem dX8_runOf_19 : decode cX8_runOf 19 = .ok (.istore 4, 2) := by decide +kernel
theorem dX8_runOf_21 : decode cX8_runOf 21 = .ok (.iload_n 1, 1) := by decide +kernel
theorem dX8_runOf_22 : decode cX8_runOf 22 = .ok (.aload_n 0, 1) := by decide +kernel
theorem dX8_runOf_23 : decode cX8_runOf 23 = .ok (.getfield 9, 3) := by decide +kernel
theorem dX8_runOf_26 : decode cX8_runOf 26 = .ok (.iconst 1, 1) := by decide +kernel
theorem dX8_runOf_27 : decode cX8_runOf 27 = .ok (.iadd, 1) := by decide +kernel
theorem dX8_runOf_28 : decode cX8_runOf 28 = .ok (.if_icmp .gt 11, 3) := by decide +kernel
theorem dX8_runOf_31 : decode cX8_runOf 31 = .ok (.iload_n 1, 1) := by decide +kernel
theorem dX8_runOf_32 : decode cX8_runOf 32 = .ok (.iconst 1, 1) := by decide +kernel
theorem dX8_runOf_33 : decode cX8_runOf 33 = .ok (.isub, 1) := by decide +kernel
theorem dX8_runOf_34 : decode cX8_runOf 34 = .ok (.istore 4, 2) := by decide +kernel
theorem dX8_runOf_36 : decode cX8_runOf 36 = .ok (.goto 33, 3) := by decide +kernel
theorem dX8_runOf_39 : decode cX8_runOf 39 = .ok (.iload_n 3, 1) := by decide +kernel
theorem dX8_runOf_40 : decode cX8_runOf 40 = .ok (.iconst 1, 1) := by decide +kernel
theorem dX8_runOf_41 : decode cX8_runOf 41 = .ok (.if_icmp .ne 28, 3) := by decide +kernel
theorem dX8_runOf_44 : decode cX8_runOf 44 = .ok (.iload_n 1, 1) := by decide +kernel
theorem dX8_runOf_45 : decode cX8_runOf 45 = .ok (.aload_n 0, 1) := by decide +kernel
theorem dX8_runOf_46 : decode cX8_runOf 46 = .ok (.getfield 9, 3) := by decide +kernel
theorem dX8_runOf_49 : decode cX8_runOf 49 = .ok (.iconst 1, 1) := by decide +kernel
theorem dX8_runOf_50 : decode cX8_runOf 50 = .ok (.iadd, 1) := by decide +kernel
theorem dX8_runOf_51 : decode cX8_runOf 51 = .ok (.aload_n 0, 1) := by decide +kernel
theorem dX8_runOf_52 : decode cX8_runOf 52 = .ok (.getfield 15, 3) := by decide +kernel
theorem dX8_runOf_55 : decode cX8_runOf 55 = .ok (.iadd, 1) := by decide +kernel
theorem dX8_runOf_56 : decode cX8_runOf 56 = .ok (.if_icmp .gt 13, 3) := by decide +kernel
theorem dX8_runOf_59 : decode cX8_runOf 59 = .ok (.iload_n 1, 1) := by decide +kernel
theorem dX8_runOf_60 : decode cX8_runOf 60 = .ok (.aload_n 0, 1) := by decide +kernel
theorem dX8_runOf_61 : decode cX8_runOf 61 = .ok (.getfield 9, 3) := by decide +kernel
theorem dX8_runOf_64 : decode cX8_runOf 64 = .ok (.isub, 1) := by decide +kernel
theorem dX8_runOf_65 : decode cX8_runOf 65 = .ok (.iconst 2, 1) := by decide +kernel
theorem dX8_runOf_66 : decode cX8_runOf 66 = .ok (.isub, 1) := by decide +kernel
theorem dX8_runOf_67 : decode cX8_runOf 67 = .ok (.istore 4, 2) := by decide +kernel
theorem dX8_runOf_69 : decode cX8_runOf 69 = .ok (.iload 4, 2) := by decide +kernel
theorem dX8_runOf_71 : decode cX8_runOf 71 = .ok (.iload_n 2, 1) := by decide +kernel
theorem dX8_runOf_72 : decode cX8_runOf 72 = .ok (.if_icmp .gt 8, 3) := by decide +kernel
theorem dX8_runOf_75 : decode cX8_runOf 75 = .ok (.iload 4, 2) := by decide +kernel
theorem dX8_runOf_77 : decode cX8_runOf 77 = .ok (.goto 4, 3) := by decide +kernel
theorem dX8_runOf_80 : decode cX8_runOf 80 = .ok (.iconst (-1), 1) := by decide +kernel
theorem dX8_runOf_81 : decode cX8_runOf 81 = .ok (.ireturn, 1) := by decide +kernel
theorem dX8_isTail_0 : decode cX8_isTail 0 = .ok (.iload_n 2, 1) := by decide +kernel
theorem dX8_isTail_1 : decode cX8_isTail 1 = .ok (.iconst 2, 1) := by decide +kernel
theorem dX8_isTail_2 : decode cX8_isTail 2 = .ok (.if_icmp .ne 14, 3) := by decide +kernel
theorem dX8_isTail_5 : decode cX8_isTail 5 = .ok (.iload_n 0, 1) := by decide +kernel
theorem dX8_isTail_6 : decode cX8_isTail 6 = .ok (.iconst 1, 1) := by decide +kernel
theorem dX8_isTail_7 : decode cX8_isTail 7 = .ok (.isub, 1) := by decide +kernel
theorem dX8_isTail_8 : decode cX8_isTail 8 = .ok (.iload_n 1, 1) := by decide +kernel
theorem dX8_isTail_9 : decode cX8_isTail 9 = .ok (.if_icmp .le 7, 3) := by decide +kernel
theorem dX8_isTail_12 : decode cX8_isTail 12 = .ok (.iconst 1, 1) := by decide +kernel
theorem dX8_isTail_13 : decode cX8_isTail 13 = .ok (.goto 4, 3) := by decide +kernel
theorem dX8_isTail_16 : decode cX8_isTail 16 = .ok (.iconst 0, 1) := by decide +kernel
theorem dX8_isTail_17 : decode cX8_isTail 17 = .ok (.ireturn, 1) := by decide +kernel
theorem dX8_zerosBehind_0 : decode cX8_zerosBehind 0 = .ok (.iload_n 1, 1) := by decide +kernel
theorem dX8_zerosBehind_1 : decode cX8_zerosBehind 1 = .ok (.aload_n 0, 1) := by decide +kernel
theorem dX8_zerosBehind_2 : decode cX8_zerosBehind 2 = .ok (.getfield 9, 3) := by decide +kernel
theorem dX8_zerosBehind_5 : decode cX8_zerosBehind 5 = .ok (.iconst 1, 1) := by decide +kernel
theorem dX8_zerosBehind_6 : decode cX8_zerosBehind 6 = .ok (.iadd, 1) := by decide +kernel
theorem dX8_zerosBehind_7 : decode cX8_zerosBehind 7 = .ok (.if_icmp .le 5, 3) := by decide +kernel
theorem dX8_zerosBehind_10 : decode cX8_zerosBehind 10 = .ok (.iconst 2, 1) := by decide +kernel
theorem dX8_zerosBehind_11 : decode cX8_zerosBehind 11 = .ok (.ireturn, 1) := by decide +kernel
theorem dX8_zerosBehind_12 : decode cX8_zerosBehind 12 = .ok (.iload_n 1, 1) := by decide +kernel
theorem dX8_zerosBehind_13 : decode cX8_zerosBehind 13 = .ok (.aload_n 0, 1) := by decide +kernel
theorem dX8_zerosBehind_14 : decode cX8_zerosBehind 14 = .ok (.getfield 9, 3) := by decide +kernel
theorem dX8_zerosBehind_17 : decode cX8_zerosBehind 17 = .ok (.if_icmp .gt 11, 3) := by decide +kernel
theorem dX8_zerosBehind_20 : decode cX8_zerosBehind 20 = .ok (.iload_n 2, 1) := by decide +kernel
theorem dX8_zerosBehind_21 : decode cX8_zerosBehind 21 = .ok (.ifCond .eq 7, 3) := by decide +kernel
theorem dX8_zerosBehind_24 : decode cX8_zerosBehind 24 = .ok (.iconst 1, 1) := by decide +kernel
theorem dX8_zerosBehind_25 : decode cX8_zerosBehind 25 = .ok (.goto 4, 3) := by decide +kernel
theorem dX8_zerosBehind_28 : decode cX8_zerosBehind 28 = .ok (.iconst 0, 1) := by decide +kernel
theorem dX8_zerosBehind_29 : decode cX8_zerosBehind 29 = .ok (.ireturn, 1) := by decide +kernel
theorem dX9_init_0 : decode cX9_init 0 = .ok (.aload_n 0, 1) := by decide +kernel
theorem dX9_init_1 : decode cX9_init 1 = .ok (.invokespecial 3, 3) := by decide +kernel
theorem dX9_init_4 : decode cX9_init 4 = .ok (.aload_n 0, 1) := by decide +kernel
theorem dX9_init_5 : decode cX9_init 5 = .ok (.new 9, 3) := by decide +kernel
theorem dX9_init_8 : decode cX9_init 8 = .ok (.dup, 1) := by decide +kernel
theorem dX9_init_9 : decode cX9_init 9 = .ok (.sipush 300, 3) := by decide +kernel
theorem dX9_init_12 : decode cX9_init 12 = .ok (.invokespecial 11, 3) := by decide +kernel
theorem dX9_init_15 : decode cX9_init 15 = .ok (.putfield 14, 3) := by decide +kernel
theorem dX9_init_18 : decode cX9_init 18 = .ok (.aload_n 0, 1) := by decide +kernel
theorem dX9_init_19 : decode cX9_init 19 = .ok (.new 20, 3) := by decide +kernel
theorem dX9_init_22 : decode cX9_init 22 = .ok (.dup, 1) := by decide +kernel
theorem dX9_init_23 : decode cX9_init 23 = .ok (.invokespecial 22, 3) := by decide +kernel
theorem dX9_init_26 : decode cX9_init 26 = .ok (.putfield 23, 3) := by decide +kernel
theorem dX9_init_29 : decode cX9_init 29 = .ok (.return_, 1) := by decide +kernel
theorem dX9_firstFault_0 : decode cX9_firstFault 0 = .ok (.aload_n 0, 1) := by decide +kernel
theorem dX9_firstFault_1 : decode cX9_firstFault 1 = .ok (.getfield 23, 3) := by decide +kernel
theorem dX9_firstFault_4 : decode cX9_firstFault 4 = .ok (.invokevirtual 27, 3) := by decide +kernel
theorem dX9_firstFault_7 : decode cX9_firstFault 7 = .ok (.aload_n 0, 1) := by decide +kernel
theorem dX9_firstFault_8 : decode cX9_firstFault 8 = .ok (.iconst 0, 1) := by decide +kernel
theorem dX9_firstFault_9 : decode cX9_firstFault 9 = .ok (.putfield 30, 3) := by decide +kernel
theorem dX9_firstFault_12 : decode cX9_firstFault 12 = .ok (.aload_n 0, 1) := by decide +kernel
theorem dX9_firstFault_13 : decode cX9_firstFault 13 = .ok (.iconst 0, 1) := by decide +kernel
theorem dX9_firstFault_14 : decode cX9_firstFault 14 = .ok (.putfield 34, 3) := by decide +kernel
theorem dX9_firstFault_17 : decode cX9_firstFault 17 = .ok (.iconst 0, 1) := by decide +kernel
theorem dX9_firstFault_18 : decode cX9_firstFault 18 = .ok (.istore_n 1, 1) := by decide +kernel
theorem dX9_firstFault_19 : decode cX9_firstFault 19 = .ok (.iload_n 1, 1) := by decide +kernel
theorem dX9_firstFault_20 : decode cX9_firstFault 20 = .ok (.sipush 300, 3) := by decide +kernel
theorem dX9_firstFault_23 : decode cX9_firstFault 23 = .ok (.if_icmp .gt 124, 3) := by decide +kernel
theorem dX9_firstFault_26 : decode cX9_firstFault 26 = .ok (.aload_n 0, 1) := by decide +kernel
theorem dX9_firstFault_27 : decode cX9_firstFault 27 = .ok (.invokevirtual 37, 3) := by decide +kernel
theorem dX9_firstFault_30 : decode cX9_firstFault 30 = .ok (.aload_n 0, 1) := by decide +kernel
theorem dX9_firstFault_31 : decode cX9_firstFault 31 = .ok (.getfield 40, 3) := by decide +kernel
theorem dX9_firstFault_34 : decode cX9_firstFault 34 = .ok (.iconst 1, 1) := by decide +kernel
theorem dX9_firstFault_35 : decode cX9_firstFault 35 = .ok (.if_icmp .ne 10, 3) := by decide +kernel
theorem dX9_firstFault_38 : decode cX9_firstFault 38 = .ok (.aload_n 0, 1) := by decide +kernel
theorem dX9_firstFault_39 : decode cX9_firstFault 39 = .ok (.invokevirtual 43, 3) := by decide +kernel
theorem dX9_firstFault_42 : decode cX9_firstFault 42 = .ok (.goto 4, 3) := by decide +kernel
theorem dX9_firstFault_45 : decode cX9_firstFault 45 = .ok (.iconst (-1), 1) := by decide +kernel
theorem dX9_firstFault_46 : decode cX9_firstFault 46 = .ok (.istore_n 2, 1) := by decide +kernel
theorem dX9_firstFault_47 : decode cX9_firstFault 47 = .ok (.iload_n 2, 1) := by decide +kernel
theorem dX9_firstFault_48 : decode cX9_firstFault 48 = .ok (.iconst (-1), 1) := by decide +kernel
theorem dX9_firstFault_49 : decode cX9_firstFault 49 = .ok (.if_icmp .eq 11, 3) := by decide +kernel
theorem dX9_firstFault_52 : decode cX9_firstFault 52 = .ok (.aload_n 0, 1) := by decide +kernel
theorem dX9_firstFault_53 : decode cX9_firstFault 53 = .ok (.iload_n 2, 1) := by decide +kernel
theorem dX9_firstFault_54 : decode cX9_firstFault 54 = .ok (.invokevirtual 47, 3) := by decide +kernel
theorem dX9_firstFault_57 : decode cX9_firstFault 57 = .ok (.ifCond .ne 8, 3) := by decide +kernel
theorem dX9_firstFault_60 : decode cX9_firstFault 60 = .ok (.aload_n 0, 1) := by decide +kernel
theorem dX9_firstFault_61 : decode cX9_firstFault 61 = .ok (.getfield 51, 3) := by decide +kernel
theorem dX9_firstFault_64 : decode cX9_firstFault 64 = .ok (.ireturn, 1) := by decide +kernel
theorem dX9_firstFault_65 : decode cX9_firstFault 65 = .ok (.aload_n 0, 1) := by decide +kernel
theorem dX9_firstFault_66 : decode cX9_firstFault 66 = .ok (.invokevirtual 37, 3) := by decide +kernel
theorem dX9_firstFault_69 : decode cX9_firstFault 69 = .ok (.aload_n 0, 1) := by decide +kernel
theorem dX9_firstFault_70 : decode cX9_firstFault 70 = .ok (.iload_n 2, 1) := by decide +kernel
theorem dX9_firstFault_71 : decode cX9_firstFault 71 = .ok (.invokevirtual 54, 3) := by decide +kernel
theorem dX9_firstFault_74 : decode cX9_firstFault 74 = .ok (.ifCond .ne 8, 3) := by decide +kernel
theorem dX9_firstFault_77 : decode cX9_firstFault 77 = .ok (.aload_n 0, 1) := by decide +kernel
theorem dX9_firstFault_78 : decode cX9_firstFault 78 = .ok (.getfield 51, 3) := by decide +kernel
theorem dX9_firstFault_81 : decode cX9_firstFault 81 = .ok (.ireturn, 1) := by decide +kernel
theorem dX9_firstFault_82 : decode cX9_firstFault 82 = .ok (.aload_n 0, 1) := by decide +kernel
theorem dX9_firstFault_83 : decode cX9_firstFault 83 = .ok (.invokevirtual 37, 3) := by decide +kernel
theorem dX9_firstFault_86 : decode cX9_firstFault 86 = .ok (.aload_n 0, 1) := by decide +kernel
theorem dX9_firstFault_87 : decode cX9_firstFault 87 = .ok (.getfield 40, 3) := by decide +kernel
theorem dX9_firstFault_90 : decode cX9_firstFault 90 = .ok (.ifCond .ne 22, 3) := by decide +kernel
theorem dX9_firstFault_93 : decode cX9_firstFault 93 = .ok (.aload_n 0, 1) := by decide +kernel
theorem dX9_firstFault_94 : decode cX9_firstFault 94 = .ok (.getfield 23, 3) := by decide +kernel
theorem dX9_firstFault_97 : decode cX9_firstFault 97 = .ok (.getfield 57, 3) := by decide +kernel
theorem dX9_firstFault_100 : decode cX9_firstFault 100 = .ok (.ifCond .ne 10, 3) := by decide +kernel
theorem dX9_firstFault_103 : decode cX9_firstFault 103 = .ok (.aload_n 0, 1) := by decide +kernel
theorem dX9_firstFault_104 : decode cX9_firstFault 104 = .ok (.getfield 51, 3) := by decide +kernel
theorem dX9_firstFault_107 : decode cX9_firstFault 107 = .ok (.goto 4, 3) := by decide +kernel
theorem dX9_firstFault_110 : decode cX9_firstFault 110 = .ok (.iconst (-1), 1) := by decide +kernel
theorem dX9_firstFault_111 : decode cX9_firstFault 111 = .ok (.ireturn, 1) := by decide +kernel
theorem dX9_firstFault_112 : decode cX9_firstFault 112 = .ok (.aload_n 0, 1) := by decide +kernel
theorem dX9_firstFault_113 : decode cX9_firstFault 113 = .ok (.getfield 40, 3) := by decide +kernel
theorem dX9_firstFault_116 : decode cX9_firstFault 116 = .ok (.iconst 3, 1) := by decide +kernel
theorem dX9_firstFault_117 : decode cX9_firstFault 117 = .ok (.if_icmp .ne 19, 3) := by decide +kernel
theorem dX9_firstFault_120 : decode cX9_firstFault 120 = .ok (.aload_n 0, 1) := by decide +kernel
theorem dX9_firstFault_121 : decode cX9_firstFault 121 = .ok (.getfield 14, 3) := by decide +kernel
theorem dX9_firstFault_124 : decode cX9_firstFault 124 = .ok (.aload_n 0, 1) := by decide +kernel
theorem dX9_firstFault_125 : decode cX9_firstFault 125 = .ok (.getfield 51, 3) := by decide +kernel
theorem dX9_firstFault_128 : decode cX9_firstFault 128 = .ok (.invokevirtual 60, 3) := by decide +kernel
theorem dX9_firstFault_131 : decode cX9_firstFault 131 = .ok (.bipush 59, 2) := by decide +kernel
theorem dX9_firstFault_133 : decode cX9_firstFault 133 = .ok (.if_icmp .eq 8, 3) := by decide +kernel
theorem dX9_firstFault_136 : decode cX9_firstFault 136 = .ok (.aload_n 0, 1) := by decide +kernel
theorem dX9_firstFault_137 : decode cX9_firstFault 137 = .ok (.getfield 51, 3) := by decide +kernel
theorem dX9_firstFault_140 : decode cX9_firstFault 140 = .ok (.ireturn, 1) := by decide +kernel
theorem dX9_firstFault_141 : decode cX9_firstFault 141 = .ok (.iinc 1 1, 3) := by decide +kernel
theorem dX9_firstFault_144 : decode cX9_firstFault 144 = .ok (.goto (-125), 3) := by decide +kernel
theorem dX9_firstFault_147 : decode cX9_firstFault 147 = .ok (.aload_n 0, 1) := by decide +kernel
theorem dX9_firstFault_148 : decode cX9_firstFault 148 = .ok (.getfield 14, 3) := by decide +kernel
theorem dX9_firstFault_151 : decode cX9_firstFault 151 = .ok (.getfield 64, 3) := by decide +kernel
theorem dX9_firstFault_154 : decode cX9_firstFault 154 = .ok (.ireturn, 1) := by decide +kernel
theorem dX9_nextPart_0 : decode cX9_nextPart 0 = .ok (.aload_n 0, 1) := by decide +kernel
theorem dX9_nextPart_1 : decode cX9_nextPart 1 = .ok (.aload_n 0, 1) := by decide +kernel
theorem dX9_nextPart_2 : decode cX9_nextPart 2 = .ok (.getfield 34, 3) := by decide +kernel
theorem dX9_nextPart_5 : decode cX9_nextPart 5 = .ok (.putfield 51, 3) := by decide +kernel
theorem dX9_nextPart_8 : decode cX9_nextPart 8 = .ok (.aload_n 0, 1) := by decide +kernel
theorem dX9_nextPart_9 : decode cX9_nextPart 9 = .ok (.getfield 34, 3) := by decide +kernel
theorem dX9_nextPart_12 : decode cX9_nextPart 12 = .ok (.istore_n 1, 1) := by decide +kernel
theorem dX9_nextPart_13 : decode cX9_nextPart 13 = .ok (.iload_n 1, 1) := by decide +kernel
theorem dX9_nextPart_14 : decode cX9_nextPart 14 = .ok (.aload_n 0, 1) := by decide +kernel
theorem dX9_nextPart_15 : decode cX9_nextPart 15 = .ok (.getfield 14, 3) := by decide +kernel
theorem dX9_nextPart_18 : decode cX9_nextPart 18 = .ok (.getfield 64, 3) := by decide +kernel
theorem dX9_nextPart_21 : decode cX9_nextPart 21 = .ok (.if_icmp .ge 29, 3) := by decide +kernel
theorem dX9_nextPart_24 : decode cX9_nextPart 24 = .ok (.aload_n 0, 1) := by decide +kernel
theorem dX9_nextPart_25 : decode cX9_nextPart 25 = .ok (.getfield 14, 3) := by decide +kernel
theorem dX9_nextPart_28 : decode cX9_nextPart 28 = .ok (.iload_n 1, 1) := by decide +kernel
theorem dX9_nextPart_29 : decode cX9_nextPart 29 = .ok (.invokevirtual 60, 3) := by decide +kernel
theorem dX9_nextPart_32 : decode cX9_nextPart 32 = .ok (.bipush 32, 2) := by decide +kernel
theorem dX9_nextPart_34 : decode cX9_nextPart 34 = .ok (.if_icmp .ne 16, 3) := by decide +kernel
theorem dX9_nextPart_37 : decode cX9_nextPart 37 = .ok (.aload_n 0, 1) := by decide +kernel
theorem dX9_nextPart_38 : decode cX9_nextPart 38 = .ok (.iload_n 1, 1) := by decide +kernel
theorem dX9_nextPart_39 : decode cX9_nextPart 39 = .ok (.iconst 1, 1) := by decide +kernel
theorem dX9_nextPart_40 : decode cX9_nextPart 40 = .ok (.iadd, 1) := by decide +kernel
theorem dX9_nextPart_41 : decode cX9_nextPart 41 = .ok (.putfield 51, 3) := by decide +kernel
theorem dX9_nextPart_44 : decode cX9_nextPart 44 = .ok (.iinc 1 1, 3) := by decide +kernel
theorem dX9_nextPart_47 : decode cX9_nextPart 47 = .ok (.goto (-34), 3) := by decide +kernel
theorem dX9_nextPart_50 : decode cX9_nextPart 50 = .ok (.aload_n 0, 1) := by decide +kernel
theorem dX9_nextPart_51 : decode cX9_nextPart 51 = .ok (.getfield 14, 3) := by decide +kernel
theorem dX9_nextPart_54 : decode cX9_nextPart 54 = .ok (.aload_n 0, 1) := by decide +kernel
theorem dX9_nextPart_55 : decode cX9_nextPart 55 = .ok (.getfield 51, 3) := by decide +kernel
theorem dX9_nextPart_58 : decode cX9_nextPart 58 = .ok (.invokevirtual 60, 3) := by decide +kernel
theorem dX9_nextPart_61 : decode cX9_nextPart 61 = .ok (.istore_n 1, 1) := by decide +kernel
theorem dX9_nextPart_62 : decode cX9_nextPart 62 = .ok (.iload_n 1, 1) := by decide +kernel
theorem dX9_nextPart_63 : decode cX9_nextPart 63 = .ok (.iconst (-1), 1) := by decide +kernel
theorem dX9_nextPart_64 : decode cX9_nextPart 64 = .ok (.if_icmp .ne 19, 3) := by decide +kernel
theorem dX9_nextPart_67 : decode cX9_nextPart 67 = .ok (.aload_n 0, 1) := by decide +kernel
theorem dX9_nextPart_68 : decode cX9_nextPart 68 = .ok (.iconst 0, 1) := by decide +kernel
theorem dX9_nextPart_69 : decode cX9_nextPart 69 = .ok (.putfield 40, 3) := by decide +kernel
theorem dX9_nextPart_72 : decode cX9_nextPart 72 = .ok (.aload_n 0, 1) := by decide +kernel
theorem dX9_nextPart_73 : decode cX9_nextPart 73 = .ok (.aload_n 0, 1) := by decide +kernel
theorem dX9_nextPart_74 : decode cX9_nextPart 74 = .ok (.getfield 51, 3) := by decide +kernel
theorem dX9_nextPart_77 : decode cX9_nextPart 77 = .ok (.putfield 34, 3) := by decide +kernel
theorem dX9_nextPart_80 : decode cX9_nextPart 80 = .ok (.goto 66, 3) := by decide +kernel
theorem dX9_nextPart_83 : decode cX9_nextPart 83 = .ok (.iload_n 1, 1) := by decide +kernel
theorem dX9_nextPart_84 : decode cX9_nextPart 84 = .ok (.invokestatic 67, 3) := by decide +kernel
theorem dX9_nextPart_87 : decode cX9_nextPart 87 = .ok (.ifCond .eq 20, 3) := by decide +kernel
theorem dX9_nextPart_90 : decode cX9_nextPart 90 = .ok (.aload_n 0, 1) := by decide +kernel
theorem dX9_nextPart_91 : decode cX9_nextPart 91 = .ok (.iconst 1, 1) := by decide +kernel
theorem dX9_nextPart_92 : decode cX9_nextPart 92 = .ok (.putfield 40, 3) := by decide +kernel
theorem dX9_nextPart_95 : decode cX9_nextPart 95 = .ok (.aload_n 0, 1) := by decide +kernel
theorem dX9_nextPart_96 : decode cX9_nextPart 96 = .ok (.aload_n 0, 1) := by decide +kernel
theorem dX9_nextPart_97 : decode cX9_nextPart 97 = .ok (.iconst 1, 1) := by decide +kernel
theorem dX9_nextPart_98 : decode cX9_nextPart 98 = .ok (.invokevirtual 70, 3) := by decide +kernel
theorem dX9_nextPart_101 : decode cX9_nextPart 101 = .ok (.putfield 34, 3) := by decide +kernel
theorem dX9_nextPart_104 : decode cX9_nextPart 104 = .ok (.goto 42, 3) := by decide +kernel
theorem dX9_nextPart_107 : decode cX9_nextPart 107 = .ok (.iload_n 1, 1) := by decide +kernel
theorem dX9_nextPart_108 : decode cX9_nextPart 108 = .ok (.invokestatic 74, 3) := by decide +kernel
theorem dX9_nextPart_111 : decode cX9_nextPart 111 = .ok (.ifCond .eq 20, 3) := by decide +kernel
theorem dX9_nextPart_114 : decode cX9_nextPart 114 = .ok (.aload_n 0, 1) := by decide +kernel
theorem dX9_nextPart_115 : decode cX9_nextPart 115 = .ok (.iconst 2, 1) := by decide +kernel
theorem dX9_nextPart_116 : decode cX9_nextPart 116 = .ok (.putfield 40, 3) := by decide +kernel
theorem dX9_nextPart_119 : decode cX9_nextPart 119 = .ok (.aload_n 0, 1) := by decide +kernel
theorem dX9_nextPart_120 : decode cX9_nextPart 120 = .ok (.aload_n 0, 1) := by decide +kernel
theorem dX9_nextPart_121 : decode cX9_nextPart 121 = .ok (.iconst 0, 1) := by decide +kernel
theorem dX9_nextPart_122 : decode cX9_nextPart 122 = .ok (.invokevirtual 70, 3) := by decide +kernel
theorem dX9_nextPart_125 : decode cX9_nextPart 125 = .ok (.putfield 34, 3) := by decide +kernel
theorem dX9_nextPart_128 : decode cX9_nextPart 128 = .ok (.goto 18, 3) := by decide +kernel
theorem dX9_nextPart_131 : decode cX9_nextPart 131 = .ok (.aload_n 0, 1) := by decide +kernel
theorem dX9_nextPart_132 : decode cX9_nextPart 132 = .ok (.iconst 3, 1) := by decide +kernel
theorem dX9_nextPart_133 : decode cX9_nextPart 133 = .ok (.putfield 40, 3) := by decide +kernel
theorem dX9_nextPart_136 : decode cX9_nextPart 136 = .ok (.aload_n 0, 1) := by decide +kernel
theorem dX9_nextPart_137 : decode cX9_nextPart 137 = .ok (.aload_n 0, 1) := by decide +kernel
theorem dX9_nextPart_138 : decode cX9_nextPart 138 = .ok (.getfield 51, 3) := by decide +kernel
theorem dX9_nextPart_141 : decode cX9_nextPart 141 = .ok (.iconst 1, 1) := by decide +kernel
theorem dX9_nextPart_142 : decode cX9_nextPart 142 = .ok (.iadd, 1) := by decide +kernel
theorem dX9_nextPart_143 : decode cX9_nextPart 143 = .ok (.putfield 34, 3) := by decide +kernel
theorem dX9_nextPart_146 : decode cX9_nextPart 146 = .ok (.return_, 1) := by decide +kernel
theorem dX9_endOf_0 : decode cX9_endOf 0 = .ok (.aload_n 0, 1) := by decide +kernel
theorem dX9_endOf_1 : decode cX9_endOf 1 = .ok (.getfield 51, 3) := by decide +kernel
theorem dX9_endOf_4 : decode cX9_endOf 4 = .ok (.istore_n 2, 1) := by decide +kernel
theorem dX9_endOf_5 : decode cX9_endOf 5 = .ok (.iload_n 2, 1) := by decide +kernel
theorem dX9_endOf_6 : decode cX9_endOf 6 = .ok (.aload_n 0, 1) := by decide +kernel
theorem dX9_endOf_7 : decode cX9_endOf 7 = .ok (.getfield 14, 3) := by decide +kernel
theorem dX9_endOf_10 : decode cX9_endOf 10 = .ok (.getfield 64, 3) := by decide +kernel
theorem dX9_endOf_13 : decode cX9_endOf 13 = .ok (.if_icmp .ge 41, 3) := by decide +kernel
theorem dX9_endOf_16 : decode cX9_endOf 16 = .ok (.aload_n 0, 1) := by decide +kernel
theorem dX9_endOf_17 : decode cX9_endOf 17 = .ok (.getfield 14, 3) := by decide +kernel
theorem dX9_endOf_20 : decode cX9_endOf 20 = .ok (.iload_n 2, 1) := by decide +kernel
theorem dX9_endOf_21 : decode cX9_endOf 21 = .ok (.invokevirtual 60, 3) := by decide +kernel
theorem dX9_endOf_24 : decode cX9_endOf 24 = .ok (.istore_n 3, 1) := by decide +kernel
theorem dX9_endOf_25 : decode cX9_endOf 25 = .ok (.iload_n 1, 1) := by decide +kernel
theorem dX9_endOf_26 : decode cX9_endOf 26 = .ok (.ifCond .eq 13, 3) := by decide +kernel
theorem dX9_endOf_29 : decode cX9_endOf 29 = .ok (.iload_n 3, 1) := by decide +kernel
theorem dX9_endOf_30 : decode cX9_endOf 30 = .ok (.invokestatic 67, 3) := by decide +kernel
theorem dX9_endOf_33 : decode cX9_endOf 33 = .ok (.ifCond .eq 13, 3) := by decide +kernel
theorem dX9_endOf_36 : decode cX9_endOf 36 = .ok (.goto 12, 3) := by decide +kernel
theorem dX9_endOf_39 : decode cX9_endOf 39 = .ok (.iload_n 3, 1) := by decide +kernel
theorem dX9_endOf_40 : decode cX9_endOf 40 = .ok (.invokestatic 74, 3) := by decide +kernel
theorem dX9_endOf_43 : decode cX9_endOf 43 = .ok (.ifCond .ne 5, 3) := by decide +kernel
theorem dX9_endOf_46 : decode cX9_endOf 46 = .ok (.iload_n 2, 1) := by decide +kernel
theorem dX9_endOf_47 : decode cX9_endOf 47 = .ok (.ireturn, 1) := by decide +kernel
theorem dX9_endOf_48 : decode cX9_endOf 48 = .ok (.iinc 2 1, 3) := by decide +kernel
theorem dX9_endOf_51 : decode cX9_endOf 51 = .ok (.goto (-46), 3) := by decide +kernel
theorem dX9_endOf_54 : decode cX9_endOf 54 = .ok (.aload_n 0, 1) := by decide +kernel
theorem dX9_endOf_55 : decode cX9_endOf 55 = .ok (.getfield 14, 3) := by decide +kernel
theorem dX9_endOf_58 : decode cX9_endOf 58 = .ok (.getfield 64, 3) := by decide +kernel
theorem dX9_endOf_61 : decode cX9_endOf 61 = .ok (.ireturn, 1) := by decide +kernel
theorem dX9_isLetter_0 : decode cX9_isLetter 0 = .ok (.iload_n 0, 1) := by decide +kernel
theorem dX9_isLetter_1 : decode cX9_isLetter 1 = .ok (.bipush 97, 2) := by decide +kernel
theorem dX9_isLetter_3 : decode cX9_isLetter 3 = .ok (.if_icmp .lt 13, 3) := by decide +kernel
theorem dX9_isLetter_6 : decode cX9_isLetter 6 = .ok (.iload_n 0, 1) := by decide +kernel
theorem dX9_isLetter_7 : decode cX9_isLetter 7 = .ok (.bipush 122, 2) := by decide +kernel
theorem dX9_isLetter_9 : decode cX9_isLetter 9 = .ok (.if_icmp .gt 7, 3) := by decide +kernel
theorem dX9_isLetter_12 : decode cX9_isLetter 12 = .ok (.iconst 1, 1) := by decide +kernel
theorem dX9_isLetter_13 : decode cX9_isLetter 13 = .ok (.goto 4, 3) := by decide +kernel
theorem dX9_isLetter_16 : decode cX9_isLetter 16 = .ok (.iconst 0, 1) := by decide +kernel
theorem dX9_isLetter_17 : decode cX9_isLetter 17 = .ok (.ireturn, 1) := by decide +kernel
theorem dX9_isDigit_0 : decode cX9_isDigit 0 = .ok (.iload_n 0, 1) := by decide +kernel
theorem dX9_isDigit_1 : decode cX9_isDigit 1 = .ok (.bipush 48, 2) := by decide +kernel
theorem dX9_isDigit_3 : decode cX9_isDigit 3 = .ok (.if_icmp .lt 13, 3) := by decide +kernel
theorem dX9_isDigit_6 : decode cX9_isDigit 6 = .ok (.iload_n 0, 1) := by decide +kernel
theorem dX9_isDigit_7 : decode cX9_isDigit 7 = .ok (.bipush 57, 2) := by decide +kernel
theorem dX9_isDigit_9 : decode cX9_isDigit 9 = .ok (.if_icmp .gt 7, 3) := by decide +kernel
theorem dX9_isDigit_12 : decode cX9_isDigit 12 = .ok (.iconst 1, 1) := by decide +kernel
theorem dX9_isDigit_13 : decode cX9_isDigit 13 = .ok (.goto 4, 3) := by decide +kernel
theorem dX9_isDigit_16 : decode cX9_isDigit 16 = .ok (.iconst 0, 1) := by decide +kernel
theorem dX9_isDigit_17 : decode cX9_isDigit 17 = .ok (.ireturn, 1) := by decide +kernel
theorem dX9_sortOfWord_0 : decode cX9_sortOfWord 0 = .ok (.aload_n 0, 1) := by decide +kernel
theorem dX9_sortOfWord_1 : decode cX9_sortOfWord 1 = .ok (.ldc 77, 2) := by decide +kernel
theorem dX9_sortOfWord_3 : decode cX9_sortOfWord 3 = .ok (.invokevirtual 79, 3) := by decide +kernel
theorem dX9_sortOfWord_6 : decode cX9_sortOfWord 6 = .ok (.ifCond .eq 5, 3) := by decide +kernel
theorem dX9_sortOfWord_9 : decode cX9_sortOfWord 9 = .ok (.iconst 0, 1) := by decide +kernel
theorem dX9_sortOfWord_10 : decode cX9_sortOfWord 10 = .ok (.ireturn, 1) := by decide +kernel
theorem dX9_sortOfWord_11 : decode cX9_sortOfWord 11 = .ok (.aload_n 0, 1) := by decide +kernel
theorem dX9_sortOfWord_12 : decode cX9_sortOfWord 12 = .ok (.ldc 83, 2) := by decide +kernel
theorem dX9_sortOfWord_14 : decode cX9_sortOfWord 14 = .ok (.invokevirtual 79, 3) := by decide +kernel
theorem dX9_sortOfWord_17 : decode cX9_sortOfWord 17 = .ok (.ifCond .eq 5, 3) := by decide +kernel
theorem dX9_sortOfWord_20 : decode cX9_sortOfWord 20 = .ok (.iconst 1, 1) := by decide +kernel
theorem dX9_sortOfWord_21 : decode cX9_sortOfWord 21 = .ok (.ireturn, 1) := by decide +kernel
theorem dX9_sortOfWord_22 : decode cX9_sortOfWord 22 = .ok (.aload_n 0, 1) := by decide +kernel
theorem dX9_sortOfWord_23 : decode cX9_sortOfWord 23 = .ok (.ldc 85, 2) := by decide +kernel
theorem dX9_sortOfWord_25 : decode cX9_sortOfWord 25 = .ok (.invokevirtual 79, 3) := by decide +kernel
theorem dX9_sortOfWord_28 : decode cX9_sortOfWord 28 = .ok (.ifCond .eq 5, 3) := by decide +kernel
theorem dX9_sortOfWord_31 : decode cX9_sortOfWord 31 = .ok (.iconst 2, 1) := by decide +kernel
theorem dX9_sortOfWord_32 : decode cX9_sortOfWord 32 = .ok (.ireturn, 1) := by decide +kernel
theorem dX9_sortOfWord_33 : decode cX9_sortOfWord 33 = .ok (.aload_n 0, 1) := by decide +kernel
theorem dX9_sortOfWord_34 : decode cX9_sortOfWord 34 = .ok (.ldc 87, 2) := by decide +kernel
theorem dX9_sortOfWord_36 : decode cX9_sortOfWord 36 = .ok (.invokevirtual 79, 3) := by decide +kernel
theorem dX9_sortOfWord_39 : decode cX9_sortOfWord 39 = .ok (.ifCond .eq 5, 3) := by decide +kernel
theorem dX9_sortOfWord_42 : decode cX9_sortOfWord 42 = .ok (.iconst 3, 1) := by decide +kernel
theorem dX9_sortOfWord_43 : decode cX9_sortOfWord 43 = .ok (.ireturn, 1) := by decide +kernel
theorem dX9_sortOfWord_44 : decode cX9_sortOfWord 44 = .ok (.aload_n 0, 1) := by decide +kernel
theorem dX9_sortOfWord_45 : decode cX9_sortOfWord 45 = .ok (.ldc 89, 2) := by decide +kernel
theorem dX9_sortOfWord_47 : decode cX9_sortOfWord 47 = .ok (.invokevirtual 79, 3) := by decide +kernel
theorem dX9_sortOfWord_50 : decode cX9_sortOfWord 50 = .ok (.ifCond .eq 5, 3) := by decide +kernel
theorem dX9_sortOfWord_53 : decode cX9_sortOfWord 53 = .ok (.iconst 4, 1) := by decide +kernel
theorem dX9_sortOfWord_54 : decode cX9_sortOfWord 54 = .ok (.ireturn, 1) := by decide +kernel
theorem dX9_sortOfWord_55 : decode cX9_sortOfWord 55 = .ok (.aload_n 0, 1) := by decide +kernel
theorem dX9_sortOfWord_56 : decode cX9_sortOfWord 56 = .ok (.ldc 90, 2) := by decide +kernel
theorem dX9_sortOfWord_58 : decode cX9_sortOfWord 58 = .ok (.invokevirtual 79, 3) := by decide +kernel
theorem dX9_sortOfWord_61 : decode cX9_sortOfWord 61 = .ok (.ifCond .eq 7, 3) := by decide +kernel
theorem dX9_sortOfWord_64 : decode cX9_sortOfWord 64 = .ok (.iconst 5, 1) := by decide +kernel
theorem dX9_sortOfWord_65 : decode cX9_sortOfWord 65 = .ok (.goto 4, 3) := by decide +kernel
theorem dX9_sortOfWord_68 : decode cX9_sortOfWord 68 = .ok (.iconst (-1), 1) := by decide +kernel
theorem dX9_sortOfWord_69 : decode cX9_sortOfWord 69 = .ok (.ireturn, 1) := by decide +kernel
theorem dX9_isWord_0 : decode cX9_isWord 0 = .ok (.aload_n 0, 1) := by decide +kernel
theorem dX9_isWord_1 : decode cX9_isWord 1 = .ok (.getfield 40, 3) := by decide +kernel
theorem dX9_isWord_4 : decode cX9_isWord 4 = .ok (.iconst 1, 1) := by decide +kernel
theorem dX9_isWord_5 : decode cX9_isWord 5 = .ok (.if_icmp .ne 19, 3) := by decide +kernel
theorem dX9_isWord_8 : decode cX9_isWord 8 = .ok (.aload_n 0, 1) := by decide +kernel
theorem dX9_isWord_9 : decode cX9_isWord 9 = .ok (.getfield 34, 3) := by decide +kernel
theorem dX9_isWord_12 : decode cX9_isWord 12 = .ok (.aload_n 0, 1) := by decide +kernel
theorem dX9_isWord_13 : decode cX9_isWord 13 = .ok (.getfield 51, 3) := by decide +kernel
theorem dX9_isWord_16 : decode cX9_isWord 16 = .ok (.isub, 1) := by decide +kernel
theorem dX9_isWord_17 : decode cX9_isWord 17 = .ok (.aload_n 1, 1) := by decide +kernel
theorem dX9_isWord_18 : decode cX9_isWord 18 = .ok (.invokevirtual 92, 3) := by decide +kernel
theorem dX9_isWord_21 : decode cX9_isWord 21 = .ok (.if_icmp .eq 5, 3) := by decide +kernel
theorem dX9_isWord_24 : decode cX9_isWord 24 = .ok (.iconst 0, 1) := by decide +kernel
theorem dX9_isWord_25 : decode cX9_isWord 25 = .ok (.ireturn, 1) := by decide +kernel
theorem dX9_isWord_26 : decode cX9_isWord 26 = .ok (.iconst 0, 1) := by decide +kernel
theorem dX9_isWord_27 : decode cX9_isWord 27 = .ok (.istore_n 2, 1) := by decide +kernel
theorem dX9_isWord_28 : decode cX9_isWord 28 = .ok (.iload_n 2, 1) := by decide +kernel
theorem dX9_isWord_29 : decode cX9_isWord 29 = .ok (.aload_n 1, 1) := by decide +kernel
theorem dX9_isWord_30 : decode cX9_isWord 30 = .ok (.invokevirtual 92, 3) := by decide +kernel
theorem dX9_isWord_33 : decode cX9_isWord 33 = .ok (.if_icmp .ge 32, 3) := by decide +kernel
theorem dX9_isWord_36 : decode cX9_isWord 36 = .ok (.aload_n 0, 1) := by decide +kernel
theorem dX9_isWord_37 : decode cX9_isWord 37 = .ok (.getfield 14, 3) := by decide +kernel
theorem dX9_isWord_40 : decode cX9_isWord 40 = .ok (.aload_n 0, 1) := by decide +kernel
theorem dX9_isWord_41 : decode cX9_isWord 41 = .ok (.getfield 51, 3) := by decide +kernel
theorem dX9_isWord_44 : decode cX9_isWord 44 = .ok (.iload_n 2, 1) := by decide +kernel
theorem dX9_isWord_45 : decode cX9_isWord 45 = .ok (.iadd, 1) := by decide +kernel
theorem dX9_isWord_46 : decode cX9_isWord 46 = .ok (.invokevirtual 60, 3) := by decide +kernel
theorem dX9_isWord_49 : decode cX9_isWord 49 = .ok (.aload_n 1, 1) := by decide +kernel
theorem dX9_isWord_50 : decode cX9_isWord 50 = .ok (.iload_n 2, 1) := by decide +kernel
theorem dX9_isWord_51 : decode cX9_isWord 51 = .ok (.invokevirtual 97, 3) := by decide +kernel
theorem dX9_isWord_54 : decode cX9_isWord 54 = .ok (.if_icmp .eq 5, 3) := by decide +kernel
theorem dX9_isWord_57 : decode cX9_isWord 57 = .ok (.iconst 0, 1) := by decide +kernel
theorem dX9_isWord_58 : decode cX9_isWord 58 = .ok (.ireturn, 1) := by decide +kernel
theorem dX9_isWord_59 : decode cX9_isWord 59 = .ok (.iinc 2 1, 3) := by decide +kernel
theorem dX9_isWord_62 : decode cX9_isWord 62 = .ok (.goto (-34), 3) := by decide +kernel
theorem dX9_isWord_65 : decode cX9_isWord 65 = .ok (.iconst 1, 1) := by decide +kernel
theorem dX9_isWord_66 : decode cX9_isWord 66 = .ok (.ireturn, 1) := by decide +kernel
theorem dX9_mayStand_0 : decode cX9_mayStand 0 = .ok (.iload_n 1, 1) := by decide +kernel
theorem dX9_mayStand_1 : decode cX9_mayStand 1 = .ok (.iconst 5, 1) := by decide +kernel
theorem dX9_mayStand_2 : decode cX9_mayStand 2 = .ok (.if_icmp .ne 20, 3) := by decide +kernel
theorem dX9_mayStand_5 : decode cX9_mayStand 5 = .ok (.aload_n 0, 1) := by decide +kernel
theorem dX9_mayStand_6 : decode cX9_mayStand 6 = .ok (.getfield 23, 3) := by decide +kernel
theorem dX9_mayStand_9 : decode cX9_mayStand 9 = .ok (.getfield 57, 3) := by decide +kernel
theorem dX9_mayStand_12 : decode cX9_mayStand 12 = .ok (.iconst 4, 1) := by decide +kernel
theorem dX9_mayStand_13 : decode cX9_mayStand 13 = .ok (.if_icmp .ge 7, 3) := by decide +kernel
theorem dX9_mayStand_16 : decode cX9_mayStand 16 = .ok (.iconst 1, 1) := by decide +kernel
theorem dX9_mayStand_17 : decode cX9_mayStand 17 = .ok (.goto 4, 3) := by decide +kernel
theorem dX9_mayStand_20 : decode cX9_mayStand 20 = .ok (.iconst 0, 1) := by decide +kernel
theorem dX9_mayStand_21 : decode cX9_mayStand 21 = .ok (.ireturn, 1) := by decide +kernel
theorem dX9_mayStand_22 : decode cX9_mayStand 22 = .ok (.iconst 1, 1) := by decide +kernel
theorem dX9_mayStand_23 : decode cX9_mayStand 23 = .ok (.iload_n 1, 1) := by decide +kernel
theorem dX9_mayStand_24 : decode cX9_mayStand 24 = .ok (.ishl, 1) := by decide +kernel
theorem dX9_mayStand_25 : decode cX9_mayStand 25 = .ok (.istore_n 2, 1) := by decide +kernel
theorem dX9_mayStand_26 : decode cX9_mayStand 26 = .ok (.aload_n 0, 1) := by decide +kernel
theorem dX9_mayStand_27 : decode cX9_mayStand 27 = .ok (.getfield 30, 3) := by decide +kernel
theorem dX9_mayStand_30 : decode cX9_mayStand 30 = .ok (.iload_n 2, 1) := by decide +kernel
theorem dX9_mayStand_31 : decode cX9_mayStand 31 = .ok (.iand, 1) := by decide +kernel
theorem dX9_mayStand_32 : decode cX9_mayStand 32 = .ok (.ifCond .ne 7, 3) := by decide +kernel
theorem dX9_mayStand_35 : decode cX9_mayStand 35 = .ok (.iconst 1, 1) := by decide +kernel
theorem dX9_mayStand_36 : decode cX9_mayStand 36 = .ok (.goto 4, 3) := by decide +kernel
theorem dX9_mayStand_39 : decode cX9_mayStand 39 = .ok (.iconst 0, 1) := by decide +kernel
theorem dX9_mayStand_40 : decode cX9_mayStand 40 = .ok (.istore_n 3, 1) := by decide +kernel
theorem dX9_mayStand_41 : decode cX9_mayStand 41 = .ok (.aload_n 0, 1) := by decide +kernel
theorem dX9_mayStand_42 : decode cX9_mayStand 42 = .ok (.dup, 1) := by decide +kernel
theorem dX9_mayStand_43 : decode cX9_mayStand 43 = .ok (.getfield 30, 3) := by decide +kernel
theorem dX9_mayStand_46 : decode cX9_mayStand 46 = .ok (.iload_n 2, 1) := by decide +kernel
theorem dX9_mayStand_47 : decode cX9_mayStand 47 = .ok (.ior, 1) := by decide +kernel
theorem dX9_mayStand_48 : decode cX9_mayStand 48 = .ok (.putfield 30, 3) := by decide +kernel
theorem dX9_mayStand_51 : decode cX9_mayStand 51 = .ok (.iload_n 3, 1) := by decide +kernel
theorem dX9_mayStand_52 : decode cX9_mayStand 52 = .ok (.ireturn, 1) := by decide +kernel
theorem dX9_tell_0 : decode cX9_tell 0 = .ok (.iload_n 1, 1) := by decide +kernel
theorem dX9_tell_1 : decode cX9_tell 1 = .ok (.tableswitch 142 0 4 #[35, 57, 79, 101, 123], 35) := by decide +kernel
theorem dX9_tell_36 : decode cX9_tell 36 = .ok (.aload_n 0, 1) := by decide +kernel
theorem dX9_tell_37 : decode cX9_tell 37 = .ok (.ldc 101, 2) := by decide +kernel
theorem dX9_tell_39 : decode cX9_tell 39 = .ok (.ldc 85, 2) := by decide +kernel
theorem dX9_tell_41 : decode cX9_tell 41 = .ok (.ldc 103, 2) := by decide +kernel
theorem dX9_tell_43 : decode cX9_tell 43 = .ok (.invokevirtual 105, 3) := by decide +kernel
theorem dX9_tell_46 : decode cX9_tell 46 = .ok (.istore_n 2, 1) := by decide +kernel
theorem dX9_tell_47 : decode cX9_tell 47 = .ok (.aload_n 0, 1) := by decide +kernel
theorem dX9_tell_48 : decode cX9_tell 48 = .ok (.getfield 23, 3) := by decide +kernel
theorem dX9_tell_51 : decode cX9_tell 51 = .ok (.iload_n 2, 1) := by decide +kernel
theorem dX9_tell_52 : decode cX9_tell 52 = .ok (.putfield 109, 3) := by decide +kernel
theorem dX9_tell_55 : decode cX9_tell 55 = .ok (.goto 104, 3) := by decide +kernel
theorem dX9_tell_58 : decode cX9_tell 58 = .ok (.aload_n 0, 1) := by decide +kernel
theorem dX9_tell_59 : decode cX9_tell 59 = .ok (.iconst 2, 1) := by decide +kernel
theorem dX9_tell_60 : decode cX9_tell 60 = .ok (.bipush 60, 2) := by decide +kernel
theorem dX9_tell_62 : decode cX9_tell 62 = .ok (.invokevirtual 111, 3) := by decide +kernel
theorem dX9_tell_65 : decode cX9_tell 65 = .ok (.istore_n 2, 1) := by decide +kernel
theorem dX9_tell_66 : decode cX9_tell 66 = .ok (.aload_n 0, 1) := by decide +kernel
theorem dX9_tell_67 : decode cX9_tell 67 = .ok (.getfield 23, 3) := by decide +kernel
theorem dX9_tell_70 : decode cX9_tell 70 = .ok (.getfield 115, 3) := by decide +kernel
theorem dX9_tell_73 : decode cX9_tell 73 = .ok (.iload_n 2, 1) := by decide +kernel
theorem dX9_tell_74 : decode cX9_tell 74 = .ok (.putfield 119, 3) := by decide +kernel
theorem dX9_tell_77 : decode cX9_tell 77 = .ok (.goto 82, 3) := by decide +kernel
theorem dX9_tell_80 : decode cX9_tell 80 = .ok (.aload_n 0, 1) := by decide +kernel
theorem dX9_tell_81 : decode cX9_tell 81 = .ok (.iconst 1, 1) := by decide +kernel
theorem dX9_tell_82 : decode cX9_tell 82 = .ok (.bipush 30, 2) := by decide +kernel
theorem dX9_tell_84 : decode cX9_tell 84 = .ok (.invokevirtual 111, 3) := by decide +kernel
theorem dX9_tell_87 : decode cX9_tell 87 = .ok (.istore_n 2, 1) := by decide +kernel
theorem dX9_tell_88 : decode cX9_tell 88 = .ok (.aload_n 0, 1) := by decide +kernel
theorem dX9_tell_89 : decode cX9_tell 89 = .ok (.getfield 23, 3) := by decide +kernel
theorem dX9_tell_92 : decode cX9_tell 92 = .ok (.getfield 115, 3) := by decide +kernel
theorem dX9_tell_95 : decode cX9_tell 95 = .ok (.iload_n 2, 1) := by decide +kernel
theorem dX9_tell_96 : decode cX9_tell 96 = .ok (.putfield 123, 3) := by decide +kernel
theorem dX9_tell_99 : decode cX9_tell 99 = .ok (.goto 60, 3) := by decide +kernel
theorem dX9_tell_102 : decode cX9_tell 102 = .ok (.aload_n 0, 1) := by decide +kernel
theorem dX9_tell_103 : decode cX9_tell 103 = .ok (.ldc 125, 2) := by decide +kernel
theorem dX9_tell_105 : decode cX9_tell 105 = .ok (.ldc 127, 2) := by decide +kernel
theorem dX9_tell_107 : decode cX9_tell 107 = .ok (.ldc 129, 2) := by decide +kernel
theorem dX9_tell_109 : decode cX9_tell 109 = .ok (.invokevirtual 105, 3) := by decide +kernel
theorem dX9_tell_112 : decode cX9_tell 112 = .ok (.istore_n 2, 1) := by decide +kernel
theorem dX9_tell_113 : decode cX9_tell 113 = .ok (.aload_n 0, 1) := by decide +kernel
theorem dX9_tell_114 : decode cX9_tell 114 = .ok (.getfield 23, 3) := by decide +kernel
theorem dX9_tell_117 : decode cX9_tell 117 = .ok (.iload_n 2, 1) := by decide +kernel
theorem dX9_tell_118 : decode cX9_tell 118 = .ok (.putfield 131, 3) := by decide +kernel
theorem dX9_tell_121 : decode cX9_tell 121 = .ok (.goto 38, 3) := by decide +kernel
theorem dX9_tell_124 : decode cX9_tell 124 = .ok (.aload_n 0, 1) := by decide +kernel
theorem dX9_tell_125 : decode cX9_tell 125 = .ok (.iconst 1, 1) := by decide +kernel
theorem dX9_tell_126 : decode cX9_tell 126 = .ok (.bipush 60, 2) := by decide +kernel
theorem dX9_tell_128 : decode cX9_tell 128 = .ok (.invokevirtual 111, 3) := by decide +kernel
theorem dX9_tell_131 : decode cX9_tell 131 = .ok (.istore_n 2, 1) := by decide +kernel
theorem dX9_tell_132 : decode cX9_tell 132 = .ok (.aload_n 0, 1) := by decide +kernel
theorem dX9_tell_133 : decode cX9_tell 133 = .ok (.getfield 23, 3) := by decide +kernel
theorem dX9_tell_136 : decode cX9_tell 136 = .ok (.iload_n 2, 1) := by decide +kernel
theorem dX9_tell_137 : decode cX9_tell 137 = .ok (.putfield 133, 3) := by decide +kernel
theorem dX9_tell_140 : decode cX9_tell 140 = .ok (.goto 19, 3) := by decide +kernel
theorem dX9_tell_143 : decode cX9_tell 143 = .ok (.aload_n 0, 1) := by decide +kernel
theorem dX9_tell_144 : decode cX9_tell 144 = .ok (.iconst 1, 1) := by decide +kernel
theorem dX9_tell_145 : decode cX9_tell 145 = .ok (.bipush 8, 2) := by decide +kernel
theorem dX9_tell_147 : decode cX9_tell 147 = .ok (.invokevirtual 111, 3) := by decide +kernel
theorem dX9_tell_150 : decode cX9_tell 150 = .ok (.istore_n 2, 1) := by decide +kernel
theorem dX9_tell_151 : decode cX9_tell 151 = .ok (.aload_n 0, 1) := by decide +kernel
theorem dX9_tell_152 : decode cX9_tell 152 = .ok (.getfield 23, 3) := by decide +kernel
theorem dX9_tell_155 : decode cX9_tell 155 = .ok (.iload_n 2, 1) := by decide +kernel
theorem dX9_tell_156 : decode cX9_tell 156 = .ok (.invokevirtual 134, 3) := by decide +kernel
theorem dX9_tell_159 : decode cX9_tell 159 = .ok (.iload_n 2, 1) := by decide +kernel
theorem dX9_tell_160 : decode cX9_tell 160 = .ok (.iconst (-1), 1) := by decide +kernel
theorem dX9_tell_161 : decode cX9_tell 161 = .ok (.if_icmp .eq 7, 3) := by decide +kernel
theorem dX9_tell_164 : decode cX9_tell 164 = .ok (.iconst 1, 1) := by decide +kernel
theorem dX9_tell_165 : decode cX9_tell 165 = .ok (.goto 4, 3) := by decide +kernel
theorem dX9_tell_168 : decode cX9_tell 168 = .ok (.iconst 0, 1) := by decide +kernel
theorem dX9_tell_169 : decode cX9_tell 169 = .ok (.ireturn, 1) := by decide +kernel
theorem dX9_choice_0 : decode cX9_choice 0 = .ok (.aload_n 0, 1) := by decide +kernel
theorem dX9_choice_1 : decode cX9_choice 1 = .ok (.aload_n 1, 1) := by decide +kernel
theorem dX9_choice_2 : decode cX9_choice 2 = .ok (.invokevirtual 79, 3) := by decide +kernel
theorem dX9_choice_5 : decode cX9_choice 5 = .ok (.ifCond .eq 5, 3) := by decide +kernel
theorem dX9_choice_8 : decode cX9_choice 8 = .ok (.iconst 0, 1) := by decide +kernel
theorem dX9_choice_9 : decode cX9_choice 9 = .ok (.ireturn, 1) := by decide +kernel
theorem dX9_choice_10 : decode cX9_choice 10 = .ok (.aload_n 0, 1) := by decide +kernel
theorem dX9_choice_11 : decode cX9_choice 11 = .ok (.aload_n 2, 1) := by decide +kernel
theorem dX9_choice_12 : decode cX9_choice 12 = .ok (.invokevirtual 79, 3) := by decide +kernel
theorem dX9_choice_15 : decode cX9_choice 15 = .ok (.ifCond .eq 5, 3) := by decide +kernel
theorem dX9_choice_18 : decode cX9_choice 18 = .ok (.iconst 1, 1) := by decide +kernel
theorem dX9_choice_19 : decode cX9_choice 19 = .ok (.ireturn, 1) := by decide +kernel
theorem dX9_choice_20 : decode cX9_choice 20 = .ok (.aload_n 0, 1) := by decide +kernel
theorem dX9_choice_21 : decode cX9_choice 21 = .ok (.aload_n 3, 1) := by decide +kernel
theorem dX9_choice_22 : decode cX9_choice 22 = .ok (.invokevirtual 79, 3) := by decide +kernel
theorem dX9_choice_25 : decode cX9_choice 25 = .ok (.ifCond .eq 7, 3) := by decide +kernel
theorem dX9_choice_28 : decode cX9_choice 28 = .ok (.iconst 2, 1) := by decide +kernel
theorem dX9_choice_29 : decode cX9_choice 29 = .ok (.goto 4, 3) := by decide +kernel
theorem dX9_choice_32 : decode cX9_choice 32 = .ok (.iconst (-1), 1) := by decide +kernel
theorem dX9_choice_33 : decode cX9_choice 33 = .ok (.ireturn, 1) := by decide +kernel
theorem dX9_number_0 : decode cX9_number 0 = .ok (.aload_n 0, 1) := by decide +kernel
theorem dX9_number_1 : decode cX9_number 1 = .ok (.getfield 40, 3) := by decide +kernel
theorem dX9_number_4 : decode cX9_number 4 = .ok (.iconst 2, 1) := by decide +kernel
theorem dX9_number_5 : decode cX9_number 5 = .ok (.if_icmp .ne 16, 3) := by decide +kernel
theorem dX9_number_8 : decode cX9_number 8 = .ok (.aload_n 0, 1) := by decide +kernel
theorem dX9_number_9 : decode cX9_number 9 = .ok (.getfield 34, 3) := by decide +kernel
theorem dX9_number_12 : decode cX9_number 12 = .ok (.aload_n 0, 1) := by decide +kernel
theorem dX9_number_13 : decode cX9_number 13 = .ok (.getfield 51, 3) := by decide +kernel
theorem dX9_number_16 : decode cX9_number 16 = .ok (.isub, 1) := by decide +kernel
theorem dX9_number_17 : decode cX9_number 17 = .ok (.iconst 2, 1) := by decide +kernel
theorem dX9_number_18 : decode cX9_number 18 = .ok (.if_icmp .le 5, 3) := by decide +kernel
theorem dX9_number_21 : decode cX9_number 21 = .ok (.iconst (-1), 1) := by decide +kernel
theorem dX9_number_22 : decode cX9_number 22 = .ok (.ireturn, 1) := by decide +kernel
theorem dX9_number_23 : decode cX9_number 23 = .ok (.iconst 0, 1) := by decide +kernel
theorem dX9_number_24 : decode cX9_number 24 = .ok (.istore_n 3, 1) := by decide +kernel
theorem dX9_number_25 : decode cX9_number 25 = .ok (.aload_n 0, 1) := by decide +kernel
theorem dX9_number_26 : decode cX9_number 26 = .ok (.getfield 51, 3) := by decide +kernel
theorem dX9_number_29 : decode cX9_number 29 = .ok (.istore 4, 2) := by decide +kernel
theorem dX9_number_31 : decode cX9_number 31 = .ok (.iload 4, 2) := by decide +kernel
theorem dX9_number_33 : decode cX9_number 33 = .ok (.aload_n 0, 1) := by decide +kernel
theorem dX9_number_34 : decode cX9_number 34 = .ok (.getfield 34, 3) := by decide +kernel
theorem dX9_number_37 : decode cX9_number 37 = .ok (.if_icmp .ge 27, 3) := by decide +kernel
theorem dX9_number_40 : decode cX9_number 40 = .ok (.bipush 10, 2) := by decide +kernel
theorem dX9_number_42 : decode cX9_number 42 = .ok (.iload_n 3, 1) := by decide +kernel
theorem dX9_number_43 : decode cX9_number 43 = .ok (.imul, 1) := by decide +kernel
theorem dX9_number_44 : decode cX9_number 44 = .ok (.aload_n 0, 1) := by decide +kernel
theorem dX9_number_45 : decode cX9_number 45 = .ok (.getfield 14, 3) := by decide +kernel
theorem dX9_number_48 : decode cX9_number 48 = .ok (.iload 4, 2) := by decide +kernel
theorem dX9_number_50 : decode cX9_number 50 = .ok (.invokevirtual 60, 3) := by decide +kernel
theorem dX9_number_53 : decode cX9_number 53 = .ok (.iadd, 1) := by decide +kernel
theorem dX9_number_54 : decode cX9_number 54 = .ok (.bipush 48, 2) := by decide +kernel
theorem dX9_number_56 : decode cX9_number 56 = .ok (.isub, 1) := by decide +kernel
theorem dX9_number_57 : decode cX9_number 57 = .ok (.istore_n 3, 1) := by decide +kernel
theorem dX9_number_58 : decode cX9_number 58 = .ok (.iinc 4 1, 3) := by decide +kernel
theorem dX9_number_61 : decode cX9_number 61 = .ok (.goto (-30), 3) := by decide +kernel
theorem dX9_number_64 : decode cX9_number 64 = .ok (.iload_n 3, 1) := by decide +kernel
theorem dX9_number_65 : decode cX9_number 65 = .ok (.iload_n 1, 1) := by decide +kernel
theorem dX9_number_66 : decode cX9_number 66 = .ok (.if_icmp .lt 12, 3) := by decide +kernel
theorem dX9_number_69 : decode cX9_number 69 = .ok (.iload_n 3, 1) := by decide +kernel
theorem dX9_number_70 : decode cX9_number 70 = .ok (.iload_n 2, 1) := by decide +kernel
theorem dX9_number_71 : decode cX9_number 71 = .ok (.if_icmp .gt 7, 3) := by decide +kernel
theorem dX9_number_74 : decode cX9_number 74 = .ok (.iload_n 3, 1) := by decide +kernel
theorem dX9_number_75 : decode cX9_number 75 = .ok (.goto 4, 3) := by decide +kernel
theorem dX9_number_78 : decode cX9_number 78 = .ok (.iconst (-1), 1) := by decide +kernel
theorem dX9_number_79 : decode cX9_number 79 = .ok (.ireturn, 1) := by decide +kernel
theorem dX10_init_0 : decode cX10_init 0 = .ok (.aload_n 0, 1) := by decide +kernel
theorem dX10_init_1 : decode cX10_init 1 = .ok (.invokespecial 1, 3) := by decide +kernel
theorem dX10_init_4 : decode cX10_init 4 = .ok (.return_, 1) := by decide +kernel
theorem dX10_begin_0 : decode cX10_begin 0 = .ok (.aload_n 0, 1) := by decide +kernel
theorem dX10_begin_1 : decode cX10_begin 1 = .ok (.iconst 0, 1) := by decide +kernel
theorem dX10_begin_2 : decode cX10_begin 2 = .ok (.putfield 7, 3) := by decide +kernel
theorem dX10_begin_5 : decode cX10_begin 5 = .ok (.aload_n 0, 1) := by decide +kernel
theorem dX10_begin_6 : decode cX10_begin 6 = .ok (.iconst 0, 1) := by decide +kernel
theorem dX10_begin_7 : decode cX10_begin 7 = .ok (.putfield 13, 3) := by decide +kernel
theorem dX10_begin_10 : decode cX10_begin 10 = .ok (.aload_n 0, 1) := by decide +kernel
theorem dX10_begin_11 : decode cX10_begin 11 = .ok (.iconst 0, 1) := by decide +kernel
theorem dX10_begin_12 : decode cX10_begin 12 = .ok (.putfield 16, 3) := by decide +kernel
theorem dX10_begin_15 : decode cX10_begin 15 = .ok (.return_, 1) := by decide +kernel
theorem dX10_step_0 : decode cX10_step 0 = .ok (.aload_n 0, 1) := by decide +kernel
theorem dX10_step_1 : decode cX10_step 1 = .ok (.getfield 16, 3) := by decide +kernel
theorem dX10_step_4 : decode cX10_step 4 = .ok (.istore_n 2, 1) := by decide +kernel
theorem dX10_step_5 : decode cX10_step 5 = .ok (.iload_n 2, 1) := by decide +kernel
theorem dX10_step_6 : decode cX10_step 6 = .ok (.istore_n 3, 1) := by decide +kernel
theorem dX10_step_7 : decode cX10_step 7 = .ok (.iload_n 3, 1) := by decide +kernel
theorem dX10_step_8 : decode cX10_step 8 = .ok (.aload_n 1, 1) := by decide +kernel
theorem dX10_step_9 : decode cX10_step 9 = .ok (.getfield 19, 3) := by decide +kernel
theorem dX10_step_12 : decode cX10_step 12 = .ok (.if_icmp .ge 47, 3) := by decide +kernel
theorem dX10_step_15 : decode cX10_step 15 = .ok (.aload_n 1, 1) := by decide +kernel
theorem dX10_step_16 : decode cX10_step 16 = .ok (.iload_n 3, 1) := by decide +kernel
theorem dX10_step_17 : decode cX10_step 17 = .ok (.invokevirtual 24, 3) := by decide +kernel
theorem dX10_step_20 : decode cX10_step 20 = .ok (.ifCond .ne 33, 3) := by decide +kernel
theorem dX10_step_23 : decode cX10_step 23 = .ok (.aload_n 0, 1) := by decide +kernel
theorem dX10_step_24 : decode cX10_step 24 = .ok (.iload_n 3, 1) := by decide +kernel
theorem dX10_step_25 : decode cX10_step 25 = .ok (.iconst 1, 1) := by decide +kernel
theorem dX10_step_26 : decode cX10_step 26 = .ok (.iadd, 1) := by decide +kernel
theorem dX10_step_27 : decode cX10_step 27 = .ok (.putfield 16, 3) := by decide +kernel
theorem dX10_step_30 : decode cX10_step 30 = .ok (.iload_n 3, 1) := by decide +kernel
theorem dX10_step_31 : decode cX10_step 31 = .ok (.iload_n 2, 1) := by decide +kernel
theorem dX10_step_32 : decode cX10_step 32 = .ok (.if_icmp .le 17, 3) := by decide +kernel
theorem dX10_step_35 : decode cX10_step 35 = .ok (.aload_n 0, 1) := by decide +kernel
theorem dX10_step_36 : decode cX10_step 36 = .ok (.iload_n 2, 1) := by decide +kernel
theorem dX10_step_37 : decode cX10_step 37 = .ok (.putfield 7, 3) := by decide +kernel
theorem dX10_step_40 : decode cX10_step 40 = .ok (.aload_n 0, 1) := by decide +kernel
theorem dX10_step_41 : decode cX10_step 41 = .ok (.iload_n 3, 1) := by decide +kernel
theorem dX10_step_42 : decode cX10_step 42 = .ok (.iload_n 2, 1) := by decide +kernel
theorem dX10_step_43 : decode cX10_step 43 = .ok (.isub, 1) := by decide +kernel
theorem dX10_step_44 : decode cX10_step 44 = .ok (.putfield 13, 3) := by decide +kernel
theorem dX10_step_47 : decode cX10_step 47 = .ok (.iconst 1, 1) := by decide +kernel
theorem dX10_step_48 : decode cX10_step 48 = .ok (.ireturn, 1) := by decide +kernel
theorem dX10_step_49 : decode cX10_step 49 = .ok (.iload_n 3, 1) := by decide +kernel
theorem dX10_step_50 : decode cX10_step 50 = .ok (.iconst 1, 1) := by decide +kernel
theorem dX10_step_51 : decode cX10_step 51 = .ok (.iadd, 1) := by decide +kernel
theorem dX10_step_52 : decode cX10_step 52 = .ok (.istore_n 2, 1) := by decide +kernel
theorem dX10_step_53 : decode cX10_step 53 = .ok (.iinc 3 1, 3) := by decide +kernel
theorem dX10_step_56 : decode cX10_step 56 = .ok (.goto (-49), 3) := by decide +kernel
theorem dX10_step_59 : decode cX10_step 59 = .ok (.aload_n 0, 1) := by decide +kernel
theorem dX10_step_60 : decode cX10_step 60 = .ok (.aload_n 1, 1) := by decide +kernel
theorem dX10_step_61 : decode cX10_step 61 = .ok (.getfield 19, 3) := by decide +kernel
theorem dX10_step_64 : decode cX10_step 64 = .ok (.putfield 16, 3) := by decide +kernel
theorem dX10_step_67 : decode cX10_step 67 = .ok (.iconst 0, 1) := by decide +kernel
theorem dX10_step_68 : decode cX10_step 68 = .ok (.ireturn, 1) := by decide +kernel
theorem dX10_find_0 : decode cX10_find 0 = .ok (.iload_n 2, 1) := by decide +kernel
theorem dX10_find_1 : decode cX10_find 1 = .ok (.ifCond .lt 11, 3) := by decide +kernel
theorem dX10_find_4 : decode cX10_find 4 = .ok (.iload_n 2, 1) := by decide +kernel
theorem dX10_find_5 : decode cX10_find 5 = .ok (.aload_n 1, 1) := by decide +kernel
theorem dX10_find_6 : decode cX10_find 6 = .ok (.getfield 19, 3) := by decide +kernel
theorem dX10_find_9 : decode cX10_find 9 = .ok (.if_icmp .lt 5, 3) := by decide +kernel
theorem dX10_find_12 : decode cX10_find 12 = .ok (.iconst 0, 1) := by decide +kernel
theorem dX10_find_13 : decode cX10_find 13 = .ok (.ireturn, 1) := by decide +kernel
theorem dX10_find_14 : decode cX10_find 14 = .ok (.aload_n 0, 1) := by decide +kernel
theorem dX10_find_15 : decode cX10_find 15 = .ok (.invokevirtual 28, 3) := by decide +kernel
theorem dX10_find_18 : decode cX10_find 18 = .ok (.iconst 1, 1) := by decide +kernel
theorem dX10_find_19 : decode cX10_find 19 = .ok (.istore_n 3, 1) := by decide +kernel
theorem dX10_find_20 : decode cX10_find 20 = .ok (.iconst 0, 1) := by decide +kernel
theorem dX10_find_21 : decode cX10_find 21 = .ok (.istore 4, 2) := by decide +kernel
theorem dX10_find_23 : decode cX10_find 23 = .ok (.iload_n 3, 1) := by decide +kernel
theorem dX10_find_24 : decode cX10_find 24 = .ok (.ifCond .eq 21, 3) := by decide +kernel
theorem dX10_find_27 : decode cX10_find 27 = .ok (.iload 4, 2) := by decide +kernel
theorem dX10_find_29 : decode cX10_find 29 = .ok (.iload_n 2, 1) := by decide +kernel
theorem dX10_find_30 : decode cX10_find 30 = .ok (.if_icmp .gt 15, 3) := by decide +kernel
theorem dX10_find_33 : decode cX10_find 33 = .ok (.aload_n 0, 1) := by decide +kernel
theorem dX10_find_34 : decode cX10_find 34 = .ok (.aload_n 1, 1) := by decide +kernel
theorem dX10_find_35 : decode cX10_find 35 = .ok (.invokevirtual 31, 3) := by decide +kernel
theorem dX10_find_38 : decode cX10_find 38 = .ok (.istore_n 3, 1) := by decide +kernel
theorem dX10_find_39 : decode cX10_find 39 = .ok (.iinc 4 1, 3) := by decide +kernel
theorem dX10_find_42 : decode cX10_find 42 = .ok (.goto (-19), 3) := by decide +kernel
theorem dX10_find_45 : decode cX10_find 45 = .ok (.iload_n 3, 1) := by decide +kernel
theorem dX10_find_46 : decode cX10_find 46 = .ok (.ireturn, 1) := by decide +kernel
theorem dX11_init_0 : decode cX11_init 0 = .ok (.aload_n 0, 1) := by decide +kernel
theorem dX11_init_1 : decode cX11_init 1 = .ok (.invokespecial 3, 3) := by decide +kernel
theorem dX11_init_4 : decode cX11_init 4 = .ok (.aload_n 0, 1) := by decide +kernel
theorem dX11_init_5 : decode cX11_init 5 = .ok (.new 9, 3) := by decide +kernel
theorem dX11_init_8 : decode cX11_init 8 = .ok (.dup, 1) := by decide +kernel
theorem dX11_init_9 : decode cX11_init 9 = .ok (.invokespecial 11, 3) := by decide +kernel
theorem dX11_init_12 : decode cX11_init 12 = .ok (.putfield 12, 3) := by decide +kernel
theorem dX11_init_15 : decode cX11_init 15 = .ok (.aload_n 0, 1) := by decide +kernel
theorem dX11_init_16 : decode cX11_init 16 = .ok (.new 16, 3) := by decide +kernel
theorem dX11_init_19 : decode cX11_init 19 = .ok (.dup, 1) := by decide +kernel
theorem dX11_init_20 : decode cX11_init 20 = .ok (.sipush 600, 3) := by decide +kernel
theorem dX11_init_23 : decode cX11_init 23 = .ok (.invokespecial 18, 3) := by decide +kernel
theorem dX11_init_26 : decode cX11_init 26 = .ok (.putfield 21, 3) := by decide +kernel
theorem dX11_init_29 : decode cX11_init 29 = .ok (.aload_n 0, 1) := by decide +kernel
theorem dX11_init_30 : decode cX11_init 30 = .ok (.new 16, 3) := by decide +kernel
theorem dX11_init_33 : decode cX11_init 33 = .ok (.dup, 1) := by decide +kernel
theorem dX11_init_34 : decode cX11_init 34 = .ok (.bipush 120, 2) := by decide +kernel
theorem dX11_init_36 : decode cX11_init 36 = .ok (.invokespecial 18, 3) := by decide +kernel
theorem dX11_init_39 : decode cX11_init 39 = .ok (.putfield 25, 3) := by decide +kernel
theorem dX11_init_42 : decode cX11_init 42 = .ok (.aload_n 0, 1) := by decide +kernel
theorem dX11_init_43 : decode cX11_init 43 = .ok (.new 28, 3) := by decide +kernel
theorem dX11_init_46 : decode cX11_init 46 = .ok (.dup, 1) := by decide +kernel
theorem dX11_init_47 : decode cX11_init 47 = .ok (.invokespecial 30, 3) := by decide +kernel
theorem dX11_init_50 : decode cX11_init 50 = .ok (.putfield 31, 3) := by decide +kernel
theorem dX11_init_53 : decode cX11_init 53 = .ok (.aload_n 0, 1) := by decide +kernel
theorem dX11_init_54 : decode cX11_init 54 = .ok (.new 35, 3) := by decide +kernel
theorem dX11_init_57 : decode cX11_init 57 = .ok (.dup, 1) := by decide +kernel
theorem dX11_init_58 : decode cX11_init 58 = .ok (.invokespecial 37, 3) := by decide +kernel
theorem dX11_init_61 : decode cX11_init 61 = .ok (.putfield 38, 3) := by decide +kernel
theorem dX11_init_64 : decode cX11_init 64 = .ok (.aload_n 0, 1) := by decide +kernel
theorem dX11_init_65 : decode cX11_init 65 = .ok (.new 42, 3) := by decide +kernel
theorem dX11_init_68 : decode cX11_init 68 = .ok (.dup, 1) := by decide +kernel
theorem dX11_init_69 : decode cX11_init 69 = .ok (.invokespecial 44, 3) := by decide +kernel
theorem dX11_init_72 : decode cX11_init 72 = .ok (.putfield 45, 3) := by decide +kernel
theorem dX11_init_75 : decode cX11_init 75 = .ok (.aload_n 0, 1) := by decide +kernel
theorem dX11_init_76 : decode cX11_init 76 = .ok (.new 49, 3) := by decide +kernel
theorem dX11_init_79 : decode cX11_init 79 = .ok (.dup, 1) := by decide +kernel
theorem dX11_init_80 : decode cX11_init 80 = .ok (.invokespecial 51, 3) := by decide +kernel
theorem dX11_init_83 : decode cX11_init 83 = .ok (.putfield 52, 3) := by decide +kernel
theorem dX11_init_86 : decode cX11_init 86 = .ok (.aload_n 0, 1) := by decide +kernel
theorem dX11_init_87 : decode cX11_init 87 = .ok (.new 56, 3) := by decide +kernel
theorem dX11_init_90 : decode cX11_init 90 = .ok (.dup, 1) := by decide +kernel
theorem dX11_init_91 : decode cX11_init 91 = .ok (.invokespecial 58, 3) := by decide +kernel
theorem dX11_init_94 : decode cX11_init 94 = .ok (.putfield 59, 3) := by decide +kernel
theorem dX11_init_97 : decode cX11_init 97 = .ok (.aload_n 0, 1) := by decide +kernel
theorem dX11_init_98 : decode cX11_init 98 = .ok (.new 56, 3) := by decide +kernel
theorem dX11_init_101 : decode cX11_init 101 = .ok (.dup, 1) := by decide +kernel
theorem dX11_init_102 : decode cX11_init 102 = .ok (.invokespecial 58, 3) := by decide +kernel
theorem dX11_init_105 : decode cX11_init 105 = .ok (.putfield 63, 3) := by decide +kernel
theorem dX11_init_108 : decode cX11_init 108 = .ok (.aload_n 0, 1) := by decide +kernel
theorem dX11_init_109 : decode cX11_init 109 = .ok (.iconst 4, 1) := by decide +kernel
theorem dX11_init_110 : decode cX11_init 110 = .ok (.newarray .int, 2) := by decide +kernel
theorem dX11_init_112 : decode cX11_init 112 = .ok (.putfield 66, 3) := by decide +kernel
theorem dX11_init_115 : decode cX11_init 115 = .ok (.aload_n 0, 1) := by decide +kernel
theorem dX11_init_116 : decode cX11_init 116 = .ok (.new 56, 3) := by decide +kernel
theorem dX11_init_119 : decode cX11_init 119 = .ok (.dup, 1) := by decide +kernel
theorem dX11_init_120 : decode cX11_init 120 = .ok (.invokespecial 58, 3) := by decide +kernel
theorem dX11_init_123 : decode cX11_init 123 = .ok (.putfield 70, 3) := by decide +kernel
theorem dX11_init_126 : decode cX11_init 126 = .ok (.return_, 1) := by decide +kernel
theorem dX11_feed_0 : decode cX11_feed 0 = .ok (.aload_n 0, 1) := by decide +kernel
theorem dX11_feed_1 : decode cX11_feed 1 = .ok (.getfield 12, 3) := by decide +kernel
theorem dX11_feed_4 : decode cX11_feed 4 = .ok (.getfield 73, 3) := by decide +kernel
theorem dX11_feed_7 : decode cX11_feed 7 = .ok (.getfield 76, 3) := by decide +kernel
theorem dX11_feed_10 : decode cX11_feed 10 = .ok (.bipush 20, 2) := by decide +kernel
theorem dX11_feed_12 : decode cX11_feed 12 = .ok (.iadd, 1) := by decide +kernel
theorem dX11_feed_13 : decode cX11_feed 13 = .ok (.sipush 300, 3) := by decide +kernel
theorem dX11_feed_16 : decode cX11_feed 16 = .ok (.if_icmp .le 5, 3) := by decide +kernel
theorem dX11_feed_19 : decode cX11_feed 19 = .ok (.iconst (-1), 1) := by decide +kernel
theorem dX11_feed_20 : decode cX11_feed 20 = .ok (.ireturn, 1) := by decide +kernel
theorem dX11_feed_21 : decode cX11_feed 21 = .ok (.aload_n 0, 1) := by decide +kernel
theorem dX11_feed_22 : decode cX11_feed 22 = .ok (.iload_n 1, 1) := by decide +kernel
theorem dX11_feed_23 : decode cX11_feed 23 = .ok (.invokevirtual 80, 3) := by decide +kernel
theorem dX11_feed_26 : decode cX11_feed 26 = .ok (.aload_n 0, 1) := by decide +kernel
theorem dX11_feed_27 : decode cX11_feed 27 = .ok (.iload_n 2, 1) := by decide +kernel
theorem dX11_feed_28 : decode cX11_feed 28 = .ok (.invokevirtual 80, 3) := by decide +kernel
theorem dX11_feed_31 : decode cX11_feed 31 = .ok (.aload_n 0, 1) := by decide +kernel
theorem dX11_feed_32 : decode cX11_feed 32 = .ok (.iload_n 3, 1) := by decide +kernel
theorem dX11_feed_33 : decode cX11_feed 33 = .ok (.invokevirtual 80, 3) := by decide +kernel
theorem dX11_feed_36 : decode cX11_feed 36 = .ok (.aload_n 0, 1) := by decide +kernel
theorem dX11_feed_37 : decode cX11_feed 37 = .ok (.iload 4, 2) := by decide +kernel
theorem dX11_feed_39 : decode cX11_feed 39 = .ok (.invokevirtual 80, 3) := by decide +kernel
theorem dX11_feed_42 : decode cX11_feed 42 = .ok (.aload_n 0, 1) := by decide +kernel
theorem dX11_feed_43 : decode cX11_feed 43 = .ok (.iload 5, 2) := by decide +kernel
theorem dX11_feed_45 : decode cX11_feed 45 = .ok (.invokevirtual 80, 3) := by decide +kernel
theorem dX11_feed_48 : decode cX11_feed 48 = .ok (.aload_n 0, 1) := by decide +kernel
theorem dX11_feed_49 : decode cX11_feed 49 = .ok (.getfield 12, 3) := by decide +kernel
theorem dX11_feed_52 : decode cX11_feed 52 = .ok (.getfield 73, 3) := by decide +kernel
theorem dX11_feed_55 : decode cX11_feed 55 = .ok (.getfield 76, 3) := by decide +kernel
theorem dX11_feed_58 : decode cX11_feed 58 = .ok (.ireturn, 1) := by decide +kernel
theorem dX11_addFour_0 : decode cX11_addFour 0 = .ok (.bipush 24, 2) := by decide +kernel
theorem dX11_addFour_2 : decode cX11_addFour 2 = .ok (.istore_n 2, 1) := by decide +kernel
theorem dX11_addFour_3 : decode cX11_addFour 3 = .ok (.iload_n 2, 1) := by decide +kernel
theorem dX11_addFour_4 : decode cX11_addFour 4 = .ok (.ifCond .lt 26, 3) := by decide +kernel
theorem dX11_addFour_7 : decode cX11_addFour 7 = .ok (.aload_n 0, 1) := by decide +kernel
theorem dX11_addFour_8 : decode cX11_addFour 8 = .ok (.getfield 12, 3) := by decide +kernel
theorem dX11_addFour_11 : decode cX11_addFour 11 = .ok (.getfield 73, 3) := by decide +kernel
theorem dX11_addFour_14 : decode cX11_addFour 14 = .ok (.iload_n 1, 1) := by decide +kernel
theorem dX11_addFour_15 : decode cX11_addFour 15 = .ok (.iload_n 2, 1) := by decide +kernel
theorem dX11_addFour_16 : decode cX11_addFour 16 = .ok (.iushr, 1) := by decide +kernel
theorem dX11_addFour_17 : decode cX11_addFour 17 = .ok (.sipush 255, 3) := by decide +kernel
theorem dX11_addFour_20 : decode cX11_addFour 20 = .ok (.iand, 1) := by decide +kernel
theorem dX11_addFour_21 : decode cX11_addFour 21 = .ok (.invokevirtual 83, 3) := by decide +kernel
theorem dX11_addFour_24 : decode cX11_addFour 24 = .ok (.iinc 2 (-8), 3) := by decide +kernel
theorem dX11_addFour_27 : decode cX11_addFour 27 = .ok (.goto (-24), 3) := by decide +kernel
theorem dX11_addFour_30 : decode cX11_addFour 30 = .ok (.return_, 1) := by decide +kernel
theorem dX11_end_0 : decode cX11_end 0 = .ok (.iload_n 1, 1) := by decide +kernel
theorem dX11_end_1 : decode cX11_end 1 = .ok (.ifCond .lt 17, 3) := by decide +kernel
theorem dX11_end_4 : decode cX11_end 4 = .ok (.iload_n 1, 1) := by decide +kernel
theorem dX11_end_5 : decode cX11_end 5 = .ok (.aload_n 0, 1) := by decide +kernel
theorem dX11_end_6 : decode cX11_end 6 = .ok (.getfield 12, 3) := by decide +kernel
theorem dX11_end_9 : decode cX11_end 9 = .ok (.getfield 73, 3) := by decide +kernel
theorem dX11_end_12 : decode cX11_end 12 = .ok (.getfield 76, 3) := by decide +kernel
theorem dX11_end_15 : decode cX11_end 15 = .ok (.if_icmp .le 5, 3) := by decide +kernel
theorem dX11_end_18 : decode cX11_end 18 = .ok (.iconst 0, 1) := by decide +kernel
theorem dX11_end_19 : decode cX11_end 19 = .ok (.ireturn, 1) := by decide +kernel
theorem dX11_end_20 : decode cX11_end 20 = .ok (.aload_n 0, 1) := by decide +kernel
theorem dX11_end_21 : decode cX11_end 21 = .ok (.getfield 12, 3) := by decide +kernel
theorem dX11_end_24 : decode cX11_end 24 = .ok (.getfield 73, 3) := by decide +kernel
theorem dX11_end_27 : decode cX11_end 27 = .ok (.iload_n 1, 1) := by decide +kernel
theorem dX11_end_28 : decode cX11_end 28 = .ok (.putfield 76, 3) := by decide +kernel
theorem dX11_end_31 : decode cX11_end 31 = .ok (.iconst 1, 1) := by decide +kernel
theorem dX11_end_32 : decode cX11_end 32 = .ok (.ireturn, 1) := by decide +kernel
theorem dX11_fault_0 : decode cX11_fault 0 = .ok (.aload_n 0, 1) := by decide +kernel
theorem dX11_fault_1 : decode cX11_fault 1 = .ok (.getfield 12, 3) := by decide +kernel
theorem dX11_fault_4 : decode cX11_fault 4 = .ok (.invokevirtual 86, 3) := by decide +kernel
theorem dX11_fault_7 : decode cX11_fault 7 = .ok (.ireturn, 1) := by decide +kernel
theorem dX11_line_0 : decode cX11_line 0 = .ok (.aload_n 0, 1) := by decide +kernel
theorem dX11_line_1 : decode cX11_line 1 = .ok (.getfield 12, 3) := by decide +kernel
theorem dX11_line_4 : decode cX11_line 4 = .ok (.invokevirtual 86, 3) := by decide +kernel
theorem dX11_line_7 : decode cX11_line 7 = .ok (.iconst (-1), 1) := by decide +kernel
theorem dX11_line_8 : decode cX11_line 8 = .ok (.if_icmp .eq 5, 3) := by decide +kernel
theorem dX11_line_11 : decode cX11_line 11 = .ok (.iconst (-1), 1) := by decide +kernel
theorem dX11_line_12 : decode cX11_line 12 = .ok (.ireturn, 1) := by decide +kernel
theorem dX11_line_13 : decode cX11_line 13 = .ok (.aload_n 0, 1) := by decide +kernel
theorem dX11_line_14 : decode cX11_line 14 = .ok (.getfield 31, 3) := by decide +kernel
theorem dX11_line_17 : decode cX11_line 17 = .ok (.getfield 90, 3) := by decide +kernel
theorem dX11_line_20 : decode cX11_line 20 = .ok (.aload_n 0, 1) := by decide +kernel
theorem dX11_line_21 : decode cX11_line 21 = .ok (.getfield 12, 3) := by decide +kernel
theorem dX11_line_24 : decode cX11_line 24 = .ok (.getfield 94, 3) := by decide +kernel
theorem dX11_line_27 : decode cX11_line 27 = .ok (.invokevirtual 97, 3) := by decide +kernel
theorem dX11_line_30 : decode cX11_line 30 = .ok (.aload_n 0, 1) := by decide +kernel
theorem dX11_line_31 : decode cX11_line 31 = .ok (.getfield 12, 3) := by decide +kernel
theorem dX11_line_34 : decode cX11_line 34 = .ok (.getfield 73, 3) := by decide +kernel
theorem dX11_line_37 : decode cX11_line 37 = .ok (.invokevirtual 103, 3) := by decide +kernel
theorem dX11_line_40 : decode cX11_line 40 = .ok (.aload_n 0, 1) := by decide +kernel
theorem dX11_line_41 : decode cX11_line 41 = .ok (.getfield 25, 3) := by decide +kernel
theorem dX11_line_44 : decode cX11_line 44 = .ok (.invokevirtual 103, 3) := by decide +kernel
theorem dX11_line_47 : decode cX11_line 47 = .ok (.aload_n 0, 1) := by decide +kernel
theorem dX11_line_48 : decode cX11_line 48 = .ok (.getfield 52, 3) := by decide +kernel
theorem dX11_line_51 : decode cX11_line 51 = .ok (.invokevirtual 106, 3) := by decide +kernel
theorem dX11_line_54 : decode cX11_line 54 = .ok (.aload_n 0, 1) := by decide +kernel
theorem dX11_line_55 : decode cX11_line 55 = .ok (.getfield 70, 3) := by decide +kernel
theorem dX11_line_58 : decode cX11_line 58 = .ok (.aload_n 0, 1) := by decide +kernel
theorem dX11_line_59 : decode cX11_line 59 = .ok (.getfield 31, 3) := by decide +kernel
theorem dX11_line_62 : decode cX11_line 62 = .ok (.getfield 90, 3) := by decide +kernel
theorem dX11_line_65 : decode cX11_line 65 = .ok (.invokevirtual 109, 3) := by decide +kernel
theorem dX11_line_68 : decode cX11_line 68 = .ok (.aload_n 0, 1) := by decide +kernel
theorem dX11_line_69 : decode cX11_line 69 = .ok (.iconst 1, 1) := by decide +kernel
theorem dX11_line_70 : decode cX11_line 70 = .ok (.putfield 112, 3) := by decide +kernel
theorem dX11_line_73 : decode cX11_line 73 = .ok (.aload_n 0, 1) := by decide +kernel
theorem dX11_line_74 : decode cX11_line 74 = .ok (.iconst 0, 1) := by decide +kernel
theorem dX11_line_75 : decode cX11_line 75 = .ok (.putfield 116, 3) := by decide +kernel
theorem dX11_line_78 : decode cX11_line 78 = .ok (.aload_n 0, 1) := by decide +kernel
theorem dX11_line_79 : decode cX11_line 79 = .ok (.getfield 31, 3) := by decide +kernel
theorem dX11_line_82 : decode cX11_line 82 = .ok (.getfield 90, 3) := by decide +kernel
theorem dX11_line_85 : decode cX11_line 85 = .ok (.getfield 119, 3) := by decide +kernel
theorem dX11_line_88 : decode cX11_line 88 = .ok (.ireturn, 1) := by decide +kernel
theorem dX11_rule_0 : decode cX11_rule 0 = .ok (.aload_n 0, 1) := by decide +kernel
theorem dX11_rule_1 : decode cX11_rule 1 = .ok (.getfield 112, 3) := by decide +kernel
theorem dX11_rule_4 : decode cX11_rule 4 = .ok (.ifCond .ne 6, 3) := by decide +kernel
theorem dX11_rule_7 : decode cX11_rule 7 = .ok (.ldc 122, 2) := by decide +kernel
theorem dX11_rule_9 : decode cX11_rule 9 = .ok (.ireturn, 1) := by decide +kernel
theorem dX11_rule_10 : decode cX11_rule 10 = .ok (.aload_n 0, 1) := by decide +kernel
theorem dX11_rule_11 : decode cX11_rule 11 = .ok (.getfield 31, 3) := by decide +kernel
theorem dX11_rule_14 : decode cX11_rule 14 = .ok (.getfield 90, 3) := by decide +kernel
theorem dX11_rule_17 : decode cX11_rule 17 = .ok (.astore_n 2, 1) := by decide +kernel
theorem dX11_rule_18 : decode cX11_rule 18 = .ok (.iload_n 1, 1) := by decide +kernel
theorem dX11_rule_19 : decode cX11_rule 19 = .ok (.tableswitch 149 0 11 #[61, 66, 74, 82, 87, 92, 97, 108, 113, 124, 132, 140], 61) := by decide +kernel
theorem dX11_rule_80 : decode cX11_rule 80 = .ok (.aload_n 2, 1) := by decide +kernel
theorem dX11_rule_81 : decode cX11_rule 81 = .ok (.getfield 123, 3) := by decide +kernel
theorem dX11_rule_84 : decode cX11_rule 84 = .ok (.ireturn, 1) := by decide +kernel
theorem dX11_rule_85 : decode cX11_rule 85 = .ok (.aload_n 2, 1) := by decide +kernel
theorem dX11_rule_86 : decode cX11_rule 86 = .ok (.getfield 126, 3) := by decide +kernel
theorem dX11_rule_89 : decode cX11_rule 89 = .ok (.getfield 130, 3) := by decide +kernel
theorem dX11_rule_92 : decode cX11_rule 92 = .ok (.ireturn, 1) := by decide +kernel
theorem dX11_rule_93 : decode cX11_rule 93 = .ok (.aload_n 2, 1) := by decide +kernel
theorem dX11_rule_94 : decode cX11_rule 94 = .ok (.getfield 126, 3) := by decide +kernel
theorem dX11_rule_97 : decode cX11_rule 97 = .ok (.getfield 135, 3) := by decide +kernel
theorem dX11_rule_100 : decode cX11_rule 100 = .ok (.ireturn, 1) := by decide +kernel
theorem dX11_rule_101 : decode cX11_rule 101 = .ok (.aload_n 2, 1) := by decide +kernel
theorem dX11_rule_102 : decode cX11_rule 102 = .ok (.getfield 138, 3) := by decide +kernel
theorem dX11_rule_105 : decode cX11_rule 105 = .ok (.ireturn, 1) := by decide +kernel
theorem dX11_rule_106 : decode cX11_rule 106 = .ok (.aload_n 2, 1) := by decide +kernel
theorem dX11_rule_107 : decode cX11_rule 107 = .ok (.getfield 141, 3) := by decide +kernel
theorem dX11_rule_110 : decode cX11_rule 110 = .ok (.ireturn, 1) := by decide +kernel
theorem dX11_rule_111 : decode cX11_rule 111 = .ok (.aload_n 2, 1) := by decide +kernel
theorem dX11_rule_112 : decode cX11_rule 112 = .ok (.getfield 119, 3) := by decide +kernel
theorem dX11_rule_115 : decode cX11_rule 115 = .ok (.ireturn, 1) := by decide +kernel
theorem dX11_rule_116 : decode cX11_rule 116 = .ok (.aload_n 0, 1) := by decide +kernel
theorem dX11_rule_117 : decode cX11_rule 117 = .ok (.getfield 70, 3) := by decide +kernel
theorem dX11_rule_120 : decode cX11_rule 120 = .ok (.getfield 142, 3) := by decide +kernel
theorem dX11_rule_123 : decode cX11_rule 123 = .ok (.getfield 76, 3) := by decide +kernel
theorem dX11_rule_126 : decode cX11_rule 126 = .ok (.ireturn, 1) := by decide +kernel
theorem dX11_rule_127 : decode cX11_rule 127 = .ok (.aload_n 0, 1) := by decide +kernel
theorem dX11_rule_128 : decode cX11_rule 128 = .ok (.invokevirtual 145, 3) := by decide +kernel
theorem dX11_rule_131 : decode cX11_rule 131 = .ok (.ireturn, 1) := by decide +kernel
theorem dX11_rule_132 : decode cX11_rule 132 = .ok (.aload_n 0, 1) := by decide +kernel
theorem dX11_rule_133 : decode cX11_rule 133 = .ok (.getfield 70, 3) := by decide +kernel
theorem dX11_rule_136 : decode cX11_rule 136 = .ok (.getfield 148, 3) := by decide +kernel
theorem dX11_rule_139 : decode cX11_rule 139 = .ok (.getfield 76, 3) := by decide +kernel
theorem dX11_rule_142 : decode cX11_rule 142 = .ok (.ireturn, 1) := by decide +kernel
theorem dX11_rule_143 : decode cX11_rule 143 = .ok (.aload_n 0, 1) := by decide +kernel
theorem dX11_rule_144 : decode cX11_rule 144 = .ok (.getfield 70, 3) := by decide +kernel
theorem dX11_rule_147 : decode cX11_rule 147 = .ok (.getfield 151, 3) := by decide +kernel
theorem dX11_rule_150 : decode cX11_rule 150 = .ok (.ireturn, 1) := by decide +kernel
theorem dX11_rule_151 : decode cX11_rule 151 = .ok (.aload_n 0, 1) := by decide +kernel
theorem dX11_rule_152 : decode cX11_rule 152 = .ok (.getfield 70, 3) := by decide +kernel
theorem dX11_rule_155 : decode cX11_rule 155 = .ok (.getfield 154, 3) := by decide +kernel
theorem dX11_rule_158 : decode cX11_rule 158 = .ok (.ireturn, 1) := by decide +kernel
theorem dX11_rule_159 : decode cX11_rule 159 = .ok (.aload_n 2, 1) := by decide +kernel
theorem dX11_rule_160 : decode cX11_rule 160 = .ok (.aload_n 2, 1) := by decide +kernel
theorem dX11_rule_161 : decode cX11_rule 161 = .ok (.getfield 141, 3) := by decide +kernel
theorem dX11_rule_164 : decode cX11_rule 164 = .ok (.invokevirtual 157, 3) := by decide +kernel
theorem dX11_rule_167 : decode cX11_rule 167 = .ok (.ireturn, 1) := by decide +kernel
theorem dX11_rule_168 : decode cX11_rule 168 = .ok (.ldc 122, 2) := by decide +kernel
theorem dX11_rule_170 : decode cX11_rule 170 = .ok (.ireturn, 1) := by decide +kernel
theorem dX11_framesThere_0 : decode cX11_framesThere 0 = .ok (.iconst 0, 1) := by decide +kernel
theorem dX11_framesThere_1 : decode cX11_framesThere 1 = .ok (.istore_n 1, 1) := by decide +kernel
theorem dX11_framesThere_2 : decode cX11_framesThere 2 = .ok (.aload_n 0, 1) := by decide +kernel
theorem dX11_framesThere_3 : decode cX11_framesThere 3 = .ok (.getfield 38, 3) := by decide +kernel
theorem dX11_framesThere_6 : decode cX11_framesThere 6 = .ok (.invokevirtual 161, 3) := by decide +kernel
theorem dX11_framesThere_9 : decode cX11_framesThere 9 = .ok (.iconst 0, 1) := by decide +kernel
theorem dX11_framesThere_10 : decode cX11_framesThere 10 = .ok (.istore_n 2, 1) := by decide +kernel
theorem dX11_framesThere_11 : decode cX11_framesThere 11 = .ok (.iload_n 2, 1) := by decide +kernel
theorem dX11_framesThere_12 : decode cX11_framesThere 12 = .ok (.sipush 600, 3) := by decide +kernel
theorem dX11_framesThere_15 : decode cX11_framesThere 15 = .ok (.if_icmp .ge 29, 3) := by decide +kernel
theorem dX11_framesThere_18 : decode cX11_framesThere 18 = .ok (.aload_n 0, 1) := by decide +kernel
theorem dX11_framesThere_19 : decode cX11_framesThere 19 = .ok (.getfield 38, 3) := by decide +kernel
theorem dX11_framesThere_22 : decode cX11_framesThere 22 = .ok (.aload_n 0, 1) := by decide +kernel
theorem dX11_framesThere_23 : decode cX11_framesThere 23 = .ok (.getfield 70, 3) := by decide +kernel
theorem dX11_framesThere_26 : decode cX11_framesThere 26 = .ok (.getfield 142, 3) := by decide +kernel
theorem dX11_framesThere_29 : decode cX11_framesThere 29 = .ok (.invokevirtual 164, 3) := by decide +kernel
theorem dX11_framesThere_32 : decode cX11_framesThere 32 = .ok (.ifCond .eq 12, 3) := by decide +kernel
theorem dX11_framesThere_35 : decode cX11_framesThere 35 = .ok (.iinc 1 1, 3) := by decide +kernel
theorem dX11_framesThere_38 : decode cX11_framesThere 38 = .ok (.iinc 2 1, 3) := by decide +kernel
theorem dX11_framesThere_41 : decode cX11_framesThere 41 = .ok (.goto (-30), 3) := by decide +kernel
theorem dX11_framesThere_44 : decode cX11_framesThere 44 = .ok (.iload_n 1, 1) := by decide +kernel
theorem dX11_framesThere_45 : decode cX11_framesThere 45 = .ok (.ireturn, 1) := by decide +kernel
theorem dX11_send_0 : decode cX11_send 0 = .ok (.aload_n 0, 1) := by decide +kernel
theorem dX11_send_1 : decode cX11_send 1 = .ok (.getfield 112, 3) := by decide +kernel
theorem dX11_send_4 : decode cX11_send 4 = .ok (.ifCond .ne 9, 3) := by decide +kernel
theorem dX11_send_7 : decode cX11_send 7 = .ok (.aload_n 0, 1) := by decide +kernel
theorem dX11_send_8 : decode cX11_send 8 = .ok (.iconst 0, 1) := by decide +kernel
theorem dX11_send_9 : decode cX11_send 9 = .ok (.invokevirtual 168, 3) := by decide +kernel
theorem dX11_send_12 : decode cX11_send 12 = .ok (.ireturn, 1) := by decide +kernel
theorem dX11_send_13 : decode cX11_send 13 = .ok (.aload_n 0, 1) := by decide +kernel
theorem dX11_send_14 : decode cX11_send 14 = .ok (.getfield 70, 3) := by decide +kernel
theorem dX11_send_17 : decode cX11_send 17 = .ok (.iload_n 1, 1) := by decide +kernel
theorem dX11_send_18 : decode cX11_send 18 = .ok (.invokevirtual 171, 3) := by decide +kernel
theorem dX11_send_21 : decode cX11_send 21 = .ok (.astore_n 2, 1) := by decide +kernel
theorem dX11_send_22 : decode cX11_send 22 = .ok (.aload_n 2, 1) := by decide +kernel
theorem dX11_send_23 : decode cX11_send 23 = .ok (.ifnonnull 9, 3) := by decide +kernel
theorem dX11_send_26 : decode cX11_send 26 = .ok (.aload_n 0, 1) := by decide +kernel
theorem dX11_send_27 : decode cX11_send 27 = .ok (.iconst 1, 1) := by decide +kernel
theorem dX11_send_28 : decode cX11_send 28 = .ok (.invokevirtual 168, 3) := by decide +kernel
theorem dX11_send_31 : decode cX11_send 31 = .ok (.ireturn, 1) := by decide +kernel
theorem dX11_send_32 : decode cX11_send 32 = .ok (.aload_n 0, 1) := by decide +kernel
theorem dX11_send_33 : decode cX11_send 33 = .ok (.getfield 12, 3) := by decide +kernel
theorem dX11_send_36 : decode cX11_send 36 = .ok (.getfield 73, 3) := by decide +kernel
theorem dX11_send_39 : decode cX11_send 39 = .ok (.getfield 76, 3) := by decide +kernel
theorem dX11_send_42 : decode cX11_send 42 = .ok (.bipush 120, 2) := by decide +kernel
theorem dX11_send_44 : decode cX11_send 44 = .ok (.if_icmp .le 9, 3) := by decide +kernel
theorem dX11_send_47 : decode cX11_send 47 = .ok (.aload_n 0, 1) := by decide +kernel
theorem dX11_send_48 : decode cX11_send 48 = .ok (.iconst 2, 1) := by decide +kernel
theorem dX11_send_49 : decode cX11_send 49 = .ok (.invokevirtual 168, 3) := by decide +kernel
theorem dX11_send_52 : decode cX11_send 52 = .ok (.ireturn, 1) := by decide +kernel
theorem dX11_send_53 : decode cX11_send 53 = .ok (.aload_n 2, 1) := by decide +kernel
theorem dX11_send_54 : decode cX11_send 54 = .ok (.getfield 175, 3) := by decide +kernel
theorem dX11_send_57 : decode cX11_send 57 = .ok (.invokevirtual 181, 3) := by decide +kernel
theorem dX11_send_60 : decode cX11_send 60 = .ok (.bipush 8, 2) := by decide +kernel
theorem dX11_send_62 : decode cX11_send 62 = .ok (.if_icmp .lt 9, 3) := by decide +kernel
theorem dX11_send_65 : decode cX11_send 65 = .ok (.aload_n 0, 1) := by decide +kernel
theorem dX11_send_66 : decode cX11_send 66 = .ok (.iconst 3, 1) := by decide +kernel
theorem dX11_send_67 : decode cX11_send 67 = .ok (.invokevirtual 168, 3) := by decide +kernel
theorem dX11_send_70 : decode cX11_send 70 = .ok (.ireturn, 1) := by decide +kernel
theorem dX11_send_71 : decode cX11_send 71 = .ok (.aload_n 0, 1) := by decide +kernel
theorem dX11_send_72 : decode cX11_send 72 = .ok (.getfield 52, 3) := by decide +kernel
theorem dX11_send_75 : decode cX11_send 75 = .ok (.aload_n 0, 1) := by decide +kernel
theorem dX11_send_76 : decode cX11_send 76 = .ok (.getfield 70, 3) := by decide +kernel
theorem dX11_send_79 : decode cX11_send 79 = .ok (.invokevirtual 186, 3) := by decide +kernel
theorem dX11_send_82 : decode cX11_send 82 = .ok (.aload_n 2, 1) := by decide +kernel
theorem dX11_send_83 : decode cX11_send 83 = .ok (.getfield 175, 3) := by decide +kernel
theorem dX11_send_86 : decode cX11_send 86 = .ok (.aload_n 0, 1) := by decide +kernel
theorem dX11_send_87 : decode cX11_send 87 = .ok (.getfield 12, 3) := by decide +kernel
theorem dX11_send_90 : decode cX11_send 90 = .ok (.getfield 73, 3) := by decide +kernel
theorem dX11_send_93 : decode cX11_send 93 = .ok (.iconst 0, 1) := by decide +kernel
theorem dX11_send_94 : decode cX11_send 94 = .ok (.invokevirtual 190, 3) := by decide +kernel
theorem dX11_send_97 : decode cX11_send 97 = .ok (.aload_n 0, 1) := by decide +kernel
theorem dX11_send_98 : decode cX11_send 98 = .ok (.getfield 12, 3) := by decide +kernel
theorem dX11_send_101 : decode cX11_send 101 = .ok (.getfield 73, 3) := by decide +kernel
theorem dX11_send_104 : decode cX11_send 104 = .ok (.invokevirtual 103, 3) := by decide +kernel
theorem dX11_send_107 : decode cX11_send 107 = .ok (.aload_n 0, 1) := by decide +kernel
theorem dX11_send_108 : decode cX11_send 108 = .ok (.getfield 52, 3) := by decide +kernel
theorem dX11_send_111 : decode cX11_send 111 = .ok (.invokevirtual 194, 3) := by decide +kernel
theorem dX11_send_114 : decode cX11_send 114 = .ok (.aload_n 2, 1) := by decide +kernel
theorem dX11_send_115 : decode cX11_send 115 = .ok (.getfield 175, 3) := by decide +kernel
theorem dX11_send_118 : decode cX11_send 118 = .ok (.invokevirtual 181, 3) := by decide +kernel
theorem dX11_send_121 : decode cX11_send 121 = .ok (.ireturn, 1) := by decide +kernel
theorem dX11_put_0 : decode cX11_put 0 = .ok (.aload_n 0, 1) := by decide +kernel
theorem dX11_put_1 : decode cX11_put 1 = .ok (.getfield 112, 3) := by decide +kernel
theorem dX11_put_4 : decode cX11_put 4 = .ok (.ifCond .ne 9, 3) := by decide +kernel
theorem dX11_put_7 : decode cX11_put 7 = .ok (.aload_n 0, 1) := by decide +kernel
theorem dX11_put_8 : decode cX11_put 8 = .ok (.iconst 0, 1) := by decide +kernel
theorem dX11_put_9 : decode cX11_put 9 = .ok (.invokevirtual 168, 3) := by decide +kernel
theorem dX11_put_12 : decode cX11_put 12 = .ok (.ireturn, 1) := by decide +kernel
theorem dX11_put_13 : decode cX11_put 13 = .ok (.iload_n 1, 1) := by decide +kernel
theorem dX11_put_14 : decode cX11_put 14 = .ok (.iconst 1, 1) := by decide +kernel
theorem dX11_put_15 : decode cX11_put 15 = .ok (.if_icmp .lt 9, 3) := by decide +kernel
theorem dX11_put_18 : decode cX11_put 18 = .ok (.iload_n 1, 1) := by decide +kernel
theorem dX11_put_19 : decode cX11_put 19 = .ok (.bipush 60, 2) := by decide +kernel
theorem dX11_put_21 : decode cX11_put 21 = .ok (.if_icmp .le 9, 3) := by decide +kernel
theorem dX11_put_24 : decode cX11_put 24 = .ok (.aload_n 0, 1) := by decide +kernel
theorem dX11_put_25 : decode cX11_put 25 = .ok (.iconst 2, 1) := by decide +kernel
theorem dX11_put_26 : decode cX11_put 26 = .ok (.invokevirtual 168, 3) := by decide +kernel
theorem dX11_put_29 : decode cX11_put 29 = .ok (.ireturn, 1) := by decide +kernel
theorem dX11_put_30 : decode cX11_put 30 = .ok (.aload_n 0, 1) := by decide +kernel
theorem dX11_put_31 : decode cX11_put 31 = .ok (.getfield 52, 3) := by decide +kernel
theorem dX11_put_34 : decode cX11_put 34 = .ok (.aload_n 0, 1) := by decide +kernel
theorem dX11_put_35 : decode cX11_put 35 = .ok (.getfield 70, 3) := by decide +kernel
theorem dX11_put_38 : decode cX11_put 38 = .ok (.invokevirtual 186, 3) := by decide +kernel
theorem dX11_put_41 : decode cX11_put 41 = .ok (.aload_n 0, 1) := by decide +kernel
theorem dX11_put_42 : decode cX11_put 42 = .ok (.getfield 70, 3) := by decide +kernel
theorem dX11_put_45 : decode cX11_put 45 = .ok (.iload_n 1, 1) := by decide +kernel
theorem dX11_put_46 : decode cX11_put 46 = .ok (.aload_n 0, 1) := by decide +kernel
theorem dX11_put_47 : decode cX11_put 47 = .ok (.getfield 31, 3) := by decide +kernel
theorem dX11_put_50 : decode cX11_put 50 = .ok (.invokevirtual 197, 3) := by decide +kernel
theorem dX11_put_53 : decode cX11_put 53 = .ok (.istore_n 2, 1) := by decide +kernel
theorem dX11_put_54 : decode cX11_put 54 = .ok (.iload_n 2, 1) := by decide +kernel
theorem dX11_put_55 : decode cX11_put 55 = .ok (.ifCond .le 10, 3) := by decide +kernel
theorem dX11_put_58 : decode cX11_put 58 = .ok (.aload_n 0, 1) := by decide +kernel
theorem dX11_put_59 : decode cX11_put 59 = .ok (.getfield 52, 3) := by decide +kernel
theorem dX11_put_62 : decode cX11_put 62 = .ok (.invokevirtual 194, 3) := by decide +kernel
theorem dX11_put_65 : decode cX11_put 65 = .ok (.iload_n 2, 1) := by decide +kernel
theorem dX11_put_66 : decode cX11_put 66 = .ok (.ireturn, 1) := by decide +kernel
theorem dX11_refuse_0 : decode cX11_refuse 0 = .ok (.iload_n 1, 1) := by decide +kernel
theorem dX11_refuse_1 : decode cX11_refuse 1 = .ok (.ifCond .lt 22, 3) := by decide +kernel
theorem dX11_refuse_4 : decode cX11_refuse 4 = .ok (.iload_n 1, 1) := by decide +kernel
theorem dX11_refuse_5 : decode cX11_refuse 5 = .ok (.aload_n 0, 1) := by decide +kernel
theorem dX11_refuse_6 : decode cX11_refuse 6 = .ok (.getfield 66, 3) := by decide +kernel
theorem dX11_refuse_9 : decode cX11_refuse 9 = .ok (.arraylength, 1) := by decide +kernel
end
section
theorem dX11_refuse_10 : decode cX11_refuse 10 = .ok (.if_icmp .ge 13, 3) := by decide +kernel
theorem dX11_refuse_13 : decode cX11_refuse 13 = .ok (.aload_n 0, 1) := by decide +kernel
theorem dX11_refuse_14 : decode cX11_refuse 14 = .ok (.getfield 66, 3) := by decide +kernel
theorem dX11_refuse_17 : decode cX11_refuse 17 = .ok (.iload_n 1, 1) := by decide +kernel
theorem dX11_refuse_18 : decode cX11_refuse 18 = .ok (.dup2, 1) := by decide +kernel
theorem dX11_refuse_19 : decode cX11_refuse 19 = .ok (.iaload, 1) := by decide +kernel
theorem dX11_refuse_20 : decode cX11_refuse 20 = .ok (.iconst 1, 1) := by decide +kernel
theorem dX11_refuse_21 : decode cX11_refuse 21 = .ok (.iadd, 1) := by decide +kernel
theorem dX11_refuse_22 : decode cX11_refuse 22 = .ok (.iastore, 1) := by decide +kernel
theorem dX11_refuse_23 : decode cX11_refuse 23 = .ok (.iconst (-1), 1) := by decide +kernel
theorem dX11_refuse_24 : decode cX11_refuse 24 = .ok (.ireturn, 1) := by decide +kernel
theorem dX11_byteAt_0 : decode cX11_byteAt 0 = .ok (.aload_n 0, 1) := by decide +kernel
theorem dX11_byteAt_1 : decode cX11_byteAt 1 = .ok (.getfield 70, 3) := by decide +kernel
theorem dX11_byteAt_4 : decode cX11_byteAt 4 = .ok (.getfield 142, 3) := by decide +kernel
theorem dX11_byteAt_7 : decode cX11_byteAt 7 = .ok (.iload_n 1, 1) := by decide +kernel
theorem dX11_byteAt_8 : decode cX11_byteAt 8 = .ok (.invokevirtual 201, 3) := by decide +kernel
theorem dX11_byteAt_11 : decode cX11_byteAt 11 = .ok (.ireturn, 1) := by decide +kernel
theorem dX11_flip_0 : decode cX11_flip 0 = .ok (.aload_n 0, 1) := by decide +kernel
theorem dX11_flip_1 : decode cX11_flip 1 = .ok (.getfield 112, 3) := by decide +kernel
theorem dX11_flip_4 : decode cX11_flip 4 = .ok (.ifCond .ne 9, 3) := by decide +kernel
theorem dX11_flip_7 : decode cX11_flip 7 = .ok (.aload_n 0, 1) := by decide +kernel
theorem dX11_flip_8 : decode cX11_flip 8 = .ok (.iconst 0, 1) := by decide +kernel
theorem dX11_flip_9 : decode cX11_flip 9 = .ok (.invokevirtual 168, 3) := by decide +kernel
theorem dX11_flip_12 : decode cX11_flip 12 = .ok (.ireturn, 1) := by decide +kernel
theorem dX11_flip_13 : decode cX11_flip 13 = .ok (.aload_n 0, 1) := by decide +kernel
theorem dX11_flip_14 : decode cX11_flip 14 = .ok (.getfield 70, 3) := by decide +kernel
theorem dX11_flip_17 : decode cX11_flip 17 = .ok (.getfield 142, 3) := by decide +kernel
theorem dX11_flip_20 : decode cX11_flip 20 = .ok (.iload_n 1, 1) := by decide +kernel
theorem dX11_flip_21 : decode cX11_flip 21 = .ok (.invokevirtual 204, 3) := by decide +kernel
theorem dX11_flip_24 : decode cX11_flip 24 = .ok (.ifCond .ne 9, 3) := by decide +kernel
theorem dX11_flip_27 : decode cX11_flip 27 = .ok (.aload_n 0, 1) := by decide +kernel
theorem dX11_flip_28 : decode cX11_flip 28 = .ok (.iconst 1, 1) := by decide +kernel
theorem dX11_flip_29 : decode cX11_flip 29 = .ok (.invokevirtual 168, 3) := by decide +kernel
theorem dX11_flip_32 : decode cX11_flip 32 = .ok (.ireturn, 1) := by decide +kernel
theorem dX11_flip_33 : decode cX11_flip 33 = .ok (.iload_n 2, 1) := by decide +kernel
theorem dX11_flip_34 : decode cX11_flip 34 = .ok (.invokestatic 208, 3) := by decide +kernel
theorem dX11_flip_37 : decode cX11_flip 37 = .ok (.ifCond .ne 9, 3) := by decide +kernel
theorem dX11_flip_40 : decode cX11_flip 40 = .ok (.aload_n 0, 1) := by decide +kernel
theorem dX11_flip_41 : decode cX11_flip 41 = .ok (.iconst 2, 1) := by decide +kernel
theorem dX11_flip_42 : decode cX11_flip 42 = .ok (.invokevirtual 168, 3) := by decide +kernel
theorem dX11_flip_45 : decode cX11_flip 45 = .ok (.ireturn, 1) := by decide +kernel
theorem dX11_flip_46 : decode cX11_flip 46 = .ok (.aload_n 0, 1) := by decide +kernel
theorem dX11_flip_47 : decode cX11_flip 47 = .ok (.getfield 52, 3) := by decide +kernel
theorem dX11_flip_50 : decode cX11_flip 50 = .ok (.aload_n 0, 1) := by decide +kernel
theorem dX11_flip_51 : decode cX11_flip 51 = .ok (.getfield 70, 3) := by decide +kernel
theorem dX11_flip_54 : decode cX11_flip 54 = .ok (.invokevirtual 186, 3) := by decide +kernel
theorem dX11_flip_57 : decode cX11_flip 57 = .ok (.aload_n 0, 1) := by decide +kernel
theorem dX11_flip_58 : decode cX11_flip 58 = .ok (.getfield 70, 3) := by decide +kernel
theorem dX11_flip_61 : decode cX11_flip 61 = .ok (.getfield 142, 3) := by decide +kernel
theorem dX11_flip_64 : decode cX11_flip 64 = .ok (.iload_n 1, 1) := by decide +kernel
theorem dX11_flip_65 : decode cX11_flip 65 = .ok (.aload_n 0, 1) := by decide +kernel
theorem dX11_flip_66 : decode cX11_flip 66 = .ok (.getfield 70, 3) := by decide +kernel
theorem dX11_flip_69 : decode cX11_flip 69 = .ok (.getfield 142, 3) := by decide +kernel
theorem dX11_flip_72 : decode cX11_flip 72 = .ok (.iload_n 1, 1) := by decide +kernel
theorem dX11_flip_73 : decode cX11_flip 73 = .ok (.invokevirtual 201, 3) := by decide +kernel
theorem dX11_flip_76 : decode cX11_flip 76 = .ok (.iload_n 2, 1) := by decide +kernel
theorem dX11_flip_77 : decode cX11_flip 77 = .ok (.ixor, 1) := by decide +kernel
theorem dX11_flip_78 : decode cX11_flip 78 = .ok (.invokevirtual 211, 3) := by decide +kernel
theorem dX11_flip_81 : decode cX11_flip 81 = .ok (.aload_n 0, 1) := by decide +kernel
theorem dX11_flip_82 : decode cX11_flip 82 = .ok (.getfield 52, 3) := by decide +kernel
theorem dX11_flip_85 : decode cX11_flip 85 = .ok (.invokevirtual 194, 3) := by decide +kernel
theorem dX11_flip_88 : decode cX11_flip 88 = .ok (.aload_n 0, 1) := by decide +kernel
theorem dX11_flip_89 : decode cX11_flip 89 = .ok (.getfield 70, 3) := by decide +kernel
theorem dX11_flip_92 : decode cX11_flip 92 = .ok (.getfield 142, 3) := by decide +kernel
theorem dX11_flip_95 : decode cX11_flip 95 = .ok (.iload_n 1, 1) := by decide +kernel
theorem dX11_flip_96 : decode cX11_flip 96 = .ok (.invokevirtual 201, 3) := by decide +kernel
theorem dX11_flip_99 : decode cX11_flip 99 = .ok (.ireturn, 1) := by decide +kernel
theorem dX11_isFlip_0 : decode cX11_isFlip 0 = .ok (.iload_n 0, 1) := by decide +kernel
theorem dX11_isFlip_1 : decode cX11_isFlip 1 = .ok (.iconst 1, 1) := by decide +kernel
theorem dX11_isFlip_2 : decode cX11_isFlip 2 = .ok (.if_icmp .lt 14, 3) := by decide +kernel
theorem dX11_isFlip_5 : decode cX11_isFlip 5 = .ok (.iload_n 0, 1) := by decide +kernel
theorem dX11_isFlip_6 : decode cX11_isFlip 6 = .ok (.sipush 255, 3) := by decide +kernel
theorem dX11_isFlip_9 : decode cX11_isFlip 9 = .ok (.if_icmp .gt 7, 3) := by decide +kernel
theorem dX11_isFlip_12 : decode cX11_isFlip 12 = .ok (.iconst 1, 1) := by decide +kernel
theorem dX11_isFlip_13 : decode cX11_isFlip 13 = .ok (.goto 4, 3) := by decide +kernel
theorem dX11_isFlip_16 : decode cX11_isFlip 16 = .ok (.iconst 0, 1) := by decide +kernel
theorem dX11_isFlip_17 : decode cX11_isFlip 17 = .ok (.ireturn, 1) := by decide +kernel
theorem dX11_lose_0 : decode cX11_lose 0 = .ok (.aload_n 0, 1) := by decide +kernel
theorem dX11_lose_1 : decode cX11_lose 1 = .ok (.getfield 112, 3) := by decide +kernel
theorem dX11_lose_4 : decode cX11_lose 4 = .ok (.ifCond .ne 9, 3) := by decide +kernel
theorem dX11_lose_7 : decode cX11_lose 7 = .ok (.aload_n 0, 1) := by decide +kernel
theorem dX11_lose_8 : decode cX11_lose 8 = .ok (.iconst 0, 1) := by decide +kernel
theorem dX11_lose_9 : decode cX11_lose 9 = .ok (.invokevirtual 168, 3) := by decide +kernel
theorem dX11_lose_12 : decode cX11_lose 12 = .ok (.ireturn, 1) := by decide +kernel
theorem dX11_lose_13 : decode cX11_lose 13 = .ok (.aload_n 0, 1) := by decide +kernel
theorem dX11_lose_14 : decode cX11_lose 14 = .ok (.getfield 70, 3) := by decide +kernel
theorem dX11_lose_17 : decode cX11_lose 17 = .ok (.getfield 142, 3) := by decide +kernel
theorem dX11_lose_20 : decode cX11_lose 20 = .ok (.iload_n 1, 1) := by decide +kernel
theorem dX11_lose_21 : decode cX11_lose 21 = .ok (.invokevirtual 204, 3) := by decide +kernel
theorem dX11_lose_24 : decode cX11_lose 24 = .ok (.ifCond .ne 9, 3) := by decide +kernel
theorem dX11_lose_27 : decode cX11_lose 27 = .ok (.aload_n 0, 1) := by decide +kernel
theorem dX11_lose_28 : decode cX11_lose 28 = .ok (.iconst 1, 1) := by decide +kernel
theorem dX11_lose_29 : decode cX11_lose 29 = .ok (.invokevirtual 168, 3) := by decide +kernel
theorem dX11_lose_32 : decode cX11_lose 32 = .ok (.ireturn, 1) := by decide +kernel
theorem dX11_lose_33 : decode cX11_lose 33 = .ok (.aload_n 0, 1) := by decide +kernel
theorem dX11_lose_34 : decode cX11_lose 34 = .ok (.getfield 70, 3) := by decide +kernel
theorem dX11_lose_37 : decode cX11_lose 37 = .ok (.getfield 142, 3) := by decide +kernel
theorem dX11_lose_40 : decode cX11_lose 40 = .ok (.iload_n 1, 1) := by decide +kernel
theorem dX11_lose_41 : decode cX11_lose 41 = .ok (.invokevirtual 201, 3) := by decide +kernel
theorem dX11_lose_44 : decode cX11_lose 44 = .ok (.istore_n 2, 1) := by decide +kernel
theorem dX11_lose_45 : decode cX11_lose 45 = .ok (.aload_n 0, 1) := by decide +kernel
theorem dX11_lose_46 : decode cX11_lose 46 = .ok (.getfield 52, 3) := by decide +kernel
theorem dX11_lose_49 : decode cX11_lose 49 = .ok (.aload_n 0, 1) := by decide +kernel
theorem dX11_lose_50 : decode cX11_lose 50 = .ok (.getfield 70, 3) := by decide +kernel
theorem dX11_lose_53 : decode cX11_lose 53 = .ok (.invokevirtual 186, 3) := by decide +kernel
theorem dX11_lose_56 : decode cX11_lose 56 = .ok (.aload_n 0, 1) := by decide +kernel
theorem dX11_lose_57 : decode cX11_lose 57 = .ok (.getfield 70, 3) := by decide +kernel
theorem dX11_lose_60 : decode cX11_lose 60 = .ok (.getfield 142, 3) := by decide +kernel
theorem dX11_lose_63 : decode cX11_lose 63 = .ok (.iload_n 1, 1) := by decide +kernel
theorem dX11_lose_64 : decode cX11_lose 64 = .ok (.invokevirtual 215, 3) := by decide +kernel
theorem dX11_lose_67 : decode cX11_lose 67 = .ok (.aload_n 0, 1) := by decide +kernel
theorem dX11_lose_68 : decode cX11_lose 68 = .ok (.getfield 52, 3) := by decide +kernel
theorem dX11_lose_71 : decode cX11_lose 71 = .ok (.invokevirtual 194, 3) := by decide +kernel
theorem dX11_lose_74 : decode cX11_lose 74 = .ok (.iload_n 2, 1) := by decide +kernel
theorem dX11_lose_75 : decode cX11_lose 75 = .ok (.ireturn, 1) := by decide +kernel
theorem dX11_insert_0 : decode cX11_insert 0 = .ok (.aload_n 0, 1) := by decide +kernel
theorem dX11_insert_1 : decode cX11_insert 1 = .ok (.getfield 112, 3) := by decide +kernel
theorem dX11_insert_4 : decode cX11_insert 4 = .ok (.ifCond .ne 9, 3) := by decide +kernel
theorem dX11_insert_7 : decode cX11_insert 7 = .ok (.aload_n 0, 1) := by decide +kernel
theorem dX11_insert_8 : decode cX11_insert 8 = .ok (.iconst 0, 1) := by decide +kernel
theorem dX11_insert_9 : decode cX11_insert 9 = .ok (.invokevirtual 168, 3) := by decide +kernel
theorem dX11_insert_12 : decode cX11_insert 12 = .ok (.ireturn, 1) := by decide +kernel
theorem dX11_insert_13 : decode cX11_insert 13 = .ok (.iload_n 1, 1) := by decide +kernel
theorem dX11_insert_14 : decode cX11_insert 14 = .ok (.ifCond .lt 17, 3) := by decide +kernel
theorem dX11_insert_17 : decode cX11_insert 17 = .ok (.iload_n 1, 1) := by decide +kernel
theorem dX11_insert_18 : decode cX11_insert 18 = .ok (.aload_n 0, 1) := by decide +kernel
theorem dX11_insert_19 : decode cX11_insert 19 = .ok (.getfield 70, 3) := by decide +kernel
theorem dX11_insert_22 : decode cX11_insert 22 = .ok (.getfield 142, 3) := by decide +kernel
theorem dX11_insert_25 : decode cX11_insert 25 = .ok (.getfield 76, 3) := by decide +kernel
theorem dX11_insert_28 : decode cX11_insert 28 = .ok (.if_icmp .le 9, 3) := by decide +kernel
theorem dX11_insert_31 : decode cX11_insert 31 = .ok (.aload_n 0, 1) := by decide +kernel
theorem dX11_insert_32 : decode cX11_insert 32 = .ok (.iconst 1, 1) := by decide +kernel
theorem dX11_insert_33 : decode cX11_insert 33 = .ok (.invokevirtual 168, 3) := by decide +kernel
theorem dX11_insert_36 : decode cX11_insert 36 = .ok (.ireturn, 1) := by decide +kernel
theorem dX11_insert_37 : decode cX11_insert 37 = .ok (.iload_n 2, 1) := by decide +kernel
theorem dX11_insert_38 : decode cX11_insert 38 = .ok (.ifCond .lt 10, 3) := by decide +kernel
theorem dX11_insert_41 : decode cX11_insert 41 = .ok (.iload_n 2, 1) := by decide +kernel
theorem dX11_insert_42 : decode cX11_insert 42 = .ok (.sipush 255, 3) := by decide +kernel
theorem dX11_insert_45 : decode cX11_insert 45 = .ok (.if_icmp .le 9, 3) := by decide +kernel
theorem dX11_insert_48 : decode cX11_insert 48 = .ok (.aload_n 0, 1) := by decide +kernel
theorem dX11_insert_49 : decode cX11_insert 49 = .ok (.iconst 2, 1) := by decide +kernel
theorem dX11_insert_50 : decode cX11_insert 50 = .ok (.invokevirtual 168, 3) := by decide +kernel
theorem dX11_insert_53 : decode cX11_insert 53 = .ok (.ireturn, 1) := by decide +kernel
theorem dX11_insert_54 : decode cX11_insert 54 = .ok (.aload_n 0, 1) := by decide +kernel
theorem dX11_insert_55 : decode cX11_insert 55 = .ok (.getfield 70, 3) := by decide +kernel
theorem dX11_insert_58 : decode cX11_insert 58 = .ok (.getfield 142, 3) := by decide +kernel
theorem dX11_insert_61 : decode cX11_insert 61 = .ok (.getfield 76, 3) := by decide +kernel
theorem dX11_insert_64 : decode cX11_insert 64 = .ok (.sipush 600, 3) := by decide +kernel
theorem dX11_insert_67 : decode cX11_insert 67 = .ok (.if_icmp .lt 9, 3) := by decide +kernel
theorem dX11_insert_70 : decode cX11_insert 70 = .ok (.aload_n 0, 1) := by decide +kernel
theorem dX11_insert_71 : decode cX11_insert 71 = .ok (.iconst 3, 1) := by decide +kernel
theorem dX11_insert_72 : decode cX11_insert 72 = .ok (.invokevirtual 168, 3) := by decide +kernel
theorem dX11_insert_75 : decode cX11_insert 75 = .ok (.ireturn, 1) := by decide +kernel
theorem dX11_insert_76 : decode cX11_insert 76 = .ok (.aload_n 0, 1) := by decide +kernel
theorem dX11_insert_77 : decode cX11_insert 77 = .ok (.getfield 52, 3) := by decide +kernel
theorem dX11_insert_80 : decode cX11_insert 80 = .ok (.aload_n 0, 1) := by decide +kernel
theorem dX11_insert_81 : decode cX11_insert 81 = .ok (.getfield 70, 3) := by decide +kernel
theorem dX11_insert_84 : decode cX11_insert 84 = .ok (.invokevirtual 186, 3) := by decide +kernel
theorem dX11_insert_87 : decode cX11_insert 87 = .ok (.aload_n 0, 1) := by decide +kernel
theorem dX11_insert_88 : decode cX11_insert 88 = .ok (.getfield 70, 3) := by decide +kernel
theorem dX11_insert_91 : decode cX11_insert 91 = .ok (.getfield 142, 3) := by decide +kernel
theorem dX11_insert_94 : decode cX11_insert 94 = .ok (.iload_n 1, 1) := by decide +kernel
theorem dX11_insert_95 : decode cX11_insert 95 = .ok (.iload_n 2, 1) := by decide +kernel
theorem dX11_insert_96 : decode cX11_insert 96 = .ok (.invokevirtual 218, 3) := by decide +kernel
theorem dX11_insert_99 : decode cX11_insert 99 = .ok (.aload_n 0, 1) := by decide +kernel
theorem dX11_insert_100 : decode cX11_insert 100 = .ok (.getfield 52, 3) := by decide +kernel
theorem dX11_insert_103 : decode cX11_insert 103 = .ok (.invokevirtual 194, 3) := by decide +kernel
theorem dX11_insert_106 : decode cX11_insert 106 = .ok (.aload_n 0, 1) := by decide +kernel
theorem dX11_insert_107 : decode cX11_insert 107 = .ok (.getfield 70, 3) := by decide +kernel
theorem dX11_insert_110 : decode cX11_insert 110 = .ok (.getfield 142, 3) := by decide +kernel
theorem dX11_insert_113 : decode cX11_insert 113 = .ok (.getfield 76, 3) := by decide +kernel
theorem dX11_insert_116 : decode cX11_insert 116 = .ok (.ireturn, 1) := by decide +kernel
theorem dX11_noise_0 : decode cX11_noise 0 = .ok (.aload_n 0, 1) := by decide +kernel
theorem dX11_noise_1 : decode cX11_noise 1 = .ok (.getfield 112, 3) := by decide +kernel
theorem dX11_noise_4 : decode cX11_noise 4 = .ok (.ifCond .ne 9, 3) := by decide +kernel
theorem dX11_noise_7 : decode cX11_noise 7 = .ok (.aload_n 0, 1) := by decide +kernel
theorem dX11_noise_8 : decode cX11_noise 8 = .ok (.iconst 0, 1) := by decide +kernel
theorem dX11_noise_9 : decode cX11_noise 9 = .ok (.invokevirtual 168, 3) := by decide +kernel
theorem dX11_noise_12 : decode cX11_noise 12 = .ok (.ireturn, 1) := by decide +kernel
theorem dX11_noise_13 : decode cX11_noise 13 = .ok (.iload_n 1, 1) := by decide +kernel
theorem dX11_noise_14 : decode cX11_noise 14 = .ok (.iconst 1, 1) := by decide +kernel
theorem dX11_noise_15 : decode cX11_noise 15 = .ok (.if_icmp .lt 9, 3) := by decide +kernel
theorem dX11_noise_18 : decode cX11_noise 18 = .ok (.iload_n 1, 1) := by decide +kernel
theorem dX11_noise_19 : decode cX11_noise 19 = .ok (.bipush 40, 2) := by decide +kernel
theorem dX11_noise_21 : decode cX11_noise 21 = .ok (.if_icmp .le 9, 3) := by decide +kernel
theorem dX11_noise_24 : decode cX11_noise 24 = .ok (.aload_n 0, 1) := by decide +kernel
theorem dX11_noise_25 : decode cX11_noise 25 = .ok (.iconst 2, 1) := by decide +kernel
theorem dX11_noise_26 : decode cX11_noise 26 = .ok (.invokevirtual 168, 3) := by decide +kernel
theorem dX11_noise_29 : decode cX11_noise 29 = .ok (.ireturn, 1) := by decide +kernel
theorem dX11_noise_30 : decode cX11_noise 30 = .ok (.aload_n 0, 1) := by decide +kernel
theorem dX11_noise_31 : decode cX11_noise 31 = .ok (.getfield 52, 3) := by decide +kernel
theorem dX11_noise_34 : decode cX11_noise 34 = .ok (.aload_n 0, 1) := by decide +kernel
theorem dX11_noise_35 : decode cX11_noise 35 = .ok (.getfield 70, 3) := by decide +kernel
theorem dX11_noise_38 : decode cX11_noise 38 = .ok (.invokevirtual 186, 3) := by decide +kernel
theorem dX11_noise_41 : decode cX11_noise 41 = .ok (.aload_n 0, 1) := by decide +kernel
theorem dX11_noise_42 : decode cX11_noise 42 = .ok (.getfield 45, 3) := by decide +kernel
theorem dX11_noise_45 : decode cX11_noise 45 = .ok (.lload_n 2, 1) := by decide +kernel
theorem dX11_noise_46 : decode cX11_noise 46 = .ok (.putfield 221, 3) := by decide +kernel
theorem dX11_noise_49 : decode cX11_noise 49 = .ok (.iconst 0, 1) := by decide +kernel
theorem dX11_noise_50 : decode cX11_noise 50 = .ok (.istore 4, 2) := by decide +kernel
theorem dX11_noise_52 : decode cX11_noise 52 = .ok (.iconst 0, 1) := by decide +kernel
theorem dX11_noise_53 : decode cX11_noise 53 = .ok (.istore 5, 2) := by decide +kernel
theorem dX11_noise_55 : decode cX11_noise 55 = .ok (.iload 5, 2) := by decide +kernel
theorem dX11_noise_57 : decode cX11_noise 57 = .ok (.iload_n 1, 1) := by decide +kernel
theorem dX11_noise_58 : decode cX11_noise 58 = .ok (.if_icmp .ge 26, 3) := by decide +kernel
theorem dX11_noise_61 : decode cX11_noise 61 = .ok (.aload_n 0, 1) := by decide +kernel
theorem dX11_noise_62 : decode cX11_noise 62 = .ok (.getfield 70, 3) := by decide +kernel
theorem dX11_noise_65 : decode cX11_noise 65 = .ok (.aload_n 0, 1) := by decide +kernel
theorem dX11_noise_66 : decode cX11_noise 66 = .ok (.getfield 45, 3) := by decide +kernel
theorem dX11_noise_69 : decode cX11_noise 69 = .ok (.invokevirtual 225, 3) := by decide +kernel
theorem dX11_noise_72 : decode cX11_noise 72 = .ok (.ifCond .eq 6, 3) := by decide +kernel
theorem dX11_noise_75 : decode cX11_noise 75 = .ok (.iinc 4 1, 3) := by decide +kernel
theorem dX11_noise_78 : decode cX11_noise 78 = .ok (.iinc 5 1, 3) := by decide +kernel
theorem dX11_noise_81 : decode cX11_noise 81 = .ok (.goto (-26), 3) := by decide +kernel
theorem dX11_noise_84 : decode cX11_noise 84 = .ok (.iload 4, 2) := by decide +kernel
theorem dX11_noise_86 : decode cX11_noise 86 = .ok (.ifCond .le 10, 3) := by decide +kernel
theorem dX11_noise_89 : decode cX11_noise 89 = .ok (.aload_n 0, 1) := by decide +kernel
theorem dX11_noise_90 : decode cX11_noise 90 = .ok (.getfield 52, 3) := by decide +kernel
theorem dX11_noise_93 : decode cX11_noise 93 = .ok (.invokevirtual 194, 3) := by decide +kernel
theorem dX11_noise_96 : decode cX11_noise 96 = .ok (.iload 4, 2) := by decide +kernel
theorem dX11_noise_98 : decode cX11_noise 98 = .ok (.ireturn, 1) := by decide +kernel
theorem dX11_read_0 : decode cX11_read 0 = .ok (.aload_n 0, 1) := by decide +kernel
theorem dX11_read_1 : decode cX11_read 1 = .ok (.getfield 112, 3) := by decide +kernel
theorem dX11_read_4 : decode cX11_read 4 = .ok (.ifCond .ne 9, 3) := by decide +kernel
theorem dX11_read_7 : decode cX11_read 7 = .ok (.aload_n 0, 1) := by decide +kernel
theorem dX11_read_8 : decode cX11_read 8 = .ok (.iconst 0, 1) := by decide +kernel
theorem dX11_read_9 : decode cX11_read 9 = .ok (.invokevirtual 168, 3) := by decide +kernel
theorem dX11_read_12 : decode cX11_read 12 = .ok (.ireturn, 1) := by decide +kernel
theorem dX11_read_13 : decode cX11_read 13 = .ok (.iload_n 1, 1) := by decide +kernel
theorem dX11_read_14 : decode cX11_read 14 = .ok (.iconst 1, 1) := by decide +kernel
theorem dX11_read_15 : decode cX11_read 15 = .ok (.if_icmp .lt 10, 3) := by decide +kernel
theorem dX11_read_18 : decode cX11_read 18 = .ok (.iload_n 1, 1) := by decide +kernel
theorem dX11_read_19 : decode cX11_read 19 = .ok (.sipush 600, 3) := by decide +kernel
theorem dX11_read_22 : decode cX11_read 22 = .ok (.if_icmp .le 9, 3) := by decide +kernel
theorem dX11_read_25 : decode cX11_read 25 = .ok (.aload_n 0, 1) := by decide +kernel
theorem dX11_read_26 : decode cX11_read 26 = .ok (.iconst 2, 1) := by decide +kernel
theorem dX11_read_27 : decode cX11_read 27 = .ok (.invokevirtual 168, 3) := by decide +kernel
theorem dX11_read_30 : decode cX11_read 30 = .ok (.ireturn, 1) := by decide +kernel
theorem dX11_read_31 : decode cX11_read 31 = .ok (.aload_n 0, 1) := by decide +kernel
theorem dX11_read_32 : decode cX11_read 32 = .ok (.getfield 70, 3) := by decide +kernel
theorem dX11_read_35 : decode cX11_read 35 = .ok (.getfield 142, 3) := by decide +kernel
theorem dX11_read_38 : decode cX11_read 38 = .ok (.getfield 76, 3) := by decide +kernel
theorem dX11_read_41 : decode cX11_read 41 = .ok (.ifCond .ne 5, 3) := by decide +kernel
theorem dX11_read_44 : decode cX11_read 44 = .ok (.iconst 0, 1) := by decide +kernel
theorem dX11_read_45 : decode cX11_read 45 = .ok (.ireturn, 1) := by decide +kernel
theorem dX11_read_46 : decode cX11_read 46 = .ok (.aload_n 0, 1) := by decide +kernel
theorem dX11_read_47 : decode cX11_read 47 = .ok (.getfield 52, 3) := by decide +kernel
theorem dX11_read_50 : decode cX11_read 50 = .ok (.aload_n 0, 1) := by decide +kernel
theorem dX11_read_51 : decode cX11_read 51 = .ok (.getfield 70, 3) := by decide +kernel
theorem dX11_read_54 : decode cX11_read 54 = .ok (.invokevirtual 186, 3) := by decide +kernel
theorem dX11_read_57 : decode cX11_read 57 = .ok (.aload_n 0, 1) := by decide +kernel
theorem dX11_read_58 : decode cX11_read 58 = .ok (.getfield 70, 3) := by decide +kernel
theorem dX11_read_61 : decode cX11_read 61 = .ok (.iload_n 1, 1) := by decide +kernel
theorem dX11_read_62 : decode cX11_read 62 = .ok (.aload_n 0, 1) := by decide +kernel
theorem dX11_read_63 : decode cX11_read 63 = .ok (.getfield 31, 3) := by decide +kernel
theorem dX11_read_66 : decode cX11_read 66 = .ok (.invokevirtual 229, 3) := by decide +kernel
theorem dX11_read_69 : decode cX11_read 69 = .ok (.istore_n 2, 1) := by decide +kernel
theorem dX11_read_70 : decode cX11_read 70 = .ok (.aload_n 0, 1) := by decide +kernel
theorem dX11_read_71 : decode cX11_read 71 = .ok (.getfield 52, 3) := by decide +kernel
theorem dX11_read_74 : decode cX11_read 74 = .ok (.invokevirtual 194, 3) := by decide +kernel
theorem dX11_read_77 : decode cX11_read 77 = .ok (.iload_n 2, 1) := by decide +kernel
theorem dX11_read_78 : decode cX11_read 78 = .ok (.ireturn, 1) := by decide +kernel
theorem dX11_take_0 : decode cX11_take 0 = .ok (.aload_n 0, 1) := by decide +kernel
theorem dX11_take_1 : decode cX11_take 1 = .ok (.getfield 112, 3) := by decide +kernel
theorem dX11_take_4 : decode cX11_take 4 = .ok (.ifCond .ne 9, 3) := by decide +kernel
theorem dX11_take_7 : decode cX11_take 7 = .ok (.aload_n 0, 1) := by decide +kernel
theorem dX11_take_8 : decode cX11_take 8 = .ok (.iconst 0, 1) := by decide +kernel
theorem dX11_take_9 : decode cX11_take 9 = .ok (.invokevirtual 168, 3) := by decide +kernel
theorem dX11_take_12 : decode cX11_take 12 = .ok (.ireturn, 1) := by decide +kernel
theorem dX11_take_13 : decode cX11_take 13 = .ok (.aload_n 0, 1) := by decide +kernel
theorem dX11_take_14 : decode cX11_take 14 = .ok (.getfield 70, 3) := by decide +kernel
theorem dX11_take_17 : decode cX11_take 17 = .ok (.iload_n 1, 1) := by decide +kernel
theorem dX11_take_18 : decode cX11_take 18 = .ok (.invokevirtual 171, 3) := by decide +kernel
theorem dX11_take_21 : decode cX11_take 21 = .ok (.astore_n 2, 1) := by decide +kernel
theorem dX11_take_22 : decode cX11_take 22 = .ok (.aload_n 2, 1) := by decide +kernel
theorem dX11_take_23 : decode cX11_take 23 = .ok (.ifnull 13, 3) := by decide +kernel
theorem dX11_take_26 : decode cX11_take 26 = .ok (.aload_n 2, 1) := by decide +kernel
theorem dX11_take_27 : decode cX11_take 27 = .ok (.getfield 232, 3) := by decide +kernel
theorem dX11_take_30 : decode cX11_take 30 = .ok (.invokevirtual 181, 3) := by decide +kernel
theorem dX11_take_33 : decode cX11_take 33 = .ok (.ifCond .ne 9, 3) := by decide +kernel
theorem dX11_take_36 : decode cX11_take 36 = .ok (.aload_n 0, 1) := by decide +kernel
theorem dX11_take_37 : decode cX11_take 37 = .ok (.iconst 1, 1) := by decide +kernel
theorem dX11_take_38 : decode cX11_take 38 = .ok (.invokevirtual 168, 3) := by decide +kernel
theorem dX11_take_41 : decode cX11_take 41 = .ok (.ireturn, 1) := by decide +kernel
theorem dX11_take_42 : decode cX11_take 42 = .ok (.aload_n 0, 1) := by decide +kernel
theorem dX11_take_43 : decode cX11_take 43 = .ok (.getfield 52, 3) := by decide +kernel
theorem dX11_take_46 : decode cX11_take 46 = .ok (.aload_n 0, 1) := by decide +kernel
theorem dX11_take_47 : decode cX11_take 47 = .ok (.getfield 70, 3) := by decide +kernel
theorem dX11_take_50 : decode cX11_take 50 = .ok (.invokevirtual 186, 3) := by decide +kernel
theorem dX11_take_53 : decode cX11_take 53 = .ok (.aload_n 2, 1) := by decide +kernel
theorem dX11_take_54 : decode cX11_take 54 = .ok (.aload_n 0, 1) := by decide +kernel
theorem dX11_take_55 : decode cX11_take 55 = .ok (.getfield 25, 3) := by decide +kernel
theorem dX11_take_58 : decode cX11_take 58 = .ok (.invokevirtual 235, 3) := by decide +kernel
theorem dX11_take_61 : decode cX11_take 61 = .ok (.aload_n 0, 1) := by decide +kernel
theorem dX11_take_62 : decode cX11_take 62 = .ok (.getfield 52, 3) := by decide +kernel
theorem dX11_take_65 : decode cX11_take 65 = .ok (.invokevirtual 194, 3) := by decide +kernel
theorem dX11_take_68 : decode cX11_take 68 = .ok (.aload_n 0, 1) := by decide +kernel
theorem dX11_take_69 : decode cX11_take 69 = .ok (.getfield 25, 3) := by decide +kernel
theorem dX11_take_72 : decode cX11_take 72 = .ok (.getfield 76, 3) := by decide +kernel
theorem dX11_take_75 : decode cX11_take 75 = .ok (.ireturn, 1) := by decide +kernel
theorem dX11_hand_0 : decode cX11_hand 0 = .ok (.aload_n 0, 1) := by decide +kernel
theorem dX11_hand_1 : decode cX11_hand 1 = .ok (.getfield 25, 3) := by decide +kernel
theorem dX11_hand_4 : decode cX11_hand 4 = .ok (.iload_n 1, 1) := by decide +kernel
theorem dX11_hand_5 : decode cX11_hand 5 = .ok (.invokevirtual 201, 3) := by decide +kernel
theorem dX11_hand_8 : decode cX11_hand 8 = .ok (.ireturn, 1) := by decide +kernel
theorem dX11_renew_0 : decode cX11_renew 0 = .ok (.aload_n 0, 1) := by decide +kernel
theorem dX11_renew_1 : decode cX11_renew 1 = .ok (.getfield 112, 3) := by decide +kernel
theorem dX11_renew_4 : decode cX11_renew 4 = .ok (.ifCond .ne 9, 3) := by decide +kernel
theorem dX11_renew_7 : decode cX11_renew 7 = .ok (.aload_n 0, 1) := by decide +kernel
theorem dX11_renew_8 : decode cX11_renew 8 = .ok (.iconst 0, 1) := by decide +kernel
theorem dX11_renew_9 : decode cX11_renew 9 = .ok (.invokevirtual 168, 3) := by decide +kernel
theorem dX11_renew_12 : decode cX11_renew 12 = .ok (.ireturn, 1) := by decide +kernel
theorem dX11_renew_13 : decode cX11_renew 13 = .ok (.aload_n 0, 1) := by decide +kernel
theorem dX11_renew_14 : decode cX11_renew 14 = .ok (.getfield 70, 3) := by decide +kernel
theorem dX11_renew_17 : decode cX11_renew 17 = .ok (.iload_n 1, 1) := by decide +kernel
theorem dX11_renew_18 : decode cX11_renew 18 = .ok (.invokevirtual 171, 3) := by decide +kernel
theorem dX11_renew_21 : decode cX11_renew 21 = .ok (.astore_n 2, 1) := by decide +kernel
theorem dX11_renew_22 : decode cX11_renew 22 = .ok (.aload_n 2, 1) := by decide +kernel
theorem dX11_renew_23 : decode cX11_renew 23 = .ok (.ifnonnull 9, 3) := by decide +kernel
theorem dX11_renew_26 : decode cX11_renew 26 = .ok (.aload_n 0, 1) := by decide +kernel
theorem dX11_renew_27 : decode cX11_renew 27 = .ok (.iconst 1, 1) := by decide +kernel
theorem dX11_renew_28 : decode cX11_renew 28 = .ok (.invokevirtual 168, 3) := by decide +kernel
theorem dX11_renew_31 : decode cX11_renew 31 = .ok (.ireturn, 1) := by decide +kernel
theorem dX11_renew_32 : decode cX11_renew 32 = .ok (.aload_n 2, 1) := by decide +kernel
theorem dX11_renew_33 : decode cX11_renew 33 = .ok (.getfield 239, 3) := by decide +kernel
theorem dX11_renew_36 : decode cX11_renew 36 = .ok (.aload_n 2, 1) := by decide +kernel
theorem dX11_renew_37 : decode cX11_renew 37 = .ok (.getfield 242, 3) := by decide +kernel
theorem dX11_renew_40 : decode cX11_renew 40 = .ok (.if_icmp .lt 9, 3) := by decide +kernel
theorem dX11_renew_43 : decode cX11_renew 43 = .ok (.aload_n 0, 1) := by decide +kernel
theorem dX11_renew_44 : decode cX11_renew 44 = .ok (.iconst 2, 1) := by decide +kernel
theorem dX11_renew_45 : decode cX11_renew 45 = .ok (.invokevirtual 168, 3) := by decide +kernel
theorem dX11_renew_48 : decode cX11_renew 48 = .ok (.ireturn, 1) := by decide +kernel
theorem dX11_renew_49 : decode cX11_renew 49 = .ok (.aload_n 0, 1) := by decide +kernel
theorem dX11_renew_50 : decode cX11_renew 50 = .ok (.getfield 52, 3) := by decide +kernel
theorem dX11_renew_53 : decode cX11_renew 53 = .ok (.aload_n 0, 1) := by decide +kernel
theorem dX11_renew_54 : decode cX11_renew 54 = .ok (.getfield 70, 3) := by decide +kernel
theorem dX11_renew_57 : decode cX11_renew 57 = .ok (.invokevirtual 186, 3) := by decide +kernel
theorem dX11_renew_60 : decode cX11_renew 60 = .ok (.aload_n 2, 1) := by decide +kernel
theorem dX11_renew_61 : decode cX11_renew 61 = .ok (.aload_n 2, 1) := by decide +kernel
theorem dX11_renew_62 : decode cX11_renew 62 = .ok (.getfield 242, 3) := by decide +kernel
theorem dX11_renew_65 : decode cX11_renew 65 = .ok (.putfield 239, 3) := by decide +kernel
theorem dX11_renew_68 : decode cX11_renew 68 = .ok (.aload_n 0, 1) := by decide +kernel
theorem dX11_renew_69 : decode cX11_renew 69 = .ok (.getfield 52, 3) := by decide +kernel
theorem dX11_renew_72 : decode cX11_renew 72 = .ok (.invokevirtual 194, 3) := by decide +kernel
theorem dX11_renew_75 : decode cX11_renew 75 = .ok (.aload_n 2, 1) := by decide +kernel
theorem dX11_renew_76 : decode cX11_renew 76 = .ok (.getfield 239, 3) := by decide +kernel
theorem dX11_renew_79 : decode cX11_renew 79 = .ok (.ireturn, 1) := by decide +kernel
theorem dX11_channel_0 : decode cX11_channel 0 = .ok (.aload_n 0, 1) := by decide +kernel
theorem dX11_channel_1 : decode cX11_channel 1 = .ok (.getfield 70, 3) := by decide +kernel
theorem dX11_channel_4 : decode cX11_channel 4 = .ok (.iload_n 1, 1) := by decide +kernel
theorem dX11_channel_5 : decode cX11_channel 5 = .ok (.invokevirtual 171, 3) := by decide +kernel
theorem dX11_channel_8 : decode cX11_channel 8 = .ok (.astore_n 3, 1) := by decide +kernel
theorem dX11_channel_9 : decode cX11_channel 9 = .ok (.aload_n 3, 1) := by decide +kernel
theorem dX11_channel_10 : decode cX11_channel 10 = .ok (.ifnonnull 13, 3) := by decide +kernel
theorem dX11_channel_13 : decode cX11_channel 13 = .ok (.new 244, 3) := by decide +kernel
theorem dX11_channel_16 : decode cX11_channel 16 = .ok (.dup, 1) := by decide +kernel
theorem dX11_channel_17 : decode cX11_channel 17 = .ok (.ldc 246, 2) := by decide +kernel
theorem dX11_channel_19 : decode cX11_channel 19 = .ok (.invokespecial 248, 3) := by decide +kernel
theorem dX11_channel_22 : decode cX11_channel 22 = .ok (.athrow, 1) := by decide +kernel
theorem dX11_channel_23 : decode cX11_channel 23 = .ok (.iload_n 2, 1) := by decide +kernel
theorem dX11_channel_24 : decode cX11_channel 24 = .ok (.tableswitch 133 0 11 #[64, 69, 74, 82, 87, 92, 97, 102, 107, 115, 120, 128], 64) := by decide +kernel
theorem dX11_channel_88 : decode cX11_channel 88 = .ok (.aload_n 3, 1) := by decide +kernel
theorem dX11_channel_89 : decode cX11_channel 89 = .ok (.getfield 239, 3) := by decide +kernel
theorem dX11_channel_92 : decode cX11_channel 92 = .ok (.ireturn, 1) := by decide +kernel
theorem dX11_channel_93 : decode cX11_channel 93 = .ok (.aload_n 3, 1) := by decide +kernel
theorem dX11_channel_94 : decode cX11_channel 94 = .ok (.getfield 242, 3) := by decide +kernel
theorem dX11_channel_97 : decode cX11_channel 97 = .ok (.ireturn, 1) := by decide +kernel
theorem dX11_channel_98 : decode cX11_channel 98 = .ok (.aload_n 3, 1) := by decide +kernel
theorem dX11_channel_99 : decode cX11_channel 99 = .ok (.getfield 175, 3) := by decide +kernel
theorem dX11_channel_102 : decode cX11_channel 102 = .ok (.invokevirtual 181, 3) := by decide +kernel
theorem dX11_channel_105 : decode cX11_channel 105 = .ok (.ireturn, 1) := by decide +kernel
theorem dX11_channel_106 : decode cX11_channel 106 = .ok (.aload_n 3, 1) := by decide +kernel
theorem dX11_channel_107 : decode cX11_channel 107 = .ok (.getfield 251, 3) := by decide +kernel
theorem dX11_channel_110 : decode cX11_channel 110 = .ok (.ireturn, 1) := by decide +kernel
theorem dX11_channel_111 : decode cX11_channel 111 = .ok (.aload_n 3, 1) := by decide +kernel
theorem dX11_channel_112 : decode cX11_channel 112 = .ok (.getfield 254, 3) := by decide +kernel
theorem dX11_channel_115 : decode cX11_channel 115 = .ok (.ireturn, 1) := by decide +kernel
theorem dX11_channel_116 : decode cX11_channel 116 = .ok (.aload_n 3, 1) := by decide +kernel
theorem dX11_channel_117 : decode cX11_channel 117 = .ok (.getfield 257, 3) := by decide +kernel
theorem dX11_channel_120 : decode cX11_channel 120 = .ok (.ireturn, 1) := by decide +kernel
theorem dX11_channel_121 : decode cX11_channel 121 = .ok (.aload_n 3, 1) := by decide +kernel
theorem dX11_channel_122 : decode cX11_channel 122 = .ok (.getfield 260, 3) := by decide +kernel
theorem dX11_channel_125 : decode cX11_channel 125 = .ok (.ireturn, 1) := by decide +kernel
theorem dX11_channel_126 : decode cX11_channel 126 = .ok (.aload_n 3, 1) := by decide +kernel
theorem dX11_channel_127 : decode cX11_channel 127 = .ok (.getfield 263, 3) := by decide +kernel
theorem dX11_channel_130 : decode cX11_channel 130 = .ok (.ireturn, 1) := by decide +kernel
theorem dX11_channel_131 : decode cX11_channel 131 = .ok (.aload_n 3, 1) := by decide +kernel
theorem dX11_channel_132 : decode cX11_channel 132 = .ok (.getfield 232, 3) := by decide +kernel
theorem dX11_channel_135 : decode cX11_channel 135 = .ok (.invokevirtual 181, 3) := by decide +kernel
theorem dX11_channel_138 : decode cX11_channel 138 = .ok (.ireturn, 1) := by decide +kernel
theorem dX11_channel_139 : decode cX11_channel 139 = .ok (.aload_n 3, 1) := by decide +kernel
theorem dX11_channel_140 : decode cX11_channel 140 = .ok (.getfield 266, 3) := by decide +kernel
theorem dX11_channel_143 : decode cX11_channel 143 = .ok (.ireturn, 1) := by decide +kernel
theorem dX11_channel_144 : decode cX11_channel 144 = .ok (.aload_n 3, 1) := by decide +kernel
theorem dX11_channel_145 : decode cX11_channel 145 = .ok (.getfield 269, 3) := by decide +kernel
theorem dX11_channel_148 : decode cX11_channel 148 = .ok (.getfield 76, 3) := by decide +kernel
theorem dX11_channel_151 : decode cX11_channel 151 = .ok (.ireturn, 1) := by decide +kernel
theorem dX11_channel_152 : decode cX11_channel 152 = .ok (.aload_n 3, 1) := by decide +kernel
theorem dX11_channel_153 : decode cX11_channel 153 = .ok (.getfield 272, 3) := by decide +kernel
theorem dX11_channel_156 : decode cX11_channel 156 = .ok (.ireturn, 1) := by decide +kernel
theorem dX11_channel_157 : decode cX11_channel 157 = .ok (.new 244, 3) := by decide +kernel
theorem dX11_channel_160 : decode cX11_channel 160 = .ok (.dup, 1) := by decide +kernel
theorem dX11_channel_161 : decode cX11_channel 161 = .ok (.ldc_w 275, 3) := by decide +kernel
theorem dX11_channel_164 : decode cX11_channel 164 = .ok (.invokespecial 248, 3) := by decide +kernel
theorem dX11_channel_167 : decode cX11_channel 167 = .ok (.athrow, 1) := by decide +kernel
theorem dX11_event_0 : decode cX11_event 0 = .ok (.iload_n 1, 1) := by decide +kernel
theorem dX11_event_1 : decode cX11_event 1 = .ok (.ifCond .lt 18, 3) := by decide +kernel
theorem dX11_event_4 : decode cX11_event 4 = .ok (.iload_n 1, 1) := by decide +kernel
theorem dX11_event_5 : decode cX11_event 5 = .ok (.bipush 40, 2) := by decide +kernel
theorem dX11_event_7 : decode cX11_event 7 = .ok (.if_icmp .ge 12, 3) := by decide +kernel
theorem dX11_event_10 : decode cX11_event 10 = .ok (.iload_n 2, 1) := by decide +kernel
theorem dX11_event_11 : decode cX11_event 11 = .ok (.ifCond .lt 8, 3) := by decide +kernel
theorem dX11_event_14 : decode cX11_event 14 = .ok (.iload_n 2, 1) := by decide +kernel
theorem dX11_event_15 : decode cX11_event 15 = .ok (.iconst 5, 1) := by decide +kernel
theorem dX11_event_16 : decode cX11_event 16 = .ok (.if_icmp .lt 5, 3) := by decide +kernel
theorem dX11_event_19 : decode cX11_event 19 = .ok (.iconst (-1), 1) := by decide +kernel
theorem dX11_event_20 : decode cX11_event 20 = .ok (.ireturn, 1) := by decide +kernel
theorem dX11_event_21 : decode cX11_event 21 = .ok (.aload_n 0, 1) := by decide +kernel
theorem dX11_event_22 : decode cX11_event 22 = .ok (.getfield 70, 3) := by decide +kernel
theorem dX11_event_25 : decode cX11_event 25 = .ok (.getfield 277, 3) := by decide +kernel
theorem dX11_event_28 : decode cX11_event 28 = .ok (.aload_n 0, 1) := by decide +kernel
theorem dX11_event_29 : decode cX11_event 29 = .ok (.getfield 70, 3) := by decide +kernel
theorem dX11_event_32 : decode cX11_event 32 = .ok (.getfield 277, 3) := by decide +kernel
theorem dX11_event_35 : decode cX11_event 35 = .ok (.getfield 76, 3) := by decide +kernel
theorem dX11_event_38 : decode cX11_event 38 = .ok (.iconst 5, 1) := by decide +kernel
theorem dX11_event_39 : decode cX11_event 39 = .ok (.iload_n 1, 1) := by decide +kernel
theorem dX11_event_40 : decode cX11_event 40 = .ok (.iconst 1, 1) := by decide +kernel
theorem dX11_event_41 : decode cX11_event 41 = .ok (.iadd, 1) := by decide +kernel
theorem dX11_event_42 : decode cX11_event 42 = .ok (.imul, 1) := by decide +kernel
theorem dX11_event_43 : decode cX11_event 43 = .ok (.isub, 1) := by decide +kernel
theorem dX11_event_44 : decode cX11_event 44 = .ok (.iload_n 2, 1) := by decide +kernel
theorem dX11_event_45 : decode cX11_event 45 = .ok (.iadd, 1) := by decide +kernel
theorem dX11_event_46 : decode cX11_event 46 = .ok (.invokevirtual 201, 3) := by decide +kernel
theorem dX11_event_49 : decode cX11_event 49 = .ok (.ireturn, 1) := by decide +kernel
theorem dX11_stuff_0 : decode cX11_stuff 0 = .ok (.iload_n 1, 1) := by decide +kernel
theorem dX11_stuff_1 : decode cX11_stuff 1 = .ok (.invokestatic 280, 3) := by decide +kernel
theorem dX11_stuff_4 : decode cX11_stuff 4 = .ok (.ifCond .ne 5, 3) := by decide +kernel
theorem dX11_stuff_7 : decode cX11_stuff 7 = .ok (.iconst (-1), 1) := by decide +kernel
theorem dX11_stuff_8 : decode cX11_stuff 8 = .ok (.ireturn, 1) := by decide +kernel
theorem dX11_stuff_9 : decode cX11_stuff 9 = .ok (.aload_n 0, 1) := by decide +kernel
theorem dX11_stuff_10 : decode cX11_stuff 10 = .ok (.getfield 31, 3) := by decide +kernel
theorem dX11_stuff_13 : decode cX11_stuff 13 = .ok (.getfield 90, 3) := by decide +kernel
theorem dX11_stuff_16 : decode cX11_stuff 16 = .ok (.getfield 126, 3) := by decide +kernel
theorem dX11_stuff_19 : decode cX11_stuff 19 = .ok (.aload_n 0, 1) := by decide +kernel
theorem dX11_stuff_20 : decode cX11_stuff 20 = .ok (.getfield 12, 3) := by decide +kernel
theorem dX11_stuff_23 : decode cX11_stuff 23 = .ok (.getfield 73, 3) := by decide +kernel
theorem dX11_stuff_26 : decode cX11_stuff 26 = .ok (.iload_n 1, 1) := by decide +kernel
theorem dX11_stuff_27 : decode cX11_stuff 27 = .ok (.aload_n 0, 1) := by decide +kernel
theorem dX11_stuff_28 : decode cX11_stuff 28 = .ok (.getfield 21, 3) := by decide +kernel
theorem dX11_stuff_31 : decode cX11_stuff 31 = .ok (.invokevirtual 283, 3) := by decide +kernel
theorem dX11_stuff_34 : decode cX11_stuff 34 = .ok (.aload_n 0, 1) := by decide +kernel
theorem dX11_stuff_35 : decode cX11_stuff 35 = .ok (.getfield 12, 3) := by decide +kernel
theorem dX11_stuff_38 : decode cX11_stuff 38 = .ok (.getfield 73, 3) := by decide +kernel
theorem dX11_stuff_41 : decode cX11_stuff 41 = .ok (.invokevirtual 103, 3) := by decide +kernel
theorem dX11_stuff_44 : decode cX11_stuff 44 = .ok (.aload_n 0, 1) := by decide +kernel
theorem dX11_stuff_45 : decode cX11_stuff 45 = .ok (.getfield 21, 3) := by decide +kernel
theorem dX11_stuff_48 : decode cX11_stuff 48 = .ok (.getfield 76, 3) := by decide +kernel
theorem dX11_stuff_51 : decode cX11_stuff 51 = .ok (.ireturn, 1) := by decide +kernel
theorem dX11_unstuff_0 : decode cX11_unstuff 0 = .ok (.iload_n 1, 1) := by decide +kernel
theorem dX11_unstuff_1 : decode cX11_unstuff 1 = .ok (.invokestatic 280, 3) := by decide +kernel
theorem dX11_unstuff_4 : decode cX11_unstuff 4 = .ok (.ifCond .ne 5, 3) := by decide +kernel
theorem dX11_unstuff_7 : decode cX11_unstuff 7 = .ok (.iconst (-1), 1) := by decide +kernel
theorem dX11_unstuff_8 : decode cX11_unstuff 8 = .ok (.ireturn, 1) := by decide +kernel
theorem dX11_unstuff_9 : decode cX11_unstuff 9 = .ok (.aload_n 0, 1) := by decide +kernel
theorem dX11_unstuff_10 : decode cX11_unstuff 10 = .ok (.getfield 31, 3) := by decide +kernel
theorem dX11_unstuff_13 : decode cX11_unstuff 13 = .ok (.getfield 287, 3) := by decide +kernel
theorem dX11_unstuff_16 : decode cX11_unstuff 16 = .ok (.astore_n 2, 1) := by decide +kernel
theorem dX11_unstuff_17 : decode cX11_unstuff 17 = .ok (.aload_n 0, 1) := by decide +kernel
theorem dX11_unstuff_18 : decode cX11_unstuff 18 = .ok (.getfield 31, 3) := by decide +kernel
theorem dX11_unstuff_21 : decode cX11_unstuff 21 = .ok (.getfield 90, 3) := by decide +kernel
theorem dX11_unstuff_24 : decode cX11_unstuff 24 = .ok (.getfield 126, 3) := by decide +kernel
theorem dX11_unstuff_27 : decode cX11_unstuff 27 = .ok (.aload_n 0, 1) := by decide +kernel
theorem dX11_unstuff_28 : decode cX11_unstuff 28 = .ok (.getfield 12, 3) := by decide +kernel
theorem dX11_unstuff_31 : decode cX11_unstuff 31 = .ok (.getfield 73, 3) := by decide +kernel
theorem dX11_unstuff_34 : decode cX11_unstuff 34 = .ok (.iconst 0, 1) := by decide +kernel
theorem dX11_unstuff_35 : decode cX11_unstuff 35 = .ok (.aload_n 0, 1) := by decide +kernel
theorem dX11_unstuff_36 : decode cX11_unstuff 36 = .ok (.getfield 12, 3) := by decide +kernel
theorem dX11_unstuff_39 : decode cX11_unstuff 39 = .ok (.getfield 73, 3) := by decide +kernel
theorem dX11_unstuff_42 : decode cX11_unstuff 42 = .ok (.getfield 76, 3) := by decide +kernel
theorem dX11_unstuff_45 : decode cX11_unstuff 45 = .ok (.iload_n 1, 1) := by decide +kernel
theorem dX11_unstuff_46 : decode cX11_unstuff 46 = .ok (.aload_n 2, 1) := by decide +kernel
theorem dX11_unstuff_47 : decode cX11_unstuff 47 = .ok (.invokevirtual 290, 3) := by decide +kernel
theorem dX11_unstuff_50 : decode cX11_unstuff 50 = .ok (.istore_n 3, 1) := by decide +kernel
theorem dX11_unstuff_51 : decode cX11_unstuff 51 = .ok (.iload_n 3, 1) := by decide +kernel
theorem dX11_unstuff_52 : decode cX11_unstuff 52 = .ok (.iconst (-1), 1) := by decide +kernel
theorem dX11_unstuff_53 : decode cX11_unstuff 53 = .ok (.if_icmp .eq 8, 3) := by decide +kernel
theorem dX11_unstuff_56 : decode cX11_unstuff 56 = .ok (.bipush (-2), 2) := by decide +kernel
theorem dX11_unstuff_58 : decode cX11_unstuff 58 = .ok (.iload_n 3, 1) := by decide +kernel
theorem dX11_unstuff_59 : decode cX11_unstuff 59 = .ok (.isub, 1) := by decide +kernel
theorem dX11_unstuff_60 : decode cX11_unstuff 60 = .ok (.ireturn, 1) := by decide +kernel
theorem dX11_unstuff_61 : decode cX11_unstuff 61 = .ok (.aload_n 0, 1) := by decide +kernel
theorem dX11_unstuff_62 : decode cX11_unstuff 62 = .ok (.getfield 21, 3) := by decide +kernel
theorem dX11_unstuff_65 : decode cX11_unstuff 65 = .ok (.aload_n 2, 1) := by decide +kernel
theorem dX11_unstuff_66 : decode cX11_unstuff 66 = .ok (.invokevirtual 294, 3) := by decide +kernel
theorem dX11_unstuff_69 : decode cX11_unstuff 69 = .ok (.aload_n 0, 1) := by decide +kernel
theorem dX11_unstuff_70 : decode cX11_unstuff 70 = .ok (.getfield 12, 3) := by decide +kernel
theorem dX11_unstuff_73 : decode cX11_unstuff 73 = .ok (.getfield 73, 3) := by decide +kernel
theorem dX11_unstuff_76 : decode cX11_unstuff 76 = .ok (.invokevirtual 103, 3) := by decide +kernel
theorem dX11_unstuff_79 : decode cX11_unstuff 79 = .ok (.aload_n 0, 1) := by decide +kernel
theorem dX11_unstuff_80 : decode cX11_unstuff 80 = .ok (.getfield 21, 3) := by decide +kernel
theorem dX11_unstuff_83 : decode cX11_unstuff 83 = .ok (.getfield 76, 3) := by decide +kernel
theorem dX11_unstuff_86 : decode cX11_unstuff 86 = .ok (.ireturn, 1) := by decide +kernel
theorem dX11_isWay_0 : decode cX11_isWay 0 = .ok (.iload_n 0, 1) := by decide +kernel
theorem dX11_isWay_1 : decode cX11_isWay 1 = .ok (.ifCond .eq 13, 3) := by decide +kernel
theorem dX11_isWay_4 : decode cX11_isWay 4 = .ok (.iload_n 0, 1) := by decide +kernel
theorem dX11_isWay_5 : decode cX11_isWay 5 = .ok (.iconst 1, 1) := by decide +kernel
theorem dX11_isWay_6 : decode cX11_isWay 6 = .ok (.if_icmp .eq 8, 3) := by decide +kernel
theorem dX11_isWay_9 : decode cX11_isWay 9 = .ok (.iload_n 0, 1) := by decide +kernel
theorem dX11_isWay_10 : decode cX11_isWay 10 = .ok (.iconst 2, 1) := by decide +kernel
theorem dX11_isWay_11 : decode cX11_isWay 11 = .ok (.if_icmp .ne 7, 3) := by decide +kernel
theorem dX11_isWay_14 : decode cX11_isWay 14 = .ok (.iconst 1, 1) := by decide +kernel
theorem dX11_isWay_15 : decode cX11_isWay 15 = .ok (.goto 4, 3) := by decide +kernel
theorem dX11_isWay_18 : decode cX11_isWay 18 = .ok (.iconst 0, 1) := by decide +kernel
theorem dX11_isWay_19 : decode cX11_isWay 19 = .ok (.ireturn, 1) := by decide +kernel
theorem dX11_box_0 : decode cX11_box 0 = .ok (.aload_n 0, 1) := by decide +kernel
theorem dX11_box_1 : decode cX11_box 1 = .ok (.getfield 21, 3) := by decide +kernel
theorem dX11_box_4 : decode cX11_box 4 = .ok (.iload_n 1, 1) := by decide +kernel
theorem dX11_box_5 : decode cX11_box 5 = .ok (.invokevirtual 201, 3) := by decide +kernel
theorem dX11_box_8 : decode cX11_box 8 = .ok (.ireturn, 1) := by decide +kernel
theorem dX11_shortest_0 : decode cX11_shortest 0 = .ok (.iconst 0, 1) := by decide +kernel
theorem dX11_shortest_1 : decode cX11_shortest 1 = .ok (.istore_n 1, 1) := by decide +kernel
theorem dX11_shortest_2 : decode cX11_shortest 2 = .ok (.aload_n 0, 1) := by decide +kernel
theorem dX11_shortest_3 : decode cX11_shortest 3 = .ok (.iconst 0, 1) := by decide +kernel
theorem dX11_shortest_4 : decode cX11_shortest 4 = .ok (.invokevirtual 296, 3) := by decide +kernel
theorem dX11_shortest_7 : decode cX11_shortest 7 = .ok (.istore_n 2, 1) := by decide +kernel
theorem dX11_shortest_8 : decode cX11_shortest 8 = .ok (.iconst 1, 1) := by decide +kernel
theorem dX11_shortest_9 : decode cX11_shortest 9 = .ok (.istore_n 3, 1) := by decide +kernel
theorem dX11_shortest_10 : decode cX11_shortest 10 = .ok (.iload_n 3, 1) := by decide +kernel
theorem dX11_shortest_11 : decode cX11_shortest 11 = .ok (.iconst 2, 1) := by decide +kernel
theorem dX11_shortest_12 : decode cX11_shortest 12 = .ok (.if_icmp .gt 27, 3) := by decide +kernel
theorem dX11_shortest_15 : decode cX11_shortest 15 = .ok (.aload_n 0, 1) := by decide +kernel
theorem dX11_shortest_16 : decode cX11_shortest 16 = .ok (.iload_n 3, 1) := by decide +kernel
theorem dX11_shortest_17 : decode cX11_shortest 17 = .ok (.invokevirtual 296, 3) := by decide +kernel
theorem dX11_shortest_20 : decode cX11_shortest 20 = .ok (.istore 4, 2) := by decide +kernel
theorem dX11_shortest_22 : decode cX11_shortest 22 = .ok (.iload 4, 2) := by decide +kernel
theorem dX11_shortest_24 : decode cX11_shortest 24 = .ok (.iload_n 2, 1) := by decide +kernel
theorem dX11_shortest_25 : decode cX11_shortest 25 = .ok (.if_icmp .ge 8, 3) := by decide +kernel
theorem dX11_shortest_28 : decode cX11_shortest 28 = .ok (.iload_n 3, 1) := by decide +kernel
theorem dX11_shortest_29 : decode cX11_shortest 29 = .ok (.istore_n 1, 1) := by decide +kernel
theorem dX11_shortest_30 : decode cX11_shortest 30 = .ok (.iload 4, 2) := by decide +kernel
theorem dX11_shortest_32 : decode cX11_shortest 32 = .ok (.istore_n 2, 1) := by decide +kernel
theorem dX11_shortest_33 : decode cX11_shortest 33 = .ok (.iinc 3 1, 3) := by decide +kernel
theorem dX11_shortest_36 : decode cX11_shortest 36 = .ok (.goto (-26), 3) := by decide +kernel
theorem dX11_shortest_39 : decode cX11_shortest 39 = .ok (.iload_n 1, 1) := by decide +kernel
theorem dX11_shortest_40 : decode cX11_shortest 40 = .ok (.ireturn, 1) := by decide +kernel
theorem dX11_stuffedLength_0 : decode cX11_stuffedLength 0 = .ok (.aload_n 0, 1) := by decide +kernel
theorem dX11_stuffedLength_1 : decode cX11_stuffedLength 1 = .ok (.getfield 31, 3) := by decide +kernel
theorem dX11_stuffedLength_4 : decode cX11_stuffedLength 4 = .ok (.getfield 90, 3) := by decide +kernel
theorem dX11_stuffedLength_7 : decode cX11_stuffedLength 7 = .ok (.getfield 126, 3) := by decide +kernel
theorem dX11_stuffedLength_10 : decode cX11_stuffedLength 10 = .ok (.aload_n 0, 1) := by decide +kernel
theorem dX11_stuffedLength_11 : decode cX11_stuffedLength 11 = .ok (.getfield 12, 3) := by decide +kernel
theorem dX11_stuffedLength_14 : decode cX11_stuffedLength 14 = .ok (.getfield 73, 3) := by decide +kernel
theorem dX11_stuffedLength_17 : decode cX11_stuffedLength 17 = .ok (.iload_n 1, 1) := by decide +kernel
theorem dX11_stuffedLength_18 : decode cX11_stuffedLength 18 = .ok (.aload_n 0, 1) := by decide +kernel
theorem dX11_stuffedLength_19 : decode cX11_stuffedLength 19 = .ok (.getfield 31, 3) := by decide +kernel
theorem dX11_stuffedLength_22 : decode cX11_stuffedLength 22 = .ok (.getfield 299, 3) := by decide +kernel
theorem dX11_stuffedLength_25 : decode cX11_stuffedLength 25 = .ok (.invokevirtual 283, 3) := by decide +kernel
theorem dX11_stuffedLength_28 : decode cX11_stuffedLength 28 = .ok (.aload_n 0, 1) := by decide +kernel
theorem dX11_stuffedLength_29 : decode cX11_stuffedLength 29 = .ok (.getfield 31, 3) := by decide +kernel
theorem dX11_stuffedLength_32 : decode cX11_stuffedLength 32 = .ok (.getfield 299, 3) := by decide +kernel
theorem dX11_stuffedLength_35 : decode cX11_stuffedLength 35 = .ok (.getfield 76, 3) := by decide +kernel
theorem dX11_stuffedLength_38 : decode cX11_stuffedLength 38 = .ok (.ireturn, 1) := by decide +kernel
theorem dX11_bound_0 : decode cX11_bound 0 = .ok (.iload_n 1, 1) := by decide +kernel
theorem dX11_bound_1 : decode cX11_bound 1 = .ok (.ifCond .lt 10, 3) := by decide +kernel
theorem dX11_bound_4 : decode cX11_bound 4 = .ok (.iload_n 1, 1) := by decide +kernel
theorem dX11_bound_5 : decode cX11_bound 5 = .ok (.sipush 300, 3) := by decide +kernel
theorem dX11_bound_8 : decode cX11_bound 8 = .ok (.if_icmp .le 5, 3) := by decide +kernel
theorem dX11_bound_11 : decode cX11_bound 11 = .ok (.iconst (-1), 1) := by decide +kernel
theorem dX11_bound_12 : decode cX11_bound 12 = .ok (.ireturn, 1) := by decide +kernel
theorem dX11_bound_13 : decode cX11_bound 13 = .ok (.aload_n 0, 1) := by decide +kernel
theorem dX11_bound_14 : decode cX11_bound 14 = .ok (.getfield 31, 3) := by decide +kernel
theorem dX11_bound_17 : decode cX11_bound 17 = .ok (.getfield 90, 3) := by decide +kernel
theorem dX11_bound_20 : decode cX11_bound 20 = .ok (.getfield 126, 3) := by decide +kernel
theorem dX11_bound_23 : decode cX11_bound 23 = .ok (.iload_n 1, 1) := by decide +kernel
theorem dX11_bound_24 : decode cX11_bound 24 = .ok (.invokevirtual 302, 3) := by decide +kernel
theorem dX11_bound_27 : decode cX11_bound 27 = .ok (.ireturn, 1) := by decide +kernel
theorem dX11_frame_0 : decode cX11_frame 0 = .ok (.iload_n 2, 1) := by decide +kernel
theorem dX11_frame_1 : decode cX11_frame 1 = .ok (.ifCond .lt 26, 3) := by decide +kernel
theorem dX11_frame_4 : decode cX11_frame 4 = .ok (.iload_n 2, 1) := by decide +kernel
theorem dX11_frame_5 : decode cX11_frame 5 = .ok (.iconst 4, 1) := by decide +kernel
theorem dX11_frame_6 : decode cX11_frame 6 = .ok (.if_icmp .gt 21, 3) := by decide +kernel
theorem dX11_frame_9 : decode cX11_frame 9 = .ok (.aload_n 0, 1) := by decide +kernel
theorem dX11_frame_10 : decode cX11_frame 10 = .ok (.getfield 38, 3) := by decide +kernel
theorem dX11_frame_13 : decode cX11_frame 13 = .ok (.aload_n 0, 1) := by decide +kernel
theorem dX11_frame_14 : decode cX11_frame 14 = .ok (.getfield 70, 3) := by decide +kernel
theorem dX11_frame_17 : decode cX11_frame 17 = .ok (.getfield 142, 3) := by decide +kernel
theorem dX11_frame_20 : decode cX11_frame 20 = .ok (.iload_n 1, 1) := by decide +kernel
theorem dX11_frame_21 : decode cX11_frame 21 = .ok (.invokevirtual 305, 3) := by decide +kernel
theorem dX11_frame_24 : decode cX11_frame 24 = .ok (.ifCond .ne 5, 3) := by decide +kernel
theorem dX11_frame_27 : decode cX11_frame 27 = .ok (.iconst (-1), 1) := by decide +kernel
theorem dX11_frame_28 : decode cX11_frame 28 = .ok (.ireturn, 1) := by decide +kernel
theorem dX11_frame_29 : decode cX11_frame 29 = .ok (.iload_n 2, 1) := by decide +kernel
theorem dX11_frame_30 : decode cX11_frame 30 = .ok (.ifCond .ne 11, 3) := by decide +kernel
theorem dX11_frame_33 : decode cX11_frame 33 = .ok (.aload_n 0, 1) := by decide +kernel
theorem dX11_frame_34 : decode cX11_frame 34 = .ok (.getfield 38, 3) := by decide +kernel
theorem dX11_frame_37 : decode cX11_frame 37 = .ok (.getfield 309, 3) := by decide +kernel
theorem dX11_frame_40 : decode cX11_frame 40 = .ok (.ireturn, 1) := by decide +kernel
theorem dX11_frame_41 : decode cX11_frame 41 = .ok (.iload_n 2, 1) := by decide +kernel
theorem dX11_frame_42 : decode cX11_frame 42 = .ok (.iconst 1, 1) := by decide +kernel
theorem dX11_frame_43 : decode cX11_frame 43 = .ok (.if_icmp .ne 11, 3) := by decide +kernel
theorem dX11_frame_46 : decode cX11_frame 46 = .ok (.aload_n 0, 1) := by decide +kernel
theorem dX11_frame_47 : decode cX11_frame 47 = .ok (.getfield 38, 3) := by decide +kernel
theorem dX11_frame_50 : decode cX11_frame 50 = .ok (.getfield 312, 3) := by decide +kernel
theorem dX11_frame_53 : decode cX11_frame 53 = .ok (.ireturn, 1) := by decide +kernel
theorem dX11_frame_54 : decode cX11_frame 54 = .ok (.aload_n 0, 1) := by decide +kernel
theorem dX11_frame_55 : decode cX11_frame 55 = .ok (.getfield 31, 3) := by decide +kernel
theorem dX11_frame_58 : decode cX11_frame 58 = .ok (.aload_n 0, 1) := by decide +kernel
theorem dX11_frame_59 : decode cX11_frame 59 = .ok (.getfield 70, 3) := by decide +kernel
theorem dX11_frame_62 : decode cX11_frame 62 = .ok (.getfield 142, 3) := by decide +kernel
theorem dX11_frame_65 : decode cX11_frame 65 = .ok (.aload_n 0, 1) := by decide +kernel
theorem dX11_frame_66 : decode cX11_frame 66 = .ok (.getfield 38, 3) := by decide +kernel
theorem dX11_frame_69 : decode cX11_frame 69 = .ok (.getfield 309, 3) := by decide +kernel
theorem dX11_frame_72 : decode cX11_frame 72 = .ok (.aload_n 0, 1) := by decide +kernel
theorem dX11_frame_73 : decode cX11_frame 73 = .ok (.getfield 38, 3) := by decide +kernel
theorem dX11_frame_76 : decode cX11_frame 76 = .ok (.getfield 312, 3) := by decide +kernel
theorem dX11_frame_79 : decode cX11_frame 79 = .ok (.invokevirtual 315, 3) := by decide +kernel
theorem dX11_frame_82 : decode cX11_frame 82 = .ok (.istore_n 3, 1) := by decide +kernel
theorem dX11_frame_83 : decode cX11_frame 83 = .ok (.iload_n 2, 1) := by decide +kernel
theorem dX11_frame_84 : decode cX11_frame 84 = .ok (.iconst 2, 1) := by decide +kernel
theorem dX11_frame_85 : decode cX11_frame 85 = .ok (.if_icmp .ne 5, 3) := by decide +kernel
theorem dX11_frame_88 : decode cX11_frame 88 = .ok (.iload_n 3, 1) := by decide +kernel
theorem dX11_frame_89 : decode cX11_frame 89 = .ok (.ireturn, 1) := by decide +kernel
theorem dX11_frame_90 : decode cX11_frame 90 = .ok (.iload_n 3, 1) := by decide +kernel
theorem dX11_frame_91 : decode cX11_frame 91 = .ok (.iconst 2, 1) := by decide +kernel
theorem dX11_frame_92 : decode cX11_frame 92 = .ok (.if_icmp .eq 8, 3) := by decide +kernel
theorem dX11_frame_95 : decode cX11_frame 95 = .ok (.iload_n 3, 1) := by decide +kernel
theorem dX11_frame_96 : decode cX11_frame 96 = .ok (.iconst 3, 1) := by decide +kernel
theorem dX11_frame_97 : decode cX11_frame 97 = .ok (.if_icmp .ne 5, 3) := by decide +kernel
theorem dX11_frame_100 : decode cX11_frame 100 = .ok (.iconst (-1), 1) := by decide +kernel
theorem dX11_frame_101 : decode cX11_frame 101 = .ok (.ireturn, 1) := by decide +kernel
theorem dX11_frame_102 : decode cX11_frame 102 = .ok (.iload_n 2, 1) := by decide +kernel
theorem dX11_frame_103 : decode cX11_frame 103 = .ok (.iconst 3, 1) := by decide +kernel
theorem dX11_frame_104 : decode cX11_frame 104 = .ok (.if_icmp .ne 16, 3) := by decide +kernel
theorem dX11_frame_107 : decode cX11_frame 107 = .ok (.aload_n 0, 1) := by decide +kernel
theorem dX11_frame_108 : decode cX11_frame 108 = .ok (.getfield 31, 3) := by decide +kernel
theorem dX11_frame_111 : decode cX11_frame 111 = .ok (.getfield 319, 3) := by decide +kernel
theorem dX11_frame_114 : decode cX11_frame 114 = .ok (.bipush 6, 2) := by decide +kernel
theorem dX11_frame_116 : decode cX11_frame 116 = .ok (.ishr, 1) := by decide +kernel
theorem dX11_frame_117 : decode cX11_frame 117 = .ok (.goto 13, 3) := by decide +kernel
theorem dX11_frame_120 : decode cX11_frame 120 = .ok (.aload_n 0, 1) := by decide +kernel
theorem dX11_frame_121 : decode cX11_frame 121 = .ok (.getfield 31, 3) := by decide +kernel
theorem dX11_frame_124 : decode cX11_frame 124 = .ok (.getfield 319, 3) := by decide +kernel
theorem dX11_frame_127 : decode cX11_frame 127 = .ok (.bipush 15, 2) := by decide +kernel
theorem dX11_frame_129 : decode cX11_frame 129 = .ok (.iand, 1) := by decide +kernel
theorem dX11_frame_130 : decode cX11_frame 130 = .ok (.ireturn, 1) := by decide +kernel
theorem dX11_harm_0 : decode cX11_harm 0 = .ok (.aload_n 0, 1) := by decide +kernel
theorem dX11_harm_1 : decode cX11_harm 1 = .ok (.getfield 112, 3) := by decide +kernel
theorem dX11_harm_4 : decode cX11_harm 4 = .ok (.ifCond .eq 24, 3) := by decide +kernel
theorem dX11_harm_7 : decode cX11_harm 7 = .ok (.aload_n 0, 1) := by decide +kernel
theorem dX11_harm_8 : decode cX11_harm 8 = .ok (.getfield 70, 3) := by decide +kernel
theorem dX11_harm_11 : decode cX11_harm 11 = .ok (.getfield 142, 3) := by decide +kernel
theorem dX11_harm_14 : decode cX11_harm 14 = .ok (.iload_n 1, 1) := by decide +kernel
theorem dX11_harm_15 : decode cX11_harm 15 = .ok (.invokevirtual 204, 3) := by decide +kernel
theorem dX11_harm_18 : decode cX11_harm 18 = .ok (.ifCond .eq 10, 3) := by decide +kernel
theorem dX11_harm_21 : decode cX11_harm 21 = .ok (.iload_n 2, 1) := by decide +kernel
theorem dX11_harm_22 : decode cX11_harm 22 = .ok (.invokestatic 208, 3) := by decide +kernel
theorem dX11_harm_25 : decode cX11_harm 25 = .ok (.ifCond .ne 6, 3) := by decide +kernel
theorem dX11_harm_28 : decode cX11_harm 28 = .ok (.ldc 122, 2) := by decide +kernel
theorem dX11_harm_30 : decode cX11_harm 30 = .ok (.ireturn, 1) := by decide +kernel
theorem dX11_harm_31 : decode cX11_harm 31 = .ok (.aload_n 0, 1) := by decide +kernel
theorem dX11_harm_32 : decode cX11_harm 32 = .ok (.getfield 59, 3) := by decide +kernel
theorem dX11_harm_35 : decode cX11_harm 35 = .ok (.aload_n 0, 1) := by decide +kernel
theorem dX11_harm_36 : decode cX11_harm 36 = .ok (.getfield 70, 3) := by decide +kernel
theorem dX11_harm_39 : decode cX11_harm 39 = .ok (.invokevirtual 322, 3) := by decide +kernel
theorem dX11_harm_42 : decode cX11_harm 42 = .ok (.aload_n 0, 1) := by decide +kernel
theorem dX11_harm_43 : decode cX11_harm 43 = .ok (.getfield 59, 3) := by decide +kernel
theorem dX11_harm_46 : decode cX11_harm 46 = .ok (.sipush 600, 3) := by decide +kernel
theorem dX11_harm_49 : decode cX11_harm 49 = .ok (.aload_n 0, 1) := by decide +kernel
theorem dX11_harm_50 : decode cX11_harm 50 = .ok (.getfield 31, 3) := by decide +kernel
theorem dX11_harm_53 : decode cX11_harm 53 = .ok (.invokevirtual 229, 3) := by decide +kernel
theorem dX11_harm_56 : decode cX11_harm 56 = .ok (.pop, 1) := by decide +kernel
theorem dX11_harm_57 : decode cX11_harm 57 = .ok (.aload_n 0, 1) := by decide +kernel
theorem dX11_harm_58 : decode cX11_harm 58 = .ok (.getfield 59, 3) := by decide +kernel
theorem dX11_harm_61 : decode cX11_harm 61 = .ok (.invokevirtual 324, 3) := by decide +kernel
theorem dX11_harm_64 : decode cX11_harm 64 = .ok (.istore_n 3, 1) := by decide +kernel
theorem dX11_harm_65 : decode cX11_harm 65 = .ok (.aload_n 0, 1) := by decide +kernel
theorem dX11_harm_66 : decode cX11_harm 66 = .ok (.getfield 59, 3) := by decide +kernel
theorem dX11_harm_69 : decode cX11_harm 69 = .ok (.aload_n 0, 1) := by decide +kernel
theorem dX11_harm_70 : decode cX11_harm 70 = .ok (.getfield 70, 3) := by decide +kernel
theorem dX11_harm_73 : decode cX11_harm 73 = .ok (.invokevirtual 322, 3) := by decide +kernel
theorem dX11_harm_76 : decode cX11_harm 76 = .ok (.aload_n 0, 1) := by decide +kernel
theorem dX11_harm_77 : decode cX11_harm 77 = .ok (.getfield 59, 3) := by decide +kernel
theorem dX11_harm_80 : decode cX11_harm 80 = .ok (.getfield 142, 3) := by decide +kernel
theorem dX11_harm_83 : decode cX11_harm 83 = .ok (.iload_n 1, 1) := by decide +kernel
theorem dX11_harm_84 : decode cX11_harm 84 = .ok (.aload_n 0, 1) := by decide +kernel
theorem dX11_harm_85 : decode cX11_harm 85 = .ok (.getfield 70, 3) := by decide +kernel
theorem dX11_harm_88 : decode cX11_harm 88 = .ok (.getfield 142, 3) := by decide +kernel
theorem dX11_harm_91 : decode cX11_harm 91 = .ok (.iload_n 1, 1) := by decide +kernel
theorem dX11_harm_92 : decode cX11_harm 92 = .ok (.invokevirtual 201, 3) := by decide +kernel
theorem dX11_harm_95 : decode cX11_harm 95 = .ok (.iload_n 2, 1) := by decide +kernel
theorem dX11_harm_96 : decode cX11_harm 96 = .ok (.ixor, 1) := by decide +kernel
theorem dX11_harm_97 : decode cX11_harm 97 = .ok (.invokevirtual 211, 3) := by decide +kernel
theorem dX11_harm_100 : decode cX11_harm 100 = .ok (.aload_n 0, 1) := by decide +kernel
theorem dX11_harm_101 : decode cX11_harm 101 = .ok (.getfield 59, 3) := by decide +kernel
theorem dX11_harm_104 : decode cX11_harm 104 = .ok (.sipush 600, 3) := by decide +kernel
theorem dX11_harm_107 : decode cX11_harm 107 = .ok (.aload_n 0, 1) := by decide +kernel
theorem dX11_harm_108 : decode cX11_harm 108 = .ok (.getfield 31, 3) := by decide +kernel
theorem dX11_harm_111 : decode cX11_harm 111 = .ok (.invokevirtual 229, 3) := by decide +kernel
theorem dX11_harm_114 : decode cX11_harm 114 = .ok (.pop, 1) := by decide +kernel
theorem dX11_harm_115 : decode cX11_harm 115 = .ok (.iload_n 3, 1) := by decide +kernel
theorem dX11_harm_116 : decode cX11_harm 116 = .ok (.aload_n 0, 1) := by decide +kernel
theorem dX11_harm_117 : decode cX11_harm 117 = .ok (.getfield 59, 3) := by decide +kernel
theorem dX11_harm_120 : decode cX11_harm 120 = .ok (.invokevirtual 324, 3) := by decide +kernel
theorem dX11_harm_123 : decode cX11_harm 123 = .ok (.isub, 1) := by decide +kernel
theorem dX11_harm_124 : decode cX11_harm 124 = .ok (.ireturn, 1) := by decide +kernel
theorem dX11_blind_0 : decode cX11_blind 0 = .ok (.aload_n 0, 1) := by decide +kernel
theorem dX11_blind_1 : decode cX11_blind 1 = .ok (.getfield 38, 3) := by decide +kernel
theorem dX11_blind_4 : decode cX11_blind 4 = .ok (.aload_n 0, 1) := by decide +kernel
theorem dX11_blind_5 : decode cX11_blind 5 = .ok (.getfield 70, 3) := by decide +kernel
theorem dX11_blind_8 : decode cX11_blind 8 = .ok (.getfield 142, 3) := by decide +kernel
theorem dX11_blind_11 : decode cX11_blind 11 = .ok (.iload_n 1, 1) := by decide +kernel
theorem dX11_blind_12 : decode cX11_blind 12 = .ok (.invokevirtual 305, 3) := by decide +kernel
theorem dX11_blind_15 : decode cX11_blind 15 = .ok (.ifCond .ne 5, 3) := by decide +kernel
theorem dX11_blind_18 : decode cX11_blind 18 = .ok (.iconst (-1), 1) := by decide +kernel
theorem dX11_blind_19 : decode cX11_blind 19 = .ok (.ireturn, 1) := by decide +kernel
theorem dX11_blind_20 : decode cX11_blind 20 = .ok (.aload_n 0, 1) := by decide +kernel
theorem dX11_blind_21 : decode cX11_blind 21 = .ok (.getfield 31, 3) := by decide +kernel
theorem dX11_blind_24 : decode cX11_blind 24 = .ok (.aload_n 0, 1) := by decide +kernel
theorem dX11_blind_25 : decode cX11_blind 25 = .ok (.getfield 70, 3) := by decide +kernel
theorem dX11_blind_28 : decode cX11_blind 28 = .ok (.getfield 142, 3) := by decide +kernel
theorem dX11_blind_31 : decode cX11_blind 31 = .ok (.aload_n 0, 1) := by decide +kernel
theorem dX11_blind_32 : decode cX11_blind 32 = .ok (.getfield 38, 3) := by decide +kernel
theorem dX11_blind_35 : decode cX11_blind 35 = .ok (.getfield 309, 3) := by decide +kernel
theorem dX11_blind_38 : decode cX11_blind 38 = .ok (.aload_n 0, 1) := by decide +kernel
theorem dX11_blind_39 : decode cX11_blind 39 = .ok (.getfield 38, 3) := by decide +kernel
theorem dX11_blind_42 : decode cX11_blind 42 = .ok (.getfield 312, 3) := by decide +kernel
theorem dX11_blind_45 : decode cX11_blind 45 = .ok (.invokevirtual 315, 3) := by decide +kernel
theorem dX11_blind_48 : decode cX11_blind 48 = .ok (.ifCond .eq 6, 3) := by decide +kernel
theorem dX11_blind_51 : decode cX11_blind 51 = .ok (.bipush (-2), 2) := by decide +kernel
theorem dX11_blind_53 : decode cX11_blind 53 = .ok (.ireturn, 1) := by decide +kernel
theorem dX11_blind_54 : decode cX11_blind 54 = .ok (.aload_n 0, 1) := by decide +kernel
theorem dX11_blind_55 : decode cX11_blind 55 = .ok (.getfield 31, 3) := by decide +kernel
theorem dX11_blind_58 : decode cX11_blind 58 = .ok (.aload_n 0, 1) := by decide +kernel
theorem dX11_blind_59 : decode cX11_blind 59 = .ok (.getfield 70, 3) := by decide +kernel
theorem dX11_blind_62 : decode cX11_blind 62 = .ok (.getfield 142, 3) := by decide +kernel
theorem dX11_blind_65 : decode cX11_blind 65 = .ok (.aload_n 0, 1) := by decide +kernel
theorem dX11_blind_66 : decode cX11_blind 66 = .ok (.getfield 38, 3) := by decide +kernel
theorem dX11_blind_69 : decode cX11_blind 69 = .ok (.getfield 309, 3) := by decide +kernel
theorem dX11_blind_72 : decode cX11_blind 72 = .ok (.aload_n 0, 1) := by decide +kernel
theorem dX11_blind_73 : decode cX11_blind 73 = .ok (.getfield 38, 3) := by decide +kernel
theorem dX11_blind_76 : decode cX11_blind 76 = .ok (.getfield 312, 3) := by decide +kernel
theorem dX11_blind_79 : decode cX11_blind 79 = .ok (.invokevirtual 327, 3) := by decide +kernel
theorem dX11_blind_82 : decode cX11_blind 82 = .ok (.ireturn, 1) := by decide +kernel
theorem dX11_cost_0 : decode cX11_cost 0 = .ok (.aload_n 0, 1) := by decide +kernel
theorem dX11_cost_1 : decode cX11_cost 1 = .ok (.getfield 112, 3) := by decide +kernel
theorem dX11_cost_4 : decode cX11_cost 4 = .ok (.ifCond .eq 22, 3) := by decide +kernel
theorem dX11_cost_7 : decode cX11_cost 7 = .ok (.iload_n 1, 1) := by decide +kernel
theorem dX11_cost_8 : decode cX11_cost 8 = .ok (.ifCond .lt 18, 3) := by decide +kernel
theorem dX11_cost_11 : decode cX11_cost 11 = .ok (.iload_n 1, 1) := by decide +kernel
theorem dX11_cost_12 : decode cX11_cost 12 = .ok (.bipush 120, 2) := by decide +kernel
theorem dX11_cost_14 : decode cX11_cost 14 = .ok (.if_icmp .gt 12, 3) := by decide +kernel
theorem dX11_cost_17 : decode cX11_cost 17 = .ok (.iload_n 2, 1) := by decide +kernel
theorem dX11_cost_18 : decode cX11_cost 18 = .ok (.ifCond .lt 8, 3) := by decide +kernel
theorem dX11_cost_21 : decode cX11_cost 21 = .ok (.iload_n 2, 1) := by decide +kernel
theorem dX11_cost_22 : decode cX11_cost 22 = .ok (.iconst 1, 1) := by decide +kernel
theorem dX11_cost_23 : decode cX11_cost 23 = .ok (.if_icmp .le 5, 3) := by decide +kernel
theorem dX11_cost_26 : decode cX11_cost 26 = .ok (.iconst (-1), 1) := by decide +kernel
theorem dX11_cost_27 : decode cX11_cost 27 = .ok (.ireturn, 1) := by decide +kernel
theorem dX11_cost_28 : decode cX11_cost 28 = .ok (.aload_n 0, 1) := by decide +kernel
theorem dX11_cost_29 : decode cX11_cost 29 = .ok (.getfield 31, 3) := by decide +kernel
theorem dX11_cost_32 : decode cX11_cost 32 = .ok (.getfield 90, 3) := by decide +kernel
theorem dX11_cost_35 : decode cX11_cost 35 = .ok (.getfield 141, 3) := by decide +kernel
theorem dX11_cost_38 : decode cX11_cost 38 = .ok (.istore_n 3, 1) := by decide +kernel
theorem dX11_cost_39 : decode cX11_cost 39 = .ok (.iconst 0, 1) := by decide +kernel
theorem dX11_cost_40 : decode cX11_cost 40 = .ok (.istore 4, 2) := by decide +kernel
theorem dX11_cost_42 : decode cX11_cost 42 = .ok (.iconst 0, 1) := by decide +kernel
theorem dX11_cost_43 : decode cX11_cost 43 = .ok (.istore 5, 2) := by decide +kernel
theorem dX11_cost_45 : decode cX11_cost 45 = .ok (.iload_n 1, 1) := by decide +kernel
theorem dX11_cost_46 : decode cX11_cost 46 = .ok (.istore 6, 2) := by decide +kernel
theorem dX11_cost_48 : decode cX11_cost 48 = .ok (.iconst 0, 1) := by decide +kernel
theorem dX11_cost_49 : decode cX11_cost 49 = .ok (.istore 7, 2) := by decide +kernel
theorem dX11_cost_51 : decode cX11_cost 51 = .ok (.iload 7, 2) := by decide +kernel
theorem dX11_cost_53 : decode cX11_cost 53 = .ok (.bipush 120, 2) := by decide +kernel
theorem dX11_cost_55 : decode cX11_cost 55 = .ok (.if_icmp .gt 54, 3) := by decide +kernel
theorem dX11_cost_58 : decode cX11_cost 58 = .ok (.iload 7, 2) := by decide +kernel
theorem dX11_cost_60 : decode cX11_cost 60 = .ok (.ifCond .eq 8, 3) := by decide +kernel
theorem dX11_cost_63 : decode cX11_cost 63 = .ok (.iload 6, 2) := by decide +kernel
theorem dX11_cost_65 : decode cX11_cost 65 = .ok (.ifCond .le 44, 3) := by decide +kernel
theorem dX11_cost_68 : decode cX11_cost 68 = .ok (.iload_n 3, 1) := by decide +kernel
theorem dX11_cost_69 : decode cX11_cost 69 = .ok (.iload 6, 2) := by decide +kernel
theorem dX11_cost_71 : decode cX11_cost 71 = .ok (.invokestatic 330, 3) := by decide +kernel
theorem dX11_cost_74 : decode cX11_cost 74 = .ok (.istore 8, 2) := by decide +kernel
theorem dX11_cost_76 : decode cX11_cost 76 = .ok (.iinc 4 1, 3) := by decide +kernel
theorem dX11_cost_79 : decode cX11_cost 79 = .ok (.iload 5, 2) := by decide +kernel
theorem dX11_cost_81 : decode cX11_cost 81 = .ok (.aload_n 0, 1) := by decide +kernel
theorem dX11_cost_82 : decode cX11_cost 82 = .ok (.getfield 31, 3) := by decide +kernel
theorem dX11_cost_85 : decode cX11_cost 85 = .ok (.getfield 90, 3) := by decide +kernel
theorem dX11_cost_88 : decode cX11_cost 88 = .ok (.iload 8, 2) := by decide +kernel
theorem dX11_cost_90 : decode cX11_cost 90 = .ok (.invokevirtual 157, 3) := by decide +kernel
theorem dX11_cost_93 : decode cX11_cost 93 = .ok (.iadd, 1) := by decide +kernel
theorem dX11_cost_94 : decode cX11_cost 94 = .ok (.istore 5, 2) := by decide +kernel
theorem dX11_cost_96 : decode cX11_cost 96 = .ok (.iload 6, 2) := by decide +kernel
theorem dX11_cost_98 : decode cX11_cost 98 = .ok (.iload 8, 2) := by decide +kernel
theorem dX11_cost_100 : decode cX11_cost 100 = .ok (.isub, 1) := by decide +kernel
theorem dX11_cost_101 : decode cX11_cost 101 = .ok (.istore 6, 2) := by decide +kernel
theorem dX11_cost_103 : decode cX11_cost 103 = .ok (.iinc 7 1, 3) := by decide +kernel
theorem dX11_cost_106 : decode cX11_cost 106 = .ok (.goto (-55), 3) := by decide +kernel
theorem dX11_cost_109 : decode cX11_cost 109 = .ok (.iload_n 2, 1) := by decide +kernel
theorem dX11_cost_110 : decode cX11_cost 110 = .ok (.ifCond .ne 8, 3) := by decide +kernel
theorem dX11_cost_113 : decode cX11_cost 113 = .ok (.iload 4, 2) := by decide +kernel
theorem dX11_cost_115 : decode cX11_cost 115 = .ok (.goto 5, 3) := by decide +kernel
theorem dX11_cost_118 : decode cX11_cost 118 = .ok (.iload 5, 2) := by decide +kernel
theorem dX11_cost_120 : decode cX11_cost 120 = .ok (.ireturn, 1) := by decide +kernel
theorem dX11_share_0 : decode cX11_share 0 = .ok (.aload_n 0, 1) := by decide +kernel
theorem dX11_share_1 : decode cX11_share 1 = .ok (.getfield 70, 3) := by decide +kernel
theorem dX11_share_4 : decode cX11_share 4 = .ok (.iload_n 1, 1) := by decide +kernel
theorem dX11_share_5 : decode cX11_share 5 = .ok (.invokevirtual 171, 3) := by decide +kernel
theorem dX11_share_8 : decode cX11_share 8 = .ok (.ifnull 12, 3) := by decide +kernel
theorem dX11_share_11 : decode cX11_share 11 = .ok (.iload_n 2, 1) := by decide +kernel
theorem dX11_share_12 : decode cX11_share 12 = .ok (.ifCond .lt 8, 3) := by decide +kernel
theorem dX11_share_15 : decode cX11_share 15 = .ok (.iload_n 2, 1) := by decide +kernel
theorem dX11_share_16 : decode cX11_share 16 = .ok (.iconst 3, 1) := by decide +kernel
theorem dX11_share_17 : decode cX11_share 17 = .ok (.if_icmp .le 5, 3) := by decide +kernel
theorem dX11_share_20 : decode cX11_share 20 = .ok (.iconst (-1), 1) := by decide +kernel
theorem dX11_share_21 : decode cX11_share 21 = .ok (.ireturn, 1) := by decide +kernel
theorem dX11_share_22 : decode cX11_share 22 = .ok (.iconst 0, 1) := by decide +kernel
theorem dX11_share_23 : decode cX11_share 23 = .ok (.istore_n 3, 1) := by decide +kernel
theorem dX11_share_24 : decode cX11_share 24 = .ok (.iconst 0, 1) := by decide +kernel
theorem dX11_share_25 : decode cX11_share 25 = .ok (.istore 4, 2) := by decide +kernel
theorem dX11_share_27 : decode cX11_share 27 = .ok (.iconst 0, 1) := by decide +kernel
theorem dX11_share_28 : decode cX11_share 28 = .ok (.istore 5, 2) := by decide +kernel
theorem dX11_share_30 : decode cX11_share 30 = .ok (.iconst 0, 1) := by decide +kernel
theorem dX11_share_31 : decode cX11_share 31 = .ok (.istore 6, 2) := by decide +kernel
theorem dX11_share_33 : decode cX11_share 33 = .ok (.iconst (-1), 1) := by decide +kernel
theorem dX11_share_34 : decode cX11_share 34 = .ok (.istore 7, 2) := by decide +kernel
theorem dX11_share_36 : decode cX11_share 36 = .ok (.aload_n 0, 1) := by decide +kernel
theorem dX11_share_37 : decode cX11_share 37 = .ok (.getfield 38, 3) := by decide +kernel
theorem dX11_share_40 : decode cX11_share 40 = .ok (.invokevirtual 161, 3) := by decide +kernel
theorem dX11_share_43 : decode cX11_share 43 = .ok (.iconst 0, 1) := by decide +kernel
theorem dX11_share_44 : decode cX11_share 44 = .ok (.istore 8, 2) := by decide +kernel
theorem dX11_share_46 : decode cX11_share 46 = .ok (.iload 8, 2) := by decide +kernel
theorem dX11_share_48 : decode cX11_share 48 = .ok (.sipush 600, 3) := by decide +kernel
theorem dX11_share_51 : decode cX11_share 51 = .ok (.if_icmp .ge 141, 3) := by decide +kernel
theorem dX11_share_54 : decode cX11_share 54 = .ok (.aload_n 0, 1) := by decide +kernel
theorem dX11_share_55 : decode cX11_share 55 = .ok (.getfield 38, 3) := by decide +kernel
theorem dX11_share_58 : decode cX11_share 58 = .ok (.aload_n 0, 1) := by decide +kernel
theorem dX11_share_59 : decode cX11_share 59 = .ok (.getfield 70, 3) := by decide +kernel
theorem dX11_share_62 : decode cX11_share 62 = .ok (.getfield 142, 3) := by decide +kernel
theorem dX11_share_65 : decode cX11_share 65 = .ok (.invokevirtual 164, 3) := by decide +kernel
theorem dX11_share_68 : decode cX11_share 68 = .ok (.ifCond .eq 124, 3) := by decide +kernel
theorem dX11_share_71 : decode cX11_share 71 = .ok (.aload_n 0, 1) := by decide +kernel
theorem dX11_share_72 : decode cX11_share 72 = .ok (.getfield 31, 3) := by decide +kernel
theorem dX11_share_75 : decode cX11_share 75 = .ok (.aload_n 0, 1) := by decide +kernel
theorem dX11_share_76 : decode cX11_share 76 = .ok (.getfield 70, 3) := by decide +kernel
theorem dX11_share_79 : decode cX11_share 79 = .ok (.getfield 142, 3) := by decide +kernel
theorem dX11_share_82 : decode cX11_share 82 = .ok (.aload_n 0, 1) := by decide +kernel
theorem dX11_share_83 : decode cX11_share 83 = .ok (.getfield 38, 3) := by decide +kernel
theorem dX11_share_86 : decode cX11_share 86 = .ok (.getfield 309, 3) := by decide +kernel
theorem dX11_share_89 : decode cX11_share 89 = .ok (.aload_n 0, 1) := by decide +kernel
theorem dX11_share_90 : decode cX11_share 90 = .ok (.getfield 38, 3) := by decide +kernel
theorem dX11_share_93 : decode cX11_share 93 = .ok (.getfield 312, 3) := by decide +kernel
theorem dX11_share_96 : decode cX11_share 96 = .ok (.invokevirtual 315, 3) := by decide +kernel
theorem dX11_share_99 : decode cX11_share 99 = .ok (.ifCond .ne 87, 3) := by decide +kernel
theorem dX11_share_102 : decode cX11_share 102 = .ok (.aload_n 0, 1) := by decide +kernel
theorem dX11_share_103 : decode cX11_share 103 = .ok (.getfield 31, 3) := by decide +kernel
theorem dX11_share_106 : decode cX11_share 106 = .ok (.getfield 319, 3) := by decide +kernel
theorem dX11_share_109 : decode cX11_share 109 = .ok (.bipush 6, 2) := by decide +kernel
theorem dX11_share_111 : decode cX11_share 111 = .ok (.ishr, 1) := by decide +kernel
theorem dX11_share_112 : decode cX11_share 112 = .ok (.iload_n 1, 1) := by decide +kernel
theorem dX11_share_113 : decode cX11_share 113 = .ok (.if_icmp .ne 73, 3) := by decide +kernel
theorem dX11_share_116 : decode cX11_share 116 = .ok (.aload_n 0, 1) := by decide +kernel
theorem dX11_share_117 : decode cX11_share 117 = .ok (.getfield 31, 3) := by decide +kernel
theorem dX11_share_120 : decode cX11_share 120 = .ok (.getfield 319, 3) := by decide +kernel
theorem dX11_share_123 : decode cX11_share 123 = .ok (.bipush 15, 2) := by decide +kernel
theorem dX11_share_125 : decode cX11_share 125 = .ok (.iand, 1) := by decide +kernel
theorem dX11_share_126 : decode cX11_share 126 = .ok (.istore 9, 2) := by decide +kernel
theorem dX11_share_128 : decode cX11_share 128 = .ok (.iload 5, 2) := by decide +kernel
theorem dX11_share_130 : decode cX11_share 130 = .ok (.iload 7, 2) := by decide +kernel
theorem dX11_share_132 : decode cX11_share 132 = .ok (.iconst (-1), 1) := by decide +kernel
theorem dX11_share_133 : decode cX11_share 133 = .ok (.if_icmp .ne 7, 3) := by decide +kernel
theorem dX11_share_136 : decode cX11_share 136 = .ok (.iconst 0, 1) := by decide +kernel
theorem dX11_share_137 : decode cX11_share 137 = .ok (.goto 13, 3) := by decide +kernel
theorem dX11_share_140 : decode cX11_share 140 = .ok (.iload 9, 2) := by decide +kernel
theorem dX11_share_142 : decode cX11_share 142 = .ok (.iload 7, 2) := by decide +kernel
theorem dX11_share_144 : decode cX11_share 144 = .ok (.isub, 1) := by decide +kernel
theorem dX11_share_145 : decode cX11_share 145 = .ok (.iconst 1, 1) := by decide +kernel
theorem dX11_share_146 : decode cX11_share 146 = .ok (.isub, 1) := by decide +kernel
theorem dX11_share_147 : decode cX11_share 147 = .ok (.bipush 15, 2) := by decide +kernel
theorem dX11_share_149 : decode cX11_share 149 = .ok (.iand, 1) := by decide +kernel
theorem dX11_share_150 : decode cX11_share 150 = .ok (.iadd, 1) := by decide +kernel
theorem dX11_share_151 : decode cX11_share 151 = .ok (.istore 5, 2) := by decide +kernel
theorem dX11_share_153 : decode cX11_share 153 = .ok (.iload 9, 2) := by decide +kernel
theorem dX11_share_155 : decode cX11_share 155 = .ok (.istore 7, 2) := by decide +kernel
theorem dX11_share_157 : decode cX11_share 157 = .ok (.iinc 3 1, 3) := by decide +kernel
theorem dX11_share_160 : decode cX11_share 160 = .ok (.iload 4, 2) := by decide +kernel
theorem dX11_share_162 : decode cX11_share 162 = .ok (.aload_n 0, 1) := by decide +kernel
theorem dX11_share_163 : decode cX11_share 163 = .ok (.getfield 38, 3) := by decide +kernel
theorem dX11_share_166 : decode cX11_share 166 = .ok (.getfield 312, 3) := by decide +kernel
theorem dX11_share_169 : decode cX11_share 169 = .ok (.iconst 1, 1) := by decide +kernel
theorem dX11_share_170 : decode cX11_share 170 = .ok (.iadd, 1) := by decide +kernel
theorem dX11_share_171 : decode cX11_share 171 = .ok (.iadd, 1) := by decide +kernel
theorem dX11_share_172 : decode cX11_share 172 = .ok (.istore 4, 2) := by decide +kernel
theorem dX11_share_174 : decode cX11_share 174 = .ok (.iload 6, 2) := by decide +kernel
theorem dX11_share_176 : decode cX11_share 176 = .ok (.aload_n 0, 1) := by decide +kernel
theorem dX11_share_177 : decode cX11_share 177 = .ok (.getfield 31, 3) := by decide +kernel
theorem dX11_share_180 : decode cX11_share 180 = .ok (.getfield 336, 3) := by decide +kernel
theorem dX11_share_183 : decode cX11_share 183 = .ok (.iadd, 1) := by decide +kernel
theorem dX11_share_184 : decode cX11_share 184 = .ok (.istore 6, 2) := by decide +kernel
theorem dX11_share_186 : decode cX11_share 186 = .ok (.iinc 8 1, 3) := by decide +kernel
theorem dX11_share_189 : decode cX11_share 189 = .ok (.goto (-143), 3) := by decide +kernel
theorem dX11_share_192 : decode cX11_share 192 = .ok (.iload_n 2, 1) := by decide +kernel
theorem dX11_share_193 : decode cX11_share 193 = .ok (.tableswitch 35 0 2 #[27, 29, 32], 27) := by decide +kernel
theorem dX11_share_220 : decode cX11_share 220 = .ok (.iload_n 3, 1) := by decide +kernel
theorem dX11_share_221 : decode cX11_share 221 = .ok (.ireturn, 1) := by decide +kernel
theorem dX11_share_222 : decode cX11_share 222 = .ok (.iload 4, 2) := by decide +kernel
theorem dX11_share_224 : decode cX11_share 224 = .ok (.ireturn, 1) := by decide +kernel
theorem dX11_share_225 : decode cX11_share 225 = .ok (.iload 5, 2) := by decide +kernel
theorem dX11_share_227 : decode cX11_share 227 = .ok (.ireturn, 1) := by decide +kernel
theorem dX11_share_228 : decode cX11_share 228 = .ok (.iload 6, 2) := by decide +kernel
theorem dX11_share_230 : decode cX11_share 230 = .ok (.ireturn, 1) := by decide +kernel
theorem dX11_flushed_0 : decode cX11_flushed 0 = .ok (.aload_n 0, 1) := by decide +kernel
theorem dX11_flushed_1 : decode cX11_flushed 1 = .ok (.getfield 112, 3) := by decide +kernel
theorem dX11_flushed_4 : decode cX11_flushed 4 = .ok (.ifCond .eq 12, 3) := by decide +kernel
theorem dX11_flushed_7 : decode cX11_flushed 7 = .ok (.iload_n 1, 1) := by decide +kernel
theorem dX11_flushed_8 : decode cX11_flushed 8 = .ok (.ifCond .lt 8, 3) := by decide +kernel
theorem dX11_flushed_11 : decode cX11_flushed 11 = .ok (.iload_n 1, 1) := by decide +kernel
theorem dX11_flushed_12 : decode cX11_flushed 12 = .ok (.iconst 4, 1) := by decide +kernel
theorem dX11_flushed_13 : decode cX11_flushed 13 = .ok (.if_icmp .le 5, 3) := by decide +kernel
theorem dX11_flushed_16 : decode cX11_flushed 16 = .ok (.iconst (-1), 1) := by decide +kernel
theorem dX11_flushed_17 : decode cX11_flushed 17 = .ok (.ireturn, 1) := by decide +kernel
theorem dX11_flushed_18 : decode cX11_flushed 18 = .ok (.aload_n 0, 1) := by decide +kernel
theorem dX11_flushed_19 : decode cX11_flushed 19 = .ok (.getfield 59, 3) := by decide +kernel
theorem dX11_flushed_22 : decode cX11_flushed 22 = .ok (.aload_n 0, 1) := by decide +kernel
theorem dX11_flushed_23 : decode cX11_flushed 23 = .ok (.getfield 70, 3) := by decide +kernel
theorem dX11_flushed_26 : decode cX11_flushed 26 = .ok (.invokevirtual 322, 3) := by decide +kernel
theorem dX11_flushed_29 : decode cX11_flushed 29 = .ok (.iconst 1, 1) := by decide +kernel
theorem dX11_flushed_30 : decode cX11_flushed 30 = .ok (.istore_n 2, 1) := by decide +kernel
theorem dX11_flushed_31 : decode cX11_flushed 31 = .ok (.iconst 0, 1) := by decide +kernel
theorem dX11_flushed_32 : decode cX11_flushed 32 = .ok (.istore_n 3, 1) := by decide +kernel
theorem dX11_flushed_33 : decode cX11_flushed 33 = .ok (.iload_n 2, 1) := by decide +kernel
theorem dX11_flushed_34 : decode cX11_flushed 34 = .ok (.ifCond .eq 70, 3) := by decide +kernel
theorem dX11_flushed_37 : decode cX11_flushed 37 = .ok (.iload_n 3, 1) := by decide +kernel
theorem dX11_flushed_38 : decode cX11_flushed 38 = .ok (.sipush 600, 3) := by decide +kernel
theorem dX11_flushed_41 : decode cX11_flushed 41 = .ok (.if_icmp .gt 63, 3) := by decide +kernel
theorem dX11_flushed_44 : decode cX11_flushed 44 = .ok (.aload_n 0, 1) := by decide +kernel
theorem dX11_flushed_45 : decode cX11_flushed 45 = .ok (.getfield 59, 3) := by decide +kernel
theorem dX11_flushed_48 : decode cX11_flushed 48 = .ok (.bipush 60, 2) := by decide +kernel
theorem dX11_flushed_50 : decode cX11_flushed 50 = .ok (.aload_n 0, 1) := by decide +kernel
theorem dX11_flushed_51 : decode cX11_flushed 51 = .ok (.getfield 31, 3) := by decide +kernel
theorem dX11_flushed_54 : decode cX11_flushed 54 = .ok (.invokevirtual 197, 3) := by decide +kernel
theorem dX11_flushed_57 : decode cX11_flushed 57 = .ok (.istore 4, 2) := by decide +kernel
theorem dX11_flushed_59 : decode cX11_flushed 59 = .ok (.iload 4, 2) := by decide +kernel
theorem dX11_flushed_61 : decode cX11_flushed 61 = .ok (.ifCond .gt 16, 3) := by decide +kernel
theorem dX11_flushed_64 : decode cX11_flushed 64 = .ok (.aload_n 0, 1) := by decide +kernel
theorem dX11_flushed_65 : decode cX11_flushed 65 = .ok (.getfield 59, 3) := by decide +kernel
theorem dX11_flushed_68 : decode cX11_flushed 68 = .ok (.getfield 142, 3) := by decide +kernel
theorem dX11_flushed_71 : decode cX11_flushed 71 = .ok (.getfield 76, 3) := by decide +kernel
theorem dX11_flushed_74 : decode cX11_flushed 74 = .ok (.ifCond .le 7, 3) := by decide +kernel
theorem dX11_flushed_77 : decode cX11_flushed 77 = .ok (.iconst 1, 1) := by decide +kernel
theorem dX11_flushed_78 : decode cX11_flushed 78 = .ok (.goto 4, 3) := by decide +kernel
theorem dX11_flushed_81 : decode cX11_flushed 81 = .ok (.iconst 0, 1) := by decide +kernel
theorem dX11_flushed_82 : decode cX11_flushed 82 = .ok (.istore_n 2, 1) := by decide +kernel
theorem dX11_flushed_83 : decode cX11_flushed 83 = .ok (.aload_n 0, 1) := by decide +kernel
theorem dX11_flushed_84 : decode cX11_flushed 84 = .ok (.getfield 59, 3) := by decide +kernel
theorem dX11_flushed_87 : decode cX11_flushed 87 = .ok (.sipush 600, 3) := by decide +kernel
theorem dX11_flushed_90 : decode cX11_flushed 90 = .ok (.aload_n 0, 1) := by decide +kernel
theorem dX11_flushed_91 : decode cX11_flushed 91 = .ok (.getfield 31, 3) := by decide +kernel
theorem dX11_flushed_94 : decode cX11_flushed 94 = .ok (.invokevirtual 229, 3) := by decide +kernel
theorem dX11_flushed_97 : decode cX11_flushed 97 = .ok (.pop, 1) := by decide +kernel
theorem dX11_flushed_98 : decode cX11_flushed 98 = .ok (.iinc 3 1, 3) := by decide +kernel
theorem dX11_flushed_101 : decode cX11_flushed 101 = .ok (.goto (-68), 3) := by decide +kernel
theorem dX11_flushed_104 : decode cX11_flushed 104 = .ok (.iload_n 1, 1) := by decide +kernel
theorem dX11_flushed_105 : decode cX11_flushed 105 = .ok (.tableswitch 63 0 3 #[31, 39, 47, 55], 31) := by decide +kernel
theorem dX11_flushed_136 : decode cX11_flushed 136 = .ok (.aload_n 0, 1) := by decide +kernel
theorem dX11_flushed_137 : decode cX11_flushed 137 = .ok (.getfield 59, 3) := by decide +kernel
theorem dX11_flushed_140 : decode cX11_flushed 140 = .ok (.invokevirtual 324, 3) := by decide +kernel
theorem dX11_flushed_143 : decode cX11_flushed 143 = .ok (.ireturn, 1) := by decide +kernel
theorem dX11_flushed_144 : decode cX11_flushed 144 = .ok (.aload_n 0, 1) := by decide +kernel
theorem dX11_flushed_145 : decode cX11_flushed 145 = .ok (.getfield 59, 3) := by decide +kernel
theorem dX11_flushed_148 : decode cX11_flushed 148 = .ok (.invokevirtual 339, 3) := by decide +kernel
theorem dX11_flushed_151 : decode cX11_flushed 151 = .ok (.ireturn, 1) := by decide +kernel
theorem dX11_flushed_152 : decode cX11_flushed 152 = .ok (.aload_n 0, 1) := by decide +kernel
theorem dX11_flushed_153 : decode cX11_flushed 153 = .ok (.getfield 59, 3) := by decide +kernel
theorem dX11_flushed_156 : decode cX11_flushed 156 = .ok (.invokevirtual 342, 3) := by decide +kernel
theorem dX11_flushed_159 : decode cX11_flushed 159 = .ok (.ireturn, 1) := by decide +kernel
theorem dX11_flushed_160 : decode cX11_flushed 160 = .ok (.aload_n 0, 1) := by decide +kernel
theorem dX11_flushed_161 : decode cX11_flushed 161 = .ok (.getfield 59, 3) := by decide +kernel
theorem dX11_flushed_164 : decode cX11_flushed 164 = .ok (.invokevirtual 345, 3) := by decide +kernel
theorem dX11_flushed_167 : decode cX11_flushed 167 = .ok (.ireturn, 1) := by decide +kernel
theorem dX11_flushed_168 : decode cX11_flushed 168 = .ok (.aload_n 0, 1) := by decide +kernel
theorem dX11_flushed_169 : decode cX11_flushed 169 = .ok (.getfield 59, 3) := by decide +kernel
theorem dX11_flushed_172 : decode cX11_flushed 172 = .ok (.getfield 151, 3) := by decide +kernel
theorem dX11_flushed_175 : decode cX11_flushed 175 = .ok (.aload_n 0, 1) := by decide +kernel
theorem dX11_flushed_176 : decode cX11_flushed 176 = .ok (.getfield 70, 3) := by decide +kernel
theorem dX11_flushed_179 : decode cX11_flushed 179 = .ok (.getfield 151, 3) := by decide +kernel
theorem dX11_flushed_182 : decode cX11_flushed 182 = .ok (.isub, 1) := by decide +kernel
theorem dX11_flushed_183 : decode cX11_flushed 183 = .ok (.ireturn, 1) := by decide +kernel
theorem dX11_undo_0 : decode cX11_undo 0 = .ok (.aload_n 0, 1) := by decide +kernel
theorem dX11_undo_1 : decode cX11_undo 1 = .ok (.getfield 52, 3) := by decide +kernel
theorem dX11_undo_4 : decode cX11_undo 4 = .ok (.getfield 348, 3) := by decide +kernel
theorem dX11_undo_7 : decode cX11_undo 7 = .ok (.ifCond .ne 5, 3) := by decide +kernel
theorem dX11_undo_10 : decode cX11_undo 10 = .ok (.iconst (-1), 1) := by decide +kernel
theorem dX11_undo_11 : decode cX11_undo 11 = .ok (.ireturn, 1) := by decide +kernel
theorem dX11_undo_12 : decode cX11_undo 12 = .ok (.aload_n 0, 1) := by decide +kernel
theorem dX11_undo_13 : decode cX11_undo 13 = .ok (.aload_n 0, 1) := by decide +kernel
theorem dX11_undo_14 : decode cX11_undo 14 = .ok (.getfield 52, 3) := by decide +kernel
theorem dX11_undo_17 : decode cX11_undo 17 = .ok (.aload_n 0, 1) := by decide +kernel
theorem dX11_undo_18 : decode cX11_undo 18 = .ok (.getfield 70, 3) := by decide +kernel
theorem dX11_undo_21 : decode cX11_undo 21 = .ok (.invokevirtual 350, 3) := by decide +kernel
theorem dX11_undo_24 : decode cX11_undo 24 = .ok (.putfield 70, 3) := by decide +kernel
theorem dX11_undo_27 : decode cX11_undo 27 = .ok (.aload_n 0, 1) := by decide +kernel
theorem dX11_undo_28 : decode cX11_undo 28 = .ok (.getfield 52, 3) := by decide +kernel
theorem dX11_undo_31 : decode cX11_undo 31 = .ok (.getfield 348, 3) := by decide +kernel
theorem dX11_undo_34 : decode cX11_undo 34 = .ok (.ireturn, 1) := by decide +kernel
theorem dX11_image_0 : decode cX11_image 0 = .ok (.aload_n 0, 1) := by decide +kernel
theorem dX11_image_1 : decode cX11_image 1 = .ok (.getfield 112, 3) := by decide +kernel
theorem dX11_image_4 : decode cX11_image 4 = .ok (.ifCond .ne 5, 3) := by decide +kernel
theorem dX11_image_7 : decode cX11_image 7 = .ok (.iconst (-1), 1) := by decide +kernel
theorem dX11_image_8 : decode cX11_image 8 = .ok (.ireturn, 1) := by decide +kernel
theorem dX11_image_9 : decode cX11_image 9 = .ok (.aload_n 0, 1) := by decide +kernel
theorem dX11_image_10 : decode cX11_image 10 = .ok (.getfield 63, 3) := by decide +kernel
theorem dX11_image_13 : decode cX11_image 13 = .ok (.aload_n 0, 1) := by decide +kernel
theorem dX11_image_14 : decode cX11_image 14 = .ok (.getfield 70, 3) := by decide +kernel
theorem dX11_image_17 : decode cX11_image 17 = .ok (.invokevirtual 322, 3) := by decide +kernel
theorem dX11_image_20 : decode cX11_image 20 = .ok (.aload_n 0, 1) := by decide +kernel
theorem dX11_image_21 : decode cX11_image 21 = .ok (.iconst 1, 1) := by decide +kernel
theorem dX11_image_22 : decode cX11_image 22 = .ok (.putfield 116, 3) := by decide +kernel
theorem dX11_image_25 : decode cX11_image 25 = .ok (.aload_n 0, 1) := by decide +kernel
theorem dX11_image_26 : decode cX11_image 26 = .ok (.getfield 70, 3) := by decide +kernel
theorem dX11_image_29 : decode cX11_image 29 = .ok (.getfield 142, 3) := by decide +kernel
theorem dX11_image_32 : decode cX11_image 32 = .ok (.getfield 76, 3) := by decide +kernel
theorem dX11_image_35 : decode cX11_image 35 = .ok (.ireturn, 1) := by decide +kernel
theorem dX11_back_0 : decode cX11_back 0 = .ok (.aload_n 0, 1) := by decide +kernel
theorem dX11_back_1 : decode cX11_back 1 = .ok (.getfield 116, 3) := by decide +kernel
theorem dX11_back_4 : decode cX11_back 4 = .ok (.ifCond .ne 5, 3) := by decide +kernel
theorem dX11_back_7 : decode cX11_back 7 = .ok (.iconst (-1), 1) := by decide +kernel
theorem dX11_back_8 : decode cX11_back 8 = .ok (.ireturn, 1) := by decide +kernel
theorem dX11_back_9 : decode cX11_back 9 = .ok (.aload_n 0, 1) := by decide +kernel
theorem dX11_back_10 : decode cX11_back 10 = .ok (.getfield 70, 3) := by decide +kernel
theorem dX11_back_13 : decode cX11_back 13 = .ok (.aload_n 0, 1) := by decide +kernel
theorem dX11_back_14 : decode cX11_back 14 = .ok (.getfield 63, 3) := by decide +kernel
theorem dX11_back_17 : decode cX11_back 17 = .ok (.invokevirtual 322, 3) := by decide +kernel
theorem dX11_back_20 : decode cX11_back 20 = .ok (.aload_n 0, 1) := by decide +kernel
theorem dX11_back_21 : decode cX11_back 21 = .ok (.getfield 52, 3) := by decide +kernel
theorem dX11_back_24 : decode cX11_back 24 = .ok (.invokevirtual 106, 3) := by decide +kernel
theorem dX11_back_27 : decode cX11_back 27 = .ok (.aload_n 0, 1) := by decide +kernel
theorem dX11_back_28 : decode cX11_back 28 = .ok (.getfield 70, 3) := by decide +kernel
theorem dX11_back_31 : decode cX11_back 31 = .ok (.getfield 142, 3) := by decide +kernel
theorem dX11_back_34 : decode cX11_back 34 = .ok (.getfield 76, 3) := by decide +kernel
theorem dX11_back_37 : decode cX11_back 37 = .ok (.ireturn, 1) := by decide +kernel
theorem dX11_status_0 : decode cX11_status 0 = .ok (.iload_n 1, 1) := by decide +kernel
theorem dX11_status_1 : decode cX11_status 1 = .ok (.ifCond .lt 21, 3) := by decide +kernel
theorem dX11_status_4 : decode cX11_status 4 = .ok (.iload_n 1, 1) := by decide +kernel
theorem dX11_status_5 : decode cX11_status 5 = .ok (.aload_n 0, 1) := by decide +kernel
theorem dX11_status_6 : decode cX11_status 6 = .ok (.getfield 66, 3) := by decide +kernel
theorem dX11_status_9 : decode cX11_status 9 = .ok (.arraylength, 1) := by decide +kernel
theorem dX11_status_10 : decode cX11_status 10 = .ok (.if_icmp .ge 12, 3) := by decide +kernel
theorem dX11_status_13 : decode cX11_status 13 = .ok (.aload_n 0, 1) := by decide +kernel
theorem dX11_status_14 : decode cX11_status 14 = .ok (.getfield 66, 3) := by decide +kernel
theorem dX11_status_17 : decode cX11_status 17 = .ok (.iload_n 1, 1) := by decide +kernel
theorem dX11_status_18 : decode cX11_status 18 = .ok (.iaload, 1) := by decide +kernel
theorem dX11_status_19 : decode cX11_status 19 = .ok (.goto 4, 3) := by decide +kernel
theorem dX11_status_22 : decode cX11_status 22 = .ok (.iconst (-1), 1) := by decide +kernel
theorem dX11_status_23 : decode cX11_status 23 = .ok (.ireturn, 1) := by decide +kernel
theorem dX11_most_0 : decode cX11_most 0 = .ok (.aload_n 0, 1) := by decide +kernel
theorem dX11_most_1 : decode cX11_most 1 = .ok (.getfield 112, 3) := by decide +kernel
theorem dX11_most_4 : decode cX11_most 4 = .ok (.ifCond .ne 6, 3) := by decide +kernel
theorem dX11_most_7 : decode cX11_most 7 = .ok (.ldc 122, 2) := by decide +kernel
theorem dX11_most_9 : decode cX11_most 9 = .ok (.ireturn, 1) := by decide +kernel
theorem dX11_most_10 : decode cX11_most 10 = .ok (.iload_n 1, 1) := by decide +kernel
theorem dX11_most_11 : decode cX11_most 11 = .ok (.tableswitch 85 0 5 #[37, 45, 53, 61, 66, 74], 37) := by decide +kernel
theorem dX11_most_48 : decode cX11_most 48 = .ok (.aload_n 0, 1) := by decide +kernel
theorem dX11_most_49 : decode cX11_most 49 = .ok (.getfield 70, 3) := by decide +kernel
theorem dX11_most_52 : decode cX11_most 52 = .ok (.invokevirtual 354, 3) := by decide +kernel
theorem dX11_most_55 : decode cX11_most 55 = .ok (.ireturn, 1) := by decide +kernel
theorem dX11_most_56 : decode cX11_most 56 = .ok (.aload_n 0, 1) := by decide +kernel
theorem dX11_most_57 : decode cX11_most 57 = .ok (.getfield 70, 3) := by decide +kernel
theorem dX11_most_60 : decode cX11_most 60 = .ok (.invokevirtual 357, 3) := by decide +kernel
theorem dX11_most_63 : decode cX11_most 63 = .ok (.ireturn, 1) := by decide +kernel
theorem dX11_most_64 : decode cX11_most 64 = .ok (.aload_n 0, 1) := by decide +kernel
theorem dX11_most_65 : decode cX11_most 65 = .ok (.getfield 70, 3) := by decide +kernel
theorem dX11_most_68 : decode cX11_most 68 = .ok (.invokevirtual 360, 3) := by decide +kernel
theorem dX11_most_71 : decode cX11_most 71 = .ok (.ireturn, 1) := by decide +kernel
theorem dX11_most_72 : decode cX11_most 72 = .ok (.aload_n 0, 1) := by decide +kernel
theorem dX11_most_73 : decode cX11_most 73 = .ok (.invokevirtual 363, 3) := by decide +kernel
theorem dX11_most_76 : decode cX11_most 76 = .ok (.ireturn, 1) := by decide +kernel
theorem dX11_most_77 : decode cX11_most 77 = .ok (.aload_n 0, 1) := by decide +kernel
theorem dX11_most_78 : decode cX11_most 78 = .ok (.getfield 70, 3) := by decide +kernel
theorem dX11_most_81 : decode cX11_most 81 = .ok (.invokevirtual 366, 3) := by decide +kernel
theorem dX11_most_84 : decode cX11_most 84 = .ok (.ireturn, 1) := by decide +kernel
theorem dX11_most_85 : decode cX11_most 85 = .ok (.aload_n 0, 1) := by decide +kernel
theorem dX11_most_86 : decode cX11_most 86 = .ok (.getfield 70, 3) := by decide +kernel
theorem dX11_most_89 : decode cX11_most 89 = .ok (.getfield 142, 3) := by decide +kernel
theorem dX11_most_92 : decode cX11_most 92 = .ok (.invokevirtual 369, 3) := by decide +kernel
theorem dX11_most_95 : decode cX11_most 95 = .ok (.ireturn, 1) := by decide +kernel
theorem dX11_most_96 : decode cX11_most 96 = .ok (.ldc 122, 2) := by decide +kernel
theorem dX11_most_98 : decode cX11_most 98 = .ok (.ireturn, 1) := by decide +kernel
theorem dX11_longestFrame_0 : decode cX11_longestFrame 0 = .ok (.iconst 0, 1) := by decide +kernel
theorem dX11_longestFrame_1 : decode cX11_longestFrame 1 = .ok (.istore_n 1, 1) := by decide +kernel
theorem dX11_longestFrame_2 : decode cX11_longestFrame 2 = .ok (.aload_n 0, 1) := by decide +kernel
theorem dX11_longestFrame_3 : decode cX11_longestFrame 3 = .ok (.getfield 38, 3) := by decide +kernel
theorem dX11_longestFrame_6 : decode cX11_longestFrame 6 = .ok (.invokevirtual 161, 3) := by decide +kernel
theorem dX11_longestFrame_9 : decode cX11_longestFrame 9 = .ok (.iconst 0, 1) := by decide +kernel
theorem dX11_longestFrame_10 : decode cX11_longestFrame 10 = .ok (.istore_n 2, 1) := by decide +kernel
theorem dX11_longestFrame_11 : decode cX11_longestFrame 11 = .ok (.iload_n 2, 1) := by decide +kernel
theorem dX11_longestFrame_12 : decode cX11_longestFrame 12 = .ok (.sipush 600, 3) := by decide +kernel
theorem dX11_longestFrame_15 : decode cX11_longestFrame 15 = .ok (.if_icmp .ge 38, 3) := by decide +kernel
theorem dX11_longestFrame_18 : decode cX11_longestFrame 18 = .ok (.aload_n 0, 1) := by decide +kernel
theorem dX11_longestFrame_19 : decode cX11_longestFrame 19 = .ok (.getfield 38, 3) := by decide +kernel
theorem dX11_longestFrame_22 : decode cX11_longestFrame 22 = .ok (.aload_n 0, 1) := by decide +kernel
theorem dX11_longestFrame_23 : decode cX11_longestFrame 23 = .ok (.getfield 70, 3) := by decide +kernel
theorem dX11_longestFrame_26 : decode cX11_longestFrame 26 = .ok (.getfield 142, 3) := by decide +kernel
theorem dX11_longestFrame_29 : decode cX11_longestFrame 29 = .ok (.invokevirtual 164, 3) := by decide +kernel
theorem dX11_longestFrame_32 : decode cX11_longestFrame 32 = .ok (.ifCond .eq 21, 3) := by decide +kernel
theorem dX11_longestFrame_35 : decode cX11_longestFrame 35 = .ok (.iload_n 1, 1) := by decide +kernel
theorem dX11_longestFrame_36 : decode cX11_longestFrame 36 = .ok (.aload_n 0, 1) := by decide +kernel
theorem dX11_longestFrame_37 : decode cX11_longestFrame 37 = .ok (.getfield 38, 3) := by decide +kernel
theorem dX11_longestFrame_40 : decode cX11_longestFrame 40 = .ok (.getfield 312, 3) := by decide +kernel
theorem dX11_longestFrame_43 : decode cX11_longestFrame 43 = .ok (.invokestatic 372, 3) := by decide +kernel
theorem dX11_longestFrame_46 : decode cX11_longestFrame 46 = .ok (.istore_n 1, 1) := by decide +kernel
theorem dX11_longestFrame_47 : decode cX11_longestFrame 47 = .ok (.iinc 2 1, 3) := by decide +kernel
theorem dX11_longestFrame_50 : decode cX11_longestFrame 50 = .ok (.goto (-39), 3) := by decide +kernel
theorem dX11_longestFrame_53 : decode cX11_longestFrame 53 = .ok (.iload_n 1, 1) := by decide +kernel
theorem dX11_longestFrame_54 : decode cX11_longestFrame 54 = .ok (.ireturn, 1) := by decide +kernel
theorem dX11_count_0 : decode cX11_count 0 = .ok (.iload_n 1, 1) := by decide +kernel
theorem dX11_count_1 : decode cX11_count 1 = .ok (.tableswitch 66 0 3 #[31, 42, 50, 58], 31) := by decide +kernel
theorem dX11_count_32 : decode cX11_count 32 = .ok (.aload_n 0, 1) := by decide +kernel
theorem dX11_count_33 : decode cX11_count 33 = .ok (.getfield 12, 3) := by decide +kernel
theorem dX11_count_36 : decode cX11_count 36 = .ok (.getfield 73, 3) := by decide +kernel
theorem dX11_count_39 : decode cX11_count 39 = .ok (.getfield 76, 3) := by decide +kernel
theorem dX11_count_42 : decode cX11_count 42 = .ok (.ireturn, 1) := by decide +kernel
theorem dX11_count_43 : decode cX11_count 43 = .ok (.aload_n 0, 1) := by decide +kernel
theorem dX11_count_44 : decode cX11_count 44 = .ok (.getfield 52, 3) := by decide +kernel
theorem dX11_count_47 : decode cX11_count 47 = .ok (.getfield 348, 3) := by decide +kernel
theorem dX11_count_50 : decode cX11_count 50 = .ok (.ireturn, 1) := by decide +kernel
theorem dX11_count_51 : decode cX11_count 51 = .ok (.aload_n 0, 1) := by decide +kernel
theorem dX11_count_52 : decode cX11_count 52 = .ok (.getfield 21, 3) := by decide +kernel
theorem dX11_count_55 : decode cX11_count 55 = .ok (.getfield 76, 3) := by decide +kernel
theorem dX11_count_58 : decode cX11_count 58 = .ok (.ireturn, 1) := by decide +kernel
theorem dX11_count_59 : decode cX11_count 59 = .ok (.aload_n 0, 1) := by decide +kernel
theorem dX11_count_60 : decode cX11_count 60 = .ok (.getfield 25, 3) := by decide +kernel
theorem dX11_count_63 : decode cX11_count 63 = .ok (.getfield 76, 3) := by decide +kernel
theorem dX11_count_66 : decode cX11_count 66 = .ok (.ireturn, 1) := by decide +kernel
theorem dX11_count_67 : decode cX11_count 67 = .ok (.iconst (-1), 1) := by decide +kernel
theorem dX11_count_68 : decode cX11_count 68 = .ok (.ireturn, 1) := by decide +kernel
theorem dX12_in_0 : decode cX12_in 0 = .ok (.lload_n 0, 1) := by decide +kernel
theorem dX12_in_1 : decode cX12_in 1 = .ok (.lload_n 2, 1) := by decide +kernel
theorem dX12_in_2 : decode cX12_in 2 = .ok (.lcmp, 1) := by decide +kernel
theorem dX12_in_3 : decode cX12_in 3 = .ok (.ifCond .lt 14, 3) := by decide +kernel
theorem dX12_in_6 : decode cX12_in 6 = .ok (.lload_n 0, 1) := by decide +kernel
theorem dX12_in_7 : decode cX12_in 7 = .ok (.lload 4, 2) := by decide +kernel
theorem dX12_in_9 : decode cX12_in 9 = .ok (.lcmp, 1) := by decide +kernel
theorem dX12_in_10 : decode cX12_in 10 = .ok (.ifCond .gt 7, 3) := by decide +kernel
theorem dX12_in_13 : decode cX12_in 13 = .ok (.iconst 1, 1) := by decide +kernel
theorem dX12_in_14 : decode cX12_in 14 = .ok (.goto 4, 3) := by decide +kernel
theorem dX12_in_17 : decode cX12_in 17 = .ok (.iconst 0, 1) := by decide +kernel
theorem dX12_in_18 : decode cX12_in 18 = .ok (.ireturn, 1) := by decide +kernel
theorem dX12_init_0 : decode cX12_init 0 = .ok (.aload_n 0, 1) := by decide +kernel
theorem dX12_init_1 : decode cX12_init 1 = .ok (.invokespecial 3, 3) := by decide +kernel
theorem dX12_init_4 : decode cX12_init 4 = .ok (.aload_n 0, 1) := by decide +kernel
theorem dX12_init_5 : decode cX12_init 5 = .ok (.sipush 300, 3) := by decide +kernel
theorem dX12_init_8 : decode cX12_init 8 = .ok (.newarray .int, 2) := by decide +kernel
theorem dX12_init_10 : decode cX12_init 10 = .ok (.putfield 9, 3) := by decide +kernel
theorem dX12_init_13 : decode cX12_init 13 = .ok (.aload_n 0, 1) := by decide +kernel
theorem dX12_init_14 : decode cX12_init 14 = .ok (.iconst 4, 1) := by decide +kernel
theorem dX12_init_15 : decode cX12_init 15 = .ok (.newarray .int, 2) := by decide +kernel
theorem dX12_init_17 : decode cX12_init 17 = .ok (.putfield 13, 3) := by decide +kernel
theorem dX12_init_20 : decode cX12_init 20 = .ok (.aload_n 0, 1) := by decide +kernel
theorem dX12_init_21 : decode cX12_init 21 = .ok (.sipush 9309, 3) := by decide +kernel
theorem dX12_init_24 : decode cX12_init 24 = .ok (.newarray .int, 2) := by decide +kernel
theorem dX12_init_26 : decode cX12_init 26 = .ok (.putfield 16, 3) := by decide +kernel
theorem dX12_init_29 : decode cX12_init 29 = .ok (.aload_n 0, 1) := by decide +kernel
theorem dX12_init_30 : decode cX12_init 30 = .ok (.bipush 20, 2) := by decide +kernel
theorem dX12_init_32 : decode cX12_init 32 = .ok (.putfield 19, 3) := by decide +kernel
theorem dX12_init_35 : decode cX12_init 35 = .ok (.aload_n 0, 1) := by decide +kernel
theorem dX12_init_36 : decode cX12_init 36 = .ok (.bipush 10, 2) := by decide +kernel
theorem dX12_init_38 : decode cX12_init 38 = .ok (.putfield 23, 3) := by decide +kernel
theorem dX12_init_41 : decode cX12_init 41 = .ok (.aload_n 0, 1) := by decide +kernel
theorem dX12_init_42 : decode cX12_init 42 = .ok (.iconst 4, 1) := by decide +kernel
theorem dX12_init_43 : decode cX12_init 43 = .ok (.newarray .int, 2) := by decide +kernel
theorem dX12_init_45 : decode cX12_init 45 = .ok (.putfield 26, 3) := by decide +kernel
theorem dX12_init_48 : decode cX12_init 48 = .ok (.aload_n 0, 1) := by decide +kernel
theorem dX12_init_49 : decode cX12_init 49 = .ok (.sipush 1400, 3) := by decide +kernel
theorem dX12_init_52 : decode cX12_init 52 = .ok (.newarray .int, 2) := by decide +kernel
theorem dX12_init_54 : decode cX12_init 54 = .ok (.putfield 29, 3) := by decide +kernel
theorem dX12_init_57 : decode cX12_init 57 = .ok (.aload_n 0, 1) := by decide +kernel
theorem dX12_init_58 : decode cX12_init 58 = .ok (.sipush 1400, 3) := by decide +kernel
theorem dX12_init_61 : decode cX12_init 61 = .ok (.newarray .int, 2) := by decide +kernel
theorem dX12_init_63 : decode cX12_init 63 = .ok (.putfield 32, 3) := by decide +kernel
theorem dX12_init_66 : decode cX12_init 66 = .ok (.aload_n 0, 1) := by decide +kernel
theorem dX12_init_67 : decode cX12_init 67 = .ok (.sipush 1400, 3) := by decide +kernel
theorem dX12_init_70 : decode cX12_init 70 = .ok (.newarray .int, 2) := by decide +kernel
theorem dX12_init_72 : decode cX12_init 72 = .ok (.putfield 35, 3) := by decide +kernel
theorem dX12_init_75 : decode cX12_init 75 = .ok (.aload_n 0, 1) := by decide +kernel
theorem dX12_init_76 : decode cX12_init 76 = .ok (.ldc 38, 2) := by decide +kernel
theorem dX12_init_78 : decode cX12_init 78 = .ok (.newarray .int, 2) := by decide +kernel
theorem dX12_init_80 : decode cX12_init 80 = .ok (.putfield 39, 3) := by decide +kernel
theorem dX12_init_83 : decode cX12_init 83 = .ok (.aload_n 0, 1) := by decide +kernel
theorem dX12_init_84 : decode cX12_init 84 = .ok (.sipush 9309, 3) := by decide +kernel
theorem dX12_init_87 : decode cX12_init 87 = .ok (.newarray .int, 2) := by decide +kernel
theorem dX12_init_89 : decode cX12_init 89 = .ok (.putfield 42, 3) := by decide +kernel
theorem dX12_init_92 : decode cX12_init 92 = .ok (.aload_n 0, 1) := by decide +kernel
theorem dX12_init_93 : decode cX12_init 93 = .ok (.iconst 4, 1) := by decide +kernel
theorem dX12_init_94 : decode cX12_init 94 = .ok (.newarray .int, 2) := by decide +kernel
theorem dX12_init_96 : decode cX12_init 96 = .ok (.putfield 45, 3) := by decide +kernel
theorem dX12_init_99 : decode cX12_init 99 = .ok (.aload_n 0, 1) := by decide +kernel
theorem dX12_init_100 : decode cX12_init 100 = .ok (.bipush 120, 2) := by decide +kernel
theorem dX12_init_102 : decode cX12_init 102 = .ok (.newarray .int, 2) := by decide +kernel
theorem dX12_init_104 : decode cX12_init 104 = .ok (.putfield 48, 3) := by decide +kernel
theorem dX12_init_107 : decode cX12_init 107 = .ok (.aload_n 0, 1) := by decide +kernel
theorem dX12_init_108 : decode cX12_init 108 = .ok (.sipush 600, 3) := by decide +kernel
theorem dX12_init_111 : decode cX12_init 111 = .ok (.newarray .int, 2) := by decide +kernel
theorem dX12_init_113 : decode cX12_init 113 = .ok (.putfield 51, 3) := by decide +kernel
theorem dX12_init_116 : decode cX12_init 116 = .ok (.aload_n 0, 1) := by decide +kernel
theorem dX12_init_117 : decode cX12_init 117 = .ok (.sipush 600, 3) := by decide +kernel
theorem dX12_init_120 : decode cX12_init 120 = .ok (.newarray .int, 2) := by decide +kernel
theorem dX12_init_122 : decode cX12_init 122 = .ok (.putfield 54, 3) := by decide +kernel
theorem dX12_init_125 : decode cX12_init 125 = .ok (.aload_n 0, 1) := by decide +kernel
theorem dX12_init_126 : decode cX12_init 126 = .ok (.sipush 9309, 3) := by decide +kernel
theorem dX12_init_129 : decode cX12_init 129 = .ok (.newarray .int, 2) := by decide +kernel
theorem dX12_init_131 : decode cX12_init 131 = .ok (.putfield 57, 3) := by decide +kernel
theorem dX12_init_134 : decode cX12_init 134 = .ok (.return_, 1) := by decide +kernel
theorem dX12_thrown_0 : decode cX12_thrown 0 = .ok (.aload_n 0, 1) := by decide +kernel
theorem dX12_thrown_1 : decode cX12_thrown 1 = .ok (.getfield 60, 3) := by decide +kernel
theorem dX12_thrown_4 : decode cX12_thrown 4 = .ok (.ireturn, 1) := by decide +kernel
theorem dX12_four_0 : decode cX12_four 0 = .ok (.bipush 24, 2) := by decide +kernel
theorem dX12_four_2 : decode cX12_four 2 = .ok (.istore_n 2, 1) := by decide +kernel
theorem dX12_four_3 : decode cX12_four 3 = .ok (.iload_n 2, 1) := by decide +kernel
theorem dX12_four_4 : decode cX12_four 4 = .ok (.ifCond .lt 35, 3) := by decide +kernel
theorem dX12_four_7 : decode cX12_four 7 = .ok (.aload_n 0, 1) := by decide +kernel
theorem dX12_four_8 : decode cX12_four 8 = .ok (.getfield 9, 3) := by decide +kernel
theorem dX12_four_11 : decode cX12_four 11 = .ok (.aload_n 0, 1) := by decide +kernel
theorem dX12_four_12 : decode cX12_four 12 = .ok (.getfield 63, 3) := by decide +kernel
theorem dX12_four_15 : decode cX12_four 15 = .ok (.iload_n 1, 1) := by decide +kernel
theorem dX12_four_16 : decode cX12_four 16 = .ok (.iload_n 2, 1) := by decide +kernel
theorem dX12_four_17 : decode cX12_four 17 = .ok (.ishr, 1) := by decide +kernel
theorem dX12_four_18 : decode cX12_four 18 = .ok (.sipush 255, 3) := by decide +kernel
theorem dX12_four_21 : decode cX12_four 21 = .ok (.iand, 1) := by decide +kernel
theorem dX12_four_22 : decode cX12_four 22 = .ok (.iastore, 1) := by decide +kernel
theorem dX12_four_23 : decode cX12_four 23 = .ok (.aload_n 0, 1) := by decide +kernel
theorem dX12_four_24 : decode cX12_four 24 = .ok (.dup, 1) := by decide +kernel
theorem dX12_four_25 : decode cX12_four 25 = .ok (.getfield 63, 3) := by decide +kernel
theorem dX12_four_28 : decode cX12_four 28 = .ok (.iconst 1, 1) := by decide +kernel
theorem dX12_four_29 : decode cX12_four 29 = .ok (.iadd, 1) := by decide +kernel
theorem dX12_four_30 : decode cX12_four 30 = .ok (.putfield 63, 3) := by decide +kernel
theorem dX12_four_33 : decode cX12_four 33 = .ok (.iinc 2 (-8), 3) := by decide +kernel
theorem dX12_four_36 : decode cX12_four 36 = .ok (.goto (-33), 3) := by decide +kernel
theorem dX12_four_39 : decode cX12_four 39 = .ok (.return_, 1) := by decide +kernel
theorem dX12_feed_0 : decode cX12_feed 0 = .ok (.aload_n 0, 1) := by decide +kernel
theorem dX12_feed_1 : decode cX12_feed 1 = .ok (.iconst 0, 1) := by decide +kernel
theorem dX12_feed_2 : decode cX12_feed 2 = .ok (.putfield 60, 3) := by decide +kernel
theorem dX12_feed_5 : decode cX12_feed 5 = .ok (.aload_n 0, 1) := by decide +kernel
theorem dX12_feed_6 : decode cX12_feed 6 = .ok (.getfield 63, 3) := by decide +kernel
theorem dX12_feed_9 : decode cX12_feed 9 = .ok (.bipush 20, 2) := by decide +kernel
theorem dX12_feed_11 : decode cX12_feed 11 = .ok (.iadd, 1) := by decide +kernel
theorem dX12_feed_12 : decode cX12_feed 12 = .ok (.sipush 300, 3) := by decide +kernel
theorem dX12_feed_15 : decode cX12_feed 15 = .ok (.if_icmp .le 5, 3) := by decide +kernel
theorem dX12_feed_18 : decode cX12_feed 18 = .ok (.iconst (-1), 1) := by decide +kernel
theorem dX12_feed_19 : decode cX12_feed 19 = .ok (.ireturn, 1) := by decide +kernel
theorem dX12_feed_20 : decode cX12_feed 20 = .ok (.aload_n 0, 1) := by decide +kernel
theorem dX12_feed_21 : decode cX12_feed 21 = .ok (.iload_n 1, 1) := by decide +kernel
theorem dX12_feed_22 : decode cX12_feed 22 = .ok (.invokevirtual 66, 3) := by decide +kernel
theorem dX12_feed_25 : decode cX12_feed 25 = .ok (.aload_n 0, 1) := by decide +kernel
theorem dX12_feed_26 : decode cX12_feed 26 = .ok (.iload_n 2, 1) := by decide +kernel
theorem dX12_feed_27 : decode cX12_feed 27 = .ok (.invokevirtual 66, 3) := by decide +kernel
theorem dX12_feed_30 : decode cX12_feed 30 = .ok (.aload_n 0, 1) := by decide +kernel
theorem dX12_feed_31 : decode cX12_feed 31 = .ok (.iload_n 3, 1) := by decide +kernel
theorem dX12_feed_32 : decode cX12_feed 32 = .ok (.invokevirtual 66, 3) := by decide +kernel
theorem dX12_feed_35 : decode cX12_feed 35 = .ok (.aload_n 0, 1) := by decide +kernel
theorem dX12_feed_36 : decode cX12_feed 36 = .ok (.iload 4, 2) := by decide +kernel
theorem dX12_feed_38 : decode cX12_feed 38 = .ok (.invokevirtual 66, 3) := by decide +kernel
theorem dX12_feed_41 : decode cX12_feed 41 = .ok (.aload_n 0, 1) := by decide +kernel
theorem dX12_feed_42 : decode cX12_feed 42 = .ok (.iload 5, 2) := by decide +kernel
theorem dX12_feed_44 : decode cX12_feed 44 = .ok (.invokevirtual 66, 3) := by decide +kernel
theorem dX12_feed_47 : decode cX12_feed 47 = .ok (.aload_n 0, 1) := by decide +kernel
theorem dX12_feed_48 : decode cX12_feed 48 = .ok (.getfield 63, 3) := by decide +kernel
theorem dX12_feed_51 : decode cX12_feed 51 = .ok (.ireturn, 1) := by decide +kernel
theorem dX12_end_0 : decode cX12_end 0 = .ok (.aload_n 0, 1) := by decide +kernel
theorem dX12_end_1 : decode cX12_end 1 = .ok (.iconst 0, 1) := by decide +kernel
theorem dX12_end_2 : decode cX12_end 2 = .ok (.putfield 60, 3) := by decide +kernel
theorem dX12_end_5 : decode cX12_end 5 = .ok (.iload_n 1, 1) := by decide +kernel
theorem dX12_end_6 : decode cX12_end 6 = .ok (.i2l, 1) := by decide +kernel
theorem dX12_end_7 : decode cX12_end 7 = .ok (.lconst 0, 1) := by decide +kernel
theorem dX12_end_8 : decode cX12_end 8 = .ok (.aload_n 0, 1) := by decide +kernel
theorem dX12_end_9 : decode cX12_end 9 = .ok (.getfield 63, 3) := by decide +kernel
theorem dX12_end_12 : decode cX12_end 12 = .ok (.i2l, 1) := by decide +kernel
theorem dX12_end_13 : decode cX12_end 13 = .ok (.invokestatic 70, 3) := by decide +kernel
theorem dX12_end_16 : decode cX12_end 16 = .ok (.ifCond .ne 5, 3) := by decide +kernel
theorem dX12_end_19 : decode cX12_end 19 = .ok (.iconst 0, 1) := by decide +kernel
theorem dX12_end_20 : decode cX12_end 20 = .ok (.ireturn, 1) := by decide +kernel
theorem dX12_end_21 : decode cX12_end 21 = .ok (.aload_n 0, 1) := by decide +kernel
theorem dX12_end_22 : decode cX12_end 22 = .ok (.iload_n 1, 1) := by decide +kernel
theorem dX12_end_23 : decode cX12_end 23 = .ok (.putfield 63, 3) := by decide +kernel
theorem dX12_end_26 : decode cX12_end 26 = .ok (.iconst 1, 1) := by decide +kernel
theorem dX12_end_27 : decode cX12_end 27 = .ok (.ireturn, 1) := by decide +kernel
theorem dX12_here_0 : decode cX12_here 0 = .ok (.aload_n 0, 1) := by decide +kernel
theorem dX12_here_1 : decode cX12_here 1 = .ok (.getfield 74, 3) := by decide +kernel
theorem dX12_here_4 : decode cX12_here 4 = .ok (.aload_n 0, 1) := by decide +kernel
theorem dX12_here_5 : decode cX12_here 5 = .ok (.getfield 63, 3) := by decide +kernel
theorem dX12_here_8 : decode cX12_here 8 = .ok (.if_icmp .ge 15, 3) := by decide +kernel
theorem dX12_here_11 : decode cX12_here 11 = .ok (.aload_n 0, 1) := by decide +kernel
theorem dX12_here_12 : decode cX12_here 12 = .ok (.getfield 9, 3) := by decide +kernel
theorem dX12_here_15 : decode cX12_here 15 = .ok (.aload_n 0, 1) := by decide +kernel
theorem dX12_here_16 : decode cX12_here 16 = .ok (.getfield 74, 3) := by decide +kernel
theorem dX12_here_19 : decode cX12_here 19 = .ok (.iaload, 1) := by decide +kernel
theorem dX12_here_20 : decode cX12_here 20 = .ok (.goto 4, 3) := by decide +kernel
theorem dX12_here_23 : decode cX12_here 23 = .ok (.iconst (-1), 1) := by decide +kernel
theorem dX12_here_24 : decode cX12_here 24 = .ok (.ireturn, 1) := by decide +kernel
theorem dX12_isSmall_0 : decode cX12_isSmall 0 = .ok (.iload_n 0, 1) := by decide +kernel
theorem dX12_isSmall_1 : decode cX12_isSmall 1 = .ok (.bipush 97, 2) := by decide +kernel
theorem dX12_isSmall_3 : decode cX12_isSmall 3 = .ok (.if_icmp .lt 13, 3) := by decide +kernel
theorem dX12_isSmall_6 : decode cX12_isSmall 6 = .ok (.iload_n 0, 1) := by decide +kernel
theorem dX12_isSmall_7 : decode cX12_isSmall 7 = .ok (.bipush 122, 2) := by decide +kernel
theorem dX12_isSmall_9 : decode cX12_isSmall 9 = .ok (.if_icmp .gt 7, 3) := by decide +kernel
theorem dX12_isSmall_12 : decode cX12_isSmall 12 = .ok (.iconst 1, 1) := by decide +kernel
theorem dX12_isSmall_13 : decode cX12_isSmall 13 = .ok (.goto 4, 3) := by decide +kernel
theorem dX12_isSmall_16 : decode cX12_isSmall 16 = .ok (.iconst 0, 1) := by decide +kernel
theorem dX12_isSmall_17 : decode cX12_isSmall 17 = .ok (.ireturn, 1) := by decide +kernel
theorem dX12_isDigit_0 : decode cX12_isDigit 0 = .ok (.iload_n 0, 1) := by decide +kernel
theorem dX12_isDigit_1 : decode cX12_isDigit 1 = .ok (.bipush 48, 2) := by decide +kernel
theorem dX12_isDigit_3 : decode cX12_isDigit 3 = .ok (.if_icmp .lt 13, 3) := by decide +kernel
theorem dX12_isDigit_6 : decode cX12_isDigit 6 = .ok (.iload_n 0, 1) := by decide +kernel
theorem dX12_isDigit_7 : decode cX12_isDigit 7 = .ok (.bipush 57, 2) := by decide +kernel
theorem dX12_isDigit_9 : decode cX12_isDigit 9 = .ok (.if_icmp .gt 7, 3) := by decide +kernel
theorem dX12_isDigit_12 : decode cX12_isDigit 12 = .ok (.iconst 1, 1) := by decide +kernel
theorem dX12_isDigit_13 : decode cX12_isDigit 13 = .ok (.goto 4, 3) := by decide +kernel
theorem dX12_isDigit_16 : decode cX12_isDigit 16 = .ok (.iconst 0, 1) := by decide +kernel
theorem dX12_isDigit_17 : decode cX12_isDigit 17 = .ok (.ireturn, 1) := by decide +kernel
theorem dX12_next_0 : decode cX12_next 0 = .ok (.aload_n 0, 1) := by decide +kernel
theorem dX12_next_1 : decode cX12_next 1 = .ok (.invokevirtual 77, 3) := by decide +kernel
theorem dX12_next_4 : decode cX12_next 4 = .ok (.bipush 32, 2) := by decide +kernel
theorem dX12_next_6 : decode cX12_next 6 = .ok (.if_icmp .ne 16, 3) := by decide +kernel
theorem dX12_next_9 : decode cX12_next 9 = .ok (.aload_n 0, 1) := by decide +kernel
theorem dX12_next_10 : decode cX12_next 10 = .ok (.dup, 1) := by decide +kernel
theorem dX12_next_11 : decode cX12_next 11 = .ok (.getfield 74, 3) := by decide +kernel
theorem dX12_next_14 : decode cX12_next 14 = .ok (.iconst 1, 1) := by decide +kernel
theorem dX12_next_15 : decode cX12_next 15 = .ok (.iadd, 1) := by decide +kernel
theorem dX12_next_16 : decode cX12_next 16 = .ok (.putfield 74, 3) := by decide +kernel
theorem dX12_next_19 : decode cX12_next 19 = .ok (.goto (-19), 3) := by decide +kernel
theorem dX12_next_22 : decode cX12_next 22 = .ok (.aload_n 0, 1) := by decide +kernel
theorem dX12_next_23 : decode cX12_next 23 = .ok (.aload_n 0, 1) := by decide +kernel
theorem dX12_next_24 : decode cX12_next 24 = .ok (.getfield 74, 3) := by decide +kernel
theorem dX12_next_27 : decode cX12_next 27 = .ok (.putfield 81, 3) := by decide +kernel
theorem dX12_next_30 : decode cX12_next 30 = .ok (.aload_n 0, 1) := by decide +kernel
theorem dX12_next_31 : decode cX12_next 31 = .ok (.invokevirtual 77, 3) := by decide +kernel
theorem dX12_next_34 : decode cX12_next 34 = .ok (.iconst (-1), 1) := by decide +kernel
theorem dX12_next_35 : decode cX12_next 35 = .ok (.if_icmp .ne 11, 3) := by decide +kernel
theorem dX12_next_38 : decode cX12_next 38 = .ok (.aload_n 0, 1) := by decide +kernel
theorem dX12_next_39 : decode cX12_next 39 = .ok (.iconst 0, 1) := by decide +kernel
theorem dX12_next_40 : decode cX12_next 40 = .ok (.putfield 84, 3) := by decide +kernel
theorem dX12_next_43 : decode cX12_next 43 = .ok (.goto 154, 3) := by decide +kernel
theorem dX12_next_46 : decode cX12_next 46 = .ok (.aload_n 0, 1) := by decide +kernel
theorem dX12_next_47 : decode cX12_next 47 = .ok (.invokevirtual 77, 3) := by decide +kernel
theorem dX12_next_50 : decode cX12_next 50 = .ok (.invokestatic 87, 3) := by decide +kernel
theorem dX12_next_53 : decode cX12_next 53 = .ok (.ifCond .eq 31, 3) := by decide +kernel
theorem dX12_next_56 : decode cX12_next 56 = .ok (.aload_n 0, 1) := by decide +kernel
theorem dX12_next_57 : decode cX12_next 57 = .ok (.iconst 1, 1) := by decide +kernel
theorem dX12_next_58 : decode cX12_next 58 = .ok (.putfield 84, 3) := by decide +kernel
theorem dX12_next_61 : decode cX12_next 61 = .ok (.aload_n 0, 1) := by decide +kernel
theorem dX12_next_62 : decode cX12_next 62 = .ok (.invokevirtual 77, 3) := by decide +kernel
theorem dX12_next_65 : decode cX12_next 65 = .ok (.invokestatic 87, 3) := by decide +kernel
theorem dX12_next_68 : decode cX12_next 68 = .ok (.ifCond .eq 129, 3) := by decide +kernel
theorem dX12_next_71 : decode cX12_next 71 = .ok (.aload_n 0, 1) := by decide +kernel
theorem dX12_next_72 : decode cX12_next 72 = .ok (.dup, 1) := by decide +kernel
theorem dX12_next_73 : decode cX12_next 73 = .ok (.getfield 74, 3) := by decide +kernel
theorem dX12_next_76 : decode cX12_next 76 = .ok (.iconst 1, 1) := by decide +kernel
theorem dX12_next_77 : decode cX12_next 77 = .ok (.iadd, 1) := by decide +kernel
theorem dX12_next_78 : decode cX12_next 78 = .ok (.putfield 74, 3) := by decide +kernel
theorem dX12_next_81 : decode cX12_next 81 = .ok (.goto (-20), 3) := by decide +kernel
theorem dX12_next_84 : decode cX12_next 84 = .ok (.aload_n 0, 1) := by decide +kernel
theorem dX12_next_85 : decode cX12_next 85 = .ok (.invokevirtual 77, 3) := by decide +kernel
theorem dX12_next_88 : decode cX12_next 88 = .ok (.invokestatic 91, 3) := by decide +kernel
theorem dX12_next_91 : decode cX12_next 91 = .ok (.ifCond .eq 91, 3) := by decide +kernel
theorem dX12_next_94 : decode cX12_next 94 = .ok (.aload_n 0, 1) := by decide +kernel
theorem dX12_next_95 : decode cX12_next 95 = .ok (.iconst 2, 1) := by decide +kernel
theorem dX12_next_96 : decode cX12_next 96 = .ok (.putfield 84, 3) := by decide +kernel
theorem dX12_next_99 : decode cX12_next 99 = .ok (.aload_n 0, 1) := by decide +kernel
theorem dX12_next_100 : decode cX12_next 100 = .ok (.iconst 0, 1) := by decide +kernel
theorem dX12_next_101 : decode cX12_next 101 = .ok (.putfield 94, 3) := by decide +kernel
theorem dX12_next_104 : decode cX12_next 104 = .ok (.aload_n 0, 1) := by decide +kernel
theorem dX12_next_105 : decode cX12_next 105 = .ok (.invokevirtual 77, 3) := by decide +kernel
theorem dX12_next_108 : decode cX12_next 108 = .ok (.invokestatic 91, 3) := by decide +kernel
theorem dX12_next_111 : decode cX12_next 111 = .ok (.ifCond .eq 41, 3) := by decide +kernel
theorem dX12_next_114 : decode cX12_next 114 = .ok (.aload_n 0, 1) := by decide +kernel
theorem dX12_next_115 : decode cX12_next 115 = .ok (.sipush 1000, 3) := by decide +kernel
theorem dX12_next_118 : decode cX12_next 118 = .ok (.bipush 10, 2) := by decide +kernel
theorem dX12_next_120 : decode cX12_next 120 = .ok (.aload_n 0, 1) := by decide +kernel
theorem dX12_next_121 : decode cX12_next 121 = .ok (.getfield 94, 3) := by decide +kernel
theorem dX12_next_124 : decode cX12_next 124 = .ok (.imul, 1) := by decide +kernel
theorem dX12_next_125 : decode cX12_next 125 = .ok (.aload_n 0, 1) := by decide +kernel
theorem dX12_next_126 : decode cX12_next 126 = .ok (.invokevirtual 77, 3) := by decide +kernel
theorem dX12_next_129 : decode cX12_next 129 = .ok (.iadd, 1) := by decide +kernel
theorem dX12_next_130 : decode cX12_next 130 = .ok (.bipush 48, 2) := by decide +kernel
theorem dX12_next_132 : decode cX12_next 132 = .ok (.isub, 1) := by decide +kernel
theorem dX12_next_133 : decode cX12_next 133 = .ok (.invokestatic 97, 3) := by decide +kernel
theorem dX12_next_136 : decode cX12_next 136 = .ok (.putfield 94, 3) := by decide +kernel
theorem dX12_next_139 : decode cX12_next 139 = .ok (.aload_n 0, 1) := by decide +kernel
theorem dX12_next_140 : decode cX12_next 140 = .ok (.dup, 1) := by decide +kernel
theorem dX12_next_141 : decode cX12_next 141 = .ok (.getfield 74, 3) := by decide +kernel
theorem dX12_next_144 : decode cX12_next 144 = .ok (.iconst 1, 1) := by decide +kernel
theorem dX12_next_145 : decode cX12_next 145 = .ok (.iadd, 1) := by decide +kernel
theorem dX12_next_146 : decode cX12_next 146 = .ok (.putfield 74, 3) := by decide +kernel
theorem dX12_next_149 : decode cX12_next 149 = .ok (.goto (-45), 3) := by decide +kernel
theorem dX12_next_152 : decode cX12_next 152 = .ok (.aload_n 0, 1) := by decide +kernel
theorem dX12_next_153 : decode cX12_next 153 = .ok (.aload_n 0, 1) := by decide +kernel
theorem dX12_next_154 : decode cX12_next 154 = .ok (.getfield 74, 3) := by decide +kernel
theorem dX12_next_157 : decode cX12_next 157 = .ok (.aload_n 0, 1) := by decide +kernel
theorem dX12_next_158 : decode cX12_next 158 = .ok (.getfield 81, 3) := by decide +kernel
theorem dX12_next_161 : decode cX12_next 161 = .ok (.isub, 1) := by decide +kernel
theorem dX12_next_162 : decode cX12_next 162 = .ok (.iconst 2, 1) := by decide +kernel
theorem dX12_next_163 : decode cX12_next 163 = .ok (.if_icmp .le 9, 3) := by decide +kernel
theorem dX12_next_166 : decode cX12_next 166 = .ok (.sipush 1000, 3) := by decide +kernel
theorem dX12_next_169 : decode cX12_next 169 = .ok (.goto 7, 3) := by decide +kernel
theorem dX12_next_172 : decode cX12_next 172 = .ok (.aload_n 0, 1) := by decide +kernel
theorem dX12_next_173 : decode cX12_next 173 = .ok (.getfield 94, 3) := by decide +kernel
theorem dX12_next_176 : decode cX12_next 176 = .ok (.putfield 94, 3) := by decide +kernel
theorem dX12_next_179 : decode cX12_next 179 = .ok (.goto 18, 3) := by decide +kernel
theorem dX12_next_182 : decode cX12_next 182 = .ok (.aload_n 0, 1) := by decide +kernel
theorem dX12_next_183 : decode cX12_next 183 = .ok (.iconst 3, 1) := by decide +kernel
theorem dX12_next_184 : decode cX12_next 184 = .ok (.putfield 84, 3) := by decide +kernel
theorem dX12_next_187 : decode cX12_next 187 = .ok (.aload_n 0, 1) := by decide +kernel
theorem dX12_next_188 : decode cX12_next 188 = .ok (.dup, 1) := by decide +kernel
theorem dX12_next_189 : decode cX12_next 189 = .ok (.getfield 74, 3) := by decide +kernel
theorem dX12_next_192 : decode cX12_next 192 = .ok (.iconst 1, 1) := by decide +kernel
theorem dX12_next_193 : decode cX12_next 193 = .ok (.iadd, 1) := by decide +kernel
theorem dX12_next_194 : decode cX12_next 194 = .ok (.putfield 74, 3) := by decide +kernel
theorem dX12_next_197 : decode cX12_next 197 = .ok (.return_, 1) := by decide +kernel
theorem dX12_bad_0 : decode cX12_bad 0 = .ok (.aload_n 0, 1) := by decide +kernel
theorem dX12_bad_1 : decode cX12_bad 1 = .ok (.aload_n 0, 1) := by decide +kernel
theorem dX12_bad_2 : decode cX12_bad 2 = .ok (.getfield 103, 3) := by decide +kernel
theorem dX12_bad_5 : decode cX12_bad 5 = .ok (.iconst (-1), 1) := by decide +kernel
theorem dX12_bad_6 : decode cX12_bad 6 = .ok (.if_icmp .ne 10, 3) := by decide +kernel
theorem dX12_bad_9 : decode cX12_bad 9 = .ok (.aload_n 0, 1) := by decide +kernel
theorem dX12_bad_10 : decode cX12_bad 10 = .ok (.getfield 81, 3) := by decide +kernel
theorem dX12_bad_13 : decode cX12_bad 13 = .ok (.goto 7, 3) := by decide +kernel
theorem dX12_bad_16 : decode cX12_bad 16 = .ok (.aload_n 0, 1) := by decide +kernel
theorem dX12_bad_17 : decode cX12_bad 17 = .ok (.getfield 103, 3) := by decide +kernel
theorem dX12_bad_20 : decode cX12_bad 20 = .ok (.putfield 103, 3) := by decide +kernel
theorem dX12_bad_23 : decode cX12_bad 23 = .ok (.return_, 1) := by decide +kernel
theorem dX12_isWord_0 : decode cX12_isWord 0 = .ok (.aload_n 0, 1) := by decide +kernel
theorem dX12_isWord_1 : decode cX12_isWord 1 = .ok (.getfield 103, 3) := by decide +kernel
theorem dX12_isWord_4 : decode cX12_isWord 4 = .ok (.iconst (-1), 1) := by decide +kernel
theorem dX12_isWord_5 : decode cX12_isWord 5 = .ok (.if_icmp .ne 31, 3) := by decide +kernel
theorem dX12_isWord_8 : decode cX12_isWord 8 = .ok (.aload_n 0, 1) := by decide +kernel
theorem dX12_isWord_9 : decode cX12_isWord 9 = .ok (.getfield 84, 3) := by decide +kernel
theorem dX12_isWord_12 : decode cX12_isWord 12 = .ok (.iconst 1, 1) := by decide +kernel
theorem dX12_isWord_13 : decode cX12_isWord 13 = .ok (.if_icmp .ne 23, 3) := by decide +kernel
theorem dX12_isWord_16 : decode cX12_isWord 16 = .ok (.aload_n 0, 1) := by decide +kernel
theorem dX12_isWord_17 : decode cX12_isWord 17 = .ok (.getfield 74, 3) := by decide +kernel
theorem dX12_isWord_20 : decode cX12_isWord 20 = .ok (.aload_n 0, 1) := by decide +kernel
theorem dX12_isWord_21 : decode cX12_isWord 21 = .ok (.getfield 81, 3) := by decide +kernel
theorem dX12_isWord_24 : decode cX12_isWord 24 = .ok (.isub, 1) := by decide +kernel
theorem dX12_isWord_25 : decode cX12_isWord 25 = .ok (.aload_n 1, 1) := by decide +kernel
theorem dX12_isWord_26 : decode cX12_isWord 26 = .ok (.invokevirtual 106, 3) := by decide +kernel
theorem dX12_isWord_29 : decode cX12_isWord 29 = .ok (.if_icmp .ne 7, 3) := by decide +kernel
theorem dX12_isWord_32 : decode cX12_isWord 32 = .ok (.iconst 1, 1) := by decide +kernel
theorem dX12_isWord_33 : decode cX12_isWord 33 = .ok (.goto 4, 3) := by decide +kernel
theorem dX12_isWord_36 : decode cX12_isWord 36 = .ok (.iconst 0, 1) := by decide +kernel
theorem dX12_isWord_37 : decode cX12_isWord 37 = .ok (.istore_n 2, 1) := by decide +kernel
theorem dX12_isWord_38 : decode cX12_isWord 38 = .ok (.iconst 0, 1) := by decide +kernel
theorem dX12_isWord_39 : decode cX12_isWord 39 = .ok (.istore_n 3, 1) := by decide +kernel
theorem dX12_isWord_40 : decode cX12_isWord 40 = .ok (.iload_n 2, 1) := by decide +kernel
theorem dX12_isWord_41 : decode cX12_isWord 41 = .ok (.ifCond .eq 42, 3) := by decide +kernel
theorem dX12_isWord_44 : decode cX12_isWord 44 = .ok (.iload_n 3, 1) := by decide +kernel
theorem dX12_isWord_45 : decode cX12_isWord 45 = .ok (.aload_n 1, 1) := by decide +kernel
theorem dX12_isWord_46 : decode cX12_isWord 46 = .ok (.invokevirtual 106, 3) := by decide +kernel
theorem dX12_isWord_49 : decode cX12_isWord 49 = .ok (.if_icmp .ge 34, 3) := by decide +kernel
theorem dX12_isWord_52 : decode cX12_isWord 52 = .ok (.aload_n 0, 1) := by decide +kernel
theorem dX12_isWord_53 : decode cX12_isWord 53 = .ok (.getfield 9, 3) := by decide +kernel
theorem dX12_isWord_56 : decode cX12_isWord 56 = .ok (.aload_n 0, 1) := by decide +kernel
theorem dX12_isWord_57 : decode cX12_isWord 57 = .ok (.getfield 81, 3) := by decide +kernel
theorem dX12_isWord_60 : decode cX12_isWord 60 = .ok (.iload_n 3, 1) := by decide +kernel
theorem dX12_isWord_61 : decode cX12_isWord 61 = .ok (.iadd, 1) := by decide +kernel
theorem dX12_isWord_62 : decode cX12_isWord 62 = .ok (.iaload, 1) := by decide +kernel
theorem dX12_isWord_63 : decode cX12_isWord 63 = .ok (.aload_n 1, 1) := by decide +kernel
theorem dX12_isWord_64 : decode cX12_isWord 64 = .ok (.iload_n 3, 1) := by decide +kernel
theorem dX12_isWord_65 : decode cX12_isWord 65 = .ok (.invokevirtual 111, 3) := by decide +kernel
theorem dX12_isWord_68 : decode cX12_isWord 68 = .ok (.if_icmp .ne 7, 3) := by decide +kernel
theorem dX12_isWord_71 : decode cX12_isWord 71 = .ok (.iconst 1, 1) := by decide +kernel
theorem dX12_isWord_72 : decode cX12_isWord 72 = .ok (.goto 4, 3) := by decide +kernel
theorem dX12_isWord_75 : decode cX12_isWord 75 = .ok (.iconst 0, 1) := by decide +kernel
theorem dX12_isWord_76 : decode cX12_isWord 76 = .ok (.istore_n 2, 1) := by decide +kernel
theorem dX12_isWord_77 : decode cX12_isWord 77 = .ok (.iinc 3 1, 3) := by decide +kernel
theorem dX12_isWord_80 : decode cX12_isWord 80 = .ok (.goto (-40), 3) := by decide +kernel
theorem dX12_isWord_83 : decode cX12_isWord 83 = .ok (.iload_n 2, 1) := by decide +kernel
theorem dX12_isWord_84 : decode cX12_isWord 84 = .ok (.ireturn, 1) := by decide +kernel
theorem dX12_takesSemicolon_0 : decode cX12_takesSemicolon 0 = .ok (.aload_n 0, 1) := by decide +kernel
theorem dX12_takesSemicolon_1 : decode cX12_takesSemicolon 1 = .ok (.getfield 103, 3) := by decide +kernel
theorem dX12_takesSemicolon_4 : decode cX12_takesSemicolon 4 = .ok (.iconst (-1), 1) := by decide +kernel
theorem dX12_takesSemicolon_5 : decode cX12_takesSemicolon 5 = .ok (.if_icmp .ne 29, 3) := by decide +kernel
theorem dX12_takesSemicolon_8 : decode cX12_takesSemicolon 8 = .ok (.aload_n 0, 1) := by decide +kernel
theorem dX12_takesSemicolon_9 : decode cX12_takesSemicolon 9 = .ok (.getfield 84, 3) := by decide +kernel
theorem dX12_takesSemicolon_12 : decode cX12_takesSemicolon 12 = .ok (.iconst 3, 1) := by decide +kernel
theorem dX12_takesSemicolon_13 : decode cX12_takesSemicolon 13 = .ok (.if_icmp .ne 21, 3) := by decide +kernel
theorem dX12_takesSemicolon_16 : decode cX12_takesSemicolon 16 = .ok (.aload_n 0, 1) := by decide +kernel
theorem dX12_takesSemicolon_17 : decode cX12_takesSemicolon 17 = .ok (.getfield 9, 3) := by decide +kernel
theorem dX12_takesSemicolon_20 : decode cX12_takesSemicolon 20 = .ok (.aload_n 0, 1) := by decide +kernel
theorem dX12_takesSemicolon_21 : decode cX12_takesSemicolon 21 = .ok (.getfield 81, 3) := by decide +kernel
theorem dX12_takesSemicolon_24 : decode cX12_takesSemicolon 24 = .ok (.iaload, 1) := by decide +kernel
theorem dX12_takesSemicolon_25 : decode cX12_takesSemicolon 25 = .ok (.bipush 59, 2) := by decide +kernel
theorem dX12_takesSemicolon_27 : decode cX12_takesSemicolon 27 = .ok (.if_icmp .ne 7, 3) := by decide +kernel
theorem dX12_takesSemicolon_30 : decode cX12_takesSemicolon 30 = .ok (.iconst 1, 1) := by decide +kernel
theorem dX12_takesSemicolon_31 : decode cX12_takesSemicolon 31 = .ok (.goto 4, 3) := by decide +kernel
theorem dX12_takesSemicolon_34 : decode cX12_takesSemicolon 34 = .ok (.iconst 0, 1) := by decide +kernel
theorem dX12_takesSemicolon_35 : decode cX12_takesSemicolon 35 = .ok (.istore_n 1, 1) := by decide +kernel
theorem dX12_takesSemicolon_36 : decode cX12_takesSemicolon 36 = .ok (.iload_n 1, 1) := by decide +kernel
theorem dX12_takesSemicolon_37 : decode cX12_takesSemicolon 37 = .ok (.ifCond .eq 7, 3) := by decide +kernel
theorem dX12_takesSemicolon_40 : decode cX12_takesSemicolon 40 = .ok (.aload_n 0, 1) := by decide +kernel
theorem dX12_takesSemicolon_41 : decode cX12_takesSemicolon 41 = .ok (.invokevirtual 115, 3) := by decide +kernel
theorem dX12_takesSemicolon_44 : decode cX12_takesSemicolon 44 = .ok (.iload_n 1, 1) := by decide +kernel
theorem dX12_takesSemicolon_45 : decode cX12_takesSemicolon 45 = .ok (.ireturn, 1) := by decide +kernel
theorem dX12_takesNumber_0 : decode cX12_takesNumber 0 = .ok (.aload_n 0, 1) := by decide +kernel
theorem dX12_takesNumber_1 : decode cX12_takesNumber 1 = .ok (.getfield 103, 3) := by decide +kernel
theorem dX12_takesNumber_4 : decode cX12_takesNumber 4 = .ok (.iconst (-1), 1) := by decide +kernel
theorem dX12_takesNumber_5 : decode cX12_takesNumber 5 = .ok (.if_icmp .ne 26, 3) := by decide +kernel
theorem dX12_takesNumber_8 : decode cX12_takesNumber 8 = .ok (.aload_n 0, 1) := by decide +kernel
theorem dX12_takesNumber_9 : decode cX12_takesNumber 9 = .ok (.getfield 84, 3) := by decide +kernel
theorem dX12_takesNumber_12 : decode cX12_takesNumber 12 = .ok (.iconst 2, 1) := by decide +kernel
theorem dX12_takesNumber_13 : decode cX12_takesNumber 13 = .ok (.if_icmp .ne 18, 3) := by decide +kernel
theorem dX12_takesNumber_16 : decode cX12_takesNumber 16 = .ok (.aload_n 0, 1) := by decide +kernel
theorem dX12_takesNumber_17 : decode cX12_takesNumber 17 = .ok (.getfield 94, 3) := by decide +kernel
theorem dX12_takesNumber_20 : decode cX12_takesNumber 20 = .ok (.i2l, 1) := by decide +kernel
theorem dX12_takesNumber_21 : decode cX12_takesNumber 21 = .ok (.iload_n 1, 1) := by decide +kernel
theorem dX12_takesNumber_22 : decode cX12_takesNumber 22 = .ok (.i2l, 1) := by decide +kernel
theorem dX12_takesNumber_23 : decode cX12_takesNumber 23 = .ok (.iload_n 2, 1) := by decide +kernel
theorem dX12_takesNumber_24 : decode cX12_takesNumber 24 = .ok (.i2l, 1) := by decide +kernel
theorem dX12_takesNumber_25 : decode cX12_takesNumber 25 = .ok (.invokestatic 70, 3) := by decide +kernel
theorem dX12_takesNumber_28 : decode cX12_takesNumber 28 = .ok (.ifCond .ne 9, 3) := by decide +kernel
theorem dX12_takesNumber_31 : decode cX12_takesNumber 31 = .ok (.aload_n 0, 1) := by decide +kernel
theorem dX12_takesNumber_32 : decode cX12_takesNumber 32 = .ok (.invokevirtual 118, 3) := by decide +kernel
theorem dX12_takesNumber_35 : decode cX12_takesNumber 35 = .ok (.iload_n 1, 1) := by decide +kernel
theorem dX12_takesNumber_36 : decode cX12_takesNumber 36 = .ok (.ireturn, 1) := by decide +kernel
theorem dX12_takesNumber_37 : decode cX12_takesNumber 37 = .ok (.aload_n 0, 1) := by decide +kernel
theorem dX12_takesNumber_38 : decode cX12_takesNumber 38 = .ok (.getfield 94, 3) := by decide +kernel
theorem dX12_takesNumber_41 : decode cX12_takesNumber 41 = .ok (.istore_n 3, 1) := by decide +kernel
theorem dX12_takesNumber_42 : decode cX12_takesNumber 42 = .ok (.aload_n 0, 1) := by decide +kernel
theorem dX12_takesNumber_43 : decode cX12_takesNumber 43 = .ok (.invokevirtual 115, 3) := by decide +kernel
theorem dX12_takesNumber_46 : decode cX12_takesNumber 46 = .ok (.iload_n 3, 1) := by decide +kernel
theorem dX12_takesNumber_47 : decode cX12_takesNumber 47 = .ok (.ireturn, 1) := by decide +kernel
theorem dX12_isNew_0 : decode cX12_isNew 0 = .ok (.aload_n 0, 1) := by decide +kernel
theorem dX12_isNew_1 : decode cX12_isNew 1 = .ok (.getfield 121, 3) := by decide +kernel
theorem dX12_isNew_4 : decode cX12_isNew 4 = .ok (.iload_n 1, 1) := by decide +kernel
theorem dX12_isNew_5 : decode cX12_isNew 5 = .ok (.ishr, 1) := by decide +kernel
theorem dX12_isNew_6 : decode cX12_isNew 6 = .ok (.iconst 1, 1) := by decide +kernel
theorem dX12_isNew_7 : decode cX12_isNew 7 = .ok (.iand, 1) := by decide +kernel
theorem dX12_isNew_8 : decode cX12_isNew 8 = .ok (.ifCond .ne 7, 3) := by decide +kernel
theorem dX12_isNew_11 : decode cX12_isNew 11 = .ok (.iconst 1, 1) := by decide +kernel
theorem dX12_isNew_12 : decode cX12_isNew 12 = .ok (.goto 4, 3) := by decide +kernel
theorem dX12_isNew_15 : decode cX12_isNew 15 = .ok (.iconst 0, 1) := by decide +kernel
theorem dX12_isNew_16 : decode cX12_isNew 16 = .ok (.istore_n 2, 1) := by decide +kernel
theorem dX12_isNew_17 : decode cX12_isNew 17 = .ok (.aload_n 0, 1) := by decide +kernel
theorem dX12_isNew_18 : decode cX12_isNew 18 = .ok (.dup, 1) := by decide +kernel
theorem dX12_isNew_19 : decode cX12_isNew 19 = .ok (.getfield 121, 3) := by decide +kernel
theorem dX12_isNew_22 : decode cX12_isNew 22 = .ok (.iconst 1, 1) := by decide +kernel
theorem dX12_isNew_23 : decode cX12_isNew 23 = .ok (.iload_n 1, 1) := by decide +kernel
theorem dX12_isNew_24 : decode cX12_isNew 24 = .ok (.ishl, 1) := by decide +kernel
theorem dX12_isNew_25 : decode cX12_isNew 25 = .ok (.ior, 1) := by decide +kernel
theorem dX12_isNew_26 : decode cX12_isNew 26 = .ok (.putfield 121, 3) := by decide +kernel
theorem dX12_isNew_29 : decode cX12_isNew 29 = .ok (.iload_n 2, 1) := by decide +kernel
theorem dX12_isNew_30 : decode cX12_isNew 30 = .ok (.ireturn, 1) := by decide +kernel
theorem dX12_takesOne_0 : decode cX12_takesOne 0 = .ok (.aload_n 0, 1) := by decide +kernel
theorem dX12_takesOne_1 : decode cX12_takesOne 1 = .ok (.aload_n 1, 1) := by decide +kernel
theorem dX12_takesOne_2 : decode cX12_takesOne 2 = .ok (.invokevirtual 124, 3) := by decide +kernel
theorem dX12_takesOne_5 : decode cX12_takesOne 5 = .ok (.ifCond .eq 7, 3) := by decide +kernel
theorem dX12_takesOne_8 : decode cX12_takesOne 8 = .ok (.iconst 0, 1) := by decide +kernel
theorem dX12_takesOne_9 : decode cX12_takesOne 9 = .ok (.goto 28, 3) := by decide +kernel
theorem dX12_takesOne_12 : decode cX12_takesOne 12 = .ok (.aload_n 0, 1) := by decide +kernel
theorem dX12_takesOne_13 : decode cX12_takesOne 13 = .ok (.aload_n 2, 1) := by decide +kernel
theorem dX12_takesOne_14 : decode cX12_takesOne 14 = .ok (.invokevirtual 124, 3) := by decide +kernel
theorem dX12_takesOne_17 : decode cX12_takesOne 17 = .ok (.ifCond .eq 7, 3) := by decide +kernel
theorem dX12_takesOne_20 : decode cX12_takesOne 20 = .ok (.iconst 1, 1) := by decide +kernel
theorem dX12_takesOne_21 : decode cX12_takesOne 21 = .ok (.goto 16, 3) := by decide +kernel
theorem dX12_takesOne_24 : decode cX12_takesOne 24 = .ok (.aload_n 0, 1) := by decide +kernel
theorem dX12_takesOne_25 : decode cX12_takesOne 25 = .ok (.aload_n 3, 1) := by decide +kernel
theorem dX12_takesOne_26 : decode cX12_takesOne 26 = .ok (.invokevirtual 124, 3) := by decide +kernel
theorem dX12_takesOne_29 : decode cX12_takesOne 29 = .ok (.ifCond .eq 7, 3) := by decide +kernel
theorem dX12_takesOne_32 : decode cX12_takesOne 32 = .ok (.iconst 2, 1) := by decide +kernel
theorem dX12_takesOne_33 : decode cX12_takesOne 33 = .ok (.goto 4, 3) := by decide +kernel
theorem dX12_takesOne_36 : decode cX12_takesOne 36 = .ok (.iconst (-1), 1) := by decide +kernel
theorem dX12_takesOne_37 : decode cX12_takesOne 37 = .ok (.istore 4, 2) := by decide +kernel
theorem dX12_takesOne_39 : decode cX12_takesOne 39 = .ok (.iload 4, 2) := by decide +kernel
theorem dX12_takesOne_41 : decode cX12_takesOne 41 = .ok (.iconst (-1), 1) := by decide +kernel
theorem dX12_takesOne_42 : decode cX12_takesOne 42 = .ok (.if_icmp .ne 9, 3) := by decide +kernel
theorem dX12_takesOne_45 : decode cX12_takesOne 45 = .ok (.aload_n 0, 1) := by decide +kernel
theorem dX12_takesOne_46 : decode cX12_takesOne 46 = .ok (.invokevirtual 118, 3) := by decide +kernel
theorem dX12_takesOne_49 : decode cX12_takesOne 49 = .ok (.iconst 0, 1) := by decide +kernel
theorem dX12_takesOne_50 : decode cX12_takesOne 50 = .ok (.ireturn, 1) := by decide +kernel
theorem dX12_takesOne_51 : decode cX12_takesOne 51 = .ok (.aload_n 0, 1) := by decide +kernel
theorem dX12_takesOne_52 : decode cX12_takesOne 52 = .ok (.invokevirtual 115, 3) := by decide +kernel
theorem dX12_takesOne_55 : decode cX12_takesOne 55 = .ok (.iload 4, 2) := by decide +kernel
theorem dX12_takesOne_57 : decode cX12_takesOne 57 = .ok (.ireturn, 1) := by decide +kernel
theorem dX12_readsPiece_0 : decode cX12_readsPiece 0 = .ok (.aload_n 0, 1) := by decide +kernel
theorem dX12_readsPiece_1 : decode cX12_readsPiece 1 = .ok (.ldc 128, 2) := by decide +kernel
theorem dX12_readsPiece_3 : decode cX12_readsPiece 3 = .ok (.invokevirtual 124, 3) := by decide +kernel
theorem dX12_readsPiece_6 : decode cX12_readsPiece 6 = .ok (.ifCond .eq 32, 3) := by decide +kernel
theorem dX12_readsPiece_9 : decode cX12_readsPiece 9 = .ok (.aload_n 0, 1) := by decide +kernel
theorem dX12_readsPiece_10 : decode cX12_readsPiece 10 = .ok (.iconst 0, 1) := by decide +kernel
theorem dX12_readsPiece_11 : decode cX12_readsPiece 11 = .ok (.invokevirtual 130, 3) := by decide +kernel
theorem dX12_readsPiece_14 : decode cX12_readsPiece 14 = .ok (.ifCond .eq 24, 3) := by decide +kernel
theorem dX12_readsPiece_17 : decode cX12_readsPiece 17 = .ok (.aload_n 0, 1) := by decide +kernel
theorem dX12_readsPiece_18 : decode cX12_readsPiece 18 = .ok (.invokevirtual 115, 3) := by decide +kernel
theorem dX12_readsPiece_21 : decode cX12_readsPiece 21 = .ok (.aload_n 0, 1) := by decide +kernel
theorem dX12_readsPiece_22 : decode cX12_readsPiece 22 = .ok (.aload_n 0, 1) := by decide +kernel
theorem dX12_readsPiece_23 : decode cX12_readsPiece 23 = .ok (.ldc 133, 2) := by decide +kernel
theorem dX12_readsPiece_25 : decode cX12_readsPiece 25 = .ok (.ldc 134, 2) := by decide +kernel
theorem dX12_readsPiece_27 : decode cX12_readsPiece 27 = .ok (.ldc 135, 2) := by decide +kernel
theorem dX12_readsPiece_29 : decode cX12_readsPiece 29 = .ok (.invokevirtual 137, 3) := by decide +kernel
theorem dX12_readsPiece_32 : decode cX12_readsPiece 32 = .ok (.putfield 141, 3) := by decide +kernel
theorem dX12_readsPiece_35 : decode cX12_readsPiece 35 = .ok (.goto 200, 3) := by decide +kernel
theorem dX12_readsPiece_38 : decode cX12_readsPiece 38 = .ok (.aload_n 0, 1) := by decide +kernel
theorem dX12_readsPiece_39 : decode cX12_readsPiece 39 = .ok (.ldc 144, 2) := by decide +kernel
theorem dX12_readsPiece_41 : decode cX12_readsPiece 41 = .ok (.invokevirtual 124, 3) := by decide +kernel
theorem dX12_readsPiece_44 : decode cX12_readsPiece 44 = .ok (.ifCond .eq 29, 3) := by decide +kernel
theorem dX12_readsPiece_47 : decode cX12_readsPiece 47 = .ok (.aload_n 0, 1) := by decide +kernel
theorem dX12_readsPiece_48 : decode cX12_readsPiece 48 = .ok (.iconst 1, 1) := by decide +kernel
theorem dX12_readsPiece_49 : decode cX12_readsPiece 49 = .ok (.invokevirtual 130, 3) := by decide +kernel
theorem dX12_readsPiece_52 : decode cX12_readsPiece 52 = .ok (.ifCond .eq 21, 3) := by decide +kernel
theorem dX12_readsPiece_55 : decode cX12_readsPiece 55 = .ok (.aload_n 0, 1) := by decide +kernel
theorem dX12_readsPiece_56 : decode cX12_readsPiece 56 = .ok (.invokevirtual 115, 3) := by decide +kernel
theorem dX12_readsPiece_59 : decode cX12_readsPiece 59 = .ok (.aload_n 0, 1) := by decide +kernel
theorem dX12_readsPiece_60 : decode cX12_readsPiece 60 = .ok (.aload_n 0, 1) := by decide +kernel
theorem dX12_readsPiece_61 : decode cX12_readsPiece 61 = .ok (.iconst 2, 1) := by decide +kernel
theorem dX12_readsPiece_62 : decode cX12_readsPiece 62 = .ok (.bipush 60, 2) := by decide +kernel
theorem dX12_readsPiece_64 : decode cX12_readsPiece 64 = .ok (.invokevirtual 145, 3) := by decide +kernel
theorem dX12_readsPiece_67 : decode cX12_readsPiece 67 = .ok (.putfield 148, 3) := by decide +kernel
theorem dX12_readsPiece_70 : decode cX12_readsPiece 70 = .ok (.goto 165, 3) := by decide +kernel
theorem dX12_readsPiece_73 : decode cX12_readsPiece 73 = .ok (.aload_n 0, 1) := by decide +kernel
theorem dX12_readsPiece_74 : decode cX12_readsPiece 74 = .ok (.ldc 134, 2) := by decide +kernel
theorem dX12_readsPiece_76 : decode cX12_readsPiece 76 = .ok (.invokevirtual 124, 3) := by decide +kernel
theorem dX12_readsPiece_79 : decode cX12_readsPiece 79 = .ok (.ifCond .eq 29, 3) := by decide +kernel
theorem dX12_readsPiece_82 : decode cX12_readsPiece 82 = .ok (.aload_n 0, 1) := by decide +kernel
theorem dX12_readsPiece_83 : decode cX12_readsPiece 83 = .ok (.iconst 2, 1) := by decide +kernel
theorem dX12_readsPiece_84 : decode cX12_readsPiece 84 = .ok (.invokevirtual 130, 3) := by decide +kernel
theorem dX12_readsPiece_87 : decode cX12_readsPiece 87 = .ok (.ifCond .eq 21, 3) := by decide +kernel
theorem dX12_readsPiece_90 : decode cX12_readsPiece 90 = .ok (.aload_n 0, 1) := by decide +kernel
theorem dX12_readsPiece_91 : decode cX12_readsPiece 91 = .ok (.invokevirtual 115, 3) := by decide +kernel
theorem dX12_readsPiece_94 : decode cX12_readsPiece 94 = .ok (.aload_n 0, 1) := by decide +kernel
theorem dX12_readsPiece_95 : decode cX12_readsPiece 95 = .ok (.aload_n 0, 1) := by decide +kernel
theorem dX12_readsPiece_96 : decode cX12_readsPiece 96 = .ok (.iconst 1, 1) := by decide +kernel
theorem dX12_readsPiece_97 : decode cX12_readsPiece 97 = .ok (.bipush 30, 2) := by decide +kernel
theorem dX12_readsPiece_99 : decode cX12_readsPiece 99 = .ok (.invokevirtual 145, 3) := by decide +kernel
theorem dX12_readsPiece_102 : decode cX12_readsPiece 102 = .ok (.putfield 151, 3) := by decide +kernel
theorem dX12_readsPiece_105 : decode cX12_readsPiece 105 = .ok (.goto 130, 3) := by decide +kernel
theorem dX12_readsPiece_108 : decode cX12_readsPiece 108 = .ok (.aload_n 0, 1) := by decide +kernel
theorem dX12_readsPiece_109 : decode cX12_readsPiece 109 = .ok (.ldc 154, 2) := by decide +kernel
theorem dX12_readsPiece_111 : decode cX12_readsPiece 111 = .ok (.invokevirtual 124, 3) := by decide +kernel
theorem dX12_readsPiece_114 : decode cX12_readsPiece 114 = .ok (.ifCond .eq 32, 3) := by decide +kernel
theorem dX12_readsPiece_117 : decode cX12_readsPiece 117 = .ok (.aload_n 0, 1) := by decide +kernel
theorem dX12_readsPiece_118 : decode cX12_readsPiece 118 = .ok (.iconst 3, 1) := by decide +kernel
theorem dX12_readsPiece_119 : decode cX12_readsPiece 119 = .ok (.invokevirtual 130, 3) := by decide +kernel
theorem dX12_readsPiece_122 : decode cX12_readsPiece 122 = .ok (.ifCond .eq 24, 3) := by decide +kernel
theorem dX12_readsPiece_125 : decode cX12_readsPiece 125 = .ok (.aload_n 0, 1) := by decide +kernel
theorem dX12_readsPiece_126 : decode cX12_readsPiece 126 = .ok (.invokevirtual 115, 3) := by decide +kernel
theorem dX12_readsPiece_129 : decode cX12_readsPiece 129 = .ok (.aload_n 0, 1) := by decide +kernel
theorem dX12_readsPiece_130 : decode cX12_readsPiece 130 = .ok (.aload_n 0, 1) := by decide +kernel
theorem dX12_readsPiece_131 : decode cX12_readsPiece 131 = .ok (.ldc 156, 2) := by decide +kernel
theorem dX12_readsPiece_133 : decode cX12_readsPiece 133 = .ok (.ldc 158, 2) := by decide +kernel
theorem dX12_readsPiece_135 : decode cX12_readsPiece 135 = .ok (.ldc 160, 2) := by decide +kernel
theorem dX12_readsPiece_137 : decode cX12_readsPiece 137 = .ok (.invokevirtual 137, 3) := by decide +kernel
theorem dX12_readsPiece_140 : decode cX12_readsPiece 140 = .ok (.putfield 162, 3) := by decide +kernel
theorem dX12_readsPiece_143 : decode cX12_readsPiece 143 = .ok (.goto 92, 3) := by decide +kernel
theorem dX12_readsPiece_146 : decode cX12_readsPiece 146 = .ok (.aload_n 0, 1) := by decide +kernel
theorem dX12_readsPiece_147 : decode cX12_readsPiece 147 = .ok (.ldc 165, 2) := by decide +kernel
theorem dX12_readsPiece_149 : decode cX12_readsPiece 149 = .ok (.invokevirtual 124, 3) := by decide +kernel
theorem dX12_readsPiece_152 : decode cX12_readsPiece 152 = .ok (.ifCond .eq 29, 3) := by decide +kernel
theorem dX12_readsPiece_155 : decode cX12_readsPiece 155 = .ok (.aload_n 0, 1) := by decide +kernel
theorem dX12_readsPiece_156 : decode cX12_readsPiece 156 = .ok (.iconst 4, 1) := by decide +kernel
theorem dX12_readsPiece_157 : decode cX12_readsPiece 157 = .ok (.invokevirtual 130, 3) := by decide +kernel
theorem dX12_readsPiece_160 : decode cX12_readsPiece 160 = .ok (.ifCond .eq 21, 3) := by decide +kernel
theorem dX12_readsPiece_163 : decode cX12_readsPiece 163 = .ok (.aload_n 0, 1) := by decide +kernel
theorem dX12_readsPiece_164 : decode cX12_readsPiece 164 = .ok (.invokevirtual 115, 3) := by decide +kernel
theorem dX12_readsPiece_167 : decode cX12_readsPiece 167 = .ok (.aload_n 0, 1) := by decide +kernel
theorem dX12_readsPiece_168 : decode cX12_readsPiece 168 = .ok (.aload_n 0, 1) := by decide +kernel
theorem dX12_readsPiece_169 : decode cX12_readsPiece 169 = .ok (.iconst 1, 1) := by decide +kernel
theorem dX12_readsPiece_170 : decode cX12_readsPiece 170 = .ok (.bipush 60, 2) := by decide +kernel
theorem dX12_readsPiece_172 : decode cX12_readsPiece 172 = .ok (.invokevirtual 145, 3) := by decide +kernel
theorem dX12_readsPiece_175 : decode cX12_readsPiece 175 = .ok (.putfield 167, 3) := by decide +kernel
theorem dX12_readsPiece_178 : decode cX12_readsPiece 178 = .ok (.goto 57, 3) := by decide +kernel
theorem dX12_readsPiece_181 : decode cX12_readsPiece 181 = .ok (.aload_n 0, 1) := by decide +kernel
theorem dX12_readsPiece_182 : decode cX12_readsPiece 182 = .ok (.ldc 170, 2) := by decide +kernel
theorem dX12_readsPiece_184 : decode cX12_readsPiece 184 = .ok (.invokevirtual 124, 3) := by decide +kernel
theorem dX12_readsPiece_187 : decode cX12_readsPiece 187 = .ok (.ifCond .eq 44, 3) := by decide +kernel
theorem dX12_readsPiece_190 : decode cX12_readsPiece 190 = .ok (.aload_n 0, 1) := by decide +kernel
theorem dX12_readsPiece_191 : decode cX12_readsPiece 191 = .ok (.getfield 172, 3) := by decide +kernel
theorem dX12_readsPiece_194 : decode cX12_readsPiece 194 = .ok (.iconst 4, 1) := by decide +kernel
theorem dX12_readsPiece_195 : decode cX12_readsPiece 195 = .ok (.if_icmp .ge 36, 3) := by decide +kernel
theorem dX12_readsPiece_198 : decode cX12_readsPiece 198 = .ok (.aload_n 0, 1) := by decide +kernel
theorem dX12_readsPiece_199 : decode cX12_readsPiece 199 = .ok (.invokevirtual 115, 3) := by decide +kernel
theorem dX12_readsPiece_202 : decode cX12_readsPiece 202 = .ok (.aload_n 0, 1) := by decide +kernel
theorem dX12_readsPiece_203 : decode cX12_readsPiece 203 = .ok (.getfield 13, 3) := by decide +kernel
theorem dX12_readsPiece_206 : decode cX12_readsPiece 206 = .ok (.aload_n 0, 1) := by decide +kernel
theorem dX12_readsPiece_207 : decode cX12_readsPiece 207 = .ok (.getfield 172, 3) := by decide +kernel
theorem dX12_readsPiece_210 : decode cX12_readsPiece 210 = .ok (.aload_n 0, 1) := by decide +kernel
theorem dX12_readsPiece_211 : decode cX12_readsPiece 211 = .ok (.iconst 1, 1) := by decide +kernel
theorem dX12_readsPiece_212 : decode cX12_readsPiece 212 = .ok (.bipush 8, 2) := by decide +kernel
theorem dX12_readsPiece_214 : decode cX12_readsPiece 214 = .ok (.invokevirtual 145, 3) := by decide +kernel
theorem dX12_readsPiece_217 : decode cX12_readsPiece 217 = .ok (.iastore, 1) := by decide +kernel
theorem dX12_readsPiece_218 : decode cX12_readsPiece 218 = .ok (.aload_n 0, 1) := by decide +kernel
theorem dX12_readsPiece_219 : decode cX12_readsPiece 219 = .ok (.dup, 1) := by decide +kernel
theorem dX12_readsPiece_220 : decode cX12_readsPiece 220 = .ok (.getfield 172, 3) := by decide +kernel
theorem dX12_readsPiece_223 : decode cX12_readsPiece 223 = .ok (.iconst 1, 1) := by decide +kernel
theorem dX12_readsPiece_224 : decode cX12_readsPiece 224 = .ok (.iadd, 1) := by decide +kernel
theorem dX12_readsPiece_225 : decode cX12_readsPiece 225 = .ok (.putfield 172, 3) := by decide +kernel
theorem dX12_readsPiece_228 : decode cX12_readsPiece 228 = .ok (.goto 7, 3) := by decide +kernel
theorem dX12_readsPiece_231 : decode cX12_readsPiece 231 = .ok (.aload_n 0, 1) := by decide +kernel
theorem dX12_readsPiece_232 : decode cX12_readsPiece 232 = .ok (.invokevirtual 118, 3) := by decide +kernel
theorem dX12_readsPiece_235 : decode cX12_readsPiece 235 = .ok (.return_, 1) := by decide +kernel
theorem dX12_reads_0 : decode cX12_reads 0 = .ok (.aload_n 0, 1) := by decide +kernel
theorem dX12_reads_1 : decode cX12_reads 1 = .ok (.iconst 0, 1) := by decide +kernel
theorem dX12_reads_2 : decode cX12_reads 2 = .ok (.putfield 74, 3) := by decide +kernel
theorem dX12_reads_5 : decode cX12_reads 5 = .ok (.aload_n 0, 1) := by decide +kernel
theorem dX12_reads_6 : decode cX12_reads 6 = .ok (.iconst (-1), 1) := by decide +kernel
theorem dX12_reads_7 : decode cX12_reads 7 = .ok (.putfield 103, 3) := by decide +kernel
theorem dX12_reads_10 : decode cX12_reads 10 = .ok (.aload_n 0, 1) := by decide +kernel
theorem dX12_reads_11 : decode cX12_reads 11 = .ok (.iconst 0, 1) := by decide +kernel
theorem dX12_reads_12 : decode cX12_reads 12 = .ok (.putfield 141, 3) := by decide +kernel
theorem dX12_reads_15 : decode cX12_reads 15 = .ok (.aload_n 0, 1) := by decide +kernel
theorem dX12_reads_16 : decode cX12_reads 16 = .ok (.bipush 20, 2) := by decide +kernel
theorem dX12_reads_18 : decode cX12_reads 18 = .ok (.putfield 148, 3) := by decide +kernel
theorem dX12_reads_21 : decode cX12_reads 21 = .ok (.aload_n 0, 1) := by decide +kernel
theorem dX12_reads_22 : decode cX12_reads 22 = .ok (.bipush 10, 2) := by decide +kernel
theorem dX12_reads_24 : decode cX12_reads 24 = .ok (.putfield 151, 3) := by decide +kernel
theorem dX12_reads_27 : decode cX12_reads 27 = .ok (.aload_n 0, 1) := by decide +kernel
theorem dX12_reads_28 : decode cX12_reads 28 = .ok (.iconst 1, 1) := by decide +kernel
theorem dX12_reads_29 : decode cX12_reads 29 = .ok (.putfield 162, 3) := by decide +kernel
theorem dX12_reads_32 : decode cX12_reads 32 = .ok (.aload_n 0, 1) := by decide +kernel
theorem dX12_reads_33 : decode cX12_reads 33 = .ok (.bipush 16, 2) := by decide +kernel
theorem dX12_reads_35 : decode cX12_reads 35 = .ok (.putfield 167, 3) := by decide +kernel
theorem dX12_reads_38 : decode cX12_reads 38 = .ok (.aload_n 0, 1) := by decide +kernel
theorem dX12_reads_39 : decode cX12_reads 39 = .ok (.iconst 0, 1) := by decide +kernel
theorem dX12_reads_40 : decode cX12_reads 40 = .ok (.putfield 172, 3) := by decide +kernel
theorem dX12_reads_43 : decode cX12_reads 43 = .ok (.aload_n 0, 1) := by decide +kernel
theorem dX12_reads_44 : decode cX12_reads 44 = .ok (.iconst 0, 1) := by decide +kernel
theorem dX12_reads_45 : decode cX12_reads 45 = .ok (.putfield 121, 3) := by decide +kernel
theorem dX12_reads_48 : decode cX12_reads 48 = .ok (.aload_n 0, 1) := by decide +kernel
theorem dX12_reads_49 : decode cX12_reads 49 = .ok (.invokevirtual 115, 3) := by decide +kernel
theorem dX12_reads_52 : decode cX12_reads 52 = .ok (.aload_n 0, 1) := by decide +kernel
theorem dX12_reads_53 : decode cX12_reads 53 = .ok (.invokevirtual 175, 3) := by decide +kernel
theorem dX12_reads_56 : decode cX12_reads 56 = .ok (.aload_n 0, 1) := by decide +kernel
theorem dX12_reads_57 : decode cX12_reads 57 = .ok (.invokevirtual 178, 3) := by decide +kernel
theorem dX12_reads_60 : decode cX12_reads 60 = .ok (.ifCond .eq 10, 3) := by decide +kernel
theorem dX12_reads_63 : decode cX12_reads 63 = .ok (.aload_n 0, 1) := by decide +kernel
theorem dX12_reads_64 : decode cX12_reads 64 = .ok (.invokevirtual 175, 3) := by decide +kernel
theorem dX12_reads_67 : decode cX12_reads 67 = .ok (.goto (-11), 3) := by decide +kernel
theorem dX12_reads_70 : decode cX12_reads 70 = .ok (.aload_n 0, 1) := by decide +kernel
theorem dX12_reads_71 : decode cX12_reads 71 = .ok (.getfield 103, 3) := by decide +kernel
theorem dX12_reads_74 : decode cX12_reads 74 = .ok (.iconst (-1), 1) := by decide +kernel
theorem dX12_reads_75 : decode cX12_reads 75 = .ok (.if_icmp .ne 21, 3) := by decide +kernel
theorem dX12_reads_78 : decode cX12_reads 78 = .ok (.aload_n 0, 1) := by decide +kernel
theorem dX12_reads_79 : decode cX12_reads 79 = .ok (.getfield 84, 3) := by decide +kernel
theorem dX12_reads_82 : decode cX12_reads 82 = .ok (.ifCond .ne 10, 3) := by decide +kernel
theorem dX12_reads_85 : decode cX12_reads 85 = .ok (.aload_n 0, 1) := by decide +kernel
theorem dX12_reads_86 : decode cX12_reads 86 = .ok (.getfield 172, 3) := by decide +kernel
theorem dX12_reads_89 : decode cX12_reads 89 = .ok (.ifCond .ne 7, 3) := by decide +kernel
theorem dX12_reads_92 : decode cX12_reads 92 = .ok (.aload_n 0, 1) := by decide +kernel
theorem dX12_reads_93 : decode cX12_reads 93 = .ok (.invokevirtual 118, 3) := by decide +kernel
theorem dX12_reads_96 : decode cX12_reads 96 = .ok (.aload_n 0, 1) := by decide +kernel
theorem dX12_reads_97 : decode cX12_reads 97 = .ok (.getfield 103, 3) := by decide +kernel
theorem dX12_reads_100 : decode cX12_reads 100 = .ok (.ireturn, 1) := by decide +kernel
theorem dX12_fault_0 : decode cX12_fault 0 = .ok (.aload_n 0, 1) := by decide +kernel
theorem dX12_fault_1 : decode cX12_fault 1 = .ok (.iconst 0, 1) := by decide +kernel
theorem dX12_fault_2 : decode cX12_fault 2 = .ok (.putfield 60, 3) := by decide +kernel
theorem dX12_fault_5 : decode cX12_fault 5 = .ok (.aload_n 0, 1) := by decide +kernel
theorem dX12_fault_6 : decode cX12_fault 6 = .ok (.invokevirtual 182, 3) := by decide +kernel
theorem dX12_fault_9 : decode cX12_fault 9 = .ok (.ireturn, 1) := by decide +kernel
theorem dX12_ofChannel_0 : decode cX12_ofChannel 0 = .ok (.sipush 1005, 3) := by decide +kernel
theorem dX12_ofChannel_3 : decode cX12_ofChannel 3 = .ok (.sipush 2076, 3) := by decide +kernel
theorem dX12_ofChannel_6 : decode cX12_ofChannel 6 = .ok (.iload_n 0, 1) := by decide +kernel
theorem dX12_ofChannel_7 : decode cX12_ofChannel 7 = .ok (.imul, 1) := by decide +kernel
theorem dX12_ofChannel_8 : decode cX12_ofChannel 8 = .ok (.iadd, 1) := by decide +kernel
theorem dX12_ofChannel_9 : decode cX12_ofChannel 9 = .ok (.iload_n 1, 1) := by decide +kernel
theorem dX12_ofChannel_10 : decode cX12_ofChannel 10 = .ok (.iadd, 1) := by decide +kernel
theorem dX12_ofChannel_11 : decode cX12_ofChannel 11 = .ok (.ireturn, 1) := by decide +kernel
theorem dX12_its_0 : decode cX12_its 0 = .ok (.aload_n 0, 1) := by decide +kernel
theorem dX12_its_1 : decode cX12_its 1 = .ok (.getfield 16, 3) := by decide +kernel
theorem dX12_its_4 : decode cX12_its 4 = .ok (.iload_n 1, 1) := by decide +kernel
theorem dX12_its_5 : decode cX12_its 5 = .ok (.iload_n 2, 1) := by decide +kernel
theorem dX12_its_6 : decode cX12_its 6 = .ok (.invokestatic 185, 3) := by decide +kernel
theorem dX12_its_9 : decode cX12_its 9 = .ok (.iaload, 1) := by decide +kernel
theorem dX12_its_10 : decode cX12_its 10 = .ok (.ireturn, 1) := by decide +kernel
theorem dX12_lay_0 : decode cX12_lay 0 = .ok (.aload_n 0, 1) := by decide +kernel
theorem dX12_lay_1 : decode cX12_lay 1 = .ok (.getfield 16, 3) := by decide +kernel
theorem dX12_lay_4 : decode cX12_lay 4 = .ok (.iload_n 1, 1) := by decide +kernel
theorem dX12_lay_5 : decode cX12_lay 5 = .ok (.iload_n 2, 1) := by decide +kernel
theorem dX12_lay_6 : decode cX12_lay 6 = .ok (.invokestatic 185, 3) := by decide +kernel
theorem dX12_lay_9 : decode cX12_lay 9 = .ok (.iload_n 3, 1) := by decide +kernel
theorem dX12_lay_10 : decode cX12_lay 10 = .ok (.iastore, 1) := by decide +kernel
theorem dX12_lay_11 : decode cX12_lay 11 = .ok (.return_, 1) := by decide +kernel
theorem dX12_more_0 : decode cX12_more 0 = .ok (.aload_n 0, 1) := by decide +kernel
theorem dX12_more_1 : decode cX12_more 1 = .ok (.getfield 16, 3) := by decide +kernel
theorem dX12_more_4 : decode cX12_more 4 = .ok (.iload_n 1, 1) := by decide +kernel
theorem dX12_more_5 : decode cX12_more 5 = .ok (.iload_n 2, 1) := by decide +kernel
theorem dX12_more_6 : decode cX12_more 6 = .ok (.invokestatic 185, 3) := by decide +kernel
theorem dX12_more_9 : decode cX12_more 9 = .ok (.dup2, 1) := by decide +kernel
theorem dX12_more_10 : decode cX12_more 10 = .ok (.iaload, 1) := by decide +kernel
theorem dX12_more_11 : decode cX12_more 11 = .ok (.iload_n 3, 1) := by decide +kernel
theorem dX12_more_12 : decode cX12_more 12 = .ok (.iadd, 1) := by decide +kernel
theorem dX12_more_13 : decode cX12_more 13 = .ok (.iastore, 1) := by decide +kernel
theorem dX12_more_14 : decode cX12_more 14 = .ok (.return_, 1) := by decide +kernel
theorem dX12_line_0 : decode cX12_line 0 = .ok (.aload_n 0, 1) := by decide +kernel
theorem dX12_line_1 : decode cX12_line 1 = .ok (.iconst 0, 1) := by decide +kernel
theorem dX12_line_2 : decode cX12_line 2 = .ok (.putfield 60, 3) := by decide +kernel
theorem dX12_line_5 : decode cX12_line 5 = .ok (.aload_n 0, 1) := by decide +kernel
theorem dX12_line_6 : decode cX12_line 6 = .ok (.invokevirtual 182, 3) := by decide +kernel
theorem dX12_line_9 : decode cX12_line 9 = .ok (.iconst (-1), 1) := by decide +kernel
theorem dX12_line_10 : decode cX12_line 10 = .ok (.if_icmp .eq 5, 3) := by decide +kernel
theorem dX12_line_13 : decode cX12_line 13 = .ok (.iconst (-1), 1) := by decide +kernel
theorem dX12_line_14 : decode cX12_line 14 = .ok (.ireturn, 1) := by decide +kernel
theorem dX12_line_15 : decode cX12_line 15 = .ok (.aload_n 0, 1) := by decide +kernel
theorem dX12_line_16 : decode cX12_line 16 = .ok (.iconst 0, 1) := by decide +kernel
theorem dX12_line_17 : decode cX12_line 17 = .ok (.putfield 63, 3) := by decide +kernel
theorem dX12_line_20 : decode cX12_line 20 = .ok (.aload_n 0, 1) := by decide +kernel
theorem dX12_line_21 : decode cX12_line 21 = .ok (.iconst 1, 1) := by decide +kernel
theorem dX12_line_22 : decode cX12_line 22 = .ok (.putfield 188, 3) := by decide +kernel
theorem dX12_line_25 : decode cX12_line 25 = .ok (.aload_n 0, 1) := by decide +kernel
theorem dX12_line_26 : decode cX12_line 26 = .ok (.aload_n 0, 1) := by decide +kernel
theorem dX12_line_27 : decode cX12_line 27 = .ok (.getfield 141, 3) := by decide +kernel
theorem dX12_line_30 : decode cX12_line 30 = .ok (.putfield 192, 3) := by decide +kernel
theorem dX12_line_33 : decode cX12_line 33 = .ok (.aload_n 0, 1) := by decide +kernel
theorem dX12_line_34 : decode cX12_line 34 = .ok (.aload_n 0, 1) := by decide +kernel
theorem dX12_line_35 : decode cX12_line 35 = .ok (.getfield 148, 3) := by decide +kernel
theorem dX12_line_38 : decode cX12_line 38 = .ok (.putfield 19, 3) := by decide +kernel
theorem dX12_line_41 : decode cX12_line 41 = .ok (.aload_n 0, 1) := by decide +kernel
theorem dX12_line_42 : decode cX12_line 42 = .ok (.aload_n 0, 1) := by decide +kernel
theorem dX12_line_43 : decode cX12_line 43 = .ok (.getfield 151, 3) := by decide +kernel
theorem dX12_line_46 : decode cX12_line 46 = .ok (.putfield 23, 3) := by decide +kernel
theorem dX12_line_49 : decode cX12_line 49 = .ok (.aload_n 0, 1) := by decide +kernel
theorem dX12_line_50 : decode cX12_line 50 = .ok (.aload_n 0, 1) := by decide +kernel
theorem dX12_line_51 : decode cX12_line 51 = .ok (.getfield 162, 3) := by decide +kernel
theorem dX12_line_54 : decode cX12_line 54 = .ok (.putfield 194, 3) := by decide +kernel
theorem dX12_line_57 : decode cX12_line 57 = .ok (.aload_n 0, 1) := by decide +kernel
theorem dX12_line_58 : decode cX12_line 58 = .ok (.aload_n 0, 1) := by decide +kernel
theorem dX12_line_59 : decode cX12_line 59 = .ok (.getfield 167, 3) := by decide +kernel
theorem dX12_line_62 : decode cX12_line 62 = .ok (.putfield 196, 3) := by decide +kernel
theorem dX12_line_65 : decode cX12_line 65 = .ok (.aload_n 0, 1) := by decide +kernel
theorem dX12_line_66 : decode cX12_line 66 = .ok (.aload_n 0, 1) := by decide +kernel
theorem dX12_line_67 : decode cX12_line 67 = .ok (.getfield 172, 3) := by decide +kernel
theorem dX12_line_70 : decode cX12_line 70 = .ok (.putfield 198, 3) := by decide +kernel
theorem dX12_line_73 : decode cX12_line 73 = .ok (.iconst 0, 1) := by decide +kernel
theorem dX12_line_74 : decode cX12_line 74 = .ok (.istore_n 1, 1) := by decide +kernel
theorem dX12_line_75 : decode cX12_line 75 = .ok (.iload_n 1, 1) := by decide +kernel
theorem dX12_line_76 : decode cX12_line 76 = .ok (.sipush 9309, 3) := by decide +kernel
theorem dX12_line_79 : decode cX12_line 79 = .ok (.if_icmp .ge 16, 3) := by decide +kernel
theorem dX12_line_82 : decode cX12_line 82 = .ok (.aload_n 0, 1) := by decide +kernel
theorem dX12_line_83 : decode cX12_line 83 = .ok (.getfield 16, 3) := by decide +kernel
theorem dX12_line_86 : decode cX12_line 86 = .ok (.iload_n 1, 1) := by decide +kernel
theorem dX12_line_87 : decode cX12_line 87 = .ok (.iconst 0, 1) := by decide +kernel
theorem dX12_line_88 : decode cX12_line 88 = .ok (.iastore, 1) := by decide +kernel
theorem dX12_line_89 : decode cX12_line 89 = .ok (.iinc 1 1, 3) := by decide +kernel
theorem dX12_line_92 : decode cX12_line 92 = .ok (.goto (-17), 3) := by decide +kernel
theorem dX12_line_95 : decode cX12_line 95 = .ok (.aload_n 0, 1) := by decide +kernel
theorem dX12_line_96 : decode cX12_line 96 = .ok (.getfield 16, 3) := by decide +kernel
theorem dX12_line_99 : decode cX12_line 99 = .ok (.sipush 803, 3) := by decide +kernel
theorem dX12_line_102 : decode cX12_line 102 = .ok (.iconst (-1), 1) := by decide +kernel
theorem dX12_line_103 : decode cX12_line 103 = .ok (.iastore, 1) := by decide +kernel
theorem dX12_line_104 : decode cX12_line 104 = .ok (.iconst 0, 1) := by decide +kernel
theorem dX12_line_105 : decode cX12_line 105 = .ok (.istore_n 1, 1) := by decide +kernel
theorem dX12_line_106 : decode cX12_line 106 = .ok (.iload_n 1, 1) := by decide +kernel
theorem dX12_line_107 : decode cX12_line 107 = .ok (.aload_n 0, 1) := by decide +kernel
theorem dX12_line_108 : decode cX12_line 108 = .ok (.getfield 198, 3) := by decide +kernel
theorem dX12_line_111 : decode cX12_line 111 = .ok (.if_icmp .ge 33, 3) := by decide +kernel
theorem dX12_line_114 : decode cX12_line 114 = .ok (.aload_n 0, 1) := by decide +kernel
theorem dX12_line_115 : decode cX12_line 115 = .ok (.getfield 26, 3) := by decide +kernel
theorem dX12_line_118 : decode cX12_line 118 = .ok (.iload_n 1, 1) := by decide +kernel
theorem dX12_line_119 : decode cX12_line 119 = .ok (.aload_n 0, 1) := by decide +kernel
theorem dX12_line_120 : decode cX12_line 120 = .ok (.getfield 13, 3) := by decide +kernel
theorem dX12_line_123 : decode cX12_line 123 = .ok (.iload_n 1, 1) := by decide +kernel
theorem dX12_line_124 : decode cX12_line 124 = .ok (.iaload, 1) := by decide +kernel
theorem dX12_line_125 : decode cX12_line 125 = .ok (.iastore, 1) := by decide +kernel
theorem dX12_line_126 : decode cX12_line 126 = .ok (.aload_n 0, 1) := by decide +kernel
theorem dX12_line_127 : decode cX12_line 127 = .ok (.iload_n 1, 1) := by decide +kernel
theorem dX12_line_128 : decode cX12_line 128 = .ok (.iconst 0, 1) := by decide +kernel
theorem dX12_line_129 : decode cX12_line 129 = .ok (.aload_n 0, 1) := by decide +kernel
theorem dX12_line_130 : decode cX12_line 130 = .ok (.getfield 26, 3) := by decide +kernel
theorem dX12_line_133 : decode cX12_line 133 = .ok (.iload_n 1, 1) := by decide +kernel
theorem dX12_line_134 : decode cX12_line 134 = .ok (.iaload, 1) := by decide +kernel
theorem dX12_line_135 : decode cX12_line 135 = .ok (.invokevirtual 201, 3) := by decide +kernel
theorem dX12_line_138 : decode cX12_line 138 = .ok (.iinc 1 1, 3) := by decide +kernel
theorem dX12_line_141 : decode cX12_line 141 = .ok (.goto (-35), 3) := by decide +kernel
theorem dX12_line_144 : decode cX12_line 144 = .ok (.aload_n 0, 1) := by decide +kernel
theorem dX12_line_145 : decode cX12_line 145 = .ok (.iconst 0, 1) := by decide +kernel
theorem dX12_line_146 : decode cX12_line 146 = .ok (.putfield 205, 3) := by decide +kernel
theorem dX12_line_149 : decode cX12_line 149 = .ok (.aload_n 0, 1) := by decide +kernel
theorem dX12_line_150 : decode cX12_line 150 = .ok (.iconst 0, 1) := by decide +kernel
theorem dX12_line_151 : decode cX12_line 151 = .ok (.putfield 208, 3) := by decide +kernel
theorem dX12_line_154 : decode cX12_line 154 = .ok (.aload_n 0, 1) := by decide +kernel
theorem dX12_line_155 : decode cX12_line 155 = .ok (.iconst 0, 1) := by decide +kernel
theorem dX12_line_156 : decode cX12_line 156 = .ok (.putfield 211, 3) := by decide +kernel
theorem dX12_line_159 : decode cX12_line 159 = .ok (.aload_n 0, 1) := by decide +kernel
theorem dX12_line_160 : decode cX12_line 160 = .ok (.getfield 198, 3) := by decide +kernel
theorem dX12_line_163 : decode cX12_line 163 = .ok (.ireturn, 1) := by decide +kernel
theorem dX12_puts_0 : decode cX12_puts 0 = .ok (.aload_n 0, 1) := by decide +kernel
theorem dX12_puts_1 : decode cX12_puts 1 = .ok (.getfield 32, 3) := by decide +kernel
theorem dX12_puts_4 : decode cX12_puts 4 = .ok (.aload_n 0, 1) := by decide +kernel
theorem dX12_puts_5 : decode cX12_puts 5 = .ok (.getfield 214, 3) := by decide +kernel
theorem dX12_puts_8 : decode cX12_puts 8 = .ok (.iload_n 1, 1) := by decide +kernel
theorem dX12_puts_9 : decode cX12_puts 9 = .ok (.iastore, 1) := by decide +kernel
theorem dX12_puts_10 : decode cX12_puts 10 = .ok (.aload_n 0, 1) := by decide +kernel
theorem dX12_puts_11 : decode cX12_puts 11 = .ok (.dup, 1) := by decide +kernel
theorem dX12_puts_12 : decode cX12_puts 12 = .ok (.getfield 214, 3) := by decide +kernel
theorem dX12_puts_15 : decode cX12_puts 15 = .ok (.iconst 1, 1) := by decide +kernel
theorem dX12_puts_16 : decode cX12_puts 16 = .ok (.iadd, 1) := by decide +kernel
theorem dX12_puts_17 : decode cX12_puts 17 = .ok (.putfield 214, 3) := by decide +kernel
theorem dX12_puts_20 : decode cX12_puts 20 = .ok (.return_, 1) := by decide +kernel
theorem dX12_runFrom_0 : decode cX12_runFrom 0 = .ok (.iconst 0, 1) := by decide +kernel
theorem dX12_runFrom_1 : decode cX12_runFrom 1 = .ok (.istore_n 2, 1) := by decide +kernel
theorem dX12_runFrom_2 : decode cX12_runFrom 2 = .ok (.iload_n 1, 1) := by decide +kernel
theorem dX12_runFrom_3 : decode cX12_runFrom 3 = .ok (.iload_n 2, 1) := by decide +kernel
theorem dX12_runFrom_4 : decode cX12_runFrom 4 = .ok (.iadd, 1) := by decide +kernel
theorem dX12_runFrom_5 : decode cX12_runFrom 5 = .ok (.aload_n 0, 1) := by decide +kernel
theorem dX12_runFrom_6 : decode cX12_runFrom 6 = .ok (.getfield 217, 3) := by decide +kernel
theorem dX12_runFrom_9 : decode cX12_runFrom 9 = .ok (.if_icmp .ge 28, 3) := by decide +kernel
theorem dX12_runFrom_12 : decode cX12_runFrom 12 = .ok (.aload_n 0, 1) := by decide +kernel
theorem dX12_runFrom_13 : decode cX12_runFrom 13 = .ok (.getfield 29, 3) := by decide +kernel
theorem dX12_runFrom_16 : decode cX12_runFrom 16 = .ok (.iload_n 1, 1) := by decide +kernel
theorem dX12_runFrom_17 : decode cX12_runFrom 17 = .ok (.iload_n 2, 1) := by decide +kernel
theorem dX12_runFrom_18 : decode cX12_runFrom 18 = .ok (.iadd, 1) := by decide +kernel
theorem dX12_runFrom_19 : decode cX12_runFrom 19 = .ok (.iaload, 1) := by decide +kernel
theorem dX12_runFrom_20 : decode cX12_runFrom 20 = .ok (.ifCond .eq 17, 3) := by decide +kernel
theorem dX12_runFrom_23 : decode cX12_runFrom 23 = .ok (.iload_n 2, 1) := by decide +kernel
theorem dX12_runFrom_24 : decode cX12_runFrom 24 = .ok (.aload_n 0, 1) := by decide +kernel
theorem dX12_runFrom_25 : decode cX12_runFrom 25 = .ok (.getfield 19, 3) := by decide +kernel
theorem dX12_runFrom_28 : decode cX12_runFrom 28 = .ok (.if_icmp .ge 9, 3) := by decide +kernel
theorem dX12_runFrom_31 : decode cX12_runFrom 31 = .ok (.iinc 2 1, 3) := by decide +kernel
theorem dX12_runFrom_34 : decode cX12_runFrom 34 = .ok (.goto (-32), 3) := by decide +kernel
theorem dX12_runFrom_37 : decode cX12_runFrom 37 = .ok (.iload_n 2, 1) := by decide +kernel
theorem dX12_runFrom_38 : decode cX12_runFrom 38 = .ok (.ireturn, 1) := by decide +kernel
theorem dX12_block_0 : decode cX12_block 0 = .ok (.aload_n 0, 1) := by decide +kernel
theorem dX12_block_1 : decode cX12_block 1 = .ok (.aload_n 0, 1) := by decide +kernel
theorem dX12_block_2 : decode cX12_block 2 = .ok (.getfield 214, 3) := by decide +kernel
theorem dX12_block_5 : decode cX12_block 5 = .ok (.putfield 220, 3) := by decide +kernel
theorem dX12_block_8 : decode cX12_block 8 = .ok (.aload_n 0, 1) := by decide +kernel
theorem dX12_block_9 : decode cX12_block 9 = .ok (.iload_n 1, 1) := by decide +kernel
theorem dX12_block_10 : decode cX12_block 10 = .ok (.invokevirtual 223, 3) := by decide +kernel
theorem dX12_block_13 : decode cX12_block 13 = .ok (.iconst 0, 1) := by decide +kernel
theorem dX12_block_14 : decode cX12_block 14 = .ok (.istore 4, 2) := by decide +kernel
theorem dX12_block_16 : decode cX12_block 16 = .ok (.iload 4, 2) := by decide +kernel
theorem dX12_block_18 : decode cX12_block 18 = .ok (.iload_n 3, 1) := by decide +kernel
theorem dX12_block_19 : decode cX12_block 19 = .ok (.if_icmp .ge 22, 3) := by decide +kernel
theorem dX12_block_22 : decode cX12_block 22 = .ok (.aload_n 0, 1) := by decide +kernel
theorem dX12_block_23 : decode cX12_block 23 = .ok (.aload_n 0, 1) := by decide +kernel
theorem dX12_block_24 : decode cX12_block 24 = .ok (.getfield 29, 3) := by decide +kernel
theorem dX12_block_27 : decode cX12_block 27 = .ok (.iload_n 2, 1) := by decide +kernel
theorem dX12_block_28 : decode cX12_block 28 = .ok (.iload 4, 2) := by decide +kernel
theorem dX12_block_30 : decode cX12_block 30 = .ok (.iadd, 1) := by decide +kernel
theorem dX12_block_31 : decode cX12_block 31 = .ok (.iaload, 1) := by decide +kernel
theorem dX12_block_32 : decode cX12_block 32 = .ok (.invokevirtual 223, 3) := by decide +kernel
theorem dX12_block_35 : decode cX12_block 35 = .ok (.iinc 4 1, 3) := by decide +kernel
theorem dX12_block_38 : decode cX12_block 38 = .ok (.goto (-22), 3) := by decide +kernel
theorem dX12_block_41 : decode cX12_block 41 = .ok (.return_, 1) := by decide +kernel
theorem dX12_isPair_0 : decode cX12_isPair 0 = .ok (.iload_n 1, 1) := by decide +kernel
theorem dX12_isPair_1 : decode cX12_isPair 1 = .ok (.iconst 1, 1) := by decide +kernel
theorem dX12_isPair_2 : decode cX12_isPair 2 = .ok (.iadd, 1) := by decide +kernel
theorem dX12_isPair_3 : decode cX12_isPair 3 = .ok (.aload_n 0, 1) := by decide +kernel
theorem dX12_isPair_4 : decode cX12_isPair 4 = .ok (.getfield 217, 3) := by decide +kernel
theorem dX12_isPair_7 : decode cX12_isPair 7 = .ok (.if_icmp .ge 27, 3) := by decide +kernel
theorem dX12_isPair_10 : decode cX12_isPair 10 = .ok (.aload_n 0, 1) := by decide +kernel
theorem dX12_isPair_11 : decode cX12_isPair 11 = .ok (.getfield 29, 3) := by decide +kernel
theorem dX12_isPair_14 : decode cX12_isPair 14 = .ok (.iload_n 1, 1) := by decide +kernel
theorem dX12_isPair_15 : decode cX12_isPair 15 = .ok (.iaload, 1) := by decide +kernel
theorem dX12_isPair_16 : decode cX12_isPair 16 = .ok (.ifCond .ne 18, 3) := by decide +kernel
theorem dX12_isPair_19 : decode cX12_isPair 19 = .ok (.aload_n 0, 1) := by decide +kernel
theorem dX12_isPair_20 : decode cX12_isPair 20 = .ok (.getfield 29, 3) := by decide +kernel
theorem dX12_isPair_23 : decode cX12_isPair 23 = .ok (.iload_n 1, 1) := by decide +kernel
theorem dX12_isPair_24 : decode cX12_isPair 24 = .ok (.iconst 1, 1) := by decide +kernel
theorem dX12_isPair_25 : decode cX12_isPair 25 = .ok (.iadd, 1) := by decide +kernel
theorem dX12_isPair_26 : decode cX12_isPair 26 = .ok (.iaload, 1) := by decide +kernel
theorem dX12_isPair_27 : decode cX12_isPair 27 = .ok (.ifCond .ne 7, 3) := by decide +kernel
theorem dX12_isPair_30 : decode cX12_isPair 30 = .ok (.iconst 1, 1) := by decide +kernel
theorem dX12_isPair_31 : decode cX12_isPair 31 = .ok (.goto 4, 3) := by decide +kernel
theorem dX12_isPair_34 : decode cX12_isPair 34 = .ok (.iconst 0, 1) := by decide +kernel
theorem dX12_isPair_35 : decode cX12_isPair 35 = .ok (.ireturn, 1) := by decide +kernel
theorem dX12_stuffs_0 : decode cX12_stuffs 0 = .ok (.aload_n 0, 1) := by decide +kernel
theorem dX12_stuffs_1 : decode cX12_stuffs 1 = .ok (.iconst 0, 1) := by decide +kernel
theorem dX12_stuffs_2 : decode cX12_stuffs 2 = .ok (.putfield 214, 3) := by decide +kernel
theorem dX12_stuffs_5 : decode cX12_stuffs 5 = .ok (.iconst 0, 1) := by decide +kernel
theorem dX12_stuffs_6 : decode cX12_stuffs 6 = .ok (.istore_n 2, 1) := by decide +kernel
theorem dX12_stuffs_7 : decode cX12_stuffs 7 = .ok (.iconst 1, 1) := by decide +kernel
theorem dX12_stuffs_8 : decode cX12_stuffs 8 = .ok (.istore_n 3, 1) := by decide +kernel
theorem dX12_stuffs_9 : decode cX12_stuffs 9 = .ok (.iload_n 3, 1) := by decide +kernel
theorem dX12_stuffs_10 : decode cX12_stuffs 10 = .ok (.ifCond .eq 155, 3) := by decide +kernel
theorem dX12_stuffs_13 : decode cX12_stuffs 13 = .ok (.aload_n 0, 1) := by decide +kernel
theorem dX12_stuffs_14 : decode cX12_stuffs 14 = .ok (.iload_n 2, 1) := by decide +kernel
theorem dX12_stuffs_15 : decode cX12_stuffs 15 = .ok (.invokevirtual 226, 3) := by decide +kernel
theorem dX12_stuffs_18 : decode cX12_stuffs 18 = .ok (.istore 4, 2) := by decide +kernel
theorem dX12_stuffs_20 : decode cX12_stuffs 20 = .ok (.iload 4, 2) := by decide +kernel
theorem dX12_stuffs_22 : decode cX12_stuffs 22 = .ok (.aload_n 0, 1) := by decide +kernel
theorem dX12_stuffs_23 : decode cX12_stuffs 23 = .ok (.getfield 19, 3) := by decide +kernel
theorem dX12_stuffs_26 : decode cX12_stuffs 26 = .ok (.if_icmp .ne 38, 3) := by decide +kernel
theorem dX12_stuffs_29 : decode cX12_stuffs 29 = .ok (.aload_n 0, 1) := by decide +kernel
theorem dX12_stuffs_30 : decode cX12_stuffs 30 = .ok (.aload_n 0, 1) := by decide +kernel
theorem dX12_stuffs_31 : decode cX12_stuffs 31 = .ok (.getfield 19, 3) := by decide +kernel
theorem dX12_stuffs_34 : decode cX12_stuffs 34 = .ok (.iconst 1, 1) := by decide +kernel
theorem dX12_stuffs_35 : decode cX12_stuffs 35 = .ok (.iadd, 1) := by decide +kernel
theorem dX12_stuffs_36 : decode cX12_stuffs 36 = .ok (.iload_n 2, 1) := by decide +kernel
theorem dX12_stuffs_37 : decode cX12_stuffs 37 = .ok (.iload 4, 2) := by decide +kernel
theorem dX12_stuffs_39 : decode cX12_stuffs 39 = .ok (.invokevirtual 230, 3) := by decide +kernel
theorem dX12_stuffs_42 : decode cX12_stuffs 42 = .ok (.iload_n 2, 1) := by decide +kernel
theorem dX12_stuffs_43 : decode cX12_stuffs 43 = .ok (.iload 4, 2) := by decide +kernel
theorem dX12_stuffs_45 : decode cX12_stuffs 45 = .ok (.iadd, 1) := by decide +kernel
theorem dX12_stuffs_46 : decode cX12_stuffs 46 = .ok (.istore_n 2, 1) := by decide +kernel
theorem dX12_stuffs_47 : decode cX12_stuffs 47 = .ok (.iload_n 2, 1) := by decide +kernel
theorem dX12_stuffs_48 : decode cX12_stuffs 48 = .ok (.aload_n 0, 1) := by decide +kernel
theorem dX12_stuffs_49 : decode cX12_stuffs 49 = .ok (.getfield 217, 3) := by decide +kernel
theorem dX12_stuffs_52 : decode cX12_stuffs 52 = .ok (.if_icmp .ge 7, 3) := by decide +kernel
theorem dX12_stuffs_55 : decode cX12_stuffs 55 = .ok (.iconst 1, 1) := by decide +kernel
theorem dX12_stuffs_56 : decode cX12_stuffs 56 = .ok (.goto 4, 3) := by decide +kernel
theorem dX12_stuffs_59 : decode cX12_stuffs 59 = .ok (.iconst 0, 1) := by decide +kernel
theorem dX12_stuffs_60 : decode cX12_stuffs 60 = .ok (.istore_n 3, 1) := by decide +kernel
theorem dX12_stuffs_61 : decode cX12_stuffs 61 = .ok (.goto 101, 3) := by decide +kernel
theorem dX12_stuffs_64 : decode cX12_stuffs 64 = .ok (.iload_n 1, 1) := by decide +kernel
theorem dX12_stuffs_65 : decode cX12_stuffs 65 = .ok (.iconst 1, 1) := by decide +kernel
theorem dX12_stuffs_66 : decode cX12_stuffs 66 = .ok (.if_icmp .ne 63, 3) := by decide +kernel
theorem dX12_stuffs_69 : decode cX12_stuffs 69 = .ok (.iload 4, 2) := by decide +kernel
theorem dX12_stuffs_71 : decode cX12_stuffs 71 = .ok (.aload_n 0, 1) := by decide +kernel
theorem dX12_stuffs_72 : decode cX12_stuffs 72 = .ok (.getfield 23, 3) := by decide +kernel
theorem dX12_stuffs_75 : decode cX12_stuffs 75 = .ok (.if_icmp .ge 54, 3) := by decide +kernel
theorem dX12_stuffs_78 : decode cX12_stuffs 78 = .ok (.aload_n 0, 1) := by decide +kernel
theorem dX12_stuffs_79 : decode cX12_stuffs 79 = .ok (.iload_n 2, 1) := by decide +kernel
theorem dX12_stuffs_80 : decode cX12_stuffs 80 = .ok (.iload 4, 2) := by decide +kernel
theorem dX12_stuffs_82 : decode cX12_stuffs 82 = .ok (.iadd, 1) := by decide +kernel
theorem dX12_stuffs_83 : decode cX12_stuffs 83 = .ok (.invokevirtual 233, 3) := by decide +kernel
theorem dX12_stuffs_86 : decode cX12_stuffs 86 = .ok (.ifCond .eq 43, 3) := by decide +kernel
theorem dX12_stuffs_89 : decode cX12_stuffs 89 = .ok (.aload_n 0, 1) := by decide +kernel
theorem dX12_stuffs_90 : decode cX12_stuffs 90 = .ok (.aload_n 0, 1) := by decide +kernel
theorem dX12_stuffs_91 : decode cX12_stuffs 91 = .ok (.getfield 19, 3) := by decide +kernel
theorem dX12_stuffs_94 : decode cX12_stuffs 94 = .ok (.iconst 2, 1) := by decide +kernel
theorem dX12_stuffs_95 : decode cX12_stuffs 95 = .ok (.iadd, 1) := by decide +kernel
theorem dX12_stuffs_96 : decode cX12_stuffs 96 = .ok (.iload 4, 2) := by decide +kernel
theorem dX12_stuffs_98 : decode cX12_stuffs 98 = .ok (.iadd, 1) := by decide +kernel
theorem dX12_stuffs_99 : decode cX12_stuffs 99 = .ok (.iload_n 2, 1) := by decide +kernel
theorem dX12_stuffs_100 : decode cX12_stuffs 100 = .ok (.iload 4, 2) := by decide +kernel
theorem dX12_stuffs_102 : decode cX12_stuffs 102 = .ok (.invokevirtual 230, 3) := by decide +kernel
theorem dX12_stuffs_105 : decode cX12_stuffs 105 = .ok (.iload_n 2, 1) := by decide +kernel
theorem dX12_stuffs_106 : decode cX12_stuffs 106 = .ok (.iload 4, 2) := by decide +kernel
theorem dX12_stuffs_108 : decode cX12_stuffs 108 = .ok (.iconst 2, 1) := by decide +kernel
theorem dX12_stuffs_109 : decode cX12_stuffs 109 = .ok (.iadd, 1) := by decide +kernel
theorem dX12_stuffs_110 : decode cX12_stuffs 110 = .ok (.iadd, 1) := by decide +kernel
theorem dX12_stuffs_111 : decode cX12_stuffs 111 = .ok (.istore_n 2, 1) := by decide +kernel
theorem dX12_stuffs_112 : decode cX12_stuffs 112 = .ok (.iload_n 2, 1) := by decide +kernel
theorem dX12_stuffs_113 : decode cX12_stuffs 113 = .ok (.aload_n 0, 1) := by decide +kernel
theorem dX12_stuffs_114 : decode cX12_stuffs 114 = .ok (.getfield 217, 3) := by decide +kernel
theorem dX12_stuffs_117 : decode cX12_stuffs 117 = .ok (.if_icmp .ge 7, 3) := by decide +kernel
theorem dX12_stuffs_120 : decode cX12_stuffs 120 = .ok (.iconst 1, 1) := by decide +kernel
theorem dX12_stuffs_121 : decode cX12_stuffs 121 = .ok (.goto 4, 3) := by decide +kernel
theorem dX12_stuffs_124 : decode cX12_stuffs 124 = .ok (.iconst 0, 1) := by decide +kernel
theorem dX12_stuffs_125 : decode cX12_stuffs 125 = .ok (.istore_n 3, 1) := by decide +kernel
theorem dX12_stuffs_126 : decode cX12_stuffs 126 = .ok (.goto 36, 3) := by decide +kernel
theorem dX12_stuffs_129 : decode cX12_stuffs 129 = .ok (.aload_n 0, 1) := by decide +kernel
theorem dX12_stuffs_130 : decode cX12_stuffs 130 = .ok (.iload 4, 2) := by decide +kernel
theorem dX12_stuffs_132 : decode cX12_stuffs 132 = .ok (.iconst 1, 1) := by decide +kernel
theorem dX12_stuffs_133 : decode cX12_stuffs 133 = .ok (.iadd, 1) := by decide +kernel
theorem dX12_stuffs_134 : decode cX12_stuffs 134 = .ok (.iload_n 2, 1) := by decide +kernel
theorem dX12_stuffs_135 : decode cX12_stuffs 135 = .ok (.iload 4, 2) := by decide +kernel
theorem dX12_stuffs_137 : decode cX12_stuffs 137 = .ok (.invokevirtual 230, 3) := by decide +kernel
theorem dX12_stuffs_140 : decode cX12_stuffs 140 = .ok (.iload_n 2, 1) := by decide +kernel
theorem dX12_stuffs_141 : decode cX12_stuffs 141 = .ok (.iload 4, 2) := by decide +kernel
theorem dX12_stuffs_143 : decode cX12_stuffs 143 = .ok (.iadd, 1) := by decide +kernel
theorem dX12_stuffs_144 : decode cX12_stuffs 144 = .ok (.istore_n 2, 1) := by decide +kernel
theorem dX12_stuffs_145 : decode cX12_stuffs 145 = .ok (.iload_n 2, 1) := by decide +kernel
theorem dX12_stuffs_146 : decode cX12_stuffs 146 = .ok (.aload_n 0, 1) := by decide +kernel
theorem dX12_stuffs_147 : decode cX12_stuffs 147 = .ok (.getfield 217, 3) := by decide +kernel
theorem dX12_stuffs_150 : decode cX12_stuffs 150 = .ok (.if_icmp .ge 7, 3) := by decide +kernel
theorem dX12_stuffs_153 : decode cX12_stuffs 153 = .ok (.iconst 1, 1) := by decide +kernel
theorem dX12_stuffs_154 : decode cX12_stuffs 154 = .ok (.goto 4, 3) := by decide +kernel
theorem dX12_stuffs_157 : decode cX12_stuffs 157 = .ok (.iconst 0, 1) := by decide +kernel
theorem dX12_stuffs_158 : decode cX12_stuffs 158 = .ok (.istore_n 3, 1) := by decide +kernel
theorem dX12_stuffs_159 : decode cX12_stuffs 159 = .ok (.iinc 2 1, 3) := by decide +kernel
theorem dX12_stuffs_162 : decode cX12_stuffs 162 = .ok (.goto (-153), 3) := by decide +kernel
theorem dX12_stuffs_165 : decode cX12_stuffs 165 = .ok (.iload_n 1, 1) := by decide +kernel
theorem dX12_stuffs_166 : decode cX12_stuffs 166 = .ok (.iconst 2, 1) := by decide +kernel
theorem dX12_stuffs_167 : decode cX12_stuffs 167 = .ok (.if_icmp .ne 69, 3) := by decide +kernel
theorem dX12_stuffs_170 : decode cX12_stuffs 170 = .ok (.aload_n 0, 1) := by decide +kernel
theorem dX12_stuffs_171 : decode cX12_stuffs 171 = .ok (.getfield 214, 3) := by decide +kernel
theorem dX12_stuffs_174 : decode cX12_stuffs 174 = .ok (.iconst 1, 1) := by decide +kernel
theorem dX12_stuffs_175 : decode cX12_stuffs 175 = .ok (.isub, 1) := by decide +kernel
theorem dX12_stuffs_176 : decode cX12_stuffs 176 = .ok (.aload_n 0, 1) := by decide +kernel
theorem dX12_stuffs_177 : decode cX12_stuffs 177 = .ok (.getfield 220, 3) := by decide +kernel
theorem dX12_stuffs_180 : decode cX12_stuffs 180 = .ok (.if_icmp .le 56, 3) := by decide +kernel
theorem dX12_stuffs_183 : decode cX12_stuffs 183 = .ok (.aload_n 0, 1) := by decide +kernel
theorem dX12_stuffs_184 : decode cX12_stuffs 184 = .ok (.getfield 32, 3) := by decide +kernel
theorem dX12_stuffs_187 : decode cX12_stuffs 187 = .ok (.aload_n 0, 1) := by decide +kernel
theorem dX12_stuffs_188 : decode cX12_stuffs 188 = .ok (.getfield 214, 3) := by decide +kernel
theorem dX12_stuffs_191 : decode cX12_stuffs 191 = .ok (.iconst 1, 1) := by decide +kernel
theorem dX12_stuffs_192 : decode cX12_stuffs 192 = .ok (.isub, 1) := by decide +kernel
theorem dX12_stuffs_193 : decode cX12_stuffs 193 = .ok (.iaload, 1) := by decide +kernel
theorem dX12_stuffs_194 : decode cX12_stuffs 194 = .ok (.aload_n 0, 1) := by decide +kernel
theorem dX12_stuffs_195 : decode cX12_stuffs 195 = .ok (.getfield 32, 3) := by decide +kernel
theorem dX12_stuffs_198 : decode cX12_stuffs 198 = .ok (.aload_n 0, 1) := by decide +kernel
theorem dX12_stuffs_199 : decode cX12_stuffs 199 = .ok (.getfield 220, 3) := by decide +kernel
theorem dX12_stuffs_202 : decode cX12_stuffs 202 = .ok (.iaload, 1) := by decide +kernel
theorem dX12_stuffs_203 : decode cX12_stuffs 203 = .ok (.if_icmp .lt 33, 3) := by decide +kernel
theorem dX12_stuffs_206 : decode cX12_stuffs 206 = .ok (.aload_n 0, 1) := by decide +kernel
theorem dX12_stuffs_207 : decode cX12_stuffs 207 = .ok (.getfield 32, 3) := by decide +kernel
theorem dX12_stuffs_210 : decode cX12_stuffs 210 = .ok (.aload_n 0, 1) := by decide +kernel
theorem dX12_stuffs_211 : decode cX12_stuffs 211 = .ok (.getfield 220, 3) := by decide +kernel
theorem dX12_stuffs_214 : decode cX12_stuffs 214 = .ok (.aload_n 0, 1) := by decide +kernel
theorem dX12_stuffs_215 : decode cX12_stuffs 215 = .ok (.getfield 32, 3) := by decide +kernel
theorem dX12_stuffs_218 : decode cX12_stuffs 218 = .ok (.aload_n 0, 1) := by decide +kernel
theorem dX12_stuffs_219 : decode cX12_stuffs 219 = .ok (.getfield 214, 3) := by decide +kernel
theorem dX12_stuffs_222 : decode cX12_stuffs 222 = .ok (.iconst 1, 1) := by decide +kernel
theorem dX12_stuffs_223 : decode cX12_stuffs 223 = .ok (.isub, 1) := by decide +kernel
theorem dX12_stuffs_224 : decode cX12_stuffs 224 = .ok (.iaload, 1) := by decide +kernel
theorem dX12_stuffs_225 : decode cX12_stuffs 225 = .ok (.iastore, 1) := by decide +kernel
theorem dX12_stuffs_226 : decode cX12_stuffs 226 = .ok (.aload_n 0, 1) := by decide +kernel
theorem dX12_stuffs_227 : decode cX12_stuffs 227 = .ok (.dup, 1) := by decide +kernel
theorem dX12_stuffs_228 : decode cX12_stuffs 228 = .ok (.getfield 214, 3) := by decide +kernel
theorem dX12_stuffs_231 : decode cX12_stuffs 231 = .ok (.iconst 1, 1) := by decide +kernel
theorem dX12_stuffs_232 : decode cX12_stuffs 232 = .ok (.isub, 1) := by decide +kernel
theorem dX12_stuffs_233 : decode cX12_stuffs 233 = .ok (.putfield 214, 3) := by decide +kernel
theorem dX12_stuffs_236 : decode cX12_stuffs 236 = .ok (.return_, 1) := by decide +kernel
theorem dX12_plainly_0 : decode cX12_plainly 0 = .ok (.aload_n 0, 1) := by decide +kernel
theorem dX12_plainly_1 : decode cX12_plainly 1 = .ok (.getfield 29, 3) := by decide +kernel
theorem dX12_plainly_4 : decode cX12_plainly 4 = .ok (.aload_n 0, 1) := by decide +kernel
theorem dX12_plainly_5 : decode cX12_plainly 5 = .ok (.getfield 217, 3) := by decide +kernel
theorem dX12_plainly_8 : decode cX12_plainly 8 = .ok (.iload_n 1, 1) := by decide +kernel
theorem dX12_plainly_9 : decode cX12_plainly 9 = .ok (.iastore, 1) := by decide +kernel
theorem dX12_plainly_10 : decode cX12_plainly 10 = .ok (.aload_n 0, 1) := by decide +kernel
theorem dX12_plainly_11 : decode cX12_plainly 11 = .ok (.dup, 1) := by decide +kernel
theorem dX12_plainly_12 : decode cX12_plainly 12 = .ok (.getfield 217, 3) := by decide +kernel
theorem dX12_plainly_15 : decode cX12_plainly 15 = .ok (.iconst 1, 1) := by decide +kernel
theorem dX12_plainly_16 : decode cX12_plainly 16 = .ok (.iadd, 1) := by decide +kernel
theorem dX12_plainly_17 : decode cX12_plainly 17 = .ok (.putfield 217, 3) := by decide +kernel
theorem dX12_plainly_20 : decode cX12_plainly 20 = .ok (.return_, 1) := by decide +kernel
theorem dX12_copies_0 : decode cX12_copies 0 = .ok (.iconst 0, 1) := by decide +kernel
theorem dX12_copies_1 : decode cX12_copies 1 = .ok (.istore_n 3, 1) := by decide +kernel
theorem dX12_copies_2 : decode cX12_copies 2 = .ok (.iload_n 3, 1) := by decide +kernel
theorem dX12_copies_3 : decode cX12_copies 3 = .ok (.iload_n 2, 1) := by decide +kernel
theorem dX12_copies_4 : decode cX12_copies 4 = .ok (.if_icmp .ge 36, 3) := by decide +kernel
theorem dX12_copies_7 : decode cX12_copies 7 = .ok (.aload_n 0, 1) := by decide +kernel
theorem dX12_copies_8 : decode cX12_copies 8 = .ok (.getfield 32, 3) := by decide +kernel
theorem dX12_copies_11 : decode cX12_copies 11 = .ok (.iload_n 1, 1) := by decide +kernel
theorem dX12_copies_12 : decode cX12_copies 12 = .ok (.iload_n 3, 1) := by decide +kernel
theorem dX12_copies_13 : decode cX12_copies 13 = .ok (.iadd, 1) := by decide +kernel
theorem dX12_copies_14 : decode cX12_copies 14 = .ok (.iaload, 1) := by decide +kernel
theorem dX12_copies_15 : decode cX12_copies 15 = .ok (.ifCond .ne 7, 3) := by decide +kernel
theorem dX12_copies_18 : decode cX12_copies 18 = .ok (.iload_n 1, 1) := by decide +kernel
theorem dX12_copies_19 : decode cX12_copies 19 = .ok (.iload_n 3, 1) := by decide +kernel
theorem dX12_copies_20 : decode cX12_copies 20 = .ok (.iadd, 1) := by decide +kernel
theorem dX12_copies_21 : decode cX12_copies 21 = .ok (.ireturn, 1) := by decide +kernel
theorem dX12_copies_22 : decode cX12_copies 22 = .ok (.aload_n 0, 1) := by decide +kernel
theorem dX12_copies_23 : decode cX12_copies 23 = .ok (.aload_n 0, 1) := by decide +kernel
theorem dX12_copies_24 : decode cX12_copies 24 = .ok (.getfield 32, 3) := by decide +kernel
theorem dX12_copies_27 : decode cX12_copies 27 = .ok (.iload_n 1, 1) := by decide +kernel
theorem dX12_copies_28 : decode cX12_copies 28 = .ok (.iload_n 3, 1) := by decide +kernel
theorem dX12_copies_29 : decode cX12_copies 29 = .ok (.iadd, 1) := by decide +kernel
theorem dX12_copies_30 : decode cX12_copies 30 = .ok (.iaload, 1) := by decide +kernel
theorem dX12_copies_31 : decode cX12_copies 31 = .ok (.invokevirtual 236, 3) := by decide +kernel
theorem dX12_copies_34 : decode cX12_copies 34 = .ok (.iinc 3 1, 3) := by decide +kernel
theorem dX12_copies_37 : decode cX12_copies 37 = .ok (.goto (-35), 3) := by decide +kernel
theorem dX12_copies_40 : decode cX12_copies 40 = .ok (.iconst (-1), 1) := by decide +kernel
theorem dX12_copies_41 : decode cX12_copies 41 = .ok (.ireturn, 1) := by decide +kernel
theorem dX12_isCode_0 : decode cX12_isCode 0 = .ok (.iload_n 1, 1) := by decide +kernel
theorem dX12_isCode_1 : decode cX12_isCode 1 = .ok (.ifCond .le 13, 3) := by decide +kernel
theorem dX12_isCode_4 : decode cX12_isCode 4 = .ok (.iload_n 1, 1) := by decide +kernel
theorem dX12_isCode_5 : decode cX12_isCode 5 = .ok (.aload_n 0, 1) := by decide +kernel
theorem dX12_isCode_6 : decode cX12_isCode 6 = .ok (.getfield 19, 3) := by decide +kernel
theorem dX12_isCode_9 : decode cX12_isCode 9 = .ok (.iconst 1, 1) := by decide +kernel
theorem dX12_isCode_10 : decode cX12_isCode 10 = .ok (.iadd, 1) := by decide +kernel
theorem dX12_isCode_11 : decode cX12_isCode 11 = .ok (.if_icmp .le 27, 3) := by decide +kernel
theorem dX12_isCode_14 : decode cX12_isCode 14 = .ok (.iload_n 2, 1) := by decide +kernel
theorem dX12_isCode_15 : decode cX12_isCode 15 = .ok (.iconst 1, 1) := by decide +kernel
theorem dX12_isCode_16 : decode cX12_isCode 16 = .ok (.if_icmp .ne 26, 3) := by decide +kernel
theorem dX12_isCode_19 : decode cX12_isCode 19 = .ok (.iload_n 1, 1) := by decide +kernel
theorem dX12_isCode_20 : decode cX12_isCode 20 = .ok (.ifCond .le 22, 3) := by decide +kernel
theorem dX12_isCode_23 : decode cX12_isCode 23 = .ok (.iload_n 1, 1) := by decide +kernel
theorem dX12_isCode_24 : decode cX12_isCode 24 = .ok (.aload_n 0, 1) := by decide +kernel
theorem dX12_isCode_25 : decode cX12_isCode 25 = .ok (.getfield 19, 3) := by decide +kernel
theorem dX12_isCode_28 : decode cX12_isCode 28 = .ok (.iconst 1, 1) := by decide +kernel
theorem dX12_isCode_29 : decode cX12_isCode 29 = .ok (.iadd, 1) := by decide +kernel
theorem dX12_isCode_30 : decode cX12_isCode 30 = .ok (.aload_n 0, 1) := by decide +kernel
theorem dX12_isCode_31 : decode cX12_isCode 31 = .ok (.getfield 23, 3) := by decide +kernel
theorem dX12_isCode_34 : decode cX12_isCode 34 = .ok (.iadd, 1) := by decide +kernel
theorem dX12_isCode_35 : decode cX12_isCode 35 = .ok (.if_icmp .gt 7, 3) := by decide +kernel
theorem dX12_isCode_38 : decode cX12_isCode 38 = .ok (.iconst 1, 1) := by decide +kernel
theorem dX12_isCode_39 : decode cX12_isCode 39 = .ok (.goto 4, 3) := by decide +kernel
theorem dX12_isCode_42 : decode cX12_isCode 42 = .ok (.iconst 0, 1) := by decide +kernel
theorem dX12_isCode_43 : decode cX12_isCode 43 = .ok (.ireturn, 1) := by decide +kernel
theorem dX12_unstuffs_0 : decode cX12_unstuffs 0 = .ok (.aload_n 0, 1) := by decide +kernel
theorem dX12_unstuffs_1 : decode cX12_unstuffs 1 = .ok (.iconst 0, 1) := by decide +kernel
theorem dX12_unstuffs_2 : decode cX12_unstuffs 2 = .ok (.putfield 217, 3) := by decide +kernel
theorem dX12_unstuffs_5 : decode cX12_unstuffs 5 = .ok (.aload_n 0, 1) := by decide +kernel
theorem dX12_unstuffs_6 : decode cX12_unstuffs 6 = .ok (.getfield 214, 3) := by decide +kernel
theorem dX12_unstuffs_9 : decode cX12_unstuffs 9 = .ok (.ifCond .ne 5, 3) := by decide +kernel
theorem dX12_unstuffs_12 : decode cX12_unstuffs 12 = .ok (.iconst 0, 1) := by decide +kernel
theorem dX12_unstuffs_13 : decode cX12_unstuffs 13 = .ok (.ireturn, 1) := by decide +kernel
theorem dX12_unstuffs_14 : decode cX12_unstuffs 14 = .ok (.iconst 0, 1) := by decide +kernel
theorem dX12_unstuffs_15 : decode cX12_unstuffs 15 = .ok (.istore_n 2, 1) := by decide +kernel
theorem dX12_unstuffs_16 : decode cX12_unstuffs 16 = .ok (.iload_n 2, 1) := by decide +kernel
theorem dX12_unstuffs_17 : decode cX12_unstuffs 17 = .ok (.aload_n 0, 1) := by decide +kernel
theorem dX12_unstuffs_18 : decode cX12_unstuffs 18 = .ok (.getfield 214, 3) := by decide +kernel
theorem dX12_unstuffs_21 : decode cX12_unstuffs 21 = .ok (.if_icmp .ge 174, 3) := by decide +kernel
theorem dX12_unstuffs_24 : decode cX12_unstuffs 24 = .ok (.aload_n 0, 1) := by decide +kernel
theorem dX12_unstuffs_25 : decode cX12_unstuffs 25 = .ok (.getfield 32, 3) := by decide +kernel
theorem dX12_unstuffs_28 : decode cX12_unstuffs 28 = .ok (.iload_n 2, 1) := by decide +kernel
theorem dX12_unstuffs_29 : decode cX12_unstuffs 29 = .ok (.iaload, 1) := by decide +kernel
theorem dX12_unstuffs_30 : decode cX12_unstuffs 30 = .ok (.istore_n 3, 1) := by decide +kernel
theorem dX12_unstuffs_31 : decode cX12_unstuffs 31 = .ok (.aload_n 0, 1) := by decide +kernel
theorem dX12_unstuffs_32 : decode cX12_unstuffs 32 = .ok (.getfield 214, 3) := by decide +kernel
theorem dX12_unstuffs_35 : decode cX12_unstuffs 35 = .ok (.iload_n 2, 1) := by decide +kernel
theorem dX12_unstuffs_36 : decode cX12_unstuffs 36 = .ok (.isub, 1) := by decide +kernel
theorem dX12_unstuffs_37 : decode cX12_unstuffs 37 = .ok (.iconst 1, 1) := by decide +kernel
theorem dX12_unstuffs_38 : decode cX12_unstuffs 38 = .ok (.isub, 1) := by decide +kernel
theorem dX12_unstuffs_39 : decode cX12_unstuffs 39 = .ok (.istore 4, 2) := by decide +kernel
theorem dX12_unstuffs_41 : decode cX12_unstuffs 41 = .ok (.iload_n 1, 1) := by decide +kernel
theorem dX12_unstuffs_42 : decode cX12_unstuffs 42 = .ok (.iconst 2, 1) := by decide +kernel
theorem dX12_unstuffs_43 : decode cX12_unstuffs 43 = .ok (.if_icmp .ne 34, 3) := by decide +kernel
theorem dX12_unstuffs_46 : decode cX12_unstuffs 46 = .ok (.iload_n 3, 1) := by decide +kernel
theorem dX12_unstuffs_47 : decode cX12_unstuffs 47 = .ok (.ifCond .le 30, 3) := by decide +kernel
theorem dX12_unstuffs_50 : decode cX12_unstuffs 50 = .ok (.iload 4, 2) := by decide +kernel
theorem dX12_unstuffs_52 : decode cX12_unstuffs 52 = .ok (.iload_n 3, 1) := by decide +kernel
theorem dX12_unstuffs_53 : decode cX12_unstuffs 53 = .ok (.iconst 1, 1) := by decide +kernel
theorem dX12_unstuffs_54 : decode cX12_unstuffs 54 = .ok (.isub, 1) := by decide +kernel
theorem dX12_unstuffs_55 : decode cX12_unstuffs 55 = .ok (.if_icmp .ge 22, 3) := by decide +kernel
theorem dX12_unstuffs_58 : decode cX12_unstuffs 58 = .ok (.aload_n 0, 1) := by decide +kernel
theorem dX12_unstuffs_59 : decode cX12_unstuffs 59 = .ok (.iload_n 2, 1) := by decide +kernel
theorem dX12_unstuffs_60 : decode cX12_unstuffs 60 = .ok (.iconst 1, 1) := by decide +kernel
theorem dX12_unstuffs_61 : decode cX12_unstuffs 61 = .ok (.iadd, 1) := by decide +kernel
theorem dX12_unstuffs_62 : decode cX12_unstuffs 62 = .ok (.iload 4, 2) := by decide +kernel
theorem dX12_unstuffs_64 : decode cX12_unstuffs 64 = .ok (.invokevirtual 239, 3) := by decide +kernel
theorem dX12_unstuffs_67 : decode cX12_unstuffs 67 = .ok (.istore 5, 2) := by decide +kernel
theorem dX12_unstuffs_69 : decode cX12_unstuffs 69 = .ok (.aload_n 0, 1) := by decide +kernel
theorem dX12_unstuffs_70 : decode cX12_unstuffs 70 = .ok (.iload_n 3, 1) := by decide +kernel
theorem dX12_unstuffs_71 : decode cX12_unstuffs 71 = .ok (.invokevirtual 236, 3) := by decide +kernel
theorem dX12_unstuffs_74 : decode cX12_unstuffs 74 = .ok (.iload 5, 2) := by decide +kernel
theorem dX12_unstuffs_76 : decode cX12_unstuffs 76 = .ok (.ireturn, 1) := by decide +kernel
theorem dX12_unstuffs_77 : decode cX12_unstuffs 77 = .ok (.iload_n 3, 1) := by decide +kernel
theorem dX12_unstuffs_78 : decode cX12_unstuffs 78 = .ok (.aload_n 0, 1) := by decide +kernel
theorem dX12_unstuffs_79 : decode cX12_unstuffs 79 = .ok (.getfield 19, 3) := by decide +kernel
theorem dX12_unstuffs_82 : decode cX12_unstuffs 82 = .ok (.iconst 1, 1) := by decide +kernel
theorem dX12_unstuffs_83 : decode cX12_unstuffs 83 = .ok (.iadd, 1) := by decide +kernel
theorem dX12_unstuffs_84 : decode cX12_unstuffs 84 = .ok (.if_icmp .gt 9, 3) := by decide +kernel
theorem dX12_unstuffs_87 : decode cX12_unstuffs 87 = .ok (.iload_n 3, 1) := by decide +kernel
theorem dX12_unstuffs_88 : decode cX12_unstuffs 88 = .ok (.iconst 1, 1) := by decide +kernel
theorem dX12_unstuffs_89 : decode cX12_unstuffs 89 = .ok (.isub, 1) := by decide +kernel
theorem dX12_unstuffs_90 : decode cX12_unstuffs 90 = .ok (.goto 11, 3) := by decide +kernel
theorem dX12_unstuffs_93 : decode cX12_unstuffs 93 = .ok (.iload_n 3, 1) := by decide +kernel
theorem dX12_unstuffs_94 : decode cX12_unstuffs 94 = .ok (.aload_n 0, 1) := by decide +kernel
theorem dX12_unstuffs_95 : decode cX12_unstuffs 95 = .ok (.getfield 19, 3) := by decide +kernel
theorem dX12_unstuffs_98 : decode cX12_unstuffs 98 = .ok (.isub, 1) := by decide +kernel
theorem dX12_unstuffs_99 : decode cX12_unstuffs 99 = .ok (.iconst 2, 1) := by decide +kernel
theorem dX12_unstuffs_100 : decode cX12_unstuffs 100 = .ok (.isub, 1) := by decide +kernel
theorem dX12_unstuffs_101 : decode cX12_unstuffs 101 = .ok (.istore 5, 2) := by decide +kernel
theorem dX12_unstuffs_103 : decode cX12_unstuffs 103 = .ok (.aload_n 0, 1) := by decide +kernel
theorem dX12_unstuffs_104 : decode cX12_unstuffs 104 = .ok (.iload_n 3, 1) := by decide +kernel
theorem dX12_unstuffs_105 : decode cX12_unstuffs 105 = .ok (.iload_n 1, 1) := by decide +kernel
theorem dX12_unstuffs_106 : decode cX12_unstuffs 106 = .ok (.invokevirtual 242, 3) := by decide +kernel
theorem dX12_unstuffs_109 : decode cX12_unstuffs 109 = .ok (.ifCond .eq 10, 3) := by decide +kernel
theorem dX12_unstuffs_112 : decode cX12_unstuffs 112 = .ok (.iload 4, 2) := by decide +kernel
theorem dX12_unstuffs_114 : decode cX12_unstuffs 114 = .ok (.iload 5, 2) := by decide +kernel
theorem dX12_unstuffs_116 : decode cX12_unstuffs 116 = .ok (.if_icmp .ge 5, 3) := by decide +kernel
theorem dX12_unstuffs_119 : decode cX12_unstuffs 119 = .ok (.iload_n 2, 1) := by decide +kernel
theorem dX12_unstuffs_120 : decode cX12_unstuffs 120 = .ok (.ireturn, 1) := by decide +kernel
theorem dX12_unstuffs_121 : decode cX12_unstuffs 121 = .ok (.aload_n 0, 1) := by decide +kernel
theorem dX12_unstuffs_122 : decode cX12_unstuffs 122 = .ok (.iload_n 2, 1) := by decide +kernel
theorem dX12_unstuffs_123 : decode cX12_unstuffs 123 = .ok (.iconst 1, 1) := by decide +kernel
theorem dX12_unstuffs_124 : decode cX12_unstuffs 124 = .ok (.iadd, 1) := by decide +kernel
theorem dX12_unstuffs_125 : decode cX12_unstuffs 125 = .ok (.iload 5, 2) := by decide +kernel
theorem dX12_unstuffs_127 : decode cX12_unstuffs 127 = .ok (.invokevirtual 239, 3) := by decide +kernel
theorem dX12_unstuffs_130 : decode cX12_unstuffs 130 = .ok (.istore 6, 2) := by decide +kernel
theorem dX12_unstuffs_132 : decode cX12_unstuffs 132 = .ok (.iload 6, 2) := by decide +kernel
theorem dX12_unstuffs_134 : decode cX12_unstuffs 134 = .ok (.iconst (-1), 1) := by decide +kernel
theorem dX12_unstuffs_135 : decode cX12_unstuffs 135 = .ok (.if_icmp .eq 6, 3) := by decide +kernel
theorem dX12_unstuffs_138 : decode cX12_unstuffs 138 = .ok (.iload 6, 2) := by decide +kernel
theorem dX12_unstuffs_140 : decode cX12_unstuffs 140 = .ok (.ireturn, 1) := by decide +kernel
theorem dX12_unstuffs_141 : decode cX12_unstuffs 141 = .ok (.iload_n 2, 1) := by decide +kernel
theorem dX12_unstuffs_142 : decode cX12_unstuffs 142 = .ok (.iconst 1, 1) := by decide +kernel
theorem dX12_unstuffs_143 : decode cX12_unstuffs 143 = .ok (.iload 5, 2) := by decide +kernel
theorem dX12_unstuffs_145 : decode cX12_unstuffs 145 = .ok (.iadd, 1) := by decide +kernel
theorem dX12_unstuffs_146 : decode cX12_unstuffs 146 = .ok (.iadd, 1) := by decide +kernel
theorem dX12_unstuffs_147 : decode cX12_unstuffs 147 = .ok (.istore_n 2, 1) := by decide +kernel
theorem dX12_unstuffs_148 : decode cX12_unstuffs 148 = .ok (.iload_n 3, 1) := by decide +kernel
theorem dX12_unstuffs_149 : decode cX12_unstuffs 149 = .ok (.aload_n 0, 1) := by decide +kernel
theorem dX12_unstuffs_150 : decode cX12_unstuffs 150 = .ok (.getfield 19, 3) := by decide +kernel
theorem dX12_unstuffs_153 : decode cX12_unstuffs 153 = .ok (.if_icmp .gt 19, 3) := by decide +kernel
theorem dX12_unstuffs_156 : decode cX12_unstuffs 156 = .ok (.iload_n 2, 1) := by decide +kernel
theorem dX12_unstuffs_157 : decode cX12_unstuffs 157 = .ok (.aload_n 0, 1) := by decide +kernel
theorem dX12_unstuffs_158 : decode cX12_unstuffs 158 = .ok (.getfield 214, 3) := by decide +kernel
theorem dX12_unstuffs_161 : decode cX12_unstuffs 161 = .ok (.if_icmp .ge 11, 3) := by decide +kernel
theorem dX12_unstuffs_164 : decode cX12_unstuffs 164 = .ok (.aload_n 0, 1) := by decide +kernel
theorem dX12_unstuffs_165 : decode cX12_unstuffs 165 = .ok (.iconst 0, 1) := by decide +kernel
theorem dX12_unstuffs_166 : decode cX12_unstuffs 166 = .ok (.invokevirtual 236, 3) := by decide +kernel
theorem dX12_unstuffs_169 : decode cX12_unstuffs 169 = .ok (.goto 23, 3) := by decide +kernel
theorem dX12_unstuffs_172 : decode cX12_unstuffs 172 = .ok (.iload_n 3, 1) := by decide +kernel
theorem dX12_unstuffs_173 : decode cX12_unstuffs 173 = .ok (.aload_n 0, 1) := by decide +kernel
theorem dX12_unstuffs_174 : decode cX12_unstuffs 174 = .ok (.getfield 19, 3) := by decide +kernel
theorem dX12_unstuffs_177 : decode cX12_unstuffs 177 = .ok (.iconst 1, 1) := by decide +kernel
theorem dX12_unstuffs_178 : decode cX12_unstuffs 178 = .ok (.iadd, 1) := by decide +kernel
theorem dX12_unstuffs_179 : decode cX12_unstuffs 179 = .ok (.if_icmp .le 13, 3) := by decide +kernel
theorem dX12_unstuffs_182 : decode cX12_unstuffs 182 = .ok (.aload_n 0, 1) := by decide +kernel
theorem dX12_unstuffs_183 : decode cX12_unstuffs 183 = .ok (.iconst 0, 1) := by decide +kernel
theorem dX12_unstuffs_184 : decode cX12_unstuffs 184 = .ok (.invokevirtual 236, 3) := by decide +kernel
theorem dX12_unstuffs_187 : decode cX12_unstuffs 187 = .ok (.aload_n 0, 1) := by decide +kernel
theorem dX12_unstuffs_188 : decode cX12_unstuffs 188 = .ok (.iconst 0, 1) := by decide +kernel
theorem dX12_unstuffs_189 : decode cX12_unstuffs 189 = .ok (.invokevirtual 236, 3) := by decide +kernel
theorem dX12_unstuffs_192 : decode cX12_unstuffs 192 = .ok (.goto (-176), 3) := by decide +kernel
theorem dX12_unstuffs_195 : decode cX12_unstuffs 195 = .ok (.iconst (-1), 1) := by decide +kernel
theorem dX12_unstuffs_196 : decode cX12_unstuffs 196 = .ok (.ireturn, 1) := by decide +kernel
theorem dX12_lettersPlain_0 : decode cX12_lettersPlain 0 = .ok (.iconst 0, 1) := by decide +kernel
theorem dX12_lettersPlain_1 : decode cX12_lettersPlain 1 = .ok (.istore_n 1, 1) := by decide +kernel
theorem dX12_lettersPlain_2 : decode cX12_lettersPlain 2 = .ok (.iload_n 1, 1) := by decide +kernel
theorem dX12_lettersPlain_3 : decode cX12_lettersPlain 3 = .ok (.aload_n 0, 1) := by decide +kernel
theorem dX12_lettersPlain_4 : decode cX12_lettersPlain 4 = .ok (.getfield 63, 3) := by decide +kernel
theorem dX12_lettersPlain_7 : decode cX12_lettersPlain 7 = .ok (.if_icmp .ge 21, 3) := by decide +kernel
theorem dX12_lettersPlain_10 : decode cX12_lettersPlain 10 = .ok (.aload_n 0, 1) := by decide +kernel
theorem dX12_lettersPlain_11 : decode cX12_lettersPlain 11 = .ok (.getfield 29, 3) := by decide +kernel
theorem dX12_lettersPlain_14 : decode cX12_lettersPlain 14 = .ok (.iload_n 1, 1) := by decide +kernel
theorem dX12_lettersPlain_15 : decode cX12_lettersPlain 15 = .ok (.aload_n 0, 1) := by decide +kernel
theorem dX12_lettersPlain_16 : decode cX12_lettersPlain 16 = .ok (.getfield 9, 3) := by decide +kernel
theorem dX12_lettersPlain_19 : decode cX12_lettersPlain 19 = .ok (.iload_n 1, 1) := by decide +kernel
theorem dX12_lettersPlain_20 : decode cX12_lettersPlain 20 = .ok (.iaload, 1) := by decide +kernel
theorem dX12_lettersPlain_21 : decode cX12_lettersPlain 21 = .ok (.iastore, 1) := by decide +kernel
theorem dX12_lettersPlain_22 : decode cX12_lettersPlain 22 = .ok (.iinc 1 1, 3) := by decide +kernel
theorem dX12_lettersPlain_25 : decode cX12_lettersPlain 25 = .ok (.goto (-23), 3) := by decide +kernel
theorem dX12_lettersPlain_28 : decode cX12_lettersPlain 28 = .ok (.aload_n 0, 1) := by decide +kernel
theorem dX12_lettersPlain_29 : decode cX12_lettersPlain 29 = .ok (.aload_n 0, 1) := by decide +kernel
theorem dX12_lettersPlain_30 : decode cX12_lettersPlain 30 = .ok (.getfield 63, 3) := by decide +kernel
theorem dX12_lettersPlain_33 : decode cX12_lettersPlain 33 = .ok (.putfield 217, 3) := by decide +kernel
theorem dX12_lettersPlain_36 : decode cX12_lettersPlain 36 = .ok (.return_, 1) := by decide +kernel
theorem dX12_stuff_0 : decode cX12_stuff 0 = .ok (.aload_n 0, 1) := by decide +kernel
theorem dX12_stuff_1 : decode cX12_stuff 1 = .ok (.iconst 0, 1) := by decide +kernel
theorem dX12_stuff_2 : decode cX12_stuff 2 = .ok (.putfield 60, 3) := by decide +kernel
theorem dX12_stuff_5 : decode cX12_stuff 5 = .ok (.iload_n 1, 1) := by decide +kernel
theorem dX12_stuff_6 : decode cX12_stuff 6 = .ok (.i2l, 1) := by decide +kernel
theorem dX12_stuff_7 : decode cX12_stuff 7 = .ok (.lconst 0, 1) := by decide +kernel
theorem dX12_stuff_8 : decode cX12_stuff 8 = .ok (.ldc2_w 246, 3) := by decide +kernel
theorem dX12_stuff_11 : decode cX12_stuff 11 = .ok (.invokestatic 70, 3) := by decide +kernel
theorem dX12_stuff_14 : decode cX12_stuff 14 = .ok (.ifCond .ne 5, 3) := by decide +kernel
theorem dX12_stuff_17 : decode cX12_stuff 17 = .ok (.iconst (-1), 1) := by decide +kernel
theorem dX12_stuff_18 : decode cX12_stuff 18 = .ok (.ireturn, 1) := by decide +kernel
theorem dX12_stuff_19 : decode cX12_stuff 19 = .ok (.aload_n 0, 1) := by decide +kernel
theorem dX12_stuff_20 : decode cX12_stuff 20 = .ok (.invokevirtual 248, 3) := by decide +kernel
theorem dX12_stuff_23 : decode cX12_stuff 23 = .ok (.aload_n 0, 1) := by decide +kernel
theorem dX12_stuff_24 : decode cX12_stuff 24 = .ok (.iload_n 1, 1) := by decide +kernel
theorem dX12_stuff_25 : decode cX12_stuff 25 = .ok (.invokevirtual 251, 3) := by decide +kernel
theorem dX12_stuff_28 : decode cX12_stuff 28 = .ok (.iconst 0, 1) := by decide +kernel
theorem dX12_stuff_29 : decode cX12_stuff 29 = .ok (.istore_n 2, 1) := by decide +kernel
theorem dX12_stuff_30 : decode cX12_stuff 30 = .ok (.iload_n 2, 1) := by decide +kernel
theorem dX12_stuff_31 : decode cX12_stuff 31 = .ok (.aload_n 0, 1) := by decide +kernel
theorem dX12_stuff_32 : decode cX12_stuff 32 = .ok (.getfield 214, 3) := by decide +kernel
theorem dX12_stuff_35 : decode cX12_stuff 35 = .ok (.if_icmp .ge 21, 3) := by decide +kernel
theorem dX12_stuff_38 : decode cX12_stuff 38 = .ok (.aload_n 0, 1) := by decide +kernel
theorem dX12_stuff_39 : decode cX12_stuff 39 = .ok (.getfield 35, 3) := by decide +kernel
theorem dX12_stuff_42 : decode cX12_stuff 42 = .ok (.iload_n 2, 1) := by decide +kernel
theorem dX12_stuff_43 : decode cX12_stuff 43 = .ok (.aload_n 0, 1) := by decide +kernel
theorem dX12_stuff_44 : decode cX12_stuff 44 = .ok (.getfield 32, 3) := by decide +kernel
theorem dX12_stuff_47 : decode cX12_stuff 47 = .ok (.iload_n 2, 1) := by decide +kernel
theorem dX12_stuff_48 : decode cX12_stuff 48 = .ok (.iaload, 1) := by decide +kernel
theorem dX12_stuff_49 : decode cX12_stuff 49 = .ok (.iastore, 1) := by decide +kernel
theorem dX12_stuff_50 : decode cX12_stuff 50 = .ok (.iinc 2 1, 3) := by decide +kernel
theorem dX12_stuff_53 : decode cX12_stuff 53 = .ok (.goto (-23), 3) := by decide +kernel
theorem dX12_stuff_56 : decode cX12_stuff 56 = .ok (.aload_n 0, 1) := by decide +kernel
theorem dX12_stuff_57 : decode cX12_stuff 57 = .ok (.aload_n 0, 1) := by decide +kernel
theorem dX12_stuff_58 : decode cX12_stuff 58 = .ok (.getfield 214, 3) := by decide +kernel
theorem dX12_stuff_61 : decode cX12_stuff 61 = .ok (.putfield 254, 3) := by decide +kernel
theorem dX12_stuff_64 : decode cX12_stuff 64 = .ok (.aload_n 0, 1) := by decide +kernel
theorem dX12_stuff_65 : decode cX12_stuff 65 = .ok (.iconst 0, 1) := by decide +kernel
theorem dX12_stuff_66 : decode cX12_stuff 66 = .ok (.putfield 63, 3) := by decide +kernel
theorem dX12_stuff_69 : decode cX12_stuff 69 = .ok (.aload_n 0, 1) := by decide +kernel
theorem dX12_stuff_70 : decode cX12_stuff 70 = .ok (.getfield 254, 3) := by decide +kernel
theorem dX12_stuff_73 : decode cX12_stuff 73 = .ok (.ireturn, 1) := by decide +kernel
theorem dX12_unstuff_0 : decode cX12_unstuff 0 = .ok (.aload_n 0, 1) := by decide +kernel
theorem dX12_unstuff_1 : decode cX12_unstuff 1 = .ok (.iconst 0, 1) := by decide +kernel
theorem dX12_unstuff_2 : decode cX12_unstuff 2 = .ok (.putfield 60, 3) := by decide +kernel
theorem dX12_unstuff_5 : decode cX12_unstuff 5 = .ok (.iload_n 1, 1) := by decide +kernel
theorem dX12_unstuff_6 : decode cX12_unstuff 6 = .ok (.i2l, 1) := by decide +kernel
theorem dX12_unstuff_7 : decode cX12_unstuff 7 = .ok (.lconst 0, 1) := by decide +kernel
theorem dX12_unstuff_8 : decode cX12_unstuff 8 = .ok (.ldc2_w 246, 3) := by decide +kernel
theorem dX12_unstuff_11 : decode cX12_unstuff 11 = .ok (.invokestatic 70, 3) := by decide +kernel
theorem dX12_unstuff_14 : decode cX12_unstuff 14 = .ok (.ifCond .ne 5, 3) := by decide +kernel
theorem dX12_unstuff_17 : decode cX12_unstuff 17 = .ok (.iconst (-1), 1) := by decide +kernel
theorem dX12_unstuff_18 : decode cX12_unstuff 18 = .ok (.ireturn, 1) := by decide +kernel
theorem dX12_unstuff_19 : decode cX12_unstuff 19 = .ok (.iconst 0, 1) := by decide +kernel
theorem dX12_unstuff_20 : decode cX12_unstuff 20 = .ok (.istore_n 2, 1) := by decide +kernel
theorem dX12_unstuff_21 : decode cX12_unstuff 21 = .ok (.iload_n 2, 1) := by decide +kernel
theorem dX12_unstuff_22 : decode cX12_unstuff 22 = .ok (.aload_n 0, 1) := by decide +kernel
theorem dX12_unstuff_23 : decode cX12_unstuff 23 = .ok (.getfield 63, 3) := by decide +kernel
theorem dX12_unstuff_26 : decode cX12_unstuff 26 = .ok (.if_icmp .ge 21, 3) := by decide +kernel
theorem dX12_unstuff_29 : decode cX12_unstuff 29 = .ok (.aload_n 0, 1) := by decide +kernel
theorem dX12_unstuff_30 : decode cX12_unstuff 30 = .ok (.getfield 32, 3) := by decide +kernel
theorem dX12_unstuff_33 : decode cX12_unstuff 33 = .ok (.iload_n 2, 1) := by decide +kernel
theorem dX12_unstuff_34 : decode cX12_unstuff 34 = .ok (.aload_n 0, 1) := by decide +kernel
theorem dX12_unstuff_35 : decode cX12_unstuff 35 = .ok (.getfield 9, 3) := by decide +kernel
theorem dX12_unstuff_38 : decode cX12_unstuff 38 = .ok (.iload_n 2, 1) := by decide +kernel
theorem dX12_unstuff_39 : decode cX12_unstuff 39 = .ok (.iaload, 1) := by decide +kernel
theorem dX12_unstuff_40 : decode cX12_unstuff 40 = .ok (.iastore, 1) := by decide +kernel
theorem dX12_unstuff_41 : decode cX12_unstuff 41 = .ok (.iinc 2 1, 3) := by decide +kernel
theorem dX12_unstuff_44 : decode cX12_unstuff 44 = .ok (.goto (-23), 3) := by decide +kernel
theorem dX12_unstuff_47 : decode cX12_unstuff 47 = .ok (.aload_n 0, 1) := by decide +kernel
theorem dX12_unstuff_48 : decode cX12_unstuff 48 = .ok (.aload_n 0, 1) := by decide +kernel
theorem dX12_unstuff_49 : decode cX12_unstuff 49 = .ok (.getfield 63, 3) := by decide +kernel
theorem dX12_unstuff_52 : decode cX12_unstuff 52 = .ok (.putfield 214, 3) := by decide +kernel
theorem dX12_unstuff_55 : decode cX12_unstuff 55 = .ok (.aload_n 0, 1) := by decide +kernel
theorem dX12_unstuff_56 : decode cX12_unstuff 56 = .ok (.iload_n 1, 1) := by decide +kernel
theorem dX12_unstuff_57 : decode cX12_unstuff 57 = .ok (.invokevirtual 257, 3) := by decide +kernel
theorem dX12_unstuff_60 : decode cX12_unstuff 60 = .ok (.istore_n 2, 1) := by decide +kernel
theorem dX12_unstuff_61 : decode cX12_unstuff 61 = .ok (.iload_n 2, 1) := by decide +kernel
theorem dX12_unstuff_62 : decode cX12_unstuff 62 = .ok (.iconst (-1), 1) := by decide +kernel
theorem dX12_unstuff_63 : decode cX12_unstuff 63 = .ok (.if_icmp .eq 8, 3) := by decide +kernel
theorem dX12_unstuff_66 : decode cX12_unstuff 66 = .ok (.bipush (-2), 2) := by decide +kernel
theorem dX12_unstuff_68 : decode cX12_unstuff 68 = .ok (.iload_n 2, 1) := by decide +kernel
theorem dX12_unstuff_69 : decode cX12_unstuff 69 = .ok (.isub, 1) := by decide +kernel
theorem dX12_unstuff_70 : decode cX12_unstuff 70 = .ok (.ireturn, 1) := by decide +kernel
theorem dX12_unstuff_71 : decode cX12_unstuff 71 = .ok (.iconst 0, 1) := by decide +kernel
theorem dX12_unstuff_72 : decode cX12_unstuff 72 = .ok (.istore_n 3, 1) := by decide +kernel
theorem dX12_unstuff_73 : decode cX12_unstuff 73 = .ok (.iload_n 3, 1) := by decide +kernel
theorem dX12_unstuff_74 : decode cX12_unstuff 74 = .ok (.aload_n 0, 1) := by decide +kernel
theorem dX12_unstuff_75 : decode cX12_unstuff 75 = .ok (.getfield 217, 3) := by decide +kernel
theorem dX12_unstuff_78 : decode cX12_unstuff 78 = .ok (.if_icmp .ge 21, 3) := by decide +kernel
theorem dX12_unstuff_81 : decode cX12_unstuff 81 = .ok (.aload_n 0, 1) := by decide +kernel
theorem dX12_unstuff_82 : decode cX12_unstuff 82 = .ok (.getfield 35, 3) := by decide +kernel
theorem dX12_unstuff_85 : decode cX12_unstuff 85 = .ok (.iload_n 3, 1) := by decide +kernel
theorem dX12_unstuff_86 : decode cX12_unstuff 86 = .ok (.aload_n 0, 1) := by decide +kernel
theorem dX12_unstuff_87 : decode cX12_unstuff 87 = .ok (.getfield 29, 3) := by decide +kernel
theorem dX12_unstuff_90 : decode cX12_unstuff 90 = .ok (.iload_n 3, 1) := by decide +kernel
theorem dX12_unstuff_91 : decode cX12_unstuff 91 = .ok (.iaload, 1) := by decide +kernel
theorem dX12_unstuff_92 : decode cX12_unstuff 92 = .ok (.iastore, 1) := by decide +kernel
theorem dX12_unstuff_93 : decode cX12_unstuff 93 = .ok (.iinc 3 1, 3) := by decide +kernel
theorem dX12_unstuff_96 : decode cX12_unstuff 96 = .ok (.goto (-23), 3) := by decide +kernel
theorem dX12_unstuff_99 : decode cX12_unstuff 99 = .ok (.aload_n 0, 1) := by decide +kernel
theorem dX12_unstuff_100 : decode cX12_unstuff 100 = .ok (.aload_n 0, 1) := by decide +kernel
theorem dX12_unstuff_101 : decode cX12_unstuff 101 = .ok (.getfield 217, 3) := by decide +kernel
theorem dX12_unstuff_104 : decode cX12_unstuff 104 = .ok (.putfield 254, 3) := by decide +kernel
theorem dX12_unstuff_107 : decode cX12_unstuff 107 = .ok (.aload_n 0, 1) := by decide +kernel
theorem dX12_unstuff_108 : decode cX12_unstuff 108 = .ok (.iconst 0, 1) := by decide +kernel
theorem dX12_unstuff_109 : decode cX12_unstuff 109 = .ok (.putfield 63, 3) := by decide +kernel
theorem dX12_unstuff_112 : decode cX12_unstuff 112 = .ok (.aload_n 0, 1) := by decide +kernel
theorem dX12_unstuff_113 : decode cX12_unstuff 113 = .ok (.getfield 254, 3) := by decide +kernel
theorem dX12_unstuff_116 : decode cX12_unstuff 116 = .ok (.ireturn, 1) := by decide +kernel
theorem dX12_box_0 : decode cX12_box 0 = .ok (.aload_n 0, 1) := by decide +kernel
theorem dX12_box_1 : decode cX12_box 1 = .ok (.iconst 0, 1) := by decide +kernel
theorem dX12_box_2 : decode cX12_box 2 = .ok (.putfield 60, 3) := by decide +kernel
theorem dX12_box_5 : decode cX12_box 5 = .ok (.iload_n 1, 1) := by decide +kernel
theorem dX12_box_6 : decode cX12_box 6 = .ok (.i2l, 1) := by decide +kernel
theorem dX12_box_7 : decode cX12_box 7 = .ok (.lconst 0, 1) := by decide +kernel
theorem dX12_box_8 : decode cX12_box 8 = .ok (.aload_n 0, 1) := by decide +kernel
theorem dX12_box_9 : decode cX12_box 9 = .ok (.getfield 254, 3) := by decide +kernel
theorem dX12_box_12 : decode cX12_box 12 = .ok (.iconst 1, 1) := by decide +kernel
theorem dX12_box_13 : decode cX12_box 13 = .ok (.isub, 1) := by decide +kernel
theorem dX12_box_14 : decode cX12_box 14 = .ok (.i2l, 1) := by decide +kernel
theorem dX12_box_15 : decode cX12_box 15 = .ok (.invokestatic 70, 3) := by decide +kernel
theorem dX12_box_18 : decode cX12_box 18 = .ok (.ifCond .eq 12, 3) := by decide +kernel
theorem dX12_box_21 : decode cX12_box 21 = .ok (.aload_n 0, 1) := by decide +kernel
theorem dX12_box_22 : decode cX12_box 22 = .ok (.getfield 35, 3) := by decide +kernel
theorem dX12_box_25 : decode cX12_box 25 = .ok (.iload_n 1, 1) := by decide +kernel
theorem dX12_box_26 : decode cX12_box 26 = .ok (.iaload, 1) := by decide +kernel
theorem dX12_box_27 : decode cX12_box 27 = .ok (.goto 4, 3) := by decide +kernel
theorem dX12_box_30 : decode cX12_box 30 = .ok (.iconst (-1), 1) := by decide +kernel
theorem dX12_box_31 : decode cX12_box 31 = .ok (.ireturn, 1) := by decide +kernel
theorem dX12_shortest_0 : decode cX12_shortest 0 = .ok (.aload_n 0, 1) := by decide +kernel
theorem dX12_shortest_1 : decode cX12_shortest 1 = .ok (.iconst 0, 1) := by decide +kernel
theorem dX12_shortest_2 : decode cX12_shortest 2 = .ok (.putfield 60, 3) := by decide +kernel
theorem dX12_shortest_5 : decode cX12_shortest 5 = .ok (.iconst (-1), 1) := by decide +kernel
theorem dX12_shortest_6 : decode cX12_shortest 6 = .ok (.istore_n 1, 1) := by decide +kernel
theorem dX12_shortest_7 : decode cX12_shortest 7 = .ok (.sipush 1400, 3) := by decide +kernel
theorem dX12_shortest_10 : decode cX12_shortest 10 = .ok (.istore_n 2, 1) := by decide +kernel
theorem dX12_shortest_11 : decode cX12_shortest 11 = .ok (.iconst 0, 1) := by decide +kernel
theorem dX12_shortest_12 : decode cX12_shortest 12 = .ok (.istore_n 3, 1) := by decide +kernel
theorem dX12_shortest_13 : decode cX12_shortest 13 = .ok (.iload_n 3, 1) := by decide +kernel
theorem dX12_shortest_14 : decode cX12_shortest 14 = .ok (.iconst 2, 1) := by decide +kernel
theorem dX12_shortest_15 : decode cX12_shortest 15 = .ok (.if_icmp .gt 41, 3) := by decide +kernel
theorem dX12_shortest_18 : decode cX12_shortest 18 = .ok (.aload_n 0, 1) := by decide +kernel
theorem dX12_shortest_19 : decode cX12_shortest 19 = .ok (.invokevirtual 248, 3) := by decide +kernel
theorem dX12_shortest_22 : decode cX12_shortest 22 = .ok (.aload_n 0, 1) := by decide +kernel
theorem dX12_shortest_23 : decode cX12_shortest 23 = .ok (.iload_n 3, 1) := by decide +kernel
theorem dX12_shortest_24 : decode cX12_shortest 24 = .ok (.invokevirtual 251, 3) := by decide +kernel
theorem dX12_shortest_27 : decode cX12_shortest 27 = .ok (.aload_n 0, 1) := by decide +kernel
theorem dX12_shortest_28 : decode cX12_shortest 28 = .ok (.getfield 214, 3) := by decide +kernel
theorem dX12_shortest_31 : decode cX12_shortest 31 = .ok (.iload_n 2, 1) := by decide +kernel
theorem dX12_shortest_32 : decode cX12_shortest 32 = .ok (.if_icmp .ge 7, 3) := by decide +kernel
theorem dX12_shortest_35 : decode cX12_shortest 35 = .ok (.iload_n 3, 1) := by decide +kernel
theorem dX12_shortest_36 : decode cX12_shortest 36 = .ok (.goto 4, 3) := by decide +kernel
theorem dX12_shortest_39 : decode cX12_shortest 39 = .ok (.iload_n 1, 1) := by decide +kernel
theorem dX12_shortest_40 : decode cX12_shortest 40 = .ok (.istore_n 1, 1) := by decide +kernel
theorem dX12_shortest_41 : decode cX12_shortest 41 = .ok (.iload_n 2, 1) := by decide +kernel
theorem dX12_shortest_42 : decode cX12_shortest 42 = .ok (.aload_n 0, 1) := by decide +kernel
theorem dX12_shortest_43 : decode cX12_shortest 43 = .ok (.getfield 214, 3) := by decide +kernel
theorem dX12_shortest_46 : decode cX12_shortest 46 = .ok (.invokestatic 97, 3) := by decide +kernel
theorem dX12_shortest_49 : decode cX12_shortest 49 = .ok (.istore_n 2, 1) := by decide +kernel
theorem dX12_shortest_50 : decode cX12_shortest 50 = .ok (.iinc 3 1, 3) := by decide +kernel
theorem dX12_shortest_53 : decode cX12_shortest 53 = .ok (.goto (-40), 3) := by decide +kernel
theorem dX12_shortest_56 : decode cX12_shortest 56 = .ok (.iload_n 1, 1) := by decide +kernel
theorem dX12_shortest_57 : decode cX12_shortest 57 = .ok (.ireturn, 1) := by decide +kernel
theorem dX12_mostOf_0 : decode cX12_mostOf 0 = .ok (.iload_n 1, 1) := by decide +kernel
theorem dX12_mostOf_1 : decode cX12_mostOf 1 = .ok (.iconst 1, 1) := by decide +kernel
theorem dX12_mostOf_2 : decode cX12_mostOf 2 = .ok (.iload_n 1, 1) := by decide +kernel
theorem dX12_mostOf_3 : decode cX12_mostOf 3 = .ok (.aload_n 0, 1) := by decide +kernel
theorem dX12_mostOf_4 : decode cX12_mostOf 4 = .ok (.getfield 19, 3) := by decide +kernel
theorem dX12_mostOf_7 : decode cX12_mostOf 7 = .ok (.iadd, 1) := by decide +kernel
theorem dX12_mostOf_8 : decode cX12_mostOf 8 = .ok (.iconst 1, 1) := by decide +kernel
theorem dX12_mostOf_9 : decode cX12_mostOf 9 = .ok (.isub, 1) := by decide +kernel
theorem dX12_mostOf_10 : decode cX12_mostOf 10 = .ok (.aload_n 0, 1) := by decide +kernel
theorem dX12_mostOf_11 : decode cX12_mostOf 11 = .ok (.getfield 19, 3) := by decide +kernel
theorem dX12_mostOf_14 : decode cX12_mostOf 14 = .ok (.idiv, 1) := by decide +kernel
theorem dX12_mostOf_15 : decode cX12_mostOf 15 = .ok (.invokestatic 260, 3) := by decide +kernel
theorem dX12_mostOf_18 : decode cX12_mostOf 18 = .ok (.iadd, 1) := by decide +kernel
theorem dX12_mostOf_19 : decode cX12_mostOf 19 = .ok (.ireturn, 1) := by decide +kernel
theorem dX12_bound_0 : decode cX12_bound 0 = .ok (.aload_n 0, 1) := by decide +kernel
theorem dX12_bound_1 : decode cX12_bound 1 = .ok (.iconst 0, 1) := by decide +kernel
theorem dX12_bound_2 : decode cX12_bound 2 = .ok (.putfield 60, 3) := by decide +kernel
theorem dX12_bound_5 : decode cX12_bound 5 = .ok (.iload_n 1, 1) := by decide +kernel
theorem dX12_bound_6 : decode cX12_bound 6 = .ok (.i2l, 1) := by decide +kernel
theorem dX12_bound_7 : decode cX12_bound 7 = .ok (.lconst 0, 1) := by decide +kernel
theorem dX12_bound_8 : decode cX12_bound 8 = .ok (.ldc2_w 263, 3) := by decide +kernel
theorem dX12_bound_11 : decode cX12_bound 11 = .ok (.invokestatic 70, 3) := by decide +kernel
theorem dX12_bound_14 : decode cX12_bound 14 = .ok (.ifCond .eq 11, 3) := by decide +kernel
theorem dX12_bound_17 : decode cX12_bound 17 = .ok (.aload_n 0, 1) := by decide +kernel
theorem dX12_bound_18 : decode cX12_bound 18 = .ok (.iload_n 1, 1) := by decide +kernel
theorem dX12_bound_19 : decode cX12_bound 19 = .ok (.invokevirtual 265, 3) := by decide +kernel
theorem dX12_bound_22 : decode cX12_bound 22 = .ok (.goto 4, 3) := by decide +kernel
theorem dX12_bound_25 : decode cX12_bound 25 = .ok (.iconst (-1), 1) := by decide +kernel
theorem dX12_bound_26 : decode cX12_bound 26 = .ok (.ireturn, 1) := by decide +kernel
theorem dX12_checkLong_0 : decode cX12_checkLong 0 = .ok (.aload_n 0, 1) := by decide +kernel
theorem dX12_checkLong_1 : decode cX12_checkLong 1 = .ok (.getfield 194, 3) := by decide +kernel
theorem dX12_checkLong_4 : decode cX12_checkLong 4 = .ok (.ifCond .ne 7, 3) := by decide +kernel
theorem dX12_checkLong_7 : decode cX12_checkLong 7 = .ok (.iconst 0, 1) := by decide +kernel
theorem dX12_checkLong_8 : decode cX12_checkLong 8 = .ok (.goto 4, 3) := by decide +kernel
theorem dX12_checkLong_11 : decode cX12_checkLong 11 = .ok (.iconst 1, 1) := by decide +kernel
theorem dX12_checkLong_12 : decode cX12_checkLong 12 = .ok (.ireturn, 1) := by decide +kernel
theorem dX12_checkOf_0 : decode cX12_checkOf 0 = .ok (.iconst 0, 1) := by decide +kernel
theorem dX12_checkOf_1 : decode cX12_checkOf 1 = .ok (.istore_n 2, 1) := by decide +kernel
theorem dX12_checkOf_2 : decode cX12_checkOf 2 = .ok (.iconst 0, 1) := by decide +kernel
theorem dX12_checkOf_3 : decode cX12_checkOf 3 = .ok (.istore_n 3, 1) := by decide +kernel
theorem dX12_checkOf_4 : decode cX12_checkOf 4 = .ok (.iload_n 3, 1) := by decide +kernel
theorem dX12_checkOf_5 : decode cX12_checkOf 5 = .ok (.iload_n 1, 1) := by decide +kernel
theorem dX12_checkOf_6 : decode cX12_checkOf 6 = .ok (.if_icmp .ge 82, 3) := by decide +kernel
theorem dX12_checkOf_9 : decode cX12_checkOf 9 = .ok (.aload_n 0, 1) := by decide +kernel
theorem dX12_checkOf_10 : decode cX12_checkOf 10 = .ok (.getfield 194, 3) := by decide +kernel
theorem dX12_checkOf_13 : decode cX12_checkOf 13 = .ok (.iconst 1, 1) := by decide +kernel
theorem dX12_checkOf_14 : decode cX12_checkOf 14 = .ok (.if_icmp .ne 19, 3) := by decide +kernel
theorem dX12_checkOf_17 : decode cX12_checkOf 17 = .ok (.iload_n 2, 1) := by decide +kernel
theorem dX12_checkOf_18 : decode cX12_checkOf 18 = .ok (.aload_n 0, 1) := by decide +kernel
theorem dX12_checkOf_19 : decode cX12_checkOf 19 = .ok (.getfield 29, 3) := by decide +kernel
theorem dX12_checkOf_22 : decode cX12_checkOf 22 = .ok (.iload_n 3, 1) := by decide +kernel
theorem dX12_checkOf_23 : decode cX12_checkOf 23 = .ok (.iaload, 1) := by decide +kernel
theorem dX12_checkOf_24 : decode cX12_checkOf 24 = .ok (.iadd, 1) := by decide +kernel
theorem dX12_checkOf_25 : decode cX12_checkOf 25 = .ok (.sipush 255, 3) := by decide +kernel
theorem dX12_checkOf_28 : decode cX12_checkOf 28 = .ok (.iand, 1) := by decide +kernel
theorem dX12_checkOf_29 : decode cX12_checkOf 29 = .ok (.istore_n 2, 1) := by decide +kernel
theorem dX12_checkOf_30 : decode cX12_checkOf 30 = .ok (.goto 52, 3) := by decide +kernel
theorem dX12_checkOf_33 : decode cX12_checkOf 33 = .ok (.iload_n 2, 1) := by decide +kernel
theorem dX12_checkOf_34 : decode cX12_checkOf 34 = .ok (.aload_n 0, 1) := by decide +kernel
theorem dX12_checkOf_35 : decode cX12_checkOf 35 = .ok (.getfield 29, 3) := by decide +kernel
theorem dX12_checkOf_38 : decode cX12_checkOf 38 = .ok (.iload_n 3, 1) := by decide +kernel
theorem dX12_checkOf_39 : decode cX12_checkOf 39 = .ok (.iaload, 1) := by decide +kernel
theorem dX12_checkOf_40 : decode cX12_checkOf 40 = .ok (.ixor, 1) := by decide +kernel
theorem dX12_checkOf_41 : decode cX12_checkOf 41 = .ok (.istore_n 2, 1) := by decide +kernel
theorem dX12_checkOf_42 : decode cX12_checkOf 42 = .ok (.iconst 0, 1) := by decide +kernel
theorem dX12_checkOf_43 : decode cX12_checkOf 43 = .ok (.istore 4, 2) := by decide +kernel
theorem dX12_checkOf_45 : decode cX12_checkOf 45 = .ok (.iload 4, 2) := by decide +kernel
theorem dX12_checkOf_47 : decode cX12_checkOf 47 = .ok (.bipush 8, 2) := by decide +kernel
theorem dX12_checkOf_49 : decode cX12_checkOf 49 = .ok (.if_icmp .ge 33, 3) := by decide +kernel
theorem dX12_checkOf_52 : decode cX12_checkOf 52 = .ok (.iload_n 2, 1) := by decide +kernel
theorem dX12_checkOf_53 : decode cX12_checkOf 53 = .ok (.sipush 128, 3) := by decide +kernel
theorem dX12_checkOf_56 : decode cX12_checkOf 56 = .ok (.if_icmp .lt 16, 3) := by decide +kernel
theorem dX12_checkOf_59 : decode cX12_checkOf 59 = .ok (.iload_n 2, 1) := by decide +kernel
theorem dX12_checkOf_60 : decode cX12_checkOf 60 = .ok (.iconst 1, 1) := by decide +kernel
theorem dX12_checkOf_61 : decode cX12_checkOf 61 = .ok (.ishl, 1) := by decide +kernel
theorem dX12_checkOf_62 : decode cX12_checkOf 62 = .ok (.sipush 255, 3) := by decide +kernel
theorem dX12_checkOf_65 : decode cX12_checkOf 65 = .ok (.iand, 1) := by decide +kernel
theorem dX12_checkOf_66 : decode cX12_checkOf 66 = .ok (.bipush 7, 2) := by decide +kernel
theorem dX12_checkOf_68 : decode cX12_checkOf 68 = .ok (.ixor, 1) := by decide +kernel
theorem dX12_checkOf_69 : decode cX12_checkOf 69 = .ok (.goto 6, 3) := by decide +kernel
theorem dX12_checkOf_72 : decode cX12_checkOf 72 = .ok (.iload_n 2, 1) := by decide +kernel
theorem dX12_checkOf_73 : decode cX12_checkOf 73 = .ok (.iconst 1, 1) := by decide +kernel
theorem dX12_checkOf_74 : decode cX12_checkOf 74 = .ok (.ishl, 1) := by decide +kernel
theorem dX12_checkOf_75 : decode cX12_checkOf 75 = .ok (.istore_n 2, 1) := by decide +kernel
theorem dX12_checkOf_76 : decode cX12_checkOf 76 = .ok (.iinc 4 1, 3) := by decide +kernel
theorem dX12_checkOf_79 : decode cX12_checkOf 79 = .ok (.goto (-34), 3) := by decide +kernel
theorem dX12_checkOf_82 : decode cX12_checkOf 82 = .ok (.iinc 3 1, 3) := by decide +kernel
theorem dX12_checkOf_85 : decode cX12_checkOf 85 = .ok (.goto (-81), 3) := by decide +kernel
theorem dX12_checkOf_88 : decode cX12_checkOf 88 = .ok (.iload_n 2, 1) := by decide +kernel
theorem dX12_checkOf_89 : decode cX12_checkOf 89 = .ok (.ireturn, 1) := by decide +kernel
theorem dX12_frameIs_0 : decode cX12_frameIs 0 = .ok (.iload_n 1, 1) := by decide +kernel
theorem dX12_frameIs_1 : decode cX12_frameIs 1 = .ok (.ifCond .ne 15, 3) := by decide +kernel
theorem dX12_frameIs_4 : decode cX12_frameIs 4 = .ok (.aload_n 0, 1) := by decide +kernel
theorem dX12_frameIs_5 : decode cX12_frameIs 5 = .ok (.aload_n 0, 1) := by decide +kernel
theorem dX12_frameIs_6 : decode cX12_frameIs 6 = .ok (.getfield 192, 3) := by decide +kernel
theorem dX12_frameIs_9 : decode cX12_frameIs 9 = .ok (.invokevirtual 257, 3) := by decide +kernel
theorem dX12_frameIs_12 : decode cX12_frameIs 12 = .ok (.iconst (-1), 1) := by decide +kernel
theorem dX12_frameIs_13 : decode cX12_frameIs 13 = .ok (.if_icmp .eq 5, 3) := by decide +kernel
theorem dX12_frameIs_16 : decode cX12_frameIs 16 = .ok (.iconst 2, 1) := by decide +kernel
theorem dX12_frameIs_17 : decode cX12_frameIs 17 = .ok (.ireturn, 1) := by decide +kernel
theorem dX12_frameIs_18 : decode cX12_frameIs 18 = .ok (.aload_n 0, 1) := by decide +kernel
theorem dX12_frameIs_19 : decode cX12_frameIs 19 = .ok (.getfield 217, 3) := by decide +kernel
theorem dX12_frameIs_22 : decode cX12_frameIs 22 = .ok (.aload_n 0, 1) := by decide +kernel
theorem dX12_frameIs_23 : decode cX12_frameIs 23 = .ok (.invokevirtual 268, 3) := by decide +kernel
theorem dX12_frameIs_26 : decode cX12_frameIs 26 = .ok (.isub, 1) := by decide +kernel
theorem dX12_frameIs_27 : decode cX12_frameIs 27 = .ok (.istore_n 2, 1) := by decide +kernel
theorem dX12_frameIs_28 : decode cX12_frameIs 28 = .ok (.iload_n 2, 1) := by decide +kernel
theorem dX12_frameIs_29 : decode cX12_frameIs 29 = .ok (.iconst 1, 1) := by decide +kernel
theorem dX12_frameIs_30 : decode cX12_frameIs 30 = .ok (.if_icmp .lt 24, 3) := by decide +kernel
theorem dX12_frameIs_33 : decode cX12_frameIs 33 = .ok (.aload_n 0, 1) := by decide +kernel
theorem dX12_frameIs_34 : decode cX12_frameIs 34 = .ok (.getfield 194, 3) := by decide +kernel
theorem dX12_frameIs_37 : decode cX12_frameIs 37 = .ok (.ifCond .eq 19, 3) := by decide +kernel
theorem dX12_frameIs_40 : decode cX12_frameIs 40 = .ok (.aload_n 0, 1) := by decide +kernel
theorem dX12_frameIs_41 : decode cX12_frameIs 41 = .ok (.iload_n 2, 1) := by decide +kernel
theorem dX12_frameIs_42 : decode cX12_frameIs 42 = .ok (.invokevirtual 271, 3) := by decide +kernel
theorem dX12_frameIs_45 : decode cX12_frameIs 45 = .ok (.aload_n 0, 1) := by decide +kernel
theorem dX12_frameIs_46 : decode cX12_frameIs 46 = .ok (.getfield 29, 3) := by decide +kernel
theorem dX12_frameIs_49 : decode cX12_frameIs 49 = .ok (.iload_n 2, 1) := by decide +kernel
theorem dX12_frameIs_50 : decode cX12_frameIs 50 = .ok (.iaload, 1) := by decide +kernel
theorem dX12_frameIs_51 : decode cX12_frameIs 51 = .ok (.if_icmp .eq 5, 3) := by decide +kernel
theorem dX12_frameIs_54 : decode cX12_frameIs 54 = .ok (.iconst 3, 1) := by decide +kernel
theorem dX12_frameIs_55 : decode cX12_frameIs 55 = .ok (.ireturn, 1) := by decide +kernel
theorem dX12_frameIs_56 : decode cX12_frameIs 56 = .ok (.aload_n 0, 1) := by decide +kernel
theorem dX12_frameIs_57 : decode cX12_frameIs 57 = .ok (.getfield 29, 3) := by decide +kernel
theorem dX12_frameIs_60 : decode cX12_frameIs 60 = .ok (.iconst 0, 1) := by decide +kernel
theorem dX12_frameIs_61 : decode cX12_frameIs 61 = .ok (.iaload, 1) := by decide +kernel
theorem dX12_frameIs_62 : decode cX12_frameIs 62 = .ok (.bipush 64, 2) := by decide +kernel
theorem dX12_frameIs_64 : decode cX12_frameIs 64 = .ok (.idiv, 1) := by decide +kernel
theorem dX12_frameIs_65 : decode cX12_frameIs 65 = .ok (.aload_n 0, 1) := by decide +kernel
theorem dX12_frameIs_66 : decode cX12_frameIs 66 = .ok (.getfield 198, 3) := by decide +kernel
theorem dX12_frameIs_69 : decode cX12_frameIs 69 = .ok (.if_icmp .ge 13, 3) := by decide +kernel
theorem dX12_frameIs_72 : decode cX12_frameIs 72 = .ok (.iload_n 2, 1) := by decide +kernel
theorem dX12_frameIs_73 : decode cX12_frameIs 73 = .ok (.iconst 1, 1) := by decide +kernel
theorem dX12_frameIs_74 : decode cX12_frameIs 74 = .ok (.isub, 1) := by decide +kernel
theorem dX12_frameIs_75 : decode cX12_frameIs 75 = .ok (.aload_n 0, 1) := by decide +kernel
theorem dX12_frameIs_76 : decode cX12_frameIs 76 = .ok (.getfield 196, 3) := by decide +kernel
theorem dX12_frameIs_79 : decode cX12_frameIs 79 = .ok (.if_icmp .le 7, 3) := by decide +kernel
theorem dX12_frameIs_82 : decode cX12_frameIs 82 = .ok (.iconst 4, 1) := by decide +kernel
theorem dX12_frameIs_83 : decode cX12_frameIs 83 = .ok (.goto 4, 3) := by decide +kernel
theorem dX12_frameIs_86 : decode cX12_frameIs 86 = .ok (.iconst 0, 1) := by decide +kernel
theorem dX12_frameIs_87 : decode cX12_frameIs 87 = .ok (.ireturn, 1) := by decide +kernel
theorem dX12_partLong_0 : decode cX12_partLong 0 = .ok (.aload_n 0, 1) := by decide +kernel
theorem dX12_partLong_1 : decode cX12_partLong 1 = .ok (.getfield 217, 3) := by decide +kernel
theorem dX12_partLong_4 : decode cX12_partLong 4 = .ok (.iconst 1, 1) := by decide +kernel
theorem dX12_partLong_5 : decode cX12_partLong 5 = .ok (.isub, 1) := by decide +kernel
theorem dX12_partLong_6 : decode cX12_partLong 6 = .ok (.aload_n 0, 1) := by decide +kernel
theorem dX12_partLong_7 : decode cX12_partLong 7 = .ok (.invokevirtual 268, 3) := by decide +kernel
theorem dX12_partLong_10 : decode cX12_partLong 10 = .ok (.isub, 1) := by decide +kernel
theorem dX12_partLong_11 : decode cX12_partLong 11 = .ok (.ireturn, 1) := by decide +kernel
theorem dX12_keepsRow_0 : decode cX12_keepsRow 0 = .ok (.aload_n 0, 1) := by decide +kernel
theorem dX12_keepsRow_1 : decode cX12_keepsRow 1 = .ok (.getfield 205, 3) := by decide +kernel
theorem dX12_keepsRow_4 : decode cX12_keepsRow 4 = .ok (.bipush 12, 2) := by decide +kernel
theorem dX12_keepsRow_6 : decode cX12_keepsRow 6 = .ok (.if_icmp .ne 45, 3) := by decide +kernel
theorem dX12_keepsRow_9 : decode cX12_keepsRow 9 = .ok (.sipush 9309, 3) := by decide +kernel
theorem dX12_keepsRow_12 : decode cX12_keepsRow 12 = .ok (.istore_n 2, 1) := by decide +kernel
theorem dX12_keepsRow_13 : decode cX12_keepsRow 13 = .ok (.iload_n 2, 1) := by decide +kernel
theorem dX12_keepsRow_14 : decode cX12_keepsRow 14 = .ok (.ldc 38, 2) := by decide +kernel
theorem dX12_keepsRow_16 : decode cX12_keepsRow 16 = .ok (.if_icmp .ge 25, 3) := by decide +kernel
theorem dX12_keepsRow_19 : decode cX12_keepsRow 19 = .ok (.aload_n 0, 1) := by decide +kernel
theorem dX12_keepsRow_20 : decode cX12_keepsRow 20 = .ok (.getfield 39, 3) := by decide +kernel
theorem dX12_keepsRow_23 : decode cX12_keepsRow 23 = .ok (.iload_n 2, 1) := by decide +kernel
theorem dX12_keepsRow_24 : decode cX12_keepsRow 24 = .ok (.sipush 9309, 3) := by decide +kernel
theorem dX12_keepsRow_27 : decode cX12_keepsRow 27 = .ok (.isub, 1) := by decide +kernel
theorem dX12_keepsRow_28 : decode cX12_keepsRow 28 = .ok (.aload_n 0, 1) := by decide +kernel
theorem dX12_keepsRow_29 : decode cX12_keepsRow 29 = .ok (.getfield 39, 3) := by decide +kernel
theorem dX12_keepsRow_32 : decode cX12_keepsRow 32 = .ok (.iload_n 2, 1) := by decide +kernel
theorem dX12_keepsRow_33 : decode cX12_keepsRow 33 = .ok (.iaload, 1) := by decide +kernel
theorem dX12_keepsRow_34 : decode cX12_keepsRow 34 = .ok (.iastore, 1) := by decide +kernel
theorem dX12_keepsRow_35 : decode cX12_keepsRow 35 = .ok (.iinc 2 1, 3) := by decide +kernel
theorem dX12_keepsRow_38 : decode cX12_keepsRow 38 = .ok (.goto (-25), 3) := by decide +kernel
theorem dX12_keepsRow_41 : decode cX12_keepsRow 41 = .ok (.aload_n 0, 1) := by decide +kernel
theorem dX12_keepsRow_42 : decode cX12_keepsRow 42 = .ok (.dup, 1) := by decide +kernel
theorem dX12_keepsRow_43 : decode cX12_keepsRow 43 = .ok (.getfield 205, 3) := by decide +kernel
theorem dX12_keepsRow_46 : decode cX12_keepsRow 46 = .ok (.iconst 1, 1) := by decide +kernel
theorem dX12_keepsRow_47 : decode cX12_keepsRow 47 = .ok (.isub, 1) := by decide +kernel
theorem dX12_keepsRow_48 : decode cX12_keepsRow 48 = .ok (.putfield 205, 3) := by decide +kernel
theorem dX12_keepsRow_51 : decode cX12_keepsRow 51 = .ok (.iconst 0, 1) := by decide +kernel
theorem dX12_keepsRow_52 : decode cX12_keepsRow 52 = .ok (.istore_n 2, 1) := by decide +kernel
theorem dX12_keepsRow_53 : decode cX12_keepsRow 53 = .ok (.iload_n 2, 1) := by decide +kernel
theorem dX12_keepsRow_54 : decode cX12_keepsRow 54 = .ok (.sipush 9309, 3) := by decide +kernel
theorem dX12_keepsRow_57 : decode cX12_keepsRow 57 = .ok (.if_icmp .ge 27, 3) := by decide +kernel
theorem dX12_keepsRow_60 : decode cX12_keepsRow 60 = .ok (.aload_n 0, 1) := by decide +kernel
theorem dX12_keepsRow_61 : decode cX12_keepsRow 61 = .ok (.getfield 39, 3) := by decide +kernel
theorem dX12_keepsRow_64 : decode cX12_keepsRow 64 = .ok (.sipush 9309, 3) := by decide +kernel
theorem dX12_keepsRow_67 : decode cX12_keepsRow 67 = .ok (.aload_n 0, 1) := by decide +kernel
theorem dX12_keepsRow_68 : decode cX12_keepsRow 68 = .ok (.getfield 205, 3) := by decide +kernel
theorem dX12_keepsRow_71 : decode cX12_keepsRow 71 = .ok (.imul, 1) := by decide +kernel
theorem dX12_keepsRow_72 : decode cX12_keepsRow 72 = .ok (.iload_n 2, 1) := by decide +kernel
theorem dX12_keepsRow_73 : decode cX12_keepsRow 73 = .ok (.iadd, 1) := by decide +kernel
theorem dX12_keepsRow_74 : decode cX12_keepsRow 74 = .ok (.aload_n 1, 1) := by decide +kernel
theorem dX12_keepsRow_75 : decode cX12_keepsRow 75 = .ok (.iload_n 2, 1) := by decide +kernel
theorem dX12_keepsRow_76 : decode cX12_keepsRow 76 = .ok (.iaload, 1) := by decide +kernel
theorem dX12_keepsRow_77 : decode cX12_keepsRow 77 = .ok (.iastore, 1) := by decide +kernel
theorem dX12_keepsRow_78 : decode cX12_keepsRow 78 = .ok (.iinc 2 1, 3) := by decide +kernel
theorem dX12_keepsRow_81 : decode cX12_keepsRow 81 = .ok (.goto (-28), 3) := by decide +kernel
theorem dX12_keepsRow_84 : decode cX12_keepsRow 84 = .ok (.aload_n 0, 1) := by decide +kernel
theorem dX12_keepsRow_85 : decode cX12_keepsRow 85 = .ok (.dup, 1) := by decide +kernel
theorem dX12_keepsRow_86 : decode cX12_keepsRow 86 = .ok (.getfield 205, 3) := by decide +kernel
theorem dX12_keepsRow_89 : decode cX12_keepsRow 89 = .ok (.iconst 1, 1) := by decide +kernel
theorem dX12_keepsRow_90 : decode cX12_keepsRow 90 = .ok (.iadd, 1) := by decide +kernel
theorem dX12_keepsRow_91 : decode cX12_keepsRow 91 = .ok (.putfield 205, 3) := by decide +kernel
theorem dX12_keepsRow_94 : decode cX12_keepsRow 94 = .ok (.return_, 1) := by decide +kernel
theorem dX12_keeps_0 : decode cX12_keeps 0 = .ok (.aload_n 0, 1) := by decide +kernel
theorem dX12_keeps_1 : decode cX12_keeps 1 = .ok (.aload_n 0, 1) := by decide +kernel
theorem dX12_keeps_2 : decode cX12_keeps 2 = .ok (.getfield 16, 3) := by decide +kernel
theorem dX12_keeps_5 : decode cX12_keeps 5 = .ok (.invokevirtual 274, 3) := by decide +kernel
theorem dX12_keeps_8 : decode cX12_keeps 8 = .ok (.return_, 1) := by decide +kernel
theorem dX12_putAside_0 : decode cX12_putAside 0 = .ok (.iconst 0, 1) := by decide +kernel
theorem dX12_putAside_1 : decode cX12_putAside 1 = .ok (.istore_n 1, 1) := by decide +kernel
theorem dX12_putAside_2 : decode cX12_putAside 2 = .ok (.iload_n 1, 1) := by decide +kernel
theorem dX12_putAside_3 : decode cX12_putAside 3 = .ok (.sipush 9309, 3) := by decide +kernel
theorem dX12_putAside_6 : decode cX12_putAside 6 = .ok (.if_icmp .ge 21, 3) := by decide +kernel
theorem dX12_putAside_9 : decode cX12_putAside 9 = .ok (.aload_n 0, 1) := by decide +kernel
theorem dX12_putAside_10 : decode cX12_putAside 10 = .ok (.getfield 42, 3) := by decide +kernel
theorem dX12_putAside_13 : decode cX12_putAside 13 = .ok (.iload_n 1, 1) := by decide +kernel
theorem dX12_putAside_14 : decode cX12_putAside 14 = .ok (.aload_n 0, 1) := by decide +kernel
theorem dX12_putAside_15 : decode cX12_putAside 15 = .ok (.getfield 16, 3) := by decide +kernel
theorem dX12_putAside_18 : decode cX12_putAside 18 = .ok (.iload_n 1, 1) := by decide +kernel
theorem dX12_putAside_19 : decode cX12_putAside 19 = .ok (.iaload, 1) := by decide +kernel
theorem dX12_putAside_20 : decode cX12_putAside 20 = .ok (.iastore, 1) := by decide +kernel
theorem dX12_putAside_21 : decode cX12_putAside 21 = .ok (.iinc 1 1, 3) := by decide +kernel
theorem dX12_putAside_24 : decode cX12_putAside 24 = .ok (.goto (-22), 3) := by decide +kernel
theorem dX12_putAside_27 : decode cX12_putAside 27 = .ok (.return_, 1) := by decide +kernel
theorem dX12_takeBack_0 : decode cX12_takeBack 0 = .ok (.iconst 0, 1) := by decide +kernel
theorem dX12_takeBack_1 : decode cX12_takeBack 1 = .ok (.istore_n 1, 1) := by decide +kernel
theorem dX12_takeBack_2 : decode cX12_takeBack 2 = .ok (.iload_n 1, 1) := by decide +kernel
theorem dX12_takeBack_3 : decode cX12_takeBack 3 = .ok (.sipush 9309, 3) := by decide +kernel
theorem dX12_takeBack_6 : decode cX12_takeBack 6 = .ok (.if_icmp .ge 21, 3) := by decide +kernel
theorem dX12_takeBack_9 : decode cX12_takeBack 9 = .ok (.aload_n 0, 1) := by decide +kernel
theorem dX12_takeBack_10 : decode cX12_takeBack 10 = .ok (.getfield 16, 3) := by decide +kernel
theorem dX12_takeBack_13 : decode cX12_takeBack 13 = .ok (.iload_n 1, 1) := by decide +kernel
theorem dX12_takeBack_14 : decode cX12_takeBack 14 = .ok (.aload_n 0, 1) := by decide +kernel
theorem dX12_takeBack_15 : decode cX12_takeBack 15 = .ok (.getfield 42, 3) := by decide +kernel
theorem dX12_takeBack_18 : decode cX12_takeBack 18 = .ok (.iload_n 1, 1) := by decide +kernel
theorem dX12_takeBack_19 : decode cX12_takeBack 19 = .ok (.iaload, 1) := by decide +kernel
theorem dX12_takeBack_20 : decode cX12_takeBack 20 = .ok (.iastore, 1) := by decide +kernel
theorem dX12_takeBack_21 : decode cX12_takeBack 21 = .ok (.iinc 1 1, 3) := by decide +kernel
theorem dX12_takeBack_24 : decode cX12_takeBack 24 = .ok (.goto (-22), 3) := by decide +kernel
theorem dX12_takeBack_27 : decode cX12_takeBack 27 = .ok (.return_, 1) := by decide +kernel
theorem dX12_undo_0 : decode cX12_undo 0 = .ok (.aload_n 0, 1) := by decide +kernel
theorem dX12_undo_1 : decode cX12_undo 1 = .ok (.iconst 0, 1) := by decide +kernel
theorem dX12_undo_2 : decode cX12_undo 2 = .ok (.putfield 60, 3) := by decide +kernel
theorem dX12_undo_5 : decode cX12_undo 5 = .ok (.aload_n 0, 1) := by decide +kernel
theorem dX12_undo_6 : decode cX12_undo 6 = .ok (.getfield 205, 3) := by decide +kernel
theorem dX12_undo_9 : decode cX12_undo 9 = .ok (.ifCond .ne 5, 3) := by decide +kernel
theorem dX12_undo_12 : decode cX12_undo 12 = .ok (.iconst (-1), 1) := by decide +kernel
theorem dX12_undo_13 : decode cX12_undo 13 = .ok (.ireturn, 1) := by decide +kernel
theorem dX12_undo_14 : decode cX12_undo 14 = .ok (.aload_n 0, 1) := by decide +kernel
theorem dX12_undo_15 : decode cX12_undo 15 = .ok (.dup, 1) := by decide +kernel
theorem dX12_undo_16 : decode cX12_undo 16 = .ok (.getfield 205, 3) := by decide +kernel
theorem dX12_undo_19 : decode cX12_undo 19 = .ok (.iconst 1, 1) := by decide +kernel
theorem dX12_undo_20 : decode cX12_undo 20 = .ok (.isub, 1) := by decide +kernel
theorem dX12_undo_21 : decode cX12_undo 21 = .ok (.putfield 205, 3) := by decide +kernel
theorem dX12_undo_24 : decode cX12_undo 24 = .ok (.iconst 0, 1) := by decide +kernel
theorem dX12_undo_25 : decode cX12_undo 25 = .ok (.istore_n 1, 1) := by decide +kernel
theorem dX12_undo_26 : decode cX12_undo 26 = .ok (.iload_n 1, 1) := by decide +kernel
theorem dX12_undo_27 : decode cX12_undo 27 = .ok (.sipush 9309, 3) := by decide +kernel
theorem dX12_undo_30 : decode cX12_undo 30 = .ok (.if_icmp .ge 30, 3) := by decide +kernel
theorem dX12_undo_33 : decode cX12_undo 33 = .ok (.aload_n 0, 1) := by decide +kernel
theorem dX12_undo_34 : decode cX12_undo 34 = .ok (.getfield 16, 3) := by decide +kernel
theorem dX12_undo_37 : decode cX12_undo 37 = .ok (.iload_n 1, 1) := by decide +kernel
theorem dX12_undo_38 : decode cX12_undo 38 = .ok (.aload_n 0, 1) := by decide +kernel
theorem dX12_undo_39 : decode cX12_undo 39 = .ok (.getfield 39, 3) := by decide +kernel
theorem dX12_undo_42 : decode cX12_undo 42 = .ok (.sipush 9309, 3) := by decide +kernel
theorem dX12_undo_45 : decode cX12_undo 45 = .ok (.aload_n 0, 1) := by decide +kernel
theorem dX12_undo_46 : decode cX12_undo 46 = .ok (.getfield 205, 3) := by decide +kernel
theorem dX12_undo_49 : decode cX12_undo 49 = .ok (.imul, 1) := by decide +kernel
theorem dX12_undo_50 : decode cX12_undo 50 = .ok (.iload_n 1, 1) := by decide +kernel
theorem dX12_undo_51 : decode cX12_undo 51 = .ok (.iadd, 1) := by decide +kernel
theorem dX12_undo_52 : decode cX12_undo 52 = .ok (.iaload, 1) := by decide +kernel
theorem dX12_undo_53 : decode cX12_undo 53 = .ok (.iastore, 1) := by decide +kernel
theorem dX12_undo_54 : decode cX12_undo 54 = .ok (.iinc 1 1, 3) := by decide +kernel
theorem dX12_undo_57 : decode cX12_undo 57 = .ok (.goto (-31), 3) := by decide +kernel
theorem dX12_undo_60 : decode cX12_undo 60 = .ok (.aload_n 0, 1) := by decide +kernel
theorem dX12_undo_61 : decode cX12_undo 61 = .ok (.getfield 205, 3) := by decide +kernel
theorem dX12_undo_64 : decode cX12_undo 64 = .ok (.ireturn, 1) := by decide +kernel
theorem dX12_refuses_0 : decode cX12_refuses 0 = .ok (.aload_n 0, 1) := by decide +kernel
theorem dX12_refuses_1 : decode cX12_refuses 1 = .ok (.getfield 45, 3) := by decide +kernel
theorem dX12_refuses_4 : decode cX12_refuses 4 = .ok (.iload_n 1, 1) := by decide +kernel
theorem dX12_refuses_5 : decode cX12_refuses 5 = .ok (.dup2, 1) := by decide +kernel
theorem dX12_refuses_6 : decode cX12_refuses 6 = .ok (.iaload, 1) := by decide +kernel
theorem dX12_refuses_7 : decode cX12_refuses 7 = .ok (.iconst 1, 1) := by decide +kernel
theorem dX12_refuses_8 : decode cX12_refuses 8 = .ok (.iadd, 1) := by decide +kernel
theorem dX12_refuses_9 : decode cX12_refuses 9 = .ok (.iastore, 1) := by decide +kernel
theorem dX12_refuses_10 : decode cX12_refuses 10 = .ok (.iconst (-1), 1) := by decide +kernel
theorem dX12_refuses_11 : decode cX12_refuses 11 = .ok (.ireturn, 1) := by decide +kernel
theorem dX12_status_0 : decode cX12_status 0 = .ok (.aload_n 0, 1) := by decide +kernel
theorem dX12_status_1 : decode cX12_status 1 = .ok (.iconst 0, 1) := by decide +kernel
theorem dX12_status_2 : decode cX12_status 2 = .ok (.putfield 60, 3) := by decide +kernel
theorem dX12_status_5 : decode cX12_status 5 = .ok (.iload_n 1, 1) := by decide +kernel
theorem dX12_status_6 : decode cX12_status 6 = .ok (.i2l, 1) := by decide +kernel
theorem dX12_status_7 : decode cX12_status 7 = .ok (.lconst 0, 1) := by decide +kernel
theorem dX12_status_8 : decode cX12_status 8 = .ok (.ldc2_w 278, 3) := by decide +kernel
theorem dX12_status_11 : decode cX12_status 11 = .ok (.invokestatic 70, 3) := by decide +kernel
theorem dX12_status_14 : decode cX12_status 14 = .ok (.ifCond .eq 12, 3) := by decide +kernel
theorem dX12_status_17 : decode cX12_status 17 = .ok (.aload_n 0, 1) := by decide +kernel
theorem dX12_status_18 : decode cX12_status 18 = .ok (.getfield 45, 3) := by decide +kernel
theorem dX12_status_21 : decode cX12_status 21 = .ok (.iload_n 1, 1) := by decide +kernel
theorem dX12_status_22 : decode cX12_status 22 = .ok (.iaload, 1) := by decide +kernel
theorem dX12_status_23 : decode cX12_status 23 = .ok (.goto 4, 3) := by decide +kernel
theorem dX12_status_26 : decode cX12_status 26 = .ok (.iconst (-1), 1) := by decide +kernel
theorem dX12_status_27 : decode cX12_status 27 = .ok (.ireturn, 1) := by decide +kernel
theorem dX12_isChannel_0 : decode cX12_isChannel 0 = .ok (.aload_n 0, 1) := by decide +kernel
theorem dX12_isChannel_1 : decode cX12_isChannel 1 = .ok (.getfield 188, 3) := by decide +kernel
theorem dX12_isChannel_4 : decode cX12_isChannel 4 = .ok (.ifCond .eq 23, 3) := by decide +kernel
theorem dX12_isChannel_7 : decode cX12_isChannel 7 = .ok (.iload_n 1, 1) := by decide +kernel
theorem dX12_isChannel_8 : decode cX12_isChannel 8 = .ok (.i2l, 1) := by decide +kernel
theorem dX12_isChannel_9 : decode cX12_isChannel 9 = .ok (.lconst 0, 1) := by decide +kernel
theorem dX12_isChannel_10 : decode cX12_isChannel 10 = .ok (.aload_n 0, 1) := by decide +kernel
theorem dX12_isChannel_11 : decode cX12_isChannel 11 = .ok (.getfield 198, 3) := by decide +kernel
theorem dX12_isChannel_14 : decode cX12_isChannel 14 = .ok (.iconst 1, 1) := by decide +kernel
theorem dX12_isChannel_15 : decode cX12_isChannel 15 = .ok (.isub, 1) := by decide +kernel
theorem dX12_isChannel_16 : decode cX12_isChannel 16 = .ok (.i2l, 1) := by decide +kernel
theorem dX12_isChannel_17 : decode cX12_isChannel 17 = .ok (.invokestatic 70, 3) := by decide +kernel
theorem dX12_isChannel_20 : decode cX12_isChannel 20 = .ok (.ifCond .eq 7, 3) := by decide +kernel
theorem dX12_isChannel_23 : decode cX12_isChannel 23 = .ok (.iconst 1, 1) := by decide +kernel
theorem dX12_isChannel_24 : decode cX12_isChannel 24 = .ok (.goto 4, 3) := by decide +kernel
theorem dX12_isChannel_27 : decode cX12_isChannel 27 = .ok (.iconst 0, 1) := by decide +kernel
theorem dX12_isChannel_28 : decode cX12_isChannel 28 = .ok (.ireturn, 1) := by decide +kernel
theorem dX12_waitAt_0 : decode cX12_waitAt 0 = .ok (.bipush 12, 2) := by decide +kernel
theorem dX12_waitAt_2 : decode cX12_waitAt 2 = .ok (.bipush 121, 2) := by decide +kernel
theorem dX12_waitAt_4 : decode cX12_waitAt 4 = .ok (.iload_n 0, 1) := by decide +kernel
theorem dX12_waitAt_5 : decode cX12_waitAt 5 = .ok (.imul, 1) := by decide +kernel
theorem dX12_waitAt_6 : decode cX12_waitAt 6 = .ok (.iadd, 1) := by decide +kernel
theorem dX12_waitAt_7 : decode cX12_waitAt 7 = .ok (.ireturn, 1) := by decide +kernel
theorem dX12_send_0 : decode cX12_send 0 = .ok (.aload_n 0, 1) := by decide +kernel
theorem dX12_send_1 : decode cX12_send 1 = .ok (.iconst 0, 1) := by decide +kernel
theorem dX12_send_2 : decode cX12_send 2 = .ok (.putfield 60, 3) := by decide +kernel
theorem dX12_send_5 : decode cX12_send 5 = .ok (.aload_n 0, 1) := by decide +kernel
theorem dX12_send_6 : decode cX12_send 6 = .ok (.getfield 188, 3) := by decide +kernel
theorem dX12_send_9 : decode cX12_send 9 = .ok (.ifCond .ne 9, 3) := by decide +kernel
theorem dX12_send_12 : decode cX12_send 12 = .ok (.aload_n 0, 1) := by decide +kernel
theorem dX12_send_13 : decode cX12_send 13 = .ok (.iconst 0, 1) := by decide +kernel
theorem dX12_send_14 : decode cX12_send 14 = .ok (.invokevirtual 280, 3) := by decide +kernel
theorem dX12_send_17 : decode cX12_send 17 = .ok (.ireturn, 1) := by decide +kernel
theorem dX12_send_18 : decode cX12_send 18 = .ok (.aload_n 0, 1) := by decide +kernel
theorem dX12_send_19 : decode cX12_send 19 = .ok (.iload_n 1, 1) := by decide +kernel
theorem dX12_send_20 : decode cX12_send 20 = .ok (.invokevirtual 283, 3) := by decide +kernel
theorem dX12_send_23 : decode cX12_send 23 = .ok (.ifCond .ne 9, 3) := by decide +kernel
theorem dX12_send_26 : decode cX12_send 26 = .ok (.aload_n 0, 1) := by decide +kernel
theorem dX12_send_27 : decode cX12_send 27 = .ok (.iconst 1, 1) := by decide +kernel
theorem dX12_send_28 : decode cX12_send 28 = .ok (.invokevirtual 280, 3) := by decide +kernel
theorem dX12_send_31 : decode cX12_send 31 = .ok (.ireturn, 1) := by decide +kernel
theorem dX12_send_32 : decode cX12_send 32 = .ok (.aload_n 0, 1) := by decide +kernel
theorem dX12_send_33 : decode cX12_send 33 = .ok (.getfield 63, 3) := by decide +kernel
theorem dX12_send_36 : decode cX12_send 36 = .ok (.bipush 120, 2) := by decide +kernel
theorem dX12_send_38 : decode cX12_send 38 = .ok (.if_icmp .le 9, 3) := by decide +kernel
theorem dX12_send_41 : decode cX12_send 41 = .ok (.aload_n 0, 1) := by decide +kernel
theorem dX12_send_42 : decode cX12_send 42 = .ok (.iconst 2, 1) := by decide +kernel
theorem dX12_send_43 : decode cX12_send 43 = .ok (.invokevirtual 280, 3) := by decide +kernel
theorem dX12_send_46 : decode cX12_send 46 = .ok (.ireturn, 1) := by decide +kernel
theorem dX12_send_47 : decode cX12_send 47 = .ok (.aload_n 0, 1) := by decide +kernel
theorem dX12_send_48 : decode cX12_send 48 = .ok (.iload_n 1, 1) := by decide +kernel
theorem dX12_send_49 : decode cX12_send 49 = .ok (.iconst 1, 1) := by decide +kernel
theorem dX12_send_50 : decode cX12_send 50 = .ok (.invokevirtual 286, 3) := by decide +kernel
theorem dX12_send_53 : decode cX12_send 53 = .ok (.bipush 8, 2) := by decide +kernel
theorem dX12_send_55 : decode cX12_send 55 = .ok (.if_icmp .ne 9, 3) := by decide +kernel
theorem dX12_send_58 : decode cX12_send 58 = .ok (.aload_n 0, 1) := by decide +kernel
theorem dX12_send_59 : decode cX12_send 59 = .ok (.iconst 3, 1) := by decide +kernel
theorem dX12_send_60 : decode cX12_send 60 = .ok (.invokevirtual 280, 3) := by decide +kernel
theorem dX12_send_63 : decode cX12_send 63 = .ok (.ireturn, 1) := by decide +kernel
theorem dX12_send_64 : decode cX12_send 64 = .ok (.aload_n 0, 1) := by decide +kernel
theorem dX12_send_65 : decode cX12_send 65 = .ok (.invokevirtual 289, 3) := by decide +kernel
theorem dX12_send_68 : decode cX12_send 68 = .ok (.aload_n 0, 1) := by decide +kernel
theorem dX12_send_69 : decode cX12_send 69 = .ok (.iload_n 1, 1) := by decide +kernel
theorem dX12_send_70 : decode cX12_send 70 = .ok (.iconst 1, 1) := by decide +kernel
theorem dX12_send_71 : decode cX12_send 71 = .ok (.invokevirtual 286, 3) := by decide +kernel
theorem dX12_send_74 : decode cX12_send 74 = .ok (.invokestatic 292, 3) := by decide +kernel
theorem dX12_send_77 : decode cX12_send 77 = .ok (.istore_n 2, 1) := by decide +kernel
theorem dX12_send_78 : decode cX12_send 78 = .ok (.aload_n 0, 1) := by decide +kernel
theorem dX12_send_79 : decode cX12_send 79 = .ok (.iload_n 1, 1) := by decide +kernel
theorem dX12_send_80 : decode cX12_send 80 = .ok (.iload_n 2, 1) := by decide +kernel
theorem dX12_send_81 : decode cX12_send 81 = .ok (.aload_n 0, 1) := by decide +kernel
theorem dX12_send_82 : decode cX12_send 82 = .ok (.getfield 63, 3) := by decide +kernel
theorem dX12_send_85 : decode cX12_send 85 = .ok (.invokevirtual 201, 3) := by decide +kernel
theorem dX12_send_88 : decode cX12_send 88 = .ok (.iconst 0, 1) := by decide +kernel
theorem dX12_send_89 : decode cX12_send 89 = .ok (.istore_n 3, 1) := by decide +kernel
theorem dX12_send_90 : decode cX12_send 90 = .ok (.iload_n 3, 1) := by decide +kernel
theorem dX12_send_91 : decode cX12_send 91 = .ok (.aload_n 0, 1) := by decide +kernel
theorem dX12_send_92 : decode cX12_send 92 = .ok (.getfield 63, 3) := by decide +kernel
theorem dX12_send_95 : decode cX12_send 95 = .ok (.if_icmp .ge 25, 3) := by decide +kernel
theorem dX12_send_98 : decode cX12_send 98 = .ok (.aload_n 0, 1) := by decide +kernel
theorem dX12_send_99 : decode cX12_send 99 = .ok (.iload_n 1, 1) := by decide +kernel
theorem dX12_send_100 : decode cX12_send 100 = .ok (.iload_n 2, 1) := by decide +kernel
theorem dX12_send_101 : decode cX12_send 101 = .ok (.iconst 1, 1) := by decide +kernel
theorem dX12_send_102 : decode cX12_send 102 = .ok (.iadd, 1) := by decide +kernel
theorem dX12_send_103 : decode cX12_send 103 = .ok (.iload_n 3, 1) := by decide +kernel
theorem dX12_send_104 : decode cX12_send 104 = .ok (.iadd, 1) := by decide +kernel
theorem dX12_send_105 : decode cX12_send 105 = .ok (.aload_n 0, 1) := by decide +kernel
theorem dX12_send_106 : decode cX12_send 106 = .ok (.getfield 9, 3) := by decide +kernel
theorem dX12_send_109 : decode cX12_send 109 = .ok (.iload_n 3, 1) := by decide +kernel
theorem dX12_send_110 : decode cX12_send 110 = .ok (.iaload, 1) := by decide +kernel
theorem dX12_send_111 : decode cX12_send 111 = .ok (.invokevirtual 201, 3) := by decide +kernel
theorem dX12_send_114 : decode cX12_send 114 = .ok (.iinc 3 1, 3) := by decide +kernel
theorem dX12_send_117 : decode cX12_send 117 = .ok (.goto (-27), 3) := by decide +kernel
theorem dX12_send_120 : decode cX12_send 120 = .ok (.aload_n 0, 1) := by decide +kernel
theorem dX12_send_121 : decode cX12_send 121 = .ok (.iload_n 1, 1) := by decide +kernel
theorem dX12_send_122 : decode cX12_send 122 = .ok (.iconst 1, 1) := by decide +kernel
theorem dX12_send_123 : decode cX12_send 123 = .ok (.iconst 1, 1) := by decide +kernel
theorem dX12_send_124 : decode cX12_send 124 = .ok (.invokevirtual 295, 3) := by decide +kernel
theorem dX12_send_127 : decode cX12_send 127 = .ok (.aload_n 0, 1) := by decide +kernel
theorem dX12_send_128 : decode cX12_send 128 = .ok (.iconst 0, 1) := by decide +kernel
theorem dX12_send_129 : decode cX12_send 129 = .ok (.putfield 63, 3) := by decide +kernel
theorem dX12_send_132 : decode cX12_send 132 = .ok (.aload_n 0, 1) := by decide +kernel
theorem dX12_send_133 : decode cX12_send 133 = .ok (.iload_n 1, 1) := by decide +kernel
theorem dX12_send_134 : decode cX12_send 134 = .ok (.iconst 1, 1) := by decide +kernel
theorem dX12_send_135 : decode cX12_send 135 = .ok (.invokevirtual 286, 3) := by decide +kernel
theorem dX12_send_138 : decode cX12_send 138 = .ok (.ireturn, 1) := by decide +kernel
theorem dX12_pick_0 : decode cX12_pick 0 = .ok (.iconst (-1), 1) := by decide +kernel
theorem dX12_pick_1 : decode cX12_pick 1 = .ok (.istore_n 1, 1) := by decide +kernel
theorem dX12_pick_2 : decode cX12_pick 2 = .ok (.iconst 1, 1) := by decide +kernel
theorem dX12_pick_3 : decode cX12_pick 3 = .ok (.istore_n 2, 1) := by decide +kernel
theorem dX12_pick_4 : decode cX12_pick 4 = .ok (.iload_n 2, 1) := by decide +kernel
theorem dX12_pick_5 : decode cX12_pick 5 = .ok (.aload_n 0, 1) := by decide +kernel
theorem dX12_pick_6 : decode cX12_pick 6 = .ok (.getfield 198, 3) := by decide +kernel
theorem dX12_pick_9 : decode cX12_pick 9 = .ok (.if_icmp .gt 70, 3) := by decide +kernel
theorem dX12_pick_12 : decode cX12_pick 12 = .ok (.aload_n 0, 1) := by decide +kernel
theorem dX12_pick_13 : decode cX12_pick 13 = .ok (.getfield 16, 3) := by decide +kernel
theorem dX12_pick_16 : decode cX12_pick 16 = .ok (.sipush 803, 3) := by decide +kernel
theorem dX12_pick_19 : decode cX12_pick 19 = .ok (.iaload, 1) := by decide +kernel
theorem dX12_pick_20 : decode cX12_pick 20 = .ok (.iload_n 2, 1) := by decide +kernel
theorem dX12_pick_21 : decode cX12_pick 21 = .ok (.iadd, 1) := by decide +kernel
theorem dX12_pick_22 : decode cX12_pick 22 = .ok (.aload_n 0, 1) := by decide +kernel
theorem dX12_pick_23 : decode cX12_pick 23 = .ok (.getfield 198, 3) := by decide +kernel
theorem dX12_pick_26 : decode cX12_pick 26 = .ok (.iadd, 1) := by decide +kernel
theorem dX12_pick_27 : decode cX12_pick 27 = .ok (.aload_n 0, 1) := by decide +kernel
theorem dX12_pick_28 : decode cX12_pick 28 = .ok (.getfield 198, 3) := by decide +kernel
theorem dX12_pick_31 : decode cX12_pick 31 = .ok (.irem, 1) := by decide +kernel
theorem dX12_pick_32 : decode cX12_pick 32 = .ok (.istore_n 3, 1) := by decide +kernel
theorem dX12_pick_33 : decode cX12_pick 33 = .ok (.aload_n 0, 1) := by decide +kernel
theorem dX12_pick_34 : decode cX12_pick 34 = .ok (.iload_n 3, 1) := by decide +kernel
theorem dX12_pick_35 : decode cX12_pick 35 = .ok (.iconst 1, 1) := by decide +kernel
theorem dX12_pick_36 : decode cX12_pick 36 = .ok (.invokevirtual 286, 3) := by decide +kernel
theorem dX12_pick_39 : decode cX12_pick 39 = .ok (.ifCond .le 34, 3) := by decide +kernel
theorem dX12_pick_42 : decode cX12_pick 42 = .ok (.aload_n 0, 1) := by decide +kernel
theorem dX12_pick_43 : decode cX12_pick 43 = .ok (.iload_n 3, 1) := by decide +kernel
theorem dX12_pick_44 : decode cX12_pick 44 = .ok (.iconst 0, 1) := by decide +kernel
theorem dX12_pick_45 : decode cX12_pick 45 = .ok (.invokevirtual 286, 3) := by decide +kernel
theorem dX12_pick_48 : decode cX12_pick 48 = .ok (.ifCond .le 25, 3) := by decide +kernel
theorem dX12_pick_51 : decode cX12_pick 51 = .ok (.iload_n 1, 1) := by decide +kernel
theorem dX12_pick_52 : decode cX12_pick 52 = .ok (.iconst (-1), 1) := by decide +kernel
theorem dX12_pick_53 : decode cX12_pick 53 = .ok (.if_icmp .eq 18, 3) := by decide +kernel
theorem dX12_pick_56 : decode cX12_pick 56 = .ok (.aload_n 0, 1) := by decide +kernel
theorem dX12_pick_57 : decode cX12_pick 57 = .ok (.iload_n 3, 1) := by decide +kernel
theorem dX12_pick_58 : decode cX12_pick 58 = .ok (.iconst 0, 1) := by decide +kernel
theorem dX12_pick_59 : decode cX12_pick 59 = .ok (.invokevirtual 286, 3) := by decide +kernel
theorem dX12_pick_62 : decode cX12_pick 62 = .ok (.aload_n 0, 1) := by decide +kernel
theorem dX12_pick_63 : decode cX12_pick 63 = .ok (.iload_n 1, 1) := by decide +kernel
theorem dX12_pick_64 : decode cX12_pick 64 = .ok (.iconst 0, 1) := by decide +kernel
theorem dX12_pick_65 : decode cX12_pick 65 = .ok (.invokevirtual 286, 3) := by decide +kernel
theorem dX12_pick_68 : decode cX12_pick 68 = .ok (.if_icmp .le 5, 3) := by decide +kernel
theorem dX12_pick_71 : decode cX12_pick 71 = .ok (.iload_n 3, 1) := by decide +kernel
theorem dX12_pick_72 : decode cX12_pick 72 = .ok (.istore_n 1, 1) := by decide +kernel
theorem dX12_pick_73 : decode cX12_pick 73 = .ok (.iinc 2 1, 3) := by decide +kernel
theorem dX12_pick_76 : decode cX12_pick 76 = .ok (.goto (-72), 3) := by decide +kernel
theorem dX12_pick_79 : decode cX12_pick 79 = .ok (.iload_n 1, 1) := by decide +kernel
theorem dX12_pick_80 : decode cX12_pick 80 = .ok (.ireturn, 1) := by decide +kernel
theorem dX12_laysFrame_0 : decode cX12_laysFrame 0 = .ok (.aload_n 0, 1) := by decide +kernel
theorem dX12_laysFrame_1 : decode cX12_laysFrame 1 = .ok (.iload_n 1, 1) := by decide +kernel
theorem dX12_laysFrame_2 : decode cX12_laysFrame 2 = .ok (.iconst 0, 1) := by decide +kernel
theorem dX12_laysFrame_3 : decode cX12_laysFrame 3 = .ok (.invokestatic 292, 3) := by decide +kernel
theorem dX12_laysFrame_6 : decode cX12_laysFrame 6 = .ok (.invokevirtual 286, 3) := by decide +kernel
theorem dX12_laysFrame_9 : decode cX12_laysFrame 9 = .ok (.istore_n 2, 1) := by decide +kernel
theorem dX12_laysFrame_10 : decode cX12_laysFrame 10 = .ok (.aload_n 0, 1) := by decide +kernel
theorem dX12_laysFrame_11 : decode cX12_laysFrame 11 = .ok (.iload_n 1, 1) := by decide +kernel
theorem dX12_laysFrame_12 : decode cX12_laysFrame 12 = .ok (.iconst 2, 1) := by decide +kernel
theorem dX12_laysFrame_13 : decode cX12_laysFrame 13 = .ok (.invokevirtual 286, 3) := by decide +kernel
theorem dX12_laysFrame_16 : decode cX12_laysFrame 16 = .ok (.istore_n 3, 1) := by decide +kernel
theorem dX12_laysFrame_17 : decode cX12_laysFrame 17 = .ok (.aload_n 0, 1) := by decide +kernel
theorem dX12_laysFrame_18 : decode cX12_laysFrame 18 = .ok (.getfield 196, 3) := by decide +kernel
theorem dX12_laysFrame_21 : decode cX12_laysFrame 21 = .ok (.iload_n 2, 1) := by decide +kernel
theorem dX12_laysFrame_22 : decode cX12_laysFrame 22 = .ok (.iload_n 3, 1) := by decide +kernel
theorem dX12_laysFrame_23 : decode cX12_laysFrame 23 = .ok (.isub, 1) := by decide +kernel
theorem dX12_laysFrame_24 : decode cX12_laysFrame 24 = .ok (.invokestatic 97, 3) := by decide +kernel
theorem dX12_laysFrame_27 : decode cX12_laysFrame 27 = .ok (.istore 4, 2) := by decide +kernel
theorem dX12_laysFrame_29 : decode cX12_laysFrame 29 = .ok (.aload_n 0, 1) := by decide +kernel
theorem dX12_laysFrame_30 : decode cX12_laysFrame 30 = .ok (.iconst 0, 1) := by decide +kernel
theorem dX12_laysFrame_31 : decode cX12_laysFrame 31 = .ok (.putfield 217, 3) := by decide +kernel
theorem dX12_laysFrame_34 : decode cX12_laysFrame 34 = .ok (.aload_n 0, 1) := by decide +kernel
theorem dX12_laysFrame_35 : decode cX12_laysFrame 35 = .ok (.bipush 64, 2) := by decide +kernel
theorem dX12_laysFrame_37 : decode cX12_laysFrame 37 = .ok (.iload_n 1, 1) := by decide +kernel
theorem dX12_laysFrame_38 : decode cX12_laysFrame 38 = .ok (.imul, 1) := by decide +kernel
theorem dX12_laysFrame_39 : decode cX12_laysFrame 39 = .ok (.iload_n 3, 1) := by decide +kernel
theorem dX12_laysFrame_40 : decode cX12_laysFrame 40 = .ok (.ifCond .ne 8, 3) := by decide +kernel
theorem dX12_laysFrame_43 : decode cX12_laysFrame 43 = .ok (.bipush 32, 2) := by decide +kernel
theorem dX12_laysFrame_45 : decode cX12_laysFrame 45 = .ok (.goto 4, 3) := by decide +kernel
theorem dX12_laysFrame_48 : decode cX12_laysFrame 48 = .ok (.iconst 0, 1) := by decide +kernel
theorem dX12_laysFrame_49 : decode cX12_laysFrame 49 = .ok (.iadd, 1) := by decide +kernel
theorem dX12_laysFrame_50 : decode cX12_laysFrame 50 = .ok (.iload_n 3, 1) := by decide +kernel
theorem dX12_laysFrame_51 : decode cX12_laysFrame 51 = .ok (.iload 4, 2) := by decide +kernel
theorem dX12_laysFrame_53 : decode cX12_laysFrame 53 = .ok (.iadd, 1) := by decide +kernel
theorem dX12_laysFrame_54 : decode cX12_laysFrame 54 = .ok (.iload_n 2, 1) := by decide +kernel
theorem dX12_laysFrame_55 : decode cX12_laysFrame 55 = .ok (.if_icmp .ne 8, 3) := by decide +kernel
theorem dX12_laysFrame_58 : decode cX12_laysFrame 58 = .ok (.bipush 16, 2) := by decide +kernel
theorem dX12_laysFrame_60 : decode cX12_laysFrame 60 = .ok (.goto 4, 3) := by decide +kernel
theorem dX12_laysFrame_63 : decode cX12_laysFrame 63 = .ok (.iconst 0, 1) := by decide +kernel
theorem dX12_laysFrame_64 : decode cX12_laysFrame 64 = .ok (.iadd, 1) := by decide +kernel
theorem dX12_laysFrame_65 : decode cX12_laysFrame 65 = .ok (.aload_n 0, 1) := by decide +kernel
theorem dX12_laysFrame_66 : decode cX12_laysFrame 66 = .ok (.iload_n 1, 1) := by decide +kernel
theorem dX12_laysFrame_67 : decode cX12_laysFrame 67 = .ok (.iconst 3, 1) := by decide +kernel
theorem dX12_laysFrame_68 : decode cX12_laysFrame 68 = .ok (.invokevirtual 286, 3) := by decide +kernel
theorem dX12_laysFrame_71 : decode cX12_laysFrame 71 = .ok (.iadd, 1) := by decide +kernel
theorem dX12_laysFrame_72 : decode cX12_laysFrame 72 = .ok (.invokevirtual 236, 3) := by decide +kernel
theorem dX12_laysFrame_75 : decode cX12_laysFrame 75 = .ok (.iconst 0, 1) := by decide +kernel
theorem dX12_laysFrame_76 : decode cX12_laysFrame 76 = .ok (.istore 5, 2) := by decide +kernel
theorem dX12_laysFrame_78 : decode cX12_laysFrame 78 = .ok (.iload 5, 2) := by decide +kernel
theorem dX12_laysFrame_80 : decode cX12_laysFrame 80 = .ok (.iload 4, 2) := by decide +kernel
theorem dX12_laysFrame_82 : decode cX12_laysFrame 82 = .ok (.if_icmp .ge 29, 3) := by decide +kernel
theorem dX12_laysFrame_85 : decode cX12_laysFrame 85 = .ok (.aload_n 0, 1) := by decide +kernel
theorem dX12_laysFrame_86 : decode cX12_laysFrame 86 = .ok (.aload_n 0, 1) := by decide +kernel
theorem dX12_laysFrame_87 : decode cX12_laysFrame 87 = .ok (.iload_n 1, 1) := by decide +kernel
theorem dX12_laysFrame_88 : decode cX12_laysFrame 88 = .ok (.iconst 0, 1) := by decide +kernel
theorem dX12_laysFrame_89 : decode cX12_laysFrame 89 = .ok (.invokestatic 292, 3) := by decide +kernel
theorem dX12_laysFrame_92 : decode cX12_laysFrame 92 = .ok (.iconst 1, 1) := by decide +kernel
theorem dX12_laysFrame_93 : decode cX12_laysFrame 93 = .ok (.iadd, 1) := by decide +kernel
theorem dX12_laysFrame_94 : decode cX12_laysFrame 94 = .ok (.iload_n 3, 1) := by decide +kernel
theorem dX12_laysFrame_95 : decode cX12_laysFrame 95 = .ok (.iadd, 1) := by decide +kernel
theorem dX12_laysFrame_96 : decode cX12_laysFrame 96 = .ok (.iload 5, 2) := by decide +kernel
theorem dX12_laysFrame_98 : decode cX12_laysFrame 98 = .ok (.iadd, 1) := by decide +kernel
theorem dX12_laysFrame_99 : decode cX12_laysFrame 99 = .ok (.invokevirtual 286, 3) := by decide +kernel
theorem dX12_laysFrame_102 : decode cX12_laysFrame 102 = .ok (.invokevirtual 236, 3) := by decide +kernel
theorem dX12_laysFrame_105 : decode cX12_laysFrame 105 = .ok (.iinc 5 1, 3) := by decide +kernel
theorem dX12_laysFrame_108 : decode cX12_laysFrame 108 = .ok (.goto (-30), 3) := by decide +kernel
theorem dX12_laysFrame_111 : decode cX12_laysFrame 111 = .ok (.aload_n 0, 1) := by decide +kernel
theorem dX12_laysFrame_112 : decode cX12_laysFrame 112 = .ok (.getfield 194, 3) := by decide +kernel
theorem dX12_laysFrame_115 : decode cX12_laysFrame 115 = .ok (.ifCond .eq 15, 3) := by decide +kernel
theorem dX12_laysFrame_118 : decode cX12_laysFrame 118 = .ok (.aload_n 0, 1) := by decide +kernel
theorem dX12_laysFrame_119 : decode cX12_laysFrame 119 = .ok (.aload_n 0, 1) := by decide +kernel
theorem dX12_laysFrame_120 : decode cX12_laysFrame 120 = .ok (.aload_n 0, 1) := by decide +kernel
theorem dX12_laysFrame_121 : decode cX12_laysFrame 121 = .ok (.getfield 217, 3) := by decide +kernel
theorem dX12_laysFrame_124 : decode cX12_laysFrame 124 = .ok (.invokevirtual 271, 3) := by decide +kernel
theorem dX12_laysFrame_127 : decode cX12_laysFrame 127 = .ok (.invokevirtual 236, 3) := by decide +kernel
theorem dX12_laysFrame_130 : decode cX12_laysFrame 130 = .ok (.aload_n 0, 1) := by decide +kernel
theorem dX12_laysFrame_131 : decode cX12_laysFrame 131 = .ok (.aload_n 0, 1) := by decide +kernel
theorem dX12_laysFrame_132 : decode cX12_laysFrame 132 = .ok (.getfield 192, 3) := by decide +kernel
theorem dX12_laysFrame_135 : decode cX12_laysFrame 135 = .ok (.invokevirtual 251, 3) := by decide +kernel
theorem dX12_laysFrame_138 : decode cX12_laysFrame 138 = .ok (.iload 4, 2) := by decide +kernel
theorem dX12_laysFrame_140 : decode cX12_laysFrame 140 = .ok (.ireturn, 1) := by decide +kernel
theorem dX12_shiftsWaiting_0 : decode cX12_shiftsWaiting 0 = .ok (.iconst 1, 1) := by decide +kernel
theorem dX12_shiftsWaiting_1 : decode cX12_shiftsWaiting 1 = .ok (.invokestatic 292, 3) := by decide +kernel
theorem dX12_shiftsWaiting_4 : decode cX12_shiftsWaiting 4 = .ok (.istore_n 2, 1) := by decide +kernel
theorem dX12_shiftsWaiting_5 : decode cX12_shiftsWaiting 5 = .ok (.iload_n 2, 1) := by decide +kernel
theorem dX12_shiftsWaiting_6 : decode cX12_shiftsWaiting 6 = .ok (.bipush 8, 2) := by decide +kernel
theorem dX12_shiftsWaiting_8 : decode cX12_shiftsWaiting 8 = .ok (.invokestatic 292, 3) := by decide +kernel
theorem dX12_shiftsWaiting_11 : decode cX12_shiftsWaiting 11 = .ok (.if_icmp .ge 26, 3) := by decide +kernel
theorem dX12_shiftsWaiting_14 : decode cX12_shiftsWaiting 14 = .ok (.aload_n 0, 1) := by decide +kernel
theorem dX12_shiftsWaiting_15 : decode cX12_shiftsWaiting 15 = .ok (.iload_n 1, 1) := by decide +kernel
theorem dX12_shiftsWaiting_16 : decode cX12_shiftsWaiting 16 = .ok (.iload_n 2, 1) := by decide +kernel
theorem dX12_shiftsWaiting_17 : decode cX12_shiftsWaiting 17 = .ok (.bipush 120, 2) := by decide +kernel
theorem dX12_shiftsWaiting_19 : decode cX12_shiftsWaiting 19 = .ok (.isub, 1) := by decide +kernel
theorem dX12_shiftsWaiting_20 : decode cX12_shiftsWaiting 20 = .ok (.iconst 1, 1) := by decide +kernel
theorem dX12_shiftsWaiting_21 : decode cX12_shiftsWaiting 21 = .ok (.isub, 1) := by decide +kernel
theorem dX12_shiftsWaiting_22 : decode cX12_shiftsWaiting 22 = .ok (.aload_n 0, 1) := by decide +kernel
theorem dX12_shiftsWaiting_23 : decode cX12_shiftsWaiting 23 = .ok (.iload_n 1, 1) := by decide +kernel
theorem dX12_shiftsWaiting_24 : decode cX12_shiftsWaiting 24 = .ok (.iload_n 2, 1) := by decide +kernel
theorem dX12_shiftsWaiting_25 : decode cX12_shiftsWaiting 25 = .ok (.invokevirtual 286, 3) := by decide +kernel
theorem dX12_shiftsWaiting_28 : decode cX12_shiftsWaiting 28 = .ok (.invokevirtual 201, 3) := by decide +kernel
theorem dX12_shiftsWaiting_31 : decode cX12_shiftsWaiting 31 = .ok (.iinc 2 1, 3) := by decide +kernel
theorem dX12_shiftsWaiting_34 : decode cX12_shiftsWaiting 34 = .ok (.goto (-29), 3) := by decide +kernel
theorem dX12_shiftsWaiting_37 : decode cX12_shiftsWaiting 37 = .ok (.aload_n 0, 1) := by decide +kernel
theorem dX12_shiftsWaiting_38 : decode cX12_shiftsWaiting 38 = .ok (.iload_n 1, 1) := by decide +kernel
theorem dX12_shiftsWaiting_39 : decode cX12_shiftsWaiting 39 = .ok (.iconst 1, 1) := by decide +kernel
theorem dX12_shiftsWaiting_40 : decode cX12_shiftsWaiting 40 = .ok (.iconst (-1), 1) := by decide +kernel
theorem dX12_shiftsWaiting_41 : decode cX12_shiftsWaiting 41 = .ok (.invokevirtual 295, 3) := by decide +kernel
theorem dX12_shiftsWaiting_44 : decode cX12_shiftsWaiting 44 = .ok (.aload_n 0, 1) := by decide +kernel
theorem dX12_shiftsWaiting_45 : decode cX12_shiftsWaiting 45 = .ok (.iload_n 1, 1) := by decide +kernel
theorem dX12_shiftsWaiting_46 : decode cX12_shiftsWaiting 46 = .ok (.iconst 2, 1) := by decide +kernel
theorem dX12_shiftsWaiting_47 : decode cX12_shiftsWaiting 47 = .ok (.iconst 0, 1) := by decide +kernel
theorem dX12_shiftsWaiting_48 : decode cX12_shiftsWaiting 48 = .ok (.invokevirtual 201, 3) := by decide +kernel
theorem dX12_shiftsWaiting_51 : decode cX12_shiftsWaiting 51 = .ok (.return_, 1) := by decide +kernel
theorem dX12_putsOne_0 : decode cX12_putsOne 0 = .ok (.aload_n 0, 1) := by decide +kernel
theorem dX12_putsOne_1 : decode cX12_putsOne 1 = .ok (.invokevirtual 298, 3) := by decide +kernel
theorem dX12_putsOne_4 : decode cX12_putsOne 4 = .ok (.istore_n 1, 1) := by decide +kernel
theorem dX12_putsOne_5 : decode cX12_putsOne 5 = .ok (.iload_n 1, 1) := by decide +kernel
theorem dX12_putsOne_6 : decode cX12_putsOne 6 = .ok (.iconst (-1), 1) := by decide +kernel
theorem dX12_putsOne_7 : decode cX12_putsOne 7 = .ok (.if_icmp .ne 5, 3) := by decide +kernel
theorem dX12_putsOne_10 : decode cX12_putsOne 10 = .ok (.iconst 0, 1) := by decide +kernel
theorem dX12_putsOne_11 : decode cX12_putsOne 11 = .ok (.ireturn, 1) := by decide +kernel
theorem dX12_putsOne_12 : decode cX12_putsOne 12 = .ok (.aload_n 0, 1) := by decide +kernel
theorem dX12_putsOne_13 : decode cX12_putsOne 13 = .ok (.iload_n 1, 1) := by decide +kernel
theorem dX12_putsOne_14 : decode cX12_putsOne 14 = .ok (.invokevirtual 301, 3) := by decide +kernel
theorem dX12_putsOne_17 : decode cX12_putsOne 17 = .ok (.istore_n 2, 1) := by decide +kernel
theorem dX12_putsOne_18 : decode cX12_putsOne 18 = .ok (.aload_n 0, 1) := by decide +kernel
theorem dX12_putsOne_19 : decode cX12_putsOne 19 = .ok (.getfield 16, 3) := by decide +kernel
theorem dX12_putsOne_22 : decode cX12_putsOne 22 = .ok (.iconst 0, 1) := by decide +kernel
theorem dX12_putsOne_23 : decode cX12_putsOne 23 = .ok (.iaload, 1) := by decide +kernel
theorem dX12_putsOne_24 : decode cX12_putsOne 24 = .ok (.aload_n 0, 1) := by decide +kernel
theorem dX12_putsOne_25 : decode cX12_putsOne 25 = .ok (.getfield 214, 3) := by decide +kernel
theorem dX12_putsOne_28 : decode cX12_putsOne 28 = .ok (.iadd, 1) := by decide +kernel
theorem dX12_putsOne_29 : decode cX12_putsOne 29 = .ok (.iconst 1, 1) := by decide +kernel
theorem dX12_putsOne_30 : decode cX12_putsOne 30 = .ok (.iadd, 1) := by decide +kernel
theorem dX12_putsOne_31 : decode cX12_putsOne 31 = .ok (.sipush 600, 3) := by decide +kernel
theorem dX12_putsOne_34 : decode cX12_putsOne 34 = .ok (.if_icmp .le 5, 3) := by decide +kernel
theorem dX12_putsOne_37 : decode cX12_putsOne 37 = .ok (.iconst 0, 1) := by decide +kernel
theorem dX12_putsOne_38 : decode cX12_putsOne 38 = .ok (.ireturn, 1) := by decide +kernel
theorem dX12_putsOne_39 : decode cX12_putsOne 39 = .ok (.iconst 0, 1) := by decide +kernel
theorem dX12_putsOne_40 : decode cX12_putsOne 40 = .ok (.istore_n 3, 1) := by decide +kernel
theorem dX12_putsOne_41 : decode cX12_putsOne 41 = .ok (.iload_n 3, 1) := by decide +kernel
theorem dX12_putsOne_42 : decode cX12_putsOne 42 = .ok (.aload_n 0, 1) := by decide +kernel
theorem dX12_putsOne_43 : decode cX12_putsOne 43 = .ok (.getfield 214, 3) := by decide +kernel
theorem dX12_putsOne_46 : decode cX12_putsOne 46 = .ok (.if_icmp .ge 30, 3) := by decide +kernel
theorem dX12_putsOne_49 : decode cX12_putsOne 49 = .ok (.aload_n 0, 1) := by decide +kernel
theorem dX12_putsOne_50 : decode cX12_putsOne 50 = .ok (.getfield 16, 3) := by decide +kernel
theorem dX12_putsOne_53 : decode cX12_putsOne 53 = .ok (.iconst 1, 1) := by decide +kernel
theorem dX12_putsOne_54 : decode cX12_putsOne 54 = .ok (.aload_n 0, 1) := by decide +kernel
theorem dX12_putsOne_55 : decode cX12_putsOne 55 = .ok (.getfield 16, 3) := by decide +kernel
theorem dX12_putsOne_58 : decode cX12_putsOne 58 = .ok (.iconst 0, 1) := by decide +kernel
theorem dX12_putsOne_59 : decode cX12_putsOne 59 = .ok (.iaload, 1) := by decide +kernel
theorem dX12_putsOne_60 : decode cX12_putsOne 60 = .ok (.iadd, 1) := by decide +kernel
theorem dX12_putsOne_61 : decode cX12_putsOne 61 = .ok (.iload_n 3, 1) := by decide +kernel
theorem dX12_putsOne_62 : decode cX12_putsOne 62 = .ok (.iadd, 1) := by decide +kernel
theorem dX12_putsOne_63 : decode cX12_putsOne 63 = .ok (.aload_n 0, 1) := by decide +kernel
theorem dX12_putsOne_64 : decode cX12_putsOne 64 = .ok (.getfield 32, 3) := by decide +kernel
theorem dX12_putsOne_67 : decode cX12_putsOne 67 = .ok (.iload_n 3, 1) := by decide +kernel
theorem dX12_putsOne_68 : decode cX12_putsOne 68 = .ok (.iaload, 1) := by decide +kernel
theorem dX12_putsOne_69 : decode cX12_putsOne 69 = .ok (.iastore, 1) := by decide +kernel
theorem dX12_putsOne_70 : decode cX12_putsOne 70 = .ok (.iinc 3 1, 3) := by decide +kernel
theorem dX12_putsOne_73 : decode cX12_putsOne 73 = .ok (.goto (-32), 3) := by decide +kernel
theorem dX12_putsOne_76 : decode cX12_putsOne 76 = .ok (.aload_n 0, 1) := by decide +kernel
theorem dX12_putsOne_77 : decode cX12_putsOne 77 = .ok (.getfield 16, 3) := by decide +kernel
theorem dX12_putsOne_80 : decode cX12_putsOne 80 = .ok (.iconst 1, 1) := by decide +kernel
theorem dX12_putsOne_81 : decode cX12_putsOne 81 = .ok (.aload_n 0, 1) := by decide +kernel
theorem dX12_putsOne_82 : decode cX12_putsOne 82 = .ok (.getfield 16, 3) := by decide +kernel
theorem dX12_putsOne_85 : decode cX12_putsOne 85 = .ok (.iconst 0, 1) := by decide +kernel
theorem dX12_putsOne_86 : decode cX12_putsOne 86 = .ok (.iaload, 1) := by decide +kernel
theorem dX12_putsOne_87 : decode cX12_putsOne 87 = .ok (.iadd, 1) := by decide +kernel
theorem dX12_putsOne_88 : decode cX12_putsOne 88 = .ok (.aload_n 0, 1) := by decide +kernel
theorem dX12_putsOne_89 : decode cX12_putsOne 89 = .ok (.getfield 214, 3) := by decide +kernel
theorem dX12_putsOne_92 : decode cX12_putsOne 92 = .ok (.iadd, 1) := by decide +kernel
theorem dX12_putsOne_93 : decode cX12_putsOne 93 = .ok (.iconst 0, 1) := by decide +kernel
theorem dX12_putsOne_94 : decode cX12_putsOne 94 = .ok (.iastore, 1) := by decide +kernel
theorem dX12_putsOne_95 : decode cX12_putsOne 95 = .ok (.aload_n 0, 1) := by decide +kernel
theorem dX12_putsOne_96 : decode cX12_putsOne 96 = .ok (.getfield 16, 3) := by decide +kernel
theorem dX12_putsOne_99 : decode cX12_putsOne 99 = .ok (.iconst 0, 1) := by decide +kernel
theorem dX12_putsOne_100 : decode cX12_putsOne 100 = .ok (.dup2, 1) := by decide +kernel
theorem dX12_putsOne_101 : decode cX12_putsOne 101 = .ok (.iaload, 1) := by decide +kernel
theorem dX12_putsOne_102 : decode cX12_putsOne 102 = .ok (.aload_n 0, 1) := by decide +kernel
theorem dX12_putsOne_103 : decode cX12_putsOne 103 = .ok (.getfield 214, 3) := by decide +kernel
theorem dX12_putsOne_106 : decode cX12_putsOne 106 = .ok (.iconst 1, 1) := by decide +kernel
theorem dX12_putsOne_107 : decode cX12_putsOne 107 = .ok (.iadd, 1) := by decide +kernel
theorem dX12_putsOne_108 : decode cX12_putsOne 108 = .ok (.iadd, 1) := by decide +kernel
theorem dX12_putsOne_109 : decode cX12_putsOne 109 = .ok (.iastore, 1) := by decide +kernel
theorem dX12_putsOne_110 : decode cX12_putsOne 110 = .ok (.aload_n 0, 1) := by decide +kernel
theorem dX12_putsOne_111 : decode cX12_putsOne 111 = .ok (.getfield 16, 3) := by decide +kernel
theorem dX12_putsOne_114 : decode cX12_putsOne 114 = .ok (.sipush 803, 3) := by decide +kernel
theorem dX12_putsOne_117 : decode cX12_putsOne 117 = .ok (.iload_n 1, 1) := by decide +kernel
theorem dX12_putsOne_118 : decode cX12_putsOne 118 = .ok (.iastore, 1) := by decide +kernel
theorem dX12_putsOne_119 : decode cX12_putsOne 119 = .ok (.aload_n 0, 1) := by decide +kernel
theorem dX12_putsOne_120 : decode cX12_putsOne 120 = .ok (.iload_n 1, 1) := by decide +kernel
theorem dX12_putsOne_121 : decode cX12_putsOne 121 = .ok (.iconst 0, 1) := by decide +kernel
theorem dX12_putsOne_122 : decode cX12_putsOne 122 = .ok (.iconst (-1), 1) := by decide +kernel
theorem dX12_putsOne_123 : decode cX12_putsOne 123 = .ok (.invokevirtual 295, 3) := by decide +kernel
theorem dX12_putsOne_126 : decode cX12_putsOne 126 = .ok (.aload_n 0, 1) := by decide +kernel
theorem dX12_putsOne_127 : decode cX12_putsOne 127 = .ok (.iload_n 1, 1) := by decide +kernel
theorem dX12_putsOne_128 : decode cX12_putsOne 128 = .ok (.iconst 3, 1) := by decide +kernel
theorem dX12_putsOne_129 : decode cX12_putsOne 129 = .ok (.aload_n 0, 1) := by decide +kernel
theorem dX12_putsOne_130 : decode cX12_putsOne 130 = .ok (.iload_n 1, 1) := by decide +kernel
theorem dX12_putsOne_131 : decode cX12_putsOne 131 = .ok (.iconst 3, 1) := by decide +kernel
theorem dX12_putsOne_132 : decode cX12_putsOne 132 = .ok (.invokevirtual 286, 3) := by decide +kernel
theorem dX12_putsOne_135 : decode cX12_putsOne 135 = .ok (.iconst 1, 1) := by decide +kernel
theorem dX12_putsOne_136 : decode cX12_putsOne 136 = .ok (.iadd, 1) := by decide +kernel
theorem dX12_putsOne_137 : decode cX12_putsOne 137 = .ok (.bipush 16, 2) := by decide +kernel
theorem dX12_putsOne_139 : decode cX12_putsOne 139 = .ok (.irem, 1) := by decide +kernel
theorem dX12_putsOne_140 : decode cX12_putsOne 140 = .ok (.invokevirtual 201, 3) := by decide +kernel
theorem dX12_putsOne_143 : decode cX12_putsOne 143 = .ok (.aload_n 0, 1) := by decide +kernel
theorem dX12_putsOne_144 : decode cX12_putsOne 144 = .ok (.iload_n 1, 1) := by decide +kernel
theorem dX12_putsOne_145 : decode cX12_putsOne 145 = .ok (.iconst 2, 1) := by decide +kernel
theorem dX12_putsOne_146 : decode cX12_putsOne 146 = .ok (.iload_n 2, 1) := by decide +kernel
theorem dX12_putsOne_147 : decode cX12_putsOne 147 = .ok (.invokevirtual 295, 3) := by decide +kernel
theorem dX12_putsOne_150 : decode cX12_putsOne 150 = .ok (.aload_n 0, 1) := by decide +kernel
theorem dX12_putsOne_151 : decode cX12_putsOne 151 = .ok (.iload_n 1, 1) := by decide +kernel
theorem dX12_putsOne_152 : decode cX12_putsOne 152 = .ok (.iconst 2, 1) := by decide +kernel
theorem dX12_putsOne_153 : decode cX12_putsOne 153 = .ok (.invokevirtual 286, 3) := by decide +kernel
theorem dX12_putsOne_156 : decode cX12_putsOne 156 = .ok (.aload_n 0, 1) := by decide +kernel
theorem dX12_putsOne_157 : decode cX12_putsOne 157 = .ok (.iload_n 1, 1) := by decide +kernel
theorem dX12_putsOne_158 : decode cX12_putsOne 158 = .ok (.iconst 0, 1) := by decide +kernel
theorem dX12_putsOne_159 : decode cX12_putsOne 159 = .ok (.invokestatic 292, 3) := by decide +kernel
theorem dX12_putsOne_162 : decode cX12_putsOne 162 = .ok (.invokevirtual 286, 3) := by decide +kernel
theorem dX12_putsOne_165 : decode cX12_putsOne 165 = .ok (.if_icmp .ne 8, 3) := by decide +kernel
theorem dX12_putsOne_168 : decode cX12_putsOne 168 = .ok (.aload_n 0, 1) := by decide +kernel
theorem dX12_putsOne_169 : decode cX12_putsOne 169 = .ok (.iload_n 1, 1) := by decide +kernel
theorem dX12_putsOne_170 : decode cX12_putsOne 170 = .ok (.invokevirtual 304, 3) := by decide +kernel
theorem dX12_putsOne_173 : decode cX12_putsOne 173 = .ok (.iconst 1, 1) := by decide +kernel
theorem dX12_putsOne_174 : decode cX12_putsOne 174 = .ok (.ireturn, 1) := by decide +kernel
theorem dX12_canPut_0 : decode cX12_canPut 0 = .ok (.aload_n 0, 1) := by decide +kernel
theorem dX12_canPut_1 : decode cX12_canPut 1 = .ok (.invokevirtual 298, 3) := by decide +kernel
theorem dX12_canPut_4 : decode cX12_canPut 4 = .ok (.istore_n 1, 1) := by decide +kernel
theorem dX12_canPut_5 : decode cX12_canPut 5 = .ok (.iload_n 1, 1) := by decide +kernel
theorem dX12_canPut_6 : decode cX12_canPut 6 = .ok (.iconst (-1), 1) := by decide +kernel
theorem dX12_canPut_7 : decode cX12_canPut 7 = .ok (.if_icmp .ne 5, 3) := by decide +kernel
theorem dX12_canPut_10 : decode cX12_canPut 10 = .ok (.iconst 0, 1) := by decide +kernel
theorem dX12_canPut_11 : decode cX12_canPut 11 = .ok (.ireturn, 1) := by decide +kernel
theorem dX12_canPut_12 : decode cX12_canPut 12 = .ok (.aload_n 0, 1) := by decide +kernel
theorem dX12_canPut_13 : decode cX12_canPut 13 = .ok (.iload_n 1, 1) := by decide +kernel
theorem dX12_canPut_14 : decode cX12_canPut 14 = .ok (.invokevirtual 301, 3) := by decide +kernel
theorem dX12_canPut_17 : decode cX12_canPut 17 = .ok (.pop, 1) := by decide +kernel
theorem dX12_canPut_18 : decode cX12_canPut 18 = .ok (.aload_n 0, 1) := by decide +kernel
theorem dX12_canPut_19 : decode cX12_canPut 19 = .ok (.getfield 16, 3) := by decide +kernel
theorem dX12_canPut_22 : decode cX12_canPut 22 = .ok (.iconst 0, 1) := by decide +kernel
theorem dX12_canPut_23 : decode cX12_canPut 23 = .ok (.iaload, 1) := by decide +kernel
theorem dX12_canPut_24 : decode cX12_canPut 24 = .ok (.aload_n 0, 1) := by decide +kernel
theorem dX12_canPut_25 : decode cX12_canPut 25 = .ok (.getfield 214, 3) := by decide +kernel
theorem dX12_canPut_28 : decode cX12_canPut 28 = .ok (.iadd, 1) := by decide +kernel
theorem dX12_canPut_29 : decode cX12_canPut 29 = .ok (.iconst 1, 1) := by decide +kernel
theorem dX12_canPut_30 : decode cX12_canPut 30 = .ok (.iadd, 1) := by decide +kernel
theorem dX12_canPut_31 : decode cX12_canPut 31 = .ok (.sipush 600, 3) := by decide +kernel
theorem dX12_canPut_34 : decode cX12_canPut 34 = .ok (.if_icmp .gt 7, 3) := by decide +kernel
theorem dX12_canPut_37 : decode cX12_canPut 37 = .ok (.iconst 1, 1) := by decide +kernel
theorem dX12_canPut_38 : decode cX12_canPut 38 = .ok (.goto 4, 3) := by decide +kernel
theorem dX12_canPut_41 : decode cX12_canPut 41 = .ok (.iconst 0, 1) := by decide +kernel
theorem dX12_canPut_42 : decode cX12_canPut 42 = .ok (.ireturn, 1) := by decide +kernel
theorem dX12_put_0 : decode cX12_put 0 = .ok (.aload_n 0, 1) := by decide +kernel
theorem dX12_put_1 : decode cX12_put 1 = .ok (.iconst 0, 1) := by decide +kernel
theorem dX12_put_2 : decode cX12_put 2 = .ok (.putfield 60, 3) := by decide +kernel
theorem dX12_put_5 : decode cX12_put 5 = .ok (.aload_n 0, 1) := by decide +kernel
theorem dX12_put_6 : decode cX12_put 6 = .ok (.getfield 188, 3) := by decide +kernel
theorem dX12_put_9 : decode cX12_put 9 = .ok (.ifCond .ne 9, 3) := by decide +kernel
theorem dX12_put_12 : decode cX12_put 12 = .ok (.aload_n 0, 1) := by decide +kernel
theorem dX12_put_13 : decode cX12_put 13 = .ok (.iconst 0, 1) := by decide +kernel
theorem dX12_put_14 : decode cX12_put 14 = .ok (.invokevirtual 280, 3) := by decide +kernel
theorem dX12_put_17 : decode cX12_put 17 = .ok (.ireturn, 1) := by decide +kernel
theorem dX12_put_18 : decode cX12_put 18 = .ok (.iload_n 1, 1) := by decide +kernel
theorem dX12_put_19 : decode cX12_put 19 = .ok (.i2l, 1) := by decide +kernel
theorem dX12_put_20 : decode cX12_put 20 = .ok (.lconst 1, 1) := by decide +kernel
theorem dX12_put_21 : decode cX12_put 21 = .ok (.ldc2_w 307, 3) := by decide +kernel
theorem dX12_put_24 : decode cX12_put 24 = .ok (.invokestatic 70, 3) := by decide +kernel
theorem dX12_put_27 : decode cX12_put 27 = .ok (.ifCond .ne 9, 3) := by decide +kernel
end
section
theorem dX12_put_30 : decode cX12_put 30 = .ok (.aload_n 0, 1) := by decide +kernel
theorem dX12_put_31 : decode cX12_put 31 = .ok (.iconst 2, 1) := by decide +kernel
theorem dX12_put_32 : decode cX12_put 32 = .ok (.invokevirtual 280, 3) := by decide +kernel
theorem dX12_put_35 : decode cX12_put 35 = .ok (.ireturn, 1) := by decide +kernel
theorem dX12_put_36 : decode cX12_put 36 = .ok (.aload_n 0, 1) := by decide +kernel
theorem dX12_put_37 : decode cX12_put 37 = .ok (.invokevirtual 309, 3) := by decide +kernel
theorem dX12_put_40 : decode cX12_put 40 = .ok (.ifCond .ne 5, 3) := by decide +kernel
theorem dX12_put_43 : decode cX12_put 43 = .ok (.iconst 0, 1) := by decide +kernel
theorem dX12_put_44 : decode cX12_put 44 = .ok (.ireturn, 1) := by decide +kernel
theorem dX12_put_45 : decode cX12_put 45 = .ok (.aload_n 0, 1) := by decide +kernel
theorem dX12_put_46 : decode cX12_put 46 = .ok (.invokevirtual 289, 3) := by decide +kernel
theorem dX12_put_49 : decode cX12_put 49 = .ok (.iconst 0, 1) := by decide +kernel
theorem dX12_put_50 : decode cX12_put 50 = .ok (.istore_n 2, 1) := by decide +kernel
theorem dX12_put_51 : decode cX12_put 51 = .ok (.iload_n 2, 1) := by decide +kernel
theorem dX12_put_52 : decode cX12_put 52 = .ok (.iload_n 1, 1) := by decide +kernel
theorem dX12_put_53 : decode cX12_put 53 = .ok (.if_icmp .ge 16, 3) := by decide +kernel
theorem dX12_put_56 : decode cX12_put 56 = .ok (.aload_n 0, 1) := by decide +kernel
theorem dX12_put_57 : decode cX12_put 57 = .ok (.invokevirtual 312, 3) := by decide +kernel
theorem dX12_put_60 : decode cX12_put 60 = .ok (.ifCond .eq 9, 3) := by decide +kernel
theorem dX12_put_63 : decode cX12_put 63 = .ok (.iinc 2 1, 3) := by decide +kernel
theorem dX12_put_66 : decode cX12_put 66 = .ok (.goto (-15), 3) := by decide +kernel
theorem dX12_put_69 : decode cX12_put 69 = .ok (.iload_n 2, 1) := by decide +kernel
theorem dX12_put_70 : decode cX12_put 70 = .ok (.ireturn, 1) := by decide +kernel
theorem dX12_isByte_0 : decode cX12_isByte 0 = .ok (.aload_n 0, 1) := by decide +kernel
theorem dX12_isByte_1 : decode cX12_isByte 1 = .ok (.getfield 188, 3) := by decide +kernel
theorem dX12_isByte_4 : decode cX12_isByte 4 = .ok (.ifCond .eq 25, 3) := by decide +kernel
theorem dX12_isByte_7 : decode cX12_isByte 7 = .ok (.iload_n 1, 1) := by decide +kernel
theorem dX12_isByte_8 : decode cX12_isByte 8 = .ok (.i2l, 1) := by decide +kernel
theorem dX12_isByte_9 : decode cX12_isByte 9 = .ok (.lconst 0, 1) := by decide +kernel
theorem dX12_isByte_10 : decode cX12_isByte 10 = .ok (.aload_n 0, 1) := by decide +kernel
theorem dX12_isByte_11 : decode cX12_isByte 11 = .ok (.getfield 16, 3) := by decide +kernel
theorem dX12_isByte_14 : decode cX12_isByte 14 = .ok (.iconst 0, 1) := by decide +kernel
theorem dX12_isByte_15 : decode cX12_isByte 15 = .ok (.iaload, 1) := by decide +kernel
theorem dX12_isByte_16 : decode cX12_isByte 16 = .ok (.iconst 1, 1) := by decide +kernel
theorem dX12_isByte_17 : decode cX12_isByte 17 = .ok (.isub, 1) := by decide +kernel
theorem dX12_isByte_18 : decode cX12_isByte 18 = .ok (.i2l, 1) := by decide +kernel
theorem dX12_isByte_19 : decode cX12_isByte 19 = .ok (.invokestatic 70, 3) := by decide +kernel
theorem dX12_isByte_22 : decode cX12_isByte 22 = .ok (.ifCond .eq 7, 3) := by decide +kernel
theorem dX12_isByte_25 : decode cX12_isByte 25 = .ok (.iconst 1, 1) := by decide +kernel
theorem dX12_isByte_26 : decode cX12_isByte 26 = .ok (.goto 4, 3) := by decide +kernel
theorem dX12_isByte_29 : decode cX12_isByte 29 = .ok (.iconst 0, 1) := by decide +kernel
theorem dX12_isByte_30 : decode cX12_isByte 30 = .ok (.ireturn, 1) := by decide +kernel
theorem dX12_byteAt_0 : decode cX12_byteAt 0 = .ok (.aload_n 0, 1) := by decide +kernel
theorem dX12_byteAt_1 : decode cX12_byteAt 1 = .ok (.iconst 0, 1) := by decide +kernel
theorem dX12_byteAt_2 : decode cX12_byteAt 2 = .ok (.putfield 60, 3) := by decide +kernel
theorem dX12_byteAt_5 : decode cX12_byteAt 5 = .ok (.aload_n 0, 1) := by decide +kernel
theorem dX12_byteAt_6 : decode cX12_byteAt 6 = .ok (.iload_n 1, 1) := by decide +kernel
theorem dX12_byteAt_7 : decode cX12_byteAt 7 = .ok (.invokevirtual 315, 3) := by decide +kernel
theorem dX12_byteAt_10 : decode cX12_byteAt 10 = .ok (.ifCond .eq 14, 3) := by decide +kernel
theorem dX12_byteAt_13 : decode cX12_byteAt 13 = .ok (.aload_n 0, 1) := by decide +kernel
theorem dX12_byteAt_14 : decode cX12_byteAt 14 = .ok (.getfield 16, 3) := by decide +kernel
theorem dX12_byteAt_17 : decode cX12_byteAt 17 = .ok (.iconst 1, 1) := by decide +kernel
theorem dX12_byteAt_18 : decode cX12_byteAt 18 = .ok (.iload_n 1, 1) := by decide +kernel
theorem dX12_byteAt_19 : decode cX12_byteAt 19 = .ok (.iadd, 1) := by decide +kernel
theorem dX12_byteAt_20 : decode cX12_byteAt 20 = .ok (.iaload, 1) := by decide +kernel
theorem dX12_byteAt_21 : decode cX12_byteAt 21 = .ok (.goto 4, 3) := by decide +kernel
theorem dX12_byteAt_24 : decode cX12_byteAt 24 = .ok (.iconst (-1), 1) := by decide +kernel
theorem dX12_byteAt_25 : decode cX12_byteAt 25 = .ok (.ireturn, 1) := by decide +kernel
theorem dX12_loses_0 : decode cX12_loses 0 = .ok (.iload_n 1, 1) := by decide +kernel
theorem dX12_loses_1 : decode cX12_loses 1 = .ok (.iconst 1, 1) := by decide +kernel
theorem dX12_loses_2 : decode cX12_loses 2 = .ok (.iadd, 1) := by decide +kernel
theorem dX12_loses_3 : decode cX12_loses 3 = .ok (.istore_n 2, 1) := by decide +kernel
theorem dX12_loses_4 : decode cX12_loses 4 = .ok (.iload_n 2, 1) := by decide +kernel
theorem dX12_loses_5 : decode cX12_loses 5 = .ok (.aload_n 0, 1) := by decide +kernel
theorem dX12_loses_6 : decode cX12_loses 6 = .ok (.getfield 16, 3) := by decide +kernel
theorem dX12_loses_9 : decode cX12_loses 9 = .ok (.iconst 0, 1) := by decide +kernel
theorem dX12_loses_10 : decode cX12_loses 10 = .ok (.iaload, 1) := by decide +kernel
theorem dX12_loses_11 : decode cX12_loses 11 = .ok (.if_icmp .ge 27, 3) := by decide +kernel
theorem dX12_loses_14 : decode cX12_loses 14 = .ok (.aload_n 0, 1) := by decide +kernel
theorem dX12_loses_15 : decode cX12_loses 15 = .ok (.getfield 16, 3) := by decide +kernel
theorem dX12_loses_18 : decode cX12_loses 18 = .ok (.iconst 1, 1) := by decide +kernel
theorem dX12_loses_19 : decode cX12_loses 19 = .ok (.iload_n 2, 1) := by decide +kernel
theorem dX12_loses_20 : decode cX12_loses 20 = .ok (.iadd, 1) := by decide +kernel
theorem dX12_loses_21 : decode cX12_loses 21 = .ok (.iconst 1, 1) := by decide +kernel
theorem dX12_loses_22 : decode cX12_loses 22 = .ok (.isub, 1) := by decide +kernel
theorem dX12_loses_23 : decode cX12_loses 23 = .ok (.aload_n 0, 1) := by decide +kernel
theorem dX12_loses_24 : decode cX12_loses 24 = .ok (.getfield 16, 3) := by decide +kernel
theorem dX12_loses_27 : decode cX12_loses 27 = .ok (.iconst 1, 1) := by decide +kernel
theorem dX12_loses_28 : decode cX12_loses 28 = .ok (.iload_n 2, 1) := by decide +kernel
theorem dX12_loses_29 : decode cX12_loses 29 = .ok (.iadd, 1) := by decide +kernel
theorem dX12_loses_30 : decode cX12_loses 30 = .ok (.iaload, 1) := by decide +kernel
theorem dX12_loses_31 : decode cX12_loses 31 = .ok (.iastore, 1) := by decide +kernel
theorem dX12_loses_32 : decode cX12_loses 32 = .ok (.iinc 2 1, 3) := by decide +kernel
theorem dX12_loses_35 : decode cX12_loses 35 = .ok (.goto (-31), 3) := by decide +kernel
theorem dX12_loses_38 : decode cX12_loses 38 = .ok (.aload_n 0, 1) := by decide +kernel
theorem dX12_loses_39 : decode cX12_loses 39 = .ok (.getfield 16, 3) := by decide +kernel
theorem dX12_loses_42 : decode cX12_loses 42 = .ok (.iconst 0, 1) := by decide +kernel
theorem dX12_loses_43 : decode cX12_loses 43 = .ok (.dup2, 1) := by decide +kernel
theorem dX12_loses_44 : decode cX12_loses 44 = .ok (.iaload, 1) := by decide +kernel
theorem dX12_loses_45 : decode cX12_loses 45 = .ok (.iconst 1, 1) := by decide +kernel
theorem dX12_loses_46 : decode cX12_loses 46 = .ok (.isub, 1) := by decide +kernel
theorem dX12_loses_47 : decode cX12_loses 47 = .ok (.iastore, 1) := by decide +kernel
theorem dX12_loses_48 : decode cX12_loses 48 = .ok (.return_, 1) := by decide +kernel
theorem dX12_inserts_0 : decode cX12_inserts 0 = .ok (.aload_n 0, 1) := by decide +kernel
theorem dX12_inserts_1 : decode cX12_inserts 1 = .ok (.getfield 16, 3) := by decide +kernel
theorem dX12_inserts_4 : decode cX12_inserts 4 = .ok (.iconst 0, 1) := by decide +kernel
theorem dX12_inserts_5 : decode cX12_inserts 5 = .ok (.iaload, 1) := by decide +kernel
theorem dX12_inserts_6 : decode cX12_inserts 6 = .ok (.istore_n 3, 1) := by decide +kernel
theorem dX12_inserts_7 : decode cX12_inserts 7 = .ok (.iload_n 3, 1) := by decide +kernel
theorem dX12_inserts_8 : decode cX12_inserts 8 = .ok (.iload_n 1, 1) := by decide +kernel
theorem dX12_inserts_9 : decode cX12_inserts 9 = .ok (.if_icmp .le 27, 3) := by decide +kernel
theorem dX12_inserts_12 : decode cX12_inserts 12 = .ok (.aload_n 0, 1) := by decide +kernel
theorem dX12_inserts_13 : decode cX12_inserts 13 = .ok (.getfield 16, 3) := by decide +kernel
theorem dX12_inserts_16 : decode cX12_inserts 16 = .ok (.iconst 1, 1) := by decide +kernel
theorem dX12_inserts_17 : decode cX12_inserts 17 = .ok (.iload_n 3, 1) := by decide +kernel
theorem dX12_inserts_18 : decode cX12_inserts 18 = .ok (.iadd, 1) := by decide +kernel
theorem dX12_inserts_19 : decode cX12_inserts 19 = .ok (.aload_n 0, 1) := by decide +kernel
theorem dX12_inserts_20 : decode cX12_inserts 20 = .ok (.getfield 16, 3) := by decide +kernel
theorem dX12_inserts_23 : decode cX12_inserts 23 = .ok (.iconst 1, 1) := by decide +kernel
theorem dX12_inserts_24 : decode cX12_inserts 24 = .ok (.iload_n 3, 1) := by decide +kernel
theorem dX12_inserts_25 : decode cX12_inserts 25 = .ok (.iadd, 1) := by decide +kernel
theorem dX12_inserts_26 : decode cX12_inserts 26 = .ok (.iconst 1, 1) := by decide +kernel
theorem dX12_inserts_27 : decode cX12_inserts 27 = .ok (.isub, 1) := by decide +kernel
theorem dX12_inserts_28 : decode cX12_inserts 28 = .ok (.iaload, 1) := by decide +kernel
theorem dX12_inserts_29 : decode cX12_inserts 29 = .ok (.iastore, 1) := by decide +kernel
theorem dX12_inserts_30 : decode cX12_inserts 30 = .ok (.iinc 3 (-1), 3) := by decide +kernel
theorem dX12_inserts_33 : decode cX12_inserts 33 = .ok (.goto (-26), 3) := by decide +kernel
theorem dX12_inserts_36 : decode cX12_inserts 36 = .ok (.aload_n 0, 1) := by decide +kernel
theorem dX12_inserts_37 : decode cX12_inserts 37 = .ok (.getfield 16, 3) := by decide +kernel
theorem dX12_inserts_40 : decode cX12_inserts 40 = .ok (.iconst 1, 1) := by decide +kernel
theorem dX12_inserts_41 : decode cX12_inserts 41 = .ok (.iload_n 1, 1) := by decide +kernel
theorem dX12_inserts_42 : decode cX12_inserts 42 = .ok (.iadd, 1) := by decide +kernel
theorem dX12_inserts_43 : decode cX12_inserts 43 = .ok (.iload_n 2, 1) := by decide +kernel
theorem dX12_inserts_44 : decode cX12_inserts 44 = .ok (.iastore, 1) := by decide +kernel
theorem dX12_inserts_45 : decode cX12_inserts 45 = .ok (.aload_n 0, 1) := by decide +kernel
theorem dX12_inserts_46 : decode cX12_inserts 46 = .ok (.getfield 16, 3) := by decide +kernel
theorem dX12_inserts_49 : decode cX12_inserts 49 = .ok (.iconst 0, 1) := by decide +kernel
theorem dX12_inserts_50 : decode cX12_inserts 50 = .ok (.dup2, 1) := by decide +kernel
theorem dX12_inserts_51 : decode cX12_inserts 51 = .ok (.iaload, 1) := by decide +kernel
theorem dX12_inserts_52 : decode cX12_inserts 52 = .ok (.iconst 1, 1) := by decide +kernel
theorem dX12_inserts_53 : decode cX12_inserts 53 = .ok (.iadd, 1) := by decide +kernel
theorem dX12_inserts_54 : decode cX12_inserts 54 = .ok (.iastore, 1) := by decide +kernel
theorem dX12_inserts_55 : decode cX12_inserts 55 = .ok (.return_, 1) := by decide +kernel
theorem dX12_flip_0 : decode cX12_flip 0 = .ok (.aload_n 0, 1) := by decide +kernel
theorem dX12_flip_1 : decode cX12_flip 1 = .ok (.iconst 0, 1) := by decide +kernel
theorem dX12_flip_2 : decode cX12_flip 2 = .ok (.putfield 60, 3) := by decide +kernel
theorem dX12_flip_5 : decode cX12_flip 5 = .ok (.aload_n 0, 1) := by decide +kernel
theorem dX12_flip_6 : decode cX12_flip 6 = .ok (.getfield 188, 3) := by decide +kernel
theorem dX12_flip_9 : decode cX12_flip 9 = .ok (.ifCond .ne 9, 3) := by decide +kernel
theorem dX12_flip_12 : decode cX12_flip 12 = .ok (.aload_n 0, 1) := by decide +kernel
theorem dX12_flip_13 : decode cX12_flip 13 = .ok (.iconst 0, 1) := by decide +kernel
theorem dX12_flip_14 : decode cX12_flip 14 = .ok (.invokevirtual 280, 3) := by decide +kernel
theorem dX12_flip_17 : decode cX12_flip 17 = .ok (.ireturn, 1) := by decide +kernel
theorem dX12_flip_18 : decode cX12_flip 18 = .ok (.aload_n 0, 1) := by decide +kernel
theorem dX12_flip_19 : decode cX12_flip 19 = .ok (.iload_n 1, 1) := by decide +kernel
theorem dX12_flip_20 : decode cX12_flip 20 = .ok (.invokevirtual 315, 3) := by decide +kernel
theorem dX12_flip_23 : decode cX12_flip 23 = .ok (.ifCond .ne 9, 3) := by decide +kernel
theorem dX12_flip_26 : decode cX12_flip 26 = .ok (.aload_n 0, 1) := by decide +kernel
theorem dX12_flip_27 : decode cX12_flip 27 = .ok (.iconst 1, 1) := by decide +kernel
theorem dX12_flip_28 : decode cX12_flip 28 = .ok (.invokevirtual 280, 3) := by decide +kernel
theorem dX12_flip_31 : decode cX12_flip 31 = .ok (.ireturn, 1) := by decide +kernel
theorem dX12_flip_32 : decode cX12_flip 32 = .ok (.iload_n 2, 1) := by decide +kernel
theorem dX12_flip_33 : decode cX12_flip 33 = .ok (.i2l, 1) := by decide +kernel
theorem dX12_flip_34 : decode cX12_flip 34 = .ok (.lconst 1, 1) := by decide +kernel
theorem dX12_flip_35 : decode cX12_flip 35 = .ok (.ldc2_w 318, 3) := by decide +kernel
theorem dX12_flip_38 : decode cX12_flip 38 = .ok (.invokestatic 70, 3) := by decide +kernel
theorem dX12_flip_41 : decode cX12_flip 41 = .ok (.ifCond .ne 9, 3) := by decide +kernel
theorem dX12_flip_44 : decode cX12_flip 44 = .ok (.aload_n 0, 1) := by decide +kernel
theorem dX12_flip_45 : decode cX12_flip 45 = .ok (.iconst 2, 1) := by decide +kernel
theorem dX12_flip_46 : decode cX12_flip 46 = .ok (.invokevirtual 280, 3) := by decide +kernel
theorem dX12_flip_49 : decode cX12_flip 49 = .ok (.ireturn, 1) := by decide +kernel
theorem dX12_flip_50 : decode cX12_flip 50 = .ok (.aload_n 0, 1) := by decide +kernel
theorem dX12_flip_51 : decode cX12_flip 51 = .ok (.invokevirtual 289, 3) := by decide +kernel
theorem dX12_flip_54 : decode cX12_flip 54 = .ok (.aload_n 0, 1) := by decide +kernel
theorem dX12_flip_55 : decode cX12_flip 55 = .ok (.getfield 16, 3) := by decide +kernel
theorem dX12_flip_58 : decode cX12_flip 58 = .ok (.iconst 1, 1) := by decide +kernel
theorem dX12_flip_59 : decode cX12_flip 59 = .ok (.iload_n 1, 1) := by decide +kernel
theorem dX12_flip_60 : decode cX12_flip 60 = .ok (.iadd, 1) := by decide +kernel
theorem dX12_flip_61 : decode cX12_flip 61 = .ok (.dup2, 1) := by decide +kernel
theorem dX12_flip_62 : decode cX12_flip 62 = .ok (.iaload, 1) := by decide +kernel
theorem dX12_flip_63 : decode cX12_flip 63 = .ok (.iload_n 2, 1) := by decide +kernel
theorem dX12_flip_64 : decode cX12_flip 64 = .ok (.ixor, 1) := by decide +kernel
theorem dX12_flip_65 : decode cX12_flip 65 = .ok (.iastore, 1) := by decide +kernel
theorem dX12_flip_66 : decode cX12_flip 66 = .ok (.aload_n 0, 1) := by decide +kernel
theorem dX12_flip_67 : decode cX12_flip 67 = .ok (.getfield 16, 3) := by decide +kernel
theorem dX12_flip_70 : decode cX12_flip 70 = .ok (.iconst 1, 1) := by decide +kernel
theorem dX12_flip_71 : decode cX12_flip 71 = .ok (.iload_n 1, 1) := by decide +kernel
theorem dX12_flip_72 : decode cX12_flip 72 = .ok (.iadd, 1) := by decide +kernel
theorem dX12_flip_73 : decode cX12_flip 73 = .ok (.iaload, 1) := by decide +kernel
theorem dX12_flip_74 : decode cX12_flip 74 = .ok (.ireturn, 1) := by decide +kernel
theorem dX12_lose_0 : decode cX12_lose 0 = .ok (.aload_n 0, 1) := by decide +kernel
theorem dX12_lose_1 : decode cX12_lose 1 = .ok (.iconst 0, 1) := by decide +kernel
theorem dX12_lose_2 : decode cX12_lose 2 = .ok (.putfield 60, 3) := by decide +kernel
theorem dX12_lose_5 : decode cX12_lose 5 = .ok (.aload_n 0, 1) := by decide +kernel
theorem dX12_lose_6 : decode cX12_lose 6 = .ok (.getfield 188, 3) := by decide +kernel
theorem dX12_lose_9 : decode cX12_lose 9 = .ok (.ifCond .ne 9, 3) := by decide +kernel
theorem dX12_lose_12 : decode cX12_lose 12 = .ok (.aload_n 0, 1) := by decide +kernel
theorem dX12_lose_13 : decode cX12_lose 13 = .ok (.iconst 0, 1) := by decide +kernel
theorem dX12_lose_14 : decode cX12_lose 14 = .ok (.invokevirtual 280, 3) := by decide +kernel
theorem dX12_lose_17 : decode cX12_lose 17 = .ok (.ireturn, 1) := by decide +kernel
theorem dX12_lose_18 : decode cX12_lose 18 = .ok (.aload_n 0, 1) := by decide +kernel
theorem dX12_lose_19 : decode cX12_lose 19 = .ok (.iload_n 1, 1) := by decide +kernel
theorem dX12_lose_20 : decode cX12_lose 20 = .ok (.invokevirtual 315, 3) := by decide +kernel
theorem dX12_lose_23 : decode cX12_lose 23 = .ok (.ifCond .ne 9, 3) := by decide +kernel
theorem dX12_lose_26 : decode cX12_lose 26 = .ok (.aload_n 0, 1) := by decide +kernel
theorem dX12_lose_27 : decode cX12_lose 27 = .ok (.iconst 1, 1) := by decide +kernel
theorem dX12_lose_28 : decode cX12_lose 28 = .ok (.invokevirtual 280, 3) := by decide +kernel
theorem dX12_lose_31 : decode cX12_lose 31 = .ok (.ireturn, 1) := by decide +kernel
theorem dX12_lose_32 : decode cX12_lose 32 = .ok (.aload_n 0, 1) := by decide +kernel
theorem dX12_lose_33 : decode cX12_lose 33 = .ok (.invokevirtual 289, 3) := by decide +kernel
theorem dX12_lose_36 : decode cX12_lose 36 = .ok (.aload_n 0, 1) := by decide +kernel
theorem dX12_lose_37 : decode cX12_lose 37 = .ok (.getfield 16, 3) := by decide +kernel
theorem dX12_lose_40 : decode cX12_lose 40 = .ok (.iconst 1, 1) := by decide +kernel
theorem dX12_lose_41 : decode cX12_lose 41 = .ok (.iload_n 1, 1) := by decide +kernel
theorem dX12_lose_42 : decode cX12_lose 42 = .ok (.iadd, 1) := by decide +kernel
theorem dX12_lose_43 : decode cX12_lose 43 = .ok (.iaload, 1) := by decide +kernel
theorem dX12_lose_44 : decode cX12_lose 44 = .ok (.istore_n 2, 1) := by decide +kernel
theorem dX12_lose_45 : decode cX12_lose 45 = .ok (.aload_n 0, 1) := by decide +kernel
theorem dX12_lose_46 : decode cX12_lose 46 = .ok (.iload_n 1, 1) := by decide +kernel
theorem dX12_lose_47 : decode cX12_lose 47 = .ok (.invokevirtual 320, 3) := by decide +kernel
theorem dX12_lose_50 : decode cX12_lose 50 = .ok (.iload_n 2, 1) := by decide +kernel
theorem dX12_lose_51 : decode cX12_lose 51 = .ok (.ireturn, 1) := by decide +kernel
theorem dX12_insert_0 : decode cX12_insert 0 = .ok (.aload_n 0, 1) := by decide +kernel
theorem dX12_insert_1 : decode cX12_insert 1 = .ok (.iconst 0, 1) := by decide +kernel
theorem dX12_insert_2 : decode cX12_insert 2 = .ok (.putfield 60, 3) := by decide +kernel
theorem dX12_insert_5 : decode cX12_insert 5 = .ok (.aload_n 0, 1) := by decide +kernel
theorem dX12_insert_6 : decode cX12_insert 6 = .ok (.getfield 188, 3) := by decide +kernel
theorem dX12_insert_9 : decode cX12_insert 9 = .ok (.ifCond .ne 9, 3) := by decide +kernel
theorem dX12_insert_12 : decode cX12_insert 12 = .ok (.aload_n 0, 1) := by decide +kernel
theorem dX12_insert_13 : decode cX12_insert 13 = .ok (.iconst 0, 1) := by decide +kernel
theorem dX12_insert_14 : decode cX12_insert 14 = .ok (.invokevirtual 280, 3) := by decide +kernel
theorem dX12_insert_17 : decode cX12_insert 17 = .ok (.ireturn, 1) := by decide +kernel
theorem dX12_insert_18 : decode cX12_insert 18 = .ok (.iload_n 1, 1) := by decide +kernel
theorem dX12_insert_19 : decode cX12_insert 19 = .ok (.i2l, 1) := by decide +kernel
theorem dX12_insert_20 : decode cX12_insert 20 = .ok (.lconst 0, 1) := by decide +kernel
theorem dX12_insert_21 : decode cX12_insert 21 = .ok (.aload_n 0, 1) := by decide +kernel
theorem dX12_insert_22 : decode cX12_insert 22 = .ok (.getfield 16, 3) := by decide +kernel
theorem dX12_insert_25 : decode cX12_insert 25 = .ok (.iconst 0, 1) := by decide +kernel
theorem dX12_insert_26 : decode cX12_insert 26 = .ok (.iaload, 1) := by decide +kernel
theorem dX12_insert_27 : decode cX12_insert 27 = .ok (.i2l, 1) := by decide +kernel
theorem dX12_insert_28 : decode cX12_insert 28 = .ok (.invokestatic 70, 3) := by decide +kernel
theorem dX12_insert_31 : decode cX12_insert 31 = .ok (.ifCond .ne 9, 3) := by decide +kernel
theorem dX12_insert_34 : decode cX12_insert 34 = .ok (.aload_n 0, 1) := by decide +kernel
theorem dX12_insert_35 : decode cX12_insert 35 = .ok (.iconst 1, 1) := by decide +kernel
theorem dX12_insert_36 : decode cX12_insert 36 = .ok (.invokevirtual 280, 3) := by decide +kernel
theorem dX12_insert_39 : decode cX12_insert 39 = .ok (.ireturn, 1) := by decide +kernel
theorem dX12_insert_40 : decode cX12_insert 40 = .ok (.iload_n 2, 1) := by decide +kernel
theorem dX12_insert_41 : decode cX12_insert 41 = .ok (.i2l, 1) := by decide +kernel
theorem dX12_insert_42 : decode cX12_insert 42 = .ok (.lconst 0, 1) := by decide +kernel
theorem dX12_insert_43 : decode cX12_insert 43 = .ok (.ldc2_w 318, 3) := by decide +kernel
theorem dX12_insert_46 : decode cX12_insert 46 = .ok (.invokestatic 70, 3) := by decide +kernel
theorem dX12_insert_49 : decode cX12_insert 49 = .ok (.ifCond .ne 9, 3) := by decide +kernel
theorem dX12_insert_52 : decode cX12_insert 52 = .ok (.aload_n 0, 1) := by decide +kernel
theorem dX12_insert_53 : decode cX12_insert 53 = .ok (.iconst 2, 1) := by decide +kernel
theorem dX12_insert_54 : decode cX12_insert 54 = .ok (.invokevirtual 280, 3) := by decide +kernel
theorem dX12_insert_57 : decode cX12_insert 57 = .ok (.ireturn, 1) := by decide +kernel
theorem dX12_insert_58 : decode cX12_insert 58 = .ok (.aload_n 0, 1) := by decide +kernel
theorem dX12_insert_59 : decode cX12_insert 59 = .ok (.getfield 16, 3) := by decide +kernel
theorem dX12_insert_62 : decode cX12_insert 62 = .ok (.iconst 0, 1) := by decide +kernel
theorem dX12_insert_63 : decode cX12_insert 63 = .ok (.iaload, 1) := by decide +kernel
theorem dX12_insert_64 : decode cX12_insert 64 = .ok (.sipush 600, 3) := by decide +kernel
theorem dX12_insert_67 : decode cX12_insert 67 = .ok (.if_icmp .ne 9, 3) := by decide +kernel
theorem dX12_insert_70 : decode cX12_insert 70 = .ok (.aload_n 0, 1) := by decide +kernel
theorem dX12_insert_71 : decode cX12_insert 71 = .ok (.iconst 3, 1) := by decide +kernel
theorem dX12_insert_72 : decode cX12_insert 72 = .ok (.invokevirtual 280, 3) := by decide +kernel
theorem dX12_insert_75 : decode cX12_insert 75 = .ok (.ireturn, 1) := by decide +kernel
theorem dX12_insert_76 : decode cX12_insert 76 = .ok (.aload_n 0, 1) := by decide +kernel
theorem dX12_insert_77 : decode cX12_insert 77 = .ok (.invokevirtual 289, 3) := by decide +kernel
theorem dX12_insert_80 : decode cX12_insert 80 = .ok (.aload_n 0, 1) := by decide +kernel
theorem dX12_insert_81 : decode cX12_insert 81 = .ok (.iload_n 1, 1) := by decide +kernel
theorem dX12_insert_82 : decode cX12_insert 82 = .ok (.iload_n 2, 1) := by decide +kernel
theorem dX12_insert_83 : decode cX12_insert 83 = .ok (.invokevirtual 323, 3) := by decide +kernel
theorem dX12_insert_86 : decode cX12_insert 86 = .ok (.aload_n 0, 1) := by decide +kernel
theorem dX12_insert_87 : decode cX12_insert 87 = .ok (.getfield 16, 3) := by decide +kernel
theorem dX12_insert_90 : decode cX12_insert 90 = .ok (.iconst 0, 1) := by decide +kernel
theorem dX12_insert_91 : decode cX12_insert 91 = .ok (.iaload, 1) := by decide +kernel
theorem dX12_insert_92 : decode cX12_insert 92 = .ok (.ireturn, 1) := by decide +kernel
theorem dX12_draw_0 : decode cX12_draw 0 = .ok (.aload_n 0, 1) := by decide +kernel
theorem dX12_draw_1 : decode cX12_draw 1 = .ok (.aload_n 0, 1) := by decide +kernel
theorem dX12_draw_2 : decode cX12_draw 2 = .ok (.getfield 327, 3) := by decide +kernel
theorem dX12_draw_5 : decode cX12_draw 5 = .ok (.ldc2_w 331, 3) := by decide +kernel
theorem dX12_draw_8 : decode cX12_draw 8 = .ok (.lmul, 1) := by decide +kernel
theorem dX12_draw_9 : decode cX12_draw 9 = .ok (.ldc2_w 333, 3) := by decide +kernel
theorem dX12_draw_12 : decode cX12_draw 12 = .ok (.ladd, 1) := by decide +kernel
theorem dX12_draw_13 : decode cX12_draw 13 = .ok (.putfield 327, 3) := by decide +kernel
theorem dX12_draw_16 : decode cX12_draw 16 = .ok (.aload_n 0, 1) := by decide +kernel
theorem dX12_draw_17 : decode cX12_draw 17 = .ok (.getfield 327, 3) := by decide +kernel
theorem dX12_draw_20 : decode cX12_draw 20 = .ok (.bipush 33, 2) := by decide +kernel
theorem dX12_draw_22 : decode cX12_draw 22 = .ok (.lushr, 1) := by decide +kernel
theorem dX12_draw_23 : decode cX12_draw 23 = .ok (.iload_n 1, 1) := by decide +kernel
theorem dX12_draw_24 : decode cX12_draw 24 = .ok (.i2l, 1) := by decide +kernel
theorem dX12_draw_25 : decode cX12_draw 25 = .ok (.lrem, 1) := by decide +kernel
theorem dX12_draw_26 : decode cX12_draw 26 = .ok (.l2i, 1) := by decide +kernel
theorem dX12_draw_27 : decode cX12_draw 27 = .ok (.ireturn, 1) := by decide +kernel
theorem dX12_noisy_0 : decode cX12_noisy 0 = .ok (.aload_n 0, 1) := by decide +kernel
theorem dX12_noisy_1 : decode cX12_noisy 1 = .ok (.iconst 3, 1) := by decide +kernel
theorem dX12_noisy_2 : decode cX12_noisy 2 = .ok (.invokevirtual 335, 3) := by decide +kernel
theorem dX12_noisy_5 : decode cX12_noisy 5 = .ok (.istore_n 1, 1) := by decide +kernel
theorem dX12_noisy_6 : decode cX12_noisy 6 = .ok (.iload_n 1, 1) := by decide +kernel
theorem dX12_noisy_7 : decode cX12_noisy 7 = .ok (.iconst 2, 1) := by decide +kernel
theorem dX12_noisy_8 : decode cX12_noisy 8 = .ok (.if_icmp .ge 12, 3) := by decide +kernel
theorem dX12_noisy_11 : decode cX12_noisy 11 = .ok (.aload_n 0, 1) := by decide +kernel
theorem dX12_noisy_12 : decode cX12_noisy 12 = .ok (.getfield 16, 3) := by decide +kernel
theorem dX12_noisy_15 : decode cX12_noisy 15 = .ok (.iconst 0, 1) := by decide +kernel
theorem dX12_noisy_16 : decode cX12_noisy 16 = .ok (.iaload, 1) := by decide +kernel
theorem dX12_noisy_17 : decode cX12_noisy 17 = .ok (.ifCond .eq 20, 3) := by decide +kernel
theorem dX12_noisy_20 : decode cX12_noisy 20 = .ok (.iload_n 1, 1) := by decide +kernel
theorem dX12_noisy_21 : decode cX12_noisy 21 = .ok (.iconst 2, 1) := by decide +kernel
theorem dX12_noisy_22 : decode cX12_noisy 22 = .ok (.if_icmp .ne 17, 3) := by decide +kernel
theorem dX12_noisy_25 : decode cX12_noisy 25 = .ok (.aload_n 0, 1) := by decide +kernel
theorem dX12_noisy_26 : decode cX12_noisy 26 = .ok (.getfield 16, 3) := by decide +kernel
theorem dX12_noisy_29 : decode cX12_noisy 29 = .ok (.iconst 0, 1) := by decide +kernel
theorem dX12_noisy_30 : decode cX12_noisy 30 = .ok (.iaload, 1) := by decide +kernel
theorem dX12_noisy_31 : decode cX12_noisy 31 = .ok (.sipush 600, 3) := by decide +kernel
theorem dX12_noisy_34 : decode cX12_noisy 34 = .ok (.if_icmp .ne 5, 3) := by decide +kernel
theorem dX12_noisy_37 : decode cX12_noisy 37 = .ok (.iconst 0, 1) := by decide +kernel
theorem dX12_noisy_38 : decode cX12_noisy 38 = .ok (.ireturn, 1) := by decide +kernel
theorem dX12_noisy_39 : decode cX12_noisy 39 = .ok (.aload_n 0, 1) := by decide +kernel
theorem dX12_noisy_40 : decode cX12_noisy 40 = .ok (.aload_n 0, 1) := by decide +kernel
theorem dX12_noisy_41 : decode cX12_noisy 41 = .ok (.getfield 16, 3) := by decide +kernel
theorem dX12_noisy_44 : decode cX12_noisy 44 = .ok (.iconst 0, 1) := by decide +kernel
theorem dX12_noisy_45 : decode cX12_noisy 45 = .ok (.iaload, 1) := by decide +kernel
theorem dX12_noisy_46 : decode cX12_noisy 46 = .ok (.iload_n 1, 1) := by decide +kernel
theorem dX12_noisy_47 : decode cX12_noisy 47 = .ok (.iconst 2, 1) := by decide +kernel
theorem dX12_noisy_48 : decode cX12_noisy 48 = .ok (.if_icmp .ne 7, 3) := by decide +kernel
theorem dX12_noisy_51 : decode cX12_noisy 51 = .ok (.iconst 1, 1) := by decide +kernel
theorem dX12_noisy_52 : decode cX12_noisy 52 = .ok (.goto 4, 3) := by decide +kernel
theorem dX12_noisy_55 : decode cX12_noisy 55 = .ok (.iconst 0, 1) := by decide +kernel
theorem dX12_noisy_56 : decode cX12_noisy 56 = .ok (.iadd, 1) := by decide +kernel
theorem dX12_noisy_57 : decode cX12_noisy 57 = .ok (.invokevirtual 335, 3) := by decide +kernel
theorem dX12_noisy_60 : decode cX12_noisy 60 = .ok (.istore_n 2, 1) := by decide +kernel
theorem dX12_noisy_61 : decode cX12_noisy 61 = .ok (.iload_n 1, 1) := by decide +kernel
theorem dX12_noisy_62 : decode cX12_noisy 62 = .ok (.iconst 1, 1) := by decide +kernel
theorem dX12_noisy_63 : decode cX12_noisy 63 = .ok (.if_icmp .ne 10, 3) := by decide +kernel
theorem dX12_noisy_66 : decode cX12_noisy 66 = .ok (.aload_n 0, 1) := by decide +kernel
theorem dX12_noisy_67 : decode cX12_noisy 67 = .ok (.iload_n 2, 1) := by decide +kernel
theorem dX12_noisy_68 : decode cX12_noisy 68 = .ok (.invokevirtual 320, 3) := by decide +kernel
theorem dX12_noisy_71 : decode cX12_noisy 71 = .ok (.iconst 1, 1) := by decide +kernel
theorem dX12_noisy_72 : decode cX12_noisy 72 = .ok (.ireturn, 1) := by decide +kernel
theorem dX12_noisy_73 : decode cX12_noisy 73 = .ok (.aload_n 0, 1) := by decide +kernel
theorem dX12_noisy_74 : decode cX12_noisy 74 = .ok (.sipush 255, 3) := by decide +kernel
theorem dX12_noisy_77 : decode cX12_noisy 77 = .ok (.invokevirtual 335, 3) := by decide +kernel
theorem dX12_noisy_80 : decode cX12_noisy 80 = .ok (.iconst 1, 1) := by decide +kernel
theorem dX12_noisy_81 : decode cX12_noisy 81 = .ok (.iadd, 1) := by decide +kernel
theorem dX12_noisy_82 : decode cX12_noisy 82 = .ok (.istore_n 3, 1) := by decide +kernel
theorem dX12_noisy_83 : decode cX12_noisy 83 = .ok (.iload_n 1, 1) := by decide +kernel
theorem dX12_noisy_84 : decode cX12_noisy 84 = .ok (.ifCond .ne 18, 3) := by decide +kernel
theorem dX12_noisy_87 : decode cX12_noisy 87 = .ok (.aload_n 0, 1) := by decide +kernel
theorem dX12_noisy_88 : decode cX12_noisy 88 = .ok (.getfield 16, 3) := by decide +kernel
theorem dX12_noisy_91 : decode cX12_noisy 91 = .ok (.iconst 1, 1) := by decide +kernel
theorem dX12_noisy_92 : decode cX12_noisy 92 = .ok (.iload_n 2, 1) := by decide +kernel
theorem dX12_noisy_93 : decode cX12_noisy 93 = .ok (.iadd, 1) := by decide +kernel
theorem dX12_noisy_94 : decode cX12_noisy 94 = .ok (.dup2, 1) := by decide +kernel
theorem dX12_noisy_95 : decode cX12_noisy 95 = .ok (.iaload, 1) := by decide +kernel
theorem dX12_noisy_96 : decode cX12_noisy 96 = .ok (.iload_n 3, 1) := by decide +kernel
theorem dX12_noisy_97 : decode cX12_noisy 97 = .ok (.ixor, 1) := by decide +kernel
theorem dX12_noisy_98 : decode cX12_noisy 98 = .ok (.iastore, 1) := by decide +kernel
theorem dX12_noisy_99 : decode cX12_noisy 99 = .ok (.goto 9, 3) := by decide +kernel
theorem dX12_noisy_102 : decode cX12_noisy 102 = .ok (.aload_n 0, 1) := by decide +kernel
theorem dX12_noisy_103 : decode cX12_noisy 103 = .ok (.iload_n 2, 1) := by decide +kernel
theorem dX12_noisy_104 : decode cX12_noisy 104 = .ok (.iload_n 3, 1) := by decide +kernel
theorem dX12_noisy_105 : decode cX12_noisy 105 = .ok (.invokevirtual 323, 3) := by decide +kernel
theorem dX12_noisy_108 : decode cX12_noisy 108 = .ok (.iconst 1, 1) := by decide +kernel
theorem dX12_noisy_109 : decode cX12_noisy 109 = .ok (.ireturn, 1) := by decide +kernel
theorem dX12_noise_0 : decode cX12_noise 0 = .ok (.aload_n 0, 1) := by decide +kernel
theorem dX12_noise_1 : decode cX12_noise 1 = .ok (.iconst 0, 1) := by decide +kernel
theorem dX12_noise_2 : decode cX12_noise 2 = .ok (.putfield 60, 3) := by decide +kernel
theorem dX12_noise_5 : decode cX12_noise 5 = .ok (.aload_n 0, 1) := by decide +kernel
theorem dX12_noise_6 : decode cX12_noise 6 = .ok (.getfield 188, 3) := by decide +kernel
theorem dX12_noise_9 : decode cX12_noise 9 = .ok (.ifCond .ne 9, 3) := by decide +kernel
theorem dX12_noise_12 : decode cX12_noise 12 = .ok (.aload_n 0, 1) := by decide +kernel
theorem dX12_noise_13 : decode cX12_noise 13 = .ok (.iconst 0, 1) := by decide +kernel
theorem dX12_noise_14 : decode cX12_noise 14 = .ok (.invokevirtual 280, 3) := by decide +kernel
theorem dX12_noise_17 : decode cX12_noise 17 = .ok (.ireturn, 1) := by decide +kernel
theorem dX12_noise_18 : decode cX12_noise 18 = .ok (.iload_n 1, 1) := by decide +kernel
theorem dX12_noise_19 : decode cX12_noise 19 = .ok (.i2l, 1) := by decide +kernel
theorem dX12_noise_20 : decode cX12_noise 20 = .ok (.lconst 1, 1) := by decide +kernel
theorem dX12_noise_21 : decode cX12_noise 21 = .ok (.ldc2_w 338, 3) := by decide +kernel
theorem dX12_noise_24 : decode cX12_noise 24 = .ok (.invokestatic 70, 3) := by decide +kernel
theorem dX12_noise_27 : decode cX12_noise 27 = .ok (.ifCond .ne 9, 3) := by decide +kernel
theorem dX12_noise_30 : decode cX12_noise 30 = .ok (.aload_n 0, 1) := by decide +kernel
theorem dX12_noise_31 : decode cX12_noise 31 = .ok (.iconst 2, 1) := by decide +kernel
theorem dX12_noise_32 : decode cX12_noise 32 = .ok (.invokevirtual 280, 3) := by decide +kernel
theorem dX12_noise_35 : decode cX12_noise 35 = .ok (.ireturn, 1) := by decide +kernel
theorem dX12_noise_36 : decode cX12_noise 36 = .ok (.aload_n 0, 1) := by decide +kernel
theorem dX12_noise_37 : decode cX12_noise 37 = .ok (.invokevirtual 340, 3) := by decide +kernel
theorem dX12_noise_40 : decode cX12_noise 40 = .ok (.aload_n 0, 1) := by decide +kernel
theorem dX12_noise_41 : decode cX12_noise 41 = .ok (.lload_n 2, 1) := by decide +kernel
theorem dX12_noise_42 : decode cX12_noise 42 = .ok (.putfield 327, 3) := by decide +kernel
theorem dX12_noise_45 : decode cX12_noise 45 = .ok (.iconst 0, 1) := by decide +kernel
theorem dX12_noise_46 : decode cX12_noise 46 = .ok (.istore 4, 2) := by decide +kernel
theorem dX12_noise_48 : decode cX12_noise 48 = .ok (.iconst 0, 1) := by decide +kernel
theorem dX12_noise_49 : decode cX12_noise 49 = .ok (.istore 5, 2) := by decide +kernel
theorem dX12_noise_51 : decode cX12_noise 51 = .ok (.iload 5, 2) := by decide +kernel
theorem dX12_noise_53 : decode cX12_noise 53 = .ok (.iload_n 1, 1) := by decide +kernel
theorem dX12_noise_54 : decode cX12_noise 54 = .ok (.if_icmp .ge 26, 3) := by decide +kernel
theorem dX12_noise_57 : decode cX12_noise 57 = .ok (.iload 4, 2) := by decide +kernel
theorem dX12_noise_59 : decode cX12_noise 59 = .ok (.aload_n 0, 1) := by decide +kernel
theorem dX12_noise_60 : decode cX12_noise 60 = .ok (.invokevirtual 343, 3) := by decide +kernel
theorem dX12_noise_63 : decode cX12_noise 63 = .ok (.ifCond .eq 7, 3) := by decide +kernel
theorem dX12_noise_66 : decode cX12_noise 66 = .ok (.iconst 1, 1) := by decide +kernel
theorem dX12_noise_67 : decode cX12_noise 67 = .ok (.goto 4, 3) := by decide +kernel
theorem dX12_noise_70 : decode cX12_noise 70 = .ok (.iconst 0, 1) := by decide +kernel
theorem dX12_noise_71 : decode cX12_noise 71 = .ok (.iadd, 1) := by decide +kernel
theorem dX12_noise_72 : decode cX12_noise 72 = .ok (.istore 4, 2) := by decide +kernel
theorem dX12_noise_74 : decode cX12_noise 74 = .ok (.iinc 5 1, 3) := by decide +kernel
theorem dX12_noise_77 : decode cX12_noise 77 = .ok (.goto (-26), 3) := by decide +kernel
theorem dX12_noise_80 : decode cX12_noise 80 = .ok (.iload 4, 2) := by decide +kernel
theorem dX12_noise_82 : decode cX12_noise 82 = .ok (.ifCond .le 11, 3) := by decide +kernel
theorem dX12_noise_85 : decode cX12_noise 85 = .ok (.aload_n 0, 1) := by decide +kernel
theorem dX12_noise_86 : decode cX12_noise 86 = .ok (.aload_n 0, 1) := by decide +kernel
theorem dX12_noise_87 : decode cX12_noise 87 = .ok (.getfield 42, 3) := by decide +kernel
theorem dX12_noise_90 : decode cX12_noise 90 = .ok (.invokevirtual 274, 3) := by decide +kernel
theorem dX12_noise_93 : decode cX12_noise 93 = .ok (.iload 4, 2) := by decide +kernel
theorem dX12_noise_95 : decode cX12_noise 95 = .ok (.ireturn, 1) := by decide +kernel
theorem dX12_torn_0 : decode cX12_torn 0 = .ok (.aload_n 0, 1) := by decide +kernel
theorem dX12_torn_1 : decode cX12_torn 1 = .ok (.iload_n 1, 1) := by decide +kernel
theorem dX12_torn_2 : decode cX12_torn 2 = .ok (.bipush 6, 2) := by decide +kernel
theorem dX12_torn_4 : decode cX12_torn 4 = .ok (.aload_n 0, 1) := by decide +kernel
theorem dX12_torn_5 : decode cX12_torn 5 = .ok (.iload_n 1, 1) := by decide +kernel
theorem dX12_torn_6 : decode cX12_torn 6 = .ok (.bipush 8, 2) := by decide +kernel
theorem dX12_torn_8 : decode cX12_torn 8 = .ok (.invokevirtual 286, 3) := by decide +kernel
theorem dX12_torn_11 : decode cX12_torn 11 = .ok (.ifCond .le 7, 3) := by decide +kernel
theorem dX12_torn_14 : decode cX12_torn 14 = .ok (.iconst 1, 1) := by decide +kernel
theorem dX12_torn_15 : decode cX12_torn 15 = .ok (.goto 4, 3) := by decide +kernel
theorem dX12_torn_18 : decode cX12_torn 18 = .ok (.iconst 0, 1) := by decide +kernel
theorem dX12_torn_19 : decode cX12_torn 19 = .ok (.invokevirtual 295, 3) := by decide +kernel
theorem dX12_torn_22 : decode cX12_torn 22 = .ok (.aload_n 0, 1) := by decide +kernel
theorem dX12_torn_23 : decode cX12_torn 23 = .ok (.iload_n 1, 1) := by decide +kernel
theorem dX12_torn_24 : decode cX12_torn 24 = .ok (.bipush 8, 2) := by decide +kernel
theorem dX12_torn_26 : decode cX12_torn 26 = .ok (.iconst 0, 1) := by decide +kernel
theorem dX12_torn_27 : decode cX12_torn 27 = .ok (.invokevirtual 201, 3) := by decide +kernel
theorem dX12_torn_30 : decode cX12_torn 30 = .ok (.aload_n 0, 1) := by decide +kernel
theorem dX12_torn_31 : decode cX12_torn 31 = .ok (.iload_n 1, 1) := by decide +kernel
theorem dX12_torn_32 : decode cX12_torn 32 = .ok (.bipush 9, 2) := by decide +kernel
theorem dX12_torn_34 : decode cX12_torn 34 = .ok (.iconst 0, 1) := by decide +kernel
theorem dX12_torn_35 : decode cX12_torn 35 = .ok (.invokevirtual 201, 3) := by decide +kernel
theorem dX12_torn_38 : decode cX12_torn 38 = .ok (.aload_n 0, 1) := by decide +kernel
theorem dX12_torn_39 : decode cX12_torn 39 = .ok (.iload_n 1, 1) := by decide +kernel
theorem dX12_torn_40 : decode cX12_torn 40 = .ok (.bipush 11, 2) := by decide +kernel
theorem dX12_torn_42 : decode cX12_torn 42 = .ok (.iconst 0, 1) := by decide +kernel
theorem dX12_torn_43 : decode cX12_torn 43 = .ok (.invokevirtual 201, 3) := by decide +kernel
theorem dX12_torn_46 : decode cX12_torn 46 = .ok (.return_, 1) := by decide +kernel
theorem dX12_hereAt_0 : decode cX12_hereAt 0 = .ok (.sipush 1100, 3) := by decide +kernel
theorem dX12_hereAt_3 : decode cX12_hereAt 3 = .ok (.bipush 122, 2) := by decide +kernel
theorem dX12_hereAt_5 : decode cX12_hereAt 5 = .ok (.iload_n 0, 1) := by decide +kernel
theorem dX12_hereAt_6 : decode cX12_hereAt 6 = .ok (.imul, 1) := by decide +kernel
theorem dX12_hereAt_7 : decode cX12_hereAt 7 = .ok (.iadd, 1) := by decide +kernel
theorem dX12_hereAt_8 : decode cX12_hereAt 8 = .ok (.ireturn, 1) := by decide +kernel
theorem dX12_ends_0 : decode cX12_ends 0 = .ok (.aload_n 0, 1) := by decide +kernel
theorem dX12_ends_1 : decode cX12_ends 1 = .ok (.iload_n 1, 1) := by decide +kernel
theorem dX12_ends_2 : decode cX12_ends 2 = .ok (.bipush 7, 2) := by decide +kernel
theorem dX12_ends_4 : decode cX12_ends 4 = .ok (.invokevirtual 286, 3) := by decide +kernel
theorem dX12_ends_7 : decode cX12_ends 7 = .ok (.bipush 8, 2) := by decide +kernel
theorem dX12_ends_9 : decode cX12_ends 9 = .ok (.if_icmp .ne 11, 3) := by decide +kernel
theorem dX12_ends_12 : decode cX12_ends 12 = .ok (.aload_n 0, 1) := by decide +kernel
theorem dX12_ends_13 : decode cX12_ends 13 = .ok (.iload_n 1, 1) := by decide +kernel
theorem dX12_ends_14 : decode cX12_ends 14 = .ok (.invokevirtual 346, 3) := by decide +kernel
theorem dX12_ends_17 : decode cX12_ends 17 = .ok (.bipush 6, 2) := by decide +kernel
theorem dX12_ends_19 : decode cX12_ends 19 = .ok (.ireturn, 1) := by decide +kernel
theorem dX12_ends_20 : decode cX12_ends 20 = .ok (.aload_n 0, 1) := by decide +kernel
theorem dX12_ends_21 : decode cX12_ends 21 = .ok (.iload_n 1, 1) := by decide +kernel
theorem dX12_ends_22 : decode cX12_ends 22 = .ok (.bipush 7, 2) := by decide +kernel
theorem dX12_ends_24 : decode cX12_ends 24 = .ok (.invokevirtual 286, 3) := by decide +kernel
theorem dX12_ends_27 : decode cX12_ends 27 = .ok (.invokestatic 349, 3) := by decide +kernel
theorem dX12_ends_30 : decode cX12_ends 30 = .ok (.istore_n 2, 1) := by decide +kernel
theorem dX12_ends_31 : decode cX12_ends 31 = .ok (.aload_n 0, 1) := by decide +kernel
theorem dX12_ends_32 : decode cX12_ends 32 = .ok (.iload_n 1, 1) := by decide +kernel
theorem dX12_ends_33 : decode cX12_ends 33 = .ok (.iload_n 2, 1) := by decide +kernel
theorem dX12_ends_34 : decode cX12_ends 34 = .ok (.aload_n 0, 1) := by decide +kernel
theorem dX12_ends_35 : decode cX12_ends 35 = .ok (.iload_n 1, 1) := by decide +kernel
theorem dX12_ends_36 : decode cX12_ends 36 = .ok (.bipush 9, 2) := by decide +kernel
theorem dX12_ends_38 : decode cX12_ends 38 = .ok (.invokevirtual 286, 3) := by decide +kernel
theorem dX12_ends_41 : decode cX12_ends 41 = .ok (.invokevirtual 201, 3) := by decide +kernel
theorem dX12_ends_44 : decode cX12_ends 44 = .ok (.aload_n 0, 1) := by decide +kernel
theorem dX12_ends_45 : decode cX12_ends 45 = .ok (.iload_n 1, 1) := by decide +kernel
theorem dX12_ends_46 : decode cX12_ends 46 = .ok (.iload_n 2, 1) := by decide +kernel
theorem dX12_ends_47 : decode cX12_ends 47 = .ok (.iconst 1, 1) := by decide +kernel
theorem dX12_ends_48 : decode cX12_ends 48 = .ok (.iadd, 1) := by decide +kernel
theorem dX12_ends_49 : decode cX12_ends 49 = .ok (.aload_n 0, 1) := by decide +kernel
theorem dX12_ends_50 : decode cX12_ends 50 = .ok (.iload_n 1, 1) := by decide +kernel
theorem dX12_ends_51 : decode cX12_ends 51 = .ok (.bipush 8, 2) := by decide +kernel
theorem dX12_ends_53 : decode cX12_ends 53 = .ok (.invokevirtual 286, 3) := by decide +kernel
theorem dX12_ends_56 : decode cX12_ends 56 = .ok (.invokevirtual 201, 3) := by decide +kernel
theorem dX12_ends_59 : decode cX12_ends 59 = .ok (.iconst 0, 1) := by decide +kernel
theorem dX12_ends_60 : decode cX12_ends 60 = .ok (.istore_n 3, 1) := by decide +kernel
theorem dX12_ends_61 : decode cX12_ends 61 = .ok (.iload_n 3, 1) := by decide +kernel
theorem dX12_ends_62 : decode cX12_ends 62 = .ok (.aload_n 0, 1) := by decide +kernel
theorem dX12_ends_63 : decode cX12_ends 63 = .ok (.iload_n 1, 1) := by decide +kernel
theorem dX12_ends_64 : decode cX12_ends 64 = .ok (.bipush 9, 2) := by decide +kernel
theorem dX12_ends_66 : decode cX12_ends 66 = .ok (.invokevirtual 286, 3) := by decide +kernel
theorem dX12_ends_69 : decode cX12_ends 69 = .ok (.if_icmp .ge 29, 3) := by decide +kernel
theorem dX12_ends_72 : decode cX12_ends 72 = .ok (.aload_n 0, 1) := by decide +kernel
theorem dX12_ends_73 : decode cX12_ends 73 = .ok (.iload_n 1, 1) := by decide +kernel
theorem dX12_ends_74 : decode cX12_ends 74 = .ok (.iload_n 2, 1) := by decide +kernel
theorem dX12_ends_75 : decode cX12_ends 75 = .ok (.iconst 2, 1) := by decide +kernel
theorem dX12_ends_76 : decode cX12_ends 76 = .ok (.iadd, 1) := by decide +kernel
theorem dX12_ends_77 : decode cX12_ends 77 = .ok (.iload_n 3, 1) := by decide +kernel
theorem dX12_ends_78 : decode cX12_ends 78 = .ok (.iadd, 1) := by decide +kernel
theorem dX12_ends_79 : decode cX12_ends 79 = .ok (.aload_n 0, 1) := by decide +kernel
theorem dX12_ends_80 : decode cX12_ends 80 = .ok (.iload_n 1, 1) := by decide +kernel
theorem dX12_ends_81 : decode cX12_ends 81 = .ok (.sipush 980, 3) := by decide +kernel
theorem dX12_ends_84 : decode cX12_ends 84 = .ok (.iload_n 3, 1) := by decide +kernel
theorem dX12_ends_85 : decode cX12_ends 85 = .ok (.iadd, 1) := by decide +kernel
theorem dX12_ends_86 : decode cX12_ends 86 = .ok (.invokevirtual 286, 3) := by decide +kernel
theorem dX12_ends_89 : decode cX12_ends 89 = .ok (.invokevirtual 201, 3) := by decide +kernel
theorem dX12_ends_92 : decode cX12_ends 92 = .ok (.iinc 3 1, 3) := by decide +kernel
theorem dX12_ends_95 : decode cX12_ends 95 = .ok (.goto (-34), 3) := by decide +kernel
theorem dX12_ends_98 : decode cX12_ends 98 = .ok (.aload_n 0, 1) := by decide +kernel
theorem dX12_ends_99 : decode cX12_ends 99 = .ok (.iload_n 1, 1) := by decide +kernel
theorem dX12_ends_100 : decode cX12_ends 100 = .ok (.bipush 7, 2) := by decide +kernel
theorem dX12_ends_102 : decode cX12_ends 102 = .ok (.iconst 1, 1) := by decide +kernel
theorem dX12_ends_103 : decode cX12_ends 103 = .ok (.invokevirtual 295, 3) := by decide +kernel
theorem dX12_ends_106 : decode cX12_ends 106 = .ok (.aload_n 0, 1) := by decide +kernel
theorem dX12_ends_107 : decode cX12_ends 107 = .ok (.iload_n 1, 1) := by decide +kernel
theorem dX12_ends_108 : decode cX12_ends 108 = .ok (.bipush 8, 2) := by decide +kernel
theorem dX12_ends_110 : decode cX12_ends 110 = .ok (.iconst 0, 1) := by decide +kernel
theorem dX12_ends_111 : decode cX12_ends 111 = .ok (.invokevirtual 201, 3) := by decide +kernel
theorem dX12_ends_114 : decode cX12_ends 114 = .ok (.aload_n 0, 1) := by decide +kernel
theorem dX12_ends_115 : decode cX12_ends 115 = .ok (.iload_n 1, 1) := by decide +kernel
theorem dX12_ends_116 : decode cX12_ends 116 = .ok (.bipush 9, 2) := by decide +kernel
theorem dX12_ends_118 : decode cX12_ends 118 = .ok (.iconst 0, 1) := by decide +kernel
theorem dX12_ends_119 : decode cX12_ends 119 = .ok (.invokevirtual 201, 3) := by decide +kernel
theorem dX12_ends_122 : decode cX12_ends 122 = .ok (.aload_n 0, 1) := by decide +kernel
theorem dX12_ends_123 : decode cX12_ends 123 = .ok (.iload_n 1, 1) := by decide +kernel
theorem dX12_ends_124 : decode cX12_ends 124 = .ok (.bipush 11, 2) := by decide +kernel
theorem dX12_ends_126 : decode cX12_ends 126 = .ok (.iconst 0, 1) := by decide +kernel
theorem dX12_ends_127 : decode cX12_ends 127 = .ok (.invokevirtual 201, 3) := by decide +kernel
theorem dX12_ends_130 : decode cX12_ends 130 = .ok (.iconst 1, 1) := by decide +kernel
theorem dX12_ends_131 : decode cX12_ends 131 = .ok (.ireturn, 1) := by decide +kernel
theorem dX12_takesFrame_0 : decode cX12_takesFrame 0 = .ok (.aload_n 0, 1) := by decide +kernel
theorem dX12_takesFrame_1 : decode cX12_takesFrame 1 = .ok (.getfield 29, 3) := by decide +kernel
theorem dX12_takesFrame_4 : decode cX12_takesFrame 4 = .ok (.iconst 0, 1) := by decide +kernel
theorem dX12_takesFrame_5 : decode cX12_takesFrame 5 = .ok (.iaload, 1) := by decide +kernel
theorem dX12_takesFrame_6 : decode cX12_takesFrame 6 = .ok (.istore_n 1, 1) := by decide +kernel
theorem dX12_takesFrame_7 : decode cX12_takesFrame 7 = .ok (.iload_n 1, 1) := by decide +kernel
theorem dX12_takesFrame_8 : decode cX12_takesFrame 8 = .ok (.bipush 64, 2) := by decide +kernel
theorem dX12_takesFrame_10 : decode cX12_takesFrame 10 = .ok (.idiv, 1) := by decide +kernel
theorem dX12_takesFrame_11 : decode cX12_takesFrame 11 = .ok (.istore_n 2, 1) := by decide +kernel
theorem dX12_takesFrame_12 : decode cX12_takesFrame 12 = .ok (.iload_n 1, 1) := by decide +kernel
theorem dX12_takesFrame_13 : decode cX12_takesFrame 13 = .ok (.bipush 16, 2) := by decide +kernel
theorem dX12_takesFrame_15 : decode cX12_takesFrame 15 = .ok (.irem, 1) := by decide +kernel
theorem dX12_takesFrame_16 : decode cX12_takesFrame 16 = .ok (.aload_n 0, 1) := by decide +kernel
theorem dX12_takesFrame_17 : decode cX12_takesFrame 17 = .ok (.iload_n 2, 1) := by decide +kernel
theorem dX12_takesFrame_18 : decode cX12_takesFrame 18 = .ok (.iconst 4, 1) := by decide +kernel
theorem dX12_takesFrame_19 : decode cX12_takesFrame 19 = .ok (.invokevirtual 286, 3) := by decide +kernel
theorem dX12_takesFrame_22 : decode cX12_takesFrame 22 = .ok (.isub, 1) := by decide +kernel
theorem dX12_takesFrame_23 : decode cX12_takesFrame 23 = .ok (.bipush 16, 2) := by decide +kernel
theorem dX12_takesFrame_25 : decode cX12_takesFrame 25 = .ok (.iadd, 1) := by decide +kernel
theorem dX12_takesFrame_26 : decode cX12_takesFrame 26 = .ok (.bipush 16, 2) := by decide +kernel
theorem dX12_takesFrame_28 : decode cX12_takesFrame 28 = .ok (.irem, 1) := by decide +kernel
theorem dX12_takesFrame_29 : decode cX12_takesFrame 29 = .ok (.istore_n 3, 1) := by decide +kernel
theorem dX12_takesFrame_30 : decode cX12_takesFrame 30 = .ok (.iload_n 3, 1) := by decide +kernel
theorem dX12_takesFrame_31 : decode cX12_takesFrame 31 = .ok (.ifCond .le 15, 3) := by decide +kernel
theorem dX12_takesFrame_34 : decode cX12_takesFrame 34 = .ok (.aload_n 0, 1) := by decide +kernel
theorem dX12_takesFrame_35 : decode cX12_takesFrame 35 = .ok (.iload_n 2, 1) := by decide +kernel
theorem dX12_takesFrame_36 : decode cX12_takesFrame 36 = .ok (.iconst 5, 1) := by decide +kernel
theorem dX12_takesFrame_37 : decode cX12_takesFrame 37 = .ok (.iload_n 3, 1) := by decide +kernel
theorem dX12_takesFrame_38 : decode cX12_takesFrame 38 = .ok (.invokevirtual 295, 3) := by decide +kernel
theorem dX12_takesFrame_41 : decode cX12_takesFrame 41 = .ok (.aload_n 0, 1) := by decide +kernel
theorem dX12_takesFrame_42 : decode cX12_takesFrame 42 = .ok (.iload_n 2, 1) := by decide +kernel
theorem dX12_takesFrame_43 : decode cX12_takesFrame 43 = .ok (.invokevirtual 346, 3) := by decide +kernel
theorem dX12_takesFrame_46 : decode cX12_takesFrame 46 = .ok (.aload_n 0, 1) := by decide +kernel
theorem dX12_takesFrame_47 : decode cX12_takesFrame 47 = .ok (.iload_n 2, 1) := by decide +kernel
theorem dX12_takesFrame_48 : decode cX12_takesFrame 48 = .ok (.iconst 4, 1) := by decide +kernel
theorem dX12_takesFrame_49 : decode cX12_takesFrame 49 = .ok (.iload_n 1, 1) := by decide +kernel
theorem dX12_takesFrame_50 : decode cX12_takesFrame 50 = .ok (.iconst 1, 1) := by decide +kernel
theorem dX12_takesFrame_51 : decode cX12_takesFrame 51 = .ok (.iadd, 1) := by decide +kernel
theorem dX12_takesFrame_52 : decode cX12_takesFrame 52 = .ok (.bipush 16, 2) := by decide +kernel
theorem dX12_takesFrame_54 : decode cX12_takesFrame 54 = .ok (.irem, 1) := by decide +kernel
theorem dX12_takesFrame_55 : decode cX12_takesFrame 55 = .ok (.invokevirtual 201, 3) := by decide +kernel
theorem dX12_takesFrame_58 : decode cX12_takesFrame 58 = .ok (.iload_n 1, 1) := by decide +kernel
theorem dX12_takesFrame_59 : decode cX12_takesFrame 59 = .ok (.bipush 32, 2) := by decide +kernel
theorem dX12_takesFrame_61 : decode cX12_takesFrame 61 = .ok (.iand, 1) := by decide +kernel
theorem dX12_takesFrame_62 : decode cX12_takesFrame 62 = .ok (.ifCond .eq 7, 3) := by decide +kernel
theorem dX12_takesFrame_65 : decode cX12_takesFrame 65 = .ok (.iconst 1, 1) := by decide +kernel
theorem dX12_takesFrame_66 : decode cX12_takesFrame 66 = .ok (.goto 4, 3) := by decide +kernel
theorem dX12_takesFrame_69 : decode cX12_takesFrame 69 = .ok (.iconst 0, 1) := by decide +kernel
theorem dX12_takesFrame_70 : decode cX12_takesFrame 70 = .ok (.istore 4, 2) := by decide +kernel
theorem dX12_takesFrame_72 : decode cX12_takesFrame 72 = .ok (.iload 4, 2) := by decide +kernel
theorem dX12_takesFrame_74 : decode cX12_takesFrame 74 = .ok (.ifCond .eq 16, 3) := by decide +kernel
theorem dX12_takesFrame_77 : decode cX12_takesFrame 77 = .ok (.aload_n 0, 1) := by decide +kernel
theorem dX12_takesFrame_78 : decode cX12_takesFrame 78 = .ok (.iload_n 2, 1) := by decide +kernel
theorem dX12_takesFrame_79 : decode cX12_takesFrame 79 = .ok (.invokevirtual 346, 3) := by decide +kernel
theorem dX12_takesFrame_82 : decode cX12_takesFrame 82 = .ok (.aload_n 0, 1) := by decide +kernel
theorem dX12_takesFrame_83 : decode cX12_takesFrame 83 = .ok (.iload_n 2, 1) := by decide +kernel
theorem dX12_takesFrame_84 : decode cX12_takesFrame 84 = .ok (.bipush 11, 2) := by decide +kernel
theorem dX12_takesFrame_86 : decode cX12_takesFrame 86 = .ok (.iconst 1, 1) := by decide +kernel
theorem dX12_takesFrame_87 : decode cX12_takesFrame 87 = .ok (.invokevirtual 201, 3) := by decide +kernel
theorem dX12_takesFrame_90 : decode cX12_takesFrame 90 = .ok (.aload_n 0, 1) := by decide +kernel
theorem dX12_takesFrame_91 : decode cX12_takesFrame 91 = .ok (.iload_n 2, 1) := by decide +kernel
theorem dX12_takesFrame_92 : decode cX12_takesFrame 92 = .ok (.bipush 11, 2) := by decide +kernel
theorem dX12_takesFrame_94 : decode cX12_takesFrame 94 = .ok (.invokevirtual 286, 3) := by decide +kernel
theorem dX12_takesFrame_97 : decode cX12_takesFrame 97 = .ok (.ifCond .ne 5, 3) := by decide +kernel
theorem dX12_takesFrame_100 : decode cX12_takesFrame 100 = .ok (.iconst 5, 1) := by decide +kernel
theorem dX12_takesFrame_101 : decode cX12_takesFrame 101 = .ok (.ireturn, 1) := by decide +kernel
theorem dX12_takesFrame_102 : decode cX12_takesFrame 102 = .ok (.aload_n 0, 1) := by decide +kernel
theorem dX12_takesFrame_103 : decode cX12_takesFrame 103 = .ok (.invokevirtual 352, 3) := by decide +kernel
theorem dX12_takesFrame_106 : decode cX12_takesFrame 106 = .ok (.istore 5, 2) := by decide +kernel
theorem dX12_takesFrame_108 : decode cX12_takesFrame 108 = .ok (.aload_n 0, 1) := by decide +kernel
theorem dX12_takesFrame_109 : decode cX12_takesFrame 109 = .ok (.iload_n 2, 1) := by decide +kernel
theorem dX12_takesFrame_110 : decode cX12_takesFrame 110 = .ok (.bipush 9, 2) := by decide +kernel
theorem dX12_takesFrame_112 : decode cX12_takesFrame 112 = .ok (.invokevirtual 286, 3) := by decide +kernel
theorem dX12_takesFrame_115 : decode cX12_takesFrame 115 = .ok (.iload 5, 2) := by decide +kernel
theorem dX12_takesFrame_117 : decode cX12_takesFrame 117 = .ok (.iadd, 1) := by decide +kernel
theorem dX12_takesFrame_118 : decode cX12_takesFrame 118 = .ok (.bipush 120, 2) := by decide +kernel
theorem dX12_takesFrame_120 : decode cX12_takesFrame 120 = .ok (.if_icmp .le 10, 3) := by decide +kernel
theorem dX12_takesFrame_123 : decode cX12_takesFrame 123 = .ok (.aload_n 0, 1) := by decide +kernel
theorem dX12_takesFrame_124 : decode cX12_takesFrame 124 = .ok (.iload_n 2, 1) := by decide +kernel
theorem dX12_takesFrame_125 : decode cX12_takesFrame 125 = .ok (.invokevirtual 346, 3) := by decide +kernel
theorem dX12_takesFrame_128 : decode cX12_takesFrame 128 = .ok (.iconst 5, 1) := by decide +kernel
theorem dX12_takesFrame_129 : decode cX12_takesFrame 129 = .ok (.ireturn, 1) := by decide +kernel
theorem dX12_takesFrame_130 : decode cX12_takesFrame 130 = .ok (.iconst 0, 1) := by decide +kernel
theorem dX12_takesFrame_131 : decode cX12_takesFrame 131 = .ok (.istore 6, 2) := by decide +kernel
theorem dX12_takesFrame_133 : decode cX12_takesFrame 133 = .ok (.iload 6, 2) := by decide +kernel
theorem dX12_takesFrame_135 : decode cX12_takesFrame 135 = .ok (.iload 5, 2) := by decide +kernel
theorem dX12_takesFrame_137 : decode cX12_takesFrame 137 = .ok (.if_icmp .ge 37, 3) := by decide +kernel
theorem dX12_takesFrame_140 : decode cX12_takesFrame 140 = .ok (.aload_n 0, 1) := by decide +kernel
theorem dX12_takesFrame_141 : decode cX12_takesFrame 141 = .ok (.iload_n 2, 1) := by decide +kernel
theorem dX12_takesFrame_142 : decode cX12_takesFrame 142 = .ok (.sipush 980, 3) := by decide +kernel
theorem dX12_takesFrame_145 : decode cX12_takesFrame 145 = .ok (.aload_n 0, 1) := by decide +kernel
theorem dX12_takesFrame_146 : decode cX12_takesFrame 146 = .ok (.iload_n 2, 1) := by decide +kernel
theorem dX12_takesFrame_147 : decode cX12_takesFrame 147 = .ok (.bipush 9, 2) := by decide +kernel
theorem dX12_takesFrame_149 : decode cX12_takesFrame 149 = .ok (.invokevirtual 286, 3) := by decide +kernel
theorem dX12_takesFrame_152 : decode cX12_takesFrame 152 = .ok (.iadd, 1) := by decide +kernel
theorem dX12_takesFrame_153 : decode cX12_takesFrame 153 = .ok (.iload 6, 2) := by decide +kernel
theorem dX12_takesFrame_155 : decode cX12_takesFrame 155 = .ok (.iadd, 1) := by decide +kernel
theorem dX12_takesFrame_156 : decode cX12_takesFrame 156 = .ok (.aload_n 0, 1) := by decide +kernel
theorem dX12_takesFrame_157 : decode cX12_takesFrame 157 = .ok (.getfield 29, 3) := by decide +kernel
theorem dX12_takesFrame_160 : decode cX12_takesFrame 160 = .ok (.iconst 1, 1) := by decide +kernel
theorem dX12_takesFrame_161 : decode cX12_takesFrame 161 = .ok (.iload 6, 2) := by decide +kernel
theorem dX12_takesFrame_163 : decode cX12_takesFrame 163 = .ok (.iadd, 1) := by decide +kernel
theorem dX12_takesFrame_164 : decode cX12_takesFrame 164 = .ok (.iaload, 1) := by decide +kernel
theorem dX12_takesFrame_165 : decode cX12_takesFrame 165 = .ok (.invokevirtual 201, 3) := by decide +kernel
theorem dX12_takesFrame_168 : decode cX12_takesFrame 168 = .ok (.iinc 6 1, 3) := by decide +kernel
theorem dX12_takesFrame_171 : decode cX12_takesFrame 171 = .ok (.goto (-38), 3) := by decide +kernel
theorem dX12_takesFrame_174 : decode cX12_takesFrame 174 = .ok (.aload_n 0, 1) := by decide +kernel
theorem dX12_takesFrame_175 : decode cX12_takesFrame 175 = .ok (.iload_n 2, 1) := by decide +kernel
theorem dX12_takesFrame_176 : decode cX12_takesFrame 176 = .ok (.bipush 9, 2) := by decide +kernel
theorem dX12_takesFrame_178 : decode cX12_takesFrame 178 = .ok (.iload 5, 2) := by decide +kernel
theorem dX12_takesFrame_180 : decode cX12_takesFrame 180 = .ok (.invokevirtual 295, 3) := by decide +kernel
theorem dX12_takesFrame_183 : decode cX12_takesFrame 183 = .ok (.aload_n 0, 1) := by decide +kernel
theorem dX12_takesFrame_184 : decode cX12_takesFrame 184 = .ok (.iload_n 2, 1) := by decide +kernel
theorem dX12_takesFrame_185 : decode cX12_takesFrame 185 = .ok (.bipush 8, 2) := by decide +kernel
theorem dX12_takesFrame_187 : decode cX12_takesFrame 187 = .ok (.iconst 1, 1) := by decide +kernel
theorem dX12_takesFrame_188 : decode cX12_takesFrame 188 = .ok (.invokevirtual 295, 3) := by decide +kernel
theorem dX12_takesFrame_191 : decode cX12_takesFrame 191 = .ok (.iload_n 1, 1) := by decide +kernel
theorem dX12_takesFrame_192 : decode cX12_takesFrame 192 = .ok (.bipush 16, 2) := by decide +kernel
theorem dX12_takesFrame_194 : decode cX12_takesFrame 194 = .ok (.iand, 1) := by decide +kernel
theorem dX12_takesFrame_195 : decode cX12_takesFrame 195 = .ok (.ifCond .eq 11, 3) := by decide +kernel
theorem dX12_takesFrame_198 : decode cX12_takesFrame 198 = .ok (.aload_n 0, 1) := by decide +kernel
theorem dX12_takesFrame_199 : decode cX12_takesFrame 199 = .ok (.iload_n 2, 1) := by decide +kernel
theorem dX12_takesFrame_200 : decode cX12_takesFrame 200 = .ok (.invokevirtual 355, 3) := by decide +kernel
theorem dX12_takesFrame_203 : decode cX12_takesFrame 203 = .ok (.goto 4, 3) := by decide +kernel
theorem dX12_takesFrame_206 : decode cX12_takesFrame 206 = .ok (.iconst 0, 1) := by decide +kernel
theorem dX12_takesFrame_207 : decode cX12_takesFrame 207 = .ok (.ireturn, 1) := by decide +kernel
theorem dX12_event_0 : decode cX12_event 0 = .ok (.sipush 199, 3) := by decide +kernel
theorem dX12_event_3 : decode cX12_event 3 = .ok (.istore 6, 2) := by decide +kernel
theorem dX12_event_5 : decode cX12_event 5 = .ok (.iload 6, 2) := by decide +kernel
theorem dX12_event_7 : decode cX12_event 7 = .ok (.iconst 5, 1) := by decide +kernel
theorem dX12_event_8 : decode cX12_event 8 = .ok (.if_icmp .lt 33, 3) := by decide +kernel
theorem dX12_event_11 : decode cX12_event 11 = .ok (.aload_n 0, 1) := by decide +kernel
theorem dX12_event_12 : decode cX12_event 12 = .ok (.getfield 16, 3) := by decide +kernel
theorem dX12_event_15 : decode cX12_event 15 = .ok (.sipush 805, 3) := by decide +kernel
theorem dX12_event_18 : decode cX12_event 18 = .ok (.iload 6, 2) := by decide +kernel
theorem dX12_event_20 : decode cX12_event 20 = .ok (.iadd, 1) := by decide +kernel
theorem dX12_event_21 : decode cX12_event 21 = .ok (.aload_n 0, 1) := by decide +kernel
theorem dX12_event_22 : decode cX12_event 22 = .ok (.getfield 16, 3) := by decide +kernel
theorem dX12_event_25 : decode cX12_event 25 = .ok (.sipush 805, 3) := by decide +kernel
theorem dX12_event_28 : decode cX12_event 28 = .ok (.iload 6, 2) := by decide +kernel
theorem dX12_event_30 : decode cX12_event 30 = .ok (.iadd, 1) := by decide +kernel
theorem dX12_event_31 : decode cX12_event 31 = .ok (.iconst 5, 1) := by decide +kernel
theorem dX12_event_32 : decode cX12_event 32 = .ok (.isub, 1) := by decide +kernel
theorem dX12_event_33 : decode cX12_event 33 = .ok (.iaload, 1) := by decide +kernel
theorem dX12_event_34 : decode cX12_event 34 = .ok (.iastore, 1) := by decide +kernel
theorem dX12_event_35 : decode cX12_event 35 = .ok (.iinc 6 (-1), 3) := by decide +kernel
theorem dX12_event_38 : decode cX12_event 38 = .ok (.goto (-33), 3) := by decide +kernel
theorem dX12_event_41 : decode cX12_event 41 = .ok (.aload_n 0, 1) := by decide +kernel
theorem dX12_event_42 : decode cX12_event 42 = .ok (.getfield 16, 3) := by decide +kernel
theorem dX12_event_45 : decode cX12_event 45 = .ok (.sipush 805, 3) := by decide +kernel
theorem dX12_event_48 : decode cX12_event 48 = .ok (.iload_n 1, 1) := by decide +kernel
theorem dX12_event_49 : decode cX12_event 49 = .ok (.iastore, 1) := by decide +kernel
theorem dX12_event_50 : decode cX12_event 50 = .ok (.aload_n 0, 1) := by decide +kernel
theorem dX12_event_51 : decode cX12_event 51 = .ok (.getfield 16, 3) := by decide +kernel
theorem dX12_event_54 : decode cX12_event 54 = .ok (.sipush 806, 3) := by decide +kernel
theorem dX12_event_57 : decode cX12_event 57 = .ok (.iload_n 2, 1) := by decide +kernel
theorem dX12_event_58 : decode cX12_event 58 = .ok (.iastore, 1) := by decide +kernel
theorem dX12_event_59 : decode cX12_event 59 = .ok (.aload_n 0, 1) := by decide +kernel
theorem dX12_event_60 : decode cX12_event 60 = .ok (.getfield 16, 3) := by decide +kernel
theorem dX12_event_63 : decode cX12_event 63 = .ok (.sipush 807, 3) := by decide +kernel
theorem dX12_event_66 : decode cX12_event 66 = .ok (.iload_n 3, 1) := by decide +kernel
theorem dX12_event_67 : decode cX12_event 67 = .ok (.iastore, 1) := by decide +kernel
theorem dX12_event_68 : decode cX12_event 68 = .ok (.aload_n 0, 1) := by decide +kernel
theorem dX12_event_69 : decode cX12_event 69 = .ok (.getfield 16, 3) := by decide +kernel
theorem dX12_event_72 : decode cX12_event 72 = .ok (.sipush 808, 3) := by decide +kernel
theorem dX12_event_75 : decode cX12_event 75 = .ok (.iload 4, 2) := by decide +kernel
theorem dX12_event_77 : decode cX12_event 77 = .ok (.iastore, 1) := by decide +kernel
theorem dX12_event_78 : decode cX12_event 78 = .ok (.aload_n 0, 1) := by decide +kernel
theorem dX12_event_79 : decode cX12_event 79 = .ok (.getfield 16, 3) := by decide +kernel
theorem dX12_event_82 : decode cX12_event 82 = .ok (.sipush 809, 3) := by decide +kernel
theorem dX12_event_85 : decode cX12_event 85 = .ok (.iload 5, 2) := by decide +kernel
theorem dX12_event_87 : decode cX12_event 87 = .ok (.iastore, 1) := by decide +kernel
theorem dX12_event_88 : decode cX12_event 88 = .ok (.aload_n 0, 1) := by decide +kernel
theorem dX12_event_89 : decode cX12_event 89 = .ok (.getfield 16, 3) := by decide +kernel
theorem dX12_event_92 : decode cX12_event 92 = .ok (.sipush 804, 3) := by decide +kernel
theorem dX12_event_95 : decode cX12_event 95 = .ok (.dup2, 1) := by decide +kernel
theorem dX12_event_96 : decode cX12_event 96 = .ok (.iaload, 1) := by decide +kernel
theorem dX12_event_97 : decode cX12_event 97 = .ok (.iconst 1, 1) := by decide +kernel
theorem dX12_event_98 : decode cX12_event 98 = .ok (.iadd, 1) := by decide +kernel
theorem dX12_event_99 : decode cX12_event 99 = .ok (.iastore, 1) := by decide +kernel
theorem dX12_event_100 : decode cX12_event 100 = .ok (.return_, 1) := by decide +kernel
theorem dX12_marks_0 : decode cX12_marks 0 = .ok (.aload_n 0, 1) := by decide +kernel
theorem dX12_marks_1 : decode cX12_marks 1 = .ok (.getfield 16, 3) := by decide +kernel
theorem dX12_marks_4 : decode cX12_marks 4 = .ok (.sipush 601, 3) := by decide +kernel
theorem dX12_marks_7 : decode cX12_marks 7 = .ok (.iaload, 1) := by decide +kernel
theorem dX12_marks_8 : decode cX12_marks 8 = .ok (.istore_n 1, 1) := by decide +kernel
theorem dX12_marks_9 : decode cX12_marks 9 = .ok (.aload_n 0, 1) := by decide +kernel
theorem dX12_marks_10 : decode cX12_marks 10 = .ok (.getfield 16, 3) := by decide +kernel
theorem dX12_marks_13 : decode cX12_marks 13 = .ok (.sipush 602, 3) := by decide +kernel
theorem dX12_marks_16 : decode cX12_marks 16 = .ok (.iaload, 1) := by decide +kernel
theorem dX12_marks_17 : decode cX12_marks 17 = .ok (.iconst 1, 1) := by decide +kernel
theorem dX12_marks_18 : decode cX12_marks 18 = .ok (.if_icmp .ne 7, 3) := by decide +kernel
theorem dX12_marks_21 : decode cX12_marks 21 = .ok (.iconst 1, 1) := by decide +kernel
theorem dX12_marks_22 : decode cX12_marks 22 = .ok (.goto 4, 3) := by decide +kernel
theorem dX12_marks_25 : decode cX12_marks 25 = .ok (.iconst 0, 1) := by decide +kernel
theorem dX12_marks_26 : decode cX12_marks 26 = .ok (.istore_n 2, 1) := by decide +kernel
theorem dX12_marks_27 : decode cX12_marks 27 = .ok (.iload_n 1, 1) := by decide +kernel
theorem dX12_marks_28 : decode cX12_marks 28 = .ok (.ifCond .le 106, 3) := by decide +kernel
theorem dX12_marks_31 : decode cX12_marks 31 = .ok (.iconst 0, 1) := by decide +kernel
theorem dX12_marks_32 : decode cX12_marks 32 = .ok (.istore_n 3, 1) := by decide +kernel
theorem dX12_marks_33 : decode cX12_marks 33 = .ok (.iload_n 3, 1) := by decide +kernel
theorem dX12_marks_34 : decode cX12_marks 34 = .ok (.iload_n 1, 1) := by decide +kernel
theorem dX12_marks_35 : decode cX12_marks 35 = .ok (.if_icmp .ge 25, 3) := by decide +kernel
theorem dX12_marks_38 : decode cX12_marks 38 = .ok (.aload_n 0, 1) := by decide +kernel
theorem dX12_marks_39 : decode cX12_marks 39 = .ok (.getfield 32, 3) := by decide +kernel
theorem dX12_marks_42 : decode cX12_marks 42 = .ok (.iload_n 3, 1) := by decide +kernel
theorem dX12_marks_43 : decode cX12_marks 43 = .ok (.aload_n 0, 1) := by decide +kernel
theorem dX12_marks_44 : decode cX12_marks 44 = .ok (.getfield 16, 3) := by decide +kernel
theorem dX12_marks_47 : decode cX12_marks 47 = .ok (.sipush 603, 3) := by decide +kernel
theorem dX12_marks_50 : decode cX12_marks 50 = .ok (.iload_n 3, 1) := by decide +kernel
theorem dX12_marks_51 : decode cX12_marks 51 = .ok (.iadd, 1) := by decide +kernel
theorem dX12_marks_52 : decode cX12_marks 52 = .ok (.iaload, 1) := by decide +kernel
theorem dX12_marks_53 : decode cX12_marks 53 = .ok (.iastore, 1) := by decide +kernel
theorem dX12_marks_54 : decode cX12_marks 54 = .ok (.iinc 3 1, 3) := by decide +kernel
theorem dX12_marks_57 : decode cX12_marks 57 = .ok (.goto (-24), 3) := by decide +kernel
theorem dX12_marks_60 : decode cX12_marks 60 = .ok (.aload_n 0, 1) := by decide +kernel
theorem dX12_marks_61 : decode cX12_marks 61 = .ok (.iload_n 1, 1) := by decide +kernel
theorem dX12_marks_62 : decode cX12_marks 62 = .ok (.putfield 214, 3) := by decide +kernel
theorem dX12_marks_65 : decode cX12_marks 65 = .ok (.aload_n 0, 1) := by decide +kernel
theorem dX12_marks_66 : decode cX12_marks 66 = .ok (.iload_n 2, 1) := by decide +kernel
theorem dX12_marks_67 : decode cX12_marks 67 = .ok (.invokevirtual 357, 3) := by decide +kernel
theorem dX12_marks_70 : decode cX12_marks 70 = .ok (.istore_n 3, 1) := by decide +kernel
theorem dX12_marks_71 : decode cX12_marks 71 = .ok (.iload_n 3, 1) := by decide +kernel
theorem dX12_marks_72 : decode cX12_marks 72 = .ok (.iconst 2, 1) := by decide +kernel
theorem dX12_marks_73 : decode cX12_marks 73 = .ok (.if_icmp .eq 8, 3) := by decide +kernel
theorem dX12_marks_76 : decode cX12_marks 76 = .ok (.iload_n 3, 1) := by decide +kernel
theorem dX12_marks_77 : decode cX12_marks 77 = .ok (.iconst 3, 1) := by decide +kernel
theorem dX12_marks_78 : decode cX12_marks 78 = .ok (.if_icmp .ne 15, 3) := by decide +kernel
theorem dX12_marks_81 : decode cX12_marks 81 = .ok (.aload_n 0, 1) := by decide +kernel
theorem dX12_marks_82 : decode cX12_marks 82 = .ok (.iload_n 3, 1) := by decide +kernel
theorem dX12_marks_83 : decode cX12_marks 83 = .ok (.iconst (-1), 1) := by decide +kernel
theorem dX12_marks_84 : decode cX12_marks 84 = .ok (.iload_n 1, 1) := by decide +kernel
theorem dX12_marks_85 : decode cX12_marks 85 = .ok (.iconst (-1), 1) := by decide +kernel
theorem dX12_marks_86 : decode cX12_marks 86 = .ok (.iconst (-1), 1) := by decide +kernel
theorem dX12_marks_87 : decode cX12_marks 87 = .ok (.invokevirtual 361, 3) := by decide +kernel
theorem dX12_marks_90 : decode cX12_marks 90 = .ok (.goto 44, 3) := by decide +kernel
theorem dX12_marks_93 : decode cX12_marks 93 = .ok (.aload_n 0, 1) := by decide +kernel
theorem dX12_marks_94 : decode cX12_marks 94 = .ok (.getfield 29, 3) := by decide +kernel
theorem dX12_marks_97 : decode cX12_marks 97 = .ok (.iconst 0, 1) := by decide +kernel
theorem dX12_marks_98 : decode cX12_marks 98 = .ok (.iaload, 1) := by decide +kernel
theorem dX12_marks_99 : decode cX12_marks 99 = .ok (.istore 4, 2) := by decide +kernel
theorem dX12_marks_101 : decode cX12_marks 101 = .ok (.aload_n 0, 1) := by decide +kernel
theorem dX12_marks_102 : decode cX12_marks 102 = .ok (.invokevirtual 352, 3) := by decide +kernel
theorem dX12_marks_105 : decode cX12_marks 105 = .ok (.istore 5, 2) := by decide +kernel
theorem dX12_marks_107 : decode cX12_marks 107 = .ok (.aload_n 0, 1) := by decide +kernel
theorem dX12_marks_108 : decode cX12_marks 108 = .ok (.iload_n 3, 1) := by decide +kernel
theorem dX12_marks_109 : decode cX12_marks 109 = .ok (.iconst 4, 1) := by decide +kernel
theorem dX12_marks_110 : decode cX12_marks 110 = .ok (.if_icmp .ne 7, 3) := by decide +kernel
theorem dX12_marks_113 : decode cX12_marks 113 = .ok (.iconst 4, 1) := by decide +kernel
theorem dX12_marks_114 : decode cX12_marks 114 = .ok (.goto 7, 3) := by decide +kernel
theorem dX12_marks_117 : decode cX12_marks 117 = .ok (.aload_n 0, 1) := by decide +kernel
theorem dX12_marks_118 : decode cX12_marks 118 = .ok (.invokevirtual 365, 3) := by decide +kernel
theorem dX12_marks_121 : decode cX12_marks 121 = .ok (.iload 4, 2) := by decide +kernel
theorem dX12_marks_123 : decode cX12_marks 123 = .ok (.iload_n 1, 1) := by decide +kernel
theorem dX12_marks_124 : decode cX12_marks 124 = .ok (.iload 5, 2) := by decide +kernel
theorem dX12_marks_126 : decode cX12_marks 126 = .ok (.iload 4, 2) := by decide +kernel
theorem dX12_marks_128 : decode cX12_marks 128 = .ok (.bipush 64, 2) := by decide +kernel
theorem dX12_marks_130 : decode cX12_marks 130 = .ok (.idiv, 1) := by decide +kernel
theorem dX12_marks_131 : decode cX12_marks 131 = .ok (.invokevirtual 361, 3) := by decide +kernel
theorem dX12_marks_134 : decode cX12_marks 134 = .ok (.aload_n 0, 1) := by decide +kernel
theorem dX12_marks_135 : decode cX12_marks 135 = .ok (.getfield 16, 3) := by decide +kernel
theorem dX12_marks_138 : decode cX12_marks 138 = .ok (.sipush 601, 3) := by decide +kernel
theorem dX12_marks_141 : decode cX12_marks 141 = .ok (.iconst 0, 1) := by decide +kernel
theorem dX12_marks_142 : decode cX12_marks 142 = .ok (.iastore, 1) := by decide +kernel
theorem dX12_marks_143 : decode cX12_marks 143 = .ok (.aload_n 0, 1) := by decide +kernel
theorem dX12_marks_144 : decode cX12_marks 144 = .ok (.getfield 16, 3) := by decide +kernel
theorem dX12_marks_147 : decode cX12_marks 147 = .ok (.sipush 602, 3) := by decide +kernel
theorem dX12_marks_150 : decode cX12_marks 150 = .ok (.iconst 0, 1) := by decide +kernel
theorem dX12_marks_151 : decode cX12_marks 151 = .ok (.iastore, 1) := by decide +kernel
theorem dX12_marks_152 : decode cX12_marks 152 = .ok (.return_, 1) := by decide +kernel
theorem dX12_readsByte_0 : decode cX12_readsByte 0 = .ok (.iload_n 1, 1) := by decide +kernel
theorem dX12_readsByte_1 : decode cX12_readsByte 1 = .ok (.ifCond .ne 10, 3) := by decide +kernel
theorem dX12_readsByte_4 : decode cX12_readsByte 4 = .ok (.aload_n 0, 1) := by decide +kernel
theorem dX12_readsByte_5 : decode cX12_readsByte 5 = .ok (.invokevirtual 368, 3) := by decide +kernel
theorem dX12_readsByte_8 : decode cX12_readsByte 8 = .ok (.goto 59, 3) := by decide +kernel
theorem dX12_readsByte_11 : decode cX12_readsByte 11 = .ok (.aload_n 0, 1) := by decide +kernel
theorem dX12_readsByte_12 : decode cX12_readsByte 12 = .ok (.getfield 16, 3) := by decide +kernel
theorem dX12_readsByte_15 : decode cX12_readsByte 15 = .ok (.sipush 601, 3) := by decide +kernel
theorem dX12_readsByte_18 : decode cX12_readsByte 18 = .ok (.iaload, 1) := by decide +kernel
theorem dX12_readsByte_19 : decode cX12_readsByte 19 = .ok (.sipush 200, 3) := by decide +kernel
theorem dX12_readsByte_22 : decode cX12_readsByte 22 = .ok (.if_icmp .ne 15, 3) := by decide +kernel
theorem dX12_readsByte_25 : decode cX12_readsByte 25 = .ok (.aload_n 0, 1) := by decide +kernel
theorem dX12_readsByte_26 : decode cX12_readsByte 26 = .ok (.getfield 16, 3) := by decide +kernel
theorem dX12_readsByte_29 : decode cX12_readsByte 29 = .ok (.sipush 602, 3) := by decide +kernel
theorem dX12_readsByte_32 : decode cX12_readsByte 32 = .ok (.iconst 1, 1) := by decide +kernel
theorem dX12_readsByte_33 : decode cX12_readsByte 33 = .ok (.iastore, 1) := by decide +kernel
theorem dX12_readsByte_34 : decode cX12_readsByte 34 = .ok (.goto 33, 3) := by decide +kernel
theorem dX12_readsByte_37 : decode cX12_readsByte 37 = .ok (.aload_n 0, 1) := by decide +kernel
theorem dX12_readsByte_38 : decode cX12_readsByte 38 = .ok (.getfield 16, 3) := by decide +kernel
theorem dX12_readsByte_41 : decode cX12_readsByte 41 = .ok (.sipush 603, 3) := by decide +kernel
theorem dX12_readsByte_44 : decode cX12_readsByte 44 = .ok (.aload_n 0, 1) := by decide +kernel
theorem dX12_readsByte_45 : decode cX12_readsByte 45 = .ok (.getfield 16, 3) := by decide +kernel
theorem dX12_readsByte_48 : decode cX12_readsByte 48 = .ok (.sipush 601, 3) := by decide +kernel
theorem dX12_readsByte_51 : decode cX12_readsByte 51 = .ok (.iaload, 1) := by decide +kernel
theorem dX12_readsByte_52 : decode cX12_readsByte 52 = .ok (.iadd, 1) := by decide +kernel
theorem dX12_readsByte_53 : decode cX12_readsByte 53 = .ok (.iload_n 1, 1) := by decide +kernel
theorem dX12_readsByte_54 : decode cX12_readsByte 54 = .ok (.iastore, 1) := by decide +kernel
theorem dX12_readsByte_55 : decode cX12_readsByte 55 = .ok (.aload_n 0, 1) := by decide +kernel
theorem dX12_readsByte_56 : decode cX12_readsByte 56 = .ok (.getfield 16, 3) := by decide +kernel
theorem dX12_readsByte_59 : decode cX12_readsByte 59 = .ok (.sipush 601, 3) := by decide +kernel
theorem dX12_readsByte_62 : decode cX12_readsByte 62 = .ok (.dup2, 1) := by decide +kernel
theorem dX12_readsByte_63 : decode cX12_readsByte 63 = .ok (.iaload, 1) := by decide +kernel
theorem dX12_readsByte_64 : decode cX12_readsByte 64 = .ok (.iconst 1, 1) := by decide +kernel
theorem dX12_readsByte_65 : decode cX12_readsByte 65 = .ok (.iadd, 1) := by decide +kernel
theorem dX12_readsByte_66 : decode cX12_readsByte 66 = .ok (.iastore, 1) := by decide +kernel
theorem dX12_readsByte_67 : decode cX12_readsByte 67 = .ok (.return_, 1) := by decide +kernel
theorem dX12_readsBytes_0 : decode cX12_readsBytes 0 = .ok (.iconst 0, 1) := by decide +kernel
theorem dX12_readsBytes_1 : decode cX12_readsBytes 1 = .ok (.istore_n 2, 1) := by decide +kernel
theorem dX12_readsBytes_2 : decode cX12_readsBytes 2 = .ok (.iload_n 2, 1) := by decide +kernel
theorem dX12_readsBytes_3 : decode cX12_readsBytes 3 = .ok (.iload_n 1, 1) := by decide +kernel
theorem dX12_readsBytes_4 : decode cX12_readsBytes 4 = .ok (.if_icmp .ge 21, 3) := by decide +kernel
theorem dX12_readsBytes_7 : decode cX12_readsBytes 7 = .ok (.aload_n 0, 1) := by decide +kernel
theorem dX12_readsBytes_8 : decode cX12_readsBytes 8 = .ok (.aload_n 0, 1) := by decide +kernel
theorem dX12_readsBytes_9 : decode cX12_readsBytes 9 = .ok (.getfield 16, 3) := by decide +kernel
theorem dX12_readsBytes_12 : decode cX12_readsBytes 12 = .ok (.iconst 1, 1) := by decide +kernel
theorem dX12_readsBytes_13 : decode cX12_readsBytes 13 = .ok (.iload_n 2, 1) := by decide +kernel
theorem dX12_readsBytes_14 : decode cX12_readsBytes 14 = .ok (.iadd, 1) := by decide +kernel
theorem dX12_readsBytes_15 : decode cX12_readsBytes 15 = .ok (.iaload, 1) := by decide +kernel
theorem dX12_readsBytes_16 : decode cX12_readsBytes 16 = .ok (.invokevirtual 371, 3) := by decide +kernel
theorem dX12_readsBytes_19 : decode cX12_readsBytes 19 = .ok (.iinc 2 1, 3) := by decide +kernel
theorem dX12_readsBytes_22 : decode cX12_readsBytes 22 = .ok (.goto (-20), 3) := by decide +kernel
theorem dX12_readsBytes_25 : decode cX12_readsBytes 25 = .ok (.iload_n 1, 1) := by decide +kernel
theorem dX12_readsBytes_26 : decode cX12_readsBytes 26 = .ok (.istore_n 2, 1) := by decide +kernel
theorem dX12_readsBytes_27 : decode cX12_readsBytes 27 = .ok (.iload_n 2, 1) := by decide +kernel
theorem dX12_readsBytes_28 : decode cX12_readsBytes 28 = .ok (.aload_n 0, 1) := by decide +kernel
theorem dX12_readsBytes_29 : decode cX12_readsBytes 29 = .ok (.getfield 16, 3) := by decide +kernel
theorem dX12_readsBytes_32 : decode cX12_readsBytes 32 = .ok (.iconst 0, 1) := by decide +kernel
theorem dX12_readsBytes_33 : decode cX12_readsBytes 33 = .ok (.iaload, 1) := by decide +kernel
theorem dX12_readsBytes_34 : decode cX12_readsBytes 34 = .ok (.if_icmp .ge 27, 3) := by decide +kernel
theorem dX12_readsBytes_37 : decode cX12_readsBytes 37 = .ok (.aload_n 0, 1) := by decide +kernel
theorem dX12_readsBytes_38 : decode cX12_readsBytes 38 = .ok (.getfield 16, 3) := by decide +kernel
theorem dX12_readsBytes_41 : decode cX12_readsBytes 41 = .ok (.iconst 1, 1) := by decide +kernel
theorem dX12_readsBytes_42 : decode cX12_readsBytes 42 = .ok (.iload_n 2, 1) := by decide +kernel
theorem dX12_readsBytes_43 : decode cX12_readsBytes 43 = .ok (.iadd, 1) := by decide +kernel
theorem dX12_readsBytes_44 : decode cX12_readsBytes 44 = .ok (.iload_n 1, 1) := by decide +kernel
theorem dX12_readsBytes_45 : decode cX12_readsBytes 45 = .ok (.isub, 1) := by decide +kernel
theorem dX12_readsBytes_46 : decode cX12_readsBytes 46 = .ok (.aload_n 0, 1) := by decide +kernel
theorem dX12_readsBytes_47 : decode cX12_readsBytes 47 = .ok (.getfield 16, 3) := by decide +kernel
theorem dX12_readsBytes_50 : decode cX12_readsBytes 50 = .ok (.iconst 1, 1) := by decide +kernel
theorem dX12_readsBytes_51 : decode cX12_readsBytes 51 = .ok (.iload_n 2, 1) := by decide +kernel
theorem dX12_readsBytes_52 : decode cX12_readsBytes 52 = .ok (.iadd, 1) := by decide +kernel
theorem dX12_readsBytes_53 : decode cX12_readsBytes 53 = .ok (.iaload, 1) := by decide +kernel
theorem dX12_readsBytes_54 : decode cX12_readsBytes 54 = .ok (.iastore, 1) := by decide +kernel
theorem dX12_readsBytes_55 : decode cX12_readsBytes 55 = .ok (.iinc 2 1, 3) := by decide +kernel
theorem dX12_readsBytes_58 : decode cX12_readsBytes 58 = .ok (.goto (-31), 3) := by decide +kernel
theorem dX12_readsBytes_61 : decode cX12_readsBytes 61 = .ok (.aload_n 0, 1) := by decide +kernel
theorem dX12_readsBytes_62 : decode cX12_readsBytes 62 = .ok (.getfield 16, 3) := by decide +kernel
theorem dX12_readsBytes_65 : decode cX12_readsBytes 65 = .ok (.iconst 0, 1) := by decide +kernel
theorem dX12_readsBytes_66 : decode cX12_readsBytes 66 = .ok (.dup2, 1) := by decide +kernel
theorem dX12_readsBytes_67 : decode cX12_readsBytes 67 = .ok (.iaload, 1) := by decide +kernel
theorem dX12_readsBytes_68 : decode cX12_readsBytes 68 = .ok (.iload_n 1, 1) := by decide +kernel
theorem dX12_readsBytes_69 : decode cX12_readsBytes 69 = .ok (.isub, 1) := by decide +kernel
theorem dX12_readsBytes_70 : decode cX12_readsBytes 70 = .ok (.iastore, 1) := by decide +kernel
theorem dX12_readsBytes_71 : decode cX12_readsBytes 71 = .ok (.return_, 1) := by decide +kernel
theorem dX12_read_0 : decode cX12_read 0 = .ok (.aload_n 0, 1) := by decide +kernel
theorem dX12_read_1 : decode cX12_read 1 = .ok (.iconst 0, 1) := by decide +kernel
theorem dX12_read_2 : decode cX12_read 2 = .ok (.putfield 60, 3) := by decide +kernel
theorem dX12_read_5 : decode cX12_read 5 = .ok (.aload_n 0, 1) := by decide +kernel
theorem dX12_read_6 : decode cX12_read 6 = .ok (.getfield 188, 3) := by decide +kernel
theorem dX12_read_9 : decode cX12_read 9 = .ok (.ifCond .ne 9, 3) := by decide +kernel
theorem dX12_read_12 : decode cX12_read 12 = .ok (.aload_n 0, 1) := by decide +kernel
theorem dX12_read_13 : decode cX12_read 13 = .ok (.iconst 0, 1) := by decide +kernel
theorem dX12_read_14 : decode cX12_read 14 = .ok (.invokevirtual 280, 3) := by decide +kernel
theorem dX12_read_17 : decode cX12_read 17 = .ok (.ireturn, 1) := by decide +kernel
theorem dX12_read_18 : decode cX12_read 18 = .ok (.iload_n 1, 1) := by decide +kernel
theorem dX12_read_19 : decode cX12_read 19 = .ok (.i2l, 1) := by decide +kernel
theorem dX12_read_20 : decode cX12_read 20 = .ok (.lconst 1, 1) := by decide +kernel
theorem dX12_read_21 : decode cX12_read 21 = .ok (.ldc2_w 374, 3) := by decide +kernel
theorem dX12_read_24 : decode cX12_read 24 = .ok (.invokestatic 70, 3) := by decide +kernel
theorem dX12_read_27 : decode cX12_read 27 = .ok (.ifCond .ne 9, 3) := by decide +kernel
theorem dX12_read_30 : decode cX12_read 30 = .ok (.aload_n 0, 1) := by decide +kernel
theorem dX12_read_31 : decode cX12_read 31 = .ok (.iconst 2, 1) := by decide +kernel
theorem dX12_read_32 : decode cX12_read 32 = .ok (.invokevirtual 280, 3) := by decide +kernel
theorem dX12_read_35 : decode cX12_read 35 = .ok (.ireturn, 1) := by decide +kernel
theorem dX12_read_36 : decode cX12_read 36 = .ok (.aload_n 0, 1) := by decide +kernel
theorem dX12_read_37 : decode cX12_read 37 = .ok (.getfield 16, 3) := by decide +kernel
theorem dX12_read_40 : decode cX12_read 40 = .ok (.iconst 0, 1) := by decide +kernel
theorem dX12_read_41 : decode cX12_read 41 = .ok (.iaload, 1) := by decide +kernel
theorem dX12_read_42 : decode cX12_read 42 = .ok (.ifCond .ne 5, 3) := by decide +kernel
theorem dX12_read_45 : decode cX12_read 45 = .ok (.iconst 0, 1) := by decide +kernel
theorem dX12_read_46 : decode cX12_read 46 = .ok (.ireturn, 1) := by decide +kernel
theorem dX12_read_47 : decode cX12_read 47 = .ok (.aload_n 0, 1) := by decide +kernel
theorem dX12_read_48 : decode cX12_read 48 = .ok (.invokevirtual 289, 3) := by decide +kernel
theorem dX12_read_51 : decode cX12_read 51 = .ok (.aload_n 0, 1) := by decide +kernel
theorem dX12_read_52 : decode cX12_read 52 = .ok (.getfield 16, 3) := by decide +kernel
theorem dX12_read_55 : decode cX12_read 55 = .ok (.sipush 804, 3) := by decide +kernel
theorem dX12_read_58 : decode cX12_read 58 = .ok (.iaload, 1) := by decide +kernel
theorem dX12_read_59 : decode cX12_read 59 = .ok (.istore_n 2, 1) := by decide +kernel
theorem dX12_read_60 : decode cX12_read 60 = .ok (.aload_n 0, 1) := by decide +kernel
theorem dX12_read_61 : decode cX12_read 61 = .ok (.iload_n 1, 1) := by decide +kernel
theorem dX12_read_62 : decode cX12_read 62 = .ok (.aload_n 0, 1) := by decide +kernel
theorem dX12_read_63 : decode cX12_read 63 = .ok (.getfield 16, 3) := by decide +kernel
theorem dX12_read_66 : decode cX12_read 66 = .ok (.iconst 0, 1) := by decide +kernel
theorem dX12_read_67 : decode cX12_read 67 = .ok (.iaload, 1) := by decide +kernel
theorem dX12_read_68 : decode cX12_read 68 = .ok (.invokestatic 97, 3) := by decide +kernel
theorem dX12_read_71 : decode cX12_read 71 = .ok (.invokevirtual 376, 3) := by decide +kernel
theorem dX12_read_74 : decode cX12_read 74 = .ok (.aload_n 0, 1) := by decide +kernel
theorem dX12_read_75 : decode cX12_read 75 = .ok (.getfield 16, 3) := by decide +kernel
theorem dX12_read_78 : decode cX12_read 78 = .ok (.sipush 804, 3) := by decide +kernel
theorem dX12_read_81 : decode cX12_read 81 = .ok (.iaload, 1) := by decide +kernel
theorem dX12_read_82 : decode cX12_read 82 = .ok (.iload_n 2, 1) := by decide +kernel
theorem dX12_read_83 : decode cX12_read 83 = .ok (.isub, 1) := by decide +kernel
theorem dX12_read_84 : decode cX12_read 84 = .ok (.ireturn, 1) := by decide +kernel
theorem dX12_event__0 : decode cX12_event_ 0 = .ok (.aload_n 0, 1) := by decide +kernel
theorem dX12_event__1 : decode cX12_event_ 1 = .ok (.iconst 0, 1) := by decide +kernel
theorem dX12_event__2 : decode cX12_event_ 2 = .ok (.putfield 60, 3) := by decide +kernel
theorem dX12_event__5 : decode cX12_event_ 5 = .ok (.aload_n 0, 1) := by decide +kernel
theorem dX12_event__6 : decode cX12_event_ 6 = .ok (.getfield 188, 3) := by decide +kernel
theorem dX12_event__9 : decode cX12_event_ 9 = .ok (.ifCond .eq 57, 3) := by decide +kernel
theorem dX12_event__12 : decode cX12_event_ 12 = .ok (.iload_n 1, 1) := by decide +kernel
theorem dX12_event__13 : decode cX12_event_ 13 = .ok (.i2l, 1) := by decide +kernel
theorem dX12_event__14 : decode cX12_event_ 14 = .ok (.lconst 0, 1) := by decide +kernel
theorem dX12_event__15 : decode cX12_event_ 15 = .ok (.bipush 40, 2) := by decide +kernel
theorem dX12_event__17 : decode cX12_event_ 17 = .ok (.aload_n 0, 1) := by decide +kernel
theorem dX12_event__18 : decode cX12_event_ 18 = .ok (.getfield 16, 3) := by decide +kernel
theorem dX12_event__21 : decode cX12_event_ 21 = .ok (.sipush 804, 3) := by decide +kernel
theorem dX12_event__24 : decode cX12_event_ 24 = .ok (.iaload, 1) := by decide +kernel
theorem dX12_event__25 : decode cX12_event_ 25 = .ok (.invokestatic 97, 3) := by decide +kernel
theorem dX12_event__28 : decode cX12_event_ 28 = .ok (.iconst 1, 1) := by decide +kernel
theorem dX12_event__29 : decode cX12_event_ 29 = .ok (.isub, 1) := by decide +kernel
theorem dX12_event__30 : decode cX12_event_ 30 = .ok (.i2l, 1) := by decide +kernel
theorem dX12_event__31 : decode cX12_event_ 31 = .ok (.invokestatic 70, 3) := by decide +kernel
theorem dX12_event__34 : decode cX12_event_ 34 = .ok (.ifCond .eq 32, 3) := by decide +kernel
theorem dX12_event__37 : decode cX12_event_ 37 = .ok (.iload_n 2, 1) := by decide +kernel
theorem dX12_event__38 : decode cX12_event_ 38 = .ok (.i2l, 1) := by decide +kernel
theorem dX12_event__39 : decode cX12_event_ 39 = .ok (.lconst 0, 1) := by decide +kernel
theorem dX12_event__40 : decode cX12_event_ 40 = .ok (.ldc2_w 379, 3) := by decide +kernel
theorem dX12_event__43 : decode cX12_event_ 43 = .ok (.invokestatic 70, 3) := by decide +kernel
theorem dX12_event__46 : decode cX12_event_ 46 = .ok (.ifCond .eq 20, 3) := by decide +kernel
theorem dX12_event__49 : decode cX12_event_ 49 = .ok (.aload_n 0, 1) := by decide +kernel
theorem dX12_event__50 : decode cX12_event_ 50 = .ok (.getfield 16, 3) := by decide +kernel
theorem dX12_event__53 : decode cX12_event_ 53 = .ok (.sipush 805, 3) := by decide +kernel
theorem dX12_event__56 : decode cX12_event_ 56 = .ok (.iconst 5, 1) := by decide +kernel
theorem dX12_event__57 : decode cX12_event_ 57 = .ok (.iload_n 1, 1) := by decide +kernel
theorem dX12_event__58 : decode cX12_event_ 58 = .ok (.imul, 1) := by decide +kernel
theorem dX12_event__59 : decode cX12_event_ 59 = .ok (.iadd, 1) := by decide +kernel
theorem dX12_event__60 : decode cX12_event_ 60 = .ok (.iload_n 2, 1) := by decide +kernel
theorem dX12_event__61 : decode cX12_event_ 61 = .ok (.iadd, 1) := by decide +kernel
theorem dX12_event__62 : decode cX12_event_ 62 = .ok (.iaload, 1) := by decide +kernel
theorem dX12_event__63 : decode cX12_event_ 63 = .ok (.goto 4, 3) := by decide +kernel
theorem dX12_event__66 : decode cX12_event_ 66 = .ok (.iconst (-1), 1) := by decide +kernel
theorem dX12_event__67 : decode cX12_event_ 67 = .ok (.ireturn, 1) := by decide +kernel
theorem dX12_take_0 : decode cX12_take 0 = .ok (.aload_n 0, 1) := by decide +kernel
theorem dX12_take_1 : decode cX12_take 1 = .ok (.iconst 0, 1) := by decide +kernel
theorem dX12_take_2 : decode cX12_take 2 = .ok (.putfield 60, 3) := by decide +kernel
theorem dX12_take_5 : decode cX12_take 5 = .ok (.aload_n 0, 1) := by decide +kernel
theorem dX12_take_6 : decode cX12_take 6 = .ok (.getfield 188, 3) := by decide +kernel
theorem dX12_take_9 : decode cX12_take 9 = .ok (.ifCond .ne 9, 3) := by decide +kernel
theorem dX12_take_12 : decode cX12_take 12 = .ok (.aload_n 0, 1) := by decide +kernel
theorem dX12_take_13 : decode cX12_take 13 = .ok (.iconst 0, 1) := by decide +kernel
theorem dX12_take_14 : decode cX12_take 14 = .ok (.invokevirtual 280, 3) := by decide +kernel
theorem dX12_take_17 : decode cX12_take 17 = .ok (.ireturn, 1) := by decide +kernel
theorem dX12_take_18 : decode cX12_take 18 = .ok (.aload_n 0, 1) := by decide +kernel
theorem dX12_take_19 : decode cX12_take 19 = .ok (.iload_n 1, 1) := by decide +kernel
theorem dX12_take_20 : decode cX12_take 20 = .ok (.invokevirtual 283, 3) := by decide +kernel
theorem dX12_take_23 : decode cX12_take 23 = .ok (.ifCond .eq 13, 3) := by decide +kernel
theorem dX12_take_26 : decode cX12_take 26 = .ok (.aload_n 0, 1) := by decide +kernel
theorem dX12_take_27 : decode cX12_take 27 = .ok (.iload_n 1, 1) := by decide +kernel
theorem dX12_take_28 : decode cX12_take 28 = .ok (.bipush 7, 2) := by decide +kernel
theorem dX12_take_30 : decode cX12_take 30 = .ok (.invokevirtual 286, 3) := by decide +kernel
theorem dX12_take_33 : decode cX12_take 33 = .ok (.ifCond .ne 9, 3) := by decide +kernel
theorem dX12_take_36 : decode cX12_take 36 = .ok (.aload_n 0, 1) := by decide +kernel
theorem dX12_take_37 : decode cX12_take 37 = .ok (.iconst 1, 1) := by decide +kernel
theorem dX12_take_38 : decode cX12_take 38 = .ok (.invokevirtual 280, 3) := by decide +kernel
theorem dX12_take_41 : decode cX12_take 41 = .ok (.ireturn, 1) := by decide +kernel
theorem dX12_take_42 : decode cX12_take 42 = .ok (.aload_n 0, 1) := by decide +kernel
theorem dX12_take_43 : decode cX12_take 43 = .ok (.invokevirtual 289, 3) := by decide +kernel
theorem dX12_take_46 : decode cX12_take 46 = .ok (.iconst 0, 1) := by decide +kernel
theorem dX12_take_47 : decode cX12_take 47 = .ok (.invokestatic 349, 3) := by decide +kernel
theorem dX12_take_50 : decode cX12_take 50 = .ok (.istore_n 2, 1) := by decide +kernel
theorem dX12_take_51 : decode cX12_take 51 = .ok (.aload_n 0, 1) := by decide +kernel
theorem dX12_take_52 : decode cX12_take 52 = .ok (.aload_n 0, 1) := by decide +kernel
theorem dX12_take_53 : decode cX12_take 53 = .ok (.iload_n 1, 1) := by decide +kernel
theorem dX12_take_54 : decode cX12_take 54 = .ok (.iload_n 2, 1) := by decide +kernel
theorem dX12_take_55 : decode cX12_take 55 = .ok (.invokevirtual 286, 3) := by decide +kernel
theorem dX12_take_58 : decode cX12_take 58 = .ok (.putfield 211, 3) := by decide +kernel
theorem dX12_take_61 : decode cX12_take 61 = .ok (.iconst 0, 1) := by decide +kernel
theorem dX12_take_62 : decode cX12_take 62 = .ok (.istore_n 3, 1) := by decide +kernel
theorem dX12_take_63 : decode cX12_take 63 = .ok (.iload_n 3, 1) := by decide +kernel
theorem dX12_take_64 : decode cX12_take 64 = .ok (.aload_n 0, 1) := by decide +kernel
theorem dX12_take_65 : decode cX12_take 65 = .ok (.getfield 211, 3) := by decide +kernel
theorem dX12_take_68 : decode cX12_take 68 = .ok (.if_icmp .ge 25, 3) := by decide +kernel
theorem dX12_take_71 : decode cX12_take 71 = .ok (.aload_n 0, 1) := by decide +kernel
theorem dX12_take_72 : decode cX12_take 72 = .ok (.getfield 48, 3) := by decide +kernel
theorem dX12_take_75 : decode cX12_take 75 = .ok (.iload_n 3, 1) := by decide +kernel
theorem dX12_take_76 : decode cX12_take 76 = .ok (.aload_n 0, 1) := by decide +kernel
theorem dX12_take_77 : decode cX12_take 77 = .ok (.iload_n 1, 1) := by decide +kernel
theorem dX12_take_78 : decode cX12_take 78 = .ok (.iload_n 2, 1) := by decide +kernel
theorem dX12_take_79 : decode cX12_take 79 = .ok (.iconst 2, 1) := by decide +kernel
theorem dX12_take_80 : decode cX12_take 80 = .ok (.iadd, 1) := by decide +kernel
theorem dX12_take_81 : decode cX12_take 81 = .ok (.iload_n 3, 1) := by decide +kernel
theorem dX12_take_82 : decode cX12_take 82 = .ok (.iadd, 1) := by decide +kernel
theorem dX12_take_83 : decode cX12_take 83 = .ok (.invokevirtual 286, 3) := by decide +kernel
theorem dX12_take_86 : decode cX12_take 86 = .ok (.iastore, 1) := by decide +kernel
theorem dX12_take_87 : decode cX12_take 87 = .ok (.iinc 3 1, 3) := by decide +kernel
theorem dX12_take_90 : decode cX12_take 90 = .ok (.goto (-27), 3) := by decide +kernel
theorem dX12_take_93 : decode cX12_take 93 = .ok (.aload_n 0, 1) := by decide +kernel
theorem dX12_take_94 : decode cX12_take 94 = .ok (.iload_n 1, 1) := by decide +kernel
theorem dX12_take_95 : decode cX12_take 95 = .ok (.iconst 0, 1) := by decide +kernel
theorem dX12_take_96 : decode cX12_take 96 = .ok (.aload_n 0, 1) := by decide +kernel
theorem dX12_take_97 : decode cX12_take 97 = .ok (.getfield 26, 3) := by decide +kernel
theorem dX12_take_100 : decode cX12_take 100 = .ok (.iload_n 1, 1) := by decide +kernel
theorem dX12_take_101 : decode cX12_take 101 = .ok (.iaload, 1) := by decide +kernel
theorem dX12_take_102 : decode cX12_take 102 = .ok (.aload_n 0, 1) := by decide +kernel
theorem dX12_take_103 : decode cX12_take 103 = .ok (.iload_n 1, 1) := by decide +kernel
theorem dX12_take_104 : decode cX12_take 104 = .ok (.iconst 0, 1) := by decide +kernel
theorem dX12_take_105 : decode cX12_take 105 = .ok (.invokevirtual 286, 3) := by decide +kernel
theorem dX12_take_108 : decode cX12_take 108 = .ok (.aload_n 0, 1) := by decide +kernel
theorem dX12_take_109 : decode cX12_take 109 = .ok (.iload_n 1, 1) := by decide +kernel
theorem dX12_take_110 : decode cX12_take 110 = .ok (.iload_n 2, 1) := by decide +kernel
theorem dX12_take_111 : decode cX12_take 111 = .ok (.iconst 1, 1) := by decide +kernel
theorem dX12_take_112 : decode cX12_take 112 = .ok (.iadd, 1) := by decide +kernel
theorem dX12_take_113 : decode cX12_take 113 = .ok (.invokevirtual 286, 3) := by decide +kernel
theorem dX12_take_116 : decode cX12_take 116 = .ok (.iadd, 1) := by decide +kernel
theorem dX12_take_117 : decode cX12_take 117 = .ok (.invokestatic 97, 3) := by decide +kernel
theorem dX12_take_120 : decode cX12_take 120 = .ok (.invokevirtual 201, 3) := by decide +kernel
theorem dX12_take_123 : decode cX12_take 123 = .ok (.iconst 1, 1) := by decide +kernel
theorem dX12_take_124 : decode cX12_take 124 = .ok (.invokestatic 349, 3) := by decide +kernel
theorem dX12_take_127 : decode cX12_take 127 = .ok (.istore_n 3, 1) := by decide +kernel
theorem dX12_take_128 : decode cX12_take 128 = .ok (.iload_n 3, 1) := by decide +kernel
theorem dX12_take_129 : decode cX12_take 129 = .ok (.bipush 8, 2) := by decide +kernel
theorem dX12_take_131 : decode cX12_take 131 = .ok (.invokestatic 349, 3) := by decide +kernel
theorem dX12_take_134 : decode cX12_take 134 = .ok (.if_icmp .ge 26, 3) := by decide +kernel
theorem dX12_take_137 : decode cX12_take 137 = .ok (.aload_n 0, 1) := by decide +kernel
theorem dX12_take_138 : decode cX12_take 138 = .ok (.iload_n 1, 1) := by decide +kernel
theorem dX12_take_139 : decode cX12_take 139 = .ok (.iload_n 3, 1) := by decide +kernel
theorem dX12_take_140 : decode cX12_take 140 = .ok (.bipush 120, 2) := by decide +kernel
theorem dX12_take_142 : decode cX12_take 142 = .ok (.isub, 1) := by decide +kernel
theorem dX12_take_143 : decode cX12_take 143 = .ok (.iconst 2, 1) := by decide +kernel
theorem dX12_take_144 : decode cX12_take 144 = .ok (.isub, 1) := by decide +kernel
theorem dX12_take_145 : decode cX12_take 145 = .ok (.aload_n 0, 1) := by decide +kernel
theorem dX12_take_146 : decode cX12_take 146 = .ok (.iload_n 1, 1) := by decide +kernel
theorem dX12_take_147 : decode cX12_take 147 = .ok (.iload_n 3, 1) := by decide +kernel
theorem dX12_take_148 : decode cX12_take 148 = .ok (.invokevirtual 286, 3) := by decide +kernel
theorem dX12_take_151 : decode cX12_take 151 = .ok (.invokevirtual 201, 3) := by decide +kernel
theorem dX12_take_154 : decode cX12_take 154 = .ok (.iinc 3 1, 3) := by decide +kernel
theorem dX12_take_157 : decode cX12_take 157 = .ok (.goto (-29), 3) := by decide +kernel
theorem dX12_take_160 : decode cX12_take 160 = .ok (.aload_n 0, 1) := by decide +kernel
theorem dX12_take_161 : decode cX12_take 161 = .ok (.iload_n 1, 1) := by decide +kernel
theorem dX12_take_162 : decode cX12_take 162 = .ok (.bipush 7, 2) := by decide +kernel
theorem dX12_take_164 : decode cX12_take 164 = .ok (.iconst (-1), 1) := by decide +kernel
theorem dX12_take_165 : decode cX12_take 165 = .ok (.invokevirtual 295, 3) := by decide +kernel
theorem dX12_take_168 : decode cX12_take 168 = .ok (.aload_n 0, 1) := by decide +kernel
theorem dX12_take_169 : decode cX12_take 169 = .ok (.iload_n 1, 1) := by decide +kernel
theorem dX12_take_170 : decode cX12_take 170 = .ok (.bipush 10, 2) := by decide +kernel
theorem dX12_take_172 : decode cX12_take 172 = .ok (.iconst 1, 1) := by decide +kernel
theorem dX12_take_173 : decode cX12_take 173 = .ok (.invokevirtual 295, 3) := by decide +kernel
theorem dX12_take_176 : decode cX12_take 176 = .ok (.aload_n 0, 1) := by decide +kernel
theorem dX12_take_177 : decode cX12_take 177 = .ok (.getfield 211, 3) := by decide +kernel
theorem dX12_take_180 : decode cX12_take 180 = .ok (.ireturn, 1) := by decide +kernel
theorem dX12_hand_0 : decode cX12_hand 0 = .ok (.aload_n 0, 1) := by decide +kernel
theorem dX12_hand_1 : decode cX12_hand 1 = .ok (.iconst 0, 1) := by decide +kernel
theorem dX12_hand_2 : decode cX12_hand 2 = .ok (.putfield 60, 3) := by decide +kernel
theorem dX12_hand_5 : decode cX12_hand 5 = .ok (.aload_n 0, 1) := by decide +kernel
theorem dX12_hand_6 : decode cX12_hand 6 = .ok (.getfield 188, 3) := by decide +kernel
theorem dX12_hand_9 : decode cX12_hand 9 = .ok (.ifCond .eq 28, 3) := by decide +kernel
theorem dX12_hand_12 : decode cX12_hand 12 = .ok (.iload_n 1, 1) := by decide +kernel
theorem dX12_hand_13 : decode cX12_hand 13 = .ok (.i2l, 1) := by decide +kernel
theorem dX12_hand_14 : decode cX12_hand 14 = .ok (.lconst 0, 1) := by decide +kernel
theorem dX12_hand_15 : decode cX12_hand 15 = .ok (.aload_n 0, 1) := by decide +kernel
theorem dX12_hand_16 : decode cX12_hand 16 = .ok (.getfield 211, 3) := by decide +kernel
theorem dX12_hand_19 : decode cX12_hand 19 = .ok (.iconst 1, 1) := by decide +kernel
theorem dX12_hand_20 : decode cX12_hand 20 = .ok (.isub, 1) := by decide +kernel
theorem dX12_hand_21 : decode cX12_hand 21 = .ok (.i2l, 1) := by decide +kernel
theorem dX12_hand_22 : decode cX12_hand 22 = .ok (.invokestatic 70, 3) := by decide +kernel
theorem dX12_hand_25 : decode cX12_hand 25 = .ok (.ifCond .eq 12, 3) := by decide +kernel
theorem dX12_hand_28 : decode cX12_hand 28 = .ok (.aload_n 0, 1) := by decide +kernel
theorem dX12_hand_29 : decode cX12_hand 29 = .ok (.getfield 48, 3) := by decide +kernel
theorem dX12_hand_32 : decode cX12_hand 32 = .ok (.iload_n 1, 1) := by decide +kernel
theorem dX12_hand_33 : decode cX12_hand 33 = .ok (.iaload, 1) := by decide +kernel
theorem dX12_hand_34 : decode cX12_hand 34 = .ok (.goto 4, 3) := by decide +kernel
theorem dX12_hand_37 : decode cX12_hand 37 = .ok (.iconst (-1), 1) := by decide +kernel
theorem dX12_hand_38 : decode cX12_hand 38 = .ok (.ireturn, 1) := by decide +kernel
theorem dX12_renew_0 : decode cX12_renew 0 = .ok (.aload_n 0, 1) := by decide +kernel
theorem dX12_renew_1 : decode cX12_renew 1 = .ok (.iconst 0, 1) := by decide +kernel
theorem dX12_renew_2 : decode cX12_renew 2 = .ok (.putfield 60, 3) := by decide +kernel
theorem dX12_renew_5 : decode cX12_renew 5 = .ok (.aload_n 0, 1) := by decide +kernel
theorem dX12_renew_6 : decode cX12_renew 6 = .ok (.getfield 188, 3) := by decide +kernel
theorem dX12_renew_9 : decode cX12_renew 9 = .ok (.ifCond .ne 9, 3) := by decide +kernel
theorem dX12_renew_12 : decode cX12_renew 12 = .ok (.aload_n 0, 1) := by decide +kernel
theorem dX12_renew_13 : decode cX12_renew 13 = .ok (.iconst 0, 1) := by decide +kernel
theorem dX12_renew_14 : decode cX12_renew 14 = .ok (.invokevirtual 280, 3) := by decide +kernel
theorem dX12_renew_17 : decode cX12_renew 17 = .ok (.ireturn, 1) := by decide +kernel
theorem dX12_renew_18 : decode cX12_renew 18 = .ok (.aload_n 0, 1) := by decide +kernel
theorem dX12_renew_19 : decode cX12_renew 19 = .ok (.iload_n 1, 1) := by decide +kernel
theorem dX12_renew_20 : decode cX12_renew 20 = .ok (.invokevirtual 283, 3) := by decide +kernel
theorem dX12_renew_23 : decode cX12_renew 23 = .ok (.ifCond .ne 9, 3) := by decide +kernel
theorem dX12_renew_26 : decode cX12_renew 26 = .ok (.aload_n 0, 1) := by decide +kernel
theorem dX12_renew_27 : decode cX12_renew 27 = .ok (.iconst 1, 1) := by decide +kernel
theorem dX12_renew_28 : decode cX12_renew 28 = .ok (.invokevirtual 280, 3) := by decide +kernel
theorem dX12_renew_31 : decode cX12_renew 31 = .ok (.ireturn, 1) := by decide +kernel
theorem dX12_renew_32 : decode cX12_renew 32 = .ok (.aload_n 0, 1) := by decide +kernel
theorem dX12_renew_33 : decode cX12_renew 33 = .ok (.iload_n 1, 1) := by decide +kernel
theorem dX12_renew_34 : decode cX12_renew 34 = .ok (.iconst 0, 1) := by decide +kernel
theorem dX12_renew_35 : decode cX12_renew 35 = .ok (.invokevirtual 286, 3) := by decide +kernel
theorem dX12_renew_38 : decode cX12_renew 38 = .ok (.aload_n 0, 1) := by decide +kernel
theorem dX12_renew_39 : decode cX12_renew 39 = .ok (.getfield 26, 3) := by decide +kernel
theorem dX12_renew_42 : decode cX12_renew 42 = .ok (.iload_n 1, 1) := by decide +kernel
theorem dX12_renew_43 : decode cX12_renew 43 = .ok (.iaload, 1) := by decide +kernel
theorem dX12_renew_44 : decode cX12_renew 44 = .ok (.if_icmp .ne 9, 3) := by decide +kernel
theorem dX12_renew_47 : decode cX12_renew 47 = .ok (.aload_n 0, 1) := by decide +kernel
theorem dX12_renew_48 : decode cX12_renew 48 = .ok (.iconst 2, 1) := by decide +kernel
theorem dX12_renew_49 : decode cX12_renew 49 = .ok (.invokevirtual 280, 3) := by decide +kernel
theorem dX12_renew_52 : decode cX12_renew 52 = .ok (.ireturn, 1) := by decide +kernel
theorem dX12_renew_53 : decode cX12_renew 53 = .ok (.aload_n 0, 1) := by decide +kernel
theorem dX12_renew_54 : decode cX12_renew 54 = .ok (.invokevirtual 289, 3) := by decide +kernel
theorem dX12_renew_57 : decode cX12_renew 57 = .ok (.aload_n 0, 1) := by decide +kernel
theorem dX12_renew_58 : decode cX12_renew 58 = .ok (.iload_n 1, 1) := by decide +kernel
theorem dX12_renew_59 : decode cX12_renew 59 = .ok (.iconst 0, 1) := by decide +kernel
theorem dX12_renew_60 : decode cX12_renew 60 = .ok (.aload_n 0, 1) := by decide +kernel
theorem dX12_renew_61 : decode cX12_renew 61 = .ok (.getfield 26, 3) := by decide +kernel
theorem dX12_renew_64 : decode cX12_renew 64 = .ok (.iload_n 1, 1) := by decide +kernel
theorem dX12_renew_65 : decode cX12_renew 65 = .ok (.iaload, 1) := by decide +kernel
theorem dX12_renew_66 : decode cX12_renew 66 = .ok (.invokevirtual 201, 3) := by decide +kernel
theorem dX12_renew_69 : decode cX12_renew 69 = .ok (.aload_n 0, 1) := by decide +kernel
theorem dX12_renew_70 : decode cX12_renew 70 = .ok (.getfield 26, 3) := by decide +kernel
theorem dX12_renew_73 : decode cX12_renew 73 = .ok (.iload_n 1, 1) := by decide +kernel
theorem dX12_renew_74 : decode cX12_renew 74 = .ok (.iaload, 1) := by decide +kernel
theorem dX12_renew_75 : decode cX12_renew 75 = .ok (.ireturn, 1) := by decide +kernel
theorem dX12_channel_0 : decode cX12_channel 0 = .ok (.aload_n 0, 1) := by decide +kernel
theorem dX12_channel_1 : decode cX12_channel 1 = .ok (.aload_n 0, 1) := by decide +kernel
theorem dX12_channel_2 : decode cX12_channel 2 = .ok (.iload_n 1, 1) := by decide +kernel
theorem dX12_channel_3 : decode cX12_channel 3 = .ok (.invokevirtual 283, 3) := by decide +kernel
theorem dX12_channel_6 : decode cX12_channel 6 = .ok (.ifCond .eq 19, 3) := by decide +kernel
theorem dX12_channel_9 : decode cX12_channel 9 = .ok (.iload_n 2, 1) := by decide +kernel
theorem dX12_channel_10 : decode cX12_channel 10 = .ok (.i2l, 1) := by decide +kernel
theorem dX12_channel_11 : decode cX12_channel 11 = .ok (.lconst 0, 1) := by decide +kernel
theorem dX12_channel_12 : decode cX12_channel 12 = .ok (.ldc2_w 381, 3) := by decide +kernel
theorem dX12_channel_15 : decode cX12_channel 15 = .ok (.invokestatic 70, 3) := by decide +kernel
theorem dX12_channel_18 : decode cX12_channel 18 = .ok (.ifCond .eq 7, 3) := by decide +kernel
theorem dX12_channel_21 : decode cX12_channel 21 = .ok (.iconst 0, 1) := by decide +kernel
theorem dX12_channel_22 : decode cX12_channel 22 = .ok (.goto 4, 3) := by decide +kernel
theorem dX12_channel_25 : decode cX12_channel 25 = .ok (.iconst 1, 1) := by decide +kernel
theorem dX12_channel_26 : decode cX12_channel 26 = .ok (.putfield 60, 3) := by decide +kernel
theorem dX12_channel_29 : decode cX12_channel 29 = .ok (.aload_n 0, 1) := by decide +kernel
theorem dX12_channel_30 : decode cX12_channel 30 = .ok (.getfield 60, 3) := by decide +kernel
theorem dX12_channel_33 : decode cX12_channel 33 = .ok (.iconst 1, 1) := by decide +kernel
theorem dX12_channel_34 : decode cX12_channel 34 = .ok (.if_icmp .ne 5, 3) := by decide +kernel
theorem dX12_channel_37 : decode cX12_channel 37 = .ok (.iconst 0, 1) := by decide +kernel
theorem dX12_channel_38 : decode cX12_channel 38 = .ok (.ireturn, 1) := by decide +kernel
theorem dX12_channel_39 : decode cX12_channel 39 = .ok (.iload_n 2, 1) := by decide +kernel
theorem dX12_channel_40 : decode cX12_channel 40 = .ok (.tableswitch 141 0 10 #[60, 67, 74, 81, 88, 95, 102, 109, 117, 125, 133], 60) := by decide +kernel
theorem dX12_channel_100 : decode cX12_channel 100 = .ok (.aload_n 0, 1) := by decide +kernel
theorem dX12_channel_101 : decode cX12_channel 101 = .ok (.iload_n 1, 1) := by decide +kernel
theorem dX12_channel_102 : decode cX12_channel 102 = .ok (.iconst 0, 1) := by decide +kernel
theorem dX12_channel_103 : decode cX12_channel 103 = .ok (.invokevirtual 286, 3) := by decide +kernel
theorem dX12_channel_106 : decode cX12_channel 106 = .ok (.ireturn, 1) := by decide +kernel
theorem dX12_channel_107 : decode cX12_channel 107 = .ok (.aload_n 0, 1) := by decide +kernel
theorem dX12_channel_108 : decode cX12_channel 108 = .ok (.getfield 26, 3) := by decide +kernel
theorem dX12_channel_111 : decode cX12_channel 111 = .ok (.iload_n 1, 1) := by decide +kernel
theorem dX12_channel_112 : decode cX12_channel 112 = .ok (.iaload, 1) := by decide +kernel
theorem dX12_channel_113 : decode cX12_channel 113 = .ok (.ireturn, 1) := by decide +kernel
theorem dX12_channel_114 : decode cX12_channel 114 = .ok (.aload_n 0, 1) := by decide +kernel
theorem dX12_channel_115 : decode cX12_channel 115 = .ok (.iload_n 1, 1) := by decide +kernel
theorem dX12_channel_116 : decode cX12_channel 116 = .ok (.iconst 1, 1) := by decide +kernel
theorem dX12_channel_117 : decode cX12_channel 117 = .ok (.invokevirtual 286, 3) := by decide +kernel
theorem dX12_channel_120 : decode cX12_channel 120 = .ok (.ireturn, 1) := by decide +kernel
theorem dX12_channel_121 : decode cX12_channel 121 = .ok (.aload_n 0, 1) := by decide +kernel
theorem dX12_channel_122 : decode cX12_channel 122 = .ok (.iload_n 1, 1) := by decide +kernel
theorem dX12_channel_123 : decode cX12_channel 123 = .ok (.iconst 2, 1) := by decide +kernel
theorem dX12_channel_124 : decode cX12_channel 124 = .ok (.invokevirtual 286, 3) := by decide +kernel
theorem dX12_channel_127 : decode cX12_channel 127 = .ok (.ireturn, 1) := by decide +kernel
theorem dX12_channel_128 : decode cX12_channel 128 = .ok (.aload_n 0, 1) := by decide +kernel
theorem dX12_channel_129 : decode cX12_channel 129 = .ok (.iload_n 1, 1) := by decide +kernel
theorem dX12_channel_130 : decode cX12_channel 130 = .ok (.iconst 3, 1) := by decide +kernel
theorem dX12_channel_131 : decode cX12_channel 131 = .ok (.invokevirtual 286, 3) := by decide +kernel
theorem dX12_channel_134 : decode cX12_channel 134 = .ok (.ireturn, 1) := by decide +kernel
theorem dX12_channel_135 : decode cX12_channel 135 = .ok (.aload_n 0, 1) := by decide +kernel
theorem dX12_channel_136 : decode cX12_channel 136 = .ok (.iload_n 1, 1) := by decide +kernel
theorem dX12_channel_137 : decode cX12_channel 137 = .ok (.iconst 4, 1) := by decide +kernel
theorem dX12_channel_138 : decode cX12_channel 138 = .ok (.invokevirtual 286, 3) := by decide +kernel
theorem dX12_channel_141 : decode cX12_channel 141 = .ok (.ireturn, 1) := by decide +kernel
theorem dX12_channel_142 : decode cX12_channel 142 = .ok (.aload_n 0, 1) := by decide +kernel
theorem dX12_channel_143 : decode cX12_channel 143 = .ok (.iload_n 1, 1) := by decide +kernel
theorem dX12_channel_144 : decode cX12_channel 144 = .ok (.iconst 5, 1) := by decide +kernel
theorem dX12_channel_145 : decode cX12_channel 145 = .ok (.invokevirtual 286, 3) := by decide +kernel
theorem dX12_channel_148 : decode cX12_channel 148 = .ok (.ireturn, 1) := by decide +kernel
theorem dX12_channel_149 : decode cX12_channel 149 = .ok (.aload_n 0, 1) := by decide +kernel
theorem dX12_channel_150 : decode cX12_channel 150 = .ok (.iload_n 1, 1) := by decide +kernel
theorem dX12_channel_151 : decode cX12_channel 151 = .ok (.bipush 6, 2) := by decide +kernel
theorem dX12_channel_153 : decode cX12_channel 153 = .ok (.invokevirtual 286, 3) := by decide +kernel
theorem dX12_channel_156 : decode cX12_channel 156 = .ok (.ireturn, 1) := by decide +kernel
theorem dX12_channel_157 : decode cX12_channel 157 = .ok (.aload_n 0, 1) := by decide +kernel
theorem dX12_channel_158 : decode cX12_channel 158 = .ok (.iload_n 1, 1) := by decide +kernel
theorem dX12_channel_159 : decode cX12_channel 159 = .ok (.bipush 7, 2) := by decide +kernel
theorem dX12_channel_161 : decode cX12_channel 161 = .ok (.invokevirtual 286, 3) := by decide +kernel
theorem dX12_channel_164 : decode cX12_channel 164 = .ok (.ireturn, 1) := by decide +kernel
theorem dX12_channel_165 : decode cX12_channel 165 = .ok (.aload_n 0, 1) := by decide +kernel
theorem dX12_channel_166 : decode cX12_channel 166 = .ok (.iload_n 1, 1) := by decide +kernel
theorem dX12_channel_167 : decode cX12_channel 167 = .ok (.bipush 8, 2) := by decide +kernel
theorem dX12_channel_169 : decode cX12_channel 169 = .ok (.invokevirtual 286, 3) := by decide +kernel
theorem dX12_channel_172 : decode cX12_channel 172 = .ok (.ireturn, 1) := by decide +kernel
theorem dX12_channel_173 : decode cX12_channel 173 = .ok (.aload_n 0, 1) := by decide +kernel
theorem dX12_channel_174 : decode cX12_channel 174 = .ok (.iload_n 1, 1) := by decide +kernel
theorem dX12_channel_175 : decode cX12_channel 175 = .ok (.bipush 9, 2) := by decide +kernel
theorem dX12_channel_177 : decode cX12_channel 177 = .ok (.invokevirtual 286, 3) := by decide +kernel
theorem dX12_channel_180 : decode cX12_channel 180 = .ok (.ireturn, 1) := by decide +kernel
theorem dX12_channel_181 : decode cX12_channel 181 = .ok (.aload_n 0, 1) := by decide +kernel
theorem dX12_channel_182 : decode cX12_channel 182 = .ok (.iload_n 1, 1) := by decide +kernel
theorem dX12_channel_183 : decode cX12_channel 183 = .ok (.bipush 10, 2) := by decide +kernel
theorem dX12_channel_185 : decode cX12_channel 185 = .ok (.invokevirtual 286, 3) := by decide +kernel
theorem dX12_channel_188 : decode cX12_channel 188 = .ok (.ireturn, 1) := by decide +kernel
theorem dX12_laysFrames_0 : decode cX12_laysFrames 0 = .ok (.aload_n 0, 1) := by decide +kernel
theorem dX12_laysFrames_1 : decode cX12_laysFrames 1 = .ok (.iconst 0, 1) := by decide +kernel
theorem dX12_laysFrames_2 : decode cX12_laysFrames 2 = .ok (.putfield 383, 3) := by decide +kernel
theorem dX12_laysFrames_5 : decode cX12_laysFrames 5 = .ok (.iconst 0, 1) := by decide +kernel
theorem dX12_laysFrames_6 : decode cX12_laysFrames 6 = .ok (.istore_n 1, 1) := by decide +kernel
theorem dX12_laysFrames_7 : decode cX12_laysFrames 7 = .ok (.iconst 0, 1) := by decide +kernel
theorem dX12_laysFrames_8 : decode cX12_laysFrames 8 = .ok (.istore_n 2, 1) := by decide +kernel
theorem dX12_laysFrames_9 : decode cX12_laysFrames 9 = .ok (.iload_n 2, 1) := by decide +kernel
theorem dX12_laysFrames_10 : decode cX12_laysFrames 10 = .ok (.aload_n 0, 1) := by decide +kernel
theorem dX12_laysFrames_11 : decode cX12_laysFrames 11 = .ok (.getfield 16, 3) := by decide +kernel
theorem dX12_laysFrames_14 : decode cX12_laysFrames 14 = .ok (.iconst 0, 1) := by decide +kernel
theorem dX12_laysFrames_15 : decode cX12_laysFrames 15 = .ok (.iaload, 1) := by decide +kernel
theorem dX12_laysFrames_16 : decode cX12_laysFrames 16 = .ok (.if_icmp .ge 59, 3) := by decide +kernel
theorem dX12_laysFrames_19 : decode cX12_laysFrames 19 = .ok (.aload_n 0, 1) := by decide +kernel
theorem dX12_laysFrames_20 : decode cX12_laysFrames 20 = .ok (.getfield 16, 3) := by decide +kernel
theorem dX12_laysFrames_23 : decode cX12_laysFrames 23 = .ok (.iconst 1, 1) := by decide +kernel
theorem dX12_laysFrames_24 : decode cX12_laysFrames 24 = .ok (.iload_n 2, 1) := by decide +kernel
theorem dX12_laysFrames_25 : decode cX12_laysFrames 25 = .ok (.iadd, 1) := by decide +kernel
theorem dX12_laysFrames_26 : decode cX12_laysFrames 26 = .ok (.iaload, 1) := by decide +kernel
theorem dX12_laysFrames_27 : decode cX12_laysFrames 27 = .ok (.ifCond .ne 42, 3) := by decide +kernel
theorem dX12_laysFrames_30 : decode cX12_laysFrames 30 = .ok (.iload_n 2, 1) := by decide +kernel
theorem dX12_laysFrames_31 : decode cX12_laysFrames 31 = .ok (.iload_n 1, 1) := by decide +kernel
theorem dX12_laysFrames_32 : decode cX12_laysFrames 32 = .ok (.if_icmp .le 33, 3) := by decide +kernel
theorem dX12_laysFrames_35 : decode cX12_laysFrames 35 = .ok (.aload_n 0, 1) := by decide +kernel
theorem dX12_laysFrames_36 : decode cX12_laysFrames 36 = .ok (.getfield 51, 3) := by decide +kernel
theorem dX12_laysFrames_39 : decode cX12_laysFrames 39 = .ok (.aload_n 0, 1) := by decide +kernel
theorem dX12_laysFrames_40 : decode cX12_laysFrames 40 = .ok (.getfield 383, 3) := by decide +kernel
theorem dX12_laysFrames_43 : decode cX12_laysFrames 43 = .ok (.iload_n 1, 1) := by decide +kernel
theorem dX12_laysFrames_44 : decode cX12_laysFrames 44 = .ok (.iastore, 1) := by decide +kernel
theorem dX12_laysFrames_45 : decode cX12_laysFrames 45 = .ok (.aload_n 0, 1) := by decide +kernel
theorem dX12_laysFrames_46 : decode cX12_laysFrames 46 = .ok (.getfield 54, 3) := by decide +kernel
theorem dX12_laysFrames_49 : decode cX12_laysFrames 49 = .ok (.aload_n 0, 1) := by decide +kernel
theorem dX12_laysFrames_50 : decode cX12_laysFrames 50 = .ok (.getfield 383, 3) := by decide +kernel
theorem dX12_laysFrames_53 : decode cX12_laysFrames 53 = .ok (.iload_n 2, 1) := by decide +kernel
theorem dX12_laysFrames_54 : decode cX12_laysFrames 54 = .ok (.iastore, 1) := by decide +kernel
theorem dX12_laysFrames_55 : decode cX12_laysFrames 55 = .ok (.aload_n 0, 1) := by decide +kernel
theorem dX12_laysFrames_56 : decode cX12_laysFrames 56 = .ok (.dup, 1) := by decide +kernel
theorem dX12_laysFrames_57 : decode cX12_laysFrames 57 = .ok (.getfield 383, 3) := by decide +kernel
theorem dX12_laysFrames_60 : decode cX12_laysFrames 60 = .ok (.iconst 1, 1) := by decide +kernel
theorem dX12_laysFrames_61 : decode cX12_laysFrames 61 = .ok (.iadd, 1) := by decide +kernel
theorem dX12_laysFrames_62 : decode cX12_laysFrames 62 = .ok (.putfield 383, 3) := by decide +kernel
theorem dX12_laysFrames_65 : decode cX12_laysFrames 65 = .ok (.iload_n 2, 1) := by decide +kernel
theorem dX12_laysFrames_66 : decode cX12_laysFrames 66 = .ok (.iconst 1, 1) := by decide +kernel
theorem dX12_laysFrames_67 : decode cX12_laysFrames 67 = .ok (.iadd, 1) := by decide +kernel
theorem dX12_laysFrames_68 : decode cX12_laysFrames 68 = .ok (.istore_n 1, 1) := by decide +kernel
theorem dX12_laysFrames_69 : decode cX12_laysFrames 69 = .ok (.iinc 2 1, 3) := by decide +kernel
theorem dX12_laysFrames_72 : decode cX12_laysFrames 72 = .ok (.goto (-63), 3) := by decide +kernel
theorem dX12_laysFrames_75 : decode cX12_laysFrames 75 = .ok (.aload_n 0, 1) := by decide +kernel
theorem dX12_laysFrames_76 : decode cX12_laysFrames 76 = .ok (.getfield 383, 3) := by decide +kernel
theorem dX12_laysFrames_79 : decode cX12_laysFrames 79 = .ok (.ireturn, 1) := by decide +kernel
theorem dX12_frameAt_0 : decode cX12_frameAt 0 = .ok (.aload_n 0, 1) := by decide +kernel
theorem dX12_frameAt_1 : decode cX12_frameAt 1 = .ok (.sipush 200, 3) := by decide +kernel
theorem dX12_frameAt_4 : decode cX12_frameAt 4 = .ok (.aload_n 0, 1) := by decide +kernel
theorem dX12_frameAt_5 : decode cX12_frameAt 5 = .ok (.getfield 54, 3) := by decide +kernel
theorem dX12_frameAt_8 : decode cX12_frameAt 8 = .ok (.iload_n 1, 1) := by decide +kernel
theorem dX12_frameAt_9 : decode cX12_frameAt 9 = .ok (.iaload, 1) := by decide +kernel
theorem dX12_frameAt_10 : decode cX12_frameAt 10 = .ok (.aload_n 0, 1) := by decide +kernel
theorem dX12_frameAt_11 : decode cX12_frameAt 11 = .ok (.getfield 51, 3) := by decide +kernel
theorem dX12_frameAt_14 : decode cX12_frameAt 14 = .ok (.iload_n 1, 1) := by decide +kernel
theorem dX12_frameAt_15 : decode cX12_frameAt 15 = .ok (.iaload, 1) := by decide +kernel
theorem dX12_frameAt_16 : decode cX12_frameAt 16 = .ok (.isub, 1) := by decide +kernel
theorem dX12_frameAt_17 : decode cX12_frameAt 17 = .ok (.invokestatic 97, 3) := by decide +kernel
theorem dX12_frameAt_20 : decode cX12_frameAt 20 = .ok (.putfield 214, 3) := by decide +kernel
theorem dX12_frameAt_23 : decode cX12_frameAt 23 = .ok (.iconst 0, 1) := by decide +kernel
theorem dX12_frameAt_24 : decode cX12_frameAt 24 = .ok (.istore_n 2, 1) := by decide +kernel
theorem dX12_frameAt_25 : decode cX12_frameAt 25 = .ok (.iload_n 2, 1) := by decide +kernel
theorem dX12_frameAt_26 : decode cX12_frameAt 26 = .ok (.aload_n 0, 1) := by decide +kernel
theorem dX12_frameAt_27 : decode cX12_frameAt 27 = .ok (.getfield 214, 3) := by decide +kernel
theorem dX12_frameAt_30 : decode cX12_frameAt 30 = .ok (.if_icmp .ge 30, 3) := by decide +kernel
theorem dX12_frameAt_33 : decode cX12_frameAt 33 = .ok (.aload_n 0, 1) := by decide +kernel
theorem dX12_frameAt_34 : decode cX12_frameAt 34 = .ok (.getfield 32, 3) := by decide +kernel
theorem dX12_frameAt_37 : decode cX12_frameAt 37 = .ok (.iload_n 2, 1) := by decide +kernel
theorem dX12_frameAt_38 : decode cX12_frameAt 38 = .ok (.aload_n 0, 1) := by decide +kernel
theorem dX12_frameAt_39 : decode cX12_frameAt 39 = .ok (.getfield 16, 3) := by decide +kernel
theorem dX12_frameAt_42 : decode cX12_frameAt 42 = .ok (.iconst 1, 1) := by decide +kernel
theorem dX12_frameAt_43 : decode cX12_frameAt 43 = .ok (.aload_n 0, 1) := by decide +kernel
theorem dX12_frameAt_44 : decode cX12_frameAt 44 = .ok (.getfield 51, 3) := by decide +kernel
theorem dX12_frameAt_47 : decode cX12_frameAt 47 = .ok (.iload_n 1, 1) := by decide +kernel
theorem dX12_frameAt_48 : decode cX12_frameAt 48 = .ok (.iaload, 1) := by decide +kernel
theorem dX12_frameAt_49 : decode cX12_frameAt 49 = .ok (.iadd, 1) := by decide +kernel
theorem dX12_frameAt_50 : decode cX12_frameAt 50 = .ok (.iload_n 2, 1) := by decide +kernel
theorem dX12_frameAt_51 : decode cX12_frameAt 51 = .ok (.iadd, 1) := by decide +kernel
theorem dX12_frameAt_52 : decode cX12_frameAt 52 = .ok (.iaload, 1) := by decide +kernel
theorem dX12_frameAt_53 : decode cX12_frameAt 53 = .ok (.iastore, 1) := by decide +kernel
theorem dX12_frameAt_54 : decode cX12_frameAt 54 = .ok (.iinc 2 1, 3) := by decide +kernel
theorem dX12_frameAt_57 : decode cX12_frameAt 57 = .ok (.goto (-32), 3) := by decide +kernel
theorem dX12_frameAt_60 : decode cX12_frameAt 60 = .ok (.aload_n 0, 1) := by decide +kernel
theorem dX12_frameAt_61 : decode cX12_frameAt 61 = .ok (.aload_n 0, 1) := by decide +kernel
theorem dX12_frameAt_62 : decode cX12_frameAt 62 = .ok (.getfield 54, 3) := by decide +kernel
theorem dX12_frameAt_65 : decode cX12_frameAt 65 = .ok (.iload_n 1, 1) := by decide +kernel
theorem dX12_frameAt_66 : decode cX12_frameAt 66 = .ok (.iaload, 1) := by decide +kernel
theorem dX12_frameAt_67 : decode cX12_frameAt 67 = .ok (.aload_n 0, 1) := by decide +kernel
theorem dX12_frameAt_68 : decode cX12_frameAt 68 = .ok (.getfield 51, 3) := by decide +kernel
theorem dX12_frameAt_71 : decode cX12_frameAt 71 = .ok (.iload_n 1, 1) := by decide +kernel
theorem dX12_frameAt_72 : decode cX12_frameAt 72 = .ok (.iaload, 1) := by decide +kernel
theorem dX12_frameAt_73 : decode cX12_frameAt 73 = .ok (.isub, 1) := by decide +kernel
theorem dX12_frameAt_74 : decode cX12_frameAt 74 = .ok (.sipush 200, 3) := by decide +kernel
theorem dX12_frameAt_77 : decode cX12_frameAt 77 = .ok (.if_icmp .le 7, 3) := by decide +kernel
theorem dX12_frameAt_80 : decode cX12_frameAt 80 = .ok (.iconst 1, 1) := by decide +kernel
theorem dX12_frameAt_81 : decode cX12_frameAt 81 = .ok (.goto 4, 3) := by decide +kernel
theorem dX12_frameAt_84 : decode cX12_frameAt 84 = .ok (.iconst 0, 1) := by decide +kernel
theorem dX12_frameAt_85 : decode cX12_frameAt 85 = .ok (.invokevirtual 357, 3) := by decide +kernel
theorem dX12_frameAt_88 : decode cX12_frameAt 88 = .ok (.ireturn, 1) := by decide +kernel
theorem dX12_frame_0 : decode cX12_frame 0 = .ok (.aload_n 0, 1) := by decide +kernel
theorem dX12_frame_1 : decode cX12_frame 1 = .ok (.iconst 0, 1) := by decide +kernel
theorem dX12_frame_2 : decode cX12_frame 2 = .ok (.putfield 60, 3) := by decide +kernel
theorem dX12_frame_5 : decode cX12_frame 5 = .ok (.aload_n 0, 1) := by decide +kernel
theorem dX12_frame_6 : decode cX12_frame 6 = .ok (.getfield 188, 3) := by decide +kernel
theorem dX12_frame_9 : decode cX12_frame 9 = .ok (.ifCond .eq 31, 3) := by decide +kernel
theorem dX12_frame_12 : decode cX12_frame 12 = .ok (.iload_n 1, 1) := by decide +kernel
theorem dX12_frame_13 : decode cX12_frame 13 = .ok (.i2l, 1) := by decide +kernel
theorem dX12_frame_14 : decode cX12_frame 14 = .ok (.lconst 0, 1) := by decide +kernel
theorem dX12_frame_15 : decode cX12_frame 15 = .ok (.aload_n 0, 1) := by decide +kernel
theorem dX12_frame_16 : decode cX12_frame 16 = .ok (.invokevirtual 386, 3) := by decide +kernel
theorem dX12_frame_19 : decode cX12_frame 19 = .ok (.iconst 1, 1) := by decide +kernel
theorem dX12_frame_20 : decode cX12_frame 20 = .ok (.isub, 1) := by decide +kernel
theorem dX12_frame_21 : decode cX12_frame 21 = .ok (.i2l, 1) := by decide +kernel
theorem dX12_frame_22 : decode cX12_frame 22 = .ok (.invokestatic 70, 3) := by decide +kernel
theorem dX12_frame_25 : decode cX12_frame 25 = .ok (.ifCond .eq 15, 3) := by decide +kernel
theorem dX12_frame_28 : decode cX12_frame 28 = .ok (.iload_n 2, 1) := by decide +kernel
theorem dX12_frame_29 : decode cX12_frame 29 = .ok (.i2l, 1) := by decide +kernel
theorem dX12_frame_30 : decode cX12_frame 30 = .ok (.lconst 0, 1) := by decide +kernel
theorem dX12_frame_31 : decode cX12_frame 31 = .ok (.ldc2_w 379, 3) := by decide +kernel
theorem dX12_frame_34 : decode cX12_frame 34 = .ok (.invokestatic 70, 3) := by decide +kernel
theorem dX12_frame_37 : decode cX12_frame 37 = .ok (.ifCond .ne 5, 3) := by decide +kernel
theorem dX12_frame_40 : decode cX12_frame 40 = .ok (.iconst (-1), 1) := by decide +kernel
theorem dX12_frame_41 : decode cX12_frame 41 = .ok (.ireturn, 1) := by decide +kernel
theorem dX12_frame_42 : decode cX12_frame 42 = .ok (.iload_n 2, 1) := by decide +kernel
theorem dX12_frame_43 : decode cX12_frame 43 = .ok (.iconst 2, 1) := by decide +kernel
theorem dX12_frame_44 : decode cX12_frame 44 = .ok (.if_icmp .ge 30, 3) := by decide +kernel
theorem dX12_frame_47 : decode cX12_frame 47 = .ok (.iload_n 2, 1) := by decide +kernel
theorem dX12_frame_48 : decode cX12_frame 48 = .ok (.ifCond .ne 12, 3) := by decide +kernel
theorem dX12_frame_51 : decode cX12_frame 51 = .ok (.aload_n 0, 1) := by decide +kernel
theorem dX12_frame_52 : decode cX12_frame 52 = .ok (.getfield 51, 3) := by decide +kernel
theorem dX12_frame_55 : decode cX12_frame 55 = .ok (.iload_n 1, 1) := by decide +kernel
theorem dX12_frame_56 : decode cX12_frame 56 = .ok (.iaload, 1) := by decide +kernel
theorem dX12_frame_57 : decode cX12_frame 57 = .ok (.goto 16, 3) := by decide +kernel
theorem dX12_frame_60 : decode cX12_frame 60 = .ok (.aload_n 0, 1) := by decide +kernel
theorem dX12_frame_61 : decode cX12_frame 61 = .ok (.getfield 54, 3) := by decide +kernel
theorem dX12_frame_64 : decode cX12_frame 64 = .ok (.iload_n 1, 1) := by decide +kernel
theorem dX12_frame_65 : decode cX12_frame 65 = .ok (.iaload, 1) := by decide +kernel
theorem dX12_frame_66 : decode cX12_frame 66 = .ok (.aload_n 0, 1) := by decide +kernel
theorem dX12_frame_67 : decode cX12_frame 67 = .ok (.getfield 51, 3) := by decide +kernel
theorem dX12_frame_70 : decode cX12_frame 70 = .ok (.iload_n 1, 1) := by decide +kernel
theorem dX12_frame_71 : decode cX12_frame 71 = .ok (.iaload, 1) := by decide +kernel
theorem dX12_frame_72 : decode cX12_frame 72 = .ok (.isub, 1) := by decide +kernel
theorem dX12_frame_73 : decode cX12_frame 73 = .ok (.ireturn, 1) := by decide +kernel
theorem dX12_frame_74 : decode cX12_frame 74 = .ok (.aload_n 0, 1) := by decide +kernel
theorem dX12_frame_75 : decode cX12_frame 75 = .ok (.iload_n 1, 1) := by decide +kernel
theorem dX12_frame_76 : decode cX12_frame 76 = .ok (.invokevirtual 389, 3) := by decide +kernel
theorem dX12_frame_79 : decode cX12_frame 79 = .ok (.istore_n 3, 1) := by decide +kernel
theorem dX12_frame_80 : decode cX12_frame 80 = .ok (.iload_n 3, 1) := by decide +kernel
theorem dX12_frame_81 : decode cX12_frame 81 = .ok (.iconst 2, 1) := by decide +kernel
theorem dX12_frame_82 : decode cX12_frame 82 = .ok (.if_icmp .eq 12, 3) := by decide +kernel
theorem dX12_frame_85 : decode cX12_frame 85 = .ok (.iload_n 3, 1) := by decide +kernel
theorem dX12_frame_86 : decode cX12_frame 86 = .ok (.iconst 3, 1) := by decide +kernel
theorem dX12_frame_87 : decode cX12_frame 87 = .ok (.if_icmp .eq 7, 3) := by decide +kernel
theorem dX12_frame_90 : decode cX12_frame 90 = .ok (.iconst 1, 1) := by decide +kernel
theorem dX12_frame_91 : decode cX12_frame 91 = .ok (.goto 4, 3) := by decide +kernel
theorem dX12_frame_94 : decode cX12_frame 94 = .ok (.iconst 0, 1) := by decide +kernel
theorem dX12_frame_95 : decode cX12_frame 95 = .ok (.istore 4, 2) := by decide +kernel
theorem dX12_frame_97 : decode cX12_frame 97 = .ok (.iload_n 2, 1) := by decide +kernel
theorem dX12_frame_98 : decode cX12_frame 98 = .ok (.iconst 2, 1) := by decide +kernel
theorem dX12_frame_99 : decode cX12_frame 99 = .ok (.if_icmp .ne 7, 3) := by decide +kernel
theorem dX12_frame_102 : decode cX12_frame 102 = .ok (.iload_n 3, 1) := by decide +kernel
theorem dX12_frame_103 : decode cX12_frame 103 = .ok (.goto 38, 3) := by decide +kernel
theorem dX12_frame_106 : decode cX12_frame 106 = .ok (.iload 4, 2) := by decide +kernel
theorem dX12_frame_108 : decode cX12_frame 108 = .ok (.ifCond .ne 7, 3) := by decide +kernel
theorem dX12_frame_111 : decode cX12_frame 111 = .ok (.iconst (-1), 1) := by decide +kernel
theorem dX12_frame_112 : decode cX12_frame 112 = .ok (.goto 29, 3) := by decide +kernel
theorem dX12_frame_115 : decode cX12_frame 115 = .ok (.iload_n 2, 1) := by decide +kernel
theorem dX12_frame_116 : decode cX12_frame 116 = .ok (.iconst 3, 1) := by decide +kernel
theorem dX12_frame_117 : decode cX12_frame 117 = .ok (.if_icmp .ne 15, 3) := by decide +kernel
theorem dX12_frame_120 : decode cX12_frame 120 = .ok (.aload_n 0, 1) := by decide +kernel
theorem dX12_frame_121 : decode cX12_frame 121 = .ok (.getfield 29, 3) := by decide +kernel
theorem dX12_frame_124 : decode cX12_frame 124 = .ok (.iconst 0, 1) := by decide +kernel
theorem dX12_frame_125 : decode cX12_frame 125 = .ok (.iaload, 1) := by decide +kernel
theorem dX12_frame_126 : decode cX12_frame 126 = .ok (.bipush 64, 2) := by decide +kernel
theorem dX12_frame_128 : decode cX12_frame 128 = .ok (.idiv, 1) := by decide +kernel
theorem dX12_frame_129 : decode cX12_frame 129 = .ok (.goto 12, 3) := by decide +kernel
theorem dX12_frame_132 : decode cX12_frame 132 = .ok (.aload_n 0, 1) := by decide +kernel
theorem dX12_frame_133 : decode cX12_frame 133 = .ok (.getfield 29, 3) := by decide +kernel
theorem dX12_frame_136 : decode cX12_frame 136 = .ok (.iconst 0, 1) := by decide +kernel
theorem dX12_frame_137 : decode cX12_frame 137 = .ok (.iaload, 1) := by decide +kernel
theorem dX12_frame_138 : decode cX12_frame 138 = .ok (.bipush 16, 2) := by decide +kernel
theorem dX12_frame_140 : decode cX12_frame 140 = .ok (.irem, 1) := by decide +kernel
theorem dX12_frame_141 : decode cX12_frame 141 = .ok (.ireturn, 1) := by decide +kernel
theorem dX12_blind_0 : decode cX12_blind 0 = .ok (.aload_n 0, 1) := by decide +kernel
theorem dX12_blind_1 : decode cX12_blind 1 = .ok (.iconst 0, 1) := by decide +kernel
theorem dX12_blind_2 : decode cX12_blind 2 = .ok (.putfield 60, 3) := by decide +kernel
theorem dX12_blind_5 : decode cX12_blind 5 = .ok (.aload_n 0, 1) := by decide +kernel
theorem dX12_blind_6 : decode cX12_blind 6 = .ok (.getfield 188, 3) := by decide +kernel
theorem dX12_blind_9 : decode cX12_blind 9 = .ok (.ifCond .eq 19, 3) := by decide +kernel
theorem dX12_blind_12 : decode cX12_blind 12 = .ok (.iload_n 1, 1) := by decide +kernel
theorem dX12_blind_13 : decode cX12_blind 13 = .ok (.i2l, 1) := by decide +kernel
theorem dX12_blind_14 : decode cX12_blind 14 = .ok (.lconst 0, 1) := by decide +kernel
theorem dX12_blind_15 : decode cX12_blind 15 = .ok (.aload_n 0, 1) := by decide +kernel
theorem dX12_blind_16 : decode cX12_blind 16 = .ok (.invokevirtual 386, 3) := by decide +kernel
theorem dX12_blind_19 : decode cX12_blind 19 = .ok (.iconst 1, 1) := by decide +kernel
theorem dX12_blind_20 : decode cX12_blind 20 = .ok (.isub, 1) := by decide +kernel
theorem dX12_blind_21 : decode cX12_blind 21 = .ok (.i2l, 1) := by decide +kernel
theorem dX12_blind_22 : decode cX12_blind 22 = .ok (.invokestatic 70, 3) := by decide +kernel
theorem dX12_blind_25 : decode cX12_blind 25 = .ok (.ifCond .ne 5, 3) := by decide +kernel
theorem dX12_blind_28 : decode cX12_blind 28 = .ok (.iconst (-1), 1) := by decide +kernel
theorem dX12_blind_29 : decode cX12_blind 29 = .ok (.ireturn, 1) := by decide +kernel
theorem dX12_blind_30 : decode cX12_blind 30 = .ok (.aload_n 0, 1) := by decide +kernel
theorem dX12_blind_31 : decode cX12_blind 31 = .ok (.iload_n 1, 1) := by decide +kernel
theorem dX12_blind_32 : decode cX12_blind 32 = .ok (.invokevirtual 389, 3) := by decide +kernel
theorem dX12_blind_35 : decode cX12_blind 35 = .ok (.ifCond .eq 6, 3) := by decide +kernel
theorem dX12_blind_38 : decode cX12_blind 38 = .ok (.bipush (-2), 2) := by decide +kernel
theorem dX12_blind_40 : decode cX12_blind 40 = .ok (.ireturn, 1) := by decide +kernel
theorem dX12_blind_41 : decode cX12_blind 41 = .ok (.iconst 0, 1) := by decide +kernel
theorem dX12_blind_42 : decode cX12_blind 42 = .ok (.istore_n 2, 1) := by decide +kernel
theorem dX12_blind_43 : decode cX12_blind 43 = .ok (.aload_n 0, 1) := by decide +kernel
theorem dX12_blind_44 : decode cX12_blind 44 = .ok (.getfield 51, 3) := by decide +kernel
theorem dX12_blind_47 : decode cX12_blind 47 = .ok (.iload_n 1, 1) := by decide +kernel
theorem dX12_blind_48 : decode cX12_blind 48 = .ok (.iaload, 1) := by decide +kernel
theorem dX12_blind_49 : decode cX12_blind 49 = .ok (.istore_n 3, 1) := by decide +kernel
theorem dX12_blind_50 : decode cX12_blind 50 = .ok (.iload_n 3, 1) := by decide +kernel
theorem dX12_blind_51 : decode cX12_blind 51 = .ok (.aload_n 0, 1) := by decide +kernel
theorem dX12_blind_52 : decode cX12_blind 52 = .ok (.getfield 54, 3) := by decide +kernel
theorem dX12_blind_55 : decode cX12_blind 55 = .ok (.iload_n 1, 1) := by decide +kernel
theorem dX12_blind_56 : decode cX12_blind 56 = .ok (.iaload, 1) := by decide +kernel
theorem dX12_blind_57 : decode cX12_blind 57 = .ok (.if_icmp .ge 83, 3) := by decide +kernel
theorem dX12_blind_60 : decode cX12_blind 60 = .ok (.aload_n 0, 1) := by decide +kernel
theorem dX12_blind_61 : decode cX12_blind 61 = .ok (.getfield 16, 3) := by decide +kernel
theorem dX12_blind_64 : decode cX12_blind 64 = .ok (.iconst 1, 1) := by decide +kernel
theorem dX12_blind_65 : decode cX12_blind 65 = .ok (.iload_n 3, 1) := by decide +kernel
theorem dX12_blind_66 : decode cX12_blind 66 = .ok (.iadd, 1) := by decide +kernel
theorem dX12_blind_67 : decode cX12_blind 67 = .ok (.iaload, 1) := by decide +kernel
theorem dX12_blind_68 : decode cX12_blind 68 = .ok (.istore 4, 2) := by decide +kernel
theorem dX12_blind_70 : decode cX12_blind 70 = .ok (.iconst 1, 1) := by decide +kernel
theorem dX12_blind_71 : decode cX12_blind 71 = .ok (.istore 5, 2) := by decide +kernel
theorem dX12_blind_73 : decode cX12_blind 73 = .ok (.iload 5, 2) := by decide +kernel
theorem dX12_blind_75 : decode cX12_blind 75 = .ok (.sipush 256, 3) := by decide +kernel
theorem dX12_blind_78 : decode cX12_blind 78 = .ok (.if_icmp .ge 46, 3) := by decide +kernel
theorem dX12_blind_81 : decode cX12_blind 81 = .ok (.iload 4, 2) := by decide +kernel
theorem dX12_blind_83 : decode cX12_blind 83 = .ok (.iload 5, 2) := by decide +kernel
theorem dX12_blind_85 : decode cX12_blind 85 = .ok (.ixor, 1) := by decide +kernel
theorem dX12_blind_86 : decode cX12_blind 86 = .ok (.ifCond .eq 32, 3) := by decide +kernel
theorem dX12_blind_89 : decode cX12_blind 89 = .ok (.aload_n 0, 1) := by decide +kernel
theorem dX12_blind_90 : decode cX12_blind 90 = .ok (.getfield 16, 3) := by decide +kernel
theorem dX12_blind_93 : decode cX12_blind 93 = .ok (.iconst 1, 1) := by decide +kernel
theorem dX12_blind_94 : decode cX12_blind 94 = .ok (.iload_n 3, 1) := by decide +kernel
theorem dX12_blind_95 : decode cX12_blind 95 = .ok (.iadd, 1) := by decide +kernel
theorem dX12_blind_96 : decode cX12_blind 96 = .ok (.iload 4, 2) := by decide +kernel
theorem dX12_blind_98 : decode cX12_blind 98 = .ok (.iload 5, 2) := by decide +kernel
theorem dX12_blind_100 : decode cX12_blind 100 = .ok (.ixor, 1) := by decide +kernel
theorem dX12_blind_101 : decode cX12_blind 101 = .ok (.iastore, 1) := by decide +kernel
theorem dX12_blind_102 : decode cX12_blind 102 = .ok (.iload_n 2, 1) := by decide +kernel
theorem dX12_blind_103 : decode cX12_blind 103 = .ok (.aload_n 0, 1) := by decide +kernel
theorem dX12_blind_104 : decode cX12_blind 104 = .ok (.iload_n 1, 1) := by decide +kernel
theorem dX12_blind_105 : decode cX12_blind 105 = .ok (.invokevirtual 389, 3) := by decide +kernel
theorem dX12_blind_108 : decode cX12_blind 108 = .ok (.ifCond .ne 7, 3) := by decide +kernel
theorem dX12_blind_111 : decode cX12_blind 111 = .ok (.iconst 1, 1) := by decide +kernel
theorem dX12_blind_112 : decode cX12_blind 112 = .ok (.goto 4, 3) := by decide +kernel
theorem dX12_blind_115 : decode cX12_blind 115 = .ok (.iconst 0, 1) := by decide +kernel
theorem dX12_blind_116 : decode cX12_blind 116 = .ok (.iadd, 1) := by decide +kernel
theorem dX12_blind_117 : decode cX12_blind 117 = .ok (.istore_n 2, 1) := by decide +kernel
theorem dX12_blind_118 : decode cX12_blind 118 = .ok (.iinc 5 1, 3) := by decide +kernel
theorem dX12_blind_121 : decode cX12_blind 121 = .ok (.goto (-48), 3) := by decide +kernel
theorem dX12_blind_124 : decode cX12_blind 124 = .ok (.aload_n 0, 1) := by decide +kernel
theorem dX12_blind_125 : decode cX12_blind 125 = .ok (.getfield 16, 3) := by decide +kernel
theorem dX12_blind_128 : decode cX12_blind 128 = .ok (.iconst 1, 1) := by decide +kernel
theorem dX12_blind_129 : decode cX12_blind 129 = .ok (.iload_n 3, 1) := by decide +kernel
theorem dX12_blind_130 : decode cX12_blind 130 = .ok (.iadd, 1) := by decide +kernel
theorem dX12_blind_131 : decode cX12_blind 131 = .ok (.iload 4, 2) := by decide +kernel
theorem dX12_blind_133 : decode cX12_blind 133 = .ok (.iastore, 1) := by decide +kernel
theorem dX12_blind_134 : decode cX12_blind 134 = .ok (.iinc 3 1, 3) := by decide +kernel
theorem dX12_blind_137 : decode cX12_blind 137 = .ok (.goto (-87), 3) := by decide +kernel
theorem dX12_blind_140 : decode cX12_blind 140 = .ok (.iload_n 2, 1) := by decide +kernel
theorem dX12_blind_141 : decode cX12_blind 141 = .ok (.ireturn, 1) := by decide +kernel
theorem dX12_thereAll_0 : decode cX12_thereAll 0 = .ok (.iconst 0, 1) := by decide +kernel
theorem dX12_thereAll_1 : decode cX12_thereAll 1 = .ok (.istore_n 1, 1) := by decide +kernel
theorem dX12_thereAll_2 : decode cX12_thereAll 2 = .ok (.iconst 0, 1) := by decide +kernel
theorem dX12_thereAll_3 : decode cX12_thereAll 3 = .ok (.istore_n 2, 1) := by decide +kernel
theorem dX12_thereAll_4 : decode cX12_thereAll 4 = .ok (.iload_n 2, 1) := by decide +kernel
theorem dX12_thereAll_5 : decode cX12_thereAll 5 = .ok (.aload_n 0, 1) := by decide +kernel
theorem dX12_thereAll_6 : decode cX12_thereAll 6 = .ok (.getfield 198, 3) := by decide +kernel
theorem dX12_thereAll_9 : decode cX12_thereAll 9 = .ok (.if_icmp .ge 19, 3) := by decide +kernel
theorem dX12_thereAll_12 : decode cX12_thereAll 12 = .ok (.iload_n 1, 1) := by decide +kernel
theorem dX12_thereAll_13 : decode cX12_thereAll 13 = .ok (.aload_n 0, 1) := by decide +kernel
theorem dX12_thereAll_14 : decode cX12_thereAll 14 = .ok (.iload_n 2, 1) := by decide +kernel
theorem dX12_thereAll_15 : decode cX12_thereAll 15 = .ok (.bipush 7, 2) := by decide +kernel
theorem dX12_thereAll_17 : decode cX12_thereAll 17 = .ok (.invokevirtual 286, 3) := by decide +kernel
theorem dX12_thereAll_20 : decode cX12_thereAll 20 = .ok (.iadd, 1) := by decide +kernel
theorem dX12_thereAll_21 : decode cX12_thereAll 21 = .ok (.istore_n 1, 1) := by decide +kernel
theorem dX12_thereAll_22 : decode cX12_thereAll 22 = .ok (.iinc 2 1, 3) := by decide +kernel
theorem dX12_thereAll_25 : decode cX12_thereAll 25 = .ok (.goto (-21), 3) := by decide +kernel
theorem dX12_thereAll_28 : decode cX12_thereAll 28 = .ok (.iload_n 1, 1) := by decide +kernel
theorem dX12_thereAll_29 : decode cX12_thereAll 29 = .ok (.ireturn, 1) := by decide +kernel
theorem dX12_sumOf_0 : decode cX12_sumOf 0 = .ok (.iconst 0, 1) := by decide +kernel
theorem dX12_sumOf_1 : decode cX12_sumOf 1 = .ok (.istore_n 2, 1) := by decide +kernel
theorem dX12_sumOf_2 : decode cX12_sumOf 2 = .ok (.iconst 0, 1) := by decide +kernel
theorem dX12_sumOf_3 : decode cX12_sumOf 3 = .ok (.istore_n 3, 1) := by decide +kernel
theorem dX12_sumOf_4 : decode cX12_sumOf 4 = .ok (.iload_n 3, 1) := by decide +kernel
theorem dX12_sumOf_5 : decode cX12_sumOf 5 = .ok (.aload_n 0, 1) := by decide +kernel
theorem dX12_sumOf_6 : decode cX12_sumOf 6 = .ok (.getfield 198, 3) := by decide +kernel
theorem dX12_sumOf_9 : decode cX12_sumOf 9 = .ok (.if_icmp .ge 18, 3) := by decide +kernel
theorem dX12_sumOf_12 : decode cX12_sumOf 12 = .ok (.iload_n 2, 1) := by decide +kernel
theorem dX12_sumOf_13 : decode cX12_sumOf 13 = .ok (.aload_n 0, 1) := by decide +kernel
theorem dX12_sumOf_14 : decode cX12_sumOf 14 = .ok (.iload_n 3, 1) := by decide +kernel
theorem dX12_sumOf_15 : decode cX12_sumOf 15 = .ok (.iload_n 1, 1) := by decide +kernel
theorem dX12_sumOf_16 : decode cX12_sumOf 16 = .ok (.invokevirtual 286, 3) := by decide +kernel
theorem dX12_sumOf_19 : decode cX12_sumOf 19 = .ok (.iadd, 1) := by decide +kernel
theorem dX12_sumOf_20 : decode cX12_sumOf 20 = .ok (.istore_n 2, 1) := by decide +kernel
theorem dX12_sumOf_21 : decode cX12_sumOf 21 = .ok (.iinc 3 1, 3) := by decide +kernel
theorem dX12_sumOf_24 : decode cX12_sumOf 24 = .ok (.goto (-20), 3) := by decide +kernel
theorem dX12_sumOf_27 : decode cX12_sumOf 27 = .ok (.iload_n 2, 1) := by decide +kernel
theorem dX12_sumOf_28 : decode cX12_sumOf 28 = .ok (.ireturn, 1) := by decide +kernel
theorem dX12_harm_0 : decode cX12_harm 0 = .ok (.aload_n 0, 1) := by decide +kernel
theorem dX12_harm_1 : decode cX12_harm 1 = .ok (.iconst 0, 1) := by decide +kernel
theorem dX12_harm_2 : decode cX12_harm 2 = .ok (.putfield 60, 3) := by decide +kernel
theorem dX12_harm_5 : decode cX12_harm 5 = .ok (.aload_n 0, 1) := by decide +kernel
theorem dX12_harm_6 : decode cX12_harm 6 = .ok (.iload_n 1, 1) := by decide +kernel
theorem dX12_harm_7 : decode cX12_harm 7 = .ok (.invokevirtual 315, 3) := by decide +kernel
theorem dX12_harm_10 : decode cX12_harm 10 = .ok (.ifCond .eq 15, 3) := by decide +kernel
theorem dX12_harm_13 : decode cX12_harm 13 = .ok (.iload_n 2, 1) := by decide +kernel
theorem dX12_harm_14 : decode cX12_harm 14 = .ok (.i2l, 1) := by decide +kernel
theorem dX12_harm_15 : decode cX12_harm 15 = .ok (.lconst 1, 1) := by decide +kernel
theorem dX12_harm_16 : decode cX12_harm 16 = .ok (.ldc2_w 318, 3) := by decide +kernel
theorem dX12_harm_19 : decode cX12_harm 19 = .ok (.invokestatic 70, 3) := by decide +kernel
theorem dX12_harm_22 : decode cX12_harm 22 = .ok (.ifCond .ne 7, 3) := by decide +kernel
theorem dX12_harm_25 : decode cX12_harm 25 = .ok (.ldc_w 392, 3) := by decide +kernel
theorem dX12_harm_28 : decode cX12_harm 28 = .ok (.ireturn, 1) := by decide +kernel
theorem dX12_harm_29 : decode cX12_harm 29 = .ok (.aload_n 0, 1) := by decide +kernel
theorem dX12_harm_30 : decode cX12_harm 30 = .ok (.invokevirtual 340, 3) := by decide +kernel
theorem dX12_harm_33 : decode cX12_harm 33 = .ok (.aload_n 0, 1) := by decide +kernel
theorem dX12_harm_34 : decode cX12_harm 34 = .ok (.aload_n 0, 1) := by decide +kernel
theorem dX12_harm_35 : decode cX12_harm 35 = .ok (.getfield 16, 3) := by decide +kernel
theorem dX12_harm_38 : decode cX12_harm 38 = .ok (.iconst 0, 1) := by decide +kernel
theorem dX12_harm_39 : decode cX12_harm 39 = .ok (.iaload, 1) := by decide +kernel
theorem dX12_harm_40 : decode cX12_harm 40 = .ok (.invokevirtual 376, 3) := by decide +kernel
theorem dX12_harm_43 : decode cX12_harm 43 = .ok (.aload_n 0, 1) := by decide +kernel
theorem dX12_harm_44 : decode cX12_harm 44 = .ok (.invokevirtual 393, 3) := by decide +kernel
theorem dX12_harm_47 : decode cX12_harm 47 = .ok (.istore_n 3, 1) := by decide +kernel
theorem dX12_harm_48 : decode cX12_harm 48 = .ok (.aload_n 0, 1) := by decide +kernel
theorem dX12_harm_49 : decode cX12_harm 49 = .ok (.invokevirtual 396, 3) := by decide +kernel
theorem dX12_harm_52 : decode cX12_harm 52 = .ok (.aload_n 0, 1) := by decide +kernel
theorem dX12_harm_53 : decode cX12_harm 53 = .ok (.getfield 16, 3) := by decide +kernel
theorem dX12_harm_56 : decode cX12_harm 56 = .ok (.iconst 1, 1) := by decide +kernel
theorem dX12_harm_57 : decode cX12_harm 57 = .ok (.iload_n 1, 1) := by decide +kernel
theorem dX12_harm_58 : decode cX12_harm 58 = .ok (.iadd, 1) := by decide +kernel
theorem dX12_harm_59 : decode cX12_harm 59 = .ok (.dup2, 1) := by decide +kernel
theorem dX12_harm_60 : decode cX12_harm 60 = .ok (.iaload, 1) := by decide +kernel
theorem dX12_harm_61 : decode cX12_harm 61 = .ok (.iload_n 2, 1) := by decide +kernel
theorem dX12_harm_62 : decode cX12_harm 62 = .ok (.ixor, 1) := by decide +kernel
theorem dX12_harm_63 : decode cX12_harm 63 = .ok (.iastore, 1) := by decide +kernel
theorem dX12_harm_64 : decode cX12_harm 64 = .ok (.aload_n 0, 1) := by decide +kernel
theorem dX12_harm_65 : decode cX12_harm 65 = .ok (.aload_n 0, 1) := by decide +kernel
theorem dX12_harm_66 : decode cX12_harm 66 = .ok (.getfield 16, 3) := by decide +kernel
theorem dX12_harm_69 : decode cX12_harm 69 = .ok (.iconst 0, 1) := by decide +kernel
theorem dX12_harm_70 : decode cX12_harm 70 = .ok (.iaload, 1) := by decide +kernel
theorem dX12_harm_71 : decode cX12_harm 71 = .ok (.invokevirtual 376, 3) := by decide +kernel
theorem dX12_harm_74 : decode cX12_harm 74 = .ok (.aload_n 0, 1) := by decide +kernel
theorem dX12_harm_75 : decode cX12_harm 75 = .ok (.invokevirtual 393, 3) := by decide +kernel
theorem dX12_harm_78 : decode cX12_harm 78 = .ok (.istore 4, 2) := by decide +kernel
theorem dX12_harm_80 : decode cX12_harm 80 = .ok (.aload_n 0, 1) := by decide +kernel
theorem dX12_harm_81 : decode cX12_harm 81 = .ok (.invokevirtual 396, 3) := by decide +kernel
theorem dX12_harm_84 : decode cX12_harm 84 = .ok (.iload_n 3, 1) := by decide +kernel
theorem dX12_harm_85 : decode cX12_harm 85 = .ok (.iload 4, 2) := by decide +kernel
theorem dX12_harm_87 : decode cX12_harm 87 = .ok (.isub, 1) := by decide +kernel
theorem dX12_harm_88 : decode cX12_harm 88 = .ok (.ireturn, 1) := by decide +kernel
theorem dX12_cost_0 : decode cX12_cost 0 = .ok (.aload_n 0, 1) := by decide +kernel
theorem dX12_cost_1 : decode cX12_cost 1 = .ok (.iconst 0, 1) := by decide +kernel
theorem dX12_cost_2 : decode cX12_cost 2 = .ok (.putfield 60, 3) := by decide +kernel
theorem dX12_cost_5 : decode cX12_cost 5 = .ok (.aload_n 0, 1) := by decide +kernel
theorem dX12_cost_6 : decode cX12_cost 6 = .ok (.getfield 188, 3) := by decide +kernel
theorem dX12_cost_9 : decode cX12_cost 9 = .ok (.ifCond .eq 25, 3) := by decide +kernel
theorem dX12_cost_12 : decode cX12_cost 12 = .ok (.iload_n 1, 1) := by decide +kernel
theorem dX12_cost_13 : decode cX12_cost 13 = .ok (.i2l, 1) := by decide +kernel
theorem dX12_cost_14 : decode cX12_cost 14 = .ok (.lconst 0, 1) := by decide +kernel
theorem dX12_cost_15 : decode cX12_cost 15 = .ok (.ldc2_w 399, 3) := by decide +kernel
theorem dX12_cost_18 : decode cX12_cost 18 = .ok (.invokestatic 70, 3) := by decide +kernel
theorem dX12_cost_21 : decode cX12_cost 21 = .ok (.ifCond .eq 13, 3) := by decide +kernel
theorem dX12_cost_24 : decode cX12_cost 24 = .ok (.iload_n 2, 1) := by decide +kernel
theorem dX12_cost_25 : decode cX12_cost 25 = .ok (.i2l, 1) := by decide +kernel
theorem dX12_cost_26 : decode cX12_cost 26 = .ok (.lconst 0, 1) := by decide +kernel
theorem dX12_cost_27 : decode cX12_cost 27 = .ok (.lconst 1, 1) := by decide +kernel
theorem dX12_cost_28 : decode cX12_cost 28 = .ok (.invokestatic 70, 3) := by decide +kernel
theorem dX12_cost_31 : decode cX12_cost 31 = .ok (.ifCond .ne 5, 3) := by decide +kernel
theorem dX12_cost_34 : decode cX12_cost 34 = .ok (.iconst (-1), 1) := by decide +kernel
theorem dX12_cost_35 : decode cX12_cost 35 = .ok (.ireturn, 1) := by decide +kernel
theorem dX12_cost_36 : decode cX12_cost 36 = .ok (.iconst 0, 1) := by decide +kernel
theorem dX12_cost_37 : decode cX12_cost 37 = .ok (.istore_n 3, 1) := by decide +kernel
theorem dX12_cost_38 : decode cX12_cost 38 = .ok (.iconst 0, 1) := by decide +kernel
theorem dX12_cost_39 : decode cX12_cost 39 = .ok (.istore 4, 2) := by decide +kernel
theorem dX12_cost_41 : decode cX12_cost 41 = .ok (.iload_n 1, 1) := by decide +kernel
theorem dX12_cost_42 : decode cX12_cost 42 = .ok (.istore 5, 2) := by decide +kernel
theorem dX12_cost_44 : decode cX12_cost 44 = .ok (.aload_n 0, 1) := by decide +kernel
theorem dX12_cost_45 : decode cX12_cost 45 = .ok (.getfield 196, 3) := by decide +kernel
theorem dX12_cost_48 : decode cX12_cost 48 = .ok (.iload 5, 2) := by decide +kernel
theorem dX12_cost_50 : decode cX12_cost 50 = .ok (.invokestatic 97, 3) := by decide +kernel
theorem dX12_cost_53 : decode cX12_cost 53 = .ok (.istore 6, 2) := by decide +kernel
theorem dX12_cost_55 : decode cX12_cost 55 = .ok (.iinc 3 1, 3) := by decide +kernel
theorem dX12_cost_58 : decode cX12_cost 58 = .ok (.iload 4, 2) := by decide +kernel
theorem dX12_cost_60 : decode cX12_cost 60 = .ok (.aload_n 0, 1) := by decide +kernel
theorem dX12_cost_61 : decode cX12_cost 61 = .ok (.iconst 1, 1) := by decide +kernel
theorem dX12_cost_62 : decode cX12_cost 62 = .ok (.iload 6, 2) := by decide +kernel
theorem dX12_cost_64 : decode cX12_cost 64 = .ok (.iadd, 1) := by decide +kernel
theorem dX12_cost_65 : decode cX12_cost 65 = .ok (.aload_n 0, 1) := by decide +kernel
theorem dX12_cost_66 : decode cX12_cost 66 = .ok (.invokevirtual 268, 3) := by decide +kernel
theorem dX12_cost_69 : decode cX12_cost 69 = .ok (.iadd, 1) := by decide +kernel
theorem dX12_cost_70 : decode cX12_cost 70 = .ok (.invokevirtual 265, 3) := by decide +kernel
theorem dX12_cost_73 : decode cX12_cost 73 = .ok (.iconst 1, 1) := by decide +kernel
theorem dX12_cost_74 : decode cX12_cost 74 = .ok (.iadd, 1) := by decide +kernel
theorem dX12_cost_75 : decode cX12_cost 75 = .ok (.iadd, 1) := by decide +kernel
theorem dX12_cost_76 : decode cX12_cost 76 = .ok (.istore 4, 2) := by decide +kernel
theorem dX12_cost_78 : decode cX12_cost 78 = .ok (.iload 5, 2) := by decide +kernel
theorem dX12_cost_80 : decode cX12_cost 80 = .ok (.iload 6, 2) := by decide +kernel
theorem dX12_cost_82 : decode cX12_cost 82 = .ok (.isub, 1) := by decide +kernel
theorem dX12_cost_83 : decode cX12_cost 83 = .ok (.istore 5, 2) := by decide +kernel
theorem dX12_cost_85 : decode cX12_cost 85 = .ok (.iload 5, 2) := by decide +kernel
theorem dX12_cost_87 : decode cX12_cost 87 = .ok (.ifCond .gt (-43), 3) := by decide +kernel
theorem dX12_cost_90 : decode cX12_cost 90 = .ok (.iload_n 2, 1) := by decide +kernel
theorem dX12_cost_91 : decode cX12_cost 91 = .ok (.ifCond .ne 7, 3) := by decide +kernel
theorem dX12_cost_94 : decode cX12_cost 94 = .ok (.iload_n 3, 1) := by decide +kernel
theorem dX12_cost_95 : decode cX12_cost 95 = .ok (.goto 5, 3) := by decide +kernel
theorem dX12_cost_98 : decode cX12_cost 98 = .ok (.iload 4, 2) := by decide +kernel
theorem dX12_cost_100 : decode cX12_cost 100 = .ok (.ireturn, 1) := by decide +kernel
theorem dX12_share_0 : decode cX12_share 0 = .ok (.aload_n 0, 1) := by decide +kernel
theorem dX12_share_1 : decode cX12_share 1 = .ok (.iconst 0, 1) := by decide +kernel
theorem dX12_share_2 : decode cX12_share 2 = .ok (.putfield 60, 3) := by decide +kernel
theorem dX12_share_5 : decode cX12_share 5 = .ok (.aload_n 0, 1) := by decide +kernel
theorem dX12_share_6 : decode cX12_share 6 = .ok (.iload_n 1, 1) := by decide +kernel
theorem dX12_share_7 : decode cX12_share 7 = .ok (.invokevirtual 283, 3) := by decide +kernel
theorem dX12_share_10 : decode cX12_share 10 = .ok (.ifCond .eq 15, 3) := by decide +kernel
theorem dX12_share_13 : decode cX12_share 13 = .ok (.iload_n 2, 1) := by decide +kernel
theorem dX12_share_14 : decode cX12_share 14 = .ok (.i2l, 1) := by decide +kernel
theorem dX12_share_15 : decode cX12_share 15 = .ok (.lconst 0, 1) := by decide +kernel
theorem dX12_share_16 : decode cX12_share 16 = .ok (.ldc2_w 278, 3) := by decide +kernel
theorem dX12_share_19 : decode cX12_share 19 = .ok (.invokestatic 70, 3) := by decide +kernel
theorem dX12_share_22 : decode cX12_share 22 = .ok (.ifCond .ne 5, 3) := by decide +kernel
theorem dX12_share_25 : decode cX12_share 25 = .ok (.iconst (-1), 1) := by decide +kernel
theorem dX12_share_26 : decode cX12_share 26 = .ok (.ireturn, 1) := by decide +kernel
theorem dX12_share_27 : decode cX12_share 27 = .ok (.iconst 0, 1) := by decide +kernel
theorem dX12_share_28 : decode cX12_share 28 = .ok (.istore_n 3, 1) := by decide +kernel
theorem dX12_share_29 : decode cX12_share 29 = .ok (.iconst 0, 1) := by decide +kernel
theorem dX12_share_30 : decode cX12_share 30 = .ok (.istore 4, 2) := by decide +kernel
theorem dX12_share_32 : decode cX12_share 32 = .ok (.iconst 0, 1) := by decide +kernel
theorem dX12_share_33 : decode cX12_share 33 = .ok (.istore 5, 2) := by decide +kernel
theorem dX12_share_35 : decode cX12_share 35 = .ok (.iconst 0, 1) := by decide +kernel
theorem dX12_share_36 : decode cX12_share 36 = .ok (.istore 6, 2) := by decide +kernel
theorem dX12_share_38 : decode cX12_share 38 = .ok (.iconst (-1), 1) := by decide +kernel
theorem dX12_share_39 : decode cX12_share 39 = .ok (.istore 7, 2) := by decide +kernel
theorem dX12_share_41 : decode cX12_share 41 = .ok (.aload_n 0, 1) := by decide +kernel
theorem dX12_share_42 : decode cX12_share 42 = .ok (.invokevirtual 386, 3) := by decide +kernel
theorem dX12_share_45 : decode cX12_share 45 = .ok (.pop, 1) := by decide +kernel
theorem dX12_share_46 : decode cX12_share 46 = .ok (.iconst 0, 1) := by decide +kernel
theorem dX12_share_47 : decode cX12_share 47 = .ok (.istore 8, 2) := by decide +kernel
theorem dX12_share_49 : decode cX12_share 49 = .ok (.iload 8, 2) := by decide +kernel
theorem dX12_share_51 : decode cX12_share 51 = .ok (.aload_n 0, 1) := by decide +kernel
theorem dX12_share_52 : decode cX12_share 52 = .ok (.getfield 383, 3) := by decide +kernel
theorem dX12_share_55 : decode cX12_share 55 = .ok (.if_icmp .ge 108, 3) := by decide +kernel
theorem dX12_share_58 : decode cX12_share 58 = .ok (.aload_n 0, 1) := by decide +kernel
theorem dX12_share_59 : decode cX12_share 59 = .ok (.iload 8, 2) := by decide +kernel
theorem dX12_share_61 : decode cX12_share 61 = .ok (.invokevirtual 389, 3) := by decide +kernel
theorem dX12_share_64 : decode cX12_share 64 = .ok (.ifCond .ne 93, 3) := by decide +kernel
theorem dX12_share_67 : decode cX12_share 67 = .ok (.aload_n 0, 1) := by decide +kernel
theorem dX12_share_68 : decode cX12_share 68 = .ok (.getfield 29, 3) := by decide +kernel
theorem dX12_share_71 : decode cX12_share 71 = .ok (.iconst 0, 1) := by decide +kernel
theorem dX12_share_72 : decode cX12_share 72 = .ok (.iaload, 1) := by decide +kernel
theorem dX12_share_73 : decode cX12_share 73 = .ok (.bipush 64, 2) := by decide +kernel
theorem dX12_share_75 : decode cX12_share 75 = .ok (.idiv, 1) := by decide +kernel
theorem dX12_share_76 : decode cX12_share 76 = .ok (.iload_n 1, 1) := by decide +kernel
theorem dX12_share_77 : decode cX12_share 77 = .ok (.if_icmp .ne 80, 3) := by decide +kernel
theorem dX12_share_80 : decode cX12_share 80 = .ok (.aload_n 0, 1) := by decide +kernel
theorem dX12_share_81 : decode cX12_share 81 = .ok (.getfield 29, 3) := by decide +kernel
theorem dX12_share_84 : decode cX12_share 84 = .ok (.iconst 0, 1) := by decide +kernel
theorem dX12_share_85 : decode cX12_share 85 = .ok (.iaload, 1) := by decide +kernel
theorem dX12_share_86 : decode cX12_share 86 = .ok (.bipush 16, 2) := by decide +kernel
theorem dX12_share_88 : decode cX12_share 88 = .ok (.irem, 1) := by decide +kernel
theorem dX12_share_89 : decode cX12_share 89 = .ok (.istore 9, 2) := by decide +kernel
theorem dX12_share_91 : decode cX12_share 91 = .ok (.iinc 3 1, 3) := by decide +kernel
theorem dX12_share_94 : decode cX12_share 94 = .ok (.iload 4, 2) := by decide +kernel
theorem dX12_share_96 : decode cX12_share 96 = .ok (.aload_n 0, 1) := by decide +kernel
theorem dX12_share_97 : decode cX12_share 97 = .ok (.getfield 54, 3) := by decide +kernel
theorem dX12_share_100 : decode cX12_share 100 = .ok (.iload 8, 2) := by decide +kernel
theorem dX12_share_102 : decode cX12_share 102 = .ok (.iaload, 1) := by decide +kernel
theorem dX12_share_103 : decode cX12_share 103 = .ok (.aload_n 0, 1) := by decide +kernel
theorem dX12_share_104 : decode cX12_share 104 = .ok (.getfield 51, 3) := by decide +kernel
theorem dX12_share_107 : decode cX12_share 107 = .ok (.iload 8, 2) := by decide +kernel
theorem dX12_share_109 : decode cX12_share 109 = .ok (.iaload, 1) := by decide +kernel
theorem dX12_share_110 : decode cX12_share 110 = .ok (.isub, 1) := by decide +kernel
theorem dX12_share_111 : decode cX12_share 111 = .ok (.iconst 1, 1) := by decide +kernel
theorem dX12_share_112 : decode cX12_share 112 = .ok (.iadd, 1) := by decide +kernel
theorem dX12_share_113 : decode cX12_share 113 = .ok (.iadd, 1) := by decide +kernel
theorem dX12_share_114 : decode cX12_share 114 = .ok (.istore 4, 2) := by decide +kernel
theorem dX12_share_116 : decode cX12_share 116 = .ok (.iload 6, 2) := by decide +kernel
theorem dX12_share_118 : decode cX12_share 118 = .ok (.aload_n 0, 1) := by decide +kernel
theorem dX12_share_119 : decode cX12_share 119 = .ok (.invokevirtual 352, 3) := by decide +kernel
theorem dX12_share_122 : decode cX12_share 122 = .ok (.iadd, 1) := by decide +kernel
theorem dX12_share_123 : decode cX12_share 123 = .ok (.istore 6, 2) := by decide +kernel
theorem dX12_share_125 : decode cX12_share 125 = .ok (.iload 5, 2) := by decide +kernel
theorem dX12_share_127 : decode cX12_share 127 = .ok (.iload 7, 2) := by decide +kernel
theorem dX12_share_129 : decode cX12_share 129 = .ok (.iconst (-1), 1) := by decide +kernel
theorem dX12_share_130 : decode cX12_share 130 = .ok (.if_icmp .ne 7, 3) := by decide +kernel
theorem dX12_share_133 : decode cX12_share 133 = .ok (.iconst 0, 1) := by decide +kernel
theorem dX12_share_134 : decode cX12_share 134 = .ok (.goto 16, 3) := by decide +kernel
theorem dX12_share_137 : decode cX12_share 137 = .ok (.iload 9, 2) := by decide +kernel
theorem dX12_share_139 : decode cX12_share 139 = .ok (.iload 7, 2) := by decide +kernel
theorem dX12_share_141 : decode cX12_share 141 = .ok (.isub, 1) := by decide +kernel
theorem dX12_share_142 : decode cX12_share 142 = .ok (.iconst 1, 1) := by decide +kernel
theorem dX12_share_143 : decode cX12_share 143 = .ok (.isub, 1) := by decide +kernel
theorem dX12_share_144 : decode cX12_share 144 = .ok (.bipush 32, 2) := by decide +kernel
theorem dX12_share_146 : decode cX12_share 146 = .ok (.iadd, 1) := by decide +kernel
theorem dX12_share_147 : decode cX12_share 147 = .ok (.bipush 16, 2) := by decide +kernel
theorem dX12_share_149 : decode cX12_share 149 = .ok (.irem, 1) := by decide +kernel
theorem dX12_share_150 : decode cX12_share 150 = .ok (.iadd, 1) := by decide +kernel
theorem dX12_share_151 : decode cX12_share 151 = .ok (.istore 5, 2) := by decide +kernel
theorem dX12_share_153 : decode cX12_share 153 = .ok (.iload 9, 2) := by decide +kernel
theorem dX12_share_155 : decode cX12_share 155 = .ok (.istore 7, 2) := by decide +kernel
theorem dX12_share_157 : decode cX12_share 157 = .ok (.iinc 8 1, 3) := by decide +kernel
theorem dX12_share_160 : decode cX12_share 160 = .ok (.goto (-111), 3) := by decide +kernel
theorem dX12_share_163 : decode cX12_share 163 = .ok (.iload_n 2, 1) := by decide +kernel
theorem dX12_share_164 : decode cX12_share 164 = .ok (.ifCond .ne 7, 3) := by decide +kernel
theorem dX12_share_167 : decode cX12_share 167 = .ok (.iload_n 3, 1) := by decide +kernel
theorem dX12_share_168 : decode cX12_share 168 = .ok (.goto 25, 3) := by decide +kernel
theorem dX12_share_171 : decode cX12_share 171 = .ok (.iload_n 2, 1) := by decide +kernel
theorem dX12_share_172 : decode cX12_share 172 = .ok (.iconst 1, 1) := by decide +kernel
theorem dX12_share_173 : decode cX12_share 173 = .ok (.if_icmp .ne 8, 3) := by decide +kernel
theorem dX12_share_176 : decode cX12_share 176 = .ok (.iload 4, 2) := by decide +kernel
theorem dX12_share_178 : decode cX12_share 178 = .ok (.goto 15, 3) := by decide +kernel
theorem dX12_share_181 : decode cX12_share 181 = .ok (.iload_n 2, 1) := by decide +kernel
theorem dX12_share_182 : decode cX12_share 182 = .ok (.iconst 2, 1) := by decide +kernel
theorem dX12_share_183 : decode cX12_share 183 = .ok (.if_icmp .ne 8, 3) := by decide +kernel
theorem dX12_share_186 : decode cX12_share 186 = .ok (.iload 5, 2) := by decide +kernel
theorem dX12_share_188 : decode cX12_share 188 = .ok (.goto 5, 3) := by decide +kernel
theorem dX12_share_191 : decode cX12_share 191 = .ok (.iload 6, 2) := by decide +kernel
theorem dX12_share_193 : decode cX12_share 193 = .ok (.ireturn, 1) := by decide +kernel
theorem dX12_flushed_0 : decode cX12_flushed 0 = .ok (.aload_n 0, 1) := by decide +kernel
theorem dX12_flushed_1 : decode cX12_flushed 1 = .ok (.iconst 0, 1) := by decide +kernel
theorem dX12_flushed_2 : decode cX12_flushed 2 = .ok (.putfield 60, 3) := by decide +kernel
theorem dX12_flushed_5 : decode cX12_flushed 5 = .ok (.aload_n 0, 1) := by decide +kernel
theorem dX12_flushed_6 : decode cX12_flushed 6 = .ok (.getfield 188, 3) := by decide +kernel
theorem dX12_flushed_9 : decode cX12_flushed 9 = .ok (.ifCond .eq 15, 3) := by decide +kernel
theorem dX12_flushed_12 : decode cX12_flushed 12 = .ok (.iload_n 1, 1) := by decide +kernel
theorem dX12_flushed_13 : decode cX12_flushed 13 = .ok (.i2l, 1) := by decide +kernel
theorem dX12_flushed_14 : decode cX12_flushed 14 = .ok (.lconst 0, 1) := by decide +kernel
theorem dX12_flushed_15 : decode cX12_flushed 15 = .ok (.ldc2_w 379, 3) := by decide +kernel
theorem dX12_flushed_18 : decode cX12_flushed 18 = .ok (.invokestatic 70, 3) := by decide +kernel
theorem dX12_flushed_21 : decode cX12_flushed 21 = .ok (.ifCond .ne 5, 3) := by decide +kernel
theorem dX12_flushed_24 : decode cX12_flushed 24 = .ok (.iconst (-1), 1) := by decide +kernel
theorem dX12_flushed_25 : decode cX12_flushed 25 = .ok (.ireturn, 1) := by decide +kernel
theorem dX12_flushed_26 : decode cX12_flushed 26 = .ok (.aload_n 0, 1) := by decide +kernel
theorem dX12_flushed_27 : decode cX12_flushed 27 = .ok (.invokevirtual 340, 3) := by decide +kernel
theorem dX12_flushed_30 : decode cX12_flushed 30 = .ok (.aload_n 0, 1) := by decide +kernel
theorem dX12_flushed_31 : decode cX12_flushed 31 = .ok (.getfield 16, 3) := by decide +kernel
theorem dX12_flushed_34 : decode cX12_flushed 34 = .ok (.sipush 804, 3) := by decide +kernel
theorem dX12_flushed_37 : decode cX12_flushed 37 = .ok (.iaload, 1) := by decide +kernel
theorem dX12_flushed_38 : decode cX12_flushed 38 = .ok (.istore_n 2, 1) := by decide +kernel
theorem dX12_flushed_39 : decode cX12_flushed 39 = .ok (.iconst 1, 1) := by decide +kernel
theorem dX12_flushed_40 : decode cX12_flushed 40 = .ok (.istore_n 3, 1) := by decide +kernel
theorem dX12_flushed_41 : decode cX12_flushed 41 = .ok (.iload_n 3, 1) := by decide +kernel
theorem dX12_flushed_42 : decode cX12_flushed 42 = .ok (.ifCond .eq 48, 3) := by decide +kernel
theorem dX12_flushed_45 : decode cX12_flushed 45 = .ok (.iconst 1, 1) := by decide +kernel
theorem dX12_flushed_46 : decode cX12_flushed 46 = .ok (.istore 4, 2) := by decide +kernel
theorem dX12_flushed_48 : decode cX12_flushed 48 = .ok (.iload 4, 2) := by decide +kernel
theorem dX12_flushed_50 : decode cX12_flushed 50 = .ok (.ifCond .eq 12, 3) := by decide +kernel
theorem dX12_flushed_53 : decode cX12_flushed 53 = .ok (.aload_n 0, 1) := by decide +kernel
theorem dX12_flushed_54 : decode cX12_flushed 54 = .ok (.invokevirtual 312, 3) := by decide +kernel
theorem dX12_flushed_57 : decode cX12_flushed 57 = .ok (.istore 4, 2) := by decide +kernel
theorem dX12_flushed_59 : decode cX12_flushed 59 = .ok (.goto (-11), 3) := by decide +kernel
theorem dX12_flushed_62 : decode cX12_flushed 62 = .ok (.aload_n 0, 1) := by decide +kernel
theorem dX12_flushed_63 : decode cX12_flushed 63 = .ok (.getfield 16, 3) := by decide +kernel
theorem dX12_flushed_66 : decode cX12_flushed 66 = .ok (.iconst 0, 1) := by decide +kernel
theorem dX12_flushed_67 : decode cX12_flushed 67 = .ok (.iaload, 1) := by decide +kernel
theorem dX12_flushed_68 : decode cX12_flushed 68 = .ok (.ifCond .le 7, 3) := by decide +kernel
theorem dX12_flushed_71 : decode cX12_flushed 71 = .ok (.iconst 1, 1) := by decide +kernel
theorem dX12_flushed_72 : decode cX12_flushed 72 = .ok (.goto 4, 3) := by decide +kernel
theorem dX12_flushed_75 : decode cX12_flushed 75 = .ok (.iconst 0, 1) := by decide +kernel
theorem dX12_flushed_76 : decode cX12_flushed 76 = .ok (.istore_n 3, 1) := by decide +kernel
theorem dX12_flushed_77 : decode cX12_flushed 77 = .ok (.aload_n 0, 1) := by decide +kernel
theorem dX12_flushed_78 : decode cX12_flushed 78 = .ok (.aload_n 0, 1) := by decide +kernel
theorem dX12_flushed_79 : decode cX12_flushed 79 = .ok (.getfield 16, 3) := by decide +kernel
theorem dX12_flushed_82 : decode cX12_flushed 82 = .ok (.iconst 0, 1) := by decide +kernel
theorem dX12_flushed_83 : decode cX12_flushed 83 = .ok (.iaload, 1) := by decide +kernel
theorem dX12_flushed_84 : decode cX12_flushed 84 = .ok (.invokevirtual 376, 3) := by decide +kernel
theorem dX12_flushed_87 : decode cX12_flushed 87 = .ok (.goto (-46), 3) := by decide +kernel
theorem dX12_flushed_90 : decode cX12_flushed 90 = .ok (.iload_n 1, 1) := by decide +kernel
theorem dX12_flushed_91 : decode cX12_flushed 91 = .ok (.ifCond .ne 12, 3) := by decide +kernel
theorem dX12_flushed_94 : decode cX12_flushed 94 = .ok (.aload_n 0, 1) := by decide +kernel
theorem dX12_flushed_95 : decode cX12_flushed 95 = .ok (.bipush 7, 2) := by decide +kernel
theorem dX12_flushed_97 : decode cX12_flushed 97 = .ok (.invokevirtual 401, 3) := by decide +kernel
theorem dX12_flushed_100 : decode cX12_flushed 100 = .ok (.goto 53, 3) := by decide +kernel
theorem dX12_flushed_103 : decode cX12_flushed 103 = .ok (.iload_n 1, 1) := by decide +kernel
theorem dX12_flushed_104 : decode cX12_flushed 104 = .ok (.iconst 1, 1) := by decide +kernel
theorem dX12_flushed_105 : decode cX12_flushed 105 = .ok (.if_icmp .ne 11, 3) := by decide +kernel
theorem dX12_flushed_108 : decode cX12_flushed 108 = .ok (.aload_n 0, 1) := by decide +kernel
theorem dX12_flushed_109 : decode cX12_flushed 109 = .ok (.iconst 5, 1) := by decide +kernel
theorem dX12_flushed_110 : decode cX12_flushed 110 = .ok (.invokevirtual 401, 3) := by decide +kernel
theorem dX12_flushed_113 : decode cX12_flushed 113 = .ok (.goto 40, 3) := by decide +kernel
theorem dX12_flushed_116 : decode cX12_flushed 116 = .ok (.iload_n 1, 1) := by decide +kernel
theorem dX12_flushed_117 : decode cX12_flushed 117 = .ok (.iconst 2, 1) := by decide +kernel
theorem dX12_flushed_118 : decode cX12_flushed 118 = .ok (.if_icmp .ne 12, 3) := by decide +kernel
theorem dX12_flushed_121 : decode cX12_flushed 121 = .ok (.aload_n 0, 1) := by decide +kernel
theorem dX12_flushed_122 : decode cX12_flushed 122 = .ok (.bipush 6, 2) := by decide +kernel
theorem dX12_flushed_124 : decode cX12_flushed 124 = .ok (.invokevirtual 401, 3) := by decide +kernel
theorem dX12_flushed_127 : decode cX12_flushed 127 = .ok (.goto 26, 3) := by decide +kernel
theorem dX12_flushed_130 : decode cX12_flushed 130 = .ok (.iload_n 1, 1) := by decide +kernel
theorem dX12_flushed_131 : decode cX12_flushed 131 = .ok (.iconst 3, 1) := by decide +kernel
theorem dX12_flushed_132 : decode cX12_flushed 132 = .ok (.if_icmp .ne 11, 3) := by decide +kernel
theorem dX12_flushed_135 : decode cX12_flushed 135 = .ok (.aload_n 0, 1) := by decide +kernel
theorem dX12_flushed_136 : decode cX12_flushed 136 = .ok (.iconst 1, 1) := by decide +kernel
theorem dX12_flushed_137 : decode cX12_flushed 137 = .ok (.invokevirtual 401, 3) := by decide +kernel
theorem dX12_flushed_140 : decode cX12_flushed 140 = .ok (.goto 13, 3) := by decide +kernel
theorem dX12_flushed_143 : decode cX12_flushed 143 = .ok (.aload_n 0, 1) := by decide +kernel
theorem dX12_flushed_144 : decode cX12_flushed 144 = .ok (.getfield 16, 3) := by decide +kernel
theorem dX12_flushed_147 : decode cX12_flushed 147 = .ok (.sipush 804, 3) := by decide +kernel
theorem dX12_flushed_150 : decode cX12_flushed 150 = .ok (.iaload, 1) := by decide +kernel
theorem dX12_flushed_151 : decode cX12_flushed 151 = .ok (.iload_n 2, 1) := by decide +kernel
theorem dX12_flushed_152 : decode cX12_flushed 152 = .ok (.isub, 1) := by decide +kernel
theorem dX12_flushed_153 : decode cX12_flushed 153 = .ok (.istore 4, 2) := by decide +kernel
theorem dX12_flushed_155 : decode cX12_flushed 155 = .ok (.aload_n 0, 1) := by decide +kernel
theorem dX12_flushed_156 : decode cX12_flushed 156 = .ok (.invokevirtual 396, 3) := by decide +kernel
theorem dX12_flushed_159 : decode cX12_flushed 159 = .ok (.iload 4, 2) := by decide +kernel
theorem dX12_flushed_161 : decode cX12_flushed 161 = .ok (.ireturn, 1) := by decide +kernel
theorem dX12_image_0 : decode cX12_image 0 = .ok (.aload_n 0, 1) := by decide +kernel
theorem dX12_image_1 : decode cX12_image 1 = .ok (.iconst 0, 1) := by decide +kernel
theorem dX12_image_2 : decode cX12_image 2 = .ok (.putfield 60, 3) := by decide +kernel
theorem dX12_image_5 : decode cX12_image 5 = .ok (.aload_n 0, 1) := by decide +kernel
theorem dX12_image_6 : decode cX12_image 6 = .ok (.getfield 188, 3) := by decide +kernel
theorem dX12_image_9 : decode cX12_image 9 = .ok (.ifCond .ne 5, 3) := by decide +kernel
theorem dX12_image_12 : decode cX12_image 12 = .ok (.iconst (-1), 1) := by decide +kernel
theorem dX12_image_13 : decode cX12_image 13 = .ok (.ireturn, 1) := by decide +kernel
theorem dX12_image_14 : decode cX12_image 14 = .ok (.iconst 0, 1) := by decide +kernel
theorem dX12_image_15 : decode cX12_image 15 = .ok (.istore_n 1, 1) := by decide +kernel
theorem dX12_image_16 : decode cX12_image 16 = .ok (.iload_n 1, 1) := by decide +kernel
theorem dX12_image_17 : decode cX12_image 17 = .ok (.sipush 9309, 3) := by decide +kernel
theorem dX12_image_20 : decode cX12_image 20 = .ok (.if_icmp .ge 21, 3) := by decide +kernel
theorem dX12_image_23 : decode cX12_image 23 = .ok (.aload_n 0, 1) := by decide +kernel
theorem dX12_image_24 : decode cX12_image 24 = .ok (.getfield 57, 3) := by decide +kernel
theorem dX12_image_27 : decode cX12_image 27 = .ok (.iload_n 1, 1) := by decide +kernel
theorem dX12_image_28 : decode cX12_image 28 = .ok (.aload_n 0, 1) := by decide +kernel
theorem dX12_image_29 : decode cX12_image 29 = .ok (.getfield 16, 3) := by decide +kernel
theorem dX12_image_32 : decode cX12_image 32 = .ok (.iload_n 1, 1) := by decide +kernel
theorem dX12_image_33 : decode cX12_image 33 = .ok (.iaload, 1) := by decide +kernel
theorem dX12_image_34 : decode cX12_image 34 = .ok (.iastore, 1) := by decide +kernel
theorem dX12_image_35 : decode cX12_image 35 = .ok (.iinc 1 1, 3) := by decide +kernel
theorem dX12_image_38 : decode cX12_image 38 = .ok (.goto (-22), 3) := by decide +kernel
theorem dX12_image_41 : decode cX12_image 41 = .ok (.aload_n 0, 1) := by decide +kernel
theorem dX12_image_42 : decode cX12_image 42 = .ok (.iconst 1, 1) := by decide +kernel
theorem dX12_image_43 : decode cX12_image 43 = .ok (.putfield 208, 3) := by decide +kernel
theorem dX12_image_46 : decode cX12_image 46 = .ok (.aload_n 0, 1) := by decide +kernel
theorem dX12_image_47 : decode cX12_image 47 = .ok (.getfield 16, 3) := by decide +kernel
theorem dX12_image_50 : decode cX12_image 50 = .ok (.iconst 0, 1) := by decide +kernel
theorem dX12_image_51 : decode cX12_image 51 = .ok (.iaload, 1) := by decide +kernel
theorem dX12_image_52 : decode cX12_image 52 = .ok (.ireturn, 1) := by decide +kernel
theorem dX12_back_0 : decode cX12_back 0 = .ok (.aload_n 0, 1) := by decide +kernel
theorem dX12_back_1 : decode cX12_back 1 = .ok (.iconst 0, 1) := by decide +kernel
theorem dX12_back_2 : decode cX12_back 2 = .ok (.putfield 60, 3) := by decide +kernel
theorem dX12_back_5 : decode cX12_back 5 = .ok (.aload_n 0, 1) := by decide +kernel
theorem dX12_back_6 : decode cX12_back 6 = .ok (.getfield 208, 3) := by decide +kernel
theorem dX12_back_9 : decode cX12_back 9 = .ok (.ifCond .ne 5, 3) := by decide +kernel
theorem dX12_back_12 : decode cX12_back 12 = .ok (.iconst (-1), 1) := by decide +kernel
theorem dX12_back_13 : decode cX12_back 13 = .ok (.ireturn, 1) := by decide +kernel
theorem dX12_back_14 : decode cX12_back 14 = .ok (.iconst 0, 1) := by decide +kernel
theorem dX12_back_15 : decode cX12_back 15 = .ok (.istore_n 1, 1) := by decide +kernel
theorem dX12_back_16 : decode cX12_back 16 = .ok (.iload_n 1, 1) := by decide +kernel
theorem dX12_back_17 : decode cX12_back 17 = .ok (.sipush 9309, 3) := by decide +kernel
theorem dX12_back_20 : decode cX12_back 20 = .ok (.if_icmp .ge 21, 3) := by decide +kernel
theorem dX12_back_23 : decode cX12_back 23 = .ok (.aload_n 0, 1) := by decide +kernel
theorem dX12_back_24 : decode cX12_back 24 = .ok (.getfield 16, 3) := by decide +kernel
theorem dX12_back_27 : decode cX12_back 27 = .ok (.iload_n 1, 1) := by decide +kernel
theorem dX12_back_28 : decode cX12_back 28 = .ok (.aload_n 0, 1) := by decide +kernel
theorem dX12_back_29 : decode cX12_back 29 = .ok (.getfield 57, 3) := by decide +kernel
theorem dX12_back_32 : decode cX12_back 32 = .ok (.iload_n 1, 1) := by decide +kernel
theorem dX12_back_33 : decode cX12_back 33 = .ok (.iaload, 1) := by decide +kernel
theorem dX12_back_34 : decode cX12_back 34 = .ok (.iastore, 1) := by decide +kernel
theorem dX12_back_35 : decode cX12_back 35 = .ok (.iinc 1 1, 3) := by decide +kernel
theorem dX12_back_38 : decode cX12_back 38 = .ok (.goto (-22), 3) := by decide +kernel
theorem dX12_back_41 : decode cX12_back 41 = .ok (.aload_n 0, 1) := by decide +kernel
theorem dX12_back_42 : decode cX12_back 42 = .ok (.iconst 0, 1) := by decide +kernel
theorem dX12_back_43 : decode cX12_back 43 = .ok (.putfield 205, 3) := by decide +kernel
theorem dX12_back_46 : decode cX12_back 46 = .ok (.aload_n 0, 1) := by decide +kernel
theorem dX12_back_47 : decode cX12_back 47 = .ok (.getfield 16, 3) := by decide +kernel
theorem dX12_back_50 : decode cX12_back 50 = .ok (.iconst 0, 1) := by decide +kernel
theorem dX12_back_51 : decode cX12_back 51 = .ok (.iaload, 1) := by decide +kernel
theorem dX12_back_52 : decode cX12_back 52 = .ok (.ireturn, 1) := by decide +kernel
theorem dX12_rule_0 : decode cX12_rule 0 = .ok (.aload_n 0, 1) := by decide +kernel
theorem dX12_rule_1 : decode cX12_rule 1 = .ok (.iconst 0, 1) := by decide +kernel
theorem dX12_rule_2 : decode cX12_rule 2 = .ok (.putfield 60, 3) := by decide +kernel
theorem dX12_rule_5 : decode cX12_rule 5 = .ok (.aload_n 0, 1) := by decide +kernel
theorem dX12_rule_6 : decode cX12_rule 6 = .ok (.getfield 188, 3) := by decide +kernel
theorem dX12_rule_9 : decode cX12_rule 9 = .ok (.ifCond .ne 7, 3) := by decide +kernel
theorem dX12_rule_12 : decode cX12_rule 12 = .ok (.ldc_w 392, 3) := by decide +kernel
theorem dX12_rule_15 : decode cX12_rule 15 = .ok (.ireturn, 1) := by decide +kernel
theorem dX12_rule_16 : decode cX12_rule 16 = .ok (.iload_n 1, 1) := by decide +kernel
theorem dX12_rule_17 : decode cX12_rule 17 = .ok (.tableswitch 150 0 11 #[63, 68, 73, 78, 83, 88, 93, 100, 105, 114, 123, 132], 63) := by decide +kernel
theorem dX12_rule_80 : decode cX12_rule 80 = .ok (.aload_n 0, 1) := by decide +kernel
theorem dX12_rule_81 : decode cX12_rule 81 = .ok (.getfield 192, 3) := by decide +kernel
theorem dX12_rule_84 : decode cX12_rule 84 = .ok (.ireturn, 1) := by decide +kernel
theorem dX12_rule_85 : decode cX12_rule 85 = .ok (.aload_n 0, 1) := by decide +kernel
theorem dX12_rule_86 : decode cX12_rule 86 = .ok (.getfield 19, 3) := by decide +kernel
theorem dX12_rule_89 : decode cX12_rule 89 = .ok (.ireturn, 1) := by decide +kernel
theorem dX12_rule_90 : decode cX12_rule 90 = .ok (.aload_n 0, 1) := by decide +kernel
theorem dX12_rule_91 : decode cX12_rule 91 = .ok (.getfield 23, 3) := by decide +kernel
theorem dX12_rule_94 : decode cX12_rule 94 = .ok (.ireturn, 1) := by decide +kernel
theorem dX12_rule_95 : decode cX12_rule 95 = .ok (.aload_n 0, 1) := by decide +kernel
theorem dX12_rule_96 : decode cX12_rule 96 = .ok (.getfield 194, 3) := by decide +kernel
theorem dX12_rule_99 : decode cX12_rule 99 = .ok (.ireturn, 1) := by decide +kernel
theorem dX12_rule_100 : decode cX12_rule 100 = .ok (.aload_n 0, 1) := by decide +kernel
theorem dX12_rule_101 : decode cX12_rule 101 = .ok (.getfield 196, 3) := by decide +kernel
theorem dX12_rule_104 : decode cX12_rule 104 = .ok (.ireturn, 1) := by decide +kernel
theorem dX12_rule_105 : decode cX12_rule 105 = .ok (.aload_n 0, 1) := by decide +kernel
theorem dX12_rule_106 : decode cX12_rule 106 = .ok (.getfield 198, 3) := by decide +kernel
theorem dX12_rule_109 : decode cX12_rule 109 = .ok (.ireturn, 1) := by decide +kernel
theorem dX12_rule_110 : decode cX12_rule 110 = .ok (.aload_n 0, 1) := by decide +kernel
theorem dX12_rule_111 : decode cX12_rule 111 = .ok (.getfield 16, 3) := by decide +kernel
theorem dX12_rule_114 : decode cX12_rule 114 = .ok (.iconst 0, 1) := by decide +kernel
theorem dX12_rule_115 : decode cX12_rule 115 = .ok (.iaload, 1) := by decide +kernel
theorem dX12_rule_116 : decode cX12_rule 116 = .ok (.ireturn, 1) := by decide +kernel
theorem dX12_rule_117 : decode cX12_rule 117 = .ok (.aload_n 0, 1) := by decide +kernel
theorem dX12_rule_118 : decode cX12_rule 118 = .ok (.invokevirtual 386, 3) := by decide +kernel
theorem dX12_rule_121 : decode cX12_rule 121 = .ok (.ireturn, 1) := by decide +kernel
theorem dX12_rule_122 : decode cX12_rule 122 = .ok (.aload_n 0, 1) := by decide +kernel
theorem dX12_rule_123 : decode cX12_rule 123 = .ok (.getfield 16, 3) := by decide +kernel
theorem dX12_rule_126 : decode cX12_rule 126 = .ok (.sipush 601, 3) := by decide +kernel
theorem dX12_rule_129 : decode cX12_rule 129 = .ok (.iaload, 1) := by decide +kernel
theorem dX12_rule_130 : decode cX12_rule 130 = .ok (.ireturn, 1) := by decide +kernel
theorem dX12_rule_131 : decode cX12_rule 131 = .ok (.aload_n 0, 1) := by decide +kernel
theorem dX12_rule_132 : decode cX12_rule 132 = .ok (.getfield 16, 3) := by decide +kernel
theorem dX12_rule_135 : decode cX12_rule 135 = .ok (.sipush 804, 3) := by decide +kernel
theorem dX12_rule_138 : decode cX12_rule 138 = .ok (.iaload, 1) := by decide +kernel
theorem dX12_rule_139 : decode cX12_rule 139 = .ok (.ireturn, 1) := by decide +kernel
theorem dX12_rule_140 : decode cX12_rule 140 = .ok (.aload_n 0, 1) := by decide +kernel
theorem dX12_rule_141 : decode cX12_rule 141 = .ok (.getfield 16, 3) := by decide +kernel
theorem dX12_rule_144 : decode cX12_rule 144 = .ok (.sipush 803, 3) := by decide +kernel
theorem dX12_rule_147 : decode cX12_rule 147 = .ok (.iaload, 1) := by decide +kernel
theorem dX12_rule_148 : decode cX12_rule 148 = .ok (.ireturn, 1) := by decide +kernel
theorem dX12_rule_149 : decode cX12_rule 149 = .ok (.aload_n 0, 1) := by decide +kernel
theorem dX12_rule_150 : decode cX12_rule 150 = .ok (.iconst 1, 1) := by decide +kernel
theorem dX12_rule_151 : decode cX12_rule 151 = .ok (.aload_n 0, 1) := by decide +kernel
theorem dX12_rule_152 : decode cX12_rule 152 = .ok (.getfield 196, 3) := by decide +kernel
theorem dX12_rule_155 : decode cX12_rule 155 = .ok (.iadd, 1) := by decide +kernel
theorem dX12_rule_156 : decode cX12_rule 156 = .ok (.aload_n 0, 1) := by decide +kernel
theorem dX12_rule_157 : decode cX12_rule 157 = .ok (.invokevirtual 268, 3) := by decide +kernel
theorem dX12_rule_160 : decode cX12_rule 160 = .ok (.iadd, 1) := by decide +kernel
theorem dX12_rule_161 : decode cX12_rule 161 = .ok (.invokevirtual 265, 3) := by decide +kernel
theorem dX12_rule_164 : decode cX12_rule 164 = .ok (.iconst 1, 1) := by decide +kernel
theorem dX12_rule_165 : decode cX12_rule 165 = .ok (.iadd, 1) := by decide +kernel
theorem dX12_rule_166 : decode cX12_rule 166 = .ok (.ireturn, 1) := by decide +kernel
theorem dX12_rule_167 : decode cX12_rule 167 = .ok (.ldc_w 392, 3) := by decide +kernel
theorem dX12_rule_170 : decode cX12_rule 170 = .ok (.ireturn, 1) := by decide +kernel
theorem dX12_mostLost_0 : decode cX12_mostLost 0 = .ok (.iconst 0, 1) := by decide +kernel
theorem dX12_mostLost_1 : decode cX12_mostLost 1 = .ok (.istore_n 1, 1) := by decide +kernel
theorem dX12_mostLost_2 : decode cX12_mostLost 2 = .ok (.iconst 1, 1) := by decide +kernel
theorem dX12_mostLost_3 : decode cX12_mostLost 3 = .ok (.istore_n 2, 1) := by decide +kernel
theorem dX12_mostLost_4 : decode cX12_mostLost 4 = .ok (.iload_n 2, 1) := by decide +kernel
theorem dX12_mostLost_5 : decode cX12_mostLost 5 = .ok (.aload_n 0, 1) := by decide +kernel
theorem dX12_mostLost_6 : decode cX12_mostLost 6 = .ok (.getfield 198, 3) := by decide +kernel
theorem dX12_mostLost_9 : decode cX12_mostLost 9 = .ok (.if_icmp .ge 30, 3) := by decide +kernel
theorem dX12_mostLost_12 : decode cX12_mostLost 12 = .ok (.aload_n 0, 1) := by decide +kernel
theorem dX12_mostLost_13 : decode cX12_mostLost 13 = .ok (.iload_n 2, 1) := by decide +kernel
theorem dX12_mostLost_14 : decode cX12_mostLost 14 = .ok (.iconst 5, 1) := by decide +kernel
theorem dX12_mostLost_15 : decode cX12_mostLost 15 = .ok (.invokevirtual 286, 3) := by decide +kernel
theorem dX12_mostLost_18 : decode cX12_mostLost 18 = .ok (.aload_n 0, 1) := by decide +kernel
theorem dX12_mostLost_19 : decode cX12_mostLost 19 = .ok (.iload_n 1, 1) := by decide +kernel
theorem dX12_mostLost_20 : decode cX12_mostLost 20 = .ok (.iconst 5, 1) := by decide +kernel
theorem dX12_mostLost_21 : decode cX12_mostLost 21 = .ok (.invokevirtual 286, 3) := by decide +kernel
theorem dX12_mostLost_24 : decode cX12_mostLost 24 = .ok (.if_icmp .le 7, 3) := by decide +kernel
theorem dX12_mostLost_27 : decode cX12_mostLost 27 = .ok (.iload_n 2, 1) := by decide +kernel
theorem dX12_mostLost_28 : decode cX12_mostLost 28 = .ok (.goto 4, 3) := by decide +kernel
theorem dX12_mostLost_31 : decode cX12_mostLost 31 = .ok (.iload_n 1, 1) := by decide +kernel
theorem dX12_mostLost_32 : decode cX12_mostLost 32 = .ok (.istore_n 1, 1) := by decide +kernel
theorem dX12_mostLost_33 : decode cX12_mostLost 33 = .ok (.iinc 2 1, 3) := by decide +kernel
theorem dX12_mostLost_36 : decode cX12_mostLost 36 = .ok (.goto (-32), 3) := by decide +kernel
theorem dX12_mostLost_39 : decode cX12_mostLost 39 = .ok (.iload_n 1, 1) := by decide +kernel
theorem dX12_mostLost_40 : decode cX12_mostLost 40 = .ok (.ireturn, 1) := by decide +kernel
theorem dX12_broken_0 : decode cX12_broken 0 = .ok (.iconst 0, 1) := by decide +kernel
theorem dX12_broken_1 : decode cX12_broken 1 = .ok (.istore_n 1, 1) := by decide +kernel
theorem dX12_broken_2 : decode cX12_broken 2 = .ok (.iconst 0, 1) := by decide +kernel
theorem dX12_broken_3 : decode cX12_broken 3 = .ok (.istore_n 2, 1) := by decide +kernel
theorem dX12_broken_4 : decode cX12_broken 4 = .ok (.iload_n 2, 1) := by decide +kernel
theorem dX12_broken_5 : decode cX12_broken 5 = .ok (.bipush 40, 2) := by decide +kernel
theorem dX12_broken_7 : decode cX12_broken 7 = .ok (.aload_n 0, 1) := by decide +kernel
theorem dX12_broken_8 : decode cX12_broken 8 = .ok (.getfield 16, 3) := by decide +kernel
theorem dX12_broken_11 : decode cX12_broken 11 = .ok (.sipush 804, 3) := by decide +kernel
theorem dX12_broken_14 : decode cX12_broken 14 = .ok (.iaload, 1) := by decide +kernel
theorem dX12_broken_15 : decode cX12_broken 15 = .ok (.invokestatic 97, 3) := by decide +kernel
theorem dX12_broken_18 : decode cX12_broken 18 = .ok (.if_icmp .ge 49, 3) := by decide +kernel
theorem dX12_broken_21 : decode cX12_broken 21 = .ok (.iload_n 1, 1) := by decide +kernel
theorem dX12_broken_22 : decode cX12_broken 22 = .ok (.aload_n 0, 1) := by decide +kernel
theorem dX12_broken_23 : decode cX12_broken 23 = .ok (.getfield 16, 3) := by decide +kernel
theorem dX12_broken_26 : decode cX12_broken 26 = .ok (.sipush 805, 3) := by decide +kernel
theorem dX12_broken_29 : decode cX12_broken 29 = .ok (.iconst 5, 1) := by decide +kernel
theorem dX12_broken_30 : decode cX12_broken 30 = .ok (.iload_n 2, 1) := by decide +kernel
theorem dX12_broken_31 : decode cX12_broken 31 = .ok (.imul, 1) := by decide +kernel
theorem dX12_broken_32 : decode cX12_broken 32 = .ok (.iadd, 1) := by decide +kernel
theorem dX12_broken_33 : decode cX12_broken 33 = .ok (.iaload, 1) := by decide +kernel
theorem dX12_broken_34 : decode cX12_broken 34 = .ok (.iconst 2, 1) := by decide +kernel
theorem dX12_broken_35 : decode cX12_broken 35 = .ok (.if_icmp .eq 19, 3) := by decide +kernel
theorem dX12_broken_38 : decode cX12_broken 38 = .ok (.aload_n 0, 1) := by decide +kernel
theorem dX12_broken_39 : decode cX12_broken 39 = .ok (.getfield 16, 3) := by decide +kernel
theorem dX12_broken_42 : decode cX12_broken 42 = .ok (.sipush 805, 3) := by decide +kernel
theorem dX12_broken_45 : decode cX12_broken 45 = .ok (.iconst 5, 1) := by decide +kernel
theorem dX12_broken_46 : decode cX12_broken 46 = .ok (.iload_n 2, 1) := by decide +kernel
theorem dX12_broken_47 : decode cX12_broken 47 = .ok (.imul, 1) := by decide +kernel
theorem dX12_broken_48 : decode cX12_broken 48 = .ok (.iadd, 1) := by decide +kernel
theorem dX12_broken_49 : decode cX12_broken 49 = .ok (.iaload, 1) := by decide +kernel
theorem dX12_broken_50 : decode cX12_broken 50 = .ok (.iconst 3, 1) := by decide +kernel
theorem dX12_broken_51 : decode cX12_broken 51 = .ok (.if_icmp .ne 7, 3) := by decide +kernel
theorem dX12_broken_54 : decode cX12_broken 54 = .ok (.iconst 1, 1) := by decide +kernel
theorem dX12_broken_55 : decode cX12_broken 55 = .ok (.goto 4, 3) := by decide +kernel
theorem dX12_broken_58 : decode cX12_broken 58 = .ok (.iconst 0, 1) := by decide +kernel
theorem dX12_broken_59 : decode cX12_broken 59 = .ok (.iadd, 1) := by decide +kernel
theorem dX12_broken_60 : decode cX12_broken 60 = .ok (.istore_n 1, 1) := by decide +kernel
theorem dX12_broken_61 : decode cX12_broken 61 = .ok (.iinc 2 1, 3) := by decide +kernel
theorem dX12_broken_64 : decode cX12_broken 64 = .ok (.goto (-60), 3) := by decide +kernel
theorem dX12_broken_67 : decode cX12_broken 67 = .ok (.iload_n 1, 1) := by decide +kernel
theorem dX12_broken_68 : decode cX12_broken 68 = .ok (.ireturn, 1) := by decide +kernel
theorem dX12_longestFrame_0 : decode cX12_longestFrame 0 = .ok (.iconst 0, 1) := by decide +kernel
theorem dX12_longestFrame_1 : decode cX12_longestFrame 1 = .ok (.istore_n 1, 1) := by decide +kernel
theorem dX12_longestFrame_2 : decode cX12_longestFrame 2 = .ok (.aload_n 0, 1) := by decide +kernel
theorem dX12_longestFrame_3 : decode cX12_longestFrame 3 = .ok (.invokevirtual 386, 3) := by decide +kernel
theorem dX12_longestFrame_6 : decode cX12_longestFrame 6 = .ok (.pop, 1) := by decide +kernel
theorem dX12_longestFrame_7 : decode cX12_longestFrame 7 = .ok (.iconst 0, 1) := by decide +kernel
theorem dX12_longestFrame_8 : decode cX12_longestFrame 8 = .ok (.istore_n 2, 1) := by decide +kernel
theorem dX12_longestFrame_9 : decode cX12_longestFrame 9 = .ok (.iload_n 2, 1) := by decide +kernel
theorem dX12_longestFrame_10 : decode cX12_longestFrame 10 = .ok (.aload_n 0, 1) := by decide +kernel
theorem dX12_longestFrame_11 : decode cX12_longestFrame 11 = .ok (.getfield 383, 3) := by decide +kernel
theorem dX12_longestFrame_14 : decode cX12_longestFrame 14 = .ok (.if_icmp .ge 27, 3) := by decide +kernel
theorem dX12_longestFrame_17 : decode cX12_longestFrame 17 = .ok (.iload_n 1, 1) := by decide +kernel
theorem dX12_longestFrame_18 : decode cX12_longestFrame 18 = .ok (.aload_n 0, 1) := by decide +kernel
theorem dX12_longestFrame_19 : decode cX12_longestFrame 19 = .ok (.getfield 54, 3) := by decide +kernel
theorem dX12_longestFrame_22 : decode cX12_longestFrame 22 = .ok (.iload_n 2, 1) := by decide +kernel
theorem dX12_longestFrame_23 : decode cX12_longestFrame 23 = .ok (.iaload, 1) := by decide +kernel
theorem dX12_longestFrame_24 : decode cX12_longestFrame 24 = .ok (.aload_n 0, 1) := by decide +kernel
theorem dX12_longestFrame_25 : decode cX12_longestFrame 25 = .ok (.getfield 51, 3) := by decide +kernel
theorem dX12_longestFrame_28 : decode cX12_longestFrame 28 = .ok (.iload_n 2, 1) := by decide +kernel
theorem dX12_longestFrame_29 : decode cX12_longestFrame 29 = .ok (.iaload, 1) := by decide +kernel
theorem dX12_longestFrame_30 : decode cX12_longestFrame 30 = .ok (.isub, 1) := by decide +kernel
theorem dX12_longestFrame_31 : decode cX12_longestFrame 31 = .ok (.invokestatic 260, 3) := by decide +kernel
theorem dX12_longestFrame_34 : decode cX12_longestFrame 34 = .ok (.istore_n 1, 1) := by decide +kernel
theorem dX12_longestFrame_35 : decode cX12_longestFrame 35 = .ok (.iinc 2 1, 3) := by decide +kernel
theorem dX12_longestFrame_38 : decode cX12_longestFrame 38 = .ok (.goto (-29), 3) := by decide +kernel
theorem dX12_longestFrame_41 : decode cX12_longestFrame 41 = .ok (.iload_n 1, 1) := by decide +kernel
theorem dX12_longestFrame_42 : decode cX12_longestFrame 42 = .ok (.ireturn, 1) := by decide +kernel
theorem dX12_waitingBytes_0 : decode cX12_waitingBytes 0 = .ok (.iconst 0, 1) := by decide +kernel
theorem dX12_waitingBytes_1 : decode cX12_waitingBytes 1 = .ok (.istore_n 1, 1) := by decide +kernel
theorem dX12_waitingBytes_2 : decode cX12_waitingBytes 2 = .ok (.iconst 0, 1) := by decide +kernel
theorem dX12_waitingBytes_3 : decode cX12_waitingBytes 3 = .ok (.istore_n 2, 1) := by decide +kernel
theorem dX12_waitingBytes_4 : decode cX12_waitingBytes 4 = .ok (.iload_n 2, 1) := by decide +kernel
theorem dX12_waitingBytes_5 : decode cX12_waitingBytes 5 = .ok (.aload_n 0, 1) := by decide +kernel
theorem dX12_waitingBytes_6 : decode cX12_waitingBytes 6 = .ok (.getfield 198, 3) := by decide +kernel
theorem dX12_waitingBytes_9 : decode cX12_waitingBytes 9 = .ok (.if_icmp .ge 48, 3) := by decide +kernel
theorem dX12_waitingBytes_12 : decode cX12_waitingBytes 12 = .ok (.iload_n 1, 1) := by decide +kernel
theorem dX12_waitingBytes_13 : decode cX12_waitingBytes 13 = .ok (.aload_n 0, 1) := by decide +kernel
theorem dX12_waitingBytes_14 : decode cX12_waitingBytes 14 = .ok (.iload_n 2, 1) := by decide +kernel
theorem dX12_waitingBytes_15 : decode cX12_waitingBytes 15 = .ok (.iconst 2, 1) := by decide +kernel
theorem dX12_waitingBytes_16 : decode cX12_waitingBytes 16 = .ok (.invokevirtual 286, 3) := by decide +kernel
theorem dX12_waitingBytes_19 : decode cX12_waitingBytes 19 = .ok (.isub, 1) := by decide +kernel
theorem dX12_waitingBytes_20 : decode cX12_waitingBytes 20 = .ok (.istore_n 1, 1) := by decide +kernel
theorem dX12_waitingBytes_21 : decode cX12_waitingBytes 21 = .ok (.iconst 0, 1) := by decide +kernel
theorem dX12_waitingBytes_22 : decode cX12_waitingBytes 22 = .ok (.istore_n 3, 1) := by decide +kernel
theorem dX12_waitingBytes_23 : decode cX12_waitingBytes 23 = .ok (.iload_n 3, 1) := by decide +kernel
theorem dX12_waitingBytes_24 : decode cX12_waitingBytes 24 = .ok (.aload_n 0, 1) := by decide +kernel
theorem dX12_waitingBytes_25 : decode cX12_waitingBytes 25 = .ok (.iload_n 2, 1) := by decide +kernel
theorem dX12_waitingBytes_26 : decode cX12_waitingBytes 26 = .ok (.iconst 1, 1) := by decide +kernel
theorem dX12_waitingBytes_27 : decode cX12_waitingBytes 27 = .ok (.invokevirtual 286, 3) := by decide +kernel
theorem dX12_waitingBytes_30 : decode cX12_waitingBytes 30 = .ok (.if_icmp .ge 21, 3) := by decide +kernel
theorem dX12_waitingBytes_33 : decode cX12_waitingBytes 33 = .ok (.iload_n 1, 1) := by decide +kernel
theorem dX12_waitingBytes_34 : decode cX12_waitingBytes 34 = .ok (.aload_n 0, 1) := by decide +kernel
theorem dX12_waitingBytes_35 : decode cX12_waitingBytes 35 = .ok (.iload_n 2, 1) := by decide +kernel
theorem dX12_waitingBytes_36 : decode cX12_waitingBytes 36 = .ok (.iload_n 3, 1) := by decide +kernel
theorem dX12_waitingBytes_37 : decode cX12_waitingBytes 37 = .ok (.invokestatic 292, 3) := by decide +kernel
theorem dX12_waitingBytes_40 : decode cX12_waitingBytes 40 = .ok (.invokevirtual 286, 3) := by decide +kernel
theorem dX12_waitingBytes_43 : decode cX12_waitingBytes 43 = .ok (.iadd, 1) := by decide +kernel
theorem dX12_waitingBytes_44 : decode cX12_waitingBytes 44 = .ok (.istore_n 1, 1) := by decide +kernel
theorem dX12_waitingBytes_45 : decode cX12_waitingBytes 45 = .ok (.iinc 3 1, 3) := by decide +kernel
theorem dX12_waitingBytes_48 : decode cX12_waitingBytes 48 = .ok (.goto (-25), 3) := by decide +kernel
theorem dX12_waitingBytes_51 : decode cX12_waitingBytes 51 = .ok (.iinc 2 1, 3) := by decide +kernel
theorem dX12_waitingBytes_54 : decode cX12_waitingBytes 54 = .ok (.goto (-50), 3) := by decide +kernel
theorem dX12_waitingBytes_57 : decode cX12_waitingBytes 57 = .ok (.iload_n 1, 1) := by decide +kernel
theorem dX12_waitingBytes_58 : decode cX12_waitingBytes 58 = .ok (.ireturn, 1) := by decide +kernel
theorem dX12_greatestByte_0 : decode cX12_greatestByte 0 = .ok (.iconst (-1), 1) := by decide +kernel
theorem dX12_greatestByte_1 : decode cX12_greatestByte 1 = .ok (.istore_n 1, 1) := by decide +kernel
theorem dX12_greatestByte_2 : decode cX12_greatestByte 2 = .ok (.iconst 0, 1) := by decide +kernel
theorem dX12_greatestByte_3 : decode cX12_greatestByte 3 = .ok (.istore_n 2, 1) := by decide +kernel
theorem dX12_greatestByte_4 : decode cX12_greatestByte 4 = .ok (.iload_n 2, 1) := by decide +kernel
theorem dX12_greatestByte_5 : decode cX12_greatestByte 5 = .ok (.aload_n 0, 1) := by decide +kernel
theorem dX12_greatestByte_6 : decode cX12_greatestByte 6 = .ok (.getfield 16, 3) := by decide +kernel
theorem dX12_greatestByte_9 : decode cX12_greatestByte 9 = .ok (.iconst 0, 1) := by decide +kernel
theorem dX12_greatestByte_10 : decode cX12_greatestByte 10 = .ok (.iaload, 1) := by decide +kernel
theorem dX12_greatestByte_11 : decode cX12_greatestByte 11 = .ok (.if_icmp .ge 22, 3) := by decide +kernel
theorem dX12_greatestByte_14 : decode cX12_greatestByte 14 = .ok (.iload_n 1, 1) := by decide +kernel
theorem dX12_greatestByte_15 : decode cX12_greatestByte 15 = .ok (.aload_n 0, 1) := by decide +kernel
theorem dX12_greatestByte_16 : decode cX12_greatestByte 16 = .ok (.getfield 16, 3) := by decide +kernel
theorem dX12_greatestByte_19 : decode cX12_greatestByte 19 = .ok (.iconst 1, 1) := by decide +kernel
theorem dX12_greatestByte_20 : decode cX12_greatestByte 20 = .ok (.iload_n 2, 1) := by decide +kernel
theorem dX12_greatestByte_21 : decode cX12_greatestByte 21 = .ok (.iadd, 1) := by decide +kernel
theorem dX12_greatestByte_22 : decode cX12_greatestByte 22 = .ok (.iaload, 1) := by decide +kernel
theorem dX12_greatestByte_23 : decode cX12_greatestByte 23 = .ok (.invokestatic 260, 3) := by decide +kernel
theorem dX12_greatestByte_26 : decode cX12_greatestByte 26 = .ok (.istore_n 1, 1) := by decide +kernel
theorem dX12_greatestByte_27 : decode cX12_greatestByte 27 = .ok (.iinc 2 1, 3) := by decide +kernel
theorem dX12_greatestByte_30 : decode cX12_greatestByte 30 = .ok (.goto (-26), 3) := by decide +kernel
theorem dX12_greatestByte_33 : decode cX12_greatestByte 33 = .ok (.iload_n 1, 1) := by decide +kernel
theorem dX12_greatestByte_34 : decode cX12_greatestByte 34 = .ok (.ireturn, 1) := by decide +kernel
theorem dX12_most_0 : decode cX12_most 0 = .ok (.aload_n 0, 1) := by decide +kernel
theorem dX12_most_1 : decode cX12_most 1 = .ok (.iconst 0, 1) := by decide +kernel
theorem dX12_most_2 : decode cX12_most 2 = .ok (.putfield 60, 3) := by decide +kernel
theorem dX12_most_5 : decode cX12_most 5 = .ok (.aload_n 0, 1) := by decide +kernel
theorem dX12_most_6 : decode cX12_most 6 = .ok (.getfield 188, 3) := by decide +kernel
theorem dX12_most_9 : decode cX12_most 9 = .ok (.ifCond .ne 7, 3) := by decide +kernel
theorem dX12_most_12 : decode cX12_most 12 = .ok (.ldc_w 392, 3) := by decide +kernel
theorem dX12_most_15 : decode cX12_most 15 = .ok (.ireturn, 1) := by decide +kernel
theorem dX12_most_16 : decode cX12_most 16 = .ok (.iload_n 1, 1) := by decide +kernel
theorem dX12_most_17 : decode cX12_most 17 = .ok (.tableswitch 69 0 5 #[39, 44, 49, 54, 59, 64], 39) := by decide +kernel
theorem dX12_most_56 : decode cX12_most 56 = .ok (.aload_n 0, 1) := by decide +kernel
theorem dX12_most_57 : decode cX12_most 57 = .ok (.invokevirtual 404, 3) := by decide +kernel
theorem dX12_most_60 : decode cX12_most 60 = .ok (.ireturn, 1) := by decide +kernel
theorem dX12_most_61 : decode cX12_most 61 = .ok (.aload_n 0, 1) := by decide +kernel
theorem dX12_most_62 : decode cX12_most 62 = .ok (.invokevirtual 298, 3) := by decide +kernel
theorem dX12_most_65 : decode cX12_most 65 = .ok (.ireturn, 1) := by decide +kernel
theorem dX12_most_66 : decode cX12_most 66 = .ok (.aload_n 0, 1) := by decide +kernel
theorem dX12_most_67 : decode cX12_most 67 = .ok (.invokevirtual 407, 3) := by decide +kernel
theorem dX12_most_70 : decode cX12_most 70 = .ok (.ireturn, 1) := by decide +kernel
theorem dX12_most_71 : decode cX12_most 71 = .ok (.aload_n 0, 1) := by decide +kernel
theorem dX12_most_72 : decode cX12_most 72 = .ok (.invokevirtual 410, 3) := by decide +kernel
theorem dX12_most_75 : decode cX12_most 75 = .ok (.ireturn, 1) := by decide +kernel
theorem dX12_most_76 : decode cX12_most 76 = .ok (.aload_n 0, 1) := by decide +kernel
theorem dX12_most_77 : decode cX12_most 77 = .ok (.invokevirtual 413, 3) := by decide +kernel
theorem dX12_most_80 : decode cX12_most 80 = .ok (.ireturn, 1) := by decide +kernel
theorem dX12_most_81 : decode cX12_most 81 = .ok (.aload_n 0, 1) := by decide +kernel
theorem dX12_most_82 : decode cX12_most 82 = .ok (.invokevirtual 416, 3) := by decide +kernel
theorem dX12_most_85 : decode cX12_most 85 = .ok (.ireturn, 1) := by decide +kernel
theorem dX12_most_86 : decode cX12_most 86 = .ok (.ldc_w 392, 3) := by decide +kernel
theorem dX12_most_89 : decode cX12_most 89 = .ok (.ireturn, 1) := by decide +kernel
theorem dX12_count_0 : decode cX12_count 0 = .ok (.aload_n 0, 1) := by decide +kernel
theorem dX12_count_1 : decode cX12_count 1 = .ok (.iconst 0, 1) := by decide +kernel
theorem dX12_count_2 : decode cX12_count 2 = .ok (.putfield 60, 3) := by decide +kernel
theorem dX12_count_5 : decode cX12_count 5 = .ok (.iload_n 1, 1) := by decide +kernel
theorem dX12_count_6 : decode cX12_count 6 = .ok (.tableswitch 50 0 3 #[30, 35, 40, 45], 30) := by decide +kernel
theorem dX12_count_36 : decode cX12_count 36 = .ok (.aload_n 0, 1) := by decide +kernel
theorem dX12_count_37 : decode cX12_count 37 = .ok (.getfield 63, 3) := by decide +kernel
theorem dX12_count_40 : decode cX12_count 40 = .ok (.ireturn, 1) := by decide +kernel
theorem dX12_count_41 : decode cX12_count 41 = .ok (.aload_n 0, 1) := by decide +kernel
theorem dX12_count_42 : decode cX12_count 42 = .ok (.getfield 205, 3) := by decide +kernel
theorem dX12_count_45 : decode cX12_count 45 = .ok (.ireturn, 1) := by decide +kernel
theorem dX12_count_46 : decode cX12_count 46 = .ok (.aload_n 0, 1) := by decide +kernel
theorem dX12_count_47 : decode cX12_count 47 = .ok (.getfield 254, 3) := by decide +kernel
theorem dX12_count_50 : decode cX12_count 50 = .ok (.ireturn, 1) := by decide +kernel
theorem dX12_count_51 : decode cX12_count 51 = .ok (.aload_n 0, 1) := by decide +kernel
theorem dX12_count_52 : decode cX12_count 52 = .ok (.getfield 211, 3) := by decide +kernel
theorem dX12_count_55 : decode cX12_count 55 = .ok (.ireturn, 1) := by decide +kernel
theorem dX12_count_56 : decode cX12_count 56 = .ok (.iconst (-1), 1) := by decide +kernel
theorem dX12_count_57 : decode cX12_count 57 = .ok (.ireturn, 1) := by decide +kernel
theorem dL_channel_0 : decode cL_channel 0 = .ok (.aload_n 3, 1) := by decide +kernel
theorem dL_channel_1 : decode cL_channel 1 = .ok (.iconst 0, 1) := by decide +kernel
theorem dL_channel_2 : decode cL_channel 2 = .ok (.aload_n 0, 1) := by decide +kernel
theorem dL_channel_3 : decode cL_channel 3 = .ok (.iload_n 1, 1) := by decide +kernel
theorem dL_channel_4 : decode cL_channel 4 = .ok (.iload_n 2, 1) := by decide +kernel
theorem dL_channel_5 : decode cL_channel 5 = .ok (.invokevirtual 7, 3) := by decide +kernel
theorem dL_channel_8 : decode cL_channel 8 = .ok (.i2l, 1) := by decide +kernel
theorem dL_channel_9 : decode cL_channel 9 = .ok (.lastore, 1) := by decide +kernel
theorem dL_channel_10 : decode cL_channel 10 = .ok (.goto 7, 3) := by decide +kernel
theorem dL_channel_13 : decode cL_channel 13 = .ok (.astore 4, 2) := by decide +kernel
theorem dL_channel_15 : decode cL_channel 15 = .ok (.iconst 1, 1) := by decide +kernel
theorem dL_channel_16 : decode cL_channel 16 = .ok (.ireturn, 1) := by decide +kernel
theorem dL_channel_17 : decode cL_channel 17 = .ok (.iconst 0, 1) := by decide +kernel
theorem dL_channel_18 : decode cL_channel 18 = .ok (.ireturn, 1) := by decide +kernel
theorem dL_law_0 : decode cL_law 0 = .ok (.new 8, 3) := by decide +kernel
theorem dL_law_3 : decode cL_law 3 = .ok (.dup, 1) := by decide +kernel
theorem dL_law_4 : decode cL_law 4 = .ok (.invokespecial 15, 3) := by decide +kernel
theorem dL_law_7 : decode cL_law 7 = .ok (.astore_n 1, 1) := by decide +kernel
theorem dL_law_8 : decode cL_law 8 = .ok (.new 16, 3) := by decide +kernel
theorem dL_law_11 : decode cL_law 11 = .ok (.dup, 1) := by decide +kernel
theorem dL_law_12 : decode cL_law 12 = .ok (.invokespecial 18, 3) := by decide +kernel
theorem dL_law_15 : decode cL_law 15 = .ok (.astore_n 2, 1) := by decide +kernel
theorem dL_law_16 : decode cL_law 16 = .ok (.iconst 1, 1) := by decide +kernel
theorem dL_law_17 : decode cL_law 17 = .ok (.newarray .long, 2) := by decide +kernel
theorem dL_law_19 : decode cL_law 19 = .ok (.astore_n 3, 1) := by decide +kernel
theorem dL_law_20 : decode cL_law 20 = .ok (.iconst 0, 1) := by decide +kernel
theorem dL_law_21 : decode cL_law 21 = .ok (.istore 4, 2) := by decide +kernel
theorem dL_law_23 : decode cL_law 23 = .ok (.iload 4, 2) := by decide +kernel
theorem dL_law_25 : decode cL_law 25 = .ok (.aload_n 0, 1) := by decide +kernel
theorem dL_law_26 : decode cL_law 26 = .ok (.arraylength, 1) := by decide +kernel
theorem dL_law_27 : decode cL_law 27 = .ok (.bipush 6, 2) := by decide +kernel
theorem dL_law_29 : decode cL_law 29 = .ok (.isub, 1) := by decide +kernel
theorem dL_law_30 : decode cL_law 30 = .ok (.if_icmp .gt 1194, 3) := by decide +kernel
theorem dL_law_33 : decode cL_law 33 = .ok (.aload_n 0, 1) := by decide +kernel
theorem dL_law_34 : decode cL_law 34 = .ok (.iload 4, 2) := by decide +kernel
theorem dL_law_36 : decode cL_law 36 = .ok (.iaload, 1) := by decide +kernel
theorem dL_law_37 : decode cL_law 37 = .ok (.bipush 63, 2) := by decide +kernel
theorem dL_law_39 : decode cL_law 39 = .ok (.iand, 1) := by decide +kernel
theorem dL_law_40 : decode cL_law 40 = .ok (.tableswitch 1178 0 34 #[156, 229, 254, 267, 280, 305, 330, 355, 380, 417, 442, 479, 548, 573, 598, 623, 648, 716, 753, 778, 803, 828, 841, 866, 903, 940, 965, 1002, 1039, 1064, 1077, 1090, 1103, 1128, 1153], 156) := by decide +kernel
theorem dL_law_196 : decode cL_law 196 = .ok (.aload_n 1, 1) := by decide +kernel
theorem dL_law_197 : decode cL_law 197 = .ok (.aload_n 0, 1) := by decide +kernel
theorem dL_law_198 : decode cL_law 198 = .ok (.iload 4, 2) := by decide +kernel
theorem dL_law_200 : decode cL_law 200 = .ok (.iconst 1, 1) := by decide +kernel
theorem dL_law_201 : decode cL_law 201 = .ok (.iadd, 1) := by decide +kernel
theorem dL_law_202 : decode cL_law 202 = .ok (.iaload, 1) := by decide +kernel
theorem dL_law_203 : decode cL_law 203 = .ok (.aload_n 0, 1) := by decide +kernel
theorem dL_law_204 : decode cL_law 204 = .ok (.iload 4, 2) := by decide +kernel
theorem dL_law_206 : decode cL_law 206 = .ok (.iconst 2, 1) := by decide +kernel
theorem dL_law_207 : decode cL_law 207 = .ok (.iadd, 1) := by decide +kernel
theorem dL_law_208 : decode cL_law 208 = .ok (.iaload, 1) := by decide +kernel
theorem dL_law_209 : decode cL_law 209 = .ok (.aload_n 0, 1) := by decide +kernel
theorem dL_law_210 : decode cL_law 210 = .ok (.iload 4, 2) := by decide +kernel
theorem dL_law_212 : decode cL_law 212 = .ok (.iconst 3, 1) := by decide +kernel
theorem dL_law_213 : decode cL_law 213 = .ok (.iadd, 1) := by decide +kernel
theorem dL_law_214 : decode cL_law 214 = .ok (.iaload, 1) := by decide +kernel
theorem dL_law_215 : decode cL_law 215 = .ok (.aload_n 0, 1) := by decide +kernel
theorem dL_law_216 : decode cL_law 216 = .ok (.iload 4, 2) := by decide +kernel
theorem dL_law_218 : decode cL_law 218 = .ok (.iconst 4, 1) := by decide +kernel
theorem dL_law_219 : decode cL_law 219 = .ok (.iadd, 1) := by decide +kernel
theorem dL_law_220 : decode cL_law 220 = .ok (.iaload, 1) := by decide +kernel
theorem dL_law_221 : decode cL_law 221 = .ok (.aload_n 0, 1) := by decide +kernel
theorem dL_law_222 : decode cL_law 222 = .ok (.iload 4, 2) := by decide +kernel
theorem dL_law_224 : decode cL_law 224 = .ok (.iconst 5, 1) := by decide +kernel
theorem dL_law_225 : decode cL_law 225 = .ok (.iadd, 1) := by decide +kernel
theorem dL_law_226 : decode cL_law 226 = .ok (.iaload, 1) := by decide +kernel
theorem dL_law_227 : decode cL_law 227 = .ok (.invokevirtual 19, 3) := by decide +kernel
theorem dL_law_230 : decode cL_law 230 = .ok (.aload_n 2, 1) := by decide +kernel
theorem dL_law_231 : decode cL_law 231 = .ok (.aload_n 0, 1) := by decide +kernel
theorem dL_law_232 : decode cL_law 232 = .ok (.iload 4, 2) := by decide +kernel
theorem dL_law_234 : decode cL_law 234 = .ok (.iconst 1, 1) := by decide +kernel
theorem dL_law_235 : decode cL_law 235 = .ok (.iadd, 1) := by decide +kernel
theorem dL_law_236 : decode cL_law 236 = .ok (.iaload, 1) := by decide +kernel
theorem dL_law_237 : decode cL_law 237 = .ok (.aload_n 0, 1) := by decide +kernel
theorem dL_law_238 : decode cL_law 238 = .ok (.iload 4, 2) := by decide +kernel
theorem dL_law_240 : decode cL_law 240 = .ok (.iconst 2, 1) := by decide +kernel
theorem dL_law_241 : decode cL_law 241 = .ok (.iadd, 1) := by decide +kernel
theorem dL_law_242 : decode cL_law 242 = .ok (.iaload, 1) := by decide +kernel
theorem dL_law_243 : decode cL_law 243 = .ok (.aload_n 0, 1) := by decide +kernel
theorem dL_law_244 : decode cL_law 244 = .ok (.iload 4, 2) := by decide +kernel
theorem dL_law_246 : decode cL_law 246 = .ok (.iconst 3, 1) := by decide +kernel
theorem dL_law_247 : decode cL_law 247 = .ok (.iadd, 1) := by decide +kernel
theorem dL_law_248 : decode cL_law 248 = .ok (.iaload, 1) := by decide +kernel
theorem dL_law_249 : decode cL_law 249 = .ok (.aload_n 0, 1) := by decide +kernel
theorem dL_law_250 : decode cL_law 250 = .ok (.iload 4, 2) := by decide +kernel
theorem dL_law_252 : decode cL_law 252 = .ok (.iconst 4, 1) := by decide +kernel
theorem dL_law_253 : decode cL_law 253 = .ok (.iadd, 1) := by decide +kernel
theorem dL_law_254 : decode cL_law 254 = .ok (.iaload, 1) := by decide +kernel
theorem dL_law_255 : decode cL_law 255 = .ok (.aload_n 0, 1) := by decide +kernel
theorem dL_law_256 : decode cL_law 256 = .ok (.iload 4, 2) := by decide +kernel
theorem dL_law_258 : decode cL_law 258 = .ok (.iconst 5, 1) := by decide +kernel
theorem dL_law_259 : decode cL_law 259 = .ok (.iadd, 1) := by decide +kernel
theorem dL_law_260 : decode cL_law 260 = .ok (.iaload, 1) := by decide +kernel
theorem dL_law_261 : decode cL_law 261 = .ok (.invokevirtual 23, 3) := by decide +kernel
theorem dL_law_264 : decode cL_law 264 = .ok (.if_icmp .eq 954, 3) := by decide +kernel
theorem dL_law_267 : decode cL_law 267 = .ok (.iconst 0, 1) := by decide +kernel
theorem dL_law_268 : decode cL_law 268 = .ok (.ireturn, 1) := by decide +kernel
theorem dL_law_269 : decode cL_law 269 = .ok (.aload_n 1, 1) := by decide +kernel
theorem dL_law_270 : decode cL_law 270 = .ok (.aload_n 0, 1) := by decide +kernel
theorem dL_law_271 : decode cL_law 271 = .ok (.iload 4, 2) := by decide +kernel
theorem dL_law_273 : decode cL_law 273 = .ok (.iconst 1, 1) := by decide +kernel
theorem dL_law_274 : decode cL_law 274 = .ok (.iadd, 1) := by decide +kernel
theorem dL_law_275 : decode cL_law 275 = .ok (.iaload, 1) := by decide +kernel
theorem dL_law_276 : decode cL_law 276 = .ok (.invokevirtual 24, 3) := by decide +kernel
theorem dL_law_279 : decode cL_law 279 = .ok (.aload_n 2, 1) := by decide +kernel
theorem dL_law_280 : decode cL_law 280 = .ok (.aload_n 0, 1) := by decide +kernel
theorem dL_law_281 : decode cL_law 281 = .ok (.iload 4, 2) := by decide +kernel
theorem dL_law_283 : decode cL_law 283 = .ok (.iconst 1, 1) := by decide +kernel
theorem dL_law_284 : decode cL_law 284 = .ok (.iadd, 1) := by decide +kernel
theorem dL_law_285 : decode cL_law 285 = .ok (.iaload, 1) := by decide +kernel
theorem dL_law_286 : decode cL_law 286 = .ok (.invokevirtual 28, 3) := by decide +kernel
theorem dL_law_289 : decode cL_law 289 = .ok (.if_icmp .eq 929, 3) := by decide +kernel
theorem dL_law_292 : decode cL_law 292 = .ok (.iconst 0, 1) := by decide +kernel
theorem dL_law_293 : decode cL_law 293 = .ok (.ireturn, 1) := by decide +kernel
theorem dL_law_294 : decode cL_law 294 = .ok (.aload_n 1, 1) := by decide +kernel
theorem dL_law_295 : decode cL_law 295 = .ok (.invokevirtual 29, 3) := by decide +kernel
theorem dL_law_298 : decode cL_law 298 = .ok (.aload_n 2, 1) := by decide +kernel
theorem dL_law_299 : decode cL_law 299 = .ok (.invokevirtual 33, 3) := by decide +kernel
theorem dL_law_302 : decode cL_law 302 = .ok (.if_icmp .eq 916, 3) := by decide +kernel
theorem dL_law_305 : decode cL_law 305 = .ok (.iconst 0, 1) := by decide +kernel
theorem dL_law_306 : decode cL_law 306 = .ok (.ireturn, 1) := by decide +kernel
theorem dL_law_307 : decode cL_law 307 = .ok (.aload_n 1, 1) := by decide +kernel
theorem dL_law_308 : decode cL_law 308 = .ok (.invokevirtual 34, 3) := by decide +kernel
theorem dL_law_311 : decode cL_law 311 = .ok (.aload_n 2, 1) := by decide +kernel
theorem dL_law_312 : decode cL_law 312 = .ok (.invokevirtual 37, 3) := by decide +kernel
theorem dL_law_315 : decode cL_law 315 = .ok (.if_icmp .eq 903, 3) := by decide +kernel
theorem dL_law_318 : decode cL_law 318 = .ok (.iconst 0, 1) := by decide +kernel
theorem dL_law_319 : decode cL_law 319 = .ok (.ireturn, 1) := by decide +kernel
theorem dL_law_320 : decode cL_law 320 = .ok (.aload_n 1, 1) := by decide +kernel
theorem dL_law_321 : decode cL_law 321 = .ok (.aload_n 0, 1) := by decide +kernel
theorem dL_law_322 : decode cL_law 322 = .ok (.iload 4, 2) := by decide +kernel
theorem dL_law_324 : decode cL_law 324 = .ok (.iconst 1, 1) := by decide +kernel
theorem dL_law_325 : decode cL_law 325 = .ok (.iadd, 1) := by decide +kernel
theorem dL_law_326 : decode cL_law 326 = .ok (.iaload, 1) := by decide +kernel
theorem dL_law_327 : decode cL_law 327 = .ok (.invokevirtual 38, 3) := by decide +kernel
theorem dL_law_330 : decode cL_law 330 = .ok (.aload_n 2, 1) := by decide +kernel
theorem dL_law_331 : decode cL_law 331 = .ok (.aload_n 0, 1) := by decide +kernel
theorem dL_law_332 : decode cL_law 332 = .ok (.iload 4, 2) := by decide +kernel
theorem dL_law_334 : decode cL_law 334 = .ok (.iconst 1, 1) := by decide +kernel
theorem dL_law_335 : decode cL_law 335 = .ok (.iadd, 1) := by decide +kernel
theorem dL_law_336 : decode cL_law 336 = .ok (.iaload, 1) := by decide +kernel
theorem dL_law_337 : decode cL_law 337 = .ok (.invokevirtual 42, 3) := by decide +kernel
theorem dL_law_340 : decode cL_law 340 = .ok (.if_icmp .eq 878, 3) := by decide +kernel
theorem dL_law_343 : decode cL_law 343 = .ok (.iconst 0, 1) := by decide +kernel
theorem dL_law_344 : decode cL_law 344 = .ok (.ireturn, 1) := by decide +kernel
theorem dL_law_345 : decode cL_law 345 = .ok (.aload_n 1, 1) := by decide +kernel
theorem dL_law_346 : decode cL_law 346 = .ok (.aload_n 0, 1) := by decide +kernel
theorem dL_law_347 : decode cL_law 347 = .ok (.iload 4, 2) := by decide +kernel
theorem dL_law_349 : decode cL_law 349 = .ok (.iconst 1, 1) := by decide +kernel
theorem dL_law_350 : decode cL_law 350 = .ok (.iadd, 1) := by decide +kernel
theorem dL_law_351 : decode cL_law 351 = .ok (.iaload, 1) := by decide +kernel
theorem dL_law_352 : decode cL_law 352 = .ok (.invokevirtual 43, 3) := by decide +kernel
theorem dL_law_355 : decode cL_law 355 = .ok (.aload_n 2, 1) := by decide +kernel
theorem dL_law_356 : decode cL_law 356 = .ok (.aload_n 0, 1) := by decide +kernel
theorem dL_law_357 : decode cL_law 357 = .ok (.iload 4, 2) := by decide +kernel
theorem dL_law_359 : decode cL_law 359 = .ok (.iconst 1, 1) := by decide +kernel
theorem dL_law_360 : decode cL_law 360 = .ok (.iadd, 1) := by decide +kernel
theorem dL_law_361 : decode cL_law 361 = .ok (.iaload, 1) := by decide +kernel
theorem dL_law_362 : decode cL_law 362 = .ok (.invokevirtual 46, 3) := by decide +kernel
theorem dL_law_365 : decode cL_law 365 = .ok (.if_icmp .eq 853, 3) := by decide +kernel
theorem dL_law_368 : decode cL_law 368 = .ok (.iconst 0, 1) := by decide +kernel
theorem dL_law_369 : decode cL_law 369 = .ok (.ireturn, 1) := by decide +kernel
theorem dL_law_370 : decode cL_law 370 = .ok (.aload_n 1, 1) := by decide +kernel
theorem dL_law_371 : decode cL_law 371 = .ok (.aload_n 0, 1) := by decide +kernel
theorem dL_law_372 : decode cL_law 372 = .ok (.iload 4, 2) := by decide +kernel
theorem dL_law_374 : decode cL_law 374 = .ok (.iconst 1, 1) := by decide +kernel
theorem dL_law_375 : decode cL_law 375 = .ok (.iadd, 1) := by decide +kernel
theorem dL_law_376 : decode cL_law 376 = .ok (.iaload, 1) := by decide +kernel
theorem dL_law_377 : decode cL_law 377 = .ok (.invokevirtual 47, 3) := by decide +kernel
theorem dL_law_380 : decode cL_law 380 = .ok (.aload_n 2, 1) := by decide +kernel
theorem dL_law_381 : decode cL_law 381 = .ok (.aload_n 0, 1) := by decide +kernel
theorem dL_law_382 : decode cL_law 382 = .ok (.iload 4, 2) := by decide +kernel
theorem dL_law_384 : decode cL_law 384 = .ok (.iconst 1, 1) := by decide +kernel
theorem dL_law_385 : decode cL_law 385 = .ok (.iadd, 1) := by decide +kernel
theorem dL_law_386 : decode cL_law 386 = .ok (.iaload, 1) := by decide +kernel
theorem dL_law_387 : decode cL_law 387 = .ok (.invokevirtual 50, 3) := by decide +kernel
theorem dL_law_390 : decode cL_law 390 = .ok (.if_icmp .eq 828, 3) := by decide +kernel
theorem dL_law_393 : decode cL_law 393 = .ok (.iconst 0, 1) := by decide +kernel
theorem dL_law_394 : decode cL_law 394 = .ok (.ireturn, 1) := by decide +kernel
theorem dL_law_395 : decode cL_law 395 = .ok (.aload_n 1, 1) := by decide +kernel
theorem dL_law_396 : decode cL_law 396 = .ok (.aload_n 0, 1) := by decide +kernel
theorem dL_law_397 : decode cL_law 397 = .ok (.iload 4, 2) := by decide +kernel
theorem dL_law_399 : decode cL_law 399 = .ok (.iconst 1, 1) := by decide +kernel
theorem dL_law_400 : decode cL_law 400 = .ok (.iadd, 1) := by decide +kernel
theorem dL_law_401 : decode cL_law 401 = .ok (.iaload, 1) := by decide +kernel
theorem dL_law_402 : decode cL_law 402 = .ok (.invokevirtual 51, 3) := by decide +kernel
theorem dL_law_405 : decode cL_law 405 = .ok (.aload_n 2, 1) := by decide +kernel
theorem dL_law_406 : decode cL_law 406 = .ok (.aload_n 0, 1) := by decide +kernel
theorem dL_law_407 : decode cL_law 407 = .ok (.iload 4, 2) := by decide +kernel
theorem dL_law_409 : decode cL_law 409 = .ok (.iconst 1, 1) := by decide +kernel
theorem dL_law_410 : decode cL_law 410 = .ok (.iadd, 1) := by decide +kernel
theorem dL_law_411 : decode cL_law 411 = .ok (.iaload, 1) := by decide +kernel
theorem dL_law_412 : decode cL_law 412 = .ok (.invokevirtual 54, 3) := by decide +kernel
theorem dL_law_415 : decode cL_law 415 = .ok (.if_icmp .eq 803, 3) := by decide +kernel
theorem dL_law_418 : decode cL_law 418 = .ok (.iconst 0, 1) := by decide +kernel
theorem dL_law_419 : decode cL_law 419 = .ok (.ireturn, 1) := by decide +kernel
theorem dL_law_420 : decode cL_law 420 = .ok (.aload_n 1, 1) := by decide +kernel
theorem dL_law_421 : decode cL_law 421 = .ok (.aload_n 0, 1) := by decide +kernel
theorem dL_law_422 : decode cL_law 422 = .ok (.iload 4, 2) := by decide +kernel
theorem dL_law_424 : decode cL_law 424 = .ok (.iconst 1, 1) := by decide +kernel
theorem dL_law_425 : decode cL_law 425 = .ok (.iadd, 1) := by decide +kernel
theorem dL_law_426 : decode cL_law 426 = .ok (.iaload, 1) := by decide +kernel
theorem dL_law_427 : decode cL_law 427 = .ok (.aload_n 0, 1) := by decide +kernel
theorem dL_law_428 : decode cL_law 428 = .ok (.iload 4, 2) := by decide +kernel
theorem dL_law_430 : decode cL_law 430 = .ok (.iconst 2, 1) := by decide +kernel
theorem dL_law_431 : decode cL_law 431 = .ok (.iadd, 1) := by decide +kernel
theorem dL_law_432 : decode cL_law 432 = .ok (.iaload, 1) := by decide +kernel
theorem dL_law_433 : decode cL_law 433 = .ok (.invokevirtual 55, 3) := by decide +kernel
theorem dL_law_436 : decode cL_law 436 = .ok (.aload_n 2, 1) := by decide +kernel
theorem dL_law_437 : decode cL_law 437 = .ok (.aload_n 0, 1) := by decide +kernel
theorem dL_law_438 : decode cL_law 438 = .ok (.iload 4, 2) := by decide +kernel
theorem dL_law_440 : decode cL_law 440 = .ok (.iconst 1, 1) := by decide +kernel
theorem dL_law_441 : decode cL_law 441 = .ok (.iadd, 1) := by decide +kernel
theorem dL_law_442 : decode cL_law 442 = .ok (.iaload, 1) := by decide +kernel
theorem dL_law_443 : decode cL_law 443 = .ok (.aload_n 0, 1) := by decide +kernel
theorem dL_law_444 : decode cL_law 444 = .ok (.iload 4, 2) := by decide +kernel
theorem dL_law_446 : decode cL_law 446 = .ok (.iconst 2, 1) := by decide +kernel
theorem dL_law_447 : decode cL_law 447 = .ok (.iadd, 1) := by decide +kernel
theorem dL_law_448 : decode cL_law 448 = .ok (.iaload, 1) := by decide +kernel
theorem dL_law_449 : decode cL_law 449 = .ok (.invokevirtual 58, 3) := by decide +kernel
theorem dL_law_452 : decode cL_law 452 = .ok (.if_icmp .eq 766, 3) := by decide +kernel
theorem dL_law_455 : decode cL_law 455 = .ok (.iconst 0, 1) := by decide +kernel
theorem dL_law_456 : decode cL_law 456 = .ok (.ireturn, 1) := by decide +kernel
theorem dL_law_457 : decode cL_law 457 = .ok (.aload_n 1, 1) := by decide +kernel
theorem dL_law_458 : decode cL_law 458 = .ok (.aload_n 0, 1) := by decide +kernel
theorem dL_law_459 : decode cL_law 459 = .ok (.iload 4, 2) := by decide +kernel
theorem dL_law_461 : decode cL_law 461 = .ok (.iconst 1, 1) := by decide +kernel
theorem dL_law_462 : decode cL_law 462 = .ok (.iadd, 1) := by decide +kernel
theorem dL_law_463 : decode cL_law 463 = .ok (.iaload, 1) := by decide +kernel
theorem dL_law_464 : decode cL_law 464 = .ok (.invokevirtual 59, 3) := by decide +kernel
theorem dL_law_467 : decode cL_law 467 = .ok (.aload_n 2, 1) := by decide +kernel
theorem dL_law_468 : decode cL_law 468 = .ok (.aload_n 0, 1) := by decide +kernel
theorem dL_law_469 : decode cL_law 469 = .ok (.iload 4, 2) := by decide +kernel
theorem dL_law_471 : decode cL_law 471 = .ok (.iconst 1, 1) := by decide +kernel
theorem dL_law_472 : decode cL_law 472 = .ok (.iadd, 1) := by decide +kernel
theorem dL_law_473 : decode cL_law 473 = .ok (.iaload, 1) := by decide +kernel
theorem dL_law_474 : decode cL_law 474 = .ok (.invokevirtual 62, 3) := by decide +kernel
theorem dL_law_477 : decode cL_law 477 = .ok (.if_icmp .eq 741, 3) := by decide +kernel
theorem dL_law_480 : decode cL_law 480 = .ok (.iconst 0, 1) := by decide +kernel
theorem dL_law_481 : decode cL_law 481 = .ok (.ireturn, 1) := by decide +kernel
theorem dL_law_482 : decode cL_law 482 = .ok (.aload_n 1, 1) := by decide +kernel
theorem dL_law_483 : decode cL_law 483 = .ok (.aload_n 0, 1) := by decide +kernel
theorem dL_law_484 : decode cL_law 484 = .ok (.iload 4, 2) := by decide +kernel
theorem dL_law_486 : decode cL_law 486 = .ok (.iconst 1, 1) := by decide +kernel
theorem dL_law_487 : decode cL_law 487 = .ok (.iadd, 1) := by decide +kernel
theorem dL_law_488 : decode cL_law 488 = .ok (.iaload, 1) := by decide +kernel
theorem dL_law_489 : decode cL_law 489 = .ok (.aload_n 0, 1) := by decide +kernel
theorem dL_law_490 : decode cL_law 490 = .ok (.iload 4, 2) := by decide +kernel
theorem dL_law_492 : decode cL_law 492 = .ok (.iconst 2, 1) := by decide +kernel
theorem dL_law_493 : decode cL_law 493 = .ok (.iadd, 1) := by decide +kernel
theorem dL_law_494 : decode cL_law 494 = .ok (.iaload, 1) := by decide +kernel
theorem dL_law_495 : decode cL_law 495 = .ok (.invokevirtual 63, 3) := by decide +kernel
theorem dL_law_498 : decode cL_law 498 = .ok (.aload_n 2, 1) := by decide +kernel
theorem dL_law_499 : decode cL_law 499 = .ok (.aload_n 0, 1) := by decide +kernel
theorem dL_law_500 : decode cL_law 500 = .ok (.iload 4, 2) := by decide +kernel
theorem dL_law_502 : decode cL_law 502 = .ok (.iconst 1, 1) := by decide +kernel
theorem dL_law_503 : decode cL_law 503 = .ok (.iadd, 1) := by decide +kernel
theorem dL_law_504 : decode cL_law 504 = .ok (.iaload, 1) := by decide +kernel
theorem dL_law_505 : decode cL_law 505 = .ok (.aload_n 0, 1) := by decide +kernel
theorem dL_law_506 : decode cL_law 506 = .ok (.iload 4, 2) := by decide +kernel
theorem dL_law_508 : decode cL_law 508 = .ok (.iconst 2, 1) := by decide +kernel
theorem dL_law_509 : decode cL_law 509 = .ok (.iadd, 1) := by decide +kernel
theorem dL_law_510 : decode cL_law 510 = .ok (.iaload, 1) := by decide +kernel
theorem dL_law_511 : decode cL_law 511 = .ok (.invokevirtual 66, 3) := by decide +kernel
theorem dL_law_514 : decode cL_law 514 = .ok (.if_icmp .eq 704, 3) := by decide +kernel
theorem dL_law_517 : decode cL_law 517 = .ok (.iconst 0, 1) := by decide +kernel
theorem dL_law_518 : decode cL_law 518 = .ok (.ireturn, 1) := by decide +kernel
theorem dL_law_519 : decode cL_law 519 = .ok (.aload_n 1, 1) := by decide +kernel
theorem dL_law_520 : decode cL_law 520 = .ok (.aload_n 0, 1) := by decide +kernel
theorem dL_law_521 : decode cL_law 521 = .ok (.iload 4, 2) := by decide +kernel
theorem dL_law_523 : decode cL_law 523 = .ok (.iconst 1, 1) := by decide +kernel
theorem dL_law_524 : decode cL_law 524 = .ok (.iadd, 1) := by decide +kernel
theorem dL_law_525 : decode cL_law 525 = .ok (.iaload, 1) := by decide +kernel
theorem dL_law_526 : decode cL_law 526 = .ok (.aload_n 0, 1) := by decide +kernel
theorem dL_law_527 : decode cL_law 527 = .ok (.iload 4, 2) := by decide +kernel
theorem dL_law_529 : decode cL_law 529 = .ok (.iconst 2, 1) := by decide +kernel
theorem dL_law_530 : decode cL_law 530 = .ok (.iadd, 1) := by decide +kernel
theorem dL_law_531 : decode cL_law 531 = .ok (.iaload, 1) := by decide +kernel
theorem dL_law_532 : decode cL_law 532 = .ok (.i2l, 1) := by decide +kernel
theorem dL_law_533 : decode cL_law 533 = .ok (.bipush 32, 2) := by decide +kernel
theorem dL_law_535 : decode cL_law 535 = .ok (.lshl, 1) := by decide +kernel
theorem dL_law_536 : decode cL_law 536 = .ok (.aload_n 0, 1) := by decide +kernel
theorem dL_law_537 : decode cL_law 537 = .ok (.iload 4, 2) := by decide +kernel
theorem dL_law_539 : decode cL_law 539 = .ok (.iconst 3, 1) := by decide +kernel
theorem dL_law_540 : decode cL_law 540 = .ok (.iadd, 1) := by decide +kernel
theorem dL_law_541 : decode cL_law 541 = .ok (.iaload, 1) := by decide +kernel
theorem dL_law_542 : decode cL_law 542 = .ok (.i2l, 1) := by decide +kernel
theorem dL_law_543 : decode cL_law 543 = .ok (.ldc2_w 67, 3) := by decide +kernel
theorem dL_law_546 : decode cL_law 546 = .ok (.land, 1) := by decide +kernel
theorem dL_law_547 : decode cL_law 547 = .ok (.lor, 1) := by decide +kernel
theorem dL_law_548 : decode cL_law 548 = .ok (.invokevirtual 69, 3) := by decide +kernel
theorem dL_law_551 : decode cL_law 551 = .ok (.aload_n 2, 1) := by decide +kernel
theorem dL_law_552 : decode cL_law 552 = .ok (.aload_n 0, 1) := by decide +kernel
theorem dL_law_553 : decode cL_law 553 = .ok (.iload 4, 2) := by decide +kernel
theorem dL_law_555 : decode cL_law 555 = .ok (.iconst 1, 1) := by decide +kernel
theorem dL_law_556 : decode cL_law 556 = .ok (.iadd, 1) := by decide +kernel
theorem dL_law_557 : decode cL_law 557 = .ok (.iaload, 1) := by decide +kernel
theorem dL_law_558 : decode cL_law 558 = .ok (.aload_n 0, 1) := by decide +kernel
theorem dL_law_559 : decode cL_law 559 = .ok (.iload 4, 2) := by decide +kernel
theorem dL_law_561 : decode cL_law 561 = .ok (.iconst 2, 1) := by decide +kernel
theorem dL_law_562 : decode cL_law 562 = .ok (.iadd, 1) := by decide +kernel
theorem dL_law_563 : decode cL_law 563 = .ok (.iaload, 1) := by decide +kernel
theorem dL_law_564 : decode cL_law 564 = .ok (.i2l, 1) := by decide +kernel
theorem dL_law_565 : decode cL_law 565 = .ok (.bipush 32, 2) := by decide +kernel
theorem dL_law_567 : decode cL_law 567 = .ok (.lshl, 1) := by decide +kernel
theorem dL_law_568 : decode cL_law 568 = .ok (.aload_n 0, 1) := by decide +kernel
theorem dL_law_569 : decode cL_law 569 = .ok (.iload 4, 2) := by decide +kernel
theorem dL_law_571 : decode cL_law 571 = .ok (.iconst 3, 1) := by decide +kernel
theorem dL_law_572 : decode cL_law 572 = .ok (.iadd, 1) := by decide +kernel
theorem dL_law_573 : decode cL_law 573 = .ok (.iaload, 1) := by decide +kernel
theorem dL_law_574 : decode cL_law 574 = .ok (.i2l, 1) := by decide +kernel
theorem dL_law_575 : decode cL_law 575 = .ok (.ldc2_w 67, 3) := by decide +kernel
theorem dL_law_578 : decode cL_law 578 = .ok (.land, 1) := by decide +kernel
theorem dL_law_579 : decode cL_law 579 = .ok (.lor, 1) := by decide +kernel
theorem dL_law_580 : decode cL_law 580 = .ok (.invokevirtual 73, 3) := by decide +kernel
theorem dL_law_583 : decode cL_law 583 = .ok (.if_icmp .eq 635, 3) := by decide +kernel
theorem dL_law_586 : decode cL_law 586 = .ok (.iconst 0, 1) := by decide +kernel
theorem dL_law_587 : decode cL_law 587 = .ok (.ireturn, 1) := by decide +kernel
theorem dL_law_588 : decode cL_law 588 = .ok (.aload_n 1, 1) := by decide +kernel
theorem dL_law_589 : decode cL_law 589 = .ok (.aload_n 0, 1) := by decide +kernel
theorem dL_law_590 : decode cL_law 590 = .ok (.iload 4, 2) := by decide +kernel
theorem dL_law_592 : decode cL_law 592 = .ok (.iconst 1, 1) := by decide +kernel
theorem dL_law_593 : decode cL_law 593 = .ok (.iadd, 1) := by decide +kernel
theorem dL_law_594 : decode cL_law 594 = .ok (.iaload, 1) := by decide +kernel
theorem dL_law_595 : decode cL_law 595 = .ok (.invokevirtual 74, 3) := by decide +kernel
theorem dL_law_598 : decode cL_law 598 = .ok (.aload_n 2, 1) := by decide +kernel
theorem dL_law_599 : decode cL_law 599 = .ok (.aload_n 0, 1) := by decide +kernel
theorem dL_law_600 : decode cL_law 600 = .ok (.iload 4, 2) := by decide +kernel
theorem dL_law_602 : decode cL_law 602 = .ok (.iconst 1, 1) := by decide +kernel
theorem dL_law_603 : decode cL_law 603 = .ok (.iadd, 1) := by decide +kernel
theorem dL_law_604 : decode cL_law 604 = .ok (.iaload, 1) := by decide +kernel
theorem dL_law_605 : decode cL_law 605 = .ok (.invokevirtual 77, 3) := by decide +kernel
theorem dL_law_608 : decode cL_law 608 = .ok (.if_icmp .eq 610, 3) := by decide +kernel
theorem dL_law_611 : decode cL_law 611 = .ok (.iconst 0, 1) := by decide +kernel
theorem dL_law_612 : decode cL_law 612 = .ok (.ireturn, 1) := by decide +kernel
theorem dL_law_613 : decode cL_law 613 = .ok (.aload_n 1, 1) := by decide +kernel
theorem dL_law_614 : decode cL_law 614 = .ok (.aload_n 0, 1) := by decide +kernel
theorem dL_law_615 : decode cL_law 615 = .ok (.iload 4, 2) := by decide +kernel
theorem dL_law_617 : decode cL_law 617 = .ok (.iconst 1, 1) := by decide +kernel
theorem dL_law_618 : decode cL_law 618 = .ok (.iadd, 1) := by decide +kernel
theorem dL_law_619 : decode cL_law 619 = .ok (.iaload, 1) := by decide +kernel
theorem dL_law_620 : decode cL_law 620 = .ok (.invokevirtual 78, 3) := by decide +kernel
theorem dL_law_623 : decode cL_law 623 = .ok (.aload_n 2, 1) := by decide +kernel
theorem dL_law_624 : decode cL_law 624 = .ok (.aload_n 0, 1) := by decide +kernel
theorem dL_law_625 : decode cL_law 625 = .ok (.iload 4, 2) := by decide +kernel
theorem dL_law_627 : decode cL_law 627 = .ok (.iconst 1, 1) := by decide +kernel
theorem dL_law_628 : decode cL_law 628 = .ok (.iadd, 1) := by decide +kernel
theorem dL_law_629 : decode cL_law 629 = .ok (.iaload, 1) := by decide +kernel
theorem dL_law_630 : decode cL_law 630 = .ok (.invokevirtual 81, 3) := by decide +kernel
theorem dL_law_633 : decode cL_law 633 = .ok (.if_icmp .eq 585, 3) := by decide +kernel
theorem dL_law_636 : decode cL_law 636 = .ok (.iconst 0, 1) := by decide +kernel
theorem dL_law_637 : decode cL_law 637 = .ok (.ireturn, 1) := by decide +kernel
theorem dL_law_638 : decode cL_law 638 = .ok (.aload_n 1, 1) := by decide +kernel
theorem dL_law_639 : decode cL_law 639 = .ok (.aload_n 0, 1) := by decide +kernel
theorem dL_law_640 : decode cL_law 640 = .ok (.iload 4, 2) := by decide +kernel
theorem dL_law_642 : decode cL_law 642 = .ok (.iconst 1, 1) := by decide +kernel
theorem dL_law_643 : decode cL_law 643 = .ok (.iadd, 1) := by decide +kernel
theorem dL_law_644 : decode cL_law 644 = .ok (.iaload, 1) := by decide +kernel
theorem dL_law_645 : decode cL_law 645 = .ok (.invokevirtual 82, 3) := by decide +kernel
theorem dL_law_648 : decode cL_law 648 = .ok (.aload_n 2, 1) := by decide +kernel
theorem dL_law_649 : decode cL_law 649 = .ok (.aload_n 0, 1) := by decide +kernel
theorem dL_law_650 : decode cL_law 650 = .ok (.iload 4, 2) := by decide +kernel
theorem dL_law_652 : decode cL_law 652 = .ok (.iconst 1, 1) := by decide +kernel
theorem dL_law_653 : decode cL_law 653 = .ok (.iadd, 1) := by decide +kernel
theorem dL_law_654 : decode cL_law 654 = .ok (.iaload, 1) := by decide +kernel
theorem dL_law_655 : decode cL_law 655 = .ok (.invokevirtual 85, 3) := by decide +kernel
theorem dL_law_658 : decode cL_law 658 = .ok (.if_icmp .eq 560, 3) := by decide +kernel
theorem dL_law_661 : decode cL_law 661 = .ok (.iconst 0, 1) := by decide +kernel
theorem dL_law_662 : decode cL_law 662 = .ok (.ireturn, 1) := by decide +kernel
theorem dL_law_663 : decode cL_law 663 = .ok (.aload_n 1, 1) := by decide +kernel
theorem dL_law_664 : decode cL_law 664 = .ok (.aload_n 0, 1) := by decide +kernel
theorem dL_law_665 : decode cL_law 665 = .ok (.iload 4, 2) := by decide +kernel
theorem dL_law_667 : decode cL_law 667 = .ok (.iconst 1, 1) := by decide +kernel
theorem dL_law_668 : decode cL_law 668 = .ok (.iadd, 1) := by decide +kernel
theorem dL_law_669 : decode cL_law 669 = .ok (.iaload, 1) := by decide +kernel
theorem dL_law_670 : decode cL_law 670 = .ok (.invokevirtual 86, 3) := by decide +kernel
theorem dL_law_673 : decode cL_law 673 = .ok (.aload_n 2, 1) := by decide +kernel
theorem dL_law_674 : decode cL_law 674 = .ok (.aload_n 0, 1) := by decide +kernel
theorem dL_law_675 : decode cL_law 675 = .ok (.iload 4, 2) := by decide +kernel
theorem dL_law_677 : decode cL_law 677 = .ok (.iconst 1, 1) := by decide +kernel
theorem dL_law_678 : decode cL_law 678 = .ok (.iadd, 1) := by decide +kernel
theorem dL_law_679 : decode cL_law 679 = .ok (.iaload, 1) := by decide +kernel
theorem dL_law_680 : decode cL_law 680 = .ok (.invokevirtual 89, 3) := by decide +kernel
theorem dL_law_683 : decode cL_law 683 = .ok (.if_icmp .eq 535, 3) := by decide +kernel
theorem dL_law_686 : decode cL_law 686 = .ok (.iconst 0, 1) := by decide +kernel
theorem dL_law_687 : decode cL_law 687 = .ok (.ireturn, 1) := by decide +kernel
theorem dL_law_688 : decode cL_law 688 = .ok (.aload_n 1, 1) := by decide +kernel
theorem dL_law_689 : decode cL_law 689 = .ok (.aload_n 0, 1) := by decide +kernel
theorem dL_law_690 : decode cL_law 690 = .ok (.iload 4, 2) := by decide +kernel
theorem dL_law_692 : decode cL_law 692 = .ok (.iconst 1, 1) := by decide +kernel
theorem dL_law_693 : decode cL_law 693 = .ok (.iadd, 1) := by decide +kernel
theorem dL_law_694 : decode cL_law 694 = .ok (.iaload, 1) := by decide +kernel
theorem dL_law_695 : decode cL_law 695 = .ok (.aload_n 0, 1) := by decide +kernel
theorem dL_law_696 : decode cL_law 696 = .ok (.iload 4, 2) := by decide +kernel
theorem dL_law_698 : decode cL_law 698 = .ok (.iconst 2, 1) := by decide +kernel
theorem dL_law_699 : decode cL_law 699 = .ok (.iadd, 1) := by decide +kernel
theorem dL_law_700 : decode cL_law 700 = .ok (.iaload, 1) := by decide +kernel
theorem dL_law_701 : decode cL_law 701 = .ok (.aload_n 3, 1) := by decide +kernel
theorem dL_law_702 : decode cL_law 702 = .ok (.invokestatic 90, 3) := by decide +kernel
theorem dL_law_705 : decode cL_law 705 = .ok (.istore 5, 2) := by decide +kernel
theorem dL_law_707 : decode cL_law 707 = .ok (.aload_n 2, 1) := by decide +kernel
theorem dL_law_708 : decode cL_law 708 = .ok (.aload_n 0, 1) := by decide +kernel
theorem dL_law_709 : decode cL_law 709 = .ok (.iload 4, 2) := by decide +kernel
theorem dL_law_711 : decode cL_law 711 = .ok (.iconst 1, 1) := by decide +kernel
theorem dL_law_712 : decode cL_law 712 = .ok (.iadd, 1) := by decide +kernel
theorem dL_law_713 : decode cL_law 713 = .ok (.iaload, 1) := by decide +kernel
theorem dL_law_714 : decode cL_law 714 = .ok (.aload_n 0, 1) := by decide +kernel
theorem dL_law_715 : decode cL_law 715 = .ok (.iload 4, 2) := by decide +kernel
theorem dL_law_717 : decode cL_law 717 = .ok (.iconst 2, 1) := by decide +kernel
theorem dL_law_718 : decode cL_law 718 = .ok (.iadd, 1) := by decide +kernel
theorem dL_law_719 : decode cL_law 719 = .ok (.iaload, 1) := by decide +kernel
theorem dL_law_720 : decode cL_law 720 = .ok (.invokevirtual 95, 3) := by decide +kernel
theorem dL_law_723 : decode cL_law 723 = .ok (.istore 6, 2) := by decide +kernel
theorem dL_law_725 : decode cL_law 725 = .ok (.aload_n 2, 1) := by decide +kernel
theorem dL_law_726 : decode cL_law 726 = .ok (.invokevirtual 96, 3) := by decide +kernel
theorem dL_law_729 : decode cL_law 729 = .ok (.iload 5, 2) := by decide +kernel
theorem dL_law_731 : decode cL_law 731 = .ok (.if_icmp .eq 5, 3) := by decide +kernel
theorem dL_law_734 : decode cL_law 734 = .ok (.iconst 0, 1) := by decide +kernel
theorem dL_law_735 : decode cL_law 735 = .ok (.ireturn, 1) := by decide +kernel
theorem dL_law_736 : decode cL_law 736 = .ok (.iload 5, 2) := by decide +kernel
theorem dL_law_738 : decode cL_law 738 = .ok (.ifCond .ne 15, 3) := by decide +kernel
theorem dL_law_741 : decode cL_law 741 = .ok (.aload_n 3, 1) := by decide +kernel
theorem dL_law_742 : decode cL_law 742 = .ok (.iconst 0, 1) := by decide +kernel
theorem dL_law_743 : decode cL_law 743 = .ok (.laload, 1) := by decide +kernel
theorem dL_law_744 : decode cL_law 744 = .ok (.iload 6, 2) := by decide +kernel
theorem dL_law_746 : decode cL_law 746 = .ok (.i2l, 1) := by decide +kernel
theorem dL_law_747 : decode cL_law 747 = .ok (.lcmp, 1) := by decide +kernel
theorem dL_law_748 : decode cL_law 748 = .ok (.ifCond .eq 5, 3) := by decide +kernel
theorem dL_law_751 : decode cL_law 751 = .ok (.iconst 0, 1) := by decide +kernel
theorem dL_law_752 : decode cL_law 752 = .ok (.ireturn, 1) := by decide +kernel
theorem dL_law_753 : decode cL_law 753 = .ok (.goto 465, 3) := by decide +kernel
theorem dL_law_756 : decode cL_law 756 = .ok (.aload_n 1, 1) := by decide +kernel
theorem dL_law_757 : decode cL_law 757 = .ok (.aload_n 0, 1) := by decide +kernel
theorem dL_law_758 : decode cL_law 758 = .ok (.iload 4, 2) := by decide +kernel
theorem dL_law_760 : decode cL_law 760 = .ok (.iconst 1, 1) := by decide +kernel
theorem dL_law_761 : decode cL_law 761 = .ok (.iadd, 1) := by decide +kernel
theorem dL_law_762 : decode cL_law 762 = .ok (.iaload, 1) := by decide +kernel
theorem dL_law_763 : decode cL_law 763 = .ok (.aload_n 0, 1) := by decide +kernel
theorem dL_law_764 : decode cL_law 764 = .ok (.iload 4, 2) := by decide +kernel
theorem dL_law_766 : decode cL_law 766 = .ok (.iconst 2, 1) := by decide +kernel
theorem dL_law_767 : decode cL_law 767 = .ok (.iadd, 1) := by decide +kernel
theorem dL_law_768 : decode cL_law 768 = .ok (.iaload, 1) := by decide +kernel
theorem dL_law_769 : decode cL_law 769 = .ok (.invokevirtual 99, 3) := by decide +kernel
theorem dL_law_772 : decode cL_law 772 = .ok (.aload_n 2, 1) := by decide +kernel
theorem dL_law_773 : decode cL_law 773 = .ok (.aload_n 0, 1) := by decide +kernel
theorem dL_law_774 : decode cL_law 774 = .ok (.iload 4, 2) := by decide +kernel
theorem dL_law_776 : decode cL_law 776 = .ok (.iconst 1, 1) := by decide +kernel
theorem dL_law_777 : decode cL_law 777 = .ok (.iadd, 1) := by decide +kernel
theorem dL_law_778 : decode cL_law 778 = .ok (.iaload, 1) := by decide +kernel
theorem dL_law_779 : decode cL_law 779 = .ok (.aload_n 0, 1) := by decide +kernel
theorem dL_law_780 : decode cL_law 780 = .ok (.iload 4, 2) := by decide +kernel
theorem dL_law_782 : decode cL_law 782 = .ok (.iconst 2, 1) := by decide +kernel
theorem dL_law_783 : decode cL_law 783 = .ok (.iadd, 1) := by decide +kernel
theorem dL_law_784 : decode cL_law 784 = .ok (.iaload, 1) := by decide +kernel
theorem dL_law_785 : decode cL_law 785 = .ok (.invokevirtual 102, 3) := by decide +kernel
theorem dL_law_788 : decode cL_law 788 = .ok (.if_icmp .eq 430, 3) := by decide +kernel
theorem dL_law_791 : decode cL_law 791 = .ok (.iconst 0, 1) := by decide +kernel
theorem dL_law_792 : decode cL_law 792 = .ok (.ireturn, 1) := by decide +kernel
theorem dL_law_793 : decode cL_law 793 = .ok (.aload_n 1, 1) := by decide +kernel
theorem dL_law_794 : decode cL_law 794 = .ok (.aload_n 0, 1) := by decide +kernel
theorem dL_law_795 : decode cL_law 795 = .ok (.iload 4, 2) := by decide +kernel
theorem dL_law_797 : decode cL_law 797 = .ok (.iconst 1, 1) := by decide +kernel
theorem dL_law_798 : decode cL_law 798 = .ok (.iadd, 1) := by decide +kernel
theorem dL_law_799 : decode cL_law 799 = .ok (.iaload, 1) := by decide +kernel
theorem dL_law_800 : decode cL_law 800 = .ok (.invokevirtual 103, 3) := by decide +kernel
theorem dL_law_803 : decode cL_law 803 = .ok (.aload_n 2, 1) := by decide +kernel
theorem dL_law_804 : decode cL_law 804 = .ok (.aload_n 0, 1) := by decide +kernel
theorem dL_law_805 : decode cL_law 805 = .ok (.iload 4, 2) := by decide +kernel
theorem dL_law_807 : decode cL_law 807 = .ok (.iconst 1, 1) := by decide +kernel
theorem dL_law_808 : decode cL_law 808 = .ok (.iadd, 1) := by decide +kernel
theorem dL_law_809 : decode cL_law 809 = .ok (.iaload, 1) := by decide +kernel
theorem dL_law_810 : decode cL_law 810 = .ok (.invokevirtual 106, 3) := by decide +kernel
theorem dL_law_813 : decode cL_law 813 = .ok (.if_icmp .eq 405, 3) := by decide +kernel
theorem dL_law_816 : decode cL_law 816 = .ok (.iconst 0, 1) := by decide +kernel
theorem dL_law_817 : decode cL_law 817 = .ok (.ireturn, 1) := by decide +kernel
theorem dL_law_818 : decode cL_law 818 = .ok (.aload_n 1, 1) := by decide +kernel
theorem dL_law_819 : decode cL_law 819 = .ok (.aload_n 0, 1) := by decide +kernel
theorem dL_law_820 : decode cL_law 820 = .ok (.iload 4, 2) := by decide +kernel
theorem dL_law_822 : decode cL_law 822 = .ok (.iconst 1, 1) := by decide +kernel
theorem dL_law_823 : decode cL_law 823 = .ok (.iadd, 1) := by decide +kernel
theorem dL_law_824 : decode cL_law 824 = .ok (.iaload, 1) := by decide +kernel
theorem dL_law_825 : decode cL_law 825 = .ok (.invokevirtual 107, 3) := by decide +kernel
theorem dL_law_828 : decode cL_law 828 = .ok (.aload_n 2, 1) := by decide +kernel
theorem dL_law_829 : decode cL_law 829 = .ok (.aload_n 0, 1) := by decide +kernel
theorem dL_law_830 : decode cL_law 830 = .ok (.iload 4, 2) := by decide +kernel
theorem dL_law_832 : decode cL_law 832 = .ok (.iconst 1, 1) := by decide +kernel
theorem dL_law_833 : decode cL_law 833 = .ok (.iadd, 1) := by decide +kernel
theorem dL_law_834 : decode cL_law 834 = .ok (.iaload, 1) := by decide +kernel
theorem dL_law_835 : decode cL_law 835 = .ok (.invokevirtual 110, 3) := by decide +kernel
theorem dL_law_838 : decode cL_law 838 = .ok (.if_icmp .eq 380, 3) := by decide +kernel
theorem dL_law_841 : decode cL_law 841 = .ok (.iconst 0, 1) := by decide +kernel
theorem dL_law_842 : decode cL_law 842 = .ok (.ireturn, 1) := by decide +kernel
theorem dL_law_843 : decode cL_law 843 = .ok (.aload_n 1, 1) := by decide +kernel
theorem dL_law_844 : decode cL_law 844 = .ok (.aload_n 0, 1) := by decide +kernel
theorem dL_law_845 : decode cL_law 845 = .ok (.iload 4, 2) := by decide +kernel
theorem dL_law_847 : decode cL_law 847 = .ok (.iconst 1, 1) := by decide +kernel
theorem dL_law_848 : decode cL_law 848 = .ok (.iadd, 1) := by decide +kernel
theorem dL_law_849 : decode cL_law 849 = .ok (.iaload, 1) := by decide +kernel
theorem dL_law_850 : decode cL_law 850 = .ok (.invokevirtual 111, 3) := by decide +kernel
theorem dL_law_853 : decode cL_law 853 = .ok (.aload_n 2, 1) := by decide +kernel
theorem dL_law_854 : decode cL_law 854 = .ok (.aload_n 0, 1) := by decide +kernel
theorem dL_law_855 : decode cL_law 855 = .ok (.iload 4, 2) := by decide +kernel
theorem dL_law_857 : decode cL_law 857 = .ok (.iconst 1, 1) := by decide +kernel
theorem dL_law_858 : decode cL_law 858 = .ok (.iadd, 1) := by decide +kernel
theorem dL_law_859 : decode cL_law 859 = .ok (.iaload, 1) := by decide +kernel
theorem dL_law_860 : decode cL_law 860 = .ok (.invokevirtual 114, 3) := by decide +kernel
theorem dL_law_863 : decode cL_law 863 = .ok (.if_icmp .eq 355, 3) := by decide +kernel
theorem dL_law_866 : decode cL_law 866 = .ok (.iconst 0, 1) := by decide +kernel
theorem dL_law_867 : decode cL_law 867 = .ok (.ireturn, 1) := by decide +kernel
theorem dL_law_868 : decode cL_law 868 = .ok (.aload_n 1, 1) := by decide +kernel
theorem dL_law_869 : decode cL_law 869 = .ok (.invokevirtual 115, 3) := by decide +kernel
theorem dL_law_872 : decode cL_law 872 = .ok (.aload_n 2, 1) := by decide +kernel
theorem dL_law_873 : decode cL_law 873 = .ok (.invokevirtual 118, 3) := by decide +kernel
theorem dL_law_876 : decode cL_law 876 = .ok (.if_icmp .eq 342, 3) := by decide +kernel
theorem dL_law_879 : decode cL_law 879 = .ok (.iconst 0, 1) := by decide +kernel
theorem dL_law_880 : decode cL_law 880 = .ok (.ireturn, 1) := by decide +kernel
theorem dL_law_881 : decode cL_law 881 = .ok (.aload_n 1, 1) := by decide +kernel
theorem dL_law_882 : decode cL_law 882 = .ok (.aload_n 0, 1) := by decide +kernel
theorem dL_law_883 : decode cL_law 883 = .ok (.iload 4, 2) := by decide +kernel
theorem dL_law_885 : decode cL_law 885 = .ok (.iconst 1, 1) := by decide +kernel
theorem dL_law_886 : decode cL_law 886 = .ok (.iadd, 1) := by decide +kernel
theorem dL_law_887 : decode cL_law 887 = .ok (.iaload, 1) := by decide +kernel
theorem dL_law_888 : decode cL_law 888 = .ok (.invokevirtual 119, 3) := by decide +kernel
theorem dL_law_891 : decode cL_law 891 = .ok (.aload_n 2, 1) := by decide +kernel
theorem dL_law_892 : decode cL_law 892 = .ok (.aload_n 0, 1) := by decide +kernel
theorem dL_law_893 : decode cL_law 893 = .ok (.iload 4, 2) := by decide +kernel
theorem dL_law_895 : decode cL_law 895 = .ok (.iconst 1, 1) := by decide +kernel
theorem dL_law_896 : decode cL_law 896 = .ok (.iadd, 1) := by decide +kernel
theorem dL_law_897 : decode cL_law 897 = .ok (.iaload, 1) := by decide +kernel
theorem dL_law_898 : decode cL_law 898 = .ok (.invokevirtual 122, 3) := by decide +kernel
theorem dL_law_901 : decode cL_law 901 = .ok (.if_icmp .eq 317, 3) := by decide +kernel
theorem dL_law_904 : decode cL_law 904 = .ok (.iconst 0, 1) := by decide +kernel
theorem dL_law_905 : decode cL_law 905 = .ok (.ireturn, 1) := by decide +kernel
theorem dL_law_906 : decode cL_law 906 = .ok (.aload_n 1, 1) := by decide +kernel
theorem dL_law_907 : decode cL_law 907 = .ok (.aload_n 0, 1) := by decide +kernel
theorem dL_law_908 : decode cL_law 908 = .ok (.iload 4, 2) := by decide +kernel
theorem dL_law_910 : decode cL_law 910 = .ok (.iconst 1, 1) := by decide +kernel
theorem dL_law_911 : decode cL_law 911 = .ok (.iadd, 1) := by decide +kernel
theorem dL_law_912 : decode cL_law 912 = .ok (.iaload, 1) := by decide +kernel
theorem dL_law_913 : decode cL_law 913 = .ok (.aload_n 0, 1) := by decide +kernel
theorem dL_law_914 : decode cL_law 914 = .ok (.iload 4, 2) := by decide +kernel
theorem dL_law_916 : decode cL_law 916 = .ok (.iconst 2, 1) := by decide +kernel
theorem dL_law_917 : decode cL_law 917 = .ok (.iadd, 1) := by decide +kernel
theorem dL_law_918 : decode cL_law 918 = .ok (.iaload, 1) := by decide +kernel
theorem dL_law_919 : decode cL_law 919 = .ok (.invokevirtual 123, 3) := by decide +kernel
theorem dL_law_922 : decode cL_law 922 = .ok (.aload_n 2, 1) := by decide +kernel
theorem dL_law_923 : decode cL_law 923 = .ok (.aload_n 0, 1) := by decide +kernel
theorem dL_law_924 : decode cL_law 924 = .ok (.iload 4, 2) := by decide +kernel
theorem dL_law_926 : decode cL_law 926 = .ok (.iconst 1, 1) := by decide +kernel
theorem dL_law_927 : decode cL_law 927 = .ok (.iadd, 1) := by decide +kernel
theorem dL_law_928 : decode cL_law 928 = .ok (.iaload, 1) := by decide +kernel
theorem dL_law_929 : decode cL_law 929 = .ok (.aload_n 0, 1) := by decide +kernel
theorem dL_law_930 : decode cL_law 930 = .ok (.iload 4, 2) := by decide +kernel
theorem dL_law_932 : decode cL_law 932 = .ok (.iconst 2, 1) := by decide +kernel
theorem dL_law_933 : decode cL_law 933 = .ok (.iadd, 1) := by decide +kernel
theorem dL_law_934 : decode cL_law 934 = .ok (.iaload, 1) := by decide +kernel
theorem dL_law_935 : decode cL_law 935 = .ok (.invokevirtual 126, 3) := by decide +kernel
theorem dL_law_938 : decode cL_law 938 = .ok (.if_icmp .eq 280, 3) := by decide +kernel
theorem dL_law_941 : decode cL_law 941 = .ok (.iconst 0, 1) := by decide +kernel
theorem dL_law_942 : decode cL_law 942 = .ok (.ireturn, 1) := by decide +kernel
theorem dL_law_943 : decode cL_law 943 = .ok (.aload_n 1, 1) := by decide +kernel
theorem dL_law_944 : decode cL_law 944 = .ok (.aload_n 0, 1) := by decide +kernel
theorem dL_law_945 : decode cL_law 945 = .ok (.iload 4, 2) := by decide +kernel
theorem dL_law_947 : decode cL_law 947 = .ok (.iconst 1, 1) := by decide +kernel
theorem dL_law_948 : decode cL_law 948 = .ok (.iadd, 1) := by decide +kernel
theorem dL_law_949 : decode cL_law 949 = .ok (.iaload, 1) := by decide +kernel
theorem dL_law_950 : decode cL_law 950 = .ok (.aload_n 0, 1) := by decide +kernel
theorem dL_law_951 : decode cL_law 951 = .ok (.iload 4, 2) := by decide +kernel
theorem dL_law_953 : decode cL_law 953 = .ok (.iconst 2, 1) := by decide +kernel
theorem dL_law_954 : decode cL_law 954 = .ok (.iadd, 1) := by decide +kernel
theorem dL_law_955 : decode cL_law 955 = .ok (.iaload, 1) := by decide +kernel
theorem dL_law_956 : decode cL_law 956 = .ok (.invokevirtual 127, 3) := by decide +kernel
theorem dL_law_959 : decode cL_law 959 = .ok (.aload_n 2, 1) := by decide +kernel
theorem dL_law_960 : decode cL_law 960 = .ok (.aload_n 0, 1) := by decide +kernel
theorem dL_law_961 : decode cL_law 961 = .ok (.iload 4, 2) := by decide +kernel
theorem dL_law_963 : decode cL_law 963 = .ok (.iconst 1, 1) := by decide +kernel
theorem dL_law_964 : decode cL_law 964 = .ok (.iadd, 1) := by decide +kernel
theorem dL_law_965 : decode cL_law 965 = .ok (.iaload, 1) := by decide +kernel
theorem dL_law_966 : decode cL_law 966 = .ok (.aload_n 0, 1) := by decide +kernel
theorem dL_law_967 : decode cL_law 967 = .ok (.iload 4, 2) := by decide +kernel
theorem dL_law_969 : decode cL_law 969 = .ok (.iconst 2, 1) := by decide +kernel
theorem dL_law_970 : decode cL_law 970 = .ok (.iadd, 1) := by decide +kernel
theorem dL_law_971 : decode cL_law 971 = .ok (.iaload, 1) := by decide +kernel
theorem dL_law_972 : decode cL_law 972 = .ok (.invokevirtual 130, 3) := by decide +kernel
theorem dL_law_975 : decode cL_law 975 = .ok (.if_icmp .eq 243, 3) := by decide +kernel
theorem dL_law_978 : decode cL_law 978 = .ok (.iconst 0, 1) := by decide +kernel
theorem dL_law_979 : decode cL_law 979 = .ok (.ireturn, 1) := by decide +kernel
theorem dL_law_980 : decode cL_law 980 = .ok (.aload_n 1, 1) := by decide +kernel
theorem dL_law_981 : decode cL_law 981 = .ok (.aload_n 0, 1) := by decide +kernel
theorem dL_law_982 : decode cL_law 982 = .ok (.iload 4, 2) := by decide +kernel
theorem dL_law_984 : decode cL_law 984 = .ok (.iconst 1, 1) := by decide +kernel
theorem dL_law_985 : decode cL_law 985 = .ok (.iadd, 1) := by decide +kernel
theorem dL_law_986 : decode cL_law 986 = .ok (.iaload, 1) := by decide +kernel
theorem dL_law_987 : decode cL_law 987 = .ok (.invokevirtual 131, 3) := by decide +kernel
theorem dL_law_990 : decode cL_law 990 = .ok (.aload_n 2, 1) := by decide +kernel
theorem dL_law_991 : decode cL_law 991 = .ok (.aload_n 0, 1) := by decide +kernel
theorem dL_law_992 : decode cL_law 992 = .ok (.iload 4, 2) := by decide +kernel
theorem dL_law_994 : decode cL_law 994 = .ok (.iconst 1, 1) := by decide +kernel
theorem dL_law_995 : decode cL_law 995 = .ok (.iadd, 1) := by decide +kernel
theorem dL_law_996 : decode cL_law 996 = .ok (.iaload, 1) := by decide +kernel
theorem dL_law_997 : decode cL_law 997 = .ok (.invokevirtual 134, 3) := by decide +kernel
theorem dL_law_1000 : decode cL_law 1000 = .ok (.if_icmp .eq 218, 3) := by decide +kernel
theorem dL_law_1003 : decode cL_law 1003 = .ok (.iconst 0, 1) := by decide +kernel
theorem dL_law_1004 : decode cL_law 1004 = .ok (.ireturn, 1) := by decide +kernel
theorem dL_law_1005 : decode cL_law 1005 = .ok (.aload_n 1, 1) := by decide +kernel
theorem dL_law_1006 : decode cL_law 1006 = .ok (.aload_n 0, 1) := by decide +kernel
theorem dL_law_1007 : decode cL_law 1007 = .ok (.iload 4, 2) := by decide +kernel
theorem dL_law_1009 : decode cL_law 1009 = .ok (.iconst 1, 1) := by decide +kernel
theorem dL_law_1010 : decode cL_law 1010 = .ok (.iadd, 1) := by decide +kernel
theorem dL_law_1011 : decode cL_law 1011 = .ok (.iaload, 1) := by decide +kernel
theorem dL_law_1012 : decode cL_law 1012 = .ok (.aload_n 0, 1) := by decide +kernel
theorem dL_law_1013 : decode cL_law 1013 = .ok (.iload 4, 2) := by decide +kernel
theorem dL_law_1015 : decode cL_law 1015 = .ok (.iconst 2, 1) := by decide +kernel
theorem dL_law_1016 : decode cL_law 1016 = .ok (.iadd, 1) := by decide +kernel
theorem dL_law_1017 : decode cL_law 1017 = .ok (.iaload, 1) := by decide +kernel
theorem dL_law_1018 : decode cL_law 1018 = .ok (.invokevirtual 135, 3) := by decide +kernel
theorem dL_law_1021 : decode cL_law 1021 = .ok (.aload_n 2, 1) := by decide +kernel
theorem dL_law_1022 : decode cL_law 1022 = .ok (.aload_n 0, 1) := by decide +kernel
theorem dL_law_1023 : decode cL_law 1023 = .ok (.iload 4, 2) := by decide +kernel
theorem dL_law_1025 : decode cL_law 1025 = .ok (.iconst 1, 1) := by decide +kernel
theorem dL_law_1026 : decode cL_law 1026 = .ok (.iadd, 1) := by decide +kernel
theorem dL_law_1027 : decode cL_law 1027 = .ok (.iaload, 1) := by decide +kernel
theorem dL_law_1028 : decode cL_law 1028 = .ok (.aload_n 0, 1) := by decide +kernel
theorem dL_law_1029 : decode cL_law 1029 = .ok (.iload 4, 2) := by decide +kernel
theorem dL_law_1031 : decode cL_law 1031 = .ok (.iconst 2, 1) := by decide +kernel
theorem dL_law_1032 : decode cL_law 1032 = .ok (.iadd, 1) := by decide +kernel
theorem dL_law_1033 : decode cL_law 1033 = .ok (.iaload, 1) := by decide +kernel
theorem dL_law_1034 : decode cL_law 1034 = .ok (.invokevirtual 138, 3) := by decide +kernel
theorem dL_law_1037 : decode cL_law 1037 = .ok (.if_icmp .eq 181, 3) := by decide +kernel
theorem dL_law_1040 : decode cL_law 1040 = .ok (.iconst 0, 1) := by decide +kernel
theorem dL_law_1041 : decode cL_law 1041 = .ok (.ireturn, 1) := by decide +kernel
theorem dL_law_1042 : decode cL_law 1042 = .ok (.aload_n 1, 1) := by decide +kernel
theorem dL_law_1043 : decode cL_law 1043 = .ok (.aload_n 0, 1) := by decide +kernel
theorem dL_law_1044 : decode cL_law 1044 = .ok (.iload 4, 2) := by decide +kernel
theorem dL_law_1046 : decode cL_law 1046 = .ok (.iconst 1, 1) := by decide +kernel
theorem dL_law_1047 : decode cL_law 1047 = .ok (.iadd, 1) := by decide +kernel
theorem dL_law_1048 : decode cL_law 1048 = .ok (.iaload, 1) := by decide +kernel
theorem dL_law_1049 : decode cL_law 1049 = .ok (.aload_n 0, 1) := by decide +kernel
theorem dL_law_1050 : decode cL_law 1050 = .ok (.iload 4, 2) := by decide +kernel
theorem dL_law_1052 : decode cL_law 1052 = .ok (.iconst 2, 1) := by decide +kernel
theorem dL_law_1053 : decode cL_law 1053 = .ok (.iadd, 1) := by decide +kernel
theorem dL_law_1054 : decode cL_law 1054 = .ok (.iaload, 1) := by decide +kernel
theorem dL_law_1055 : decode cL_law 1055 = .ok (.invokevirtual 139, 3) := by decide +kernel
theorem dL_law_1058 : decode cL_law 1058 = .ok (.aload_n 2, 1) := by decide +kernel
theorem dL_law_1059 : decode cL_law 1059 = .ok (.aload_n 0, 1) := by decide +kernel
theorem dL_law_1060 : decode cL_law 1060 = .ok (.iload 4, 2) := by decide +kernel
theorem dL_law_1062 : decode cL_law 1062 = .ok (.iconst 1, 1) := by decide +kernel
theorem dL_law_1063 : decode cL_law 1063 = .ok (.iadd, 1) := by decide +kernel
theorem dL_law_1064 : decode cL_law 1064 = .ok (.iaload, 1) := by decide +kernel
theorem dL_law_1065 : decode cL_law 1065 = .ok (.aload_n 0, 1) := by decide +kernel
theorem dL_law_1066 : decode cL_law 1066 = .ok (.iload 4, 2) := by decide +kernel
theorem dL_law_1068 : decode cL_law 1068 = .ok (.iconst 2, 1) := by decide +kernel
theorem dL_law_1069 : decode cL_law 1069 = .ok (.iadd, 1) := by decide +kernel
theorem dL_law_1070 : decode cL_law 1070 = .ok (.iaload, 1) := by decide +kernel
theorem dL_law_1071 : decode cL_law 1071 = .ok (.invokevirtual 142, 3) := by decide +kernel
theorem dL_law_1074 : decode cL_law 1074 = .ok (.if_icmp .eq 144, 3) := by decide +kernel
theorem dL_law_1077 : decode cL_law 1077 = .ok (.iconst 0, 1) := by decide +kernel
theorem dL_law_1078 : decode cL_law 1078 = .ok (.ireturn, 1) := by decide +kernel
theorem dL_law_1079 : decode cL_law 1079 = .ok (.aload_n 1, 1) := by decide +kernel
theorem dL_law_1080 : decode cL_law 1080 = .ok (.aload_n 0, 1) := by decide +kernel
theorem dL_law_1081 : decode cL_law 1081 = .ok (.iload 4, 2) := by decide +kernel
theorem dL_law_1083 : decode cL_law 1083 = .ok (.iconst 1, 1) := by decide +kernel
theorem dL_law_1084 : decode cL_law 1084 = .ok (.iadd, 1) := by decide +kernel
theorem dL_law_1085 : decode cL_law 1085 = .ok (.iaload, 1) := by decide +kernel
theorem dL_law_1086 : decode cL_law 1086 = .ok (.invokevirtual 143, 3) := by decide +kernel
theorem dL_law_1089 : decode cL_law 1089 = .ok (.aload_n 2, 1) := by decide +kernel
theorem dL_law_1090 : decode cL_law 1090 = .ok (.aload_n 0, 1) := by decide +kernel
theorem dL_law_1091 : decode cL_law 1091 = .ok (.iload 4, 2) := by decide +kernel
theorem dL_law_1093 : decode cL_law 1093 = .ok (.iconst 1, 1) := by decide +kernel
theorem dL_law_1094 : decode cL_law 1094 = .ok (.iadd, 1) := by decide +kernel
theorem dL_law_1095 : decode cL_law 1095 = .ok (.iaload, 1) := by decide +kernel
theorem dL_law_1096 : decode cL_law 1096 = .ok (.invokevirtual 146, 3) := by decide +kernel
theorem dL_law_1099 : decode cL_law 1099 = .ok (.if_icmp .eq 119, 3) := by decide +kernel
theorem dL_law_1102 : decode cL_law 1102 = .ok (.iconst 0, 1) := by decide +kernel
theorem dL_law_1103 : decode cL_law 1103 = .ok (.ireturn, 1) := by decide +kernel
theorem dL_law_1104 : decode cL_law 1104 = .ok (.aload_n 1, 1) := by decide +kernel
theorem dL_law_1105 : decode cL_law 1105 = .ok (.invokevirtual 147, 3) := by decide +kernel
theorem dL_law_1108 : decode cL_law 1108 = .ok (.aload_n 2, 1) := by decide +kernel
theorem dL_law_1109 : decode cL_law 1109 = .ok (.invokevirtual 150, 3) := by decide +kernel
theorem dL_law_1112 : decode cL_law 1112 = .ok (.if_icmp .eq 106, 3) := by decide +kernel
theorem dL_law_1115 : decode cL_law 1115 = .ok (.iconst 0, 1) := by decide +kernel
theorem dL_law_1116 : decode cL_law 1116 = .ok (.ireturn, 1) := by decide +kernel
theorem dL_law_1117 : decode cL_law 1117 = .ok (.aload_n 1, 1) := by decide +kernel
theorem dL_law_1118 : decode cL_law 1118 = .ok (.invokevirtual 151, 3) := by decide +kernel
theorem dL_law_1121 : decode cL_law 1121 = .ok (.aload_n 2, 1) := by decide +kernel
theorem dL_law_1122 : decode cL_law 1122 = .ok (.invokevirtual 154, 3) := by decide +kernel
theorem dL_law_1125 : decode cL_law 1125 = .ok (.if_icmp .eq 93, 3) := by decide +kernel
theorem dL_law_1128 : decode cL_law 1128 = .ok (.iconst 0, 1) := by decide +kernel
theorem dL_law_1129 : decode cL_law 1129 = .ok (.ireturn, 1) := by decide +kernel
theorem dL_law_1130 : decode cL_law 1130 = .ok (.aload_n 1, 1) := by decide +kernel
theorem dL_law_1131 : decode cL_law 1131 = .ok (.invokevirtual 155, 3) := by decide +kernel
theorem dL_law_1134 : decode cL_law 1134 = .ok (.aload_n 2, 1) := by decide +kernel
theorem dL_law_1135 : decode cL_law 1135 = .ok (.invokevirtual 158, 3) := by decide +kernel
theorem dL_law_1138 : decode cL_law 1138 = .ok (.if_icmp .eq 80, 3) := by decide +kernel
theorem dL_law_1141 : decode cL_law 1141 = .ok (.iconst 0, 1) := by decide +kernel
theorem dL_law_1142 : decode cL_law 1142 = .ok (.ireturn, 1) := by decide +kernel
theorem dL_law_1143 : decode cL_law 1143 = .ok (.aload_n 1, 1) := by decide +kernel
theorem dL_law_1144 : decode cL_law 1144 = .ok (.aload_n 0, 1) := by decide +kernel
theorem dL_law_1145 : decode cL_law 1145 = .ok (.iload 4, 2) := by decide +kernel
theorem dL_law_1147 : decode cL_law 1147 = .ok (.iconst 1, 1) := by decide +kernel
theorem dL_law_1148 : decode cL_law 1148 = .ok (.iadd, 1) := by decide +kernel
theorem dL_law_1149 : decode cL_law 1149 = .ok (.iaload, 1) := by decide +kernel
theorem dL_law_1150 : decode cL_law 1150 = .ok (.invokevirtual 159, 3) := by decide +kernel
theorem dL_law_1153 : decode cL_law 1153 = .ok (.aload_n 2, 1) := by decide +kernel
theorem dL_law_1154 : decode cL_law 1154 = .ok (.aload_n 0, 1) := by decide +kernel
theorem dL_law_1155 : decode cL_law 1155 = .ok (.iload 4, 2) := by decide +kernel
theorem dL_law_1157 : decode cL_law 1157 = .ok (.iconst 1, 1) := by decide +kernel
theorem dL_law_1158 : decode cL_law 1158 = .ok (.iadd, 1) := by decide +kernel
theorem dL_law_1159 : decode cL_law 1159 = .ok (.iaload, 1) := by decide +kernel
theorem dL_law_1160 : decode cL_law 1160 = .ok (.invokevirtual 162, 3) := by decide +kernel
theorem dL_law_1163 : decode cL_law 1163 = .ok (.if_icmp .eq 55, 3) := by decide +kernel
theorem dL_law_1166 : decode cL_law 1166 = .ok (.iconst 0, 1) := by decide +kernel
theorem dL_law_1167 : decode cL_law 1167 = .ok (.ireturn, 1) := by decide +kernel
theorem dL_law_1168 : decode cL_law 1168 = .ok (.aload_n 1, 1) := by decide +kernel
theorem dL_law_1169 : decode cL_law 1169 = .ok (.aload_n 0, 1) := by decide +kernel
theorem dL_law_1170 : decode cL_law 1170 = .ok (.iload 4, 2) := by decide +kernel
theorem dL_law_1172 : decode cL_law 1172 = .ok (.iconst 1, 1) := by decide +kernel
theorem dL_law_1173 : decode cL_law 1173 = .ok (.iadd, 1) := by decide +kernel
theorem dL_law_1174 : decode cL_law 1174 = .ok (.iaload, 1) := by decide +kernel
theorem dL_law_1175 : decode cL_law 1175 = .ok (.invokevirtual 163, 3) := by decide +kernel
theorem dL_law_1178 : decode cL_law 1178 = .ok (.aload_n 2, 1) := by decide +kernel
theorem dL_law_1179 : decode cL_law 1179 = .ok (.aload_n 0, 1) := by decide +kernel
theorem dL_law_1180 : decode cL_law 1180 = .ok (.iload 4, 2) := by decide +kernel
theorem dL_law_1182 : decode cL_law 1182 = .ok (.iconst 1, 1) := by decide +kernel
theorem dL_law_1183 : decode cL_law 1183 = .ok (.iadd, 1) := by decide +kernel
theorem dL_law_1184 : decode cL_law 1184 = .ok (.iaload, 1) := by decide +kernel
theorem dL_law_1185 : decode cL_law 1185 = .ok (.invokevirtual 166, 3) := by decide +kernel
theorem dL_law_1188 : decode cL_law 1188 = .ok (.if_icmp .eq 30, 3) := by decide +kernel
theorem dL_law_1191 : decode cL_law 1191 = .ok (.iconst 0, 1) := by decide +kernel
theorem dL_law_1192 : decode cL_law 1192 = .ok (.ireturn, 1) := by decide +kernel
theorem dL_law_1193 : decode cL_law 1193 = .ok (.aload_n 1, 1) := by decide +kernel
theorem dL_law_1194 : decode cL_law 1194 = .ok (.aload_n 0, 1) := by decide +kernel
theorem dL_law_1195 : decode cL_law 1195 = .ok (.iload 4, 2) := by decide +kernel
theorem dL_law_1197 : decode cL_law 1197 = .ok (.iconst 1, 1) := by decide +kernel
theorem dL_law_1198 : decode cL_law 1198 = .ok (.iadd, 1) := by decide +kernel
theorem dL_law_1199 : decode cL_law 1199 = .ok (.iaload, 1) := by decide +kernel
theorem dL_law_1200 : decode cL_law 1200 = .ok (.invokevirtual 167, 3) := by decide +kernel
theorem dL_law_1203 : decode cL_law 1203 = .ok (.aload_n 2, 1) := by decide +kernel
theorem dL_law_1204 : decode cL_law 1204 = .ok (.aload_n 0, 1) := by decide +kernel
theorem dL_law_1205 : decode cL_law 1205 = .ok (.iload 4, 2) := by decide +kernel
theorem dL_law_1207 : decode cL_law 1207 = .ok (.iconst 1, 1) := by decide +kernel
theorem dL_law_1208 : decode cL_law 1208 = .ok (.iadd, 1) := by decide +kernel
theorem dL_law_1209 : decode cL_law 1209 = .ok (.iaload, 1) := by decide +kernel
theorem dL_law_1210 : decode cL_law 1210 = .ok (.invokevirtual 170, 3) := by decide +kernel
theorem dL_law_1213 : decode cL_law 1213 = .ok (.if_icmp .eq 5, 3) := by decide +kernel
theorem dL_law_1216 : decode cL_law 1216 = .ok (.iconst 0, 1) := by decide +kernel
theorem dL_law_1217 : decode cL_law 1217 = .ok (.ireturn, 1) := by decide +kernel
theorem dL_law_1218 : decode cL_law 1218 = .ok (.iinc 4 6, 3) := by decide +kernel
theorem dL_law_1221 : decode cL_law 1221 = .ok (.goto (-1198), 3) := by decide +kernel
theorem dL_law_1224 : decode cL_law 1224 = .ok (.iconst 1, 1) := by decide +kernel
theorem dL_law_1225 : decode cL_law 1225 = .ok (.ireturn, 1) := by decide +kernel
end
section
/-! ===== the machine seen from afar: V (a frame of a method, a picture of the heap), Cm (a method's contract); nothing here speaks of one method ===== -/
/-- launch, numbers, the first cell that is ours, the heap at the start, room, kinds of rows -/
abbrev GT : Type := Launch × va_G × Nat × Heap × Nat × Nat × List (ClassId × FieldType)
abbrev gL (G : GT) : Launch := G.1
abbrev gD (G : GT) : va_G := G.2.1
abbrev gB (G : GT) : Nat := G.2.2.1
abbrev gH (G : GT) : Heap := G.2.2.2.1
abbrev gN (G : GT) : Nat := G.2.2.2.2.1
abbrev gU (G : GT) : Nat := G.2.2.2.2.2.1
abbrev gT (G : GT) : List (ClassId × FieldType) := G.2.2.2.2.2.2
/-- the slots of the cells from b on -/
def gs (H : Heap) (b : Nat) : Nat := ((H.toList.drop b).map (·.slots.size)).sum
def gBase (G : GT) (H : Heap) : Prop := gB G ≤ H.size ∧ H.size ≤ gN G ∧ gs H (gB G) ≤ gU G ∧ ∀ q, q < gB G → H[q]? = (gH G)[q]?
def gR (G : GT) (d n u : Nat) : Room := { frames := d, cells := gN G - n, slots := gU G - u, locals := 36 * d }
/-- the tables' words that hold in every later state too -/
def gTB : List Cond := lw_tbl.filter goodWord
theorem gTB_in {w : Cond} (h : w ∈ lw_tbl) (hg : goodWord w = true) : w ∈ gTB := List.mem_filter.mpr ⟨h, hg⟩
theorem gTB_ok {w : Cond} (h : w ∈ gTB) : goodWord w = true := (List.mem_filter.mp h).2
theorem gTB_sub {w : Cond} (h : w ∈ gTB) : w ∈ lw_tbl := (List.mem_filter.mp h).1
def gCtx (G : GT) (y : MethodName) (cc : ByteArray) (nL : Nat) (rt : Option FieldType) (n u : Nat) (p : Program) (s : State) (m : MethodId) (args : Array Value) (meth : Method) (c : Code) : Prop :=
  (p.tables.exec = Jvm.exec ∧ c.code = cc ∧ c.maxLocals = nL ∧ s.vm.findClass y.cls = some m.cls ∧ ∀ w ∈ gTB, w.before args s = true) ∧ meth.sig.returnType = rt ∧ meth.locks = false ∧ meth.name = y.name ∧ va_K (gD G) vwCl (gT G) s ∧ s.heap.size = n ∧ gs s.heap (gB G) = u ∧ gBase G s.heap
/-- the end of a method: it returned, the picture is a, 'post' holds -/
def gQ {α : Type} (G : GT) (Abs : α → Heap → Prop) (post : Option Value → α → Prop) : Array Value → State → Outcome → State → Prop := fun _ _ o t => ∃ (v : Option Value) (a : α), o = .returned v ∧ post v a ∧ gBase G t.heap ∧ Abs a t.heap
/-- locals by their places; none: not known -/
def lvl : Nat → List (Option Value) → List (Nat × Value)
  | _, [] => []
  | k, none :: t => lvl (k + 1) t
  | k, some v :: t => (k, v) :: lvl (k + 1) t
def V {α : Type} (G : GT) (Abs : α → Heap → Prop) (y : MethodName) (cc : ByteArray) (nL : Nat) (rt : Option FieldType) (d : Nat) (a : α) (pc : Nat) (L : List (Option Value)) (st : List Value) (post : Option Value → α → Prop) : Prop :=
  ∀ (n u : Nat) (p : Program) (e : Env) (s : State) (m : MethodId) (args : Array Value) (below : List Frame) (meth : Method) (c : Code) (H : Heap) (locs : List Loc) (ls : Array Slot),
    gCtx G y cc nL rt n u p s m args meth c → gBase G H → n ≤ H.size → gs H (gB G) = u + gs H n → Abs a H → (∀ q ∈ locs, gB G ≤ q.base) → lv_has ls nL (lvl 0 L) →
    W p (gL G) e (gR G d n u) s m args below meth c H locs (H.size - n) (gs H n) (MQ below (gQ G Abs post) args s (gN G - n) (gU G - u) (fun q => gB G ≤ q)) (F0 m pc ls st)
def Cm {α : Type} (G : GT) (Abs : α → Heap → Prop) (y : MethodName) (cc : ByteArray) (nL : Nat) (rt : Option FieldType) (d : Nat) (av : List Value) (a : α) (post : Option Value → α → Prop) : Prop :=
  ∀ n u : Nat, Met (gL G) y (Cond.code y cc nL rt :: gTB) (gR G d n u) (va_Pc av (fun U => U.heap.size = n ∧ gs U.heap (gB G) = u ∧ gBase G U.heap ∧ va_K (gD G) vwCl (gT G) U ∧ Abs a U.heap)) (gQ G Abs post) (gN G - n) (gU G - u) (fun q => gB G ≤ q)
theorem gs_self (H : Heap) : gs H H.size = 0 := by
  unfold gs
  rw [List.drop_eq_nil_of_le (by simp)]
  rfl
theorem gs_push (H : Heap) (x : Cell) {b : Nat} (h : b ≤ H.size) : gs (H.push x) b = gs H b + x.slots.size := by
  unfold gs
  rw [Array.toList_push, List.drop_append_of_le_length (by simpa using h)]
  simp
/-- two heaps of one size, cells of the same sizes -/
theorem gs_same {H H' : Heap} {b : Nat} (hz : H'.size = H.size) (h : ∀ q, b ≤ q → (H'[q]?).map (·.slots.size) = (H[q]?).map (·.slots.size)) : gs H' b = gs H b := by
  unfold gs
  congr 1
  apply List.ext_getElem?
  intro i
  rw [List.getElem?_map, List.getElem?_map, List.getElem?_drop, List.getElem?_drop]
  simpa using h (b + i) (Nat.le_add_right _ _)
theorem gs_split (H : Heap) {b n : Nat} (h : b ≤ n) : gs H b = (((H.toList.drop b).take (n - b)).map (·.slots.size)).sum + gs H n := by
  unfold gs
  rw [show H.toList.drop n = (H.toList.drop b).drop (n - b) by rw [List.drop_drop]; congr 1; omega]
  rw [← List.sum_append, ← List.map_append, List.take_append_drop]
/-- what the frame's books say of slots: ours are those at the start and the new ones -/
theorem gs_stand {p : Program} {l : Launch} {e : Env} {R : Room} {s : State} {m : MethodId} {args : Array Value} {below : List Frame} {meth : Method} {c : Code} {T : State} {locs : List Loc} {cells slots : Nat} (X : Stand p l e R s m args below meth c T locs cells slots) {b : Nat} (hb : b ≤ s.heap.size) : gs T.heap b = gs s.heap b + gs T.heap s.heap.size := by
  have hsame := X.same
  have h2 : s.heap.size ≤ T.heap.size := hsame.2.1
  have h6 := hsame.2.2.2.2.2
  rw [gs_split T.heap hb, gs_split s.heap hb, gs_self, Nat.add_zero]
  congr 2
  apply List.ext_getElem?
  intro i
  rw [List.getElem?_map, List.getElem?_map, List.getElem?_take, List.getElem?_take]
  split
  · rename_i hi
    rw [List.getElem?_drop, List.getElem?_drop]
    have hlt : b + i < s.heap.size := by omega
    obtain ⟨c', q1, q2, q3, -⟩ := h6 (b + i) _ (Array.getElem?_eq_getElem hlt)
    have q1 : T.heap[b + i]? = some c' := q1
    rw [Array.getElem?_toList, Array.getElem?_toList, q1, Array.getElem?_eq_getElem hlt]
    simp [q3]
  · rfl
/-- as few cells and slots as there are -/
theorem stand_tight {p : Program} {l : Launch} {e : Env} {R : Room} {s : State} {m : MethodId} {args : Array Value} {below : List Frame} {meth : Method} {c : Code} {T : State} {locs : List Loc} {cells slots : Nat} (X : Stand p l e R s m args below meth c T locs cells slots) : Stand p l e R s m args below meth c T locs (T.heap.size - s.heap.size) (gs T.heap s.heap.size) := by
  have hs := X.same
  have h2 : s.heap.size ≤ T.heap.size := hs.2.1
  refine { X with same := ⟨hs.1, hs.2.1, ?_, hs.2.2.2.1, Nat.le_refl _, hs.2.2.2.2.2⟩ }
  show T.heap.size ≤ s.heap.size + (T.heap.size - s.heap.size)
  omega
theorem W.mono {p : Program} {l : Launch} {e : Env} {R : Room} {s : State} {m : MethodId} {args : Array Value} {below : List Frame} {meth : Method} {c : Code} {H : Heap} {locs : List Loc} {cells slots : Nat} {Q Q' : State → Prop} {g : JFrame} (h : W p l e R s m args below meth c H locs cells slots Q g) (hq : ∀ t, Q t → Q' t) : W p l e R s m args below meth c H locs cells slots Q' g := by
  intro T hT X
  obtain ⟨t, a, b⟩ := h T hT X
  exact ⟨t, a, hq t b⟩
end
section
/-! ===== one-instruction rules of V: numbers as Int (vi z), truth as Bool (vb b) ===== -/
def vi (z : Int) : Value := .int (Int32.ofInt z)
def vb (b : Bool) : Value := .int (if b then 1 else 0)
theorem vb_vi (b : Bool) : vb b = vi (if b then 1 else 0) := by cases b <;> rfl
theorem vi_of (x : Int32) : Value.int x = vi x.toInt := by unfold vi; rw [Int32.ofInt_toInt]
theorem rI {z : Int} (h : -2147483648 ≤ z ∧ z ≤ 2147483647) : (Int32.ofInt z).toInt = z := Int32.toInt_ofInt_of_le (by omega) (by omega)
theorem rI_lt {x y : Int} (hx : -2147483648 ≤ x ∧ x ≤ 2147483647) (hy : -2147483648 ≤ y ∧ y ≤ 2147483647) : Int32.ofInt x < Int32.ofInt y ↔ x < y := by rw [Int32.lt_iff_toInt_lt, rI hx, rI hy]
theorem rI_le {x y : Int} (hx : -2147483648 ≤ x ∧ x ≤ 2147483647) (hy : -2147483648 ≤ y ∧ y ≤ 2147483647) : Int32.ofInt x ≤ Int32.ofInt y ↔ x ≤ y := by rw [Int32.le_iff_toInt_le, rI hx, rI hy]
theorem rI_eq {x y : Int} (hx : -2147483648 ≤ x ∧ x ≤ 2147483647) (hy : -2147483648 ≤ y ∧ y ≤ 2147483647) : Int32.ofInt x = Int32.ofInt y ↔ x = y := ⟨fun h => by rw [← rI hx, ← rI hy, h], fun h => by rw [h]⟩
theorem rI_0 : (0 : Int32) = Int32.ofInt 0 := rfl
theorem i32_rg (x : Int32) : -2147483648 ≤ x.toInt ∧ x.toInt ≤ 2147483647 := ⟨by have := Int32.le_toInt x; omega, by have := Int32.toInt_lt x; omega⟩
theorem mem_lvl {L : List (Option Value)} : ∀ {k j : Nat} {w : Value}, (j, w) ∈ lvl k L ↔ ∃ t, j = k + t ∧ L[t]? = some (some w) := by
  induction L with
  | nil => intro k j w; simp [lvl]
  | cons x t ih =>
    intro k j w
    cases x with
    | none =>
      simp only [lvl]
      rw [ih]
      constructor
      · rintro ⟨t', h1, h2⟩
        exact ⟨t' + 1, by omega, by simpa using h2⟩
      · rintro ⟨t', h1, h2⟩
        cases t' with
        | zero => simp at h2
        | succ t' => exact ⟨t', by omega, by simpa using h2⟩
    | some v =>
      simp only [lvl, List.mem_cons]
      rw [ih]
      constructor
      · rintro (h | ⟨t', h1, h2⟩)
        · cases h
          exact ⟨0, by omega, rfl⟩
        · exact ⟨t' + 1, by omega, by simpa using h2⟩
      · rintro ⟨t', h1, h2⟩
        cases t' with
        | zero =>
          left
          simp at h2
          rw [h2, h1]
          rfl
        | succ t' => right; exact ⟨t', by omega, by simpa using h2⟩
theorem lvl_at {ls : Array Slot} {nL : Nat} {L : List (Option Value)} (h : lv_has ls nL (lvl 0 L)) {i : Nat} {v : Value} (hi : L[i]? = some (some v)) : ls[i]? = some (.val v) := h.2.2 (i, v) (mem_lvl.mpr ⟨i, by omega, hi⟩)
/-- the local ahead of i is no long -/
def cat1 (L : List (Option Value)) (i : Nat) : Bool := match i with
  | 0 => true
  | j + 1 => match L[j]? with
    | some (some v) => v.category != 2
    | _ => true
theorem lvl_set {L : List (Option Value)} {i : Nat} {v : Value} (hc : cat1 L i = true) : ∀ q ∈ lvl 0 (L.set i (some v)), q ∈ (i, v) :: (lvl 0 L).filter (fun q => !(q.1 == i) && !(q.1 + 1 == i && q.2.category == 2)) := by
  rintro ⟨j, w⟩ hq
  obtain ⟨t, h1, h2⟩ := mem_lvl.mp hq
  rw [Nat.zero_add] at h1
  subst h1
  rw [List.getElem?_set] at h2
  by_cases hj : i = j
  · subst hj
    simp only [if_true] at h2
    split at h2
    · simp at h2
      rw [h2]
      exact List.mem_cons_self
    · cases h2
  · rw [if_neg hj] at h2
    refine List.mem_cons_of_mem _ (List.mem_filter.mpr ⟨mem_lvl.mpr ⟨j, by omega, h2⟩, ?_⟩)
    have h3 : (j == i) = false := by simp; omega
    simp only [h3, Bool.not_false, Bool.true_and, Bool.not_eq_true', Bool.and_eq_false_iff, beq_eq_false_iff_ne]
    by_cases hji : j + 1 = i
    · right
      subst hji
      simp only [cat1, h2, bne_iff_ne] at hc
      exact hc
    · exact Or.inl hji
theorem lvl_has {ls : Array Slot} {nL : Nat} {L : List (Option Value)} {i : Nat} {v : Value} (hc : cat1 L i = true) (h : lv_has ls nL ((i, v) :: (lvl 0 L).filter (fun q => !(q.1 == i) && !(q.1 + 1 == i && q.2.category == 2)))) : lv_has ls nL (lvl 0 (L.set i (some v))) := ⟨h.1, h.2.1, fun q hq => h.2.2 q (lvl_set hc q hq)⟩
section VR
variable {α : Type} {G : GT} {Abs : α → Heap → Prop} {y : MethodName} {cc : ByteArray} {nL : Nat} {rt : Option FieldType} {d : Nat} {a : α} {pc : Nat} {L : List (Option Value)} {st : List Value} {post : Option Value → α → Prop}
theorem Cm_intro {av : List Value} (hy : plainName y.cls = true) (hav : (lg_sl av).length ≤ nL) (hL : lvl 0 L = lv_args 0 av) (h : V G Abs y cc nL rt d a 0 L [] post) : Cm G Abs y cc nL rt d av a post := by
  intro n u
  refine Met.ofW (cc := cc) (maxL := nL) (ret := rt) hy rfl ?_
  intro p e s m args below meth c s₁ B hml hv
  obtain ⟨rfl, hsz, hu, hb, hK, hA⟩ := hv
  have hts := atoms_spec (ws := Cond.code y cc nL rt :: gTB) B.pre
  have hown : s.vm.findClass y.cls = some m.cls := findClass_of_methodNamed B.named
  have hC : gCtx G y cc nL rt n u p s m av.toArray meth c := ⟨⟨B.exec, B.bytes, hml, hown, fun w hw => hts w (List.mem_cons_of_mem _ hw)⟩, B.returns, B.notSynchronized, (name_of_methodNamed B.named B.method).1, hK, hsz, hu, hb⟩
  have hl := lv_entry av (n := nL) hav
  rw [lg_entry_eq]
  have g0 : gs s.heap n = 0 := by rw [← hsz, gs_self]
  have h1 := h n u p e s m av.toArray below meth c s.heap [] _ hC hb (Nat.le_of_eq hsz.symm) (by rw [hu, g0]; rfl) hA (fun q hq => by cases hq) (by rw [hL]; exact hl)
  exact W.cs (by omega) g0.symm h1
/-- another picture of the same heap -/
theorem V_lift {β : Type} {Abs2 : β → Heap → Prop} {b : β} {post2 : Option Value → β → Prop} (h : ∀ H, Abs2 b H → ∃ a : α, Abs a H ∧ V G Abs y cc nL rt d a pc L st (fun v a' => ∃ b', (∀ H, Abs a' H → Abs2 b' H) ∧ post2 v b')) : V G Abs2 y cc nL rt d b pc L st post2 := by
  intro n u p e s m args below meth c H locs ls C hB hn hg hA hl hL
  obtain ⟨a, hA1, hV⟩ := h H hA
  refine (hV n u p e s m args below meth c H locs ls C hB hn hg hA1 hl hL).mono ?_
  rintro t ⟨o, r1, r2, ⟨v, a', e1, ⟨b', q1, q2⟩, q3, q4⟩, r3⟩
  exact ⟨o, r1, r2, ⟨v, b', e1, q2, q3, q1 _ q4⟩, r3⟩
theorem V_post {post2 : Option Value → α → Prop} (h : V G Abs y cc nL rt d a pc L st post2) (hp : ∀ v b, post2 v b → post v b) : V G Abs y cc nL rt d a pc L st post := by
  intro n u p e s m args below meth c H locs ls C hB hn hg hA hl hL
  refine (h n u p e s m args below meth c H locs ls C hB hn hg hA hl hL).mono ?_
  rintro t ⟨o, r1, r2, ⟨v, a', e1, q2, q3, q4⟩, r3⟩
  exact ⟨o, r1, r2, ⟨v, a', e1, hp _ _ q2, q3, q4⟩, r3⟩
theorem s_iconst {z : Int} (q : Nat) (hd : decode cc pc = .ok (.iconst z, 1)) (hq : pc + 1 = q)  (k : V G Abs y cc nL rt d a q L (vi z :: st) post) : V G Abs y cc nL rt d a pc L (st) post := by
  subst hq
  intro n u p e s m args below meth c H locs ls C hB hn hg hA hl hL
  exact lv_iconst C.1.1 C.1.2.1 hd rfl (k n u p e s m args below meth c H locs ls C hB hn hg hA hl hL)
theorem s_bipush {z : Int} (q : Nat) (hd : decode cc pc = .ok (.bipush z, 2)) (hq : pc + 2 = q) (hz : -128 ≤ z ∧ z ≤ 127 := by decide) (k : V G Abs y cc nL rt d a q L (vi z :: st) post) : V G Abs y cc nL rt d a pc L (st) post := by
  subst hq
  intro n u p e s m args below meth c H locs ls C hB hn hg hA hl hL
  exact lv_bipush C.1.1 C.1.2.1 hd (v := Int32.ofInt z) (by apply Int32.toInt_inj.mp; rw [rI (by omega), Int8.toInt_toInt32, Int8.toInt_ofInt_of_le (by omega) (by omega)]) (k n u p e s m args below meth c H locs ls C hB hn hg hA hl hL)
theorem s_sipush {z : Int} (q : Nat) (hd : decode cc pc = .ok (.sipush z, 3)) (hq : pc + 3 = q) (hz : -32768 ≤ z ∧ z ≤ 32767 := by decide) (k : V G Abs y cc nL rt d a q L (vi z :: st) post) : V G Abs y cc nL rt d a pc L (st) post := by
  subst hq
  intro n u p e s m args below meth c H locs ls C hB hn hg hA hl hL
  exact lv_sipush C.1.1 C.1.2.1 hd (v := Int32.ofInt z) (by apply Int32.toInt_inj.mp; rw [rI (by omega), Int16.toInt_toInt32, Int16.toInt_ofInt_of_le (by omega) (by omega)]) (k n u p e s m args below meth c H locs ls C hB hn hg hA hl hL)
theorem s_lconst {z : Fin 2} (v : Int64) (q : Nat) (hd : decode cc pc = .ok (.lconst z, 1)) (hq : pc + 1 = q) (hv : Int64.ofNat (z : Nat) = v) (k : V G Abs y cc nL rt d a q L (.long v :: st) post) : V G Abs y cc nL rt d a pc L (st) post := by
  subst hq
  intro n u p e s m args below meth c H locs ls C hB hn hg hA hl hL
  exact lv_lconst C.1.1 C.1.2.1 hd hv (k n u p e s m args below meth c H locs ls C hB hn hg hA hl hL)
theorem s_ldc {i : Nat} (z : Int) {v : Int32} (q : Nat) (hd : decode cc pc = .ok (.ldc i, 2)) (hq : pc + 2 = q) (hw : Cond.constant y.cls i v ∈ gTB) (hv : Int32.ofInt z = v) (k : V G Abs y cc nL rt d a q L (vi z :: st) post) : V G Abs y cc nL rt d a pc L (st) post := by
  subst hq
  intro n u p e s m args below meth c H locs ls C hB hn hg hA hl hL
  exact (lv_ldc C.1.1 C.1.2.1 C.1.2.2.2.1 (v := Int32.ofInt z) (by rw [hv]; exact C.1.2.2.2.2 _ hw) hd) (k n u p e s m args below meth c H locs ls C hB hn hg hA hl hL)
theorem s_ldc2 {i : Nat} {v : Int64} (q : Nat) (hd : decode cc pc = .ok (.ldc2_w i, 3)) (hq : pc + 3 = q) (hw : Cond.constantLong y.cls i v ∈ gTB) (k : V G Abs y cc nL rt d a q L (.long v :: st) post) : V G Abs y cc nL rt d a pc L (st) post := by
  subst hq
  intro n u p e s m args below meth c H locs ls C hB hn hg hA hl hL
  exact (lv_ldc2 C.1.1 C.1.2.1 C.1.2.2.2.1 (C.1.2.2.2.2 _ hw) hd) (k n u p e s m args below meth c H locs ls C hB hn hg hA hl hL)
theorem s_iload_n {i : Fin 4} {z : Int} (q : Nat) (hd : decode cc pc = .ok (.iload_n i, 1)) (hq : pc + 1 = q) (hv : L[(i : Nat)]? = some (some (vi z))) (k : V G Abs y cc nL rt d a q L (vi z :: st) post) : V G Abs y cc nL rt d a pc L (st) post := by
  subst hq
  intro n u p e s m args below meth c H locs ls C hB hn hg hA hl hL
  exact lv_iload_n C.1.1 C.1.2.1 hd rfl (lvl_at hL hv) (k n u p e s m args below meth c H locs ls C hB hn hg hA hl hL)
theorem s_iload {i : Nat} {z : Int} (q : Nat) (hd : decode cc pc = .ok (.iload i, 2)) (hq : pc + 2 = q) (hv : L[i]? = some (some (vi z))) (k : V G Abs y cc nL rt d a q L (vi z :: st) post) : V G Abs y cc nL rt d a pc L (st) post := by
  subst hq
  intro n u p e s m args below meth c H locs ls C hB hn hg hA hl hL
  exact lv_iload C.1.1 C.1.2.1 hd (lvl_at hL hv) (k n u p e s m args below meth c H locs ls C hB hn hg hA hl hL)
theorem s_iload_nb {i : Fin 4} {z : Bool} (q : Nat) (hd : decode cc pc = .ok (.iload_n i, 1)) (hq : pc + 1 = q) (hv : L[(i : Nat)]? = some (some (vb z))) (k : V G Abs y cc nL rt d a q L (vb z :: st) post) : V G Abs y cc nL rt d a pc L (st) post := by
  subst hq
  intro n u p e s m args below meth c H locs ls C hB hn hg hA hl hL
  exact lv_iload_n C.1.1 C.1.2.1 hd rfl (lvl_at hL hv) (k n u p e s m args below meth c H locs ls C hB hn hg hA hl hL)
theorem s_iloadb {i : Nat} {z : Bool} (q : Nat) (hd : decode cc pc = .ok (.iload i, 2)) (hq : pc + 2 = q) (hv : L[i]? = some (some (vb z))) (k : V G Abs y cc nL rt d a q L (vb z :: st) post) : V G Abs y cc nL rt d a pc L (st) post := by
  subst hq
  intro n u p e s m args below meth c H locs ls C hB hn hg hA hl hL
  exact lv_iload C.1.1 C.1.2.1 hd (lvl_at hL hv) (k n u p e s m args below meth c H locs ls C hB hn hg hA hl hL)
theorem s_lload_n {i : Fin 4} {z : Int64} (q : Nat) (hd : decode cc pc = .ok (.lload_n i, 1)) (hq : pc + 1 = q) (hv : L[(i : Nat)]? = some (some (.long z))) (k : V G Abs y cc nL rt d a q L (.long z :: st) post) : V G Abs y cc nL rt d a pc L (st) post := by
  subst hq
  intro n u p e s m args below meth c H locs ls C hB hn hg hA hl hL
  exact lv_lload_n C.1.1 C.1.2.1 hd rfl (lvl_at hL hv) (k n u p e s m args below meth c H locs ls C hB hn hg hA hl hL)
theorem s_lload {i : Nat} {z : Int64} (q : Nat) (hd : decode cc pc = .ok (.lload i, 2)) (hq : pc + 2 = q) (hv : L[i]? = some (some (.long z))) (k : V G Abs y cc nL rt d a q L (.long z :: st) post) : V G Abs y cc nL rt d a pc L (st) post := by
  subst hq
  intro n u p e s m args below meth c H locs ls C hB hn hg hA hl hL
  exact lv_lload C.1.1 C.1.2.1 hd (lvl_at hL hv) (k n u p e s m args below meth c H locs ls C hB hn hg hA hl hL)
theorem s_aload_n {i : Fin 4} {z : Nat} (q : Nat) (hd : decode cc pc = .ok (.aload_n i, 1)) (hq : pc + 1 = q) (hv : L[(i : Nat)]? = some (some (.ref z))) (k : V G Abs y cc nL rt d a q L (.ref z :: st) post) : V G Abs y cc nL rt d a pc L (st) post := by
  subst hq
  intro n u p e s m args below meth c H locs ls C hB hn hg hA hl hL
  exact lv_aload_n C.1.1 C.1.2.1 hd rfl (lvl_at hL hv) (k n u p e s m args below meth c H locs ls C hB hn hg hA hl hL)
theorem s_aload {i : Nat} {z : Nat} (q : Nat) (hd : decode cc pc = .ok (.aload i, 2)) (hq : pc + 2 = q) (hv : L[i]? = some (some (.ref z))) (k : V G Abs y cc nL rt d a q L (.ref z :: st) post) : V G Abs y cc nL rt d a pc L (st) post := by
  subst hq
  intro n u p e s m args below meth c H locs ls C hB hn hg hA hl hL
  exact lv_aload C.1.1 C.1.2.1 hd (lvl_at hL hv) (k n u p e s m args below meth c H locs ls C hB hn hg hA hl hL)
theorem s_aload_nN {i : Fin 4} (q : Nat) (hd : decode cc pc = .ok (.aload_n i, 1)) (hq : pc + 1 = q) (hv : L[(i : Nat)]? = some (some .null)) (k : V G Abs y cc nL rt d a q L (.null :: st) post) : V G Abs y cc nL rt d a pc L (st) post := by
  subst hq
  intro n u p e s m args below meth c H locs ls C hB hn hg hA hl hL
  exact lv_aload_nN C.1.1 C.1.2.1 hd rfl (lvl_at hL hv) (k n u p e s m args below meth c H locs ls C hB hn hg hA hl hL)
theorem s_null  (q : Nat) (hd : decode cc pc = .ok (.aconst_null, 1)) (hq : pc + 1 = q)  (k : V G Abs y cc nL rt d a q L (.null :: st) post) : V G Abs y cc nL rt d a pc L (st) post := by
  subst hq
  intro n u p e s m args below meth c H locs ls C hB hn hg hA hl hL
  exact lv_null C.1.1 C.1.2.1 hd (k n u p e s m args below meth c H locs ls C hB hn hg hA hl hL)
theorem s_istore_n {i : Fin 4} {z : Int} (q : Nat) (hd : decode cc pc = .ok (.istore_n i, 1)) (hq : pc + 1 = q) (hn1 : (i : Nat) < nL) (hc : cat1 L (i : Nat) = true) (k : V G Abs y cc nL rt d a q (L.set (i : Nat) (some (vi z))) (st) post) : V G Abs y cc nL rt d a pc L (vi z :: st) post := by
  subst hq
  intro n u p e s m args below meth c H locs ls C hB hn hg hA hl hL
  exact lv_istore_n C.1.1 C.1.2.1 hd rfl hL hn1 rfl fun ls2 hL2 => k n u p e s m args below meth c H locs ls2 C hB hn hg hA hl (lvl_has hc hL2)
theorem s_istore {i : Nat} {z : Int} (q : Nat) (hd : decode cc pc = .ok (.istore i, 2)) (hq : pc + 2 = q) (hn1 : i < nL) (hc : cat1 L i = true) (k : V G Abs y cc nL rt d a q (L.set i (some (vi z))) (st) post) : V G Abs y cc nL rt d a pc L (vi z :: st) post := by
  subst hq
  intro n u p e s m args below meth c H locs ls C hB hn hg hA hl hL
  exact lv_istore C.1.1 C.1.2.1 hd hL hn1 rfl fun ls2 hL2 => k n u p e s m args below meth c H locs ls2 C hB hn hg hA hl (lvl_has hc hL2)
theorem s_istore_nb {i : Fin 4} {z : Bool} (q : Nat) (hd : decode cc pc = .ok (.istore_n i, 1)) (hq : pc + 1 = q) (hn1 : (i : Nat) < nL) (hc : cat1 L (i : Nat) = true) (k : V G Abs y cc nL rt d a q (L.set (i : Nat) (some (vb z))) (st) post) : V G Abs y cc nL rt d a pc L (vb z :: st) post := by
  subst hq
  intro n u p e s m args below meth c H locs ls C hB hn hg hA hl hL
  exact lv_istore_n C.1.1 C.1.2.1 hd rfl hL hn1 rfl fun ls2 hL2 => k n u p e s m args below meth c H locs ls2 C hB hn hg hA hl (lvl_has hc hL2)
theorem s_istoreb {i : Nat} {z : Bool} (q : Nat) (hd : decode cc pc = .ok (.istore i, 2)) (hq : pc + 2 = q) (hn1 : i < nL) (hc : cat1 L i = true) (k : V G Abs y cc nL rt d a q (L.set i (some (vb z))) (st) post) : V G Abs y cc nL rt d a pc L (vb z :: st) post := by
  subst hq
  intro n u p e s m args below meth c H locs ls C hB hn hg hA hl hL
  exact lv_istore C.1.1 C.1.2.1 hd hL hn1 rfl fun ls2 hL2 => k n u p e s m args below meth c H locs ls2 C hB hn hg hA hl (lvl_has hc hL2)
theorem s_astore_n {i : Fin 4} {z : Nat} (q : Nat) (hd : decode cc pc = .ok (.astore_n i, 1)) (hq : pc + 1 = q) (hn1 : (i : Nat) < nL) (hc : cat1 L (i : Nat) = true) (k : V G Abs y cc nL rt d a q (L.set (i : Nat) (some (.ref z))) (st) post) : V G Abs y cc nL rt d a pc L (.ref z :: st) post := by
  subst hq
  intro n u p e s m args below meth c H locs ls C hB hn hg hA hl hL
  exact lv_astore_n C.1.1 C.1.2.1 hd rfl hL hn1 rfl fun ls2 hL2 => k n u p e s m args below meth c H locs ls2 C hB hn hg hA hl (lvl_has hc hL2)
theorem s_astore {i : Nat} {z : Nat} (q : Nat) (hd : decode cc pc = .ok (.astore i, 2)) (hq : pc + 2 = q) (hn1 : i < nL) (hc : cat1 L i = true) (k : V G Abs y cc nL rt d a q (L.set i (some (.ref z))) (st) post) : V G Abs y cc nL rt d a pc L (.ref z :: st) post := by
  subst hq
  intro n u p e s m args below meth c H locs ls C hB hn hg hA hl hL
  exact lv_astore C.1.1 C.1.2.1 hd hL hn1 rfl fun ls2 hL2 => k n u p e s m args below meth c H locs ls2 C hB hn hg hA hl (lvl_has hc hL2)
theorem s_astore_nN {i : Fin 4} (q : Nat) (hd : decode cc pc = .ok (.astore_n i, 1)) (hq : pc + 1 = q) (hn1 : (i : Nat) < nL) (hc : cat1 L (i : Nat) = true) (k : V G Abs y cc nL rt d a q (L.set (i : Nat) (some (.null))) (st) post) : V G Abs y cc nL rt d a pc L (.null :: st) post := by
  subst hq
  intro n u p e s m args below meth c H locs ls C hB hn hg hA hl hL
  exact lv_astore_nN C.1.1 C.1.2.1 hd rfl hL hn1 rfl fun ls2 hL2 => k n u p e s m args below meth c H locs ls2 C hB hn hg hA hl (lvl_has hc hL2)
theorem s_iinc {i : Nat} {w z : Int} (q : Nat) (hd : decode cc pc = .ok (.iinc i w, 3)) (hq : pc + 3 = q) (hv : L[i]? = some (some (vi z))) (hn1 : i < nL) (hc : cat1 L i = true) (k : V G Abs y cc nL rt d a q (L.set i (some (vi (z + w)))) (st) post) : V G Abs y cc nL rt d a pc L (st) post := by
  subst hq
  intro n u p e s m args below meth c H locs ls C hB hn hg hA hl hL
  obtain ⟨j, hj⟩ := List.getElem?_of_mem (mem_lvl.mpr ⟨i, (Nat.zero_add i).symm, hv⟩)
  exact lv_iinc C.1.1 C.1.2.1 hd hL hj (Int32.ofInt_add z w).symm hn1 rfl fun ls2 hL2 => k n u p e s m args below meth c H locs ls2 C hB hn hg hA hl (lvl_has hc hL2)
theorem s_iadd {x z : Int} (q : Nat) (hd : decode cc pc = .ok (.iadd, 1)) (hq : pc + 1 = q) (k : V G Abs y cc nL rt d a q L (vi (x + z) :: st) post) : V G Abs y cc nL rt d a pc L (vi z :: vi x :: st) post := by
  subst hq
  intro n u p e s m args below meth c H locs ls C hB hn hg hA hl hL
  exact lv_iadd C.1.1 C.1.2.1 hd (by rw [← Int32.ofInt_add]; exact k n u p e s m args below meth c H locs ls C hB hn hg hA hl hL)
theorem s_isub {x z : Int} (q : Nat) (hd : decode cc pc = .ok (.isub, 1)) (hq : pc + 1 = q) (k : V G Abs y cc nL rt d a q L (vi (x - z) :: st) post) : V G Abs y cc nL rt d a pc L (vi z :: vi x :: st) post := by
  subst hq
  intro n u p e s m args below meth c H locs ls C hB hn hg hA hl hL
  exact lv_isub C.1.1 C.1.2.1 hd (by rw [← Int32.ofInt_sub]; exact k n u p e s m args below meth c H locs ls C hB hn hg hA hl hL)
theorem s_imul {x z : Int} (q : Nat) (hd : decode cc pc = .ok (.imul, 1)) (hq : pc + 1 = q) (k : V G Abs y cc nL rt d a q L (vi (x * z) :: st) post) : V G Abs y cc nL rt d a pc L (vi z :: vi x :: st) post := by
  subst hq
  intro n u p e s m args below meth c H locs ls C hB hn hg hA hl hL
  exact lv_imul C.1.1 C.1.2.1 hd (by rw [← Int32.ofInt_mul]; exact k n u p e s m args below meth c H locs ls C hB hn hg hA hl hL)
theorem rI_div {x z : Int} (hx : 0 ≤ x ∧ x ≤ 2147483647) (hz : 0 < z ∧ z ≤ 2147483647) : Int32.ofInt x / Int32.ofInt z = Int32.ofInt (x / z) := by
  obtain ⟨a, rfl⟩ := Int.eq_ofNat_of_zero_le hx.1
  obtain ⟨b, rfl⟩ := Int.eq_ofNat_of_zero_le (Int.le_of_lt hz.1)
  have h := pk_div (a := a) (d := b) (by omega) (by omega) (by omega)
  rw [Int32.ofInt_eq_ofNat, Int32.ofInt_eq_ofNat, ← Int.natCast_ediv, Int32.ofInt_eq_ofNat]
  exact h
theorem s_idiv {x z : Int} (q : Nat) (hd : decode cc pc = .ok (.idiv, 1)) (hq : pc + 1 = q) (hx : 0 ≤ x ∧ x ≤ 2147483647 := by omega) (hz : 0 < z ∧ z ≤ 2147483647 := by omega) (k : V G Abs y cc nL rt d a q L (vi (x / z) :: st) post) : V G Abs y cc nL rt d a pc L (vi z :: vi x :: st) post := by
  subst hq
  intro n u p e s m args below meth c H locs ls C hB hn hg hA hl hL
  exact lv_idiv C.1.1 C.1.2.1 hd (fun h => by have h2 := (rI_eq (x := z) (y := 0) (by omega) (by omega)).mp h; omega) (by rw [rI_div hx hz]; exact k n u p e s m args below meth c H locs ls C hB hn hg hA hl hL)
theorem s_irem {x z : Int} (q : Nat) (hd : decode cc pc = .ok (.irem, 1)) (hq : pc + 1 = q) (hx : 0 ≤ x ∧ x ≤ 2147483647 := by omega) (hz : 0 < z ∧ z ≤ 2147483647 := by omega) (k : V G Abs y cc nL rt d a q L (vi (x % z) :: st) post) : V G Abs y cc nL rt d a pc L (vi z :: vi x :: st) post := by
  subst hq
  intro n u p e s m args below meth c H locs ls C hB hn hg hA hl hL
  refine lv_irem C.1.1 C.1.2.1 hd (fun h => by have h2 := (rI_eq (x := z) (y := 0) (by omega) (by omega)).mp h; omega) ?_
  rw [rI_div hx hz, ← Int32.ofInt_mul, ← Int32.ofInt_sub, show x - x / z * z = x % z by rw [Int.emod_def, Int.mul_comm]]
  exact k n u p e s m args below meth c H locs ls C hB hn hg hA hl hL
theorem s_iand {x z : Int} (q : Nat) (w : Int) (hd : decode cc pc = .ok (.iand, 1)) (hq : pc + 1 = q) (hw : Int32.ofInt x &&& Int32.ofInt z = Int32.ofInt w) (k : V G Abs y cc nL rt d a q L (vi w :: st) post) : V G Abs y cc nL rt d a pc L (vi z :: vi x :: st) post := by
  subst hq
  intro n u p e s m args below meth c H locs ls C hB hn hg hA hl hL
  exact lv_iand C.1.1 C.1.2.1 hd (by rw [hw]; exact k n u p e s m args below meth c H locs ls C hB hn hg hA hl hL)
theorem s_ior {x z : Int} (q : Nat) (w : Int) (hd : decode cc pc = .ok (.ior, 1)) (hq : pc + 1 = q) (hw : Int32.ofInt x ||| Int32.ofInt z = Int32.ofInt w) (k : V G Abs y cc nL rt d a q L (vi w :: st) post) : V G Abs y cc nL rt d a pc L (vi z :: vi x :: st) post := by
  subst hq
  intro n u p e s m args below meth c H locs ls C hB hn hg hA hl hL
  exact lv_ior C.1.1 C.1.2.1 hd (by rw [hw]; exact k n u p e s m args below meth c H locs ls C hB hn hg hA hl hL)
theorem s_ixor {x z : Int} (q : Nat) (w : Int) (hd : decode cc pc = .ok (.ixor, 1)) (hq : pc + 1 = q) (hw : Int32.ofInt x ^^^ Int32.ofInt z = Int32.ofInt w) (k : V G Abs y cc nL rt d a q L (vi w :: st) post) : V G Abs y cc nL rt d a pc L (vi z :: vi x :: st) post := by
  subst hq
  intro n u p e s m args below meth c H locs ls C hB hn hg hA hl hL
  exact lv_ixor C.1.1 C.1.2.1 hd (by rw [hw]; exact k n u p e s m args below meth c H locs ls C hB hn hg hA hl hL)
theorem s_ishl {x z : Int} (q : Nat) (w : Int) (hd : decode cc pc = .ok (.ishl, 1)) (hq : pc + 1 = q) (hw : Int32.ofInt x <<< (Int32.ofInt z &&& 31) = Int32.ofInt w) (k : V G Abs y cc nL rt d a q L (vi w :: st) post) : V G Abs y cc nL rt d a pc L (vi z :: vi x :: st) post := by
  subst hq
  intro n u p e s m args below meth c H locs ls C hB hn hg hA hl hL
  exact lv_ishl C.1.1 C.1.2.1 hd (by rw [hw]; exact k n u p e s m args below meth c H locs ls C hB hn hg hA hl hL)
theorem s_ishr {x z : Int} (q : Nat) (w : Int) (hd : decode cc pc = .ok (.ishr, 1)) (hq : pc + 1 = q) (hw : Int32.ofInt x >>> (Int32.ofInt z &&& 31) = Int32.ofInt w) (k : V G Abs y cc nL rt d a q L (vi w :: st) post) : V G Abs y cc nL rt d a pc L (vi z :: vi x :: st) post := by
  subst hq
  intro n u p e s m args below meth c H locs ls C hB hn hg hA hl hL
  exact lv_ishr C.1.1 C.1.2.1 hd (by rw [hw]; exact k n u p e s m args below meth c H locs ls C hB hn hg hA hl hL)
theorem s_iushr {x z : Int} (q : Nat) (w : Int) (hd : decode cc pc = .ok (.iushr, 1)) (hq : pc + 1 = q) (hw : ((Int32.ofInt x).toUInt32 >>> ((Int32.ofInt z).toUInt32 &&& Int32.toUInt32 31)).toInt32 = Int32.ofInt w) (k : V G Abs y cc nL rt d a q L (vi w :: st) post) : V G Abs y cc nL rt d a pc L (vi z :: vi x :: st) post := by
  subst hq
  intro n u p e s m args below meth c H locs ls C hB hn hg hA hl hL
  exact lv_iushr C.1.1 C.1.2.1 hd hw (k n u p e s m args below meth c H locs ls C hB hn hg hA hl hL)
theorem s_ladd {x z : Int64} (q : Nat) (hd : decode cc pc = .ok (.ladd, 1)) (hq : pc + 1 = q) (k : V G Abs y cc nL rt d a q L (.long (x + z) :: st) post) : V G Abs y cc nL rt d a pc L (.long z :: .long x :: st) post := by
  subst hq
  intro n u p e s m args below meth c H locs ls C hB hn hg hA hl hL
  exact lv_ladd C.1.1 C.1.2.1 hd (k n u p e s m args below meth c H locs ls C hB hn hg hA hl hL)
theorem s_lmul {x z : Int64} (q : Nat) (hd : decode cc pc = .ok (.lmul, 1)) (hq : pc + 1 = q) (k : V G Abs y cc nL rt d a q L (.long (x * z) :: st) post) : V G Abs y cc nL rt d a pc L (.long z :: .long x :: st) post := by
  subst hq
  intro n u p e s m args below meth c H locs ls C hB hn hg hA hl hL
  exact lv_lmul C.1.1 C.1.2.1 hd (k n u p e s m args below meth c H locs ls C hB hn hg hA hl hL)
theorem s_land {x z : Int64} (q : Nat) (hd : decode cc pc = .ok (.land, 1)) (hq : pc + 1 = q) (k : V G Abs y cc nL rt d a q L (.long (x &&& z) :: st) post) : V G Abs y cc nL rt d a pc L (.long z :: .long x :: st) post := by
  subst hq
  intro n u p e s m args below meth c H locs ls C hB hn hg hA hl hL
  exact lv_land C.1.1 C.1.2.1 hd (k n u p e s m args below meth c H locs ls C hB hn hg hA hl hL)
theorem s_lor {x z : Int64} (q : Nat) (hd : decode cc pc = .ok (.lor, 1)) (hq : pc + 1 = q) (k : V G Abs y cc nL rt d a q L (.long (x ||| z) :: st) post) : V G Abs y cc nL rt d a pc L (.long z :: .long x :: st) post := by
  subst hq
  intro n u p e s m args below meth c H locs ls C hB hn hg hA hl hL
  exact lv_lor C.1.1 C.1.2.1 hd (k n u p e s m args below meth c H locs ls C hB hn hg hA hl hL)
theorem s_lrem {x z : Int64} (q : Nat) (hd : decode cc pc = .ok (.lrem, 1)) (hq : pc + 1 = q) (hz : ¬ z = 0) (k : V G Abs y cc nL rt d a q L (.long (x - x / z * z) :: st) post) : V G Abs y cc nL rt d a pc L (.long z :: .long x :: st) post := by
  subst hq
  intro n u p e s m args below meth c H locs ls C hB hn hg hA hl hL
  exact lv_lrem C.1.1 C.1.2.1 hd hz (k n u p e s m args below meth c H locs ls C hB hn hg hA hl hL)
theorem s_lushr {x : Int64} {z : Int} (q : Nat) (w : Int64) (hd : decode cc pc = .ok (.lushr, 1)) (hq : pc + 1 = q) (hw : (x.toUInt64 >>> ((Int32.ofInt z).toInt64.toUInt64 &&& Int64.toUInt64 63)).toInt64 = w) (k : V G Abs y cc nL rt d a q L (.long w :: st) post) : V G Abs y cc nL rt d a pc L (vi z :: .long x :: st) post := by
  subst hq
  intro n u p e s m args below meth c H locs ls C hB hn hg hA hl hL
  exact lv_lushr C.1.1 C.1.2.1 hd hw (k n u p e s m args below meth c H locs ls C hB hn hg hA hl hL)
theorem s_i2l {z : Int} (q : Nat) (w : Int64) (hd : decode cc pc = .ok (.i2l, 1)) (hq : pc + 1 = q) (hw : (Int32.ofInt z).toInt64 = w) (k : V G Abs y cc nL rt d a q L (.long w :: st) post) : V G Abs y cc nL rt d a pc L (vi z :: st) post := by
  subst hq
  intro n u p e s m args below meth c H locs ls C hB hn hg hA hl hL
  exact lv_i2l C.1.1 C.1.2.1 hd hw (k n u p e s m args below meth c H locs ls C hB hn hg hA hl hL)
theorem s_l2i {x : Int64} (q : Nat) (z : Int) (hd : decode cc pc = .ok (.l2i, 1)) (hq : pc + 1 = q) (hw : x.toInt32 = Int32.ofInt z) (k : V G Abs y cc nL rt d a q L (vi z :: st) post) : V G Abs y cc nL rt d a pc L (.long x :: st) post := by
  subst hq
  intro n u p e s m args below meth c H locs ls C hB hn hg hA hl hL
  exact lv_l2i C.1.1 C.1.2.1 hd hw (k n u p e s m args below meth c H locs ls C hB hn hg hA hl hL)
theorem s_dup {v : Value} (hv : v.category = 1 := by rfl) (q : Nat) (hd : decode cc pc = .ok (.dup, 1)) (hq : pc + 1 = q)  (k : V G Abs y cc nL rt d a q L (v :: v :: st) post) : V G Abs y cc nL rt d a pc L (v :: st) post := by
  subst hq
  intro n u p e s m args below meth c H locs ls C hB hn hg hA hl hL
  exact lv_dup C.1.1 C.1.2.1 hd hv (k n u p e s m args below meth c H locs ls C hB hn hg hA hl hL)
theorem s_pop {v : Value} (hv : v.category = 1 := by rfl) (q : Nat) (hd : decode cc pc = .ok (.pop, 1)) (hq : pc + 1 = q)  (k : V G Abs y cc nL rt d a q L (st) post) : V G Abs y cc nL rt d a pc L (v :: st) post := by
  subst hq
  intro n u p e s m args below meth c H locs ls C hB hn hg hA hl hL
  exact lv_pop C.1.1 C.1.2.1 hd hv (k n u p e s m args below meth c H locs ls C hB hn hg hA hl hL)
theorem s_dup2 {v w : Value} (hv : v.category = 1 := by rfl) (hw : w.category = 1 := by rfl) (q : Nat) (hd : decode cc pc = .ok (.dup2, 1)) (hq : pc + 1 = q)  (k : V G Abs y cc nL rt d a q L (v :: w :: v :: w :: st) post) : V G Abs y cc nL rt d a pc L (v :: w :: st) post := by
  subst hq
  intro n u p e s m args below meth c H locs ls C hB hn hg hA hl hL
  exact lv_dup2_11 C.1.1 C.1.2.1 hd hv hw (k n u p e s m args below meth c H locs ls C hB hn hg hA hl hL)
theorem s_icmp_eq {x z : Int} {off : Int} (q r : Nat) (hd : decode cc pc = .ok (.if_icmp .eq off, 3)) (hr : (pc : Int) + off = (r : Int)) (hq : pc + 3 = q) (kt : x = z → V G Abs y cc nL rt d a r L (st) post) (kf : ¬ x = z → V G Abs y cc nL rt d a q L (st) post) (hx : -2147483648 ≤ x ∧ x ≤ 2147483647 := by omega) (hz : -2147483648 ≤ z ∧ z ≤ 2147483647 := by omega) : V G Abs y cc nL rt d a pc L (vi z :: vi x :: st) post := by
  subst hq
  intro n u p e s m args below meth c H locs ls C hB hn hg hA hl hL
  exact lv_icmp_eq C.1.1 C.1.2.1 hd hr (fun h => kt ((rI_eq (x := x) (y := z) hx hz).mp h) n u p e s m args below meth c H locs ls C hB hn hg hA hl hL) (fun h => kf (fun g => h ((rI_eq (x := x) (y := z) hx hz).mpr g)) n u p e s m args below meth c H locs ls C hB hn hg hA hl hL)
theorem s_if_eq {x : Int} {off : Int} (q r : Nat) (hd : decode cc pc = .ok (.ifCond .eq off, 3)) (hr : (pc : Int) + off = (r : Int)) (hq : pc + 3 = q) (kt : x = 0 → V G Abs y cc nL rt d a r L (st) post) (kf : ¬ x = 0 → V G Abs y cc nL rt d a q L (st) post) (hx : -2147483648 ≤ x ∧ x ≤ 2147483647 := by omega) : V G Abs y cc nL rt d a pc L (vi x :: st) post := by
  subst hq
  intro n u p e s m args below meth c H locs ls C hB hn hg hA hl hL
  exact lv_if_eq C.1.1 C.1.2.1 hd hr (fun h => kt ((rI_eq (x := x) (y := 0) hx (by decide)).mp h) n u p e s m args below meth c H locs ls C hB hn hg hA hl hL) (fun h => kf (fun g => h ((rI_eq (x := x) (y := 0) hx (by decide)).mpr g)) n u p e s m args below meth c H locs ls C hB hn hg hA hl hL)
theorem s_icmp_ne {x z : Int} {off : Int} (q r : Nat) (hd : decode cc pc = .ok (.if_icmp .ne off, 3)) (hr : (pc : Int) + off = (r : Int)) (hq : pc + 3 = q) (kt : ¬ x = z → V G Abs y cc nL rt d a r L (st) post) (kf : x = z → V G Abs y cc nL rt d a q L (st) post) (hx : -2147483648 ≤ x ∧ x ≤ 2147483647 := by omega) (hz : -2147483648 ≤ z ∧ z ≤ 2147483647 := by omega) : V G Abs y cc nL rt d a pc L (vi z :: vi x :: st) post := by
  subst hq
  intro n u p e s m args below meth c H locs ls C hB hn hg hA hl hL
  exact lv_icmp_ne C.1.1 C.1.2.1 hd hr (fun h => kt (fun g => h ((rI_eq (x := x) (y := z) hx hz).mpr g)) n u p e s m args below meth c H locs ls C hB hn hg hA hl hL) (fun h => kf ((rI_eq (x := x) (y := z) hx hz).mp h) n u p e s m args below meth c H locs ls C hB hn hg hA hl hL)
theorem s_if_ne {x : Int} {off : Int} (q r : Nat) (hd : decode cc pc = .ok (.ifCond .ne off, 3)) (hr : (pc : Int) + off = (r : Int)) (hq : pc + 3 = q) (kt : ¬ x = 0 → V G Abs y cc nL rt d a r L (st) post) (kf : x = 0 → V G Abs y cc nL rt d a q L (st) post) (hx : -2147483648 ≤ x ∧ x ≤ 2147483647 := by omega) : V G Abs y cc nL rt d a pc L (vi x :: st) post := by
  subst hq
  intro n u p e s m args below meth c H locs ls C hB hn hg hA hl hL
  exact lv_if_ne C.1.1 C.1.2.1 hd hr (fun h => kt (fun g => h ((rI_eq (x := x) (y := 0) hx (by decide)).mpr g)) n u p e s m args below meth c H locs ls C hB hn hg hA hl hL) (fun h => kf ((rI_eq (x := x) (y := 0) hx (by decide)).mp h) n u p e s m args below meth c H locs ls C hB hn hg hA hl hL)
theorem s_icmp_lt {x z : Int} {off : Int} (q r : Nat) (hd : decode cc pc = .ok (.if_icmp .lt off, 3)) (hr : (pc : Int) + off = (r : Int)) (hq : pc + 3 = q) (kt : x < z → V G Abs y cc nL rt d a r L (st) post) (kf : ¬ x < z → V G Abs y cc nL rt d a q L (st) post) (hx : -2147483648 ≤ x ∧ x ≤ 2147483647 := by omega) (hz : -2147483648 ≤ z ∧ z ≤ 2147483647 := by omega) : V G Abs y cc nL rt d a pc L (vi z :: vi x :: st) post := by
  subst hq
  intro n u p e s m args below meth c H locs ls C hB hn hg hA hl hL
  exact lv_icmp_lt C.1.1 C.1.2.1 hd hr (fun h => kt ((rI_lt (x := x) (y := z) hx hz).mp h) n u p e s m args below meth c H locs ls C hB hn hg hA hl hL) (fun h => kf (fun g => h ((rI_lt (x := x) (y := z) hx hz).mpr g)) n u p e s m args below meth c H locs ls C hB hn hg hA hl hL)
theorem s_if_lt {x : Int} {off : Int} (q r : Nat) (hd : decode cc pc = .ok (.ifCond .lt off, 3)) (hr : (pc : Int) + off = (r : Int)) (hq : pc + 3 = q) (kt : x < 0 → V G Abs y cc nL rt d a r L (st) post) (kf : ¬ x < 0 → V G Abs y cc nL rt d a q L (st) post) (hx : -2147483648 ≤ x ∧ x ≤ 2147483647 := by omega) : V G Abs y cc nL rt d a pc L (vi x :: st) post := by
  subst hq
  intro n u p e s m args below meth c H locs ls C hB hn hg hA hl hL
  exact lv_if_lt C.1.1 C.1.2.1 hd hr (fun h => kt ((rI_lt (x := x) (y := 0) hx (by decide)).mp h) n u p e s m args below meth c H locs ls C hB hn hg hA hl hL) (fun h => kf (fun g => h ((rI_lt (x := x) (y := 0) hx (by decide)).mpr g)) n u p e s m args below meth c H locs ls C hB hn hg hA hl hL)
theorem s_icmp_ge {x z : Int} {off : Int} (q r : Nat) (hd : decode cc pc = .ok (.if_icmp .ge off, 3)) (hr : (pc : Int) + off = (r : Int)) (hq : pc + 3 = q) (kt : z ≤ x → V G Abs y cc nL rt d a r L (st) post) (kf : ¬ z ≤ x → V G Abs y cc nL rt d a q L (st) post) (hx : -2147483648 ≤ x ∧ x ≤ 2147483647 := by omega) (hz : -2147483648 ≤ z ∧ z ≤ 2147483647 := by omega) : V G Abs y cc nL rt d a pc L (vi z :: vi x :: st) post := by
  subst hq
  intro n u p e s m args below meth c H locs ls C hB hn hg hA hl hL
  exact lv_icmp_ge C.1.1 C.1.2.1 hd hr (fun h => kt ((rI_le (x := z) (y := x) hz hx).mp h) n u p e s m args below meth c H locs ls C hB hn hg hA hl hL) (fun h => kf (fun g => h ((rI_le (x := z) (y := x) hz hx).mpr g)) n u p e s m args below meth c H locs ls C hB hn hg hA hl hL)
theorem s_if_ge {x : Int} {off : Int} (q r : Nat) (hd : decode cc pc = .ok (.ifCond .ge off, 3)) (hr : (pc : Int) + off = (r : Int)) (hq : pc + 3 = q) (kt : 0 ≤ x → V G Abs y cc nL rt d a r L (st) post) (kf : ¬ 0 ≤ x → V G Abs y cc nL rt d a q L (st) post) (hx : -2147483648 ≤ x ∧ x ≤ 2147483647 := by omega) : V G Abs y cc nL rt d a pc L (vi x :: st) post := by
  subst hq
  intro n u p e s m args below meth c H locs ls C hB hn hg hA hl hL
  exact lv_if_ge C.1.1 C.1.2.1 hd hr (fun h => kt ((rI_le (x := 0) (y := x) (by decide) hx).mp h) n u p e s m args below meth c H locs ls C hB hn hg hA hl hL) (fun h => kf (fun g => h ((rI_le (x := 0) (y := x) (by decide) hx).mpr g)) n u p e s m args below meth c H locs ls C hB hn hg hA hl hL)
theorem s_icmp_gt {x z : Int} {off : Int} (q r : Nat) (hd : decode cc pc = .ok (.if_icmp .gt off, 3)) (hr : (pc : Int) + off = (r : Int)) (hq : pc + 3 = q) (kt : z < x → V G Abs y cc nL rt d a r L (st) post) (kf : ¬ z < x → V G Abs y cc nL rt d a q L (st) post) (hx : -2147483648 ≤ x ∧ x ≤ 2147483647 := by omega) (hz : -2147483648 ≤ z ∧ z ≤ 2147483647 := by omega) : V G Abs y cc nL rt d a pc L (vi z :: vi x :: st) post := by
  subst hq
  intro n u p e s m args below meth c H locs ls C hB hn hg hA hl hL
  exact lv_icmp_gt C.1.1 C.1.2.1 hd hr (fun h => kt ((rI_lt (x := z) (y := x) hz hx).mp h) n u p e s m args below meth c H locs ls C hB hn hg hA hl hL) (fun h => kf (fun g => h ((rI_lt (x := z) (y := x) hz hx).mpr g)) n u p e s m args below meth c H locs ls C hB hn hg hA hl hL)
theorem s_if_gt {x : Int} {off : Int} (q r : Nat) (hd : decode cc pc = .ok (.ifCond .gt off, 3)) (hr : (pc : Int) + off = (r : Int)) (hq : pc + 3 = q) (kt : 0 < x → V G Abs y cc nL rt d a r L (st) post) (kf : ¬ 0 < x → V G Abs y cc nL rt d a q L (st) post) (hx : -2147483648 ≤ x ∧ x ≤ 2147483647 := by omega) : V G Abs y cc nL rt d a pc L (vi x :: st) post := by
  subst hq
  intro n u p e s m args below meth c H locs ls C hB hn hg hA hl hL
  exact lv_if_gt C.1.1 C.1.2.1 hd hr (fun h => kt ((rI_lt (x := 0) (y := x) (by decide) hx).mp h) n u p e s m args below meth c H locs ls C hB hn hg hA hl hL) (fun h => kf (fun g => h ((rI_lt (x := 0) (y := x) (by decide) hx).mpr g)) n u p e s m args below meth c H locs ls C hB hn hg hA hl hL)
theorem s_icmp_le {x z : Int} {off : Int} (q r : Nat) (hd : decode cc pc = .ok (.if_icmp .le off, 3)) (hr : (pc : Int) + off = (r : Int)) (hq : pc + 3 = q) (kt : x ≤ z → V G Abs y cc nL rt d a r L (st) post) (kf : ¬ x ≤ z → V G Abs y cc nL rt d a q L (st) post) (hx : -2147483648 ≤ x ∧ x ≤ 2147483647 := by omega) (hz : -2147483648 ≤ z ∧ z ≤ 2147483647 := by omega) : V G Abs y cc nL rt d a pc L (vi z :: vi x :: st) post := by
  subst hq
  intro n u p e s m args below meth c H locs ls C hB hn hg hA hl hL
  exact lv_icmp_le C.1.1 C.1.2.1 hd hr (fun h => kt ((rI_le (x := x) (y := z) hx hz).mp h) n u p e s m args below meth c H locs ls C hB hn hg hA hl hL) (fun h => kf (fun g => h ((rI_le (x := x) (y := z) hx hz).mpr g)) n u p e s m args below meth c H locs ls C hB hn hg hA hl hL)
theorem s_if_le {x : Int} {off : Int} (q r : Nat) (hd : decode cc pc = .ok (.ifCond .le off, 3)) (hr : (pc : Int) + off = (r : Int)) (hq : pc + 3 = q) (kt : x ≤ 0 → V G Abs y cc nL rt d a r L (st) post) (kf : ¬ x ≤ 0 → V G Abs y cc nL rt d a q L (st) post) (hx : -2147483648 ≤ x ∧ x ≤ 2147483647 := by omega) : V G Abs y cc nL rt d a pc L (vi x :: st) post := by
  subst hq
  intro n u p e s m args below meth c H locs ls C hB hn hg hA hl hL
  exact lv_if_le C.1.1 C.1.2.1 hd hr (fun h => kt ((rI_le (x := x) (y := 0) hx (by decide)).mp h) n u p e s m args below meth c H locs ls C hB hn hg hA hl hL) (fun h => kf (fun g => h ((rI_le (x := x) (y := 0) hx (by decide)).mpr g)) n u p e s m args below meth c H locs ls C hB hn hg hA hl hL)
theorem vb_0 {b : Bool} : (if b then (1 : Int32) else 0) = 0 ↔ b = false := by cases b <;> decide
theorem s_if_eqb {x : Bool} {off : Int} (q r : Nat) (hd : decode cc pc = .ok (.ifCond .eq off, 3)) (hr : (pc : Int) + off = (r : Int)) (hq : pc + 3 = q) (kt : x = false → V G Abs y cc nL rt d a r L (st) post) (kf : x = true → V G Abs y cc nL rt d a q L (st) post) : V G Abs y cc nL rt d a pc L (vb x :: st) post := by
  subst hq
  intro n u p e s m args below meth c H locs ls C hB hn hg hA hl hL
  exact lv_if_eq C.1.1 C.1.2.1 hd hr (fun h => kt (vb_0.mp h) n u p e s m args below meth c H locs ls C hB hn hg hA hl hL) (fun h => kf (by cases x; exact absurd (vb_0.mpr rfl) h; rfl) n u p e s m args below meth c H locs ls C hB hn hg hA hl hL)
theorem s_if_neb {x : Bool} {off : Int} (q r : Nat) (hd : decode cc pc = .ok (.ifCond .ne off, 3)) (hr : (pc : Int) + off = (r : Int)) (hq : pc + 3 = q) (kt : x = true → V G Abs y cc nL rt d a r L (st) post) (kf : x = false → V G Abs y cc nL rt d a q L (st) post) : V G Abs y cc nL rt d a pc L (vb x :: st) post := by
  subst hq
  intro n u p e s m args below meth c H locs ls C hB hn hg hA hl hL
  exact lv_if_ne C.1.1 C.1.2.1 hd hr (fun h => kt (by cases x; exact absurd (vb_0.mpr rfl) h; rfl) n u p e s m args below meth c H locs ls C hB hn hg hA hl hL) (fun h => kf (by cases x; rfl; exact absurd h (by decide)) n u p e s m args below meth c H locs ls C hB hn hg hA hl hL)
theorem s_goto {off : Int} (r : Nat) (hd : decode cc pc = .ok (.goto off, 3)) (hr : (pc : Int) + off = (r : Int)) (k : V G Abs y cc nL rt d a r L (st) post) : V G Abs y cc nL rt d a pc L (st) post := by
  intro n u p e s m args below meth c H locs ls C hB hn hg hA hl hL
  exact lv_goto C.1.1 C.1.2.1 hd hr (k n u p e s m args below meth c H locs ls C hB hn hg hA hl hL)
theorem s_ifnull {z : Nat} {off : Int} (q : Nat) (hd : decode cc pc = .ok (.ifnull off, 3)) (hq : pc + 3 = q) (k : V G Abs y cc nL rt d a q L (st) post) : V G Abs y cc nL rt d a pc L (.ref z :: st) post := by
  subst hq
  intro n u p e s m args below meth c H locs ls C hB hn hg hA hl hL
  exact lv_ifnull C.1.1 C.1.2.1 hd (k n u p e s m args below meth c H locs ls C hB hn hg hA hl hL)
theorem s_ifnullN {off : Int} (r : Nat) (hd : decode cc pc = .ok (.ifnull off, 3)) (hr : (pc : Int) + off = (r : Int)) (k : V G Abs y cc nL rt d a r L (st) post) : V G Abs y cc nL rt d a pc L (.null :: st) post := by
  intro n u p e s m args below meth c H locs ls C hB hn hg hA hl hL
  exact lv_ifnullN C.1.1 C.1.2.1 hd hr (k n u p e s m args below meth c H locs ls C hB hn hg hA hl hL)
theorem s_ifnonnull {z : Nat} {off : Int} (r : Nat) (hd : decode cc pc = .ok (.ifnonnull off, 3)) (hr : (pc : Int) + off = (r : Int)) (k : V G Abs y cc nL rt d a r L (st) post) : V G Abs y cc nL rt d a pc L (.ref z :: st) post := by
  intro n u p e s m args below meth c H locs ls C hB hn hg hA hl hL
  exact lv_ifnonnull C.1.1 C.1.2.1 hd hr (k n u p e s m args below meth c H locs ls C hB hn hg hA hl hL)
theorem s_ifnonnullN {off : Int} (q : Nat) (hd : decode cc pc = .ok (.ifnonnull off, 3)) (hq : pc + 3 = q) (k : V G Abs y cc nL rt d a q L (st) post) : V G Abs y cc nL rt d a pc L (.null :: st) post := by
  subst hq
  intro n u p e s m args below meth c H locs ls C hB hn hg hA hl hL
  exact lv_ifnonnullN C.1.1 C.1.2.1 hd (k n u p e s m args below meth c H locs ls C hB hn hg hA hl hL)
theorem s_table {x : Int} {dflt lo hi : Int} {offs : Array Int} {len : Nat} (hd : decode cc pc = .ok (.tableswitch dflt lo hi offs, len)) (ki : ∀ (i : Nat) (off : Int), x = lo + (i : Int) → offs[i]? = some off → ∀ r : Nat, (pc : Int) + off = (r : Int) → V G Abs y cc nL rt d a r L (st) post) (ko : x < lo ∨ hi < x → ∀ r : Nat, (pc : Int) + dflt = (r : Int) → V G Abs y cc nL rt d a r L (st) post) (hn2 : hi = lo + ((offs.size - 1 : Nat) : Int)) (hs : 0 < offs.size) (hpos : (offs.all fun o => decide (0 ≤ (pc : Int) + o)) = true ∧ 0 ≤ (pc : Int) + dflt) (hx : -2147483648 ≤ x ∧ x ≤ 2147483647 := by omega) : V G Abs y cc nL rt d a pc L (vi x :: st) post := by
  intro n u p e s m args below meth c H locs ls C hB hn hg hA hl hL
  by_cases h : x < lo ∨ hi < x
  · obtain ⟨r, hr⟩ := Int.eq_ofNat_of_zero_le hpos.2
    exact lv_tableOut C.1.1 C.1.2.1 hd (by rw [rI hx]; exact h) hr (ko h r hr n u p e s m args below meth c H locs ls C hB hn hg hA hl hL)
  · have h1 : ¬ x < lo := fun q => h (Or.inl q)
    have h2 : ¬ hi < x := fun q => h (Or.inr q)
    obtain ⟨i, hi⟩ := Int.eq_ofNat_of_zero_le (show 0 ≤ x - lo by omega)
    have hlt : i < offs.size := by omega
    have hp := (Array.all_eq_true.mp hpos.1) i hlt
    simp only [decide_eq_true_eq] at hp
    obtain ⟨r, hr⟩ := Int.eq_ofNat_of_zero_le hp
    exact lv_tableIn C.1.1 C.1.2.1 hd (by rw [rI hx]; exact h1) (by rw [rI hx]; exact h2) (off := offs[i]) (by rw [rI hx, hi]; simp) hr (ki i _ (by omega) (by simp) r hr n u p e s m args below meth c H locs ls C hB hn hg hA hl hL)
theorem s_ireturn {z : Int} (hrt : rt = some .int) (hd : decode cc pc = .ok (.ireturn, 1)) (h : post (some (vi z)) a) : V G Abs y cc nL rt d a pc L ([vi z]) post := by
  intro n u p e s m args below meth c H locs ls C hB hn hg hA hl hL
  refine W.widen (k := gN G - n) (n := gU G - u) (by have := hB.2.1; omega) (by have := hB.2.2.1; omega) ?_
  exact W.iret C.1.1 C.1.2.1 (by rw [← hrt]; exact C.2.1) (fun t ht _ => ⟨_, a, rfl, h, by rw [ht]; exact hB, by rw [ht]; exact hA⟩) hl hd (hlocks := C.2.2.1)
theorem s_zreturn {z : Bool} (hrt : rt = some .boolean) (hd : decode cc pc = .ok (.ireturn, 1)) (h : post (some (vb z)) a) : V G Abs y cc nL rt d a pc L ([vb z]) post := by
  intro n u p e s m args below meth c H locs ls C hB hn hg hA hl hL
  refine W.widen (k := gN G - n) (n := gU G - u) (by have := hB.2.1; omega) (by have := hB.2.2.1; omega) ?_
  exact W.zret (ty := .boolean) C.1.1 C.1.2.1 (by rw [← hrt]; exact C.2.1) (by cases z <;> rfl) (fun t ht _ => ⟨_, a, rfl, h, by rw [ht]; exact hB, by rw [ht]; exact hA⟩) hl hd (hlocks := C.2.2.1)
theorem s_return (hrt : rt = none) (hd : decode cc pc = .ok (.return_, 1)) (h : post (none) a) : V G Abs y cc nL rt d a pc L ([]) post := by
  intro n u p e s m args below meth c H locs ls C hB hn hg hA hl hL
  refine W.widen (k := gN G - n) (n := gU G - u) (by have := hB.2.1; omega) (by have := hB.2.2.1; omega) ?_
  exact W.vret C.1.1 C.1.2.1 (by rw [← hrt]; exact C.2.1) (fun t ht _ => ⟨_, a, rfl, h, by rw [ht]; exact hB, by rw [ht]; exact hA⟩) hl hd (hlocks := C.2.2.1)
theorem s_areturn {v : Value} {C1 : String} (hrt : rt = some (.object C1)) (hv : v = .null ∨ ∃ x, v = .ref x) (hd : decode cc pc = .ok (.areturn, 1)) (h : post (some v) a) : V G Abs y cc nL rt d a pc L ([v]) post := by
  intro n u p e s m args below meth c H locs ls C hB hn hg hA hl hL
  refine W.widen (k := gN G - n) (n := gU G - u) (by have := hB.2.1; omega) (by have := hB.2.2.1; omega) ?_
  exact W.aret C.1.1 C.1.2.1 (by rw [← hrt]; exact C.2.1) (Or.inl ⟨_, rfl⟩) hv (fun t ht _ => ⟨_, a, rfl, h, by rw [ht]; exact hB, by rw [ht]; exact hA⟩) hl hd (hlocks := C.2.2.1)
end VR
end
