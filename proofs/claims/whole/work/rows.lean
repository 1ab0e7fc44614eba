section
-- ===== PART A: goes FIRST, ahead of the names: the tables' words, and 'selects' of the private methods out of them =====
/-- a private method of a class that the tables say can be made, by its rows of tables_1 -/
def lw_okq (q : MethodName × Nat) : Prop := (q.1.cls ≠ "java/lang/invoke/MethodHandle" ∧ q.1.cls ≠ "java/lang/invoke/VarHandle") ∧ Cond.instantiable q.1.cls q.2 ∈ tables_1 ∧ Cond.privateMethod q.1 ∈ tables_1 ∧ Cond.instanceMethod q.1 ∈ tables_1
theorem lw_p0 : lw_okq (⟨"DriftPages", "isOnTape", "(I)Z"⟩, 9) := ⟨⟨by decide +kernel, by decide +kernel⟩, List.mem_of_getElem? (i := 26) (by decide +kernel), List.mem_of_getElem? (i := 265) (by decide +kernel), List.mem_of_getElem? (i := 266) (by decide +kernel)⟩
theorem lw_p1 : lw_okq (⟨"DriftPages", "refused", "(I)I"⟩, 9) := ⟨⟨by decide +kernel, by decide +kernel⟩, List.mem_of_getElem? (i := 26) (by decide +kernel), List.mem_of_getElem? (i := 269) (by decide +kernel), List.mem_of_getElem? (i := 270) (by decide +kernel)⟩
theorem lw_p2 : lw_okq (⟨"DriftPages$Lexer", "takeLetters", "()V"⟩, 6) := ⟨⟨by decide +kernel, by decide +kernel⟩, List.mem_of_getElem? (i := 410) (by decide +kernel), List.mem_of_getElem? (i := 468) (by decide +kernel), List.mem_of_getElem? (i := 469) (by decide +kernel)⟩
theorem lw_p3 : lw_okq (⟨"DriftPages$Lexer", "takeDigits", "()V"⟩, 6) := ⟨⟨by decide +kernel, by decide +kernel⟩, List.mem_of_getElem? (i := 410) (by decide +kernel), List.mem_of_getElem? (i := 475) (by decide +kernel), List.mem_of_getElem? (i := 476) (by decide +kernel)⟩
theorem lw_p4 : lw_okq (⟨"DriftPages$Parser", "readColumns", "()Z"⟩, 4) := ⟨⟨by decide +kernel, by decide +kernel⟩, List.mem_of_getElem? (i := 404) (by decide +kernel), List.mem_of_getElem? (i := 486) (by decide +kernel), List.mem_of_getElem? (i := 487) (by decide +kernel)⟩
theorem lw_p5 : lw_okq (⟨"DriftPages$Parser", "fails", "(I)Z"⟩, 4) := ⟨⟨by decide +kernel, by decide +kernel⟩, List.mem_of_getElem? (i := 404) (by decide +kernel), List.mem_of_getElem? (i := 490) (by decide +kernel), List.mem_of_getElem? (i := 491) (by decide +kernel)⟩
theorem lw_p6 : lw_okq (⟨"DriftPages$Parser", "readColumn", "()Z"⟩, 4) := ⟨⟨by decide +kernel, by decide +kernel⟩, List.mem_of_getElem? (i := 404) (by decide +kernel), List.mem_of_getElem? (i := 494) (by decide +kernel), List.mem_of_getElem? (i := 495) (by decide +kernel)⟩
theorem lw_p7 : lw_okq (⟨"DriftPages$Parser", "readOrder", "()Z"⟩, 4) := ⟨⟨by decide +kernel, by decide +kernel⟩, List.mem_of_getElem? (i := 404) (by decide +kernel), List.mem_of_getElem? (i := 513) (by decide +kernel), List.mem_of_getElem? (i := 514) (by decide +kernel)⟩
theorem lw_p8 : lw_okq (⟨"DriftPages$Parser", "readOrdered", "()Z"⟩, 4) := ⟨⟨by decide +kernel, by decide +kernel⟩, List.mem_of_getElem? (i := 404) (by decide +kernel), List.mem_of_getElem? (i := 517) (by decide +kernel), List.mem_of_getElem? (i := 518) (by decide +kernel)⟩
theorem lw_p9 : lw_okq (⟨"DriftPages$Parser", "readRow", "()Z"⟩, 4) := ⟨⟨by decide +kernel, by decide +kernel⟩, List.mem_of_getElem? (i := 404) (by decide +kernel), List.mem_of_getElem? (i := 533) (by decide +kernel), List.mem_of_getElem? (i := 534) (by decide +kernel)⟩
theorem lw_p10 : lw_okq (⟨"DriftPages$Parser", "readValue", "(II)Z"⟩, 4) := ⟨⟨by decide +kernel, by decide +kernel⟩, List.mem_of_getElem? (i := 404) (by decide +kernel), List.mem_of_getElem? (i := 545) (by decide +kernel), List.mem_of_getElem? (i := 546) (by decide +kernel)⟩
theorem lw_p11 : lw_okq (⟨"DriftPages", "dismissReaders", "()V"⟩, 9) := ⟨⟨by decide +kernel, by decide +kernel⟩, List.mem_of_getElem? (i := 26) (by decide +kernel), List.mem_of_getElem? (i := 562) (by decide +kernel), List.mem_of_getElem? (i := 563) (by decide +kernel)⟩
theorem lw_p12 : lw_okq (⟨"DriftPages", "answered", "(I)I"⟩, 9) := ⟨⟨by decide +kernel, by decide +kernel⟩, List.mem_of_getElem? (i := 26) (by decide +kernel), List.mem_of_getElem? (i := 566) (by decide +kernel), List.mem_of_getElem? (i := 567) (by decide +kernel)⟩
theorem lw_p13 : lw_okq (⟨"DriftPages", "isColumn", "(I)Z"⟩, 9) := ⟨⟨by decide +kernel, by decide +kernel⟩, List.mem_of_getElem? (i := 26) (by decide +kernel), List.mem_of_getElem? (i := 593) (by decide +kernel), List.mem_of_getElem? (i := 594) (by decide +kernel)⟩
theorem lw_p14 : lw_okq (⟨"DriftPages", "isRow", "(I)Z"⟩, 9) := ⟨⟨by decide +kernel, by decide +kernel⟩, List.mem_of_getElem? (i := 26) (by decide +kernel), List.mem_of_getElem? (i := 605) (by decide +kernel), List.mem_of_getElem? (i := 606) (by decide +kernel)⟩
theorem lw_p15 : lw_okq (⟨"DriftPages", "refusedValue", "(I)J"⟩, 9) := ⟨⟨by decide +kernel, by decide +kernel⟩, List.mem_of_getElem? (i := 26) (by decide +kernel), List.mem_of_getElem? (i := 613) (by decide +kernel), List.mem_of_getElem? (i := 614) (by decide +kernel)⟩
def lw_privs_1 : List (MethodName × Nat) := [(⟨"DriftPages", "isOnTape", "(I)Z"⟩, 9), (⟨"DriftPages", "refused", "(I)I"⟩, 9), (⟨"DriftPages$Lexer", "takeLetters", "()V"⟩, 6), (⟨"DriftPages$Lexer", "takeDigits", "()V"⟩, 6), (⟨"DriftPages$Parser", "readColumns", "()Z"⟩, 4), (⟨"DriftPages$Parser", "fails", "(I)Z"⟩, 4), (⟨"DriftPages$Parser", "readColumn", "()Z"⟩, 4), (⟨"DriftPages$Parser", "readOrder", "()Z"⟩, 4), (⟨"DriftPages$Parser", "readOrdered", "()Z"⟩, 4), (⟨"DriftPages$Parser", "readRow", "()Z"⟩, 4), (⟨"DriftPages$Parser", "readValue", "(II)Z"⟩, 4), (⟨"DriftPages", "dismissReaders", "()V"⟩, 9), (⟨"DriftPages", "answered", "(I)I"⟩, 9), (⟨"DriftPages", "isColumn", "(I)Z"⟩, 9), (⟨"DriftPages", "isRow", "(I)Z"⟩, 9), (⟨"DriftPages", "refusedValue", "(I)J"⟩, 9)]
theorem lw_r1 : ∀ q ∈ lw_privs_1, lw_okq q := List.forall_mem_cons.mpr ⟨lw_p0, List.forall_mem_cons.mpr ⟨lw_p1, List.forall_mem_cons.mpr ⟨lw_p2, List.forall_mem_cons.mpr ⟨lw_p3, List.forall_mem_cons.mpr ⟨lw_p4, List.forall_mem_cons.mpr ⟨lw_p5, List.forall_mem_cons.mpr ⟨lw_p6, List.forall_mem_cons.mpr ⟨lw_p7, List.forall_mem_cons.mpr ⟨lw_p8, List.forall_mem_cons.mpr ⟨lw_p9, List.forall_mem_cons.mpr ⟨lw_p10, List.forall_mem_cons.mpr ⟨lw_p11, List.forall_mem_cons.mpr ⟨lw_p12, List.forall_mem_cons.mpr ⟨lw_p13, List.forall_mem_cons.mpr ⟨lw_p14, List.forall_mem_cons.mpr ⟨lw_p15, fun _ h => absurd h List.not_mem_nil⟩⟩⟩⟩⟩⟩⟩⟩⟩⟩⟩⟩⟩⟩⟩⟩
theorem lw_p16 : lw_okq (⟨"DriftPages", "answeredValue", "(J)J"⟩, 9) := ⟨⟨by decide +kernel, by decide +kernel⟩, List.mem_of_getElem? (i := 26) (by decide +kernel), List.mem_of_getElem? (i := 623) (by decide +kernel), List.mem_of_getElem? (i := 624) (by decide +kernel)⟩
theorem lw_p17 : lw_okq (⟨"DriftPages$View", "enter", "(ILDriftPages$Order;)V"⟩, 11) := ⟨⟨by decide +kernel, by decide +kernel⟩, List.mem_of_getElem? (i := 51) (by decide +kernel), List.mem_of_getElem? (i := 657) (by decide +kernel), List.mem_of_getElem? (i := 658) (by decide +kernel)⟩
theorem lw_p18 : lw_okq (⟨"DriftPages$Sieve", "meets", "(IJ)Z"⟩, 5) := ⟨⟨by decide +kernel, by decide +kernel⟩, List.mem_of_getElem? (i := 306) (by decide +kernel), List.mem_of_getElem? (i := 686) (by decide +kernel), List.mem_of_getElem? (i := 687) (by decide +kernel)⟩
theorem lw_p19 : lw_okq (⟨"DriftPages", "keyNow", "(I)LDriftPages$Bytes;"⟩, 9) := ⟨⟨by decide +kernel, by decide +kernel⟩, List.mem_of_getElem? (i := 26) (by decide +kernel), List.mem_of_getElem? (i := 702) (by decide +kernel), List.mem_of_getElem? (i := 703) (by decide +kernel)⟩
theorem lw_p20 : lw_okq (⟨"DriftPages", "answeredOrNone", "(I)I"⟩, 9) := ⟨⟨by decide +kernel, by decide +kernel⟩, List.mem_of_getElem? (i := 26) (by decide +kernel), List.mem_of_getElem? (i := 723) (by decide +kernel), List.mem_of_getElem? (i := 724) (by decide +kernel)⟩
theorem lw_p21 : lw_okq (⟨"DriftPages", "rankNow", "(I)I"⟩, 9) := ⟨⟨by decide +kernel, by decide +kernel⟩, List.mem_of_getElem? (i := 26) (by decide +kernel), List.mem_of_getElem? (i := 731) (by decide +kernel), List.mem_of_getElem? (i := 732) (by decide +kernel)⟩
theorem lw_p22 : lw_okq (⟨"DriftPages", "pageByToken", "(IZ)I"⟩, 9) := ⟨⟨by decide +kernel, by decide +kernel⟩, List.mem_of_getElem? (i := 26) (by decide +kernel), List.mem_of_getElem? (i := 785) (by decide +kernel), List.mem_of_getElem? (i := 786) (by decide +kernel)⟩
theorem lw_p23 : lw_okq (⟨"DriftPages", "troubleOfToken", "(I)I"⟩, 9) := ⟨⟨by decide +kernel, by decide +kernel⟩, List.mem_of_getElem? (i := 26) (by decide +kernel), List.mem_of_getElem? (i := 789) (by decide +kernel), List.mem_of_getElem? (i := 790) (by decide +kernel)⟩
theorem lw_p24 : lw_okq (⟨"DriftPages", "stepReader", "(IZ)I"⟩, 9) := ⟨⟨by decide +kernel, by decide +kernel⟩, List.mem_of_getElem? (i := 26) (by decide +kernel), List.mem_of_getElem? (i := 888) (by decide +kernel), List.mem_of_getElem? (i := 889) (by decide +kernel)⟩
theorem lw_p25 : lw_okq (⟨"DriftPages", "hasBegun", "(I)Z"⟩, 9) := ⟨⟨by decide +kernel, by decide +kernel⟩, List.mem_of_getElem? (i := 26) (by decide +kernel), List.mem_of_getElem? (i := 892) (by decide +kernel), List.mem_of_getElem? (i := 893) (by decide +kernel)⟩
theorem lw_p26 : lw_okq (⟨"DriftPages", "turned", "()V"⟩, 9) := ⟨⟨by decide +kernel, by decide +kernel⟩, List.mem_of_getElem? (i := 26) (by decide +kernel), List.mem_of_getElem? (i := 948) (by decide +kernel), List.mem_of_getElem? (i := 949) (by decide +kernel)⟩
theorem lw_p27 : lw_okq (⟨"DriftPages", "countReaders", "()I"⟩, 9) := ⟨⟨by decide +kernel, by decide +kernel⟩, List.mem_of_getElem? (i := 26) (by decide +kernel), List.mem_of_getElem? (i := 977) (by decide +kernel), List.mem_of_getElem? (i := 978) (by decide +kernel)⟩
theorem lw_p28 : lw_okq (⟨"java/lang/Throwable", "fillInStackTrace", "(I)Ljava/lang/Throwable;"⟩, 6) := ⟨⟨by decide +kernel, by decide +kernel⟩, List.mem_of_getElem? (i := 1034) (by decide +kernel), List.mem_of_getElem? (i := 1032) (by decide +kernel), List.mem_of_getElem? (i := 1033) (by decide +kernel)⟩
theorem lw_p29 : lw_okq (⟨"DriftPagesModel", "laysWord", "(I)V"⟩, 64) := ⟨⟨by decide +kernel, by decide +kernel⟩, List.mem_of_getElem? (i := 1064) (by decide +kernel), List.mem_of_getElem? (i := 1271) (by decide +kernel), List.mem_of_getElem? (i := 1272) (by decide +kernel)⟩
theorem lw_p30 : lw_okq (⟨"DriftPagesModel", "isRefused", "(I)Z"⟩, 64) := ⟨⟨by decide +kernel, by decide +kernel⟩, List.mem_of_getElem? (i := 1064) (by decide +kernel), List.mem_of_getElem? (i := 1282) (by decide +kernel), List.mem_of_getElem? (i := 1283) (by decide +kernel)⟩
theorem lw_p31 : lw_okq (⟨"DriftPagesModel", "readAll", "(I)Z"⟩, 64) := ⟨⟨by decide +kernel, by decide +kernel⟩, List.mem_of_getElem? (i := 1064) (by decide +kernel), List.mem_of_getElem? (i := 1286) (by decide +kernel), List.mem_of_getElem? (i := 1287) (by decide +kernel)⟩
def lw_privs_2 : List (MethodName × Nat) := [(⟨"DriftPages", "answeredValue", "(J)J"⟩, 9), (⟨"DriftPages$View", "enter", "(ILDriftPages$Order;)V"⟩, 11), (⟨"DriftPages$Sieve", "meets", "(IJ)Z"⟩, 5), (⟨"DriftPages", "keyNow", "(I)LDriftPages$Bytes;"⟩, 9), (⟨"DriftPages", "answeredOrNone", "(I)I"⟩, 9), (⟨"DriftPages", "rankNow", "(I)I"⟩, 9), (⟨"DriftPages", "pageByToken", "(IZ)I"⟩, 9), (⟨"DriftPages", "troubleOfToken", "(I)I"⟩, 9), (⟨"DriftPages", "stepReader", "(IZ)I"⟩, 9), (⟨"DriftPages", "hasBegun", "(I)Z"⟩, 9), (⟨"DriftPages", "turned", "()V"⟩, 9), (⟨"DriftPages", "countReaders", "()I"⟩, 9), (⟨"java/lang/Throwable", "fillInStackTrace", "(I)Ljava/lang/Throwable;"⟩, 6), (⟨"DriftPagesModel", "laysWord", "(I)V"⟩, 64), (⟨"DriftPagesModel", "isRefused", "(I)Z"⟩, 64), (⟨"DriftPagesModel", "readAll", "(I)Z"⟩, 64)]
theorem lw_r2 : ∀ q ∈ lw_privs_2, lw_okq q := List.forall_mem_cons.mpr ⟨lw_p16, List.forall_mem_cons.mpr ⟨lw_p17, List.forall_mem_cons.mpr ⟨lw_p18, List.forall_mem_cons.mpr ⟨lw_p19, List.forall_mem_cons.mpr ⟨lw_p20, List.forall_mem_cons.mpr ⟨lw_p21, List.forall_mem_cons.mpr ⟨lw_p22, List.forall_mem_cons.mpr ⟨lw_p23, List.forall_mem_cons.mpr ⟨lw_p24, List.forall_mem_cons.mpr ⟨lw_p25, List.forall_mem_cons.mpr ⟨lw_p26, List.forall_mem_cons.mpr ⟨lw_p27, List.forall_mem_cons.mpr ⟨lw_p28, List.forall_mem_cons.mpr ⟨lw_p29, List.forall_mem_cons.mpr ⟨lw_p30, List.forall_mem_cons.mpr ⟨lw_p31, fun _ h => absurd h List.not_mem_nil⟩⟩⟩⟩⟩⟩⟩⟩⟩⟩⟩⟩⟩⟩⟩⟩
theorem lw_p32 : lw_okq (⟨"DriftPagesModel", "goesOn", "()V"⟩, 64) := ⟨⟨by decide +kernel, by decide +kernel⟩, List.mem_of_getElem? (i := 1064) (by decide +kernel), List.mem_of_getElem? (i := 1290) (by decide +kernel), List.mem_of_getElem? (i := 1291) (by decide +kernel)⟩
theorem lw_p33 : lw_okq (⟨"DriftPagesModel", "see", "(I)I"⟩, 64) := ⟨⟨by decide +kernel, by decide +kernel⟩, List.mem_of_getElem? (i := 1064) (by decide +kernel), List.mem_of_getElem? (i := 1294) (by decide +kernel), List.mem_of_getElem? (i := 1295) (by decide +kernel)⟩
theorem lw_p34 : lw_okq (⟨"DriftPagesModel", "readLine", "()Z"⟩, 64) := ⟨⟨by decide +kernel, by decide +kernel⟩, List.mem_of_getElem? (i := 1064) (by decide +kernel), List.mem_of_getElem? (i := 1302) (by decide +kernel), List.mem_of_getElem? (i := 1303) (by decide +kernel)⟩
theorem lw_p35 : lw_okq (⟨"DriftPagesModel", "isWord", "(Ljava/lang/String;)Z"⟩, 64) := ⟨⟨by decide +kernel, by decide +kernel⟩, List.mem_of_getElem? (i := 1064) (by decide +kernel), List.mem_of_getElem? (i := 1307) (by decide +kernel), List.mem_of_getElem? (i := 1308) (by decide +kernel)⟩
theorem lw_p36 : lw_okq (⟨"DriftPagesModel", "readTable", "()Z"⟩, 64) := ⟨⟨by decide +kernel, by decide +kernel⟩, List.mem_of_getElem? (i := 1064) (by decide +kernel), List.mem_of_getElem? (i := 1359) (by decide +kernel), List.mem_of_getElem? (i := 1360) (by decide +kernel)⟩
theorem lw_p37 : lw_okq (⟨"DriftPagesModel", "errs", "(I)Z"⟩, 64) := ⟨⟨by decide +kernel, by decide +kernel⟩, List.mem_of_getElem? (i := 1064) (by decide +kernel), List.mem_of_getElem? (i := 1363) (by decide +kernel), List.mem_of_getElem? (i := 1364) (by decide +kernel)⟩
theorem lw_p38 : lw_okq (⟨"DriftPagesModel", "readColumn", "()Z"⟩, 64) := ⟨⟨by decide +kernel, by decide +kernel⟩, List.mem_of_getElem? (i := 1064) (by decide +kernel), List.mem_of_getElem? (i := 1367) (by decide +kernel), List.mem_of_getElem? (i := 1368) (by decide +kernel)⟩
theorem lw_p39 : lw_okq (⟨"DriftPagesModel", "columnHere", "()I"⟩, 64) := ⟨⟨by decide +kernel, by decide +kernel⟩, List.mem_of_getElem? (i := 1064) (by decide +kernel), List.mem_of_getElem? (i := 1371) (by decide +kernel), List.mem_of_getElem? (i := 1372) (by decide +kernel)⟩
theorem lw_p40 : lw_okq (⟨"DriftPagesModel", "spelt", "()J"⟩, 64) := ⟨⟨by decide +kernel, by decide +kernel⟩, List.mem_of_getElem? (i := 1064) (by decide +kernel), List.mem_of_getElem? (i := 1375) (by decide +kernel), List.mem_of_getElem? (i := 1376) (by decide +kernel)⟩
theorem lw_p41 : lw_okq (⟨"DriftPagesModel", "readOrders", "()Z"⟩, 64) := ⟨⟨by decide +kernel, by decide +kernel⟩, List.mem_of_getElem? (i := 1064) (by decide +kernel), List.mem_of_getElem? (i := 1383) (by decide +kernel), List.mem_of_getElem? (i := 1384) (by decide +kernel)⟩
theorem lw_p42 : lw_okq (⟨"DriftPagesModel", "readOne", "()Z"⟩, 64) := ⟨⟨by decide +kernel, by decide +kernel⟩, List.mem_of_getElem? (i := 1064) (by decide +kernel), List.mem_of_getElem? (i := 1387) (by decide +kernel), List.mem_of_getElem? (i := 1388) (by decide +kernel)⟩
theorem lw_p43 : lw_okq (⟨"DriftPagesModel", "readRow", "()Z"⟩, 64) := ⟨⟨by decide +kernel, by decide +kernel⟩, List.mem_of_getElem? (i := 1064) (by decide +kernel), List.mem_of_getElem? (i := 1395) (by decide +kernel), List.mem_of_getElem? (i := 1396) (by decide +kernel)⟩
theorem lw_p44 : lw_okq (⟨"DriftPagesModel", "readValue", "(I)Z"⟩, 64) := ⟨⟨by decide +kernel, by decide +kernel⟩, List.mem_of_getElem? (i := 1064) (by decide +kernel), List.mem_of_getElem? (i := 1399) (by decide +kernel), List.mem_of_getElem? (i := 1400) (by decide +kernel)⟩
theorem lw_p45 : lw_okq (⟨"DriftPagesModel", "no", "(I)I"⟩, 64) := ⟨⟨by decide +kernel, by decide +kernel⟩, List.mem_of_getElem? (i := 1064) (by decide +kernel), List.mem_of_getElem? (i := 1405) (by decide +kernel), List.mem_of_getElem? (i := 1406) (by decide +kernel)⟩
theorem lw_p46 : lw_okq (⟨"DriftPagesModel", "begins", "()V"⟩, 64) := ⟨⟨by decide +kernel, by decide +kernel⟩, List.mem_of_getElem? (i := 1064) (by decide +kernel), List.mem_of_getElem? (i := 1409) (by decide +kernel), List.mem_of_getElem? (i := 1410) (by decide +kernel)⟩
theorem lw_p47 : lw_okq (⟨"DriftPagesModel", "nobodyReads", "()V"⟩, 64) := ⟨⟨by decide +kernel, by decide +kernel⟩, List.mem_of_getElem? (i := 1064) (by decide +kernel), List.mem_of_getElem? (i := 1413) (by decide +kernel), List.mem_of_getElem? (i := 1414) (by decide +kernel)⟩
def lw_privs_3 : List (MethodName × Nat) := [(⟨"DriftPagesModel", "goesOn", "()V"⟩, 64), (⟨"DriftPagesModel", "see", "(I)I"⟩, 64), (⟨"DriftPagesModel", "readLine", "()Z"⟩, 64), (⟨"DriftPagesModel", "isWord", "(Ljava/lang/String;)Z"⟩, 64), (⟨"DriftPagesModel", "readTable", "()Z"⟩, 64), (⟨"DriftPagesModel", "errs", "(I)Z"⟩, 64), (⟨"DriftPagesModel", "readColumn", "()Z"⟩, 64), (⟨"DriftPagesModel", "columnHere", "()I"⟩, 64), (⟨"DriftPagesModel", "spelt", "()J"⟩, 64), (⟨"DriftPagesModel", "readOrders", "()Z"⟩, 64), (⟨"DriftPagesModel", "readOne", "()Z"⟩, 64), (⟨"DriftPagesModel", "readRow", "()Z"⟩, 64), (⟨"DriftPagesModel", "readValue", "(I)Z"⟩, 64), (⟨"DriftPagesModel", "no", "(I)I"⟩, 64), (⟨"DriftPagesModel", "begins", "()V"⟩, 64), (⟨"DriftPagesModel", "nobodyReads", "()V"⟩, 64)]
theorem lw_r3 : ∀ q ∈ lw_privs_3, lw_okq q := List.forall_mem_cons.mpr ⟨lw_p32, List.forall_mem_cons.mpr ⟨lw_p33, List.forall_mem_cons.mpr ⟨lw_p34, List.forall_mem_cons.mpr ⟨lw_p35, List.forall_mem_cons.mpr ⟨lw_p36, List.forall_mem_cons.mpr ⟨lw_p37, List.forall_mem_cons.mpr ⟨lw_p38, List.forall_mem_cons.mpr ⟨lw_p39, List.forall_mem_cons.mpr ⟨lw_p40, List.forall_mem_cons.mpr ⟨lw_p41, List.forall_mem_cons.mpr ⟨lw_p42, List.forall_mem_cons.mpr ⟨lw_p43, List.forall_mem_cons.mpr ⟨lw_p44, List.forall_mem_cons.mpr ⟨lw_p45, List.forall_mem_cons.mpr ⟨lw_p46, List.forall_mem_cons.mpr ⟨lw_p47, fun _ h => absurd h List.not_mem_nil⟩⟩⟩⟩⟩⟩⟩⟩⟩⟩⟩⟩⟩⟩⟩⟩
theorem lw_p48 : lw_okq (⟨"DriftPagesModel", "thereMany", "()I"⟩, 64) := ⟨⟨by decide +kernel, by decide +kernel⟩, List.mem_of_getElem? (i := 1064) (by decide +kernel), List.mem_of_getElem? (i := 1432) (by decide +kernel), List.mem_of_getElem? (i := 1433) (by decide +kernel)⟩
theorem lw_p49 : lw_okq (⟨"DriftPagesModel", "isThen", "(II)Z"⟩, 64) := ⟨⟨by decide +kernel, by decide +kernel⟩, List.mem_of_getElem? (i := 1064) (by decide +kernel), List.mem_of_getElem? (i := 1436) (by decide +kernel), List.mem_of_getElem? (i := 1437) (by decide +kernel)⟩
theorem lw_p50 : lw_okq (⟨"DriftPagesModel", "earliest", "()I"⟩, 64) := ⟨⟨by decide +kernel, by decide +kernel⟩, List.mem_of_getElem? (i := 1064) (by decide +kernel), List.mem_of_getElem? (i := 1444) (by decide +kernel), List.mem_of_getElem? (i := 1445) (by decide +kernel)⟩
theorem lw_p51 : lw_okq (⟨"DriftPagesModel", "isColumn", "(I)Z"⟩, 64) := ⟨⟨by decide +kernel, by decide +kernel⟩, List.mem_of_getElem? (i := 1064) (by decide +kernel), List.mem_of_getElem? (i := 1452) (by decide +kernel), List.mem_of_getElem? (i := 1453) (by decide +kernel)⟩
theorem lw_p52 : lw_okq (⟨"DriftPagesModel", "isNow", "(I)Z"⟩, 64) := ⟨⟨by decide +kernel, by decide +kernel⟩, List.mem_of_getElem? (i := 1064) (by decide +kernel), List.mem_of_getElem? (i := 1465) (by decide +kernel), List.mem_of_getElem? (i := 1466) (by decide +kernel)⟩
theorem lw_p53 : lw_okq (⟨"DriftPagesModel", "valueThen", "(III)J"⟩, 64) := ⟨⟨by decide +kernel, by decide +kernel⟩, List.mem_of_getElem? (i := 1064) (by decide +kernel), List.mem_of_getElem? (i := 1469) (by decide +kernel), List.mem_of_getElem? (i := 1470) (by decide +kernel)⟩
theorem lw_p54 : lw_okq (⟨"DriftPagesModel", "canView", "(I)Z"⟩, 64) := ⟨⟨by decide +kernel, by decide +kernel⟩, List.mem_of_getElem? (i := 1064) (by decide +kernel), List.mem_of_getElem? (i := 1477) (by decide +kernel), List.mem_of_getElem? (i := 1478) (by decide +kernel)⟩
theorem lw_p55 : lw_okq (⟨"DriftPagesModel", "laysKey", "(II)V"⟩, 64) := ⟨⟨by decide +kernel, by decide +kernel⟩, List.mem_of_getElem? (i := 1064) (by decide +kernel), List.mem_of_getElem? (i := 1485) (by decide +kernel), List.mem_of_getElem? (i := 1486) (by decide +kernel)⟩
theorem lw_p56 : lw_okq (⟨"DriftPagesModel", "laysPart", "(IJ)V"⟩, 64) := ⟨⟨by decide +kernel, by decide +kernel⟩, List.mem_of_getElem? (i := 1064) (by decide +kernel), List.mem_of_getElem? (i := 1489) (by decide +kernel), List.mem_of_getElem? (i := 1490) (by decide +kernel)⟩
theorem lw_p57 : lw_okq (⟨"DriftPagesModel", "laysByte", "(IZ)V"⟩, 64) := ⟨⟨by decide +kernel, by decide +kernel⟩, List.mem_of_getElem? (i := 1064) (by decide +kernel), List.mem_of_getElem? (i := 1493) (by decide +kernel), List.mem_of_getElem? (i := 1494) (by decide +kernel)⟩
theorem lw_p58 : lw_okq (⟨"DriftPagesModel", "aheadOf", "(I)I"⟩, 64) := ⟨⟨by decide +kernel, by decide +kernel⟩, List.mem_of_getElem? (i := 1064) (by decide +kernel), List.mem_of_getElem? (i := 1507) (by decide +kernel), List.mem_of_getElem? (i := 1508) (by decide +kernel)⟩
theorem lw_p59 : lw_okq (⟨"DriftPagesModel", "marks", "()V"⟩, 64) := ⟨⟨by decide +kernel, by decide +kernel⟩, List.mem_of_getElem? (i := 1064) (by decide +kernel), List.mem_of_getElem? (i := 1511) (by decide +kernel), List.mem_of_getElem? (i := 1512) (by decide +kernel)⟩
theorem lw_p60 : lw_okq (⟨"DriftPagesModel", "compared", "()I"⟩, 64) := ⟨⟨by decide +kernel, by decide +kernel⟩, List.mem_of_getElem? (i := 1064) (by decide +kernel), List.mem_of_getElem? (i := 1515) (by decide +kernel), List.mem_of_getElem? (i := 1516) (by decide +kernel)⟩
theorem lw_p61 : lw_okq (⟨"DriftPagesModel", "canHave", "(IJZ)Z"⟩, 64) := ⟨⟨by decide +kernel, by decide +kernel⟩, List.mem_of_getElem? (i := 1064) (by decide +kernel), List.mem_of_getElem? (i := 1532) (by decide +kernel), List.mem_of_getElem? (i := 1533) (by decide +kernel)⟩
theorem lw_p62 : lw_okq (⟨"DriftPagesModel", "turned", "()V"⟩, 64) := ⟨⟨by decide +kernel, by decide +kernel⟩, List.mem_of_getElem? (i := 1064) (by decide +kernel), List.mem_of_getElem? (i := 1538) (by decide +kernel), List.mem_of_getElem? (i := 1539) (by decide +kernel)⟩
theorem lw_p63 : lw_okq (⟨"DriftPagesModel", "doesPass", "(II)Z"⟩, 64) := ⟨⟨by decide +kernel, by decide +kernel⟩, List.mem_of_getElem? (i := 1064) (by decide +kernel), List.mem_of_getElem? (i := 1550) (by decide +kernel), List.mem_of_getElem? (i := 1551) (by decide +kernel)⟩
def lw_privs_4 : List (MethodName × Nat) := [(⟨"DriftPagesModel", "thereMany", "()I"⟩, 64), (⟨"DriftPagesModel", "isThen", "(II)Z"⟩, 64), (⟨"DriftPagesModel", "earliest", "()I"⟩, 64), (⟨"DriftPagesModel", "isColumn", "(I)Z"⟩, 64), (⟨"DriftPagesModel", "isNow", "(I)Z"⟩, 64), (⟨"DriftPagesModel", "valueThen", "(III)J"⟩, 64), (⟨"DriftPagesModel", "canView", "(I)Z"⟩, 64), (⟨"DriftPagesModel", "laysKey", "(II)V"⟩, 64), (⟨"DriftPagesModel", "laysPart", "(IJ)V"⟩, 64), (⟨"DriftPagesModel", "laysByte", "(IZ)V"⟩, 64), (⟨"DriftPagesModel", "aheadOf", "(I)I"⟩, 64), (⟨"DriftPagesModel", "marks", "()V"⟩, 64), (⟨"DriftPagesModel", "compared", "()I"⟩, 64), (⟨"DriftPagesModel", "canHave", "(IJZ)Z"⟩, 64), (⟨"DriftPagesModel", "turned", "()V"⟩, 64), (⟨"DriftPagesModel", "doesPass", "(II)Z"⟩, 64)]
theorem lw_r4 : ∀ q ∈ lw_privs_4, lw_okq q := List.forall_mem_cons.mpr ⟨lw_p48, List.forall_mem_cons.mpr ⟨lw_p49, List.forall_mem_cons.mpr ⟨lw_p50, List.forall_mem_cons.mpr ⟨lw_p51, List.forall_mem_cons.mpr ⟨lw_p52, List.forall_mem_cons.mpr ⟨lw_p53, List.forall_mem_cons.mpr ⟨lw_p54, List.forall_mem_cons.mpr ⟨lw_p55, List.forall_mem_cons.mpr ⟨lw_p56, List.forall_mem_cons.mpr ⟨lw_p57, List.forall_mem_cons.mpr ⟨lw_p58, List.forall_mem_cons.mpr ⟨lw_p59, List.forall_mem_cons.mpr ⟨lw_p60, List.forall_mem_cons.mpr ⟨lw_p61, List.forall_mem_cons.mpr ⟨lw_p62, List.forall_mem_cons.mpr ⟨lw_p63, fun _ h => absurd h List.not_mem_nil⟩⟩⟩⟩⟩⟩⟩⟩⟩⟩⟩⟩⟩⟩⟩⟩
theorem lw_p64 : lw_okq (⟨"DriftPagesModel", "meets", "(IJ)Z"⟩, 64) := ⟨⟨by decide +kernel, by decide +kernel⟩, List.mem_of_getElem? (i := 1064) (by decide +kernel), List.mem_of_getElem? (i := 1554) (by decide +kernel), List.mem_of_getElem? (i := 1555) (by decide +kernel)⟩
theorem lw_p65 : lw_okq (⟨"DriftPagesModel", "marksNothing", "()V"⟩, 64) := ⟨⟨by decide +kernel, by decide +kernel⟩, List.mem_of_getElem? (i := 1064) (by decide +kernel), List.mem_of_getElem? (i := 1570) (by decide +kernel), List.mem_of_getElem? (i := 1571) (by decide +kernel)⟩
theorem lw_p66 : lw_okq (⟨"DriftPagesModel", "finds", "(IIZ)V"⟩, 64) := ⟨⟨by decide +kernel, by decide +kernel⟩, List.mem_of_getElem? (i := 1064) (by decide +kernel), List.mem_of_getElem? (i := 1574) (by decide +kernel), List.mem_of_getElem? (i := 1575) (by decide +kernel)⟩
theorem lw_p67 : lw_okq (⟨"DriftPagesModel", "nextRow", "(IZ)I"⟩, 64) := ⟨⟨by decide +kernel, by decide +kernel⟩, List.mem_of_getElem? (i := 1064) (by decide +kernel), List.mem_of_getElem? (i := 1578) (by decide +kernel), List.mem_of_getElem? (i := 1579) (by decide +kernel)⟩
theorem lw_p68 : lw_okq (⟨"DriftPagesModel", "isKept", "([IIZ)Z"⟩, 64) := ⟨⟨by decide +kernel, by decide +kernel⟩, List.mem_of_getElem? (i := 1064) (by decide +kernel), List.mem_of_getElem? (i := 1582) (by decide +kernel), List.mem_of_getElem? (i := 1583) (by decide +kernel)⟩
theorem lw_p69 : lw_okq (⟨"DriftPagesModel", "pages", "(IIZ)I"⟩, 64) := ⟨⟨by decide +kernel, by decide +kernel⟩, List.mem_of_getElem? (i := 1064) (by decide +kernel), List.mem_of_getElem? (i := 1586) (by decide +kernel), List.mem_of_getElem? (i := 1587) (by decide +kernel)⟩
theorem lw_p70 : lw_okq (⟨"DriftPagesModel", "laysToken", "(IIIZI)V"⟩, 64) := ⟨⟨by decide +kernel, by decide +kernel⟩, List.mem_of_getElem? (i := 1064) (by decide +kernel), List.mem_of_getElem? (i := 1590) (by decide +kernel), List.mem_of_getElem? (i := 1591) (by decide +kernel)⟩
theorem lw_p71 : lw_okq (⟨"DriftPagesModel", "countAhead", "(IZ)I"⟩, 64) := ⟨⟨by decide +kernel, by decide +kernel⟩, List.mem_of_getElem? (i := 1064) (by decide +kernel), List.mem_of_getElem? (i := 1594) (by decide +kernel), List.mem_of_getElem? (i := 1595) (by decide +kernel)⟩
theorem lw_p72 : lw_okq (⟨"DriftPagesModel", "goesBy", "(IZ)I"⟩, 64) := ⟨⟨by decide +kernel, by decide +kernel⟩, List.mem_of_getElem? (i := 1064) (by decide +kernel), List.mem_of_getElem? (i := 1602) (by decide +kernel), List.mem_of_getElem? (i := 1603) (by decide +kernel)⟩
theorem lw_p73 : lw_okq (⟨"DriftPagesModel", "wrongToken", "(I)I"⟩, 64) := ⟨⟨by decide +kernel, by decide +kernel⟩, List.mem_of_getElem? (i := 1064) (by decide +kernel), List.mem_of_getElem? (i := 1606) (by decide +kernel), List.mem_of_getElem? (i := 1607) (by decide +kernel)⟩
theorem lw_p74 : lw_okq (⟨"DriftPagesModel", "checkOf", "(I)I"⟩, 64) := ⟨⟨by decide +kernel, by decide +kernel⟩, List.mem_of_getElem? (i := 1064) (by decide +kernel), List.mem_of_getElem? (i := 1610) (by decide +kernel), List.mem_of_getElem? (i := 1611) (by decide +kernel)⟩
theorem lw_p75 : lw_okq (⟨"DriftPagesModel", "laysAsked", "(I)V"⟩, 64) := ⟨⟨by decide +kernel, by decide +kernel⟩, List.mem_of_getElem? (i := 1064) (by decide +kernel), List.mem_of_getElem? (i := 1614) (by decide +kernel), List.mem_of_getElem? (i := 1615) (by decide +kernel)⟩
theorem lw_p76 : lw_okq (⟨"DriftPagesModel", "goesReader", "(IZ)I"⟩, 64) := ⟨⟨by decide +kernel, by decide +kernel⟩, List.mem_of_getElem? (i := 1064) (by decide +kernel), List.mem_of_getElem? (i := 1659) (by decide +kernel), List.mem_of_getElem? (i := 1660) (by decide +kernel)⟩
theorem lw_p77 : lw_okq (⟨"DriftPagesModel", "isReader", "(I)Z"⟩, 64) := ⟨⟨by decide +kernel, by decide +kernel⟩, List.mem_of_getElem? (i := 1064) (by decide +kernel), List.mem_of_getElem? (i := 1663) (by decide +kernel), List.mem_of_getElem? (i := 1664) (by decide +kernel)⟩
theorem lw_p78 : lw_okq (⟨"DriftPagesModel", "isCounted", "(III)Z"⟩, 64) := ⟨⟨by decide +kernel, by decide +kernel⟩, List.mem_of_getElem? (i := 1064) (by decide +kernel), List.mem_of_getElem? (i := 1676) (by decide +kernel), List.mem_of_getElem? (i := 1677) (by decide +kernel)⟩
theorem lw_p79 : lw_okq (⟨"DriftPagesModel", "offered", "(IJJJJ)J"⟩, 64) := ⟨⟨by decide +kernel, by decide +kernel⟩, List.mem_of_getElem? (i := 1064) (by decide +kernel), List.mem_of_getElem? (i := 1688) (by decide +kernel), List.mem_of_getElem? (i := 1689) (by decide +kernel)⟩
def lw_privs_5 : List (MethodName × Nat) := [(⟨"DriftPagesModel", "meets", "(IJ)Z"⟩, 64), (⟨"DriftPagesModel", "marksNothing", "()V"⟩, 64), (⟨"DriftPagesModel", "finds", "(IIZ)V"⟩, 64), (⟨"DriftPagesModel", "nextRow", "(IZ)I"⟩, 64), (⟨"DriftPagesModel", "isKept", "([IIZ)Z"⟩, 64), (⟨"DriftPagesModel", "pages", "(IIZ)I"⟩, 64), (⟨"DriftPagesModel", "laysToken", "(IIIZI)V"⟩, 64), (⟨"DriftPagesModel", "countAhead", "(IZ)I"⟩, 64), (⟨"DriftPagesModel", "goesBy", "(IZ)I"⟩, 64), (⟨"DriftPagesModel", "wrongToken", "(I)I"⟩, 64), (⟨"DriftPagesModel", "checkOf", "(I)I"⟩, 64), (⟨"DriftPagesModel", "laysAsked", "(I)V"⟩, 64), (⟨"DriftPagesModel", "goesReader", "(IZ)I"⟩, 64), (⟨"DriftPagesModel", "isReader", "(I)Z"⟩, 64), (⟨"DriftPagesModel", "isCounted", "(III)Z"⟩, 64), (⟨"DriftPagesModel", "offered", "(IJJJJ)J"⟩, 64)]
theorem lw_r5 : ∀ q ∈ lw_privs_5, lw_okq q := List.forall_mem_cons.mpr ⟨lw_p64, List.forall_mem_cons.mpr ⟨lw_p65, List.forall_mem_cons.mpr ⟨lw_p66, List.forall_mem_cons.mpr ⟨lw_p67, List.forall_mem_cons.mpr ⟨lw_p68, List.forall_mem_cons.mpr ⟨lw_p69, List.forall_mem_cons.mpr ⟨lw_p70, List.forall_mem_cons.mpr ⟨lw_p71, List.forall_mem_cons.mpr ⟨lw_p72, List.forall_mem_cons.mpr ⟨lw_p73, List.forall_mem_cons.mpr ⟨lw_p74, List.forall_mem_cons.mpr ⟨lw_p75, List.forall_mem_cons.mpr ⟨lw_p76, List.forall_mem_cons.mpr ⟨lw_p77, List.forall_mem_cons.mpr ⟨lw_p78, List.forall_mem_cons.mpr ⟨lw_p79, fun _ h => absurd h List.not_mem_nil⟩⟩⟩⟩⟩⟩⟩⟩⟩⟩⟩⟩⟩⟩⟩⟩
theorem lw_p80 : lw_okq (⟨"DriftPagesModel", "acts", "()V"⟩, 64) := ⟨⟨by decide +kernel, by decide +kernel⟩, List.mem_of_getElem? (i := 1064) (by decide +kernel), List.mem_of_getElem? (i := 1692) (by decide +kernel), List.mem_of_getElem? (i := 1693) (by decide +kernel)⟩
theorem lw_p81 : lw_okq (⟨"DriftPagesModel", "turnMany", "()I"⟩, 64) := ⟨⟨by decide +kernel, by decide +kernel⟩, List.mem_of_getElem? (i := 1064) (by decide +kernel), List.mem_of_getElem? (i := 1708) (by decide +kernel), List.mem_of_getElem? (i := 1709) (by decide +kernel)⟩
theorem lw_p82 : lw_okq (⟨"DriftPagesModel", "isLacking", "(I)Z"⟩, 64) := ⟨⟨by decide +kernel, by decide +kernel⟩, List.mem_of_getElem? (i := 1064) (by decide +kernel), List.mem_of_getElem? (i := 1716) (by decide +kernel), List.mem_of_getElem? (i := 1717) (by decide +kernel)⟩
theorem lw_p83 : lw_okq (⟨"DriftPagesModel", "readerMany", "()I"⟩, 64) := ⟨⟨by decide +kernel, by decide +kernel⟩, List.mem_of_getElem? (i := 1064) (by decide +kernel), List.mem_of_getElem? (i := 1724) (by decide +kernel), List.mem_of_getElem? (i := 1725) (by decide +kernel)⟩
def lw_privs_6 : List (MethodName × Nat) := [(⟨"DriftPagesModel", "acts", "()V"⟩, 64), (⟨"DriftPagesModel", "turnMany", "()I"⟩, 64), (⟨"DriftPagesModel", "isLacking", "(I)Z"⟩, 64), (⟨"DriftPagesModel", "readerMany", "()I"⟩, 64)]
theorem lw_r6 : ∀ q ∈ lw_privs_6, lw_okq q := List.forall_mem_cons.mpr ⟨lw_p80, List.forall_mem_cons.mpr ⟨lw_p81, List.forall_mem_cons.mpr ⟨lw_p82, List.forall_mem_cons.mpr ⟨lw_p83, fun _ h => absurd h List.not_mem_nil⟩⟩⟩⟩
def lw_privs : List (MethodName × Nat) := lw_privs_1 ++ (lw_privs_2 ++ (lw_privs_3 ++ (lw_privs_4 ++ (lw_privs_5 ++ (lw_privs_6)))))
def lw_tbl : List Cond := k2_sels lw_privs ++ tables_1
theorem lw_privs_ok : ∀ q ∈ lw_privs, lw_okq q := by
  show ∀ q ∈ lw_privs_1 ++ (lw_privs_2 ++ (lw_privs_3 ++ (lw_privs_4 ++ (lw_privs_5 ++ (lw_privs_6))))), lw_okq q
  exact List.forall_mem_append.mpr ⟨lw_r1, List.forall_mem_append.mpr ⟨lw_r2, List.forall_mem_append.mpr ⟨lw_r3, List.forall_mem_append.mpr ⟨lw_r4, List.forall_mem_append.mpr ⟨lw_r5, lw_r6⟩⟩⟩⟩⟩
-- ===== end of PART A; then your names; then what follows =====
/-! THE CLAIM OUT OF ONE WALK OF THE LAW'S BODY. Your part is whole_start (and what it stands on); all else here is the same for every law, but numbers. -/
end
section
def RX0 : String := "DriftPages$Acts"
def TX0 : u_T := fun k => match k with
  | 0 => ("DriftPages$Acts", "sorts", "[I", true)
  | 1 => ("DriftPages$Acts", "ids", "[I", true)
  | 2 => ("DriftPages$Acts", "columns", "[I", true)
  | 3 => ("DriftPages$Acts", "olds", "[J", true)
  | _ => ("DriftPages$Acts", "version", "I", false)
def tyX0 : Nat → FieldType := fun k => match k with
  | 0 => .array .int
  | 1 => .array .int
  | 2 => .array .int
  | 3 => .array .long
  | _ => .int
abbrev wsX00 : List Cond := u_ws RX0 TX0 5
theorem nmX0 : ∀ a, a < 5 → ∀ b, b < 5 → a ≠ b → (TX0 a).2.1 ≠ (TX0 b).2.1 := by decide +kernel
theorem tyX0_ok : ∀ k, k < 5 → parseFieldDescriptor (TX0 k).2.2.1 = some (tyX0 k) := by decide +kernel
abbrev cX0_init : ByteArray := prog_2_method_1_code
def yX0_init : MethodName := ⟨RX0, "<init>", "()V"⟩
abbrev cX0_earliest : ByteArray := prog_2_method_2_code
def yX0_earliest : MethodName := ⟨RX0, "earliest", "()I"⟩
abbrev cX0_canView : ByteArray := prog_2_method_3_code
def yX0_canView : MethodName := ⟨RX0, "canView", "(I)Z"⟩
abbrev cX0_note : ByteArray := prog_2_method_4_code
def yX0_note : MethodName := ⟨RX0, "note", "(IIIJ)V"⟩
abbrev cX0_takeBack : ByteArray := prog_2_method_5_code
def yX0_takeBack : MethodName := ⟨RX0, "takeBack", "(LDriftPages$Rows;I)V"⟩
def RX1 : String := "DriftPages$Bytes"
def TX1 : u_T := fun k => match k with
  | 0 => ("DriftPages$Bytes", "bytes", "[I", true)
  | _ => ("DriftPages$Bytes", "count", "I", false)
def tyX1 : Nat → FieldType := fun k => match k with
  | 0 => .array .int
  | _ => .int
abbrev wsX10 : List Cond := u_ws RX1 TX1 2
theorem nmX1 : ∀ a, a < 2 → ∀ b, b < 2 → a ≠ b → (TX1 a).2.1 ≠ (TX1 b).2.1 := by decide +kernel
theorem tyX1_ok : ∀ k, k < 2 → parseFieldDescriptor (TX1 k).2.2.1 = some (tyX1 k) := by decide +kernel
abbrev cX1_init : ByteArray := prog_3_method_1_code
def yX1_init : MethodName := ⟨RX1, "<init>", "(I)V"⟩
abbrev cX1_empty : ByteArray := prog_3_method_2_code
def yX1_empty : MethodName := ⟨RX1, "empty", "()V"⟩
abbrev cX1_put : ByteArray := prog_3_method_3_code
def yX1_put : MethodName := ⟨RX1, "put", "(I)V"⟩
abbrev cX1_putTwo : ByteArray := prog_3_method_4_code
def yX1_putTwo : MethodName := ⟨RX1, "putTwo", "(I)V"⟩
abbrev cX1_putFour : ByteArray := prog_3_method_5_code
def yX1_putFour : MethodName := ⟨RX1, "putFour", "(I)V"⟩
abbrev cX1_get : ByteArray := prog_3_method_6_code
def yX1_get : MethodName := ⟨RX1, "get", "(I)I"⟩
abbrev cX1_getTwo : ByteArray := prog_3_method_7_code
def yX1_getTwo : MethodName := ⟨RX1, "getTwo", "(I)I"⟩
abbrev cX1_append : ByteArray := prog_3_method_8_code
def yX1_append : MethodName := ⟨RX1, "append", "(LDriftPages$Bytes;II)V"⟩
abbrev cX1_against : ByteArray := prog_3_method_9_code
def yX1_against : MethodName := ⟨RX1, "against", "(LDriftPages$Bytes;)I"⟩
abbrev cX1_checkOf : ByteArray := prog_3_method_10_code
def yX1_checkOf : MethodName := ⟨RX1, "checkOf", "(I)I"⟩
def RX2 : String := "DriftPages$Lexer"
def TX2 : u_T := fun k => match k with
  | 0 => ("DriftPages$Lexer", "text", "LDriftPages$Bytes;", true)
  | 1 => ("DriftPages$Lexer", "length", "I", true)
  | 2 => ("DriftPages$Lexer", "position", "I", false)
  | 3 => ("DriftPages$Lexer", "sort", "I", false)
  | 4 => ("DriftPages$Lexer", "start", "I", false)
  | _ => ("DriftPages$Lexer", "content", "J", false)
def tyX2 : Nat → FieldType := fun k => match k with
  | 0 => .object "DriftPages$Bytes"
  | 1 => .int
  | 2 => .int
  | 3 => .int
  | 4 => .int
  | _ => .long
abbrev wsX20 : List Cond := u_ws RX2 TX2 6
theorem nmX2 : ∀ a, a < 6 → ∀ b, b < 6 → a ≠ b → (TX2 a).2.1 ≠ (TX2 b).2.1 := by decide +kernel
theorem tyX2_ok : ∀ k, k < 6 → parseFieldDescriptor (TX2 k).2.2.1 = some (tyX2 k) := by decide +kernel
abbrev cX2_init : ByteArray := prog_4_method_1_code
def yX2_init : MethodName := ⟨RX2, "<init>", "(LDriftPages$Bytes;I)V"⟩
abbrev cX2_advance : ByteArray := prog_4_method_2_code
def yX2_advance : MethodName := ⟨RX2, "advance", "()V"⟩
abbrev cX2_takeLetters : ByteArray := prog_4_method_3_code
def yX2_takeLetters : MethodName := ⟨RX2, "takeLetters", "()V"⟩
abbrev cX2_takeDigits : ByteArray := prog_4_method_4_code
def yX2_takeDigits : MethodName := ⟨RX2, "takeDigits", "()V"⟩
abbrev cX2_isSign : ByteArray := prog_4_method_5_code
def yX2_isSign : MethodName := ⟨RX2, "isSign", "(C)Z"⟩
abbrev cX2_isWord : ByteArray := prog_4_method_6_code
def yX2_isWord : MethodName := ⟨RX2, "isWord", "(J)Z"⟩
abbrev cX2_isLetter : ByteArray := prog_4_method_7_code
def yX2_isLetter : MethodName := ⟨RX2, "isLetter", "(I)Z"⟩
abbrev cX2_isDigit : ByteArray := prog_4_method_8_code
def yX2_isDigit : MethodName := ⟨RX2, "isDigit", "(I)Z"⟩
def RX3 : String := "DriftPages$Order"
def TX3 : u_T := fun k => match k with
  | 0 => ("DriftPages$Order", "columns", "[I", true)
  | 1 => ("DriftPages$Order", "kinds", "[I", true)
  | 2 => ("DriftPages$Order", "downs", "[Z", true)
  | 3 => ("DriftPages$Order", "firsts", "[Z", true)
  | _ => ("DriftPages$Order", "count", "I", false)
def tyX3 : Nat → FieldType := fun k => match k with
  | 0 => .array .int
  | 1 => .array .int
  | 2 => .array .boolean
  | 3 => .array .boolean
  | _ => .int
abbrev wsX30 : List Cond := u_ws RX3 TX3 5
theorem nmX3 : ∀ a, a < 5 → ∀ b, b < 5 → a ≠ b → (TX3 a).2.1 ≠ (TX3 b).2.1 := by decide +kernel
theorem tyX3_ok : ∀ k, k < 5 → parseFieldDescriptor (TX3 k).2.2.1 = some (tyX3 k) := by decide +kernel
abbrev cX3_init : ByteArray := prog_5_method_1_code
def yX3_init : MethodName := ⟨RX3, "<init>", "()V"⟩
abbrev cX3_add : ByteArray := prog_5_method_2_code
def yX3_add : MethodName := ⟨RX3, "add", "(IIZZ)V"⟩
abbrev cX3_has : ByteArray := prog_5_method_3_code
def yX3_has : MethodName := ⟨RX3, "has", "(I)Z"⟩
abbrev cX3_lengthOf : ByteArray := prog_5_method_4_code
def yX3_lengthOf : MethodName := ⟨RX3, "lengthOf", "([II)I"⟩
abbrev cX3_writeKey : ByteArray := prog_5_method_5_code
def yX3_writeKey : MethodName := ⟨RX3, "writeKey", "(LDriftPages$Rows;ILDriftPages$Bytes;)V"⟩
abbrev cX3_writePart : ByteArray := prog_5_method_6_code
def yX3_writePart : MethodName := ⟨RX3, "writePart", "(IJLDriftPages$Bytes;)V"⟩
def RX4 : String := "DriftPages$Page"
def TX4 : u_T := fun k => match k with
  | 0 => ("DriftPages$Page", "ids", "[I", true)
  | 1 => ("DriftPages$Page", "values", "[J", true)
  | 2 => ("DriftPages$Page", "before", "LDriftPages$Bytes;", true)
  | 3 => ("DriftPages$Page", "after", "LDriftPages$Bytes;", true)
  | 4 => ("DriftPages$Page", "asked", "LDriftPages$Bytes;", true)
  | 5 => ("DriftPages$Page", "there", "Z", false)
  | 6 => ("DriftPages$Page", "count", "I", false)
  | 7 => ("DriftPages$Page", "ahead", "I", false)
  | _ => ("DriftPages$Page", "behind", "I", false)
def tyX4 : Nat → FieldType := fun k => match k with
  | 0 => .array .int
  | 1 => .array .long
  | 2 => .object "DriftPages$Bytes"
  | 3 => .object "DriftPages$Bytes"
  | 4 => .object "DriftPages$Bytes"
  | 5 => .boolean
  | 6 => .int
  | 7 => .int
  | _ => .int
abbrev wsX40 : List Cond := u_ws RX4 TX4 9
theorem nmX4 : ∀ a, a < 9 → ∀ b, b < 9 → a ≠ b → (TX4 a).2.1 ≠ (TX4 b).2.1 := by decide +kernel
theorem tyX4_ok : ∀ k, k < 9 → parseFieldDescriptor (TX4 k).2.2.1 = some (tyX4 k) := by decide +kernel
abbrev cX4_init : ByteArray := prog_6_method_1_code
def yX4_init : MethodName := ⟨RX4, "<init>", "()V"⟩
abbrev cX4_has : ByteArray := prog_6_method_2_code
def yX4_has : MethodName := ⟨RX4, "has", "(I)Z"⟩
abbrev cX4_tokenOf : ByteArray := prog_6_method_3_code
def yX4_tokenOf : MethodName := ⟨RX4, "tokenOf", "(I)LDriftPages$Bytes;"⟩
abbrev cX4_fill : ByteArray := prog_6_method_4_code
def yX4_fill : MethodName := ⟨RX4, "fill", "(LDriftPages$View;II)V"⟩
abbrev cX4_keepToken : ByteArray := prog_6_method_5_code
def yX4_keepToken : MethodName := ⟨RX4, "keepToken", "(LDriftPages$Bytes;ILDriftPages$View;LDriftPages$Bytes;)V"⟩
abbrev cX4_writeToken : ByteArray := prog_6_method_6_code
def yX4_writeToken : MethodName := ⟨RX4, "writeToken", "(LDriftPages$Bytes;LDriftPages$View;III)V"⟩
def RX5 : String := "DriftPages$Parser"
def TX5 : u_T := fun k => match k with
  | 0 => ("DriftPages$Parser", "lexer", "LDriftPages$Lexer;", true)
  | 1 => ("DriftPages$Parser", "told", "LDriftPages$Table;", true)
  | 2 => ("DriftPages$Parser", "fault", "I", false)
  | _ => ("DriftPages$Parser", "place", "I", false)
def tyX5 : Nat → FieldType := fun k => match k with
  | 0 => .object "DriftPages$Lexer"
  | 1 => .object "DriftPages$Table"
  | 2 => .int
  | _ => .int
abbrev wsX50 : List Cond := u_ws RX5 TX5 4
theorem nmX5 : ∀ a, a < 4 → ∀ b, b < 4 → a ≠ b → (TX5 a).2.1 ≠ (TX5 b).2.1 := by decide +kernel
theorem tyX5_ok : ∀ k, k < 4 → parseFieldDescriptor (TX5 k).2.2.1 = some (tyX5 k) := by decide +kernel
abbrev cX5_init : ByteArray := prog_7_method_1_code
def yX5_init : MethodName := ⟨RX5, "<init>", "(LDriftPages$Bytes;ILDriftPages$Table;)V"⟩
abbrev cX5_readTable : ByteArray := prog_7_method_2_code
def yX5_readTable : MethodName := ⟨RX5, "readTable", "()Z"⟩
abbrev cX5_fails : ByteArray := prog_7_method_3_code
def yX5_fails : MethodName := ⟨RX5, "fails", "(I)Z"⟩
abbrev cX5_readColumns : ByteArray := prog_7_method_4_code
def yX5_readColumns : MethodName := ⟨RX5, "readColumns", "()Z"⟩
abbrev cX5_readColumn : ByteArray := prog_7_method_5_code
def yX5_readColumn : MethodName := ⟨RX5, "readColumn", "()Z"⟩
abbrev cX5_readOrder : ByteArray := prog_7_method_6_code
def yX5_readOrder : MethodName := ⟨RX5, "readOrder", "()Z"⟩
abbrev cX5_readOrdered : ByteArray := prog_7_method_7_code
def yX5_readOrdered : MethodName := ⟨RX5, "readOrdered", "()Z"⟩
abbrev cX5_readRow : ByteArray := prog_7_method_8_code
def yX5_readRow : MethodName := ⟨RX5, "readRow", "()Z"⟩
abbrev cX5_readValue : ByteArray := prog_7_method_9_code
def yX5_readValue : MethodName := ⟨RX5, "readValue", "(II)Z"⟩
def RX6 : String := "DriftPages$Reader"
def TX6 : u_T := fun k => match k with
  | 0 => ("DriftPages$Reader", "sights", "[I", true)
  | 1 => ("DriftPages$Reader", "sightings", "[I", true)
  | 2 => ("DriftPages$Reader", "key", "LDriftPages$Bytes;", true)
  | 3 => ("DriftPages$Reader", "begun", "Z", false)
  | 4 => ("DriftPages$Reader", "stable", "Z", false)
  | 5 => ("DriftPages$Reader", "ended", "Z", false)
  | 6 => ("DriftPages$Reader", "size", "I", false)
  | 7 => ("DriftPages$Reader", "version", "I", false)
  | _ => ("DriftPages$Reader", "pages", "I", false)
def tyX6 : Nat → FieldType := fun k => match k with
  | 0 => .array .int
  | 1 => .array .int
  | 2 => .object "DriftPages$Bytes"
  | 3 => .boolean
  | 4 => .boolean
  | 5 => .boolean
  | 6 => .int
  | 7 => .int
  | _ => .int
abbrev wsX60 : List Cond := u_ws RX6 TX6 9
theorem nmX6 : ∀ a, a < 9 → ∀ b, b < 9 → a ≠ b → (TX6 a).2.1 ≠ (TX6 b).2.1 := by decide +kernel
theorem tyX6_ok : ∀ k, k < 9 → parseFieldDescriptor (TX6 k).2.2.1 = some (tyX6 k) := by decide +kernel
abbrev cX6_init : ByteArray := prog_8_method_1_code
def yX6_init : MethodName := ⟨RX6, "<init>", "()V"⟩
abbrev cX6_start : ByteArray := prog_8_method_2_code
def yX6_start : MethodName := ⟨RX6, "start", "(IZI)V"⟩
abbrev cX6_take : ByteArray := prog_8_method_3_code
def yX6_take : MethodName := ⟨RX6, "take", "(LDriftPages$View;ZI)V"⟩
abbrev cX6_counts : ByteArray := prog_8_method_4_code
def yX6_counts : MethodName := ⟨RX6, "counts", "(IILDriftPages$Table;)Z"⟩
def RX7 : String := "DriftPages$Rows"
def TX7 : u_T := fun k => match k with
  | 0 => ("DriftPages$Rows", "there", "[Z", true)
  | 1 => ("DriftPages$Rows", "values", "[J", true)
  | 2 => ("DriftPages$Rows", "given", "I", false)
  | _ => ("DriftPages$Rows", "count", "I", false)
def tyX7 : Nat → FieldType := fun k => match k with
  | 0 => .array .boolean
  | 1 => .array .long
  | 2 => .int
  | _ => .int
abbrev wsX70 : List Cond := u_ws RX7 TX7 4
theorem nmX7 : ∀ a, a < 4 → ∀ b, b < 4 → a ≠ b → (TX7 a).2.1 ≠ (TX7 b).2.1 := by decide +kernel
theorem tyX7_ok : ∀ k, k < 4 → parseFieldDescriptor (TX7 k).2.2.1 = some (tyX7 k) := by decide +kernel
abbrev cX7_init : ByteArray := prog_9_method_1_code
def yX7_init : MethodName := ⟨RX7, "<init>", "()V"⟩
abbrev cX7_has : ByteArray := prog_9_method_2_code
def yX7_has : MethodName := ⟨RX7, "has", "(I)Z"⟩
abbrev cX7_add : ByteArray := prog_9_method_3_code
def yX7_add : MethodName := ⟨RX7, "add", "()I"⟩
abbrev cX7_set : ByteArray := prog_9_method_4_code
def yX7_set : MethodName := ⟨RX7, "set", "(IZ)V"⟩
abbrev cX7_isCell : ByteArray := prog_9_method_5_code
def yX7_isCell : MethodName := ⟨RX7, "isCell", "(II)Z"⟩
abbrev cX7_read : ByteArray := prog_9_method_6_code
def yX7_read : MethodName := ⟨RX7, "read", "(II)J"⟩
abbrev cX7_write : ByteArray := prog_9_method_7_code
def yX7_write : MethodName := ⟨RX7, "write", "(IIJ)V"⟩
abbrev cX7_copy : ByteArray := prog_9_method_8_code
def yX7_copy : MethodName := ⟨RX7, "copy", "(LDriftPages$Rows;)V"⟩
def RX8 : String := "DriftPages$Sieve"
def TX8 : u_T := fun k => match k with
  | 0 => ("DriftPages$Sieve", "columns", "[I", true)
  | 1 => ("DriftPages$Sieve", "kinds", "[I", true)
  | 2 => ("DriftPages$Sieve", "hows", "[I", true)
  | 3 => ("DriftPages$Sieve", "values", "[J", true)
  | _ => ("DriftPages$Sieve", "count", "I", false)
def tyX8 : Nat → FieldType := fun k => match k with
  | 0 => .array .int
  | 1 => .array .int
  | 2 => .array .int
  | 3 => .array .long
  | _ => .int
abbrev wsX80 : List Cond := u_ws RX8 TX8 5
theorem nmX8 : ∀ a, a < 5 → ∀ b, b < 5 → a ≠ b → (TX8 a).2.1 ≠ (TX8 b).2.1 := by decide +kernel
theorem tyX8_ok : ∀ k, k < 5 → parseFieldDescriptor (TX8 k).2.2.1 = some (tyX8 k) := by decide +kernel
abbrev cX8_init : ByteArray := prog_10_method_1_code
def yX8_init : MethodName := ⟨RX8, "<init>", "()V"⟩
abbrev cX8_add : ByteArray := prog_10_method_2_code
def yX8_add : MethodName := ⟨RX8, "add", "(IIIJ)V"⟩
abbrev cX8_lets : ByteArray := prog_10_method_3_code
def yX8_lets : MethodName := ⟨RX8, "lets", "(LDriftPages$Rows;I)Z"⟩
abbrev cX8_meets : ByteArray := prog_10_method_4_code
def yX8_meets : MethodName := ⟨RX8, "meets", "(IJ)Z"⟩
def RX9 : String := "DriftPages$Table"
def TX9 : u_T := fun k => match k with
  | 0 => ("DriftPages$Table", "names", "[J", true)
  | 1 => ("DriftPages$Table", "kinds", "[I", true)
  | 2 => ("DriftPages$Table", "order", "LDriftPages$Order;", true)
  | 3 => ("DriftPages$Table", "sieve", "LDriftPages$Sieve;", true)
  | 4 => ("DriftPages$Table", "rows", "LDriftPages$Rows;", true)
  | 5 => ("DriftPages$Table", "acts", "LDriftPages$Acts;", true)
  | 6 => ("DriftPages$Table", "touched", "[I", true)
  | 7 => ("DriftPages$Table", "columns", "I", false)
  | _ => ("DriftPages$Table", "turns", "I", false)
def tyX9 : Nat → FieldType := fun k => match k with
  | 0 => .array .long
  | 1 => .array .int
  | 2 => .object "DriftPages$Order"
  | 3 => .object "DriftPages$Sieve"
  | 4 => .object "DriftPages$Rows"
  | 5 => .object "DriftPages$Acts"
  | 6 => .array .int
  | 7 => .int
  | _ => .int
abbrev wsX90 : List Cond := u_ws RX9 TX9 9
theorem nmX9 : ∀ a, a < 9 → ∀ b, b < 9 → a ≠ b → (TX9 a).2.1 ≠ (TX9 b).2.1 := by decide +kernel
theorem tyX9_ok : ∀ k, k < 9 → parseFieldDescriptor (TX9 k).2.2.1 = some (tyX9 k) := by decide +kernel
abbrev cX9_init : ByteArray := prog_11_method_1_code
def yX9_init : MethodName := ⟨RX9, "<init>", "()V"⟩
abbrev cX9_addColumn : ByteArray := prog_11_method_2_code
def yX9_addColumn : MethodName := ⟨RX9, "addColumn", "(JI)V"⟩
abbrev cX9_columnOf : ByteArray := prog_11_method_3_code
def yX9_columnOf : MethodName := ⟨RX9, "columnOf", "(J)I"⟩
abbrev cX9_canHold : ByteArray := prog_11_method_4_code
def yX9_canHold : MethodName := ⟨RX9, "canHold", "(IJ)Z"⟩
abbrev cX9_lacksValue : ByteArray := prog_11_method_5_code
def yX9_lacksValue : MethodName := ⟨RX9, "lacksValue", "(I)Z"⟩
def RX10 : String := "DriftPages$View"
def TX10 : u_T := fun k => match k with
  | 0 => ("DriftPages$View", "rows", "LDriftPages$Rows;", true)
  | 1 => ("DriftPages$View", "ids", "[I", true)
  | 2 => ("DriftPages$View", "keys", "[LDriftPages$Bytes;", true)
  | 3 => ("DriftPages$View", "passing", "[I", true)
  | 4 => ("DriftPages$View", "count", "I", false)
  | 5 => ("DriftPages$View", "passed", "I", false)
  | 6 => ("DriftPages$View", "first", "I", false)
  | 7 => ("DriftPages$View", "end", "I", false)
  | 8 => ("DriftPages$View", "of", "LDriftPages$Table;", false)
  | 9 => ("DriftPages$View", "version", "I", false)
  | _ => ("DriftPages$View", "turns", "I", false)
def tyX10 : Nat → FieldType := fun k => match k with
  | 0 => .object "DriftPages$Rows"
  | 1 => .array .int
  | 2 => .array (.object "DriftPages$Bytes")
  | 3 => .array .int
  | 4 => .int
  | 5 => .int
  | 6 => .int
  | 7 => .int
  | 8 => .object "DriftPages$Table"
  | 9 => .int
  | _ => .int
abbrev wsX100 : List Cond := u_ws RX10 TX10 11
theorem nmX10 : ∀ a, a < 11 → ∀ b, b < 11 → a ≠ b → (TX10 a).2.1 ≠ (TX10 b).2.1 := by decide +kernel
theorem tyX10_ok : ∀ k, k < 11 → parseFieldDescriptor (TX10 k).2.2.1 = some (tyX10 k) := by decide +kernel
abbrev cX10_init : ByteArray := prog_12_method_1_code
def yX10_init : MethodName := ⟨RX10, "<init>", "()V"⟩
abbrev cX10_show : ByteArray := prog_12_method_2_code
def yX10_show : MethodName := ⟨RX10, "show", "(LDriftPages$Table;I)V"⟩
abbrev cX10_enter : ByteArray := prog_12_method_3_code
def yX10_enter : MethodName := ⟨RX10, "enter", "(ILDriftPages$Order;)V"⟩
abbrev cX10_placeOf : ByteArray := prog_12_method_4_code
def yX10_placeOf : MethodName := ⟨RX10, "placeOf", "(I)I"⟩
abbrev cX10_keyAt : ByteArray := prog_12_method_5_code
def yX10_keyAt : MethodName := ⟨RX10, "keyAt", "(I)LDriftPages$Bytes;"⟩
abbrev cX10_idPassing : ByteArray := prog_12_method_6_code
def yX10_idPassing : MethodName := ⟨RX10, "idPassing", "(I)I"⟩
abbrev cX10_keyPassing : ByteArray := prog_12_method_7_code
def yX10_keyPassing : MethodName := ⟨RX10, "keyPassing", "(I)LDriftPages$Bytes;"⟩
abbrev cX10_countBelow : ByteArray := prog_12_method_8_code
def yX10_countBelow : MethodName := ⟨RX10, "countBelow", "(LDriftPages$Bytes;)I"⟩
abbrev cX10_countNotAbove : ByteArray := prog_12_method_9_code
def yX10_countNotAbove : MethodName := ⟨RX10, "countNotAbove", "(LDriftPages$Bytes;)I"⟩
abbrev cX10_chooseFrom : ByteArray := prog_12_method_10_code
def yX10_chooseFrom : MethodName := ⟨RX10, "chooseFrom", "(II)V"⟩
abbrev cX10_chooseBeside : ByteArray := prog_12_method_11_code
def yX10_chooseBeside : MethodName := ⟨RX10, "chooseBeside", "(LDriftPages$Bytes;IZ)V"⟩
def RX11 : String := "DriftPages"
def TX11 : u_T := fun k => match k with
  | 0 => ("DriftPages", "tape", "LDriftPages$Bytes;", true)
  | 1 => ("DriftPages", "edge", "LDriftPages$Bytes;", true)
  | 2 => ("DriftPages", "view", "LDriftPages$View;", true)
  | 3 => ("DriftPages", "shown", "LDriftPages$Page;", true)
  | 4 => ("DriftPages", "readers", "[LDriftPages$Reader;", true)
  | 5 => ("DriftPages", "table", "LDriftPages$Table;", false)
  | 6 => ("DriftPages", "trouble", "I", false)
  | 7 => ("DriftPages", "fault", "I", false)
  | _ => ("DriftPages", "place", "I", false)
def tyX11 : Nat → FieldType := fun k => match k with
  | 0 => .object "DriftPages$Bytes"
  | 1 => .object "DriftPages$Bytes"
  | 2 => .object "DriftPages$View"
  | 3 => .object "DriftPages$Page"
  | 4 => .array (.object "DriftPages$Reader")
  | 5 => .object "DriftPages$Table"
  | 6 => .int
  | 7 => .int
  | _ => .int
abbrev wsX110 : List Cond := u_ws RX11 TX11 9
theorem nmX11 : ∀ a, a < 9 → ∀ b, b < 9 → a ≠ b → (TX11 a).2.1 ≠ (TX11 b).2.1 := by decide +kernel
theorem tyX11_ok : ∀ k, k < 9 → parseFieldDescriptor (TX11 k).2.2.1 = some (tyX11 k) := by decide +kernel
abbrev cX11_init : ByteArray := prog_1_method_1_code
def yX11_init : MethodName := ⟨RX11, "<init>", "()V"⟩
abbrev cX11_feed : ByteArray := prog_1_method_2_code
def yX11_feed : MethodName := ⟨RX11, "feed", "(IIIII)I"⟩
abbrev cX11_table : ByteArray := prog_1_method_3_code
def yX11_table : MethodName := ⟨RX11, "table", "(I)I"⟩
abbrev cX11_fault : ByteArray := prog_1_method_4_code
def yX11_fault : MethodName := ⟨RX11, "fault", "()I"⟩
abbrev cX11_where : ByteArray := prog_1_method_5_code
def yX11_where : MethodName := ⟨RX11, "where", "()I"⟩
abbrev cX11_about : ByteArray := prog_1_method_6_code
def yX11_about : MethodName := ⟨RX11, "about", "(I)I"⟩
abbrev cX11_kind : ByteArray := prog_1_method_7_code
def yX11_kind : MethodName := ⟨RX11, "kind", "(I)I"⟩
abbrev cX11_orderAt : ByteArray := prog_1_method_8_code
def yX11_orderAt : MethodName := ⟨RX11, "orderAt", "(II)I"⟩
abbrev cX11_value : ByteArray := prog_1_method_9_code
def yX11_value : MethodName := ⟨RX11, "value", "(II)J"⟩
abbrev cX11_was : ByteArray := prog_1_method_10_code
def yX11_was : MethodName := ⟨RX11, "was", "(III)J"⟩
abbrev cX11_keySize : ByteArray := prog_1_method_11_code
def yX11_keySize : MethodName := ⟨RX11, "keySize", "(I)I"⟩
abbrev cX11_keyByte : ByteArray := prog_1_method_12_code
def yX11_keyByte : MethodName := ⟨RX11, "keyByte", "(II)I"⟩
abbrev cX11_rank : ByteArray := prog_1_method_13_code
def yX11_rank : MethodName := ⟨RX11, "rank", "(I)I"⟩
abbrev cX11_ranked : ByteArray := prog_1_method_14_code
def yX11_ranked : MethodName := ⟨RX11, "ranked", "(I)I"⟩
abbrev cX11_differ : ByteArray := prog_1_method_15_code
def yX11_differ : MethodName := ⟨RX11, "differ", "(II)I"⟩
abbrev cX11_page : ByteArray := prog_1_method_16_code
def yX11_page : MethodName := ⟨RX11, "page", "(IZ)I"⟩
abbrev cX11_next : ByteArray := prog_1_method_17_code
def yX11_next : MethodName := ⟨RX11, "next", "(I)I"⟩
abbrev cX11_previous : ByteArray := prog_1_method_18_code
def yX11_previous : MethodName := ⟨RX11, "previous", "(I)I"⟩
abbrev cX11_seek : ByteArray := prog_1_method_19_code
def yX11_seek : MethodName := ⟨RX11, "seek", "(IJ)I"⟩
abbrev cX11_at : ByteArray := prog_1_method_20_code
def yX11_at : MethodName := ⟨RX11, "at", "(I)I"⟩
abbrev cX11_cell : ByteArray := prog_1_method_21_code
def yX11_cell : MethodName := ⟨RX11, "cell", "(II)J"⟩
abbrev cX11_tokenSize : ByteArray := prog_1_method_22_code
def yX11_tokenSize : MethodName := ⟨RX11, "tokenSize", "(I)I"⟩
abbrev cX11_tokenByte : ByteArray := prog_1_method_23_code
def yX11_tokenByte : MethodName := ⟨RX11, "tokenByte", "(II)I"⟩
abbrev cX11_beyond : ByteArray := prog_1_method_24_code
def yX11_beyond : MethodName := ⟨RX11, "beyond", "(I)I"⟩
abbrev cX11_checks : ByteArray := prog_1_method_25_code
def yX11_checks : MethodName := ⟨RX11, "checks", "(I)I"⟩
abbrev cX11_begin : ByteArray := prog_1_method_26_code
def yX11_begin : MethodName := ⟨RX11, "begin", "(IIZ)Z"⟩
abbrev cX11_on : ByteArray := prog_1_method_27_code
def yX11_on : MethodName := ⟨RX11, "on", "(I)I"⟩
abbrev cX11_back : ByteArray := prog_1_method_28_code
def yX11_back : MethodName := ⟨RX11, "back", "(I)I"⟩
abbrev cX11_account : ByteArray := prog_1_method_29_code
def yX11_account : MethodName := ⟨RX11, "account", "(II)I"⟩
abbrev cX11_seen : ByteArray := prog_1_method_30_code
def yX11_seen : MethodName := ⟨RX11, "seen", "(II)I"⟩
abbrev cX11_insert : ByteArray := prog_1_method_31_code
def yX11_insert : MethodName := ⟨RX11, "insert", "(JJJJ)I"⟩
abbrev cX11_remove : ByteArray := prog_1_method_32_code
def yX11_remove : MethodName := ⟨RX11, "remove", "(I)I"⟩
abbrev cX11_change : ByteArray := prog_1_method_33_code
def yX11_change : MethodName := ⟨RX11, "change", "(IIJ)I"⟩
abbrev cX11_turn : ByteArray := prog_1_method_34_code
def yX11_turn : MethodName := ⟨RX11, "turn", "(IIII)I"⟩
abbrev cX11_sieve : ByteArray := prog_1_method_35_code
def yX11_sieve : MethodName := ⟨RX11, "sieve", "(IIJ)I"⟩
abbrev cX11_clear : ByteArray := prog_1_method_36_code
def yX11_clear : MethodName := ⟨RX11, "clear", "()I"⟩
abbrev cX11_passes : ByteArray := prog_1_method_37_code
def yX11_passes : MethodName := ⟨RX11, "passes", "(I)I"⟩
abbrev cX11_condition : ByteArray := prog_1_method_38_code
def yX11_condition : MethodName := ⟨RX11, "condition", "(II)I"⟩
abbrev cX11_lacking : ByteArray := prog_1_method_39_code
def yX11_lacking : MethodName := ⟨RX11, "lacking", "(I)I"⟩
abbrev cX11_size : ByteArray := prog_1_method_40_code
def yX11_size : MethodName := ⟨RX11, "size", "(I)I"⟩
abbrev cX11_trouble : ByteArray := prog_1_method_41_code
def yX11_trouble : MethodName := ⟨RX11, "trouble", "()I"⟩
abbrev cX11_refused : ByteArray := prog_1_method_42_code
def yX11_refused : MethodName := ⟨RX11, "refused", "(I)I"⟩
abbrev cX11_refusedValue : ByteArray := prog_1_method_43_code
def yX11_refusedValue : MethodName := ⟨RX11, "refusedValue", "(I)J"⟩
abbrev cX11_answered : ByteArray := prog_1_method_44_code
def yX11_answered : MethodName := ⟨RX11, "answered", "(I)I"⟩
abbrev cX11_answeredValue : ByteArray := prog_1_method_45_code
def yX11_answeredValue : MethodName := ⟨RX11, "answeredValue", "(J)J"⟩
abbrev cX11_answeredOrNone : ByteArray := prog_1_method_46_code
def yX11_answeredOrNone : MethodName := ⟨RX11, "answeredOrNone", "(I)I"⟩
abbrev cX11_isOnTape : ByteArray := prog_1_method_47_code
def yX11_isOnTape : MethodName := ⟨RX11, "isOnTape", "(I)Z"⟩
abbrev cX11_isColumn : ByteArray := prog_1_method_48_code
def yX11_isColumn : MethodName := ⟨RX11, "isColumn", "(I)Z"⟩
abbrev cX11_isRow : ByteArray := prog_1_method_49_code
def yX11_isRow : MethodName := ⟨RX11, "isRow", "(I)Z"⟩
abbrev cX11_isPageSize : ByteArray := prog_1_method_50_code
def yX11_isPageSize : MethodName := ⟨RX11, "isPageSize", "(I)Z"⟩
abbrev cX11_isWordValue : ByteArray := prog_1_method_51_code
def yX11_isWordValue : MethodName := ⟨RX11, "isWordValue", "(J)Z"⟩
abbrev cX11_raisedWord : ByteArray := prog_1_method_52_code
def yX11_raisedWord : MethodName := ⟨RX11, "raisedWord", "(J)J"⟩
abbrev cX11_hasBegun : ByteArray := prog_1_method_53_code
def yX11_hasBegun : MethodName := ⟨RX11, "hasBegun", "(I)Z"⟩
abbrev cX11_rankNow : ByteArray := prog_1_method_54_code
def yX11_rankNow : MethodName := ⟨RX11, "rankNow", "(I)I"⟩
abbrev cX11_keyNow : ByteArray := prog_1_method_55_code
def yX11_keyNow : MethodName := ⟨RX11, "keyNow", "(I)LDriftPages$Bytes;"⟩
abbrev cX11_pageByToken : ByteArray := prog_1_method_56_code
def yX11_pageByToken : MethodName := ⟨RX11, "pageByToken", "(IZ)I"⟩
abbrev cX11_troubleOfToken : ByteArray := prog_1_method_57_code
def yX11_troubleOfToken : MethodName := ⟨RX11, "troubleOfToken", "(I)I"⟩
abbrev cX11_stepReader : ByteArray := prog_1_method_58_code
def yX11_stepReader : MethodName := ⟨RX11, "stepReader", "(IZ)I"⟩
abbrev cX11_turned : ByteArray := prog_1_method_59_code
def yX11_turned : MethodName := ⟨RX11, "turned", "()V"⟩
abbrev cX11_dismissReaders : ByteArray := prog_1_method_60_code
def yX11_dismissReaders : MethodName := ⟨RX11, "dismissReaders", "()V"⟩
abbrev cX11_countReaders : ByteArray := prog_1_method_61_code
def yX11_countReaders : MethodName := ⟨RX11, "countReaders", "()I"⟩
def RX12 : String := "DriftPagesModel"
def TX12 : u_T := fun k => match k with
  | 0 => ("DriftPagesModel", "thrown", "I", false)
  | 1 => ("DriftPagesModel", "trouble", "I", false)
  | 2 => ("DriftPagesModel", "fault", "I", false)
  | 3 => ("DriftPagesModel", "where", "I", false)
  | 4 => ("DriftPagesModel", "tape", "[I", true)
  | 5 => ("DriftPagesModel", "taped", "I", false)
  | 6 => ("DriftPagesModel", "columnMany", "I", false)
  | 7 => ("DriftPagesModel", "isText", "[Z", true)
  | 8 => ("DriftPagesModel", "orderMany", "I", false)
  | 9 => ("DriftPagesModel", "order", "[I", true)
  | 10 => ("DriftPagesModel", "isDown", "[Z", true)
  | 11 => ("DriftPagesModel", "isFirst", "[Z", true)
  | 12 => ("DriftPagesModel", "isTold", "Z", false)
  | 13 => ("DriftPagesModel", "readColumns", "I", false)
  | 14 => ("DriftPagesModel", "readNames", "[J", true)
  | 15 => ("DriftPagesModel", "readText", "[Z", true)
  | 16 => ("DriftPagesModel", "readOrder", "I", false)
  | 17 => ("DriftPagesModel", "newOrder", "[I", true)
  | 18 => ("DriftPagesModel", "newDown", "[Z", true)
  | 19 => ("DriftPagesModel", "newFirst", "[Z", true)
  | 20 => ("DriftPagesModel", "readRows", "I", false)
  | 21 => ("DriftPagesModel", "readValues", "[J", true)
  | 22 => ("DriftPagesModel", "textLong", "I", false)
  | 23 => ("DriftPagesModel", "place", "I", false)
  | 24 => ("DriftPagesModel", "spot", "I", false)
  | 25 => ("DriftPagesModel", "token", "I", false)
  | 26 => ("DriftPagesModel", "whole", "I", false)
  | 27 => ("DriftPagesModel", "readFault", "I", false)
  | 28 => ("DriftPagesModel", "readPlace", "I", false)
  | 29 => ("DriftPagesModel", "version", "I", false)
  | 30 => ("DriftPagesModel", "schema", "I", false)
  | 31 => ("DriftPagesModel", "givenMany", "I", false)
  | 32 => ("DriftPagesModel", "isThere", "[Z", true)
  | 33 => ("DriftPagesModel", "values", "[J", true)
  | 34 => ("DriftPagesModel", "changedAt", "[I", true)
  | 35 => ("DriftPagesModel", "key", "[I", true)
  | 36 => ("DriftPagesModel", "keyLong", "I", false)
  | 37 => ("DriftPagesModel", "mark", "[I", true)
  | 38 => ("DriftPagesModel", "markLong", "I", false)
  | 39 => ("DriftPagesModel", "sieveMany", "I", false)
  | 40 => ("DriftPagesModel", "sieveColumn", "[I", true)
  | 41 => ("DriftPagesModel", "sieveHow", "[I", true)
  | 42 => ("DriftPagesModel", "sieveValue", "[J", true)
  | 43 => ("DriftPagesModel", "found", "[I", true)
  | 44 => ("DriftPagesModel", "foundMany", "I", false)
  | 45 => ("DriftPagesModel", "bestKey", "[I", true)
  | 46 => ("DriftPagesModel", "hasPage", "Z", false)
  | 47 => ("DriftPagesModel", "pageMany", "I", false)
  | 48 => ("DriftPagesModel", "pageIds", "[I", true)
  | 49 => ("DriftPagesModel", "pageValues", "[J", true)
  | 50 => ("DriftPagesModel", "tokens", "[I", true)
  | 51 => ("DriftPagesModel", "tokenLong", "[I", true)
  | 52 => ("DriftPagesModel", "beyonds", "[I", true)
  | 53 => ("DriftPagesModel", "asked", "[I", true)
  | 54 => ("DriftPagesModel", "askedLong", "I", false)
  | 55 => ("DriftPagesModel", "readerSize", "[I", true)
  | 56 => ("DriftPagesModel", "readerView", "[I", true)
  | 57 => ("DriftPagesModel", "isEnded", "[Z", true)
  | 58 => ("DriftPagesModel", "readerPages", "[I", true)
  | 59 => ("DriftPagesModel", "standLong", "[I", true)
  | 60 => ("DriftPagesModel", "stands", "[I", true)
  | 61 => ("DriftPagesModel", "sawMany", "[I", true)
  | 62 => ("DriftPagesModel", "sawAt", "[I", true)
  | _ => ("DriftPagesModel", "turns", "[I", true)
def tyX12 : Nat → FieldType := fun k => match k with
  | 0 => .int
  | 1 => .int
  | 2 => .int
  | 3 => .int
  | 4 => .array .int
  | 5 => .int
  | 6 => .int
  | 7 => .array .boolean
  | 8 => .int
  | 9 => .array .int
  | 10 => .array .boolean
  | 11 => .array .boolean
  | 12 => .boolean
  | 13 => .int
  | 14 => .array .long
  | 15 => .array .boolean
  | 16 => .int
  | 17 => .array .int
  | 18 => .array .boolean
  | 19 => .array .boolean
  | 20 => .int
  | 21 => .array .long
  | 22 => .int
  | 23 => .int
  | 24 => .int
  | 25 => .int
  | 26 => .int
  | 27 => .int
  | 28 => .int
  | 29 => .int
  | 30 => .int
  | 31 => .int
  | 32 => .array .boolean
  | 33 => .array .long
  | 34 => .array .int
  | 35 => .array .int
  | 36 => .int
  | 37 => .array .int
  | 38 => .int
  | 39 => .int
  | 40 => .array .int
  | 41 => .array .int
  | 42 => .array .long
  | 43 => .array .int
  | 44 => .int
  | 45 => .array .int
  | 46 => .boolean
  | 47 => .int
  | 48 => .array .int
  | 49 => .array .long
  | 50 => .array .int
  | 51 => .array .int
  | 52 => .array .int
  | 53 => .array .int
  | 54 => .int
  | 55 => .array .int
  | 56 => .array .int
  | 57 => .array .boolean
  | 58 => .array .int
  | 59 => .array .int
  | 60 => .array .int
  | 61 => .array .int
  | 62 => .array .int
  | _ => .array .int
abbrev wsX120 : List Cond := u_ws RX12 TX12 64
theorem nmX12 : ∀ a, a < 64 → ∀ b, b < 64 → a ≠ b → (TX12 a).2.1 ≠ (TX12 b).2.1 := by decide +kernel
theorem tyX12_ok : ∀ k, k < 64 → parseFieldDescriptor (TX12 k).2.2.1 = some (tyX12 k) := by decide +kernel
abbrev cX12_init : ByteArray := prog_14_method_1_code
def yX12_init : MethodName := ⟨RX12, "<init>", "()V"⟩
abbrev cX12_thrown : ByteArray := prog_14_method_2_code
def yX12_thrown : MethodName := ⟨RX12, "thrown", "()I"⟩
abbrev cX12_in : ByteArray := prog_14_method_3_code
def yX12_in : MethodName := ⟨RX12, "in", "(JJJ)Z"⟩
abbrev cX12_no : ByteArray := prog_14_method_4_code
def yX12_no : MethodName := ⟨RX12, "no", "(I)I"⟩
abbrev cX12_isRefused : ByteArray := prog_14_method_5_code
def yX12_isRefused : MethodName := ⟨RX12, "isRefused", "(I)Z"⟩
abbrev cX12_unless : ByteArray := prog_14_method_6_code
def yX12_unless : MethodName := ⟨RX12, "unless", "(Z)I"⟩
abbrev cX12_feed : ByteArray := prog_14_method_7_code
def yX12_feed : MethodName := ⟨RX12, "feed", "(IIIII)I"⟩
abbrev cX12_laysWord : ByteArray := prog_14_method_8_code
def yX12_laysWord : MethodName := ⟨RX12, "laysWord", "(I)V"⟩
abbrev cX12_see : ByteArray := prog_14_method_9_code
def yX12_see : MethodName := ⟨RX12, "see", "(I)I"⟩
abbrev cX12_goesOn : ByteArray := prog_14_method_10_code
def yX12_goesOn : MethodName := ⟨RX12, "goesOn", "()V"⟩
abbrev cX12_isWord : ByteArray := prog_14_method_11_code
def yX12_isWord : MethodName := ⟨RX12, "isWord", "(Ljava/lang/String;)Z"⟩
abbrev cX12_errs : ByteArray := prog_14_method_12_code
def yX12_errs : MethodName := ⟨RX12, "errs", "(I)Z"⟩
abbrev cX12_spelt : ByteArray := prog_14_method_13_code
def yX12_spelt : MethodName := ⟨RX12, "spelt", "()J"⟩
abbrev cX12_columnHere : ByteArray := prog_14_method_14_code
def yX12_columnHere : MethodName := ⟨RX12, "columnHere", "()I"⟩
abbrev cX12_readColumn : ByteArray := prog_14_method_15_code
def yX12_readColumn : MethodName := ⟨RX12, "readColumn", "()Z"⟩
abbrev cX12_readTable : ByteArray := prog_14_method_16_code
def yX12_readTable : MethodName := ⟨RX12, "readTable", "()Z"⟩
abbrev cX12_readOne : ByteArray := prog_14_method_17_code
def yX12_readOne : MethodName := ⟨RX12, "readOne", "()Z"⟩
abbrev cX12_readOrders : ByteArray := prog_14_method_18_code
def yX12_readOrders : MethodName := ⟨RX12, "readOrders", "()Z"⟩
abbrev cX12_readValue : ByteArray := prog_14_method_19_code
def yX12_readValue : MethodName := ⟨RX12, "readValue", "(I)Z"⟩
abbrev cX12_readRow : ByteArray := prog_14_method_20_code
def yX12_readRow : MethodName := ⟨RX12, "readRow", "()Z"⟩
abbrev cX12_readLine : ByteArray := prog_14_method_21_code
def yX12_readLine : MethodName := ⟨RX12, "readLine", "()Z"⟩
abbrev cX12_readAll : ByteArray := prog_14_method_22_code
def yX12_readAll : MethodName := ⟨RX12, "readAll", "(I)Z"⟩
abbrev cX12_table : ByteArray := prog_14_method_23_code
def yX12_table : MethodName := ⟨RX12, "table", "(I)I"⟩
abbrev cX12_begins : ByteArray := prog_14_method_24_code
def yX12_begins : MethodName := ⟨RX12, "begins", "()V"⟩
abbrev cX12_fault : ByteArray := prog_14_method_25_code
def yX12_fault : MethodName := ⟨RX12, "fault", "()I"⟩
abbrev cX12_where : ByteArray := prog_14_method_26_code
def yX12_where : MethodName := ⟨RX12, "where", "()I"⟩
abbrev cX12_rowAt : ByteArray := prog_14_method_27_code
def yX12_rowAt : MethodName := ⟨RX12, "rowAt", "(II)I"⟩
abbrev cX12_isThen : ByteArray := prog_14_method_28_code
def yX12_isThen : MethodName := ⟨RX12, "isThen", "(II)Z"⟩
abbrev cX12_isNow : ByteArray := prog_14_method_29_code
def yX12_isNow : MethodName := ⟨RX12, "isNow", "(I)Z"⟩
abbrev cX12_valueThen : ByteArray := prog_14_method_30_code
def yX12_valueThen : MethodName := ⟨RX12, "valueThen", "(III)J"⟩
abbrev cX12_earliest : ByteArray := prog_14_method_31_code
def yX12_earliest : MethodName := ⟨RX12, "earliest", "()I"⟩
abbrev cX12_canView : ByteArray := prog_14_method_32_code
def yX12_canView : MethodName := ⟨RX12, "canView", "(I)Z"⟩
abbrev cX12_acts : ByteArray := prog_14_method_33_code
def yX12_acts : MethodName := ⟨RX12, "acts", "()V"⟩
abbrev cX12_thereMany : ByteArray := prog_14_method_34_code
def yX12_thereMany : MethodName := ⟨RX12, "thereMany", "()I"⟩
abbrev cX12_isColumn : ByteArray := prog_14_method_35_code
def yX12_isColumn : MethodName := ⟨RX12, "isColumn", "(I)Z"⟩
abbrev cX12_about : ByteArray := prog_14_method_36_code
def yX12_about : MethodName := ⟨RX12, "about", "(I)I"⟩
abbrev cX12_kind : ByteArray := prog_14_method_37_code
def yX12_kind : MethodName := ⟨RX12, "kind", "(I)I"⟩
abbrev cX12_orderAt : ByteArray := prog_14_method_38_code
def yX12_orderAt : MethodName := ⟨RX12, "orderAt", "(II)I"⟩
abbrev cX12_value : ByteArray := prog_14_method_39_code
def yX12_value : MethodName := ⟨RX12, "value", "(II)J"⟩
abbrev cX12_was : ByteArray := prog_14_method_40_code
def yX12_was : MethodName := ⟨RX12, "was", "(III)J"⟩
abbrev cX12_laysByte : ByteArray := prog_14_method_41_code
def yX12_laysByte : MethodName := ⟨RX12, "laysByte", "(IZ)V"⟩
abbrev cX12_laysPart : ByteArray := prog_14_method_42_code
def yX12_laysPart : MethodName := ⟨RX12, "laysPart", "(IJ)V"⟩
abbrev cX12_laysKey : ByteArray := prog_14_method_43_code
def yX12_laysKey : MethodName := ⟨RX12, "laysKey", "(II)V"⟩
abbrev cX12_marks : ByteArray := prog_14_method_44_code
def yX12_marks : MethodName := ⟨RX12, "marks", "()V"⟩
abbrev cX12_compared : ByteArray := prog_14_method_45_code
def yX12_compared : MethodName := ⟨RX12, "compared", "()I"⟩
abbrev cX12_keySize : ByteArray := prog_14_method_46_code
def yX12_keySize : MethodName := ⟨RX12, "keySize", "(I)I"⟩
abbrev cX12_keyByte : ByteArray := prog_14_method_47_code
def yX12_keyByte : MethodName := ⟨RX12, "keyByte", "(II)I"⟩
abbrev cX12_aheadOf : ByteArray := prog_14_method_48_code
def yX12_aheadOf : MethodName := ⟨RX12, "aheadOf", "(I)I"⟩
abbrev cX12_rank : ByteArray := prog_14_method_49_code
def yX12_rank : MethodName := ⟨RX12, "rank", "(I)I"⟩
abbrev cX12_ranked : ByteArray := prog_14_method_50_code
def yX12_ranked : MethodName := ⟨RX12, "ranked", "(I)I"⟩
abbrev cX12_differ : ByteArray := prog_14_method_51_code
def yX12_differ : MethodName := ⟨RX12, "differ", "(II)I"⟩
abbrev cX12_spread : ByteArray := prog_14_method_52_code
def yX12_spread : MethodName := ⟨RX12, "spread", "(J)J"⟩
abbrev cX12_meets : ByteArray := prog_14_method_53_code
def yX12_meets : MethodName := ⟨RX12, "meets", "(IJ)Z"⟩
abbrev cX12_doesPass : ByteArray := prog_14_method_54_code
def yX12_doesPass : MethodName := ⟨RX12, "doesPass", "(II)Z"⟩
abbrev cX12_canHave : ByteArray := prog_14_method_55_code
def yX12_canHave : MethodName := ⟨RX12, "canHave", "(IJZ)Z"⟩
abbrev cX12_turned : ByteArray := prog_14_method_56_code
def yX12_turned : MethodName := ⟨RX12, "turned", "()V"⟩
abbrev cX12_sieve : ByteArray := prog_14_method_57_code
def yX12_sieve : MethodName := ⟨RX12, "sieve", "(IIJ)I"⟩
abbrev cX12_clear : ByteArray := prog_14_method_58_code
def yX12_clear : MethodName := ⟨RX12, "clear", "()I"⟩
abbrev cX12_passes : ByteArray := prog_14_method_59_code
def yX12_passes : MethodName := ⟨RX12, "passes", "(I)I"⟩
abbrev cX12_condition : ByteArray := prog_14_method_60_code
def yX12_condition : MethodName := ⟨RX12, "condition", "(II)I"⟩
abbrev cX12_nextRow : ByteArray := prog_14_method_61_code
def yX12_nextRow : MethodName := ⟨RX12, "nextRow", "(IZ)I"⟩
abbrev cX12_isKept : ByteArray := prog_14_method_62_code
def yX12_isKept : MethodName := ⟨RX12, "isKept", "([IIZ)Z"⟩
abbrev cX12_finds : ByteArray := prog_14_method_63_code
def yX12_finds : MethodName := ⟨RX12, "finds", "(IIZ)V"⟩
abbrev cX12_countAhead : ByteArray := prog_14_method_64_code
def yX12_countAhead : MethodName := ⟨RX12, "countAhead", "(IZ)I"⟩
abbrev cX12_laysToken : ByteArray := prog_14_method_65_code
def yX12_laysToken : MethodName := ⟨RX12, "laysToken", "(IIIZI)V"⟩
abbrev cX12_pages : ByteArray := prog_14_method_66_code
def yX12_pages : MethodName := ⟨RX12, "pages", "(IIZ)I"⟩
abbrev cX12_marksNothing : ByteArray := prog_14_method_67_code
def yX12_marksNothing : MethodName := ⟨RX12, "marksNothing", "()V"⟩
abbrev cX12_page : ByteArray := prog_14_method_68_code
def yX12_page : MethodName := ⟨RX12, "page", "(IZ)I"⟩
abbrev cX12_checkOf : ByteArray := prog_14_method_69_code
def yX12_checkOf : MethodName := ⟨RX12, "checkOf", "(I)I"⟩
abbrev cX12_wrongToken : ByteArray := prog_14_method_70_code
def yX12_wrongToken : MethodName := ⟨RX12, "wrongToken", "(I)I"⟩
abbrev cX12_goesBy : ByteArray := prog_14_method_71_code
def yX12_goesBy : MethodName := ⟨RX12, "goesBy", "(IZ)I"⟩
abbrev cX12_laysAsked : ByteArray := prog_14_method_72_code
def yX12_laysAsked : MethodName := ⟨RX12, "laysAsked", "(I)V"⟩
abbrev cX12_next : ByteArray := prog_14_method_73_code
def yX12_next : MethodName := ⟨RX12, "next", "(I)I"⟩
abbrev cX12_previous : ByteArray := prog_14_method_74_code
def yX12_previous : MethodName := ⟨RX12, "previous", "(I)I"⟩
abbrev cX12_seek : ByteArray := prog_14_method_75_code
def yX12_seek : MethodName := ⟨RX12, "seek", "(IJ)I"⟩
abbrev cX12_at : ByteArray := prog_14_method_76_code
def yX12_at : MethodName := ⟨RX12, "at", "(I)I"⟩
abbrev cX12_cell : ByteArray := prog_14_method_77_code
def yX12_cell : MethodName := ⟨RX12, "cell", "(II)J"⟩
abbrev cX12_tokenSize : ByteArray := prog_14_method_78_code
def yX12_tokenSize : MethodName := ⟨RX12, "tokenSize", "(I)I"⟩
abbrev cX12_tokenByte : ByteArray := prog_14_method_79_code
def yX12_tokenByte : MethodName := ⟨RX12, "tokenByte", "(II)I"⟩
abbrev cX12_beyond : ByteArray := prog_14_method_80_code
def yX12_beyond : MethodName := ⟨RX12, "beyond", "(I)I"⟩
abbrev cX12_checks : ByteArray := prog_14_method_81_code
def yX12_checks : MethodName := ⟨RX12, "checks", "(I)I"⟩
abbrev cX12_nobodyReads : ByteArray := prog_14_method_82_code
def yX12_nobodyReads : MethodName := ⟨RX12, "nobodyReads", "()V"⟩
abbrev cX12_isReader : ByteArray := prog_14_method_83_code
def yX12_isReader : MethodName := ⟨RX12, "isReader", "(I)Z"⟩
abbrev cX12_begin : ByteArray := prog_14_method_84_code
def yX12_begin : MethodName := ⟨RX12, "begin", "(IIZ)Z"⟩
abbrev cX12_goesReader : ByteArray := prog_14_method_85_code
def yX12_goesReader : MethodName := ⟨RX12, "goesReader", "(IZ)I"⟩
abbrev cX12_on : ByteArray := prog_14_method_86_code
def yX12_on : MethodName := ⟨RX12, "on", "(I)I"⟩
abbrev cX12_back : ByteArray := prog_14_method_87_code
def yX12_back : MethodName := ⟨RX12, "back", "(I)I"⟩
abbrev cX12_isCounted : ByteArray := prog_14_method_88_code
def yX12_isCounted : MethodName := ⟨RX12, "isCounted", "(III)Z"⟩
abbrev cX12_account : ByteArray := prog_14_method_89_code
def yX12_account : MethodName := ⟨RX12, "account", "(II)I"⟩
abbrev cX12_seen : ByteArray := prog_14_method_90_code
def yX12_seen : MethodName := ⟨RX12, "seen", "(II)I"⟩
abbrev cX12_offered : ByteArray := prog_14_method_91_code
def yX12_offered : MethodName := ⟨RX12, "offered", "(IJJJJ)J"⟩
abbrev cX12_insert : ByteArray := prog_14_method_92_code
def yX12_insert : MethodName := ⟨RX12, "insert", "(JJJJ)I"⟩
abbrev cX12_remove : ByteArray := prog_14_method_93_code
def yX12_remove : MethodName := ⟨RX12, "remove", "(I)I"⟩
abbrev cX12_change : ByteArray := prog_14_method_94_code
def yX12_change : MethodName := ⟨RX12, "change", "(IIJ)I"⟩
abbrev cX12_turnMany : ByteArray := prog_14_method_95_code
def yX12_turnMany : MethodName := ⟨RX12, "turnMany", "()I"⟩
abbrev cX12_turn : ByteArray := prog_14_method_96_code
def yX12_turn : MethodName := ⟨RX12, "turn", "(IIII)I"⟩
abbrev cX12_isLacking : ByteArray := prog_14_method_97_code
def yX12_isLacking : MethodName := ⟨RX12, "isLacking", "(I)Z"⟩
abbrev cX12_lacking : ByteArray := prog_14_method_98_code
def yX12_lacking : MethodName := ⟨RX12, "lacking", "(I)I"⟩
abbrev cX12_readerMany : ByteArray := prog_14_method_99_code
def yX12_readerMany : MethodName := ⟨RX12, "readerMany", "()I"⟩
abbrev cX12_size : ByteArray := prog_14_method_100_code
def yX12_size : MethodName := ⟨RX12, "size", "(I)I"⟩
abbrev cX12_trouble : ByteArray := prog_14_method_101_code
def yX12_trouble : MethodName := ⟨RX12, "trouble", "()I"⟩
def RJx145de : String := "java/io/Serializable"
def TJx145de : u_T := fun k => match k with
  | _ => ("", "", "", false)
def tyJx145de : Nat → FieldType := fun k => match k with
  | _ => .int
abbrev wsJx145de0 : List Cond := u_ws RJx145de TJx145de 0
theorem nmJx145de : ∀ a, a < 0 → ∀ b, b < 0 → a ≠ b → (TJx145de a).2.1 ≠ (TJx145de b).2.1 := by decide +kernel
theorem tyJx145de_ok : ∀ k, k < 0 → parseFieldDescriptor (TJx145de k).2.2.1 = some (tyJx145de k) := by decide +kernel
def RJx9f9b0 : String := "java/lang/CharSequence"
def TJx9f9b0 : u_T := fun k => match k with
  | _ => ("", "", "", false)
def tyJx9f9b0 : Nat → FieldType := fun k => match k with
  | _ => .int
abbrev wsJx9f9b00 : List Cond := u_ws RJx9f9b0 TJx9f9b0 0
theorem nmJx9f9b0 : ∀ a, a < 0 → ∀ b, b < 0 → a ≠ b → (TJx9f9b0 a).2.1 ≠ (TJx9f9b0 b).2.1 := by decide +kernel
theorem tyJx9f9b0_ok : ∀ k, k < 0 → parseFieldDescriptor (TJx9f9b0 k).2.2.1 = some (tyJx9f9b0 k) := by decide +kernel
def RJxb160c : String := "java/lang/Comparable"
def TJxb160c : u_T := fun k => match k with
  | _ => ("", "", "", false)
def tyJxb160c : Nat → FieldType := fun k => match k with
  | _ => .int
abbrev wsJxb160c0 : List Cond := u_ws RJxb160c TJxb160c 0
theorem nmJxb160c : ∀ a, a < 0 → ∀ b, b < 0 → a ≠ b → (TJxb160c a).2.1 ≠ (TJxb160c b).2.1 := by decide +kernel
theorem tyJxb160c_ok : ∀ k, k < 0 → parseFieldDescriptor (TJxb160c k).2.2.1 = some (tyJxb160c k) := by decide +kernel
def RJ13 : String := "java/lang/Long"
def TJ13 : u_T := fun k => match k with
  | _ => ("", "", "", false)
def tyJ13 : Nat → FieldType := fun k => match k with
  | _ => .int
abbrev wsJ130 : List Cond := u_ws RJ13 TJ13 0
theorem nmJ13 : ∀ a, a < 0 → ∀ b, b < 0 → a ≠ b → (TJ13 a).2.1 ≠ (TJ13 b).2.1 := by decide +kernel
theorem tyJ13_ok : ∀ k, k < 0 → parseFieldDescriptor (TJ13 k).2.2.1 = some (tyJ13 k) := by decide +kernel
abbrev cJ13_compare_74951 : ByteArray := prog_19_method_42_code
def yJ13_compare_74951 : MethodName := ⟨RJ13, "compare", "(JJ)I"⟩
def RJ9 : String := "java/lang/Math"
def TJ9 : u_T := fun k => match k with
  | _ => ("", "", "", false)
def tyJ9 : Nat → FieldType := fun k => match k with
  | _ => .int
abbrev wsJ90 : List Cond := u_ws RJ9 TJ9 0
theorem nmJ9 : ∀ a, a < 0 → ∀ b, b < 0 → a ≠ b → (TJ9 a).2.1 ≠ (TJ9 b).2.1 := by decide +kernel
theorem tyJ9_ok : ∀ k, k < 0 → parseFieldDescriptor (TJ9 k).2.2.1 = some (tyJ9 k) := by decide +kernel
abbrev cJ9_floorMod_7cf53 : ByteArray := prog_20_method_50_code
def yJ9_floorMod_7cf53 : MethodName := ⟨RJ9, "floorMod", "(II)I"⟩
abbrev cJ9_max_7cf53 : ByteArray := prog_20_method_65_code
def yJ9_max_7cf53 : MethodName := ⟨RJ9, "max", "(II)I"⟩
abbrev cJ9_min_7cf53 : ByteArray := prog_20_method_69_code
def yJ9_min_7cf53 : MethodName := ⟨RJ9, "min", "(II)I"⟩
def RJ0 : String := "java/lang/String"
def TJ0 : u_T := fun k => match k with
  | _ => ("", "", "", false)
def tyJ0 : Nat → FieldType := fun k => match k with
  | _ => .int
abbrev wsJ00 : List Cond := u_ws RJ0 TJ0 0
theorem nmJ0 : ∀ a, a < 0 → ∀ b, b < 0 → a ≠ b → (TJ0 a).2.1 ≠ (TJ0 b).2.1 := by decide +kernel
theorem tyJ0_ok : ∀ k, k < 0 → parseFieldDescriptor (TJ0 k).2.2.1 = some (tyJ0 k) := by decide +kernel
abbrev cJ0_length_8abf5 : ByteArray := prog_22_method_54_code
def yJ0_length_8abf5 : MethodName := ⟨RJ0, "length", "()I"⟩
abbrev cJ0_charAt_5068e : ByteArray := prog_22_method_56_code
def yJ0_charAt_5068e : MethodName := ⟨RJ0, "charAt", "(I)C"⟩
abbrev cJ0_coder_7d493 : ByteArray := prog_22_method_152_code
def yJ0_coder_7d493 : MethodName := ⟨RJ0, "coder", "()B"⟩
abbrev cJ0_isLatin1_aae02 : ByteArray := prog_22_method_154_code
def yJ0_isLatin1_aae02 : MethodName := ⟨RJ0, "isLatin1", "()Z"⟩
abbrev cJ0_checkIndex_df160 : ByteArray := prog_22_method_155_code
def yJ0_checkIndex_df160 : MethodName := ⟨RJ0, "checkIndex", "(II)V"⟩
def RJ1 : String := "java/lang/StringLatin1"
def TJ1 : u_T := fun k => match k with
  | _ => ("", "", "", false)
def tyJ1 : Nat → FieldType := fun k => match k with
  | _ => .int
abbrev wsJ10 : List Cond := u_ws RJ1 TJ1 0
theorem nmJ1 : ∀ a, a < 0 → ∀ b, b < 0 → a ≠ b → (TJ1 a).2.1 ≠ (TJ1 b).2.1 := by decide +kernel
theorem tyJ1_ok : ∀ k, k < 0 → parseFieldDescriptor (TJ1 k).2.2.1 = some (tyJ1 k) := by decide +kernel
abbrev cJ1_charAt_3b067 : ByteArray := prog_23_method_2_code
def yJ1_charAt_3b067 : MethodName := ⟨RJ1, "charAt", "([BI)C"⟩
def RJ2 : String := "java/lang/StringUTF16"
def TJ2 : u_T := fun k => match k with
  | _ => ("", "", "", false)
def tyJ2 : Nat → FieldType := fun k => match k with
  | _ => .int
abbrev wsJ20 : List Cond := u_ws RJ2 TJ2 0
theorem nmJ2 : ∀ a, a < 0 → ∀ b, b < 0 → a ≠ b → (TJ2 a).2.1 ≠ (TJ2 b).2.1 := by decide +kernel
theorem tyJ2_ok : ∀ k, k < 0 → parseFieldDescriptor (TJ2 k).2.2.1 = some (tyJ2 k) := by decide +kernel
abbrev cJ2_getChar_3b067 : ByteArray := prog_24_method_5_code
def yJ2_getChar_3b067 : MethodName := ⟨RJ2, "getChar", "([BI)C"⟩
abbrev cJ2_length_9d52b : ByteArray := prog_24_method_6_code
def yJ2_length_9d52b : MethodName := ⟨RJ2, "length", "([B)I"⟩
abbrev cJ2_charAt_3b067 : ByteArray := prog_24_method_83_code
def yJ2_charAt_3b067 : MethodName := ⟨RJ2, "charAt", "([BI)C"⟩
abbrev cJ2_checkIndex_2214a : ByteArray := prog_24_method_91_code
def yJ2_checkIndex_2214a : MethodName := ⟨RJ2, "checkIndex", "(I[B)V"⟩
def RJ10 : String := "java/lang/System"
def TJ10 : u_T := fun k => match k with
  | _ => ("", "", "", false)
def tyJ10 : Nat → FieldType := fun k => match k with
  | _ => .int
abbrev wsJ100 : List Cond := u_ws RJ10 TJ10 0
theorem nmJ10 : ∀ a, a < 0 → ∀ b, b < 0 → a ≠ b → (TJ10 a).2.1 ≠ (TJ10 b).2.1 := by decide +kernel
theorem tyJ10_ok : ∀ k, k < 0 → parseFieldDescriptor (TJ10 k).2.2.1 = some (tyJ10 k) := by decide +kernel
def RJxfd54e : String := "java/lang/constant/Constable"
def TJxfd54e : u_T := fun k => match k with
  | _ => ("", "", "", false)
def tyJxfd54e : Nat → FieldType := fun k => match k with
  | _ => .int
abbrev wsJxfd54e0 : List Cond := u_ws RJxfd54e TJxfd54e 0
theorem nmJxfd54e : ∀ a, a < 0 → ∀ b, b < 0 → a ≠ b → (TJxfd54e a).2.1 ≠ (TJxfd54e b).2.1 := by decide +kernel
theorem tyJxfd54e_ok : ∀ k, k < 0 → parseFieldDescriptor (TJxfd54e k).2.2.1 = some (tyJxfd54e k) := by decide +kernel
def RJx3cf43 : String := "java/lang/constant/ConstantDesc"
def TJx3cf43 : u_T := fun k => match k with
  | _ => ("", "", "", false)
def tyJx3cf43 : Nat → FieldType := fun k => match k with
  | _ => .int
abbrev wsJx3cf430 : List Cond := u_ws RJx3cf43 TJx3cf43 0
theorem nmJx3cf43 : ∀ a, a < 0 → ∀ b, b < 0 → a ≠ b → (TJx3cf43 a).2.1 ≠ (TJx3cf43 b).2.1 := by decide +kernel
theorem tyJx3cf43_ok : ∀ k, k < 0 → parseFieldDescriptor (TJx3cf43 k).2.2.1 = some (tyJx3cf43 k) := by decide +kernel
def RJ3 : String := "jdk/internal/util/Preconditions"
def TJ3 : u_T := fun k => match k with
  | _ => ("", "", "", false)
def tyJ3 : Nat → FieldType := fun k => match k with
  | _ => .int
abbrev wsJ30 : List Cond := u_ws RJ3 TJ3 0
theorem nmJ3 : ∀ a, a < 0 → ∀ b, b < 0 → a ≠ b → (TJ3 a).2.1 ≠ (TJ3 b).2.1 := by decide +kernel
theorem tyJ3_ok : ∀ k, k < 0 → parseFieldDescriptor (TJ3 k).2.2.1 = some (tyJ3 k) := by decide +kernel
abbrev cJ3_checkIndex_8e157 : ByteArray := prog_30_method_11_code
def yJ3_checkIndex_8e157 : MethodName := ⟨RJ3, "checkIndex", "(IILjava/util/function/BiFunction;)I"⟩
def RL : String := "DriftPagesLaw"
abbrev cL_lacking : ByteArray := method_3_code
def yL_lacking : MethodName := ⟨RL, "lacking", "(LDriftPages;I[J)I"⟩
abbrev cL_law : ByteArray := code
def yL_law : MethodName := ⟨RL, "law", "([I)Z"⟩
abbrev vwCl : List vw_C := [(RX0, TX0, 5), (RX1, TX1, 2), (RX2, TX2, 6), (RX3, TX3, 5), (RX4, TX4, 9), (RX5, TX5, 4), (RX6, TX6, 9), (RX7, TX7, 4), (RX8, TX8, 5), (RX9, TX9, 9), (RX10, TX10, 11), (RX11, TX11, 9), (RX12, TX12, 64)]
end
section
/-! THE SMALL MACHINE. Values: ints, longs, references (0 is null, k + 1 is the k-th cell made since the law began), text constants by number. -/
abbrev zV : Type := Int32 ⊕ (Int64 ⊕ (Nat ⊕ Nat))
abbrev zI (x : Int32) : zV := .inl x
abbrev zL (x : Int64) : zV := .inr (.inl x)
abbrev zR (n : Nat) : zV := .inr (.inr (.inl n))
abbrev zQ (j : Nat) : zV := .inr (.inr (.inr j))
/-- where it runs: the heap's size as the law began, the heap then, the classes, the arrays' classes, the text constants' cells, what else holds there for good -/
abbrev zE : Type := Nat × Heap × va_G × (Nat → ClassId) × (Nat → Nat) × (State → Prop)
def zb (E : zE) : Nat := E.1
def zH (E : zE) : Heap := E.2.1
def zD (E : zE) : va_G := E.2.2.1
def zA (E : zE) : Nat → ClassId := E.2.2.2.1
def zS (E : zE) : Nat → Nat := E.2.2.2.2.1
def zX (E : zE) : State → Prop := E.2.2.2.2.2
def zrv (b n : Nat) : Value := match n with
  | 0 => .null
  | k + 1 => .ref (b + k)
def ztv (E : zE) (v : zV) : Value := match v with
  | .inl x => .int x
  | .inr (.inl x) => .long x
  | .inr (.inr (.inl n)) => zrv (zb E) n
  | .inr (.inr (.inr j)) => .ref (zS E j)
/-- the memory: of each cell its kind (0: none told; t + 1: an object of class t; 14 + j: an array) and length; ints, longs, references by cell and place; how many cells there are -/
abbrev zM : Type := (Nat → Nat × Nat) × (Nat → Nat → Int32) × (Nat → Nat → Int64) × (Nat → Nat → Nat) × Nat
def zkd (S : zM) : Nat → Nat × Nat := S.1
def zgI (S : zM) : Nat → Nat → Int32 := S.2.1
def zgL (S : zM) : Nat → Nat → Int64 := S.2.2.1
def zgP (S : zM) : Nat → Nat → Nat := S.2.2.2.1
def zgn (S : zM) : Nat := S.2.2.2.2
def zwI (S : zM) (a k : Nat) (v : Int32) : zM := (S.1, fun b j => if b = a ∧ j = k then v else S.2.1 b j, S.2.2)
def zwL (S : zM) (a k : Nat) (v : Int64) : zM := (S.1, S.2.1, fun b j => if b = a ∧ j = k then v else S.2.2.1 b j, S.2.2.2)
def zwP (S : zM) (a k v : Nat) : zM := (S.1, S.2.1, S.2.2.1, fun b j => if b = a ∧ j = k then v else S.2.2.2.1 b j, S.2.2.2.2)
def znw (S : zM) (t n : Nat) : zM := (fun b => if b = zgn S + 1 then (t, n) else S.1 b, fun b j => if b = zgn S + 1 then 0 else S.2.1 b j, fun b j => if b = zgn S + 1 then 0 else S.2.2.1 b j, fun b j => if b = zgn S + 1 then 0 else S.2.2.2.1 b j, zgn S + 1)
/-! the classes by their numbers -/
def zC (t : Nat) : String := match t with
  | 0 => RX0 | 1 => RX1 | 2 => RX2 | 3 => RX3 | 4 => RX4 | 5 => RX5 | 6 => RX6 | 7 => RX7 | 8 => RX8 | 9 => RX9 | 10 => RX10 | 11 => RX11 | _ => RX12
def zT (t : Nat) : u_T := match t with
  | 0 => TX0 | 1 => TX1 | 2 => TX2 | 3 => TX3 | 4 => TX4 | 5 => TX5 | 6 => TX6 | 7 => TX7 | 8 => TX8 | 9 => TX9 | 10 => TX10 | 11 => TX11 | _ => TX12
def zN (t : Nat) : Nat := match t with
  | 0 => 5 | 1 => 2 | 2 => 6 | 3 => 5 | 4 => 9 | 5 => 4 | 6 => 9 | 7 => 4 | 8 => 5 | 9 => 9 | 10 => 11 | 11 => 9 | _ => 64
def zty (t : Nat) : Nat → FieldType := match t with
  | 0 => tyX0 | 1 => tyX1 | 2 => tyX2 | 3 => tyX3 | 4 => tyX4 | 5 => tyX5 | 6 => tyX6 | 7 => tyX7 | 8 => tyX8 | 9 => tyX9 | 10 => tyX10 | 11 => tyX11 | _ => tyX12
def zat (j : Nat) : FieldType := match j with
  | 0 => .int | 1 => .long | 2 => .boolean | 3 => .object RX1 | _ => .object RX6
theorem z_13 {P : Nat → Prop} (h0 : P 0) (h1 : P 1) (h2 : P 2) (h3 : P 3) (h4 : P 4) (h5 : P 5) (h6 : P 6) (h7 : P 7) (h8 : P 8) (h9 : P 9) (h10 : P 10) (h11 : P 11) (h12 : P 12) : ∀ t, t < 13 → P t := by
  intro t ht
  match t, ht with
  | 0, _ => exact h0
  | 1, _ => exact h1
  | 2, _ => exact h2
  | 3, _ => exact h3
  | 4, _ => exact h4
  | 5, _ => exact h5
  | 6, _ => exact h6
  | 7, _ => exact h7
  | 8, _ => exact h8
  | 9, _ => exact h9
  | 10, _ => exact h10
  | 11, _ => exact h11
  | 12, _ => exact h12
  | t + 13, h => exact absurd h (by omega)
theorem zcl : ∀ t, t < 13 → vwCl[t]? = some (zC t, zT t, zN t) := z_13 rfl rfl rfl rfl rfl rfl rfl rfl rfl rfl rfl rfl rfl
theorem zty_ok : ∀ t, t < 13 → ∀ k, k < zN t → parseFieldDescriptor (zT t k).2.2.1 = some (zty t k) := z_13 tyX0_ok tyX1_ok tyX2_ok tyX3_ok tyX4_ok tyX5_ok tyX6_ok tyX7_ok tyX8_ok tyX9_ok tyX10_ok tyX11_ok tyX12_ok
theorem znm : ∀ t, t < 13 → ∀ a, a < zN t → ∀ b, b < zN t → a ≠ b → (zT t a).2.1 ≠ (zT t b).2.1 := z_13 nmX0 nmX1 nmX2 nmX3 nmX4 nmX5 nmX6 nmX7 nmX8 nmX9 nmX10 nmX11 nmX12
theorem zown : ∀ t, t < 13 → ∀ k, k < zN t → (zT t k).1 = zC t := by decide +kernel
/-! what a place of a cell holds -/
def zfv (E : zE) (S : zM) (a : Nat) (ty : FieldType) (k : Nat) : Value := match ty with
  | .long => .long (zgL S a k)
  | .object _ => zrv (zb E) (zgP S a k)
  | .array _ => zrv (zb E) (zgP S a k)
  | _ => .int (zgI S a k)
abbrev zad (E : zE) (a : Nat) : Nat := zb E + (a - 1)
/-- the heap holds the memory -/
def zRp (E : zE) (S : zM) (H : Heap) : Prop := H.size = zb E + zgn S ∧ (∀ q : Nat, q < zb E → H[q]? = (zH E)[q]?) ∧
  (∀ a t n : Nat, zkd S a = (t + 1, n) → t < 13 → 0 < a ∧ t_OB (zad E a) ((zD E).1 t) (zN t) ((zD E).2 t) H (fun k => zfv E S a (zty t k) k)) ∧
  ∀ a j n : Nat, zkd S a = (14 + j, n) → j < 5 → 0 < a ∧ n < 2 ^ 31 ∧ H[zad E a]? = some (arrV (zA E j) n (zfv E S a (zat j)))
theorem zRp.lt {E : zE} {S : zM} {H : Heap} (h : zRp E S H) {a t n : Nat} (hk : zkd S a = (t + 1, n)) (ht : t < 13) : zad E a < H.size := by
  obtain ⟨-, cell, h1, -⟩ := h.2.2.1 a t n hk ht
  exact (Array.getElem?_eq_some_iff.mp h1).1
/-- one cell is written -/
theorem zRp.put {E : zE} {S S' : zM} {H H' : Heap} {a : Nat} (h : zRp E S H) (ha : 0 < a) (hk : zkd S' = zkd S) (hn : zgn S' = zgn S) (hc : ∀ b, b ≠ a → ∀ ty k, zfv E S' b ty k = zfv E S b ty k)
    (hz : H'.size = H.size) (ho : ∀ q : Nat, q ≠ zad E a → H'[q]? = H[q]?)
    (h1 : ∀ t n : Nat, zkd S a = (t + 1, n) → t < 13 → t_OB (zad E a) ((zD E).1 t) (zN t) ((zD E).2 t) H' (fun k => zfv E S' a (zty t k) k))
    (h2 : ∀ j n : Nat, zkd S a = (14 + j, n) → j < 5 → H'[zad E a]? = some (arrV (zA E j) n (zfv E S' a (zat j)))) : zRp E S' H' := by
  obtain ⟨g1, g2, g3, g4⟩ := h
  refine ⟨by rw [hz, hn, g1], fun q hq => ?_, fun b t n hb ht => ?_, fun b j n hb hj => ?_⟩
  · rw [ho q (by unfold zad; omega)]
    exact g2 q hq
  · rw [hk] at hb
    obtain ⟨b0, ob⟩ := g3 b t n hb ht
    refine ⟨b0, ?_⟩
    by_cases e : b = a
    · subst e
      exact h1 t n hb ht
    · exact (ob.kept (ho _ (by unfold zad; omega))).to (fun k _ => (hc b e _ _).symm)
  · rw [hk] at hb
    obtain ⟨b0, bn, ob⟩ := g4 b j n hb hj
    refine ⟨b0, bn, ?_⟩
    by_cases e : b = a
    · subst e
      exact h2 j n hb hj
    · rw [ho _ (by unfold zad; omega), ob]
      congr 2
      funext k
      exact (hc b e _ _).symm
/-- one cell more -/
theorem zRp.new {E : zE} {S : zM} {H H' : Heap} {t n : Nat} (h : zRp E S H) (hz : H'.size = H.size + 1) (ho : ∀ q : Nat, q < H.size → H'[q]? = H[q]?)
    (h1 : ∀ u : Nat, t = u + 1 → u < 13 → t_OB H.size ((zD E).1 u) (zN u) ((zD E).2 u) H' (fun k => zfv E (znw S t n) (zgn S + 1) (zty u k) k))
    (h2 : ∀ j : Nat, t = 14 + j → j < 5 → n < 2 ^ 31 ∧ H'[H.size]? = some (arrV (zA E j) n (zfv E (znw S t n) (zgn S + 1) (zat j)))) : zRp E (znw S t n) H' := by
  obtain ⟨g1, g2, g3, g4⟩ := h
  have hval : ∀ b, b ≠ zgn S + 1 → ∀ ty k, zfv E (znw S t n) b ty k = zfv E S b ty k := by
    intro b hb ty k
    unfold zfv
    split <;> simp [zgI, zgL, zgP, znw, hb]
  have had : zad E (zgn S + 1) = H.size := by unfold zad; omega
  refine ⟨by rw [hz, g1]; rfl, fun q hq => ?_, fun b u w hb hu => ?_, fun b j w hb hj => ?_⟩
  · rw [ho q (by omega)]
    exact g2 q hq
  · by_cases e : b = zgn S + 1
    · subst e
      simp only [zkd, znw, if_pos, Prod.mk.injEq] at hb
      refine ⟨by omega, ?_⟩
      rw [had]
      exact h1 u hb.1 hu
    · have hb' : zkd S b = (u + 1, w) := by
        simpa [zkd, znw, e] using hb
      obtain ⟨b0, ob⟩ := g3 b u w hb' hu
      refine ⟨b0, (ob.kept (ho _ ?_)).to (fun k _ => (hval b e _ _).symm)⟩
      obtain ⟨cell, hc, -⟩ := ob
      exact (Array.getElem?_eq_some_iff.mp hc).1
  · by_cases e : b = zgn S + 1
    · subst e
      simp only [zkd, znw, if_pos, Prod.mk.injEq] at hb
      obtain ⟨k1, k2⟩ := h2 j hb.1 hj
      refine ⟨by omega, by rw [← hb.2]; exact k1, ?_⟩
      rw [had, ← hb.2]
      exact k2
    · have hb' : zkd S b = (14 + j, w) := by
        simpa [zkd, znw, e] using hb
      obtain ⟨b0, bn, ob⟩ := g4 b j w hb' hj
      refine ⟨b0, bn, ?_⟩
      rw [ho _ ((Array.getElem?_eq_some_iff.mp ob).1), ob]
      congr 2
      funext k
      exact (hval b e _ _).symm
end
section
/-! what the tables say at a state -/
def ztw (w : Cond) : Bool := match w with
  | .fieldLinkNest _ _ _ _ _ _ => true
  | .methodLinkNest _ _ _ _ => true
  | w => goodWord w
def ztys (E : zE) : List (ClassId × FieldType) := [(zA E 0, .int), (zA E 1, .long), (zA E 2, .boolean), (zA E 3, .object RX1), (zA E 4, .object RX6)]
def zTb (E : zE) (U : State) : Prop := (∀ w ∈ lw_tbl, ztw w = true → w.before #[] U = true) ∧ va_K (zD E) vwCl (ztys E) U ∧ va_AO RX1 U ∧ va_AO RX6 U ∧ (∀ s V : State, s.WarmedH V.vm → zX E s → zX E V) ∧ zX E U
theorem ztw_warm {w : Cond} {s U : State} (hW : s.WarmedH U.vm) (ht : ztw w = true) (h : w.before #[] s = true) (a : Array Value) : w.before a U = true := by
  unfold ztw at ht
  split at ht
  · exact va_Nw.use rfl (va_Nw.warmF hW h)
  · exact va_Nw.use rfl (va_Nw.warmM hW h)
  · exact word_at hW (good_of_word ht) h
theorem zTb.moved {E : zE} {s U : State} (hW : s.WarmedH U.vm) (h : zTb E s) : zTb E U :=
  ⟨fun w hm ht => ztw_warm hW ht (h.1 w hm ht) _, h.2.1.moved hW.alike, h.2.2.1.moved hW.alike, h.2.2.2.1.moved hW.alike, h.2.2.2.2.1, h.2.2.2.2.1 _ _ hW h.2.2.2.2.2⟩
theorem zTb.w {E : zE} {s : State} (h : zTb E s) {w : Cond} (hm : w ∈ lw_tbl) (ht : ztw w = true) (a : Array Value) : w.before a s = true := ztw_warm (State.WarmedH.refl s) ht (h.1 w hm ht) a
theorem zTb.ws {E : zE} {s : State} (h : zTb E s) {ws : List Cond} (hm : ∀ w ∈ ws, w ∈ lw_tbl) (ht : ∀ w ∈ ws, ztw w = true) (a : Array Value) : ∀ w ∈ ws, w.before a s = true := fun w hw => h.w (hm w hw) (ht w hw) a
/-- a method: its class, its name, how many locals, what it returns -/
abbrev zMI : Type := String × MethodName × Nat × Option FieldType
def zCx (E : zE) (M : zMI) (cc : ByteArray) (lv mc ms : Nat) (p : Program) (R : Room) (s : State) (m : MethodId) (meth : Method) (c : Code) (locs : List Loc) (cells slots mcT msT : Nat) : Prop :=
  p.tables.exec = Jvm.exec ∧ c.code = cc ∧ c.maxLocals = M.2.2.1 ∧ meth.sig.returnType = M.2.2.2 ∧ meth.locks = false ∧ meth.name = M.2.1.name ∧ s.vm.findClass M.1 = some m.cls ∧ zTb E s ∧
  lv ≤ R.frames ∧ 48 * lv ≤ R.locals ∧ (cells + mc ≤ R.cells ∧ slots + ms ≤ R.slots) ∧ (cells + mc ≤ mcT ∧ slots + ms ≤ msT) ∧ ∀ q ∈ locs, zb E ≤ q.base
def zLs (E : zE) (lsA : Array Slot) (nL : Nat) (ls : List (Option zV)) : Prop := lsA.size = nL ∧ lv_wf lsA ∧ ∀ (i : Nat) (v : zV), ls[i]? = some (some v) → lsA[i]? = some (.val (ztv E v))
def zQc (E : zE) (Q : Option zV → zM → Prop) : Array Value → State → Outcome → State → Prop := fun _ _ o t => ∃ (r : Option zV) (S : zM), o = .returned (r.map (ztv E)) ∧ zRp E S t.heap ∧ Q r S
abbrev zfr (E : zE) : Addr → Prop := fun q => zb E ≤ q
/-- from this frame, over this memory, the method comes to its end with Q; lv: how deep its calls may go; mc, ms: cells and slots that it may still make -/
def zJ (E : zE) (lv mc ms : Nat) (M : zMI) (cc : ByteArray) (pc : Nat) (ls : List (Option zV)) (st : List zV) (S : zM) (Q : Option zV → zM → Prop) : Prop :=
  ∀ (p : Program) (l : Launch) (e : Env) (R : Room) (s : State) (m : MethodId) (args : Array Value) (below : List Frame) (meth : Method) (c : Code) (H : Heap) (locs : List Loc) (cells slots mcT msT : Nat) (lsA : Array Slot),
    zCx E M cc lv mc ms p R s m meth c locs cells slots mcT msT → zRp E S H → zLs E lsA M.2.2.1 ls →
    W p l e R s m args below meth c H locs cells slots (MQ below (zQc E Q) args s mcT msT (zfr E)) (F0 m pc lsA (st.map (ztv E)))
def zPc (E : zE) (av : List zV) (S : zM) : Array Value → State → Prop := fun v U => v = (av.map (ztv E)).toArray ∧ zTb E U ∧ zRp E S U.heap
abbrev zrm (lv mc ms : Nat) : Room := { frames := lv, cells := mc, slots := ms, locals := 48 * lv }
abbrev zws (M : zMI) (cc : ByteArray) : List Cond := [.code M.2.1 cc M.2.2.1 M.2.2.2]
/-- a method's contract at these arguments over this memory -/
def zSp (E : zE) (lv mc ms : Nat) (M : zMI) (cc : ByteArray) (av : List zV) (S : zM) (Q : Option zV → zM → Prop) : Prop :=
  ∀ l : Launch, Met l M.2.1 (zws M cc) (zrm lv mc ms) (zPc E av S) (zQc E Q) mc ms (zfr E)
/-! locals at the entry -/
def zcat (v : zV) : Nat := match v with
  | .inr (.inl _) => 2
  | _ => 1
theorem ztv_cat (E : zE) (v : zV) : (ztv E v).category = zcat v := by
  rcases v with x | x | x | x
  · rfl
  · rfl
  · cases x <;> rfl
  · rfl
def zlay (av : List zV) : List (Option zV) := av.flatMap fun v => if zcat v = 2 then [some v, none] else [some v]
theorem zlay_sl (E : zE) (av : List zV) : ∀ (pre : List Slot) (lp : List (Option zV)), pre.length = lp.length → (∀ (i : Nat) (v : zV), lp[i]? = some (some v) → pre[i]? = some (.val (ztv E v))) →
    (pre ++ lg_sl (av.map (ztv E))).length = (lp ++ zlay av).length ∧ ∀ (i : Nat) (v : zV), (lp ++ zlay av)[i]? = some (some v) → (pre ++ lg_sl (av.map (ztv E)))[i]? = some (.val (ztv E v)) := by
  induction av with
  | nil =>
    intro pre lp h1 h2
    simpa [lg_sl, zlay] using ⟨h1, h2⟩
  | cons a av ih =>
    intro pre lp h1 h2
    by_cases hc : zcat a = 2
    · have e1 : pre ++ lg_sl ((a :: av).map (ztv E)) = (pre ++ [.val (ztv E a), .second]) ++ lg_sl (av.map (ztv E)) := by
        simp [lg_sl, ztv_cat, hc]
      have e2 : lp ++ zlay (a :: av) = (lp ++ [some a, none]) ++ zlay av := by
        simp [zlay, hc]
      rw [e1, e2]
      refine ih _ _ (by simp [h1]) fun i v h => ?_
      by_cases hi : i < lp.length
      · rw [List.getElem?_append_left hi] at h
        rw [List.getElem?_append_left (by omega)]
        exact h2 i v h
      · rw [List.getElem?_append_right (by omega)] at h
        rw [List.getElem?_append_right (by omega), h1]
        match hk : i - lp.length, h with
        | 0, h => simp at h; subst h; rfl
        | 1, h => simp at h
        | k + 2, h => simp at h
    · have e1 : pre ++ lg_sl ((a :: av).map (ztv E)) = (pre ++ [.val (ztv E a)]) ++ lg_sl (av.map (ztv E)) := by
        simp [lg_sl, ztv_cat, hc]
      have e2 : lp ++ zlay (a :: av) = (lp ++ [some a]) ++ zlay av := by
        simp [zlay, hc]
      rw [e1, e2]
      refine ih _ _ (by simp [h1]) fun i v h => ?_
      by_cases hi : i < lp.length
      · rw [List.getElem?_append_left hi] at h
        rw [List.getElem?_append_left (by omega)]
        exact h2 i v h
      · rw [List.getElem?_append_right (by omega)] at h
        rw [List.getElem?_append_right (by omega), h1]
        match hk : i - lp.length, h with
        | 0, h => simp at h; subst h; rfl
        | k + 1, h => simp at h
/-- a contract out of the walk of its body -/
theorem zSp.of {E : zE} {lv mc ms : Nat} {M : zMI} {cc : ByteArray} {av : List zV} {S : zM} {Q : Option zV → zM → Prop} (hy : plainName M.2.1.cls = true) (ho : M.2.1.cls = M.1) (hl : (zlay av).length ≤ M.2.2.1) {ls : List (Option zV)} (hls : zlay av ++ List.replicate (M.2.2.1 - (zlay av).length) none = ls)
    (k : zJ E lv mc ms M cc 0 ls [] S Q) : zSp E lv mc ms M cc av S Q := by
  intro l
  refine Met.ofW (cc := cc) (maxL := M.2.2.1) (ret := M.2.2.2) hy rfl ?_
  intro p e s m args below meth c s₁ B hml hv
  obtain ⟨rfl, hT, hP⟩ := hv
  have hown : s.vm.findClass M.1 = some m.cls := by rw [← ho]; exact findClass_of_methodNamed B.named
  obtain ⟨hlen, hget⟩ := zlay_sl E av [] [] rfl (fun i v h => by simp at h)
  simp only [List.nil_append] at hlen hget
  have hle := lv_entry (av.map (ztv E)) (n := M.2.2.1) (by omega)
  rw [lg_entry_eq]
  refine k p l e _ s m _ below meth c s.heap [] 0 0 mc ms _ ⟨B.exec, B.bytes, hml, B.returns, B.notSynchronized, (name_of_methodNamed B.named B.method).1, hown, hT, Nat.le_refl _, Nat.le_refl _, ⟨Nat.le_of_eq (Nat.zero_add _), Nat.le_of_eq (Nat.zero_add _)⟩, ⟨Nat.le_of_eq (Nat.zero_add _), Nat.le_of_eq (Nat.zero_add _)⟩, fun q h => by simp at h⟩ hP ⟨hle.1, hle.2.1, fun i v h => ?_⟩
  subst hls
  rw [List.getElem?_toArray]
  by_cases hi : i < (zlay av).length
  · rw [List.getElem?_append_left hi] at h
    rw [List.getElem?_append_left (by omega)]
    exact hget i v h
  · rw [List.getElem?_append_right (by omega)] at h
    simp [List.getElem?_replicate] at h
/-- less may be asked, and more be given -/
theorem zJ.post {E : zE} {lv mc ms : Nat} {M : zMI} {cc : ByteArray} {pc : Nat} {ls : List (Option zV)} {st : List zV} {S : zM} {Q Q' : Option zV → zM → Prop} (k : zJ E lv mc ms M cc pc ls st S Q') (h : ∀ r T, Q' r T → Q r T) : zJ E lv mc ms M cc pc ls st S Q := by
  intro p l e R s m args below meth c H locs cells slots mcT msT lsA C hP hL T hT X
  obtain ⟨t, a1, o, b1, b2, ⟨r, S', c1, c2, c3⟩, b4⟩ := k p l e R s m args below meth c H locs cells slots mcT msT lsA C hP hL T hT X
  exact ⟨t, a1, o, b1, b2, ⟨r, S', c1, c2, h r S' c3⟩, b4⟩
theorem zCx.less {E : zE} {M : zMI} {cc : ByteArray} {lv mc ms mc2 ms2 : Nat} {p : Program} {R : Room} {s : State} {m : MethodId} {meth : Method} {c : Code} {locs : List Loc} {cells slots mcT msT : Nat} (C : zCx E M cc lv mc ms p R s m meth c locs cells slots mcT msT) (h1 : mc2 ≤ mc) (h2 : ms2 ≤ ms) : zCx E M cc lv mc2 ms2 p R s m meth c locs cells slots mcT msT := by
  obtain ⟨c1, c2, c3, c4, c5, c6, c7, c8, c9, c10, ⟨c11, c12⟩, ⟨c13, c14⟩, c15⟩ := C
  exact ⟨c1, c2, c3, c4, c5, c6, c7, c8, c9, c10, ⟨by omega, by omega⟩, ⟨by omega, by omega⟩, c15⟩
theorem zJ.less {E : zE} {lv mc ms mc2 ms2 : Nat} {M : zMI} {cc : ByteArray} {pc : Nat} {ls : List (Option zV)} {st : List zV} {S : zM} {Q : Option zV → zM → Prop} (h1 : mc2 ≤ mc) (h2 : ms2 ≤ ms) (k : zJ E lv mc2 ms2 M cc pc ls st S Q) : zJ E lv mc ms M cc pc ls st S Q := by
  intro p l e R s m args below meth c H locs cells slots mcT msT lsA C hP hL
  exact k p l e R s m args below meth c H locs cells slots mcT msT lsA (C.less h1 h2) hP hL
/-- fewer locals are known -/
theorem zJ.drop {E : zE} {lv mc ms : Nat} {M : zMI} {cc : ByteArray} {pc : Nat} {ls ls' : List (Option zV)} {st : List zV} {S : zM} {Q : Option zV → zM → Prop} (h : ∀ (i : Nat) (v : zV), ls'[i]? = some (some v) → ls[i]? = some (some v)) (k : zJ E lv mc ms M cc pc ls' st S Q) : zJ E lv mc ms M cc pc ls st S Q := by
  intro p l e R s m args below meth c H locs cells slots mcT msT lsA C hP hL
  exact k p l e R s m args below meth c H locs cells slots mcT msT lsA C hP ⟨hL.1, hL.2.1, fun i v q => hL.2.2 i v (h i v q)⟩
theorem zSp.post {E : zE} {lv mc ms : Nat} {M : zMI} {cc : ByteArray} {av : List zV} {S : zM} {Q Q' : Option zV → zM → Prop} (k : zSp E lv mc ms M cc av S Q') (h : ∀ r T, Q' r T → Q r T) : zSp E lv mc ms M cc av S Q := by
  intro l p e ha hc hk s m args below hf hap hP hK
  obtain ⟨t, o, h1, h2, h3, ⟨r, S', c1, c2, c3⟩, h5⟩ := k l p e ha hc hk s m args below hf hap hP hK
  exact ⟨t, o, h1, h2, h3, ⟨r, S', c1, c2, h r S' c3⟩, h5⟩
end
section
section ZRULES
variable {E : zE} {lv mc ms : Nat} {M : zMI} {cc : ByteArray} {pc : Nat} {ls : List (Option zV)} {st : List zV} {S : zM} {Q : Option zV → zM → Prop}
theorem j_iconst {n : Int} {v : Int32} (hd : decode cc pc = .ok (.iconst n, 1)) (hv : Int32.ofInt n = v) (k : zJ E lv mc ms M cc (pc + 1) ls (zI v :: st) S Q) : zJ E lv mc ms M cc pc ls st S Q := by
  intro p l e R s m args below meth c H locs cells slots mcT msT lsA C hP hL
  exact lv_iconst C.1 C.2.1 hd hv (k p l e R s m args below meth c H locs cells slots mcT msT lsA C hP hL)
theorem j_bipush {n : Int} {v : Int32} (hd : decode cc pc = .ok (.bipush n, 2)) (hv : (Int8.ofInt n).toInt32 = v) (k : zJ E lv mc ms M cc (pc + 2) ls (zI v :: st) S Q) : zJ E lv mc ms M cc pc ls st S Q := by
  intro p l e R s m args below meth c H locs cells slots mcT msT lsA C hP hL
  exact lv_bipush C.1 C.2.1 hd hv (k p l e R s m args below meth c H locs cells slots mcT msT lsA C hP hL)
theorem j_sipush {n : Int} {v : Int32} (hd : decode cc pc = .ok (.sipush n, 3)) (hv : (Int16.ofInt n).toInt32 = v) (k : zJ E lv mc ms M cc (pc + 3) ls (zI v :: st) S Q) : zJ E lv mc ms M cc pc ls st S Q := by
  intro p l e R s m args below meth c H locs cells slots mcT msT lsA C hP hL
  exact lv_sipush C.1 C.2.1 hd hv (k p l e R s m args below meth c H locs cells slots mcT msT lsA C hP hL)
theorem j_lconst {n : Fin 2} {v : Int64} (hd : decode cc pc = .ok (.lconst n, 1)) (hv : Int64.ofNat (n : Nat) = v) (k : zJ E lv mc ms M cc (pc + 1) ls (zL v :: st) S Q) : zJ E lv mc ms M cc pc ls st S Q := by
  intro p l e R s m args below meth c H locs cells slots mcT msT lsA C hP hL
  exact lv_lconst C.1 C.2.1 hd hv (k p l e R s m args below meth c H locs cells slots mcT msT lsA C hP hL)
theorem j_null  (hd : decode cc pc = .ok (.aconst_null, 1))  (k : zJ E lv mc ms M cc (pc + 1) ls (zR 0 :: st) S Q) : zJ E lv mc ms M cc pc ls st S Q := by
  intro p l e R s m args below meth c H locs cells slots mcT msT lsA C hP hL
  exact lv_null C.1 C.2.1 hd (k p l e R s m args below meth c H locs cells slots mcT msT lsA C hP hL)
theorem j_ldcI {i : Nat} {v : Int32} (hd : decode cc pc = .ok (.ldc i, 2)) (hc : Cond.constant M.1 i v ∈ lw_tbl) (k : zJ E lv mc ms M cc (pc + 2) ls (zI v :: st) S Q) : zJ E lv mc ms M cc pc ls st S Q := by
  intro p l e R s m args below meth c H locs cells slots mcT msT lsA C hP hL
  exact lv_ldc C.1 C.2.1 C.2.2.2.2.2.2.1 (C.2.2.2.2.2.2.2.1.w hc rfl _) hd (k p l e R s m args below meth c H locs cells slots mcT msT lsA C hP hL)
theorem j_ldcL {i : Nat} {v : Int64} (hd : decode cc pc = .ok (.ldc2_w i, 3)) (hc : Cond.constantLong M.1 i v ∈ lw_tbl) (k : zJ E lv mc ms M cc (pc + 3) ls (zL v :: st) S Q) : zJ E lv mc ms M cc pc ls st S Q := by
  intro p l e R s m args below meth c H locs cells slots mcT msT lsA C hP hL
  exact lv_ldc2 C.1 C.2.1 C.2.2.2.2.2.2.1 (C.2.2.2.2.2.2.2.1.w hc rfl _) hd (k p l e R s m args below meth c H locs cells slots mcT msT lsA C hP hL)
theorem j_iload_n {n : Fin 4} {x : Int32} (hd : decode cc pc = .ok (.iload_n n, 1)) (hl : ls[(n : Nat)]? = some (some (zI x))) (k : zJ E lv mc ms M cc (pc + 1) ls (zI x :: st) S Q) : zJ E lv mc ms M cc pc ls st S Q := by
  intro p l e R s m args below meth c H locs cells slots mcT msT lsA C hP hL
  exact lv_iload_n C.1 C.2.1 hd rfl (hL.2.2 _ _ hl) (k p l e R s m args below meth c H locs cells slots mcT msT lsA C hP hL)
theorem j_iload {i : Nat} {x : Int32} (hd : decode cc pc = .ok (.iload i, 2)) (hl : ls[i]? = some (some (zI x))) (k : zJ E lv mc ms M cc (pc + 2) ls (zI x :: st) S Q) : zJ E lv mc ms M cc pc ls st S Q := by
  intro p l e R s m args below meth c H locs cells slots mcT msT lsA C hP hL
  exact lv_iload C.1 C.2.1 hd (hL.2.2 _ _ hl) (k p l e R s m args below meth c H locs cells slots mcT msT lsA C hP hL)
theorem j_lload_n {n : Fin 4} {x : Int64} (hd : decode cc pc = .ok (.lload_n n, 1)) (hl : ls[(n : Nat)]? = some (some (zL x))) (k : zJ E lv mc ms M cc (pc + 1) ls (zL x :: st) S Q) : zJ E lv mc ms M cc pc ls st S Q := by
  intro p l e R s m args below meth c H locs cells slots mcT msT lsA C hP hL
  exact lv_lload_n C.1 C.2.1 hd rfl (hL.2.2 _ _ hl) (k p l e R s m args below meth c H locs cells slots mcT msT lsA C hP hL)
theorem j_lload {i : Nat} {x : Int64} (hd : decode cc pc = .ok (.lload i, 2)) (hl : ls[i]? = some (some (zL x))) (k : zJ E lv mc ms M cc (pc + 2) ls (zL x :: st) S Q) : zJ E lv mc ms M cc pc ls st S Q := by
  intro p l e R s m args below meth c H locs cells slots mcT msT lsA C hP hL
  exact lv_lload C.1 C.2.1 hd (hL.2.2 _ _ hl) (k p l e R s m args below meth c H locs cells slots mcT msT lsA C hP hL)
theorem j_aload_n {n : Fin 4} {x : Nat} (hd : decode cc pc = .ok (.aload_n n, 1)) (hl : ls[(n : Nat)]? = some (some (zR x))) (k : zJ E lv mc ms M cc (pc + 1) ls (zR x :: st) S Q) : zJ E lv mc ms M cc pc ls st S Q := by
  intro p l e R s m args below meth c H locs cells slots mcT msT lsA C hP hL
  have h := hL.2.2 _ _ hl
  cases x with
  | zero => exact lv_aload_nN C.1 C.2.1 hd rfl h (k p l e R s m args below meth c H locs cells slots mcT msT lsA C hP hL)
  | succ x => exact lv_aload_n C.1 C.2.1 hd rfl h (k p l e R s m args below meth c H locs cells slots mcT msT lsA C hP hL)
theorem j_aload {i : Nat} {x : Nat} (hd : decode cc pc = .ok (.aload i, 2)) (hl : ls[i]? = some (some (zR x))) (k : zJ E lv mc ms M cc (pc + 2) ls (zR x :: st) S Q) : zJ E lv mc ms M cc pc ls st S Q := by
  intro p l e R s m args below meth c H locs cells slots mcT msT lsA C hP hL
  have h := hL.2.2 _ _ hl
  cases x with
  | zero => exact lv_aloadN C.1 C.2.1 hd h (k p l e R s m args below meth c H locs cells slots mcT msT lsA C hP hL)
  | succ x => exact lv_aload C.1 C.2.1 hd h (k p l e R s m args below meth c H locs cells slots mcT msT lsA C hP hL)
theorem j_aload_nq {n : Fin 4} {x : Nat} (hd : decode cc pc = .ok (.aload_n n, 1)) (hl : ls[(n : Nat)]? = some (some (zQ x))) (k : zJ E lv mc ms M cc (pc + 1) ls (zQ x :: st) S Q) : zJ E lv mc ms M cc pc ls st S Q := by
  intro p l e R s m args below meth c H locs cells slots mcT msT lsA C hP hL
  exact lv_aload_n C.1 C.2.1 hd rfl (hL.2.2 _ _ hl) (k p l e R s m args below meth c H locs cells slots mcT msT lsA C hP hL)
theorem j_iadd {x y : Int32} (hd : decode cc pc = .ok (.iadd, 1))  (k : zJ E lv mc ms M cc (pc + 1) ls (zI (x + y) :: st) S Q) : zJ E lv mc ms M cc pc ls (zI y :: zI x :: st) S Q := by
  intro p l e R s m args below meth c H locs cells slots mcT msT lsA C hP hL
  exact lv_iadd C.1 C.2.1 hd (k p l e R s m args below meth c H locs cells slots mcT msT lsA C hP hL)
theorem j_isub {x y : Int32} (hd : decode cc pc = .ok (.isub, 1))  (k : zJ E lv mc ms M cc (pc + 1) ls (zI (x - y) :: st) S Q) : zJ E lv mc ms M cc pc ls (zI y :: zI x :: st) S Q := by
  intro p l e R s m args below meth c H locs cells slots mcT msT lsA C hP hL
  exact lv_isub C.1 C.2.1 hd (k p l e R s m args below meth c H locs cells slots mcT msT lsA C hP hL)
theorem j_imul {x y : Int32} (hd : decode cc pc = .ok (.imul, 1))  (k : zJ E lv mc ms M cc (pc + 1) ls (zI (x * y) :: st) S Q) : zJ E lv mc ms M cc pc ls (zI y :: zI x :: st) S Q := by
  intro p l e R s m args below meth c H locs cells slots mcT msT lsA C hP hL
  exact lv_imul C.1 C.2.1 hd (k p l e R s m args below meth c H locs cells slots mcT msT lsA C hP hL)
theorem j_iand {x y : Int32} (hd : decode cc pc = .ok (.iand, 1))  (k : zJ E lv mc ms M cc (pc + 1) ls (zI (x &&& y) :: st) S Q) : zJ E lv mc ms M cc pc ls (zI y :: zI x :: st) S Q := by
  intro p l e R s m args below meth c H locs cells slots mcT msT lsA C hP hL
  exact lv_iand C.1 C.2.1 hd (k p l e R s m args below meth c H locs cells slots mcT msT lsA C hP hL)
theorem j_ior {x y : Int32} (hd : decode cc pc = .ok (.ior, 1))  (k : zJ E lv mc ms M cc (pc + 1) ls (zI (x ||| y) :: st) S Q) : zJ E lv mc ms M cc pc ls (zI y :: zI x :: st) S Q := by
  intro p l e R s m args below meth c H locs cells slots mcT msT lsA C hP hL
  exact lv_ior C.1 C.2.1 hd (k p l e R s m args below meth c H locs cells slots mcT msT lsA C hP hL)
theorem j_ixor {x y : Int32} (hd : decode cc pc = .ok (.ixor, 1))  (k : zJ E lv mc ms M cc (pc + 1) ls (zI (x ^^^ y) :: st) S Q) : zJ E lv mc ms M cc pc ls (zI y :: zI x :: st) S Q := by
  intro p l e R s m args below meth c H locs cells slots mcT msT lsA C hP hL
  exact lv_ixor C.1 C.2.1 hd (k p l e R s m args below meth c H locs cells slots mcT msT lsA C hP hL)
theorem j_ishl {x y : Int32} (hd : decode cc pc = .ok (.ishl, 1))  (k : zJ E lv mc ms M cc (pc + 1) ls (zI (x <<< (y &&& 31)) :: st) S Q) : zJ E lv mc ms M cc pc ls (zI y :: zI x :: st) S Q := by
  intro p l e R s m args below meth c H locs cells slots mcT msT lsA C hP hL
  exact lv_ishl C.1 C.2.1 hd (k p l e R s m args below meth c H locs cells slots mcT msT lsA C hP hL)
theorem j_ishr {x y : Int32} (hd : decode cc pc = .ok (.ishr, 1))  (k : zJ E lv mc ms M cc (pc + 1) ls (zI (x >>> (y &&& 31)) :: st) S Q) : zJ E lv mc ms M cc pc ls (zI y :: zI x :: st) S Q := by
  intro p l e R s m args below meth c H locs cells slots mcT msT lsA C hP hL
  exact lv_ishr C.1 C.2.1 hd (k p l e R s m args below meth c H locs cells slots mcT msT lsA C hP hL)
theorem j_idiv {x y : Int32} (hd : decode cc pc = .ok (.idiv, 1)) (hne : ¬ y = 0) (k : zJ E lv mc ms M cc (pc + 1) ls (zI (x / y) :: st) S Q) : zJ E lv mc ms M cc pc ls (zI y :: zI x :: st) S Q := by
  intro p l e R s m args below meth c H locs cells slots mcT msT lsA C hP hL
  exact lv_idiv C.1 C.2.1 hd hne (k p l e R s m args below meth c H locs cells slots mcT msT lsA C hP hL)
theorem j_irem {x y : Int32} (hd : decode cc pc = .ok (.irem, 1)) (hne : ¬ y = 0) (k : zJ E lv mc ms M cc (pc + 1) ls (zI (x - x / y * y) :: st) S Q) : zJ E lv mc ms M cc pc ls (zI y :: zI x :: st) S Q := by
  intro p l e R s m args below meth c H locs cells slots mcT msT lsA C hP hL
  exact lv_irem C.1 C.2.1 hd hne (k p l e R s m args below meth c H locs cells slots mcT msT lsA C hP hL)
theorem j_ineg {x : Int32} (hd : decode cc pc = .ok (.ineg, 1))  (k : zJ E lv mc ms M cc (pc + 1) ls (zI (-x) :: st) S Q) : zJ E lv mc ms M cc pc ls (zI x :: st) S Q := by
  intro p l e R s m args below meth c H locs cells slots mcT msT lsA C hP hL
  exact lv_ineg C.1 C.2.1 hd (k p l e R s m args below meth c H locs cells slots mcT msT lsA C hP hL)
theorem j_ladd {x y : Int64} (hd : decode cc pc = .ok (.ladd, 1))  (k : zJ E lv mc ms M cc (pc + 1) ls (zL (x + y) :: st) S Q) : zJ E lv mc ms M cc pc ls (zL y :: zL x :: st) S Q := by
  intro p l e R s m args below meth c H locs cells slots mcT msT lsA C hP hL
  exact lv_ladd C.1 C.2.1 hd (k p l e R s m args below meth c H locs cells slots mcT msT lsA C hP hL)
theorem j_lsub {x y : Int64} (hd : decode cc pc = .ok (.lsub, 1))  (k : zJ E lv mc ms M cc (pc + 1) ls (zL (x - y) :: st) S Q) : zJ E lv mc ms M cc pc ls (zL y :: zL x :: st) S Q := by
  intro p l e R s m args below meth c H locs cells slots mcT msT lsA C hP hL
  exact lv_lsub C.1 C.2.1 hd (k p l e R s m args below meth c H locs cells slots mcT msT lsA C hP hL)
theorem j_lmul {x y : Int64} (hd : decode cc pc = .ok (.lmul, 1))  (k : zJ E lv mc ms M cc (pc + 1) ls (zL (x * y) :: st) S Q) : zJ E lv mc ms M cc pc ls (zL y :: zL x :: st) S Q := by
  intro p l e R s m args below meth c H locs cells slots mcT msT lsA C hP hL
  exact lv_lmul C.1 C.2.1 hd (k p l e R s m args below meth c H locs cells slots mcT msT lsA C hP hL)
theorem j_land {x y : Int64} (hd : decode cc pc = .ok (.land, 1))  (k : zJ E lv mc ms M cc (pc + 1) ls (zL (x &&& y) :: st) S Q) : zJ E lv mc ms M cc pc ls (zL y :: zL x :: st) S Q := by
  intro p l e R s m args below meth c H locs cells slots mcT msT lsA C hP hL
  exact lv_land C.1 C.2.1 hd (k p l e R s m args below meth c H locs cells slots mcT msT lsA C hP hL)
theorem j_lor {x y : Int64} (hd : decode cc pc = .ok (.lor, 1))  (k : zJ E lv mc ms M cc (pc + 1) ls (zL (x ||| y) :: st) S Q) : zJ E lv mc ms M cc pc ls (zL y :: zL x :: st) S Q := by
  intro p l e R s m args below meth c H locs cells slots mcT msT lsA C hP hL
  exact lv_lor C.1 C.2.1 hd (k p l e R s m args below meth c H locs cells slots mcT msT lsA C hP hL)
theorem j_lneg {x : Int64} (hd : decode cc pc = .ok (.lneg, 1))  (k : zJ E lv mc ms M cc (pc + 1) ls (zL (-x) :: st) S Q) : zJ E lv mc ms M cc pc ls (zL x :: st) S Q := by
  intro p l e R s m args below meth c H locs cells slots mcT msT lsA C hP hL
  exact lv_lneg C.1 C.2.1 hd (k p l e R s m args below meth c H locs cells slots mcT msT lsA C hP hL)
theorem j_lshl {x : Int64} {y : Int32} (hd : decode cc pc = .ok (.lshl, 1))  (k : zJ E lv mc ms M cc (pc + 1) ls (zL (x <<< (y.toInt64 &&& 63)) :: st) S Q) : zJ E lv mc ms M cc pc ls (zI y :: zL x :: st) S Q := by
  intro p l e R s m args below meth c H locs cells slots mcT msT lsA C hP hL
  exact lv_lshl C.1 C.2.1 hd rfl (k p l e R s m args below meth c H locs cells slots mcT msT lsA C hP hL)
theorem j_lshr {x : Int64} {y : Int32} (hd : decode cc pc = .ok (.lshr, 1))  (k : zJ E lv mc ms M cc (pc + 1) ls (zL (x >>> (y.toInt64 &&& 63)) :: st) S Q) : zJ E lv mc ms M cc pc ls (zI y :: zL x :: st) S Q := by
  intro p l e R s m args below meth c H locs cells slots mcT msT lsA C hP hL
  exact lv_lshr C.1 C.2.1 hd rfl (k p l e R s m args below meth c H locs cells slots mcT msT lsA C hP hL)
theorem j_lcmp {x y : Int64} (hd : decode cc pc = .ok (.lcmp, 1))  (k : zJ E lv mc ms M cc (pc + 1) ls (zI (lg_cmp x y) :: st) S Q) : zJ E lv mc ms M cc pc ls (zL y :: zL x :: st) S Q := by
  intro p l e R s m args below meth c H locs cells slots mcT msT lsA C hP hL
  exact W.lcmp C.1 C.2.1 hd (k p l e R s m args below meth c H locs cells slots mcT msT lsA C hP hL)
theorem j_i2l {x : Int32} (hd : decode cc pc = .ok (.i2l, 1))  (k : zJ E lv mc ms M cc (pc + 1) ls (zL x.toInt64 :: st) S Q) : zJ E lv mc ms M cc pc ls (zI x :: st) S Q := by
  intro p l e R s m args below meth c H locs cells slots mcT msT lsA C hP hL
  exact lv_i2l C.1 C.2.1 hd rfl (k p l e R s m args below meth c H locs cells slots mcT msT lsA C hP hL)
theorem j_l2i {x : Int64} (hd : decode cc pc = .ok (.l2i, 1))  (k : zJ E lv mc ms M cc (pc + 1) ls (zI x.toInt32 :: st) S Q) : zJ E lv mc ms M cc pc ls (zL x :: st) S Q := by
  intro p l e R s m args below meth c H locs cells slots mcT msT lsA C hP hL
  exact lv_l2i C.1 C.2.1 hd rfl (k p l e R s m args below meth c H locs cells slots mcT msT lsA C hP hL)
theorem j_i2c {x : Int32} (hd : decode cc pc = .ok (.i2c, 1))  (k : zJ E lv mc ms M cc (pc + 1) ls (zI (x.toUInt32 % 65536).toInt32 :: st) S Q) : zJ E lv mc ms M cc pc ls (zI x :: st) S Q := by
  intro p l e R s m args below meth c H locs cells slots mcT msT lsA C hP hL
  exact lv_i2c C.1 C.2.1 hd rfl (k p l e R s m args below meth c H locs cells slots mcT msT lsA C hP hL)
theorem j_dup {v : zV} (hd : decode cc pc = .ok (.dup, 1)) (hv : zcat v = 1) (k : zJ E lv mc ms M cc (pc + 1) ls (v :: v :: st) S Q) : zJ E lv mc ms M cc pc ls (v :: st) S Q := by
  intro p l e R s m args below meth c H locs cells slots mcT msT lsA C hP hL
  exact lv_dup C.1 C.2.1 hd ((ztv_cat E v).trans hv) (k p l e R s m args below meth c H locs cells slots mcT msT lsA C hP hL)
theorem j_pop {v : zV} (hd : decode cc pc = .ok (.pop, 1)) (hv : zcat v = 1) (k : zJ E lv mc ms M cc (pc + 1) ls st S Q) : zJ E lv mc ms M cc pc ls (v :: st) S Q := by
  intro p l e R s m args below meth c H locs cells slots mcT msT lsA C hP hL
  exact lv_pop C.1 C.2.1 hd ((ztv_cat E v).trans hv) (k p l e R s m args below meth c H locs cells slots mcT msT lsA C hP hL)
theorem j_dup2 {v w : zV} (hd : decode cc pc = .ok (.dup2, 1)) (hv : zcat v = 1) (hw : zcat w = 1) (k : zJ E lv mc ms M cc (pc + 1) ls (v :: w :: v :: w :: st) S Q) : zJ E lv mc ms M cc pc ls (v :: w :: st) S Q := by
  intro p l e R s m args below meth c H locs cells slots mcT msT lsA C hP hL
  exact lv_dup2_11 C.1 C.2.1 hd ((ztv_cat E v).trans hv) ((ztv_cat E w).trans hw) (k p l e R s m args below meth c H locs cells slots mcT msT lsA C hP hL)
theorem j_if_eq {x : Int32} {off : Int} {tgt : Nat} (hd : decode cc pc = .ok (.ifCond .eq off, 3)) (ht : (pc : Int) + off = (tgt : Int)) (kt : (x = 0) → zJ E lv mc ms M cc tgt ls st S Q) (kf : ¬ (x = 0) → zJ E lv mc ms M cc (pc + 3) ls st S Q) : zJ E lv mc ms M cc pc ls (zI x :: st) S Q := by
  intro p l e R s m args below meth c H locs cells slots mcT msT lsA C hP hL
  exact lv_if_eq C.1 C.2.1 hd ht (fun h => kt h p l e R s m args below meth c H locs cells slots mcT msT lsA C hP hL) (fun h => kf h p l e R s m args below meth c H locs cells slots mcT msT lsA C hP hL)
theorem j_if_ne {x : Int32} {off : Int} {tgt : Nat} (hd : decode cc pc = .ok (.ifCond .ne off, 3)) (ht : (pc : Int) + off = (tgt : Int)) (kt : (¬ x = 0) → zJ E lv mc ms M cc tgt ls st S Q) (kf : (x = 0) → zJ E lv mc ms M cc (pc + 3) ls st S Q) : zJ E lv mc ms M cc pc ls (zI x :: st) S Q := by
  intro p l e R s m args below meth c H locs cells slots mcT msT lsA C hP hL
  exact lv_if_ne C.1 C.2.1 hd ht (fun h => kt h p l e R s m args below meth c H locs cells slots mcT msT lsA C hP hL) (fun h => kf h p l e R s m args below meth c H locs cells slots mcT msT lsA C hP hL)
theorem j_if_lt {x : Int32} {off : Int} {tgt : Nat} (hd : decode cc pc = .ok (.ifCond .lt off, 3)) (ht : (pc : Int) + off = (tgt : Int)) (kt : (x < 0) → zJ E lv mc ms M cc tgt ls st S Q) (kf : ¬ (x < 0) → zJ E lv mc ms M cc (pc + 3) ls st S Q) : zJ E lv mc ms M cc pc ls (zI x :: st) S Q := by
  intro p l e R s m args below meth c H locs cells slots mcT msT lsA C hP hL
  exact lv_if_lt C.1 C.2.1 hd ht (fun h => kt h p l e R s m args below meth c H locs cells slots mcT msT lsA C hP hL) (fun h => kf h p l e R s m args below meth c H locs cells slots mcT msT lsA C hP hL)
theorem j_if_ge {x : Int32} {off : Int} {tgt : Nat} (hd : decode cc pc = .ok (.ifCond .ge off, 3)) (ht : (pc : Int) + off = (tgt : Int)) (kt : (0 ≤ x) → zJ E lv mc ms M cc tgt ls st S Q) (kf : ¬ (0 ≤ x) → zJ E lv mc ms M cc (pc + 3) ls st S Q) : zJ E lv mc ms M cc pc ls (zI x :: st) S Q := by
  intro p l e R s m args below meth c H locs cells slots mcT msT lsA C hP hL
  exact lv_if_ge C.1 C.2.1 hd ht (fun h => kt h p l e R s m args below meth c H locs cells slots mcT msT lsA C hP hL) (fun h => kf h p l e R s m args below meth c H locs cells slots mcT msT lsA C hP hL)
theorem j_if_gt {x : Int32} {off : Int} {tgt : Nat} (hd : decode cc pc = .ok (.ifCond .gt off, 3)) (ht : (pc : Int) + off = (tgt : Int)) (kt : (0 < x) → zJ E lv mc ms M cc tgt ls st S Q) (kf : ¬ (0 < x) → zJ E lv mc ms M cc (pc + 3) ls st S Q) : zJ E lv mc ms M cc pc ls (zI x :: st) S Q := by
  intro p l e R s m args below meth c H locs cells slots mcT msT lsA C hP hL
  exact lv_if_gt C.1 C.2.1 hd ht (fun h => kt h p l e R s m args below meth c H locs cells slots mcT msT lsA C hP hL) (fun h => kf h p l e R s m args below meth c H locs cells slots mcT msT lsA C hP hL)
theorem j_if_le {x : Int32} {off : Int} {tgt : Nat} (hd : decode cc pc = .ok (.ifCond .le off, 3)) (ht : (pc : Int) + off = (tgt : Int)) (kt : (x ≤ 0) → zJ E lv mc ms M cc tgt ls st S Q) (kf : ¬ (x ≤ 0) → zJ E lv mc ms M cc (pc + 3) ls st S Q) : zJ E lv mc ms M cc pc ls (zI x :: st) S Q := by
  intro p l e R s m args below meth c H locs cells slots mcT msT lsA C hP hL
  exact lv_if_le C.1 C.2.1 hd ht (fun h => kt h p l e R s m args below meth c H locs cells slots mcT msT lsA C hP hL) (fun h => kf h p l e R s m args below meth c H locs cells slots mcT msT lsA C hP hL)
theorem j_icmp_eq {x y : Int32} {off : Int} {tgt : Nat} (hd : decode cc pc = .ok (.if_icmp .eq off, 3)) (ht : (pc : Int) + off = (tgt : Int)) (kt : (x = y) → zJ E lv mc ms M cc tgt ls st S Q) (kf : ¬ (x = y) → zJ E lv mc ms M cc (pc + 3) ls st S Q) : zJ E lv mc ms M cc pc ls (zI y :: zI x :: st) S Q := by
  intro p l e R s m args below meth c H locs cells slots mcT msT lsA C hP hL
  exact lv_icmp_eq C.1 C.2.1 hd ht (fun h => kt h p l e R s m args below meth c H locs cells slots mcT msT lsA C hP hL) (fun h => kf h p l e R s m args below meth c H locs cells slots mcT msT lsA C hP hL)
theorem j_icmp_ne {x y : Int32} {off : Int} {tgt : Nat} (hd : decode cc pc = .ok (.if_icmp .ne off, 3)) (ht : (pc : Int) + off = (tgt : Int)) (kt : (¬ x = y) → zJ E lv mc ms M cc tgt ls st S Q) (kf : (x = y) → zJ E lv mc ms M cc (pc + 3) ls st S Q) : zJ E lv mc ms M cc pc ls (zI y :: zI x :: st) S Q := by
  intro p l e R s m args below meth c H locs cells slots mcT msT lsA C hP hL
  exact lv_icmp_ne C.1 C.2.1 hd ht (fun h => kt h p l e R s m args below meth c H locs cells slots mcT msT lsA C hP hL) (fun h => kf h p l e R s m args below meth c H locs cells slots mcT msT lsA C hP hL)
theorem j_icmp_lt {x y : Int32} {off : Int} {tgt : Nat} (hd : decode cc pc = .ok (.if_icmp .lt off, 3)) (ht : (pc : Int) + off = (tgt : Int)) (kt : (x < y) → zJ E lv mc ms M cc tgt ls st S Q) (kf : ¬ (x < y) → zJ E lv mc ms M cc (pc + 3) ls st S Q) : zJ E lv mc ms M cc pc ls (zI y :: zI x :: st) S Q := by
  intro p l e R s m args below meth c H locs cells slots mcT msT lsA C hP hL
  exact lv_icmp_lt C.1 C.2.1 hd ht (fun h => kt h p l e R s m args below meth c H locs cells slots mcT msT lsA C hP hL) (fun h => kf h p l e R s m args below meth c H locs cells slots mcT msT lsA C hP hL)
theorem j_icmp_ge {x y : Int32} {off : Int} {tgt : Nat} (hd : decode cc pc = .ok (.if_icmp .ge off, 3)) (ht : (pc : Int) + off = (tgt : Int)) (kt : (y ≤ x) → zJ E lv mc ms M cc tgt ls st S Q) (kf : ¬ (y ≤ x) → zJ E lv mc ms M cc (pc + 3) ls st S Q) : zJ E lv mc ms M cc pc ls (zI y :: zI x :: st) S Q := by
  intro p l e R s m args below meth c H locs cells slots mcT msT lsA C hP hL
  exact lv_icmp_ge C.1 C.2.1 hd ht (fun h => kt h p l e R s m args below meth c H locs cells slots mcT msT lsA C hP hL) (fun h => kf h p l e R s m args below meth c H locs cells slots mcT msT lsA C hP hL)
theorem j_icmp_gt {x y : Int32} {off : Int} {tgt : Nat} (hd : decode cc pc = .ok (.if_icmp .gt off, 3)) (ht : (pc : Int) + off = (tgt : Int)) (kt : (y < x) → zJ E lv mc ms M cc tgt ls st S Q) (kf : ¬ (y < x) → zJ E lv mc ms M cc (pc + 3) ls st S Q) : zJ E lv mc ms M cc pc ls (zI y :: zI x :: st) S Q := by
  intro p l e R s m args below meth c H locs cells slots mcT msT lsA C hP hL
  exact lv_icmp_gt C.1 C.2.1 hd ht (fun h => kt h p l e R s m args below meth c H locs cells slots mcT msT lsA C hP hL) (fun h => kf h p l e R s m args below meth c H locs cells slots mcT msT lsA C hP hL)
theorem j_icmp_le {x y : Int32} {off : Int} {tgt : Nat} (hd : decode cc pc = .ok (.if_icmp .le off, 3)) (ht : (pc : Int) + off = (tgt : Int)) (kt : (x ≤ y) → zJ E lv mc ms M cc tgt ls st S Q) (kf : ¬ (x ≤ y) → zJ E lv mc ms M cc (pc + 3) ls st S Q) : zJ E lv mc ms M cc pc ls (zI y :: zI x :: st) S Q := by
  intro p l e R s m args below meth c H locs cells slots mcT msT lsA C hP hL
  exact lv_icmp_le C.1 C.2.1 hd ht (fun h => kt h p l e R s m args below meth c H locs cells slots mcT msT lsA C hP hL) (fun h => kf h p l e R s m args below meth c H locs cells slots mcT msT lsA C hP hL)
theorem j_goto {off : Int} {tgt : Nat} (hd : decode cc pc = .ok (.goto off, 3)) (ht : (pc : Int) + off = (tgt : Int)) (k : zJ E lv mc ms M cc tgt ls st S Q) : zJ E lv mc ms M cc pc ls st S Q := by
  intro p l e R s m args below meth c H locs cells slots mcT msT lsA C hP hL
  exact lv_goto C.1 C.2.1 hd ht (k p l e R s m args below meth c H locs cells slots mcT msT lsA C hP hL)
theorem j_ifnull {x : Nat} {off : Int} {tgt : Nat} (hd : decode cc pc = .ok (.ifnull off, 3)) (ht : (pc : Int) + off = (tgt : Int)) (kt : x = 0 → zJ E lv mc ms M cc tgt ls st S Q) (kf : ¬ x = 0 → zJ E lv mc ms M cc (pc + 3) ls st S Q) : zJ E lv mc ms M cc pc ls (zR x :: st) S Q := by
  intro p l e R s m args below meth c H locs cells slots mcT msT lsA C hP hL
  cases x with
  | zero => exact lv_ifnullN C.1 C.2.1 hd ht (kt rfl p l e R s m args below meth c H locs cells slots mcT msT lsA C hP hL)
  | succ x => exact lv_ifnull C.1 C.2.1 hd (kf (Nat.succ_ne_zero x) p l e R s m args below meth c H locs cells slots mcT msT lsA C hP hL)
theorem j_ifnonnull {x : Nat} {off : Int} {tgt : Nat} (hd : decode cc pc = .ok (.ifnonnull off, 3)) (ht : (pc : Int) + off = (tgt : Int)) (kt : ¬ x = 0 → zJ E lv mc ms M cc tgt ls st S Q) (kf : x = 0 → zJ E lv mc ms M cc (pc + 3) ls st S Q) : zJ E lv mc ms M cc pc ls (zR x :: st) S Q := by
  intro p l e R s m args below meth c H locs cells slots mcT msT lsA C hP hL
  cases x with
  | zero => exact lv_ifnonnullN C.1 C.2.1 hd (kf rfl p l e R s m args below meth c H locs cells slots mcT msT lsA C hP hL)
  | succ x => exact lv_ifnonnull C.1 C.2.1 hd ht (kt (Nat.succ_ne_zero x) p l e R s m args below meth c H locs cells slots mcT msT lsA C hP hL)
theorem zrv_rf (b x : Nat) : zrv b x = va_rf (if x = 0 then none else some (b + (x - 1))) := by
  cases x with
  | zero => rfl
  | succ x => rfl
theorem zrv_inj {b x y : Nat} : ((if x = 0 then none else some (b + (x - 1)) : Option Nat) = if y = 0 then none else some (b + (y - 1))) ↔ x = y := by
  by_cases hx : x = 0 <;> by_cases hy : y = 0 <;> simp [hx, hy] <;> omega
theorem j_acmp_ne {x y : Nat} {off : Int} {tgt : Nat} (hd : decode cc pc = .ok (.if_acmp .ne off, 3)) (ht : (pc : Int) + off = (tgt : Int)) (kt : ¬ x = y → zJ E lv mc ms M cc tgt ls st S Q) (kf : x = y → zJ E lv mc ms M cc (pc + 3) ls st S Q) : zJ E lv mc ms M cc pc ls (zR y :: zR x :: st) S Q := by
  intro p l e R s m args below meth c H locs cells slots mcT msT lsA C hP hL
  show W _ _ _ _ _ _ _ _ _ _ _ _ _ _ _ (F0 m pc lsA (zrv (zb E) y :: zrv (zb E) x :: st.map (ztv E)))
  rw [zrv_rf, zrv_rf]
  exact lv_acmp_ne C.1 C.2.1 hd ht (fun h => kt (fun q => h (zrv_inj.mpr q)) p l e R s m args below meth c H locs cells slots mcT msT lsA C hP hL) (fun h => kf (zrv_inj.mp h) p l e R s m args below meth c H locs cells slots mcT msT lsA C hP hL)
theorem j_acmp_eq {x y : Nat} {off : Int} {tgt : Nat} (hd : decode cc pc = .ok (.if_acmp .eq off, 3)) (ht : (pc : Int) + off = (tgt : Int)) (kt : x = y → zJ E lv mc ms M cc tgt ls st S Q) (kf : ¬ x = y → zJ E lv mc ms M cc (pc + 3) ls st S Q) : zJ E lv mc ms M cc pc ls (zR y :: zR x :: st) S Q := by
  intro p l e R s m args below meth c H locs cells slots mcT msT lsA C hP hL
  show W _ _ _ _ _ _ _ _ _ _ _ _ _ _ _ (F0 m pc lsA (zrv (zb E) y :: zrv (zb E) x :: st.map (ztv E)))
  rw [zrv_rf, zrv_rf]
  exact lv_acmp_eq C.1 C.2.1 hd ht (fun h => kt (zrv_inj.mp h) p l e R s m args below meth c H locs cells slots mcT msT lsA C hP hL) (fun h => kf (fun q => h (zrv_inj.mpr q)) p l e R s m args below meth c H locs cells slots mcT msT lsA C hP hL)
theorem j_swIn {dflt lo hi : Int} {offs : Array Int} {len : Nat} {x : Int32} {off : Int} {tgt : Nat} (hd : decode cc pc = .ok (.tableswitch dflt lo hi offs, len)) (h1 : ¬ x.toInt < lo) (h2 : ¬ hi < x.toInt) (ho : offs[(x.toInt - lo).toNat]? = some off) (ht : (pc : Int) + off = (tgt : Int)) (k : zJ E lv mc ms M cc tgt ls st S Q) : zJ E lv mc ms M cc pc ls (zI x :: st) S Q := by
  intro p l e R s m args below meth c H locs cells slots mcT msT lsA C hP hL
  exact lv_tableIn C.1 C.2.1 hd h1 h2 ho ht (k p l e R s m args below meth c H locs cells slots mcT msT lsA C hP hL)
theorem j_swOut {dflt lo hi : Int} {offs : Array Int} {len : Nat} {x : Int32} {tgt : Nat} (hd : decode cc pc = .ok (.tableswitch dflt lo hi offs, len)) (h : x.toInt < lo ∨ hi < x.toInt) (ht : (pc : Int) + dflt = (tgt : Int)) (k : zJ E lv mc ms M cc tgt ls st S Q) : zJ E lv mc ms M cc pc ls (zI x :: st) S Q := by
  intro p l e R s m args below meth c H locs cells slots mcT msT lsA C hP hL
  exact lv_tableOut C.1 C.2.1 hd h ht (k p l e R s m args below meth c H locs cells slots mcT msT lsA C hP hL)
def znl (ls : List (Option zV)) (i : Nat) : Bool := match i with
  | 0 => true
  | j + 1 => match ls[j]? with
    | some (some v) => zcat v == 1
    | _ => true
theorem znl_not {i j : Nat} {v : zV} (h : znl ls i = true) (hj : j + 1 = i) (hv : ls[j]? = some (some v)) : zcat v = 1 := by
  subst hj
  simpa [znl, hv] using h
theorem zLs.one {E : zE} {lsA : Array Slot} {nL i : Nat} {v : zV} (h : zLs E lsA nL ls) (hi : i < nL) (hc : zcat v = 1) (hn : znl ls i = true) : ∃ l', storeLocals lsA i (ztv E v) = some l' ∧ zLs E l' nL (ls.set i (some v)) := by
  have hcv : (ztv E v).category = 1 := (ztv_cat E v).trans hc
  obtain ⟨l', e, g⟩ := lv_store1 (l := []) ⟨h.1, h.2.1, fun q hq => by simp at hq⟩ hi hcv
  refine ⟨l', e, g.1, g.2.1, fun j w hj => ?_⟩
  by_cases hji : j = i
  · subst hji
    have hlt : j < ls.length := by
      have := (List.getElem?_eq_some_iff.mp hj).1
      simpa using this
    rw [List.getElem?_set_self hlt] at hj
    cases hj
    exact g.2.2 (j, ztv E v) (by simp)
  · rw [List.getElem?_set_ne (fun q => hji q.symm)] at hj
    obtain ⟨l2, e2, g2⟩ := lv_store1 (l := [(j, ztv E w)]) ⟨h.1, h.2.1, fun q hq => by rw [List.mem_singleton.mp hq]; exact h.2.2 j w hj⟩ hi hcv
    have el : l' = l2 := Option.some.inj (e.symm.trans e2)
    subst el
    refine g2.2.2 (j, ztv E w) (List.mem_cons_of_mem _ (List.mem_filter.mpr ⟨List.mem_singleton.mpr rfl, ?_⟩))
    by_cases hq : j + 1 = i
    · have hw := znl_not hn hq hj
      simp [hji, ztv_cat, hw]
    · simp [hji, hq]
theorem zLs.two {E : zE} {lsA : Array Slot} {nL i : Nat} {v : zV} (h : zLs E lsA nL ls) (hi : i + 1 < nL) (hc : zcat v = 2) (hn : znl ls i = true) : ∃ l', storeLocals lsA i (ztv E v) = some l' ∧ zLs E l' nL ((ls.set i (some v)).set (i + 1) none) := by
  have hcv : (ztv E v).category = 2 := (ztv_cat E v).trans hc
  obtain ⟨l', e, g⟩ := lv_store2 (l := []) ⟨h.1, h.2.1, fun q hq => by simp at hq⟩ hi hcv
  refine ⟨l', e, g.1, g.2.1, fun j w hj => ?_⟩
  by_cases hj2 : j = i + 1
  · subst hj2
    rw [List.getElem?_set] at hj
    simp at hj
  · rw [List.getElem?_set_ne (fun q => hj2 q.symm)] at hj
    by_cases hji : j = i
    · subst hji
      have hlt : j < ls.length := by
        have := (List.getElem?_eq_some_iff.mp hj).1
        simpa using this
      rw [List.getElem?_set_self hlt] at hj
      cases hj
      exact g.2.2 (j, ztv E v) (by simp)
    · rw [List.getElem?_set_ne (fun q => hji q.symm)] at hj
      obtain ⟨l2, e2, g2⟩ := lv_store2 (l := [(j, ztv E w)]) ⟨h.1, h.2.1, fun q hq => by rw [List.mem_singleton.mp hq]; exact h.2.2 j w hj⟩ hi hcv
      have el : l' = l2 := Option.some.inj (e.symm.trans e2)
      subst el
      refine g2.2.2 (j, ztv E w) (List.mem_cons_of_mem _ (List.mem_filter.mpr ⟨List.mem_singleton.mpr rfl, ?_⟩))
      by_cases hq : j + 1 = i
      · have hw := znl_not hn hq hj
        simp [hji, hj2, ztv_cat, hw]
      · simp [hji, hj2, hq]
theorem j_istore_n {n : Fin 4} {x : Int32} (hd : decode cc pc = .ok (.istore_n n, 1)) (hi : (n : Nat) < M.2.2.1) (hn : znl ls (n : Nat) = true) {ls' : List (Option zV)} (hl : (ls.set (n : Nat) (some (zI x))) = ls') (k : zJ E lv mc ms M cc (pc + 1) ls' st S Q) : zJ E lv mc ms M cc pc ls ((zI x) :: st) S Q := by
  intro p l e R s m args below meth c H locs cells slots mcT msT lsA C hP hL
  obtain ⟨l', e1, g⟩ := hL.one (v := (zI x)) hi rfl hn
  subst hl
  intro T hT X
  obtain ⟨t, a, b⟩ := k p l e R s m args below meth c H locs cells slots mcT msT l' C hP g T hT X
  refine ⟨t, ?_, b⟩
  have e1 : storeLocals lsA (n : Nat) (.int x) = some l' := e1
  show Steps p.tables e below (T.setTop (F0 m pc lsA (.int x :: st.map (ztv E)))) t
  jvm_step X.here [X.here.top, ↓top_set X.here.top, C.1, C.2.1, hd, e1]
  exact a
theorem j_istore {i : Nat} {x : Int32} (hd : decode cc pc = .ok (.istore i, 2)) (hi : i < M.2.2.1) (hn : znl ls i = true) {ls' : List (Option zV)} (hl : (ls.set i (some (zI x))) = ls') (k : zJ E lv mc ms M cc (pc + 2) ls' st S Q) : zJ E lv mc ms M cc pc ls ((zI x) :: st) S Q := by
  intro p l e R s m args below meth c H locs cells slots mcT msT lsA C hP hL
  obtain ⟨l', e1, g⟩ := hL.one (v := (zI x)) hi rfl hn
  subst hl
  intro T hT X
  obtain ⟨t, a, b⟩ := k p l e R s m args below meth c H locs cells slots mcT msT l' C hP g T hT X
  refine ⟨t, ?_, b⟩
  have e1 : storeLocals lsA i (.int x) = some l' := e1
  show Steps p.tables e below (T.setTop (F0 m pc lsA (.int x :: st.map (ztv E)))) t
  jvm_step X.here [X.here.top, ↓top_set X.here.top, C.1, C.2.1, hd, e1]
  exact a
theorem j_lstore_n {n : Fin 4} {x : Int64} (hd : decode cc pc = .ok (.lstore_n n, 1)) (hi : (n : Nat) + 1 < M.2.2.1) (hn : znl ls (n : Nat) = true) {ls' : List (Option zV)} (hl : ((ls.set (n : Nat) (some (zL x))).set ((n : Nat) + 1) none) = ls') (k : zJ E lv mc ms M cc (pc + 1) ls' st S Q) : zJ E lv mc ms M cc pc ls ((zL x) :: st) S Q := by
  intro p l e R s m args below meth c H locs cells slots mcT msT lsA C hP hL
  obtain ⟨l', e1, g⟩ := hL.two (v := (zL x)) hi rfl hn
  subst hl
  intro T hT X
  obtain ⟨t, a, b⟩ := k p l e R s m args below meth c H locs cells slots mcT msT l' C hP g T hT X
  refine ⟨t, ?_, b⟩
  have e1 : storeLocals lsA (n : Nat) (.long x) = some l' := e1
  show Steps p.tables e below (T.setTop (F0 m pc lsA (.long x :: st.map (ztv E)))) t
  jvm_step X.here [X.here.top, ↓top_set X.here.top, C.1, C.2.1, hd, e1]
  exact a
theorem j_lstore {i : Nat} {x : Int64} (hd : decode cc pc = .ok (.lstore i, 2)) (hi : i + 1 < M.2.2.1) (hn : znl ls i = true) {ls' : List (Option zV)} (hl : ((ls.set i (some (zL x))).set (i + 1) none) = ls') (k : zJ E lv mc ms M cc (pc + 2) ls' st S Q) : zJ E lv mc ms M cc pc ls ((zL x) :: st) S Q := by
  intro p l e R s m args below meth c H locs cells slots mcT msT lsA C hP hL
  obtain ⟨l', e1, g⟩ := hL.two (v := (zL x)) hi rfl hn
  subst hl
  intro T hT X
  obtain ⟨t, a, b⟩ := k p l e R s m args below meth c H locs cells slots mcT msT l' C hP g T hT X
  refine ⟨t, ?_, b⟩
  have e1 : storeLocals lsA i (.long x) = some l' := e1
  show Steps p.tables e below (T.setTop (F0 m pc lsA (.long x :: st.map (ztv E)))) t
  jvm_step X.here [X.here.top, ↓top_set X.here.top, C.1, C.2.1, hd, e1]
  exact a
theorem j_astore_n {n : Fin 4} {x : Nat} (hd : decode cc pc = .ok (.astore_n n, 1)) (hi : (n : Nat) < M.2.2.1) (hn : znl ls (n : Nat) = true) {ls' : List (Option zV)} (hl : (ls.set (n : Nat) (some (zR x))) = ls') (k : zJ E lv mc ms M cc (pc + 1) ls' st S Q) : zJ E lv mc ms M cc pc ls ((zR x) :: st) S Q := by
  intro p l e R s m args below meth c H locs cells slots mcT msT lsA C hP hL
  obtain ⟨l', e1, g⟩ := hL.one (v := (zR x)) hi rfl hn
  subst hl
  intro T hT X
  obtain ⟨t, a, b⟩ := k p l e R s m args below meth c H locs cells slots mcT msT l' C hP g T hT X
  refine ⟨t, ?_, b⟩
  cases x with
  | zero =>
    have e1 : storeLocals lsA (n : Nat) .null = some l' := e1
    show Steps p.tables e below (T.setTop (F0 m pc lsA (.null :: st.map (ztv E)))) t
    jvm_step X.here [X.here.top, ↓top_set X.here.top, C.1, C.2.1, hd, e1, Value.isRef]
    exact a
  | succ x =>
    have e1 : storeLocals lsA (n : Nat) (.ref (zb E + x)) = some l' := e1
    show Steps p.tables e below (T.setTop (F0 m pc lsA (.ref (zb E + x) :: st.map (ztv E)))) t
    jvm_step X.here [X.here.top, ↓top_set X.here.top, C.1, C.2.1, hd, e1, Value.isRef]
    exact a
theorem j_astore {i : Nat} {x : Nat} (hd : decode cc pc = .ok (.astore i, 2)) (hi : i < M.2.2.1) (hn : znl ls i = true) {ls' : List (Option zV)} (hl : (ls.set i (some (zR x))) = ls') (k : zJ E lv mc ms M cc (pc + 2) ls' st S Q) : zJ E lv mc ms M cc pc ls ((zR x) :: st) S Q := by
  intro p l e R s m args below meth c H locs cells slots mcT msT lsA C hP hL
  obtain ⟨l', e1, g⟩ := hL.one (v := (zR x)) hi rfl hn
  subst hl
  intro T hT X
  obtain ⟨t, a, b⟩ := k p l e R s m args below meth c H locs cells slots mcT msT l' C hP g T hT X
  refine ⟨t, ?_, b⟩
  cases x with
  | zero =>
    have e1 : storeLocals lsA i .null = some l' := e1
    show Steps p.tables e below (T.setTop (F0 m pc lsA (.null :: st.map (ztv E)))) t
    jvm_step X.here [X.here.top, ↓top_set X.here.top, C.1, C.2.1, hd, e1, Value.isRef]
    exact a
  | succ x =>
    have e1 : storeLocals lsA i (.ref (zb E + x)) = some l' := e1
    show Steps p.tables e below (T.setTop (F0 m pc lsA (.ref (zb E + x) :: st.map (ztv E)))) t
    jvm_step X.here [X.here.top, ↓top_set X.here.top, C.1, C.2.1, hd, e1, Value.isRef]
    exact a
theorem j_iinc {i : Nat} {n : Int} {x v : Int32} (hd : decode cc pc = .ok (.iinc i n, 3)) (hx : ls[i]? = some (some (zI x))) (hv : x + Int32.ofInt n = v) (hi : i < M.2.2.1) (hn : znl ls i = true) {ls' : List (Option zV)} (hl : (ls.set i (some (zI v))) = ls') (k : zJ E lv mc ms M cc (pc + 3) ls' st S Q) : zJ E lv mc ms M cc pc ls st S Q := by
  intro p l e R s m args below meth c H locs cells slots mcT msT lsA C hP hL
  subst hv
  obtain ⟨l', e1, g⟩ := hL.one (v := zI (x + Int32.ofInt n)) hi rfl hn
  subst hl
  intro T hT X
  obtain ⟨t, a, b⟩ := k p l e R s m args below meth c H locs cells slots mcT msT l' C hP g T hT X
  refine ⟨t, ?_, b⟩
  have hg : lsA[i]? = some (.val (.int x)) := hL.2.2 i (zI x) hx
  have e1 : storeLocals lsA i (.int (x + Int32.ofInt n)) = some l' := e1
  jvm_step X.here [X.here.top, ↓top_set X.here.top, C.1, C.2.1, hd, hg, e1]
  exact a
theorem j_iret {v : Int32} (hd : decode cc pc = .ok (.ireturn, 1)) (hr : M.2.2.2 = some .int) (hq : Q (some (zI v)) S) : zJ E lv mc ms M cc pc ls [zI v] S Q := by
  intro p l e R s m args below meth c H locs cells slots mcT msT lsA C hP hL
  refine W.widen (Nat.le_trans (Nat.le_add_right _ _) C.2.2.2.2.2.2.2.2.2.2.2.1.1) (Nat.le_trans (Nat.le_add_right _ _) C.2.2.2.2.2.2.2.2.2.2.2.1.2) ?_
  exact W.iret C.1 C.2.1 (C.2.2.2.1.trans hr) (fun t ht _ => ⟨some (zI v), S, rfl, by rw [ht]; exact hP, hq⟩) (fun q h => C.2.2.2.2.2.2.2.2.2.2.2.2 q h) hd C.2.2.2.2.1
theorem j_zret {v : Int32} (hd : decode cc pc = .ok (.ireturn, 1)) (hr : M.2.2.2 = some .boolean) (hv : narrow .boolean (.int v) = .int v) (hq : Q (some (zI v)) S) : zJ E lv mc ms M cc pc ls [zI v] S Q := by
  intro p l e R s m args below meth c H locs cells slots mcT msT lsA C hP hL
  refine W.widen (Nat.le_trans (Nat.le_add_right _ _) C.2.2.2.2.2.2.2.2.2.2.2.1.1) (Nat.le_trans (Nat.le_add_right _ _) C.2.2.2.2.2.2.2.2.2.2.2.1.2) ?_
  exact W.zret C.1 C.2.1 (C.2.2.2.1.trans hr) hv (fun t ht _ => ⟨some (zI v), S, rfl, by rw [ht]; exact hP, hq⟩) (fun q h => C.2.2.2.2.2.2.2.2.2.2.2.2 q h) hd C.2.2.2.2.1
theorem j_lret {v : Int64} (hd : decode cc pc = .ok (.lreturn, 1)) (hr : M.2.2.2 = some .long) (hq : Q (some (zL v)) S) : zJ E lv mc ms M cc pc ls [zL v] S Q := by
  intro p l e R s m args below meth c H locs cells slots mcT msT lsA C hP hL
  refine W.widen (Nat.le_trans (Nat.le_add_right _ _) C.2.2.2.2.2.2.2.2.2.2.2.1.1) (Nat.le_trans (Nat.le_add_right _ _) C.2.2.2.2.2.2.2.2.2.2.2.1.2) ?_
  exact W.lret C.1 C.2.1 (C.2.2.2.1.trans hr) (fun t ht _ => ⟨some (zL v), S, rfl, by rw [ht]; exact hP, hq⟩) (fun q h => C.2.2.2.2.2.2.2.2.2.2.2.2 q h) hd C.2.2.2.2.1
theorem j_vret  (hd : decode cc pc = .ok (.return_, 1)) (hr : M.2.2.2 = none) (hq : Q (none) S) : zJ E lv mc ms M cc pc ls [] S Q := by
  intro p l e R s m args below meth c H locs cells slots mcT msT lsA C hP hL
  refine W.widen (Nat.le_trans (Nat.le_add_right _ _) C.2.2.2.2.2.2.2.2.2.2.2.1.1) (Nat.le_trans (Nat.le_add_right _ _) C.2.2.2.2.2.2.2.2.2.2.2.1.2) ?_
  exact W.vret C.1 C.2.1 (C.2.2.2.1.trans hr) (fun t ht _ => ⟨none, S, rfl, by rw [ht]; exact hP, hq⟩) (fun q h => C.2.2.2.2.2.2.2.2.2.2.2.2 q h) hd C.2.2.2.2.1
theorem j_aret {v : Nat} {n : String} (hd : decode cc pc = .ok (.areturn, 1)) (hr : M.2.2.2 = some (.object n)) (hq : Q (some (zR v)) S) : zJ E lv mc ms M cc pc ls [zR v] S Q := by
  intro p l e R s m args below meth c H locs cells slots mcT msT lsA C hP hL
  refine W.widen (Nat.le_trans (Nat.le_add_right _ _) C.2.2.2.2.2.2.2.2.2.2.2.1.1) (Nat.le_trans (Nat.le_add_right _ _) C.2.2.2.2.2.2.2.2.2.2.2.1.2) ?_
  exact W.aret C.1 C.2.1 (C.2.2.2.1.trans hr) (Or.inl ⟨n, rfl⟩) (by cases v with | zero => exact Or.inl rfl | succ v => exact Or.inr ⟨_, rfl⟩) (fun t ht _ => ⟨some (zR v), S, rfl, by rw [ht]; exact hP, hq⟩) (fun q h => C.2.2.2.2.2.2.2.2.2.2.2.2 q h) hd C.2.2.2.2.1
end ZRULES
end
section
theorem zby {ws : List Cond} (ps : List Nat) (h : ws = ps.filterMap (fun i => lw_tbl[i]?)) : ∀ w ∈ ws, w ∈ lw_tbl := by
  intro w hw
  rw [h] at hw
  obtain ⟨i, -, hi⟩ := List.mem_filterMap.mp hw
  exact List.mem_of_getElem? hi
set_option maxRecDepth 100000 in
theorem zlaysIn0 : ∀ w ∈ u_ws RX0 TX0 5, w ∈ lw_tbl := zby [428, 430, 432, 434, 436] (by decide +kernel)
set_option maxRecDepth 100000 in
theorem zlaysIn1 : ∀ w ∈ u_ws RX1 TX1 2, w ∈ lw_tbl := zby [128, 130] (by decide +kernel)
set_option maxRecDepth 100000 in
theorem zlaysIn2 : ∀ w ∈ u_ws RX2 TX2 6, w ∈ lw_tbl := zby [508, 510, 512, 514, 516, 518] (by decide +kernel)
set_option maxRecDepth 100000 in
theorem zlaysIn3 : ∀ w ∈ u_ws RX3 TX3 5, w ∈ lw_tbl := zby [378, 380, 382, 384, 386] (by decide +kernel)
set_option maxRecDepth 100000 in
theorem zlaysIn4 : ∀ w ∈ u_ws RX4 TX4 9, w ∈ lw_tbl := zby [236, 238, 240, 242, 244, 246, 248, 250, 252] (by decide +kernel)
set_option maxRecDepth 100000 in
theorem zlaysIn5 : ∀ w ∈ u_ws RX5 TX5 4, w ∈ lw_tbl := zby [527, 529, 531, 533] (by decide +kernel)
set_option maxRecDepth 100000 in
theorem zlaysIn6 : ∀ w ∈ u_ws RX6 TX6 9, w ∈ lw_tbl := zby [281, 283, 285, 287, 289, 291, 293, 295, 297] (by decide +kernel)
set_option maxRecDepth 100000 in
theorem zlaysIn7 : ∀ w ∈ u_ws RX7 TX7 4, w ∈ lw_tbl := zby [154, 156, 158, 160] (by decide +kernel)
set_option maxRecDepth 100000 in
theorem zlaysIn8 : ∀ w ∈ u_ws RX8 TX8 5, w ∈ lw_tbl := zby [403, 405, 407, 409, 411] (by decide +kernel)
set_option maxRecDepth 100000 in
theorem zlaysIn9 : ∀ w ∈ u_ws RX9 TX9 9, w ∈ lw_tbl := zby [468, 470, 472, 474, 476, 478, 480, 482, 484] (by decide +kernel)
set_option maxRecDepth 100000 in
theorem zlaysIn10 : ∀ w ∈ u_ws RX10 TX10 11, w ∈ lw_tbl := zby [190, 192, 194, 196, 198, 200, 202, 204, 206, 208, 210] (by decide +kernel)
set_option maxRecDepth 100000 in
theorem zlaysIn11 : ∀ w ∈ u_ws RX11 TX11 9, w ∈ lw_tbl := zby [309, 311, 313, 315, 317, 319, 321, 323, 325] (by decide +kernel)
set_option maxRecDepth 100000 in
theorem zlaysIn12 : ∀ w ∈ u_ws RX12 TX12 64, w ∈ lw_tbl := zby [1217, 1219, 1221, 1223, 1225, 1227, 1229, 1231, 1233, 1235, 1237, 1239, 1241, 1243, 1245, 1247, 1249, 1251, 1253, 1255, 1257, 1259, 1261, 1263, 1265, 1267, 1269, 1271, 1273, 1275, 1277, 1279, 1281, 1283, 1285, 1287, 1289, 1291, 1293, 1295, 1297, 1299, 1301, 1303, 1305, 1307, 1309, 1311, 1313, 1315, 1317, 1319, 1321, 1323, 1325, 1327, 1329, 1331, 1333, 1335, 1337, 1339, 1341, 1343] (by decide +kernel)
theorem zlaysIn : ∀ t, t < 13 → ∀ w ∈ u_ws (zC t) (zT t) (zN t), w ∈ lw_tbl := z_13 zlaysIn0 zlaysIn1 zlaysIn2 zlaysIn3 zlaysIn4 zlaysIn5 zlaysIn6 zlaysIn7 zlaysIn8 zlaysIn9 zlaysIn10 zlaysIn11 zlaysIn12
end
section
def zfk (ty : FieldType) : Bool := match ty with
  | .object _ => true
  | .array _ => true
  | _ => false
section ZHEAP
variable {E : zE} {lv mc ms : Nat} {M : zMI} {cc : ByteArray} {pc : Nat} {ls : List (Option zV)} {st : List zV} {S : zM} {Q : Option zV → zM → Prop}
/-- a field's link: of class t the k-th -/
def zFL (own : String) (i t k : Nat) : Prop := t < 13 ∧ k < zN t ∧ (Cond.fieldLink own i (zC t) (zT t k).2.1 (zT t k).2.2.1 ∈ lw_tbl ∨ ∃ host, Cond.fieldLinkNest own i (zC t) (zT t k).2.1 (zT t k).2.2.1 host ∈ lw_tbl)
theorem zfv_I {ty : FieldType} {a k : Nat} (h : ty = .int ∨ ty = .boolean) : zfv E S a ty k = .int (zgI S a k) := by
  rcases h with rfl | rfl <;> rfl
theorem zrv_ad {b a : Nat} (h : 0 < a) : zrv b a = .ref (b + (a - 1)) := by
  cases a with
  | zero => exact absurd h (Nat.lt_irrefl 0)
  | succ a => rfl
theorem zlays (hZ : ∀ t, t < 13 → ∀ w ∈ u_ws (zC t) (zT t) (zN t), w ∈ lw_tbl) {s : State} (hT : zTb E s) {t : Nat} (ht : t < 13) (a : Array Value) : ∀ w ∈ u_ws (zC t) (zT t) (zN t), w.before a s = true := fun w hw => hT.w (hZ t ht w hw) (by
  obtain ⟨k, -, rfl⟩ := List.mem_map.mp hw
  unfold u_lay
  split <;> rfl) a
theorem j_getf {i t k a : Nat} {v : zV} (hd : decode cc pc = .ok (.getfield i, 3)) (hf : zFL M.1 i t k) (ha : zkd S a = (t + 1, 0)) (hv : ztv E v = zfv E S a (zty t k) k) (kk : zJ E lv mc ms M cc (pc + 3) ls (v :: st) S Q) : zJ E lv mc ms M cc pc ls (zR a :: st) S Q := by
  intro p l e R s m args below meth c H locs cells slots mcT msT lsA C hP hL
  obtain ⟨ht, hk, hlink⟩ := hf
  obtain ⟨a0, cell, q1, q2, q3, q4⟩ := hP.2.2.1 a t 0 ha ht
  have hT := C.2.2.2.2.2.2.2.1
  obtain ⟨hS, hfc, kC, hkC, hkind⟩ := hT.2.1.1 t _ (zcl t ht)
  obtain ⟨cf, kf, fi, f, hi, hsl⟩ := hS k hk
  have hst := (u_facts hfc hkC (u_lays (zlays zlaysIn hT ht args) (fun _ h => h) hk) hi).1
  have hi' : s.fieldFound? (zC t) (zT t k).2.1 (zT t k).2.2.1 = some (cf, kf, fi, f) := by rw [← zown t ht k hk]; exact hi
  have hvv : cell.slots[f.slot]? = some (ztv E v) := by rw [hsl, q4 k hk, hv]
  show W _ _ _ _ _ _ _ _ _ _ _ _ _ _ _ (F0 m pc lsA (zrv (zb E) a :: st.map (ztv E)))
  rw [zrv_ad a0]
  rcases hlink with hl | ⟨host, hl⟩
  · exact W.getf C.1 C.2.1 C.2.2.2.2.2.2.1 (hT.w hl rfl _) hi' hst q1 (by rw [q3]; exact fun h => by cases h) hvv rfl rfl hd (kk p l e R s m args below meth c H locs cells slots mcT msT lsA C hP hL)
  · exact va_Wgetf C.1 C.2.1 C.2.2.2.2.2.2.1 (hT.w hl rfl _) hi' hst q1 (by rw [q3]; exact fun h => by cases h) hvv rfl rfl hd (kk p l e R s m args below meth c H locs cells slots mcT msT lsA C hP hL)
theorem j_getI {i t k a : Nat} (hd : decode cc pc = .ok (.getfield i, 3)) (hf : zFL M.1 i t k) (hy : zty t k = .int ∨ zty t k = .boolean) (ha : zkd S a = (t + 1, 0)) (kk : zJ E lv mc ms M cc (pc + 3) ls (zI (zgI S a k) :: st) S Q) : zJ E lv mc ms M cc pc ls (zR a :: st) S Q := j_getf (v := zI (zgI S a k)) hd hf ha (zfv_I hy).symm kk
theorem j_getL {i t k a : Nat} (hd : decode cc pc = .ok (.getfield i, 3)) (hf : zFL M.1 i t k) (hy : zty t k = .long) (ha : zkd S a = (t + 1, 0)) (kk : zJ E lv mc ms M cc (pc + 3) ls (zL (zgL S a k) :: st) S Q) : zJ E lv mc ms M cc pc ls (zR a :: st) S Q := j_getf (v := zL (zgL S a k)) hd hf ha (by rw [hy]; rfl) kk
theorem j_getP {i t k a : Nat} (hd : decode cc pc = .ok (.getfield i, 3)) (hf : zFL M.1 i t k) (hy : (∃ n, zty t k = .object n) ∨ ∃ n, zty t k = .array n) (ha : zkd S a = (t + 1, 0)) (kk : zJ E lv mc ms M cc (pc + 3) ls (zR (zgP S a k) :: st) S Q) : zJ E lv mc ms M cc pc ls (zR a :: st) S Q := j_getf (v := zR (zgP S a k)) hd hf ha (by rcases hy with ⟨n, h⟩ | ⟨n, h⟩ <;> rw [h] <;> rfl) kk
theorem zput_val {S' : zM} {a k t : Nat} {v : Value} {H : Heap} {cell : Cell} (hc : ∀ ty j, j ≠ k → zfv E S' a ty j = zfv E S a ty j) (hv : zfv E S' a (zty t k) k = v) (hcell : H[zad E a]? = some (cell.setSlot ((zD E).2 t k) v)) (q2 : cell.cls = (zD E).1 t) (q3 : cell.vm = .none) (hset : ∀ j, j < zN t → (cell.setSlot ((zD E).2 t k) v).slots[(zD E).2 t j]? = some (updV (fun k => zfv E S a (zty t k) k) k v j)) : t_OB (zad E a) ((zD E).1 t) (zN t) ((zD E).2 t) H (fun k => zfv E S' a (zty t k) k) := by
  refine ⟨_, hcell, q2, q3, fun j hj => ?_⟩
  rw [hset j hj]
  by_cases e : j = k
  · subst e
    simp [updV, hv]
  · simp [updV, e, hc _ j e]
theorem j_putf {S' : zM} {i t k a : Nat} {v : zV} (hd : decode cc pc = .ok (.putfield i, 3)) (hf : zFL M.1 i t k) (ha : zkd S a = (t + 1, 0)) (hfin : (zT t k).2.2.2 = false) (hn : narrow (zty t k) (ztv E v) = ztv E v) (hfit : fits (zty t k) (ztv E v) = true)
    (hk1 : zkd S' = zkd S) (hn1 : zgn S' = zgn S) (hc1 : ∀ b, b ≠ a → ∀ ty k, zfv E S' b ty k = zfv E S b ty k) (hc2 : ∀ ty j, j ≠ k → zfv E S' a ty j = zfv E S a ty j) (hc3 : zfv E S' a (zty t k) k = ztv E v)
    (kk : zJ E lv mc ms M cc (pc + 3) ls st S' Q) : zJ E lv mc ms M cc pc ls (v :: zR a :: st) S Q := by
  intro p l e R s m args below meth c H locs cells slots mcT msT lsA C hP hL
  obtain ⟨ht, hk, hlink⟩ := hf
  obtain ⟨a0, cell, q1, q2, q3, q4⟩ := hP.2.2.1 a t 0 ha ht
  have hT := C.2.2.2.2.2.2.2.1
  have hts := zlays zlaysIn hT ht args
  obtain ⟨hS, hfc, kC, hkC, hkind⟩ := hT.2.1.1 t _ (zcl t ht)
  obtain ⟨cf, kf, fi, f, hi, hsl⟩ := hS k hk
  have hst := (u_facts hfc hkC (u_lays hts (fun _ h => h) hk) hi).1
  have hi' : s.fieldFound? (zC t) (zT t k).2.1 (zT t k).2.2.1 = some (cf, kf, fi, f) := by rw [← zown t ht k hk]; exact hi
  have hlay := hts _ (u_in_lay hk)
  unfold u_lay at hlay
  rw [if_neg (by rw [hfin]; decide)] at hlay
  have h6 := u_store hfc hkC hkind hlay hi (zty_ok t ht k hk) hn hfit
  have hap := va_apart (own := M.1) hts (fun _ h => h) (zty t) (zty_ok t ht) (znm t ht) hT.2.1 (zcl t ht)
  have hlt : f.slot < cell.slots.size := by rw [hsl]; exact k2_hasslot (q4 k hk)
  have hend : ∀ H' : Heap, H'[zad E a]? = some (cell.setSlot f.slot (ztv E v)) → H'.size = H.size → (∀ q, q ≠ zad E a → H'[q]? = H[q]?) → W p l e R s m args below meth c H' (locs ++ [⟨zad E a, f.slot⟩]) cells slots (MQ below (zQc E Q) args s mcT msT (zfr E)) (F0 m (pc + 3) lsA (st.map (ztv E))) := by
    intro H' e1 e2 e3
    rw [hsl] at e1
    refine kk p l e R s m args below meth c H' _ cells slots mcT msT lsA ?_ (hP.put a0 hk1 hn1 hc1 e2 e3 (fun u n hu hu' => ?_) (fun j n hj hj' => ?_)) hL
    · obtain ⟨c1, c2, c3, c4, c5, c6, c7, c8, c9, c10, c11, c12, c13⟩ := C
      exact ⟨c1, c2, c3, c4, c5, c6, c7, c8, c9, c10, c11, c12, fun q hq => by
        rcases List.mem_append.mp hq with h | h
        · exact c13 q h
        · rw [List.mem_singleton.mp h]; exact Nat.le_add_right _ _⟩
    · have e0 : u = t := by rw [ha] at hu; injection hu with h7 h8; omega
      subst e0
      exact zput_val hc2 hc3 e1 q2 q3 (t_set q4 hap hk (ztv E v))
    · rw [ha] at hj
      injection hj with h7 h8
      omega
  show W _ _ _ _ _ _ _ _ _ _ _ _ _ _ _ (F0 m pc lsA (ztv E v :: zrv (zb E) a :: st.map (ztv E)))
  rw [zrv_ad a0]
  rcases hlink with hl | ⟨host, hl⟩
  · exact W.putK C.1 C.2.1 (f := f) ⟨C.2.2.2.2.2.2.1, hT.w hl rfl _, ⟨_, _, _, hi'⟩, hst⟩ (by rw [q2]; exact h6) q1 q3 hlt rfl rfl hd hend
  · exact va_WputK C.1 C.2.1 (f := f) C.2.2.2.2.2.2.1 (hT.w hl rfl _) hi' hst (by rw [q2]; exact h6) q1 q3 hlt rfl rfl hd hend
theorem j_putF {S' : zM} {i t k a : Nat} {v : zV} (hd : decode cc pc = .ok (.putfield i, 3)) (hf : zFL M.1 i t k) (hin : M.2.1.name = "<init>") (ho : M.1 = zC t) (hpl : Cond.fieldLink M.1 i (zC t) (zT t k).2.1 (zT t k).2.2.1 ∈ lw_tbl) (ha : zkd S a = (t + 1, 0)) (hfin : (zT t k).2.2.2 = true) (hn : narrow (zty t k) (ztv E v) = ztv E v) (hfit : fits (zty t k) (ztv E v) = true)
    (hk1 : zkd S' = zkd S) (hn1 : zgn S' = zgn S) (hc1 : ∀ b, b ≠ a → ∀ ty k, zfv E S' b ty k = zfv E S b ty k) (hc2 : ∀ ty j, j ≠ k → zfv E S' a ty j = zfv E S a ty j) (hc3 : zfv E S' a (zty t k) k = ztv E v)
    (kk : zJ E lv mc ms M cc (pc + 3) ls st S' Q) : zJ E lv mc ms M cc pc ls (v :: zR a :: st) S Q := by
  intro p l e R s m args below meth c H locs cells slots mcT msT lsA C hP hL
  obtain ⟨ht, hk, -⟩ := hf
  obtain ⟨a0, cell, q1, q2, q3, q4⟩ := hP.2.2.1 a t 0 ha ht
  have hT := C.2.2.2.2.2.2.2.1
  have hts := zlays zlaysIn hT ht args
  obtain ⟨hS, hfc, kC, hkC, hkind⟩ := hT.2.1.1 t _ (zcl t ht)
  obtain ⟨cf, kf, fi, f, hi, hsl⟩ := hS k hk
  have hst := (u_facts hfc hkC (u_lays hts (fun _ h => h) hk) hi).1
  have hi' : s.fieldFound? (zC t) (zT t k).2.1 (zT t k).2.2.1 = some (cf, kf, fi, f) := by rw [← zown t ht k hk]; exact hi
  have hlay := hts _ (u_in_lay hk)
  unfold u_lay at hlay
  rw [if_pos hfin] at hlay
  have hcf : m.cls = cf := by
    obtain ⟨_, _, c', _, _, _, -, -, hf', -, -, -, hown2, -⟩ := Cond.laysFinal_spec hlay
    have e1 : c' = cf := by have := hi.symm.trans hf'; simp at this; exact this.1.symm
    rw [zown t ht k hk, ← ho] at hown2
    rw [← e1]; exact Option.some.inj (C.2.2.2.2.2.2.1.symm.trans hown2)
  have h6 := u_fits hfc hkC hkind (Or.inr hlay) hi (zty_ok t ht k hk) hn hfit
  have hap := va_apart (own := M.1) hts (fun _ h => h) (zty t) (zty_ok t ht) (znm t ht) hT.2.1 (zcl t ht)
  have hlt : f.slot < cell.slots.size := by rw [hsl]; exact k2_hasslot (q4 k hk)
  show W _ _ _ _ _ _ _ _ _ _ _ _ _ _ _ (F0 m pc lsA (ztv E v :: zrv (zb E) a :: st.map (ztv E)))
  rw [zrv_ad a0]
  refine W.putFinK C.1 C.2.1 C.2.2.2.2.2.2.1 (hT.w hpl rfl _) hi' hst hcf (C.2.2.2.2.2.1.trans hin) (by rw [q2]; exact h6) q1 q3 hlt rfl rfl hd fun H' e1 e2 e3 => ?_
  rw [hsl] at e1
  refine kk p l e R s m args below meth c H' _ cells slots mcT msT lsA ?_ (hP.put a0 hk1 hn1 hc1 e2 e3 (fun u n hu hu' => ?_) (fun j n hj hj' => ?_)) hL
  · obtain ⟨c1, c2, c3, c4, c5, c6, c7, c8, c9, c10, c11, c12, c13⟩ := C
    exact ⟨c1, c2, c3, c4, c5, c6, c7, c8, c9, c10, c11, c12, fun q hq => by
      rcases List.mem_append.mp hq with h | h
      · exact c13 q h
      · rw [List.mem_singleton.mp h]; exact Nat.le_add_right _ _⟩
  · have e0 : u = t := by rw [ha] at hu; injection hu with h7 h8; omega
    subst e0
    exact zput_val hc2 hc3 e1 q2 q3 (t_set q4 hap hk (ztv E v))
  · rw [ha] at hj
    injection hj with h7 h8
    omega
theorem zwI_o {a k : Nat} {v : Int32} : ∀ b, b ≠ a → ∀ ty j, zfv E (zwI S a k v) b ty j = zfv E S b ty j := by
  intro b hb ty j
  unfold zfv
  split <;> simp [zgI, zgL, zgP, zwI, hb]
theorem zwI_s {a k : Nat} {v : Int32} : ∀ ty j, j ≠ k → zfv E (zwI S a k v) a ty j = zfv E S a ty j := by
  intro ty j hj
  unfold zfv
  split <;> simp [zgI, zgL, zgP, zwI, hj]
theorem zwL_o {a k : Nat} {v : Int64} : ∀ b, b ≠ a → ∀ ty j, zfv E (zwL S a k v) b ty j = zfv E S b ty j := by
  intro b hb ty j
  unfold zfv
  split <;> simp [zgI, zgL, zgP, zwL, hb]
theorem zwL_s {a k : Nat} {v : Int64} : ∀ ty j, j ≠ k → zfv E (zwL S a k v) a ty j = zfv E S a ty j := by
  intro ty j hj
  unfold zfv
  split <;> simp [zgI, zgL, zgP, zwL, hj]
theorem zwP_o {a k v : Nat} : ∀ b, b ≠ a → ∀ ty j, zfv E (zwP S a k v) b ty j = zfv E S b ty j := by
  intro b hb ty j
  unfold zfv
  split <;> simp [zgI, zgL, zgP, zwP, hb]
theorem zwP_s {a k v : Nat} : ∀ ty j, j ≠ k → zfv E (zwP S a k v) a ty j = zfv E S a ty j := by
  intro ty j hj
  unfold zfv
  split <;> simp [zgI, zgL, zgP, zwP, hj]
theorem zgI_self {a k : Nat} {v : Int32} : zgI (zwI S a k v) a k = v := by simp [zgI, zwI]
theorem zgL_self {a k : Nat} {v : Int64} : zgL (zwL S a k v) a k = v := by simp [zgL, zwL]
theorem zgP_self {a k v : Nat} : zgP (zwP S a k v) a k = v := by simp [zgP, zwP]
theorem zfit_ref {b v : Nat} {ty : FieldType} (hy : (∃ n, ty = .object n) ∨ ∃ n, ty = .array n) : narrow ty (zrv b v) = zrv b v ∧ fits ty (zrv b v) = true := by
  rcases hy with ⟨n, rfl⟩ | ⟨n, rfl⟩ <;> cases v <;> exact ⟨rfl, rfl⟩
theorem zfit_bool {x : Int32} (h : x = 0 ∨ x = 1) : narrow .boolean (.int x) = .int x ∧ fits .boolean (.int x) = true := by
  rcases h with rfl | rfl <;> exact ⟨by decide +kernel, by decide +kernel⟩
theorem j_putI {i t k a : Nat} {v : Int32} (hd : decode cc pc = .ok (.putfield i, 3)) (hf : zFL M.1 i t k) (hy : zty t k = .int) (ha : zkd S a = (t + 1, 0)) (hfin : (zT t k).2.2.2 = false) (kk : zJ E lv mc ms M cc (pc + 3) ls st (zwI S a k v) Q) : zJ E lv mc ms M cc pc ls (zI v :: zR a :: st) S Q := j_putf (S' := zwI S a k v) (v := zI v) hd hf ha hfin (by rw [hy]; rfl) (by rw [hy]; rfl) rfl rfl zwI_o zwI_s (by rw [hy]; show Value.int _ = _; rw [zgI_self]; rfl) kk
theorem j_putFI {i t k a : Nat} {v : Int32} (hd : decode cc pc = .ok (.putfield i, 3)) (hf : zFL M.1 i t k) (hy : zty t k = .int) (hin : M.2.1.name = "<init>") (ho : M.1 = zC t) (hpl : Cond.fieldLink M.1 i (zC t) (zT t k).2.1 (zT t k).2.2.1 ∈ lw_tbl) (ha : zkd S a = (t + 1, 0)) (hfin : (zT t k).2.2.2 = true) (kk : zJ E lv mc ms M cc (pc + 3) ls st (zwI S a k v) Q) : zJ E lv mc ms M cc pc ls (zI v :: zR a :: st) S Q := j_putF (S' := zwI S a k v) (v := zI v) hd hf hin ho hpl ha hfin (by rw [hy]; rfl) (by rw [hy]; rfl) rfl rfl zwI_o zwI_s (by rw [hy]; show Value.int _ = _; rw [zgI_self]; rfl) kk
theorem j_putZ {i t k a : Nat} {v : Int32} (hd : decode cc pc = .ok (.putfield i, 3)) (hf : zFL M.1 i t k) (hy : zty t k = .boolean) (hx : v = 0 ∨ v = 1) (ha : zkd S a = (t + 1, 0)) (hfin : (zT t k).2.2.2 = false) (kk : zJ E lv mc ms M cc (pc + 3) ls st (zwI S a k v) Q) : zJ E lv mc ms M cc pc ls (zI v :: zR a :: st) S Q := j_putf (S' := zwI S a k v) (v := zI v) hd hf ha hfin (by rw [hy]; exact (zfit_bool hx).1) (by rw [hy]; exact (zfit_bool hx).2) rfl rfl zwI_o zwI_s (by rw [hy]; show Value.int _ = _; rw [zgI_self]; rfl) kk
theorem j_putFZ {i t k a : Nat} {v : Int32} (hd : decode cc pc = .ok (.putfield i, 3)) (hf : zFL M.1 i t k) (hy : zty t k = .boolean) (hx : v = 0 ∨ v = 1) (hin : M.2.1.name = "<init>") (ho : M.1 = zC t) (hpl : Cond.fieldLink M.1 i (zC t) (zT t k).2.1 (zT t k).2.2.1 ∈ lw_tbl) (ha : zkd S a = (t + 1, 0)) (hfin : (zT t k).2.2.2 = true) (kk : zJ E lv mc ms M cc (pc + 3) ls st (zwI S a k v) Q) : zJ E lv mc ms M cc pc ls (zI v :: zR a :: st) S Q := j_putF (S' := zwI S a k v) (v := zI v) hd hf hin ho hpl ha hfin (by rw [hy]; exact (zfit_bool hx).1) (by rw [hy]; exact (zfit_bool hx).2) rfl rfl zwI_o zwI_s (by rw [hy]; show Value.int _ = _; rw [zgI_self]; rfl) kk
theorem j_putL {i t k a : Nat} {v : Int64} (hd : decode cc pc = .ok (.putfield i, 3)) (hf : zFL M.1 i t k) (hy : zty t k = .long) (ha : zkd S a = (t + 1, 0)) (hfin : (zT t k).2.2.2 = false) (kk : zJ E lv mc ms M cc (pc + 3) ls st (zwL S a k v) Q) : zJ E lv mc ms M cc pc ls (zL v :: zR a :: st) S Q := j_putf (S' := zwL S a k v) (v := zL v) hd hf ha hfin (by rw [hy]; rfl) (by rw [hy]; rfl) rfl rfl zwL_o zwL_s (by rw [hy]; show Value.long _ = _; rw [zgL_self]; rfl) kk
theorem j_putFL {i t k a : Nat} {v : Int64} (hd : decode cc pc = .ok (.putfield i, 3)) (hf : zFL M.1 i t k) (hy : zty t k = .long) (hin : M.2.1.name = "<init>") (ho : M.1 = zC t) (hpl : Cond.fieldLink M.1 i (zC t) (zT t k).2.1 (zT t k).2.2.1 ∈ lw_tbl) (ha : zkd S a = (t + 1, 0)) (hfin : (zT t k).2.2.2 = true) (kk : zJ E lv mc ms M cc (pc + 3) ls st (zwL S a k v) Q) : zJ E lv mc ms M cc pc ls (zL v :: zR a :: st) S Q := j_putF (S' := zwL S a k v) (v := zL v) hd hf hin ho hpl ha hfin (by rw [hy]; rfl) (by rw [hy]; rfl) rfl rfl zwL_o zwL_s (by rw [hy]; show Value.long _ = _; rw [zgL_self]; rfl) kk
theorem j_putP {i t k a : Nat} {v : Nat} (hd : decode cc pc = .ok (.putfield i, 3)) (hf : zFL M.1 i t k) (hy : (∃ n, zty t k = .object n) ∨ ∃ n, zty t k = .array n) (ha : zkd S a = (t + 1, 0)) (hfin : (zT t k).2.2.2 = false) (kk : zJ E lv mc ms M cc (pc + 3) ls st (zwP S a k v) Q) : zJ E lv mc ms M cc pc ls (zR v :: zR a :: st) S Q := j_putf (S' := zwP S a k v) (v := zR v) hd hf ha hfin (zfit_ref hy).1 (zfit_ref hy).2 rfl rfl zwP_o zwP_s (by rcases hy with ⟨n, h⟩ | ⟨n, h⟩ <;> rw [h] <;> show zrv _ _ = _ <;> rw [zgP_self] <;> rfl) kk
theorem j_putFP {i t k a : Nat} {v : Nat} (hd : decode cc pc = .ok (.putfield i, 3)) (hf : zFL M.1 i t k) (hy : (∃ n, zty t k = .object n) ∨ ∃ n, zty t k = .array n) (hin : M.2.1.name = "<init>") (ho : M.1 = zC t) (hpl : Cond.fieldLink M.1 i (zC t) (zT t k).2.1 (zT t k).2.2.1 ∈ lw_tbl) (ha : zkd S a = (t + 1, 0)) (hfin : (zT t k).2.2.2 = true) (kk : zJ E lv mc ms M cc (pc + 3) ls st (zwP S a k v) Q) : zJ E lv mc ms M cc pc ls (zR v :: zR a :: st) S Q := j_putF (S' := zwP S a k v) (v := zR v) hd hf hin ho hpl ha hfin (zfit_ref hy).1 (zfit_ref hy).2 rfl rfl zwP_o zwP_s (by rcases hy with ⟨n, h⟩ | ⟨n, h⟩ <;> rw [h] <;> show zrv _ _ = _ <;> rw [zgP_self] <;> rfl) kk
theorem j_iald {a n : Nat} {x : Int32} (hd : decode cc pc = .ok (.iaload, 1)) (ha : zkd S a = (14, n)) (hin : vp_in x n) (kk : zJ E lv mc ms M cc (pc + 1) ls (zI (zgI S a x.toNatClampNeg) :: st) S Q) : zJ E lv mc ms M cc pc ls (zI x :: zR a :: st) S Q := by
  intro p l e R s m args below meth c H locs cells slots mcT msT lsA C hP hL
  obtain ⟨a0, -, hc⟩ := hP.2.2.2 a 0 n ha (by decide)
  have hlt : x.toNatClampNeg < n := Nat.not_le.mp fun q => hin (Or.inr q)
  show W _ _ _ _ _ _ _ _ _ _ _ _ _ _ _ (F0 m pc lsA (.int x :: zrv (zb E) a :: st.map (ztv E)))
  rw [zrv_ad a0]
  exact W.iald (v := ztv E (zI (zgI S a x.toNatClampNeg))) C.1 C.2.1 hc ((C.2.2.2.2.2.2.2.1.2.1.2 0 _ rfl).1 n _) (fun q => by cases q) (by rw [arrV_size]; exact hin) (by rw [arrV_read _ _ hlt]; rfl) rfl rfl hd (kk p l e R s m args below meth c H locs cells slots mcT msT lsA C hP hL)
theorem j_lald {a n : Nat} {x : Int32} (hd : decode cc pc = .ok (.laload, 1)) (ha : zkd S a = (15, n)) (hin : vp_in x n) (kk : zJ E lv mc ms M cc (pc + 1) ls (zL (zgL S a x.toNatClampNeg) :: st) S Q) : zJ E lv mc ms M cc pc ls (zI x :: zR a :: st) S Q := by
  intro p l e R s m args below meth c H locs cells slots mcT msT lsA C hP hL
  obtain ⟨a0, -, hc⟩ := hP.2.2.2 a 1 n ha (by decide)
  have hlt : x.toNatClampNeg < n := Nat.not_le.mp fun q => hin (Or.inr q)
  show W _ _ _ _ _ _ _ _ _ _ _ _ _ _ _ (F0 m pc lsA (.int x :: zrv (zb E) a :: st.map (ztv E)))
  rw [zrv_ad a0]
  exact W.lald (v := ztv E (zL (zgL S a x.toNatClampNeg))) C.1 C.2.1 hc ((C.2.2.2.2.2.2.2.1.2.1.2 1 _ rfl).1 n _) (fun q => by cases q) (by rw [arrV_size]; exact hin) (by rw [arrV_read _ _ hlt]; rfl) rfl rfl hd (kk p l e R s m args below meth c H locs cells slots mcT msT lsA C hP hL)
theorem j_zald {a n : Nat} {x : Int32} (hd : decode cc pc = .ok (.baload, 1)) (ha : zkd S a = (16, n)) (hin : vp_in x n) (kk : zJ E lv mc ms M cc (pc + 1) ls (zI (zgI S a x.toNatClampNeg) :: st) S Q) : zJ E lv mc ms M cc pc ls (zI x :: zR a :: st) S Q := by
  intro p l e R s m args below meth c H locs cells slots mcT msT lsA C hP hL
  obtain ⟨a0, -, hc⟩ := hP.2.2.2 a 2 n ha (by decide)
  have hlt : x.toNatClampNeg < n := Nat.not_le.mp fun q => hin (Or.inr q)
  show W _ _ _ _ _ _ _ _ _ _ _ _ _ _ _ (F0 m pc lsA (.int x :: zrv (zb E) a :: st.map (ztv E)))
  rw [zrv_ad a0]
  exact W.zald (v := ztv E (zI (zgI S a x.toNatClampNeg))) C.1 C.2.1 hc ((C.2.2.2.2.2.2.2.1.2.1.2 2 _ rfl).1 n _) (fun q => by cases q) (by rw [arrV_size]; exact hin) (by rw [arrV_read _ _ hlt]; rfl) rfl rfl hd (kk p l e R s m args below meth c H locs cells slots mcT msT lsA C hP hL)
theorem j_aald {a n j : Nat} {x : Int32} (hd : decode cc pc = .ok (.aaload, 1)) (ha : zkd S a = (14 + j, n)) (hj : j = 3 ∨ j = 4) (hin : vp_in x n) (kk : zJ E lv mc ms M cc (pc + 1) ls (zR (zgP S a x.toNatClampNeg) :: st) S Q) : zJ E lv mc ms M cc pc ls (zI x :: zR a :: st) S Q := by
  intro p l e R s m args below meth c H locs cells slots mcT msT lsA C hP hL
  obtain ⟨a0, -, hc⟩ := hP.2.2.2 a j n ha (by omega)
  have hlt : x.toNatClampNeg < n := Nat.not_le.mp fun q => hin (Or.inr q)
  show W _ _ _ _ _ _ _ _ _ _ _ _ _ _ _ (F0 m pc lsA (.int x :: zrv (zb E) a :: st.map (ztv E)))
  rw [zrv_ad a0]
  rcases hj with rfl | rfl
  · exact W.aald (v := ztv E (zR (zgP S a x.toNatClampNeg))) (ty := .object RX1) C.1 C.2.1 hc ((C.2.2.2.2.2.2.2.1.2.1.2 3 _ rfl).1 n _) rfl (fun q => by cases q) (by rw [arrV_size]; exact hin) (by rw [arrV_read _ _ hlt]; rfl) rfl rfl hd (kk p l e R s m args below meth c H locs cells slots mcT msT lsA C hP hL)
  · exact W.aald (v := ztv E (zR (zgP S a x.toNatClampNeg))) (ty := .object RX6) C.1 C.2.1 hc ((C.2.2.2.2.2.2.2.1.2.1.2 4 _ rfl).1 n _) rfl (fun q => by cases q) (by rw [arrV_size]; exact hin) (by rw [arrV_read _ _ hlt]; rfl) rfl rfl hd (kk p l e R s m args below meth c H locs cells slots mcT msT lsA C hP hL)
theorem j_alen {a n j : Nat} (hd : decode cc pc = .ok (.arraylength, 1)) (ha : zkd S a = (14 + j, n)) (hj : j < 5) (kk : zJ E lv mc ms M cc (pc + 1) ls (zI (Int32.ofNat n) :: st) S Q) : zJ E lv mc ms M cc pc ls (zR a :: st) S Q := by
  intro p l e R s m args below meth c H locs cells slots mcT msT lsA C hP hL
  obtain ⟨a0, -, hc⟩ := hP.2.2.2 a j n ha hj
  show W _ _ _ _ _ _ _ _ _ _ _ _ _ _ _ (F0 m pc lsA (zrv (zb E) a :: st.map (ztv E)))
  rw [zrv_ad a0]
  have hK := C.2.2.2.2.2.2.2.1.2.1.2
  have hA : ∃ ty, s.isArrayOf (arrV (zA E j) n (zfv E S a (zat j))) ty := by
    match j, hj with
    | 0, _ => exact ⟨_, (hK 0 _ rfl).1 n _⟩
    | 1, _ => exact ⟨_, (hK 1 _ rfl).1 n _⟩
    | 2, _ => exact ⟨_, (hK 2 _ rfl).1 n _⟩
    | 3, _ => exact ⟨_, (hK 3 _ rfl).1 n _⟩
    | 4, _ => exact ⟨_, (hK 4 _ rfl).1 n _⟩
  obtain ⟨ty, hA⟩ := hA
  exact W.alen (n := Int32.ofNat n) C.1 C.2.1 hc hA (by rw [arrV_size] <;> rfl) rfl rfl hd (kk p l e R s m args below meth c H locs cells slots mcT msT lsA C hP hL)
theorem j_iast {a n : Nat} {x : Int32} {v : Int32} (hd : decode cc pc = .ok (.iastore, 1)) (ha : zkd S a = (14, n)) (hin : vp_in x n) (kk : zJ E lv mc ms M cc (pc + 1) ls st (zwI S a x.toNatClampNeg v) Q) : zJ E lv mc ms M cc pc ls (zI v :: zI x :: zR a :: st) S Q := by
  intro p l e R s m args below meth c H locs cells slots mcT msT lsA C hP hL
  obtain ⟨a0, -, hc⟩ := hP.2.2.2 a 0 n ha (by decide)
  show W _ _ _ _ _ _ _ _ _ _ _ _ _ _ _ (F0 m pc lsA (.int v :: .int x :: zrv (zb E) a :: st.map (ztv E)))
  rw [zrv_ad a0]
  refine W.iast C.1 C.2.1 hc ((C.2.2.2.2.2.2.2.1.2.1.2 0 _ rfl).1 n _) (fun q => by cases q) (by rw [arrV_size]; exact hin) rfl rfl hd fun H' e1 e2 e3 => ?_
  refine kk p l e R s m args below meth c H' _ cells slots mcT msT lsA ?_ (hP.put a0 rfl rfl zwI_o e2 e3 (fun u q hu hu' => ?_) (fun i q hi hi' => ?_)) hL
  · obtain ⟨c1, c2, c3, c4, c5, c6, c7, c8, c9, c10, c11, c12, c13⟩ := C
    exact ⟨c1, c2, c3, c4, c5, c6, c7, c8, c9, c10, c11, c12, fun q hq => by
      rcases List.mem_append.mp hq with h | h
      · exact c13 q h
      · rw [List.mem_singleton.mp h]; exact Nat.le_add_right _ _⟩
  · rw [ha] at hu
    injection hu with h7 h8
    omega
  · have e4 : i = 0 ∧ q = n := by rw [ha] at hi; injection hi with h7 h8; omega
    obtain ⟨rfl, rfl⟩ := e4
    rw [e1, arrV_store]
    congr 2
    funext z
    by_cases hz : z = x.toNatClampNeg
    · subst hz
      simp [updV, zfv, zat, zgI_self]
    · simp only [updV, hz, if_false]
      exact (zwI_s _ _ hz).symm
theorem j_last {a n : Nat} {x : Int32} {v : Int64} (hd : decode cc pc = .ok (.lastore, 1)) (ha : zkd S a = (15, n)) (hin : vp_in x n) (kk : zJ E lv mc ms M cc (pc + 1) ls st (zwL S a x.toNatClampNeg v) Q) : zJ E lv mc ms M cc pc ls (zL v :: zI x :: zR a :: st) S Q := by
  intro p l e R s m args below meth c H locs cells slots mcT msT lsA C hP hL
  obtain ⟨a0, -, hc⟩ := hP.2.2.2 a 1 n ha (by decide)
  show W _ _ _ _ _ _ _ _ _ _ _ _ _ _ _ (F0 m pc lsA (.long v :: .int x :: zrv (zb E) a :: st.map (ztv E)))
  rw [zrv_ad a0]
  refine W.last C.1 C.2.1 hc ((C.2.2.2.2.2.2.2.1.2.1.2 1 _ rfl).1 n _) (fun q => by cases q) (by rw [arrV_size]; exact hin) rfl rfl hd fun H' e1 e2 e3 => ?_
  refine kk p l e R s m args below meth c H' _ cells slots mcT msT lsA ?_ (hP.put a0 rfl rfl zwL_o e2 e3 (fun u q hu hu' => ?_) (fun i q hi hi' => ?_)) hL
  · obtain ⟨c1, c2, c3, c4, c5, c6, c7, c8, c9, c10, c11, c12, c13⟩ := C
    exact ⟨c1, c2, c3, c4, c5, c6, c7, c8, c9, c10, c11, c12, fun q hq => by
      rcases List.mem_append.mp hq with h | h
      · exact c13 q h
      · rw [List.mem_singleton.mp h]; exact Nat.le_add_right _ _⟩
  · rw [ha] at hu
    injection hu with h7 h8
    omega
  · have e4 : i = 1 ∧ q = n := by rw [ha] at hi; injection hi with h7 h8; omega
    obtain ⟨rfl, rfl⟩ := e4
    rw [e1, arrV_store]
    congr 2
    funext z
    by_cases hz : z = x.toNatClampNeg
    · subst hz
      simp [updV, zfv, zat, zgL_self]
    · simp only [updV, hz, if_false]
      exact (zwL_s _ _ hz).symm
theorem j_zast {a n : Nat} {x : Int32} {v : Int32} (hd : decode cc pc = .ok (.bastore, 1)) (ha : zkd S a = (16, n)) (hin : vp_in x n) (hx : v = 0 ∨ v = 1) (kk : zJ E lv mc ms M cc (pc + 1) ls st (zwI S a x.toNatClampNeg v) Q) : zJ E lv mc ms M cc pc ls (zI v :: zI x :: zR a :: st) S Q := by
  intro p l e R s m args below meth c H locs cells slots mcT msT lsA C hP hL
  obtain ⟨a0, -, hc⟩ := hP.2.2.2 a 2 n ha (by decide)
  show W _ _ _ _ _ _ _ _ _ _ _ _ _ _ _ (F0 m pc lsA (.int v :: .int x :: zrv (zb E) a :: st.map (ztv E)))
  rw [zrv_ad a0]
  refine W.zast C.1 C.2.1 hc ((C.2.2.2.2.2.2.2.1.2.1.2 2 _ rfl).1 n _) (fun q => by cases q) (by rw [arrV_size]; exact hin) rfl rfl hd fun H' e1 e2 e3 => ?_
  rw [(zfit_bool hx).1] at e1
  refine kk p l e R s m args below meth c H' _ cells slots mcT msT lsA ?_ (hP.put a0 rfl rfl zwI_o e2 e3 (fun u q hu hu' => ?_) (fun i q hi hi' => ?_)) hL
  · obtain ⟨c1, c2, c3, c4, c5, c6, c7, c8, c9, c10, c11, c12, c13⟩ := C
    exact ⟨c1, c2, c3, c4, c5, c6, c7, c8, c9, c10, c11, c12, fun q hq => by
      rcases List.mem_append.mp hq with h | h
      · exact c13 q h
      · rw [List.mem_singleton.mp h]; exact Nat.le_add_right _ _⟩
  · rw [ha] at hu
    injection hu with h7 h8
    omega
  · have e4 : i = 2 ∧ q = n := by rw [ha] at hi; injection hi with h7 h8; omega
    obtain ⟨rfl, rfl⟩ := e4
    rw [e1, arrV_store]
    congr 2
    funext z
    by_cases hz : z = x.toNatClampNeg
    · subst hz
      simp [updV, zfv, zat, zgI_self]
    · simp only [updV, hz, if_false]
      exact (zwI_s _ _ hz).symm
theorem j_aast {a n v j t : Nat} {x : Int32} (hd : decode cc pc = .ok (.aastore, 1)) (ha : zkd S a = (14 + j, n)) (hj : (j = 3 ∧ t = 1) ∨ (j = 4 ∧ t = 6)) (hv : zkd S v = (t + 1, 0)) (hin : vp_in x n) (kk : zJ E lv mc ms M cc (pc + 1) ls st (zwP S a x.toNatClampNeg v) Q) : zJ E lv mc ms M cc pc ls (zR v :: zI x :: zR a :: st) S Q := by
  intro p l e R s m args below meth c H locs cells slots mcT msT lsA C hP hL
  obtain ⟨a0, -, hc⟩ := hP.2.2.2 a j n ha (by omega)
  have ht : t < 13 := by omega
  obtain ⟨v0, cellV, g1, g2, g3, -⟩ := hP.2.2.1 v t 0 hv ht
  have hlt : x.toNatClampNeg < n := Nat.not_le.mp fun q => hin (Or.inr q)
  have h0 : ¬ x < 0 := fun q => hin (Or.inl q)
  have hT := C.2.2.2.2.2.2.2.1
  have hcls := (hT.2.1.1 t _ (zcl t ht)).2
  have hRA : ∃ (kA : Class) (comp : ClassId), s.vm.classes[zA E j]? = some kA ∧ kA.kind = .array comp (.object (zC t)) ∧ s.vm.findClass (zC t) = some comp := by
    rcases hj with ⟨rfl, rfl⟩ | ⟨rfl, rfl⟩
    · obtain ⟨kA, comp, k1, k2, k3, -⟩ := (hT.2.1.2 3 _ rfl).2
      exact ⟨kA, comp, k1, k2, k3⟩
    · obtain ⟨kA, comp, k1, k2, k3, -⟩ := (hT.2.1.2 4 _ rfl).2
      exact ⟨kA, comp, k1, k2, k3⟩
  obtain ⟨kA, comp, k1, k2, k3⟩ := hRA
  have hcomp : comp = (zD E).1 t := Option.some.inj (k3.symm.trans hcls.1)
  subst hcomp
  obtain ⟨kC, hkC, -⟩ := hcls.2
  show W _ _ _ _ _ _ _ _ _ _ _ _ _ _ _ (F0 m pc lsA (zrv (zb E) v :: .int x :: zrv (zb E) a :: st.map (ztv E)))
  rw [zrv_ad a0, zrv_ad v0]
  refine W.aast C.1 C.2.1 hc (fun q h => by cases h) (fun h => by cases h) k1 k2 rfl hkC ⟨h0, by rw [arrV_size]; exact hlt⟩ g1 (fun q h => by rw [g3] at h; cases h) (by rw [g2]; exact hkC) (by rw [g2]; exact va_assign hcls) rfl rfl hd fun H' e1 e2 e3 => ?_
  refine kk p l e R s m args below meth c H' _ cells slots mcT msT lsA ?_ (hP.put a0 rfl rfl zwP_o e2 e3 (fun u q hu hu' => ?_) (fun i q hi hi' => ?_)) hL
  · obtain ⟨c1, c2, c3, c4, c5, c6, c7, c8, c9, c10, c11, c12, c13⟩ := C
    exact ⟨c1, c2, c3, c4, c5, c6, c7, c8, c9, c10, c11, c12, fun q hq => by
      rcases List.mem_append.mp hq with h | h
      · exact c13 q h
      · rw [List.mem_singleton.mp h]; exact Nat.le_add_right _ _⟩
  · rw [ha] at hu
    injection hu with h7 h8
    omega
  · have e4 : i = j ∧ q = n := by rw [ha] at hi; injection hi with h7 h8; omega
    obtain ⟨rfl, rfl⟩ := e4
    rw [e1, arrV_store]
    congr 2
    funext z
    by_cases hz : z = x.toNatClampNeg
    · subst hz
      have hz2 : zfv E (zwP S a x.toNatClampNeg v) a (zat i) x.toNatClampNeg = zrv (zb E) v := by
        rcases hj with ⟨rfl, rfl⟩ | ⟨rfl, rfl⟩ <;> show zrv _ _ = _ <;> rw [zgP_self]
      rw [hz2, zrv_ad v0]
      simp [updV]
    · simp only [updV, hz, if_false]
      exact (zwP_s _ _ hz).symm
theorem znew_def {t n : Nat} (ty : FieldType) (k : Nat) : zfv E (znw S t n) (zgn S + 1) ty k = match ty with | .long => .long 0 | .object _ => .null | .array _ => .null | _ => .int 0 := by
  unfold zfv
  split <;> simp [zgI, zgL, zgP, znw, zrv]
theorem zC_made {p : Program} {R : Room} {s : State} {m : MethodId} {meth : Method} {c : Code} {locs : List Loc} {cells slots mcT msT mc2 ms2 d n : Nat} (C : zCx E M cc lv mc ms p R s m meth c locs cells slots mcT msT) (h1 : mc2 + d ≤ mc) (h2 : ms2 + n ≤ ms) : zCx E M cc lv mc2 ms2 p R s m meth c locs (cells + d) (slots + n) mcT msT := by
  obtain ⟨c1, c2, c3, c4, c5, c6, c7, c8, c9, c10, ⟨c11, c12⟩, ⟨c13, c14⟩, c15⟩ := C
  exact ⟨c1, c2, c3, c4, c5, c6, c7, c8, c9, c10, ⟨by omega, by omega⟩, ⟨by omega, by omega⟩, c15⟩
def zNL (own : String) (i t : Nat) : Prop := t < 13 ∧ Cond.classLink own i (zC t) ∈ lw_tbl ∧ Cond.instantiable (zC t) (zN t) ∈ lw_tbl ∧ Cond.initialized (zC t) ∈ lw_tbl
theorem zdefault : ∀ t, t < 13 → ∀ k, k < zN t → ∀ (E : zE) (S : zM) (u n : Nat), defaultValue (zty t k) = zfv E (znw S u n) (zgn S + 1) (zty t k) k := by
  intro t ht k hk E S u n
  rw [znew_def]
  have h : ∀ t, t < 13 → ∀ k, k < zN t → (zty t k = .int ∨ zty t k = .boolean ∨ zty t k = .long ∨ (zfk (zty t k) = true)) := by decide +kernel
  rcases h t ht k hk with h | h | h | h
  · rw [h]; rfl
  · rw [h]; rfl
  · rw [h]; rfl
  · generalize zty t k = ty at h ⊢
    cases ty <;> simp [zfk] at h <;> rfl
theorem j_new {i t : Nat} {mc2 ms2 : Nat} (hd : decode cc pc = .ok (.new i, 3)) (hf : zNL M.1 i t) (h1 : mc2 + 1 ≤ mc) (h2 : ms2 + zN t ≤ ms) (kk : zJ E lv mc2 ms2 M cc (pc + 3) ls (zR (zgn S + 1) :: st) (znw S (t + 1) 0) Q) : zJ E lv mc ms M cc pc ls st S Q := by
  intro p l e R s m args below meth c H locs cells slots mcT msT lsA C hP hL
  obtain ⟨ht, hl1, hl2, hl3⟩ := hf
  have hT := C.2.2.2.2.2.2.2.1
  have hKn := hT.2.1.1 t _ (zcl t ht)
  obtain ⟨⟨cc1, cc2⟩, -⟩ := C.2.2.2.2.2.2.2.2.2.2
  refine W.newcK C.1 C.2.1 C.2.2.2.2.2.2.1 (hT.w hl1 rfl _) (hT.w hl2 rfl _) (hT.w hl3 rfl _) rfl hd (by omega) (by omega) hKn.2.1 rfl fun H1 kC hkC e1 z1 o1 => ?_
  have hr : zRp E (znw S (t + 1) 0) H1 := hP.new z1 o1 (fun u hu hu' => by
      have e : u = t := by omega
      subst e
      exact (u_born (zty u) (zlays zlaysIn hT ht args) (fun _ h => h) hKn hkC e1 (zty_ok u ht)).to (fun k hk => zdefault u ht k hk E S (u + 1) 0)) (fun j hj hj' => by omega)
  have := kk p l e R s m args below meth c H1 locs (cells + 1) (slots + zN t) mcT msT lsA (zC_made C h1 h2) hr hL
  have ead : zrv (zb E) (zgn S + 1) = .ref H.size := by rw [hP.1]; rfl
  show W _ _ _ _ _ _ _ _ _ _ _ _ _ _ _ (F0 m (pc + 3) lsA (.ref H.size :: st.map (ztv E)))
  rw [← ead]
  exact this
theorem j_newa {j : Nat} {at' : ArrayType} {x : Int32} {n mc2 ms2 : Nat} (hd : decode cc pc = .ok (.newarray at', 2)) (hj : (at' = .int ∧ j = 0) ∨ (at' = .long ∧ j = 1) ∨ (at' = .boolean ∧ j = 2)) (hw : Cond.arrayClass (newarray.typeOf at') ∈ lw_tbl) (hx : ¬ x < 0) (hn : x.toNatClampNeg = n) (hs : n ≤ 65536) (h1 : mc2 + 1 ≤ mc) (h2 : ms2 + n ≤ ms) (kk : zJ E lv mc2 ms2 M cc (pc + 2) ls (zR (zgn S + 1) :: st) (znw S (14 + j) n) Q) : zJ E lv mc ms M cc pc ls (zI x :: st) S Q := by
  intro p l e R s m args below meth c H locs cells slots mcT msT lsA C hP hL
  have hT := C.2.2.2.2.2.2.2.1
  obtain ⟨⟨cc1, cc2⟩, -⟩ := C.2.2.2.2.2.2.2.2.2.2
  refine va_newaK C.1 C.2.1 (hT.w hw rfl _) rfl hd rfl hx hn (by rcases hj with ⟨rfl, -⟩ | ⟨rfl, -⟩ | ⟨rfl, -⟩ <;> simp [componentBytes, newarray.typeOf] <;> omega) (by omega) (by omega) rfl fun H1 cA e1 z1 o1 hAr hNm => ?_
  have hr : zRp E (znw S (14 + j) n) H1 := hP.new z1 o1 (fun u hu hu' => by omega) (fun i hi hi' => by
      have e : i = j := by omega
      subst e
      refine ⟨by omega, ?_⟩
      rcases hj with ⟨rfl, rfl⟩ | ⟨rfl, rfl⟩ | ⟨rfl, rfl⟩
      · rw [e1, show cA = zA E 0 from Option.some.inj (hNm.symm.trans (hT.2.1.2 0 _ rfl).2)]
        congr 2
        funext k
        rw [znew_def]
        rfl
      · rw [e1, show cA = zA E 1 from Option.some.inj (hNm.symm.trans (hT.2.1.2 1 _ rfl).2)]
        congr 2
        funext k
        rw [znew_def]
        rfl
      · rw [e1, show cA = zA E 2 from Option.some.inj (hNm.symm.trans (hT.2.1.2 2 _ rfl).2)]
        congr 2
        funext k
        rw [znew_def]
        rfl)
  have := kk p l e R s m args below meth c H1 locs (cells + 1) (slots + n) mcT msT lsA (zC_made C h1 h2) hr hL
  have ead : zrv (zb E) (zgn S + 1) = .ref H.size := by rw [hP.1]; rfl
  show W _ _ _ _ _ _ _ _ _ _ _ _ _ _ _ (F0 m (pc + 2) lsA (.ref H.size :: st.map (ztv E)))
  rw [← ead]
  exact this
theorem j_anew {i j t : Nat} {x : Int32} {n mc2 ms2 : Nat} (hd : decode cc pc = .ok (.anewarray i, 3)) (hj : (j = 3 ∧ t = 1) ∨ (j = 4 ∧ t = 6)) (hw : Cond.classLink M.1 i (zC t) ∈ lw_tbl) (hx : ¬ x < 0) (hn : x.toNatClampNeg = n) (hs : n ≤ 65536) (h1 : mc2 + 1 ≤ mc) (h2 : ms2 + n ≤ ms) (kk : zJ E lv mc2 ms2 M cc (pc + 3) ls (zR (zgn S + 1) :: st) (znw S (14 + j) n) Q) : zJ E lv mc ms M cc pc ls (zI x :: st) S Q := by
  intro p l e R s m args below meth c H locs cells slots mcT msT lsA C hP hL
  have hT := C.2.2.2.2.2.2.2.1
  obtain ⟨⟨cc1, cc2⟩, -⟩ := C.2.2.2.2.2.2.2.2.2.2
  subst hn
  have hAO : va_AO (zC t) s := by
    rcases hj with ⟨rfl, rfl⟩ | ⟨rfl, rfl⟩
    · exact hT.2.2.1
    · exact hT.2.2.2.1
  refine W.anew C.1 C.2.1 C.2.2.2.2.2.2.1 (hT.w hw rfl _) (va_AO.use hAO) rfl hd rfl hx (by omega) (by omega) (by omega) fun cA kA comp f1 f2 f3 f4 => ?_
  generalize hH1 : H.push ({ cls := cA, slots := Array.replicate x.toNatClampNeg .null, vm := .none } : Cell) = H1
  have z1 : H1.size = H.size + 1 := by rw [← hH1, Array.size_push]
  have e1 : H1[H.size]? = some (arrV cA x.toNatClampNeg (fun _ => .null)) := by rw [← hH1, Array.getElem?_push_size, ← arrV_new]
  have o1 : ∀ q : Nat, q < H.size → H1[q]? = H[q]? := fun q hq => by rw [← hH1, Array.getElem?_push, if_neg (Nat.ne_of_lt hq)]
  have hr : zRp E (znw S (14 + j) x.toNatClampNeg) H1 := hP.new z1 o1 (fun u hu hu' => by omega) (fun i hi hi' => by
      have e : i = j := by omega
      subst e
      refine ⟨by omega, ?_⟩
      rcases hj with ⟨rfl, rfl⟩ | ⟨rfl, rfl⟩
      · obtain ⟨_, _, _, _, _, k4⟩ := (hT.2.1.2 3 _ rfl).2
        rw [e1, show cA = zA E 3 from Option.some.inj (f1.symm.trans k4)]
        congr 2
        funext k
        rw [znew_def]
        rfl
      · obtain ⟨_, _, _, _, _, k4⟩ := (hT.2.1.2 4 _ rfl).2
        rw [e1, show cA = zA E 4 from Option.some.inj (f1.symm.trans k4)]
        congr 2
        funext k
        rw [znew_def]
        rfl)
  have := kk p l e R s m args below meth c H1 locs (cells + 1) (slots + x.toNatClampNeg) mcT msT lsA (zC_made C h1 h2) hr hL
  have ead : zrv (zb E) (zgn S + 1) = .ref H.size := by rw [hP.1]; rfl
  show W _ _ _ _ _ _ _ _ _ _ _ _ _ _ _ (F0 m (pc + 3) lsA (.ref H.size :: st.map (ztv E)))
  rw [← ead]
  exact this
end ZHEAP
end
section
theorem n_X11_11 : Cond.classLink RX11 11 (zC 1) ∈ lw_tbl := List.mem_of_getElem? (i := 117) (by decide +kernel)
theorem nl_X11_11 : zNL RX11 11 1 := ⟨by decide, n_X11_11, List.mem_of_getElem? (i := 118) (by decide +kernel), List.mem_of_getElem? (i := 86) (by decide +kernel)⟩
theorem f_X1_9 : zFL RX1 9 1 0 := ⟨by decide, by decide, Or.inl (List.mem_of_getElem? (i := 123) (by decide +kernel))⟩
theorem fp_X1_9 : Cond.fieldLink RX1 9 (zC 1) (zT 1 0).2.1 (zT 1 0).2.2.1 ∈ lw_tbl := List.mem_of_getElem? (i := 123) (by decide +kernel)
theorem f_X1_15 : zFL RX1 15 1 1 := ⟨by decide, by decide, Or.inl (List.mem_of_getElem? (i := 124) (by decide +kernel))⟩
theorem f_X11_58 : zFL RX11 58 1 1 := ⟨by decide, by decide, Or.inr ⟨"DriftPages", List.mem_of_getElem? (i := 125) (by decide +kernel)⟩⟩
theorem f_X6_66 : zFL RX6 66 1 1 := ⟨by decide, by decide, Or.inr ⟨"DriftPages", List.mem_of_getElem? (i := 126) (by decide +kernel)⟩⟩
theorem f_X4_104 : zFL RX4 104 1 1 := ⟨by decide, by decide, Or.inr ⟨"DriftPages", List.mem_of_getElem? (i := 127) (by decide +kernel)⟩⟩
theorem n_X11_23 : Cond.classLink RX11 23 (zC 10) ∈ lw_tbl := List.mem_of_getElem? (i := 134) (by decide +kernel)
theorem nl_X11_23 : zNL RX11 23 10 := ⟨by decide, n_X11_23, List.mem_of_getElem? (i := 135) (by decide +kernel), List.mem_of_getElem? (i := 87) (by decide +kernel)⟩
theorem n_X10_9 : Cond.classLink RX10 9 (zC 7) ∈ lw_tbl := List.mem_of_getElem? (i := 140) (by decide +kernel)
theorem nl_X10_9 : zNL RX10 9 7 := ⟨by decide, n_X10_9, List.mem_of_getElem? (i := 141) (by decide +kernel), List.mem_of_getElem? (i := 88) (by decide +kernel)⟩
theorem f_X7_9 : zFL RX7 9 7 0 := ⟨by decide, by decide, Or.inl (List.mem_of_getElem? (i := 146) (by decide +kernel))⟩
theorem fp_X7_9 : Cond.fieldLink RX7 9 (zC 7) (zT 7 0).2.1 (zT 7 0).2.2.1 ∈ lw_tbl := List.mem_of_getElem? (i := 146) (by decide +kernel)
theorem f_X7_15 : zFL RX7 15 7 1 := ⟨by decide, by decide, Or.inl (List.mem_of_getElem? (i := 147) (by decide +kernel))⟩
theorem fp_X7_15 : Cond.fieldLink RX7 15 (zC 7) (zT 7 1).2.1 (zT 7 1).2.2.1 ∈ lw_tbl := List.mem_of_getElem? (i := 147) (by decide +kernel)
theorem f_X7_19 : zFL RX7 19 7 2 := ⟨by decide, by decide, Or.inl (List.mem_of_getElem? (i := 148) (by decide +kernel))⟩
theorem f_X10_75 : zFL RX10 75 7 2 := ⟨by decide, by decide, Or.inr ⟨"DriftPages", List.mem_of_getElem? (i := 149) (by decide +kernel)⟩⟩
theorem f_X11_116 : zFL RX11 116 7 2 := ⟨by decide, by decide, Or.inr ⟨"DriftPages", List.mem_of_getElem? (i := 150) (by decide +kernel)⟩⟩
theorem f_X5_125 : zFL RX5 125 7 2 := ⟨by decide, by decide, Or.inr ⟨"DriftPages", List.mem_of_getElem? (i := 151) (by decide +kernel)⟩⟩
theorem f_X7_23 : zFL RX7 23 7 3 := ⟨by decide, by decide, Or.inl (List.mem_of_getElem? (i := 152) (by decide +kernel))⟩
theorem f_X11_100 : zFL RX11 100 7 3 := ⟨by decide, by decide, Or.inr ⟨"DriftPages", List.mem_of_getElem? (i := 153) (by decide +kernel)⟩⟩
theorem n_X10_22 : Cond.classLink RX10 22 (zC 1) ∈ lw_tbl := List.mem_of_getElem? (i := 165) (by decide +kernel)
theorem nl_X10_22 : zNL RX10 22 1 := ⟨by decide, n_X10_22, List.mem_of_getElem? (i := 118) (by decide +kernel), List.mem_of_getElem? (i := 86) (by decide +kernel)⟩
theorem f_X10_12 : zFL RX10 12 10 0 := ⟨by decide, by decide, Or.inl (List.mem_of_getElem? (i := 168) (by decide +kernel))⟩
theorem fp_X10_12 : Cond.fieldLink RX10 12 (zC 10) (zT 10 0).2.1 (zT 10 0).2.2.1 ∈ lw_tbl := List.mem_of_getElem? (i := 168) (by decide +kernel)
theorem f_X4_60 : zFL RX4 60 10 0 := ⟨by decide, by decide, Or.inr ⟨"DriftPages", List.mem_of_getElem? (i := 169) (by decide +kernel)⟩⟩
theorem f_X11_173 : zFL RX11 173 10 0 := ⟨by decide, by decide, Or.inr ⟨"DriftPages", List.mem_of_getElem? (i := 170) (by decide +kernel)⟩⟩
theorem f_X10_18 : zFL RX10 18 10 1 := ⟨by decide, by decide, Or.inl (List.mem_of_getElem? (i := 171) (by decide +kernel))⟩
theorem fp_X10_18 : Cond.fieldLink RX10 18 (zC 10) (zT 10 1).2.1 (zT 10 1).2.2.1 ∈ lw_tbl := List.mem_of_getElem? (i := 171) (by decide +kernel)
theorem f_X11_190 : zFL RX11 190 10 1 := ⟨by decide, by decide, Or.inr ⟨"DriftPages", List.mem_of_getElem? (i := 172) (by decide +kernel)⟩⟩
theorem f_X10_24 : zFL RX10 24 10 2 := ⟨by decide, by decide, Or.inl (List.mem_of_getElem? (i := 173) (by decide +kernel))⟩
theorem fp_X10_24 : Cond.fieldLink RX10 24 (zC 10) (zT 10 2).2.1 (zT 10 2).2.2.1 ∈ lw_tbl := List.mem_of_getElem? (i := 173) (by decide +kernel)
theorem f_X10_31 : zFL RX10 31 10 3 := ⟨by decide, by decide, Or.inl (List.mem_of_getElem? (i := 174) (by decide +kernel))⟩
theorem fp_X10_31 : Cond.fieldLink RX10 31 (zC 10) (zT 10 3).2.1 (zT 10 3).2.2.1 ∈ lw_tbl := List.mem_of_getElem? (i := 174) (by decide +kernel)
theorem f_X10_34 : zFL RX10 34 10 4 := ⟨by decide, by decide, Or.inl (List.mem_of_getElem? (i := 175) (by decide +kernel))⟩
theorem f_X10_38 : zFL RX10 38 10 5 := ⟨by decide, by decide, Or.inl (List.mem_of_getElem? (i := 176) (by decide +kernel))⟩
theorem f_X4_73 : zFL RX4 73 10 5 := ⟨by decide, by decide, Or.inr ⟨"DriftPages", List.mem_of_getElem? (i := 177) (by decide +kernel)⟩⟩
theorem f_X10_41 : zFL RX10 41 10 6 := ⟨by decide, by decide, Or.inl (List.mem_of_getElem? (i := 178) (by decide +kernel))⟩
theorem f_X6_50 : zFL RX6 50 10 6 := ⟨by decide, by decide, Or.inr ⟨"DriftPages", List.mem_of_getElem? (i := 179) (by decide +kernel)⟩⟩
theorem f_X4_48 : zFL RX4 48 10 6 := ⟨by decide, by decide, Or.inr ⟨"DriftPages", List.mem_of_getElem? (i := 180) (by decide +kernel)⟩⟩
theorem f_X11_376 : zFL RX11 376 10 6 := ⟨by decide, by decide, Or.inr ⟨"DriftPages", List.mem_of_getElem? (i := 181) (by decide +kernel)⟩⟩
theorem f_X10_44 : zFL RX10 44 10 7 := ⟨by decide, by decide, Or.inl (List.mem_of_getElem? (i := 182) (by decide +kernel))⟩
theorem f_X6_55 : zFL RX6 55 10 7 := ⟨by decide, by decide, Or.inr ⟨"DriftPages", List.mem_of_getElem? (i := 183) (by decide +kernel)⟩⟩
theorem f_X4_53 : zFL RX4 53 10 7 := ⟨by decide, by decide, Or.inr ⟨"DriftPages", List.mem_of_getElem? (i := 184) (by decide +kernel)⟩⟩
theorem f_X11_373 : zFL RX11 373 10 7 := ⟨by decide, by decide, Or.inr ⟨"DriftPages", List.mem_of_getElem? (i := 185) (by decide +kernel)⟩⟩
theorem f_X10_47 : zFL RX10 47 10 8 := ⟨by decide, by decide, Or.inl (List.mem_of_getElem? (i := 186) (by decide +kernel))⟩
theorem f_X10_51 : zFL RX10 51 10 9 := ⟨by decide, by decide, Or.inl (List.mem_of_getElem? (i := 187) (by decide +kernel))⟩
theorem f_X10_54 : zFL RX10 54 10 10 := ⟨by decide, by decide, Or.inl (List.mem_of_getElem? (i := 188) (by decide +kernel))⟩
theorem f_X4_98 : zFL RX4 98 10 10 := ⟨by decide, by decide, Or.inr ⟨"DriftPages", List.mem_of_getElem? (i := 189) (by decide +kernel)⟩⟩
theorem n_X11_30 : Cond.classLink RX11 30 (zC 4) ∈ lw_tbl := List.mem_of_getElem? (i := 213) (by decide +kernel)
theorem nl_X11_30 : zNL RX11 30 4 := ⟨by decide, n_X11_30, List.mem_of_getElem? (i := 214) (by decide +kernel), List.mem_of_getElem? (i := 89) (by decide +kernel)⟩
theorem n_X4_19 : Cond.classLink RX4 19 (zC 1) ∈ lw_tbl := List.mem_of_getElem? (i := 219) (by decide +kernel)
theorem nl_X4_19 : zNL RX4 19 1 := ⟨by decide, n_X4_19, List.mem_of_getElem? (i := 118) (by decide +kernel), List.mem_of_getElem? (i := 86) (by decide +kernel)⟩
theorem f_X4_9 : zFL RX4 9 4 0 := ⟨by decide, by decide, Or.inl (List.mem_of_getElem? (i := 221) (by decide +kernel))⟩
theorem fp_X4_9 : Cond.fieldLink RX4 9 (zC 4) (zT 4 0).2.1 (zT 4 0).2.2.1 ∈ lw_tbl := List.mem_of_getElem? (i := 221) (by decide +kernel)
theorem f_X11_222 : zFL RX11 222 4 0 := ⟨by decide, by decide, Or.inr ⟨"DriftPages", List.mem_of_getElem? (i := 222) (by decide +kernel)⟩⟩
theorem f_X4_15 : zFL RX4 15 4 1 := ⟨by decide, by decide, Or.inl (List.mem_of_getElem? (i := 223) (by decide +kernel))⟩
theorem fp_X4_15 : Cond.fieldLink RX4 15 (zC 4) (zT 4 1).2.1 (zT 4 1).2.2.1 ∈ lw_tbl := List.mem_of_getElem? (i := 223) (by decide +kernel)
theorem f_X11_223 : zFL RX11 223 4 1 := ⟨by decide, by decide, Or.inr ⟨"DriftPages", List.mem_of_getElem? (i := 224) (by decide +kernel)⟩⟩
theorem f_X4_24 : zFL RX4 24 4 2 := ⟨by decide, by decide, Or.inl (List.mem_of_getElem? (i := 225) (by decide +kernel))⟩
theorem fp_X4_24 : Cond.fieldLink RX4 24 (zC 4) (zT 4 2).2.1 (zT 4 2).2.2.1 ∈ lw_tbl := List.mem_of_getElem? (i := 225) (by decide +kernel)
theorem f_X4_28 : zFL RX4 28 4 3 := ⟨by decide, by decide, Or.inl (List.mem_of_getElem? (i := 226) (by decide +kernel))⟩
theorem fp_X4_28 : Cond.fieldLink RX4 28 (zC 4) (zT 4 3).2.1 (zT 4 3).2.2.1 ∈ lw_tbl := List.mem_of_getElem? (i := 226) (by decide +kernel)
theorem f_X4_31 : zFL RX4 31 4 4 := ⟨by decide, by decide, Or.inl (List.mem_of_getElem? (i := 227) (by decide +kernel))⟩
theorem fp_X4_31 : Cond.fieldLink RX4 31 (zC 4) (zT 4 4).2.1 (zT 4 4).2.2.1 ∈ lw_tbl := List.mem_of_getElem? (i := 227) (by decide +kernel)
theorem f_X4_34 : zFL RX4 34 4 5 := ⟨by decide, by decide, Or.inl (List.mem_of_getElem? (i := 228) (by decide +kernel))⟩
theorem f_X11_89 : zFL RX11 89 4 5 := ⟨by decide, by decide, Or.inr ⟨"DriftPages", List.mem_of_getElem? (i := 229) (by decide +kernel)⟩⟩
theorem f_X4_38 : zFL RX4 38 4 6 := ⟨by decide, by decide, Or.inl (List.mem_of_getElem? (i := 230) (by decide +kernel))⟩
theorem f_X11_204 : zFL RX11 204 4 6 := ⟨by decide, by decide, Or.inr ⟨"DriftPages", List.mem_of_getElem? (i := 231) (by decide +kernel)⟩⟩
theorem f_X4_42 : zFL RX4 42 4 7 := ⟨by decide, by decide, Or.inl (List.mem_of_getElem? (i := 232) (by decide +kernel))⟩
theorem f_X11_230 : zFL RX11 230 4 7 := ⟨by decide, by decide, Or.inr ⟨"DriftPages", List.mem_of_getElem? (i := 233) (by decide +kernel)⟩⟩
theorem f_X4_45 : zFL RX4 45 4 8 := ⟨by decide, by decide, Or.inl (List.mem_of_getElem? (i := 234) (by decide +kernel))⟩
theorem f_X11_233 : zFL RX11 233 4 8 := ⟨by decide, by decide, Or.inr ⟨"DriftPages", List.mem_of_getElem? (i := 235) (by decide +kernel)⟩⟩
theorem n_X11_37 : Cond.classLink RX11 37 (zC 6) ∈ lw_tbl := List.mem_of_getElem? (i := 255) (by decide +kernel)
theorem nl_X11_37 : zNL RX11 37 6 := ⟨by decide, n_X11_37, List.mem_of_getElem? (i := 257) (by decide +kernel), List.mem_of_getElem? (i := 90) (by decide +kernel)⟩
theorem n_X6_18 : Cond.classLink RX6 18 (zC 1) ∈ lw_tbl := List.mem_of_getElem? (i := 262) (by decide +kernel)
theorem nl_X6_18 : zNL RX6 18 1 := ⟨by decide, n_X6_18, List.mem_of_getElem? (i := 118) (by decide +kernel), List.mem_of_getElem? (i := 86) (by decide +kernel)⟩
theorem f_X6_9 : zFL RX6 9 6 0 := ⟨by decide, by decide, Or.inl (List.mem_of_getElem? (i := 264) (by decide +kernel))⟩
theorem fp_X6_9 : Cond.fieldLink RX6 9 (zC 6) (zT 6 0).2.1 (zT 6 0).2.2.1 ∈ lw_tbl := List.mem_of_getElem? (i := 264) (by decide +kernel)
theorem f_X11_259 : zFL RX11 259 6 0 := ⟨by decide, by decide, Or.inr ⟨"DriftPages", List.mem_of_getElem? (i := 265) (by decide +kernel)⟩⟩
theorem f_X6_15 : zFL RX6 15 6 1 := ⟨by decide, by decide, Or.inl (List.mem_of_getElem? (i := 266) (by decide +kernel))⟩
theorem fp_X6_15 : Cond.fieldLink RX6 15 (zC 6) (zT 6 1).2.1 (zT 6 1).2.2.1 ∈ lw_tbl := List.mem_of_getElem? (i := 266) (by decide +kernel)
theorem f_X6_23 : zFL RX6 23 6 2 := ⟨by decide, by decide, Or.inl (List.mem_of_getElem? (i := 267) (by decide +kernel))⟩
theorem fp_X6_23 : Cond.fieldLink RX6 23 (zC 6) (zT 6 2).2.1 (zT 6 2).2.2.1 ∈ lw_tbl := List.mem_of_getElem? (i := 267) (by decide +kernel)
theorem f_X11_363 : zFL RX11 363 6 2 := ⟨by decide, by decide, Or.inr ⟨"DriftPages", List.mem_of_getElem? (i := 268) (by decide +kernel)⟩⟩
theorem f_X6_27 : zFL RX6 27 6 3 := ⟨by decide, by decide, Or.inl (List.mem_of_getElem? (i := 269) (by decide +kernel))⟩
theorem f_X11_332 : zFL RX11 332 6 3 := ⟨by decide, by decide, Or.inr ⟨"DriftPages", List.mem_of_getElem? (i := 270) (by decide +kernel)⟩⟩
theorem f_X6_31 : zFL RX6 31 6 4 := ⟨by decide, by decide, Or.inl (List.mem_of_getElem? (i := 271) (by decide +kernel))⟩
theorem f_X11_359 : zFL RX11 359 6 4 := ⟨by decide, by decide, Or.inr ⟨"DriftPages", List.mem_of_getElem? (i := 272) (by decide +kernel)⟩⟩
theorem f_X6_34 : zFL RX6 34 6 5 := ⟨by decide, by decide, Or.inl (List.mem_of_getElem? (i := 273) (by decide +kernel))⟩
theorem f_X11_249 : zFL RX11 249 6 5 := ⟨by decide, by decide, Or.inr ⟨"DriftPages", List.mem_of_getElem? (i := 274) (by decide +kernel)⟩⟩
theorem f_X6_37 : zFL RX6 37 6 6 := ⟨by decide, by decide, Or.inl (List.mem_of_getElem? (i := 275) (by decide +kernel))⟩
theorem f_X11_366 : zFL RX11 366 6 6 := ⟨by decide, by decide, Or.inr ⟨"DriftPages", List.mem_of_getElem? (i := 276) (by decide +kernel)⟩⟩
theorem f_X6_41 : zFL RX6 41 6 7 := ⟨by decide, by decide, Or.inl (List.mem_of_getElem? (i := 277) (by decide +kernel))⟩
theorem f_X11_362 : zFL RX11 362 6 7 := ⟨by decide, by decide, Or.inr ⟨"DriftPages", List.mem_of_getElem? (i := 278) (by decide +kernel)⟩⟩
theorem f_X6_44 : zFL RX6 44 6 8 := ⟨by decide, by decide, Or.inl (List.mem_of_getElem? (i := 279) (by decide +kernel))⟩
theorem f_X11_252 : zFL RX11 252 6 8 := ⟨by decide, by decide, Or.inr ⟨"DriftPages", List.mem_of_getElem? (i := 280) (by decide +kernel)⟩⟩
theorem f_X11_16 : zFL RX11 16 11 0 := ⟨by decide, by decide, Or.inl (List.mem_of_getElem? (i := 300) (by decide +kernel))⟩
theorem fp_X11_16 : Cond.fieldLink RX11 16 (zC 11) (zT 11 0).2.1 (zT 11 0).2.2.1 ∈ lw_tbl := List.mem_of_getElem? (i := 300) (by decide +kernel)
theorem f_X11_20 : zFL RX11 20 11 1 := ⟨by decide, by decide, Or.inl (List.mem_of_getElem? (i := 301) (by decide +kernel))⟩
theorem fp_X11_20 : Cond.fieldLink RX11 20 (zC 11) (zT 11 1).2.1 (zT 11 1).2.2.1 ∈ lw_tbl := List.mem_of_getElem? (i := 301) (by decide +kernel)
theorem f_X11_26 : zFL RX11 26 11 2 := ⟨by decide, by decide, Or.inl (List.mem_of_getElem? (i := 302) (by decide +kernel))⟩
theorem fp_X11_26 : Cond.fieldLink RX11 26 (zC 11) (zT 11 2).2.1 (zT 11 2).2.2.1 ∈ lw_tbl := List.mem_of_getElem? (i := 302) (by decide +kernel)
theorem f_X11_33 : zFL RX11 33 11 3 := ⟨by decide, by decide, Or.inl (List.mem_of_getElem? (i := 303) (by decide +kernel))⟩
theorem fp_X11_33 : Cond.fieldLink RX11 33 (zC 11) (zT 11 3).2.1 (zT 11 3).2.2.1 ∈ lw_tbl := List.mem_of_getElem? (i := 303) (by decide +kernel)
theorem f_X11_39 : zFL RX11 39 11 4 := ⟨by decide, by decide, Or.inl (List.mem_of_getElem? (i := 304) (by decide +kernel))⟩
theorem fp_X11_39 : Cond.fieldLink RX11 39 (zC 11) (zT 11 4).2.1 (zT 11 4).2.2.1 ∈ lw_tbl := List.mem_of_getElem? (i := 304) (by decide +kernel)
theorem f_X11_44 : zFL RX11 44 11 5 := ⟨by decide, by decide, Or.inl (List.mem_of_getElem? (i := 305) (by decide +kernel))⟩
theorem f_X11_48 : zFL RX11 48 11 6 := ⟨by decide, by decide, Or.inl (List.mem_of_getElem? (i := 306) (by decide +kernel))⟩
theorem f_X11_52 : zFL RX11 52 11 7 := ⟨by decide, by decide, Or.inl (List.mem_of_getElem? (i := 307) (by decide +kernel))⟩
theorem f_X11_55 : zFL RX11 55 11 8 := ⟨by decide, by decide, Or.inl (List.mem_of_getElem? (i := 308) (by decide +kernel))⟩
theorem n_X11_72 : Cond.classLink RX11 72 (zC 9) ∈ lw_tbl := List.mem_of_getElem? (i := 356) (by decide +kernel)
theorem nl_X11_72 : zNL RX11 72 9 := ⟨by decide, n_X11_72, List.mem_of_getElem? (i := 357) (by decide +kernel), List.mem_of_getElem? (i := 92) (by decide +kernel)⟩
theorem n_X9_19 : Cond.classLink RX9 19 (zC 3) ∈ lw_tbl := List.mem_of_getElem? (i := 362) (by decide +kernel)
theorem nl_X9_19 : zNL RX9 19 3 := ⟨by decide, n_X9_19, List.mem_of_getElem? (i := 363) (by decide +kernel), List.mem_of_getElem? (i := 93) (by decide +kernel)⟩
theorem f_X3_9 : zFL RX3 9 3 0 := ⟨by decide, by decide, Or.inl (List.mem_of_getElem? (i := 368) (by decide +kernel))⟩
theorem fp_X3_9 : Cond.fieldLink RX3 9 (zC 3) (zT 3 0).2.1 (zT 3 0).2.2.1 ∈ lw_tbl := List.mem_of_getElem? (i := 368) (by decide +kernel)
theorem f_X11_142 : zFL RX11 142 3 0 := ⟨by decide, by decide, Or.inr ⟨"DriftPages", List.mem_of_getElem? (i := 369) (by decide +kernel)⟩⟩
theorem f_X3_15 : zFL RX3 15 3 1 := ⟨by decide, by decide, Or.inl (List.mem_of_getElem? (i := 370) (by decide +kernel))⟩
theorem fp_X3_15 : Cond.fieldLink RX3 15 (zC 3) (zT 3 1).2.1 (zT 3 1).2.2.1 ∈ lw_tbl := List.mem_of_getElem? (i := 370) (by decide +kernel)
theorem f_X3_18 : zFL RX3 18 3 2 := ⟨by decide, by decide, Or.inl (List.mem_of_getElem? (i := 371) (by decide +kernel))⟩
theorem fp_X3_18 : Cond.fieldLink RX3 18 (zC 3) (zT 3 2).2.1 (zT 3 2).2.2.1 ∈ lw_tbl := List.mem_of_getElem? (i := 371) (by decide +kernel)
theorem f_X11_144 : zFL RX11 144 3 2 := ⟨by decide, by decide, Or.inr ⟨"DriftPages", List.mem_of_getElem? (i := 372) (by decide +kernel)⟩⟩
theorem f_X3_22 : zFL RX3 22 3 3 := ⟨by decide, by decide, Or.inl (List.mem_of_getElem? (i := 373) (by decide +kernel))⟩
theorem fp_X3_22 : Cond.fieldLink RX3 22 (zC 3) (zT 3 3).2.1 (zT 3 3).2.2.1 ∈ lw_tbl := List.mem_of_getElem? (i := 373) (by decide +kernel)
theorem f_X11_148 : zFL RX11 148 3 3 := ⟨by decide, by decide, Or.inr ⟨"DriftPages", List.mem_of_getElem? (i := 374) (by decide +kernel)⟩⟩
theorem f_X3_25 : zFL RX3 25 3 4 := ⟨by decide, by decide, Or.inl (List.mem_of_getElem? (i := 375) (by decide +kernel))⟩
theorem f_X5_67 : zFL RX5 67 3 4 := ⟨by decide, by decide, Or.inr ⟨"DriftPages", List.mem_of_getElem? (i := 376) (by decide +kernel)⟩⟩
theorem f_X11_113 : zFL RX11 113 3 4 := ⟨by decide, by decide, Or.inr ⟨"DriftPages", List.mem_of_getElem? (i := 377) (by decide +kernel)⟩⟩
theorem n_X9_26 : Cond.classLink RX9 26 (zC 8) ∈ lw_tbl := List.mem_of_getElem? (i := 389) (by decide +kernel)
theorem nl_X9_26 : zNL RX9 26 8 := ⟨by decide, n_X9_26, List.mem_of_getElem? (i := 390) (by decide +kernel), List.mem_of_getElem? (i := 94) (by decide +kernel)⟩
theorem f_X8_9 : zFL RX8 9 8 0 := ⟨by decide, by decide, Or.inl (List.mem_of_getElem? (i := 395) (by decide +kernel))⟩
theorem fp_X8_9 : Cond.fieldLink RX8 9 (zC 8) (zT 8 0).2.1 (zT 8 0).2.2.1 ∈ lw_tbl := List.mem_of_getElem? (i := 395) (by decide +kernel)
theorem f_X11_305 : zFL RX11 305 8 0 := ⟨by decide, by decide, Or.inr ⟨"DriftPages", List.mem_of_getElem? (i := 396) (by decide +kernel)⟩⟩
theorem f_X8_15 : zFL RX8 15 8 1 := ⟨by decide, by decide, Or.inl (List.mem_of_getElem? (i := 397) (by decide +kernel))⟩
theorem fp_X8_15 : Cond.fieldLink RX8 15 (zC 8) (zT 8 1).2.1 (zT 8 1).2.2.1 ∈ lw_tbl := List.mem_of_getElem? (i := 397) (by decide +kernel)
theorem f_X8_18 : zFL RX8 18 8 2 := ⟨by decide, by decide, Or.inl (List.mem_of_getElem? (i := 398) (by decide +kernel))⟩
theorem fp_X8_18 : Cond.fieldLink RX8 18 (zC 8) (zT 8 2).2.1 (zT 8 2).2.2.1 ∈ lw_tbl := List.mem_of_getElem? (i := 398) (by decide +kernel)
theorem f_X11_306 : zFL RX11 306 8 2 := ⟨by decide, by decide, Or.inr ⟨"DriftPages", List.mem_of_getElem? (i := 399) (by decide +kernel)⟩⟩
theorem f_X8_21 : zFL RX8 21 8 3 := ⟨by decide, by decide, Or.inl (List.mem_of_getElem? (i := 400) (by decide +kernel))⟩
theorem fp_X8_21 : Cond.fieldLink RX8 21 (zC 8) (zT 8 3).2.1 (zT 8 3).2.2.1 ∈ lw_tbl := List.mem_of_getElem? (i := 400) (by decide +kernel)
theorem f_X8_25 : zFL RX8 25 8 4 := ⟨by decide, by decide, Or.inl (List.mem_of_getElem? (i := 401) (by decide +kernel))⟩
theorem f_X11_298 : zFL RX11 298 8 4 := ⟨by decide, by decide, Or.inr ⟨"DriftPages", List.mem_of_getElem? (i := 402) (by decide +kernel)⟩⟩
theorem n_X9_33 : Cond.classLink RX9 33 (zC 7) ∈ lw_tbl := List.mem_of_getElem? (i := 414) (by decide +kernel)
theorem nl_X9_33 : zNL RX9 33 7 := ⟨by decide, n_X9_33, List.mem_of_getElem? (i := 141) (by decide +kernel), List.mem_of_getElem? (i := 88) (by decide +kernel)⟩
theorem n_X9_40 : Cond.classLink RX9 40 (zC 0) ∈ lw_tbl := List.mem_of_getElem? (i := 416) (by decide +kernel)
theorem nl_X9_40 : zNL RX9 40 0 := ⟨by decide, n_X9_40, List.mem_of_getElem? (i := 417) (by decide +kernel), List.mem_of_getElem? (i := 95) (by decide +kernel)⟩
theorem f_X0_9 : zFL RX0 9 0 0 := ⟨by decide, by decide, Or.inl (List.mem_of_getElem? (i := 422) (by decide +kernel))⟩
theorem fp_X0_9 : Cond.fieldLink RX0 9 (zC 0) (zT 0 0).2.1 (zT 0 0).2.2.1 ∈ lw_tbl := List.mem_of_getElem? (i := 422) (by decide +kernel)
theorem f_X0_15 : zFL RX0 15 0 1 := ⟨by decide, by decide, Or.inl (List.mem_of_getElem? (i := 423) (by decide +kernel))⟩
theorem fp_X0_15 : Cond.fieldLink RX0 15 (zC 0) (zT 0 1).2.1 (zT 0 1).2.2.1 ∈ lw_tbl := List.mem_of_getElem? (i := 423) (by decide +kernel)
theorem f_X0_18 : zFL RX0 18 0 2 := ⟨by decide, by decide, Or.inl (List.mem_of_getElem? (i := 424) (by decide +kernel))⟩
theorem fp_X0_18 : Cond.fieldLink RX0 18 (zC 0) (zT 0 2).2.1 (zT 0 2).2.2.1 ∈ lw_tbl := List.mem_of_getElem? (i := 424) (by decide +kernel)
theorem f_X0_21 : zFL RX0 21 0 3 := ⟨by decide, by decide, Or.inl (List.mem_of_getElem? (i := 425) (by decide +kernel))⟩
theorem fp_X0_21 : Cond.fieldLink RX0 21 (zC 0) (zT 0 3).2.1 (zT 0 3).2.2.1 ∈ lw_tbl := List.mem_of_getElem? (i := 425) (by decide +kernel)
theorem f_X0_25 : zFL RX0 25 0 4 := ⟨by decide, by decide, Or.inl (List.mem_of_getElem? (i := 426) (by decide +kernel))⟩
theorem f_X11_123 : zFL RX11 123 0 4 := ⟨by decide, by decide, Or.inr ⟨"DriftPages", List.mem_of_getElem? (i := 427) (by decide +kernel)⟩⟩
theorem f_X9_9 : zFL RX9 9 9 0 := ⟨by decide, by decide, Or.inl (List.mem_of_getElem? (i := 439) (by decide +kernel))⟩
theorem fp_X9_9 : Cond.fieldLink RX9 9 (zC 9) (zT 9 0).2.1 (zT 9 0).2.2.1 ∈ lw_tbl := List.mem_of_getElem? (i := 439) (by decide +kernel)
theorem f_X9_15 : zFL RX9 15 9 1 := ⟨by decide, by decide, Or.inl (List.mem_of_getElem? (i := 440) (by decide +kernel))⟩
theorem fp_X9_15 : Cond.fieldLink RX9 15 (zC 9) (zT 9 1).2.1 (zT 9 1).2.2.1 ∈ lw_tbl := List.mem_of_getElem? (i := 440) (by decide +kernel)
theorem f_X11_138 : zFL RX11 138 9 1 := ⟨by decide, by decide, Or.inr ⟨"DriftPages", List.mem_of_getElem? (i := 441) (by decide +kernel)⟩⟩
theorem f_X5_113 : zFL RX5 113 9 1 := ⟨by decide, by decide, Or.inr ⟨"DriftPages", List.mem_of_getElem? (i := 442) (by decide +kernel)⟩⟩
theorem f_X9_22 : zFL RX9 22 9 2 := ⟨by decide, by decide, Or.inl (List.mem_of_getElem? (i := 443) (by decide +kernel))⟩
theorem fp_X9_22 : Cond.fieldLink RX9 22 (zC 9) (zT 9 2).2.1 (zT 9 2).2.2.1 ∈ lw_tbl := List.mem_of_getElem? (i := 443) (by decide +kernel)
theorem f_X5_61 : zFL RX5 61 9 2 := ⟨by decide, by decide, Or.inr ⟨"DriftPages", List.mem_of_getElem? (i := 444) (by decide +kernel)⟩⟩
theorem f_X10_82 : zFL RX10 82 9 2 := ⟨by decide, by decide, Or.inr ⟨"DriftPages", List.mem_of_getElem? (i := 445) (by decide +kernel)⟩⟩
theorem f_X11_109 : zFL RX11 109 9 2 := ⟨by decide, by decide, Or.inr ⟨"DriftPages", List.mem_of_getElem? (i := 446) (by decide +kernel)⟩⟩
theorem f_X9_29 : zFL RX9 29 9 3 := ⟨by decide, by decide, Or.inl (List.mem_of_getElem? (i := 447) (by decide +kernel))⟩
theorem fp_X9_29 : Cond.fieldLink RX9 29 (zC 9) (zT 9 3).2.1 (zT 9 3).2.2.1 ∈ lw_tbl := List.mem_of_getElem? (i := 447) (by decide +kernel)
theorem f_X10_90 : zFL RX10 90 9 3 := ⟨by decide, by decide, Or.inr ⟨"DriftPages", List.mem_of_getElem? (i := 448) (by decide +kernel)⟩⟩
theorem f_X6_85 : zFL RX6 85 9 3 := ⟨by decide, by decide, Or.inr ⟨"DriftPages", List.mem_of_getElem? (i := 449) (by decide +kernel)⟩⟩
theorem f_X11_294 : zFL RX11 294 9 3 := ⟨by decide, by decide, Or.inr ⟨"DriftPages", List.mem_of_getElem? (i := 450) (by decide +kernel)⟩⟩
theorem f_X9_36 : zFL RX9 36 9 4 := ⟨by decide, by decide, Or.inl (List.mem_of_getElem? (i := 451) (by decide +kernel))⟩
theorem fp_X9_36 : Cond.fieldLink RX9 36 (zC 9) (zT 9 4).2.1 (zT 9 4).2.2.1 ∈ lw_tbl := List.mem_of_getElem? (i := 451) (by decide +kernel)
theorem f_X10_60 : zFL RX10 60 9 4 := ⟨by decide, by decide, Or.inr ⟨"DriftPages", List.mem_of_getElem? (i := 452) (by decide +kernel)⟩⟩
theorem f_X11_96 : zFL RX11 96 9 4 := ⟨by decide, by decide, Or.inr ⟨"DriftPages", List.mem_of_getElem? (i := 453) (by decide +kernel)⟩⟩
theorem f_X6_73 : zFL RX6 73 9 4 := ⟨by decide, by decide, Or.inr ⟨"DriftPages", List.mem_of_getElem? (i := 454) (by decide +kernel)⟩⟩
theorem f_X5_121 : zFL RX5 121 9 4 := ⟨by decide, by decide, Or.inr ⟨"DriftPages", List.mem_of_getElem? (i := 455) (by decide +kernel)⟩⟩
theorem f_X9_43 : zFL RX9 43 9 5 := ⟨by decide, by decide, Or.inl (List.mem_of_getElem? (i := 456) (by decide +kernel))⟩
theorem fp_X9_43 : Cond.fieldLink RX9 43 (zC 9) (zT 9 5).2.1 (zT 9 5).2.2.1 ∈ lw_tbl := List.mem_of_getElem? (i := 456) (by decide +kernel)
theorem f_X10_65 : zFL RX10 65 9 5 := ⟨by decide, by decide, Or.inr ⟨"DriftPages", List.mem_of_getElem? (i := 457) (by decide +kernel)⟩⟩
theorem f_X11_119 : zFL RX11 119 9 5 := ⟨by decide, by decide, Or.inr ⟨"DriftPages", List.mem_of_getElem? (i := 458) (by decide +kernel)⟩⟩
theorem f_X9_47 : zFL RX9 47 9 6 := ⟨by decide, by decide, Or.inl (List.mem_of_getElem? (i := 459) (by decide +kernel))⟩
theorem fp_X9_47 : Cond.fieldLink RX9 47 (zC 9) (zT 9 6).2.1 (zT 9 6).2.2.1 ∈ lw_tbl := List.mem_of_getElem? (i := 459) (by decide +kernel)
theorem f_X6_95 : zFL RX6 95 9 6 := ⟨by decide, by decide, Or.inr ⟨"DriftPages", List.mem_of_getElem? (i := 460) (by decide +kernel)⟩⟩
theorem f_X11_277 : zFL RX11 277 9 6 := ⟨by decide, by decide, Or.inr ⟨"DriftPages", List.mem_of_getElem? (i := 461) (by decide +kernel)⟩⟩
theorem f_X9_50 : zFL RX9 50 9 7 := ⟨by decide, by decide, Or.inl (List.mem_of_getElem? (i := 462) (by decide +kernel))⟩
theorem f_X5_79 : zFL RX5 79 9 7 := ⟨by decide, by decide, Or.inr ⟨"DriftPages", List.mem_of_getElem? (i := 463) (by decide +kernel)⟩⟩
theorem f_X11_106 : zFL RX11 106 9 7 := ⟨by decide, by decide, Or.inr ⟨"DriftPages", List.mem_of_getElem? (i := 464) (by decide +kernel)⟩⟩
theorem f_X9_54 : zFL RX9 54 9 8 := ⟨by decide, by decide, Or.inl (List.mem_of_getElem? (i := 465) (by decide +kernel))⟩
theorem f_X10_57 : zFL RX10 57 9 8 := ⟨by decide, by decide, Or.inr ⟨"DriftPages", List.mem_of_getElem? (i := 466) (by decide +kernel)⟩⟩
theorem f_X11_128 : zFL RX11 128 9 8 := ⟨by decide, by decide, Or.inr ⟨"DriftPages", List.mem_of_getElem? (i := 467) (by decide +kernel)⟩⟩
theorem n_X11_75 : Cond.classLink RX11 75 (zC 5) ∈ lw_tbl := List.mem_of_getElem? (i := 487) (by decide +kernel)
theorem nl_X11_75 : zNL RX11 75 5 := ⟨by decide, n_X11_75, List.mem_of_getElem? (i := 488) (by decide +kernel), List.mem_of_getElem? (i := 96) (by decide +kernel)⟩
theorem n_X5_9 : Cond.classLink RX5 9 (zC 2) ∈ lw_tbl := List.mem_of_getElem? (i := 493) (by decide +kernel)
theorem nl_X5_9 : zNL RX5 9 2 := ⟨by decide, n_X5_9, List.mem_of_getElem? (i := 494) (by decide +kernel), List.mem_of_getElem? (i := 97) (by decide +kernel)⟩
theorem f_X2_9 : zFL RX2 9 2 0 := ⟨by decide, by decide, Or.inl (List.mem_of_getElem? (i := 499) (by decide +kernel))⟩
theorem fp_X2_9 : Cond.fieldLink RX2 9 (zC 2) (zT 2 0).2.1 (zT 2 0).2.2.1 ∈ lw_tbl := List.mem_of_getElem? (i := 499) (by decide +kernel)
theorem f_X2_15 : zFL RX2 15 2 1 := ⟨by decide, by decide, Or.inl (List.mem_of_getElem? (i := 500) (by decide +kernel))⟩
theorem fp_X2_15 : Cond.fieldLink RX2 15 (zC 2) (zT 2 1).2.1 (zT 2 1).2.2.1 ∈ lw_tbl := List.mem_of_getElem? (i := 500) (by decide +kernel)
theorem f_X2_19 : zFL RX2 19 2 2 := ⟨by decide, by decide, Or.inl (List.mem_of_getElem? (i := 501) (by decide +kernel))⟩
theorem f_X2_22 : zFL RX2 22 2 3 := ⟨by decide, by decide, Or.inl (List.mem_of_getElem? (i := 502) (by decide +kernel))⟩
theorem f_X5_58 : zFL RX5 58 2 3 := ⟨by decide, by decide, Or.inr ⟨"DriftPages", List.mem_of_getElem? (i := 503) (by decide +kernel)⟩⟩
theorem f_X2_25 : zFL RX2 25 2 4 := ⟨by decide, by decide, Or.inl (List.mem_of_getElem? (i := 504) (by decide +kernel))⟩
theorem f_X5_76 : zFL RX5 76 2 4 := ⟨by decide, by decide, Or.inr ⟨"DriftPages", List.mem_of_getElem? (i := 505) (by decide +kernel)⟩⟩
theorem f_X2_28 : zFL RX2 28 2 5 := ⟨by decide, by decide, Or.inl (List.mem_of_getElem? (i := 506) (by decide +kernel))⟩
theorem f_X5_85 : zFL RX5 85 2 5 := ⟨by decide, by decide, Or.inr ⟨"DriftPages", List.mem_of_getElem? (i := 507) (by decide +kernel)⟩⟩
theorem f_X5_14 : zFL RX5 14 5 0 := ⟨by decide, by decide, Or.inl (List.mem_of_getElem? (i := 521) (by decide +kernel))⟩
theorem fp_X5_14 : Cond.fieldLink RX5 14 (zC 5) (zT 5 0).2.1 (zT 5 0).2.2.1 ∈ lw_tbl := List.mem_of_getElem? (i := 521) (by decide +kernel)
theorem f_X5_20 : zFL RX5 20 5 1 := ⟨by decide, by decide, Or.inl (List.mem_of_getElem? (i := 522) (by decide +kernel))⟩
theorem fp_X5_20 : Cond.fieldLink RX5 20 (zC 5) (zT 5 1).2.1 (zT 5 1).2.2.1 ∈ lw_tbl := List.mem_of_getElem? (i := 522) (by decide +kernel)
theorem f_X5_24 : zFL RX5 24 5 2 := ⟨by decide, by decide, Or.inl (List.mem_of_getElem? (i := 523) (by decide +kernel))⟩
theorem f_X11_87 : zFL RX11 87 5 2 := ⟨by decide, by decide, Or.inr ⟨"DriftPages", List.mem_of_getElem? (i := 524) (by decide +kernel)⟩⟩
theorem f_X5_28 : zFL RX5 28 5 3 := ⟨by decide, by decide, Or.inl (List.mem_of_getElem? (i := 525) (by decide +kernel))⟩
theorem f_X11_88 : zFL RX11 88 5 3 := ⟨by decide, by decide, Or.inr ⟨"DriftPages", List.mem_of_getElem? (i := 526) (by decide +kernel)⟩⟩
theorem k_X2_51 : Cond.constantLong RX2 51 (10) ∈ lw_tbl := List.mem_of_getElem? (i := 562) (by decide +kernel)
theorem k_X2_53 : Cond.constantLong RX2 53 (48) ∈ lw_tbl := List.mem_of_getElem? (i := 563) (by decide +kernel)
theorem k_X5_34 : Cond.constantLong RX5 34 (499850046565) ∈ lw_tbl := List.mem_of_getElem? (i := 564) (by decide +kernel)
theorem k_X5_93 : Cond.constantLong RX5 93 (121450625394034) ∈ lw_tbl := List.mem_of_getElem? (i := 585) (by decide +kernel)
theorem k_X5_95 : Cond.constantLong RX5 95 (2003792484) ∈ lw_tbl := List.mem_of_getElem? (i := 586) (by decide +kernel)
theorem k_X5_44 : Cond.constantLong RX5 44 (478660552050) ∈ lw_tbl := List.mem_of_getElem? (i := 595) (by decide +kernel)
theorem k_X5_107 : Cond.constantLong RX5 107 (30064) ∈ lw_tbl := List.mem_of_getElem? (i := 608) (by decide +kernel)
theorem k_X5_109 : Cond.constantLong RX5 109 (1685026670) ∈ lw_tbl := List.mem_of_getElem? (i := 609) (by decide +kernel)
theorem k_X5_111 : Cond.constantLong RX5 111 (439855772532) ∈ lw_tbl := List.mem_of_getElem? (i := 610) (by decide +kernel)
theorem k_X5_49 : Cond.constantLong RX5 49 (7499639) ∈ lw_tbl := List.mem_of_getElem? (i := 615) (by decide +kernel)
theorem k_X5_137 : Cond.constantLong RX5 137 (1852796517) ∈ lw_tbl := List.mem_of_getElem? (i := 632) (by decide +kernel)
theorem k_X5_139 : Cond.constantLong RX5 139 (-9223372036854775808) ∈ lw_tbl := List.mem_of_getElem? (i := 633) (by decide +kernel)
theorem k_X11_292 : Cond.constantLong RX11 292 (-9223372036854775808) ∈ lw_tbl := List.mem_of_getElem? (i := 700) (by decide +kernel)
theorem k_X7_34 : Cond.constantLong RX7 34 (-9223372036854775808) ∈ lw_tbl := List.mem_of_getElem? (i := 705) (by decide +kernel)
theorem k_X3_48 : Cond.constantLong RX3 48 (-9223372036854775808) ∈ lw_tbl := List.mem_of_getElem? (i := 754) (by decide +kernel)
theorem k_X3_53 : Cond.constant RX3 53 (32768) ∈ lw_tbl := List.mem_of_getElem? (i := 756) (by decide +kernel)
theorem k_X8_39 : Cond.constantLong RX8 39 (-9223372036854775808) ∈ lw_tbl := List.mem_of_getElem? (i := 773) (by decide +kernel)
theorem k_X11_330 : Cond.constantLong RX11 330 (1099511627776) ∈ lw_tbl := List.mem_of_getElem? (i := 780) (by decide +kernel)
theorem k_X9_57 : Cond.constantLong RX9 57 (-9223372036854775808) ∈ lw_tbl := List.mem_of_getElem? (i := 914) (by decide +kernel)
theorem k_X11_322 : Cond.constantLong RX11 322 (281474976710656) ∈ lw_tbl := List.mem_of_getElem? (i := 918) (by decide +kernel)
theorem k_X11_324 : Cond.constantLong RX11 324 (255) ∈ lw_tbl := List.mem_of_getElem? (i := 919) (by decide +kernel)
theorem k_X11_326 : Cond.constantLong RX11 326 (97) ∈ lw_tbl := List.mem_of_getElem? (i := 920) (by decide +kernel)
theorem k_X11_328 : Cond.constantLong RX11 328 (122) ∈ lw_tbl := List.mem_of_getElem? (i := 921) (by decide +kernel)
theorem k_X9_63 : Cond.constantLong RX9 63 (-9999) ∈ lw_tbl := List.mem_of_getElem? (i := 922) (by decide +kernel)
theorem k_X9_65 : Cond.constantLong RX9 65 (9999) ∈ lw_tbl := List.mem_of_getElem? (i := 923) (by decide +kernel)
theorem f_X12_126 : zFL RX12 126 12 0 := ⟨by decide, by decide, Or.inl (List.mem_of_getElem? (i := 1153) (by decide +kernel))⟩
theorem f_X12_129 : zFL RX12 129 12 1 := ⟨by decide, by decide, Or.inl (List.mem_of_getElem? (i := 1154) (by decide +kernel))⟩
theorem f_X12_259 : zFL RX12 259 12 2 := ⟨by decide, by decide, Or.inl (List.mem_of_getElem? (i := 1155) (by decide +kernel))⟩
theorem f_X12_11 : zFL RX12 11 12 3 := ⟨by decide, by decide, Or.inl (List.mem_of_getElem? (i := 1156) (by decide +kernel))⟩
theorem f_X12_15 : zFL RX12 15 12 4 := ⟨by decide, by decide, Or.inl (List.mem_of_getElem? (i := 1157) (by decide +kernel))⟩
theorem fp_X12_15 : Cond.fieldLink RX12 15 (zC 12) (zT 12 4).2.1 (zT 12 4).2.2.1 ∈ lw_tbl := List.mem_of_getElem? (i := 1157) (by decide +kernel)
theorem f_X12_132 : zFL RX12 132 12 5 := ⟨by decide, by decide, Or.inl (List.mem_of_getElem? (i := 1158) (by decide +kernel))⟩
theorem f_X12_271 : zFL RX12 271 12 6 := ⟨by decide, by decide, Or.inl (List.mem_of_getElem? (i := 1159) (by decide +kernel))⟩
theorem f_X12_19 : zFL RX12 19 12 7 := ⟨by decide, by decide, Or.inl (List.mem_of_getElem? (i := 1160) (by decide +kernel))⟩
theorem fp_X12_19 : Cond.fieldLink RX12 19 (zC 12) (zT 12 7).2.1 (zT 12 7).2.2.1 ∈ lw_tbl := List.mem_of_getElem? (i := 1160) (by decide +kernel)
theorem f_X12_274 : zFL RX12 274 12 8 := ⟨by decide, by decide, Or.inl (List.mem_of_getElem? (i := 1161) (by decide +kernel))⟩
theorem f_X12_23 : zFL RX12 23 12 9 := ⟨by decide, by decide, Or.inl (List.mem_of_getElem? (i := 1162) (by decide +kernel))⟩
theorem fp_X12_23 : Cond.fieldLink RX12 23 (zC 12) (zT 12 9).2.1 (zT 12 9).2.2.1 ∈ lw_tbl := List.mem_of_getElem? (i := 1162) (by decide +kernel)
theorem f_X12_26 : zFL RX12 26 12 10 := ⟨by decide, by decide, Or.inl (List.mem_of_getElem? (i := 1163) (by decide +kernel))⟩
theorem fp_X12_26 : Cond.fieldLink RX12 26 (zC 12) (zT 12 10).2.1 (zT 12 10).2.2.1 ∈ lw_tbl := List.mem_of_getElem? (i := 1163) (by decide +kernel)
theorem f_X12_29 : zFL RX12 29 12 11 := ⟨by decide, by decide, Or.inl (List.mem_of_getElem? (i := 1164) (by decide +kernel))⟩
theorem fp_X12_29 : Cond.fieldLink RX12 29 (zC 12) (zT 12 11).2.1 (zT 12 11).2.2.1 ∈ lw_tbl := List.mem_of_getElem? (i := 1164) (by decide +kernel)
theorem f_X12_296 : zFL RX12 296 12 12 := ⟨by decide, by decide, Or.inl (List.mem_of_getElem? (i := 1165) (by decide +kernel))⟩
theorem f_X12_188 : zFL RX12 188 12 13 := ⟨by decide, by decide, Or.inl (List.mem_of_getElem? (i := 1166) (by decide +kernel))⟩
theorem f_X12_32 : zFL RX12 32 12 14 := ⟨by decide, by decide, Or.inl (List.mem_of_getElem? (i := 1167) (by decide +kernel))⟩
theorem fp_X12_32 : Cond.fieldLink RX12 32 (zC 12) (zT 12 14).2.1 (zT 12 14).2.2.1 ∈ lw_tbl := List.mem_of_getElem? (i := 1167) (by decide +kernel)
theorem f_X12_36 : zFL RX12 36 12 15 := ⟨by decide, by decide, Or.inl (List.mem_of_getElem? (i := 1168) (by decide +kernel))⟩
theorem fp_X12_36 : Cond.fieldLink RX12 36 (zC 12) (zT 12 15).2.1 (zT 12 15).2.2.1 ∈ lw_tbl := List.mem_of_getElem? (i := 1168) (by decide +kernel)
theorem f_X12_217 : zFL RX12 217 12 16 := ⟨by decide, by decide, Or.inl (List.mem_of_getElem? (i := 1169) (by decide +kernel))⟩
theorem f_X12_39 : zFL RX12 39 12 17 := ⟨by decide, by decide, Or.inl (List.mem_of_getElem? (i := 1170) (by decide +kernel))⟩
theorem fp_X12_39 : Cond.fieldLink RX12 39 (zC 12) (zT 12 17).2.1 (zT 12 17).2.2.1 ∈ lw_tbl := List.mem_of_getElem? (i := 1170) (by decide +kernel)
theorem f_X12_42 : zFL RX12 42 12 18 := ⟨by decide, by decide, Or.inl (List.mem_of_getElem? (i := 1171) (by decide +kernel))⟩
theorem fp_X12_42 : Cond.fieldLink RX12 42 (zC 12) (zT 12 18).2.1 (zT 12 18).2.2.1 ∈ lw_tbl := List.mem_of_getElem? (i := 1171) (by decide +kernel)
theorem f_X12_45 : zFL RX12 45 12 19 := ⟨by decide, by decide, Or.inl (List.mem_of_getElem? (i := 1172) (by decide +kernel))⟩
theorem fp_X12_45 : Cond.fieldLink RX12 45 (zC 12) (zT 12 19).2.1 (zT 12 19).2.2.1 ∈ lw_tbl := List.mem_of_getElem? (i := 1172) (by decide +kernel)
theorem f_X12_233 : zFL RX12 233 12 20 := ⟨by decide, by decide, Or.inl (List.mem_of_getElem? (i := 1173) (by decide +kernel))⟩
theorem f_X12_48 : zFL RX12 48 12 21 := ⟨by decide, by decide, Or.inl (List.mem_of_getElem? (i := 1174) (by decide +kernel))⟩
theorem fp_X12_48 : Cond.fieldLink RX12 48 (zC 12) (zT 12 21).2.1 (zT 12 21).2.2.1 ∈ lw_tbl := List.mem_of_getElem? (i := 1174) (by decide +kernel)
theorem f_X12_139 : zFL RX12 139 12 22 := ⟨by decide, by decide, Or.inl (List.mem_of_getElem? (i := 1175) (by decide +kernel))⟩
theorem f_X12_149 : zFL RX12 149 12 23 := ⟨by decide, by decide, Or.inl (List.mem_of_getElem? (i := 1176) (by decide +kernel))⟩
theorem f_X12_142 : zFL RX12 142 12 24 := ⟨by decide, by decide, Or.inl (List.mem_of_getElem? (i := 1177) (by decide +kernel))⟩
theorem f_X12_152 : zFL RX12 152 12 25 := ⟨by decide, by decide, Or.inl (List.mem_of_getElem? (i := 1178) (by decide +kernel))⟩
theorem f_X12_167 : zFL RX12 167 12 26 := ⟨by decide, by decide, Or.inl (List.mem_of_getElem? (i := 1179) (by decide +kernel))⟩
theorem f_X12_180 : zFL RX12 180 12 27 := ⟨by decide, by decide, Or.inl (List.mem_of_getElem? (i := 1180) (by decide +kernel))⟩
theorem f_X12_183 : zFL RX12 183 12 28 := ⟨by decide, by decide, Or.inl (List.mem_of_getElem? (i := 1181) (by decide +kernel))⟩
theorem f_X12_277 : zFL RX12 277 12 29 := ⟨by decide, by decide, Or.inl (List.mem_of_getElem? (i := 1182) (by decide +kernel))⟩
theorem f_X12_280 : zFL RX12 280 12 30 := ⟨by decide, by decide, Or.inl (List.mem_of_getElem? (i := 1183) (by decide +kernel))⟩
theorem f_X12_283 : zFL RX12 283 12 31 := ⟨by decide, by decide, Or.inl (List.mem_of_getElem? (i := 1184) (by decide +kernel))⟩
theorem f_X12_51 : zFL RX12 51 12 32 := ⟨by decide, by decide, Or.inl (List.mem_of_getElem? (i := 1185) (by decide +kernel))⟩
theorem fp_X12_51 : Cond.fieldLink RX12 51 (zC 12) (zT 12 32).2.1 (zT 12 32).2.2.1 ∈ lw_tbl := List.mem_of_getElem? (i := 1185) (by decide +kernel)
theorem f_X12_54 : zFL RX12 54 12 33 := ⟨by decide, by decide, Or.inl (List.mem_of_getElem? (i := 1186) (by decide +kernel))⟩
theorem fp_X12_54 : Cond.fieldLink RX12 54 (zC 12) (zT 12 33).2.1 (zT 12 33).2.2.1 ∈ lw_tbl := List.mem_of_getElem? (i := 1186) (by decide +kernel)
theorem f_X12_57 : zFL RX12 57 12 34 := ⟨by decide, by decide, Or.inl (List.mem_of_getElem? (i := 1187) (by decide +kernel))⟩
theorem fp_X12_57 : Cond.fieldLink RX12 57 (zC 12) (zT 12 34).2.1 (zT 12 34).2.2.1 ∈ lw_tbl := List.mem_of_getElem? (i := 1187) (by decide +kernel)
theorem f_X12_60 : zFL RX12 60 12 35 := ⟨by decide, by decide, Or.inl (List.mem_of_getElem? (i := 1188) (by decide +kernel))⟩
theorem fp_X12_60 : Cond.fieldLink RX12 60 (zC 12) (zT 12 35).2.1 (zT 12 35).2.2.1 ∈ lw_tbl := List.mem_of_getElem? (i := 1188) (by decide +kernel)
theorem f_X12_334 : zFL RX12 334 12 36 := ⟨by decide, by decide, Or.inl (List.mem_of_getElem? (i := 1189) (by decide +kernel))⟩
theorem f_X12_63 : zFL RX12 63 12 37 := ⟨by decide, by decide, Or.inl (List.mem_of_getElem? (i := 1190) (by decide +kernel))⟩
theorem fp_X12_63 : Cond.fieldLink RX12 63 (zC 12) (zT 12 37).2.1 (zT 12 37).2.2.1 ∈ lw_tbl := List.mem_of_getElem? (i := 1190) (by decide +kernel)
theorem f_X12_348 : zFL RX12 348 12 38 := ⟨by decide, by decide, Or.inl (List.mem_of_getElem? (i := 1191) (by decide +kernel))⟩
theorem f_X12_286 : zFL RX12 286 12 39 := ⟨by decide, by decide, Or.inl (List.mem_of_getElem? (i := 1192) (by decide +kernel))⟩
theorem f_X12_66 : zFL RX12 66 12 40 := ⟨by decide, by decide, Or.inl (List.mem_of_getElem? (i := 1193) (by decide +kernel))⟩
theorem fp_X12_66 : Cond.fieldLink RX12 66 (zC 12) (zT 12 40).2.1 (zT 12 40).2.2.1 ∈ lw_tbl := List.mem_of_getElem? (i := 1193) (by decide +kernel)
theorem f_X12_69 : zFL RX12 69 12 41 := ⟨by decide, by decide, Or.inl (List.mem_of_getElem? (i := 1194) (by decide +kernel))⟩
theorem fp_X12_69 : Cond.fieldLink RX12 69 (zC 12) (zT 12 41).2.1 (zT 12 41).2.2.1 ∈ lw_tbl := List.mem_of_getElem? (i := 1194) (by decide +kernel)
theorem f_X12_72 : zFL RX12 72 12 42 := ⟨by decide, by decide, Or.inl (List.mem_of_getElem? (i := 1195) (by decide +kernel))⟩
theorem fp_X12_72 : Cond.fieldLink RX12 72 (zC 12) (zT 12 42).2.1 (zT 12 42).2.2.1 ∈ lw_tbl := List.mem_of_getElem? (i := 1195) (by decide +kernel)
theorem f_X12_75 : zFL RX12 75 12 43 := ⟨by decide, by decide, Or.inl (List.mem_of_getElem? (i := 1196) (by decide +kernel))⟩
theorem fp_X12_75 : Cond.fieldLink RX12 75 (zC 12) (zT 12 43).2.1 (zT 12 43).2.2.1 ∈ lw_tbl := List.mem_of_getElem? (i := 1196) (by decide +kernel)
theorem f_X12_392 : zFL RX12 392 12 44 := ⟨by decide, by decide, Or.inl (List.mem_of_getElem? (i := 1197) (by decide +kernel))⟩
theorem f_X12_78 : zFL RX12 78 12 45 := ⟨by decide, by decide, Or.inl (List.mem_of_getElem? (i := 1198) (by decide +kernel))⟩
theorem fp_X12_78 : Cond.fieldLink RX12 78 (zC 12) (zT 12 45).2.1 (zT 12 45).2.2.1 ∈ lw_tbl := List.mem_of_getElem? (i := 1198) (by decide +kernel)
theorem f_X12_289 : zFL RX12 289 12 46 := ⟨by decide, by decide, Or.inl (List.mem_of_getElem? (i := 1199) (by decide +kernel))⟩
theorem f_X12_399 : zFL RX12 399 12 47 := ⟨by decide, by decide, Or.inl (List.mem_of_getElem? (i := 1200) (by decide +kernel))⟩
theorem f_X12_81 : zFL RX12 81 12 48 := ⟨by decide, by decide, Or.inl (List.mem_of_getElem? (i := 1201) (by decide +kernel))⟩
theorem fp_X12_81 : Cond.fieldLink RX12 81 (zC 12) (zT 12 48).2.1 (zT 12 48).2.2.1 ∈ lw_tbl := List.mem_of_getElem? (i := 1201) (by decide +kernel)
theorem f_X12_84 : zFL RX12 84 12 49 := ⟨by decide, by decide, Or.inl (List.mem_of_getElem? (i := 1202) (by decide +kernel))⟩
theorem fp_X12_84 : Cond.fieldLink RX12 84 (zC 12) (zT 12 49).2.1 (zT 12 49).2.2.1 ∈ lw_tbl := List.mem_of_getElem? (i := 1202) (by decide +kernel)
theorem f_X12_87 : zFL RX12 87 12 50 := ⟨by decide, by decide, Or.inl (List.mem_of_getElem? (i := 1203) (by decide +kernel))⟩
theorem fp_X12_87 : Cond.fieldLink RX12 87 (zC 12) (zT 12 50).2.1 (zT 12 50).2.2.1 ∈ lw_tbl := List.mem_of_getElem? (i := 1203) (by decide +kernel)
theorem f_X12_90 : zFL RX12 90 12 51 := ⟨by decide, by decide, Or.inl (List.mem_of_getElem? (i := 1204) (by decide +kernel))⟩
theorem fp_X12_90 : Cond.fieldLink RX12 90 (zC 12) (zT 12 51).2.1 (zT 12 51).2.2.1 ∈ lw_tbl := List.mem_of_getElem? (i := 1204) (by decide +kernel)
theorem f_X12_93 : zFL RX12 93 12 52 := ⟨by decide, by decide, Or.inl (List.mem_of_getElem? (i := 1205) (by decide +kernel))⟩
theorem fp_X12_93 : Cond.fieldLink RX12 93 (zC 12) (zT 12 52).2.1 (zT 12 52).2.2.1 ∈ lw_tbl := List.mem_of_getElem? (i := 1205) (by decide +kernel)
theorem f_X12_96 : zFL RX12 96 12 53 := ⟨by decide, by decide, Or.inl (List.mem_of_getElem? (i := 1206) (by decide +kernel))⟩
theorem fp_X12_96 : Cond.fieldLink RX12 96 (zC 12) (zT 12 53).2.1 (zT 12 53).2.2.1 ∈ lw_tbl := List.mem_of_getElem? (i := 1206) (by decide +kernel)
theorem f_X12_409 : zFL RX12 409 12 54 := ⟨by decide, by decide, Or.inl (List.mem_of_getElem? (i := 1207) (by decide +kernel))⟩
theorem f_X12_99 : zFL RX12 99 12 55 := ⟨by decide, by decide, Or.inl (List.mem_of_getElem? (i := 1208) (by decide +kernel))⟩
theorem fp_X12_99 : Cond.fieldLink RX12 99 (zC 12) (zT 12 55).2.1 (zT 12 55).2.2.1 ∈ lw_tbl := List.mem_of_getElem? (i := 1208) (by decide +kernel)
theorem f_X12_102 : zFL RX12 102 12 56 := ⟨by decide, by decide, Or.inl (List.mem_of_getElem? (i := 1209) (by decide +kernel))⟩
theorem fp_X12_102 : Cond.fieldLink RX12 102 (zC 12) (zT 12 56).2.1 (zT 12 56).2.2.1 ∈ lw_tbl := List.mem_of_getElem? (i := 1209) (by decide +kernel)
theorem f_X12_105 : zFL RX12 105 12 57 := ⟨by decide, by decide, Or.inl (List.mem_of_getElem? (i := 1210) (by decide +kernel))⟩
theorem fp_X12_105 : Cond.fieldLink RX12 105 (zC 12) (zT 12 57).2.1 (zT 12 57).2.2.1 ∈ lw_tbl := List.mem_of_getElem? (i := 1210) (by decide +kernel)
theorem f_X12_108 : zFL RX12 108 12 58 := ⟨by decide, by decide, Or.inl (List.mem_of_getElem? (i := 1211) (by decide +kernel))⟩
theorem fp_X12_108 : Cond.fieldLink RX12 108 (zC 12) (zT 12 58).2.1 (zT 12 58).2.2.1 ∈ lw_tbl := List.mem_of_getElem? (i := 1211) (by decide +kernel)
theorem f_X12_111 : zFL RX12 111 12 59 := ⟨by decide, by decide, Or.inl (List.mem_of_getElem? (i := 1212) (by decide +kernel))⟩
theorem fp_X12_111 : Cond.fieldLink RX12 111 (zC 12) (zT 12 59).2.1 (zT 12 59).2.2.1 ∈ lw_tbl := List.mem_of_getElem? (i := 1212) (by decide +kernel)
theorem f_X12_114 : zFL RX12 114 12 60 := ⟨by decide, by decide, Or.inl (List.mem_of_getElem? (i := 1213) (by decide +kernel))⟩
theorem fp_X12_114 : Cond.fieldLink RX12 114 (zC 12) (zT 12 60).2.1 (zT 12 60).2.2.1 ∈ lw_tbl := List.mem_of_getElem? (i := 1213) (by decide +kernel)
theorem f_X12_117 : zFL RX12 117 12 61 := ⟨by decide, by decide, Or.inl (List.mem_of_getElem? (i := 1214) (by decide +kernel))⟩
theorem fp_X12_117 : Cond.fieldLink RX12 117 (zC 12) (zT 12 61).2.1 (zT 12 61).2.2.1 ∈ lw_tbl := List.mem_of_getElem? (i := 1214) (by decide +kernel)
theorem f_X12_120 : zFL RX12 120 12 62 := ⟨by decide, by decide, Or.inl (List.mem_of_getElem? (i := 1215) (by decide +kernel))⟩
theorem fp_X12_120 : Cond.fieldLink RX12 120 (zC 12) (zT 12 62).2.1 (zT 12 62).2.2.1 ∈ lw_tbl := List.mem_of_getElem? (i := 1215) (by decide +kernel)
theorem f_X12_123 : zFL RX12 123 12 63 := ⟨by decide, by decide, Or.inl (List.mem_of_getElem? (i := 1216) (by decide +kernel))⟩
theorem fp_X12_123 : Cond.fieldLink RX12 123 (zC 12) (zT 12 63).2.1 (zT 12 63).2.2.1 ∈ lw_tbl := List.mem_of_getElem? (i := 1216) (by decide +kernel)
theorem k_X12_155 : Cond.constantLong RX12 155 (97) ∈ lw_tbl := List.mem_of_getElem? (i := 1381) (by decide +kernel)
theorem k_X12_157 : Cond.constantLong RX12 157 (122) ∈ lw_tbl := List.mem_of_getElem? (i := 1382) (by decide +kernel)
theorem k_X12_163 : Cond.constantLong RX12 163 (48) ∈ lw_tbl := List.mem_of_getElem? (i := 1383) (by decide +kernel)
theorem k_X12_165 : Cond.constantLong RX12 165 (57) ∈ lw_tbl := List.mem_of_getElem? (i := 1384) (by decide +kernel)
theorem k_X12_186 : Cond.constantLong RX12 186 (256) ∈ lw_tbl := List.mem_of_getElem? (i := 1462) (by decide +kernel)
theorem k_X12_229 : Cond.constantLong RX12 229 (-9223372036854775808) ∈ lw_tbl := List.mem_of_getElem? (i := 1486) (by decide +kernel)
theorem k_X12_299 : Cond.constantLong RX12 299 (63) ∈ lw_tbl := List.mem_of_getElem? (i := 1523) (by decide +kernel)
theorem k_X12_322 : Cond.constantLong RX12 322 (2) ∈ lw_tbl := List.mem_of_getElem? (i := 1543) (by decide +kernel)
theorem k_X12_341 : Cond.constant RX12 341 (32768) ∈ lw_tbl := List.mem_of_getElem? (i := 1580) (by decide +kernel)
theorem k_X12_342 : Cond.constantLong RX12 342 (255) ∈ lw_tbl := List.mem_of_getElem? (i := 1581) (by decide +kernel)
theorem k_X12_376 : Cond.constantLong RX12 376 (4) ∈ lw_tbl := List.mem_of_getElem? (i := 1614) (by decide +kernel)
theorem k_X12_372 : Cond.constantLong RX12 372 (-9999) ∈ lw_tbl := List.mem_of_getElem? (i := 1619) (by decide +kernel)
theorem k_X12_374 : Cond.constantLong RX12 374 (9999) ∈ lw_tbl := List.mem_of_getElem? (i := 1620) (by decide +kernel)
theorem k_X12_412 : Cond.constantLong RX12 412 (20) ∈ lw_tbl := List.mem_of_getElem? (i := 1652) (by decide +kernel)
theorem k_X12_437 : Cond.constantLong RX12 437 (3) ∈ lw_tbl := List.mem_of_getElem? (i := 1737) (by decide +kernel)
theorem k_X12_445 : Cond.constantLong RX12 445 (6) ∈ lw_tbl := List.mem_of_getElem? (i := 1758) (by decide +kernel)
theorem ac_int : Cond.arrayClass (newarray.typeOf .int) ∈ lw_tbl := List.mem_of_getElem? (i := 133) (by decide +kernel)
theorem ac_long : Cond.arrayClass (newarray.typeOf .long) ∈ lw_tbl := List.mem_of_getElem? (i := 164) (by decide +kernel)
theorem ac_boolean : Cond.arrayClass (newarray.typeOf .boolean) ∈ lw_tbl := List.mem_of_getElem? (i := 163) (by decide +kernel)
end
section
section ZCALLS
variable {E : zE} {lv mc ms : Nat} {M : zMI} {cc : ByteArray} {pc : Nat} {ls : List (Option zV)} {st rest : List zV} {S : zM} {Q : Option zV → zM → Prop}
/-- a method that can be called: its code's word, its class, how many parameters -/
def zMK (M : zMI) (cc : ByteArray) (n : Nat) : Prop := Cond.code M.2.1 cc M.2.2.1 M.2.2.2 ∈ lw_tbl ∧ Cond.initialized M.2.1.cls ∈ lw_tbl ∧ (M.2.1.cls ≠ "java/lang/invoke/MethodHandle" ∧ M.2.1.cls ≠ "java/lang/invoke/VarHandle" ∧ (parseMethodDescriptor M.2.1.desc).map (fun d => d.parameters.length) = some n) ∧ M.2.2.1 ≤ 29
def zMV (y : MethodName) : Prop := Cond.instanceMethod y ∈ lw_tbl ∧ Cond.selects y.cls y y ∈ lw_tbl
theorem zCB {M' : zMI} {cc' : ByteArray} {n lv' mc' ms' i : Nat} {p : Program} {R : Room} {s : State} {m : MethodId} {args : Array Value} {meth : Method} {c : Code} {locs : List Loc} {cells slots mcT msT : Nat} (C : zCx E M cc lv mc ms p R s m meth c locs cells slots mcT msT) (hm : zMK M' cc' n) (hlv : lv' + 1 ≤ lv) :
    (zrm lv' mc' ms').cells = mc' ∧ (zrm lv' mc' ms').slots = ms' ∧ (zrm lv' mc' ms').frames + 1 ≤ R.frames ∧ 8 + (M'.2.2.1 + 11) + (zrm lv' mc' ms').locals ≤ R.locals ∧ (∀ w ∈ zws M' cc', ∀ (a' : Array Value) (U : State), s.WarmedH U.vm → w.before a' U = true) ∧ Cond.code M'.2.1 cc' M'.2.2.1 M'.2.2.2 ∈ zws M' cc' ∧
    (Cond.code M'.2.1 cc' M'.2.2.1 M'.2.2.2).before args s = true ∧ (Cond.initialized M'.2.1.cls).before args s = true ∧ (M'.2.1.cls ≠ "java/lang/invoke/MethodHandle" ∧ M'.2.1.cls ≠ "java/lang/invoke/VarHandle") ∧ (∀ sig, parseMethodDescriptor M'.2.1.desc = some sig → n = sig.parameters.length) := by
  obtain ⟨c1, c2, c3, c4, c5, c6, c7, c8, c9, c10, -⟩ := C
  obtain ⟨m1, m2, ⟨m3, m4, m5⟩, m6⟩ := hm
  refine ⟨rfl, rfl, ?_, ?_, fun w hw a' U hW => ?_, List.mem_singleton.mpr rfl, c8.w m1 rfl _, c8.w m2 rfl _, ⟨m3, m4⟩, fun sig h => ?_⟩
  · show lv' + 1 ≤ _
    omega
  · show 8 + (M'.2.2.1 + 11) + 48 * lv' ≤ _
    omega
  · rw [List.mem_singleton.mp hw]
    exact (c8.moved hW).w m1 rfl _
  · rw [h] at m5
    exact (Option.some.inj m5).symm
theorem zblind {av : List zV} : FrameBlind (zPc E av S) := fun a U g mk h => ⟨h.1, h.2.1.moved (U := U.calling g mk a) (State.WarmedH.refl U), h.2.2⟩
theorem zroom (rest : List zV) (h : (rest.map zcat).sum ≤ 8) : ((rest.map (ztv E)).map fun v => v.category).sum ≤ 8 := by
  rw [List.map_map]
  have e : ((fun v : Value => v.category) ∘ ztv E) = zcat := funext fun v => ztv_cat E v
  rw [e]
  exact h
theorem zback {p : Program} {l : Launch} {e : Env} {R : Room} {s : State} {m : MethodId} {args a : Array Value} {below : List Frame} {meth : Method} {c : Code} {H : Heap} {locs : List Loc} {cells slots mcT msT mc' ms' mc2 ms2 : Nat} {lsA : Array Slot} {stk : List Value} {Post : Option zV → zM → Prop}
    (hr : va_Run p l e R s m args below meth c H locs cells slots mc' ms' (F0 m pc lsA stk) (rest.map (ztv E)) (zQc E Post a) (zfr E)) (C : zCx E M cc lv mc ms p R s m meth c locs cells slots mcT msT) (hL : zLs E lsA M.2.2.1 ls) (h1 : mc2 + mc' ≤ mc) (h2 : ms2 + ms' ≤ ms)
    (kk : ∀ r T, Post r T → zJ E lv mc2 ms2 M cc (pc + 3) ls (r.toList ++ rest) T Q) : W p l e R s m args below meth c H locs cells slots (MQ below (zQc E Q) args s mcT msT (zfr E)) (F0 m pc lsA stk) := by
  intro T hT X
  obtain ⟨v, st₀, t, T', L, h0, X', hLf, e1, e2, ⟨r, S', hv, hrp, hq⟩, stp⟩ := hr T hT X
  cases hv
  have C2 : zCx E M cc lv mc2 ms2 p R s m meth c (locs ++ L) (cells + mc') (slots + ms') mcT msT := by
    obtain ⟨c1, c2, c3, c4, c5, c6, c7, c8, c9, c10, c11, c12, c13⟩ := zC_made C h1 h2
    exact ⟨c1, c2, c3, c4, c5, c6, c7, c8, c9, c10, c11, c12, fun q hq => by
      rcases List.mem_append.mp hq with h | h
      · exact c13 q h
      · exact hLf q h⟩
  obtain ⟨t2, a1, b1⟩ := kk r S' hq p l e R s m args below meth c T'.heap (locs ++ L) (cells + mc') (slots + ms') mcT msT lsA C2 (by rw [e1]; exact hrp) hL T' rfl X'
  refine ⟨t2, stp t2 ?_, b1⟩
  have e3 : (r.map (ztv E)).toList ++ rest.map (ztv E) = (r.toList ++ rest).map (ztv E) := by cases r <;> rfl
  rw [e3]
  exact a1
theorem zcells {p : Program} {R : Room} {s : State} {m : MethodId} {meth : Method} {c : Code} {locs : List Loc} {cells slots mcT msT mc' ms' mc2 ms2 : Nat} (C : zCx E M cc lv mc ms p R s m meth c locs cells slots mcT msT) (h1 : mc2 + mc' ≤ mc) (h2 : ms2 + ms' ≤ ms) : cells + mc' ≤ R.cells ∧ slots + ms' ≤ R.slots := by
  obtain ⟨-, -, -, -, -, -, -, -, -, -, ⟨c11, c12⟩, -, -⟩ := C
  omega
theorem j_callV {M' : zMI} {cc' : ByteArray} {i n lv' mc' ms' mc2 ms2 : Nat} {As : List zV} {Post : Option zV → zM → Prop} {b t : Nat} (hs : zSp E lv' mc' ms' M' cc' (zR b :: As) S Post) (hd : decode cc pc = .ok (.invokevirtual i, 3)) (hl : Cond.methodLink M.1 i M'.2.1 ∈ lw_tbl) (hm : zMK M' cc' n) (hv : zMV M'.2.1) (ht : t < 13) (htc : M'.2.1.cls = zC t) (hb : zkd S b = (t + 1, 0)) (hlv : lv' + 1 ≤ lv) (hn : As.length = n) (hst : (As.reverse ++ zR b :: rest) = st) (hw : (rest.map zcat).sum ≤ 8) (h1 : mc2 + mc' ≤ mc) (h2 : ms2 + ms' ≤ ms)
    (kk : ∀ r T, Post r T → zJ E lv mc2 ms2 M cc (pc + 3) ls (r.toList ++ rest) T Q) : zJ E lv mc ms M cc pc ls st S Q := by
  intro p l e R s m args below meth c H locs cells slots mcT msT lsA C hP hL
  subst hst
  have hT := C.2.2.2.2.2.2.2.1
  obtain ⟨k1, k2, k3, k4, k5, k6, k7, k8, k9, k10⟩ := zCB (args := args) (mc' := mc') (ms' := ms') (i := i) C hm hlv
  refine zback (a := ((zR b :: As).map (ztv E)).toArray) ?_ C hL h1 h2 kk
  obtain ⟨b0, cell, q1, q2, q3, -⟩ := hP.2.2.1 b t 0 hb ht
  have hfc := (hT.2.1.1 t _ (zcl t ht)).2.1
  have est : ((As.reverse ++ zR b :: rest).map (ztv E)) = (As.map (ztv E)).reverse ++ .ref (zad E b) :: rest.map (ztv E) := by
    rw [List.map_append, List.map_cons, List.map_reverse]
    show _ ++ zrv (zb E) b :: _ = _
    rw [zrv_ad b0]
  have eav : ((zR b :: As).map (ztv E)).toArray = (Value.ref (zad E b) :: As.map (ztv E)).toArray := by
    rw [List.map_cons]
    show (zrv (zb E) b :: _).toArray = _
    rw [zrv_ad b0]
  rw [est, eav]
  exact va_runV (C := zC t) (n := n) (bytes := cc') (maxL := M'.2.2.1) (ret := M'.2.2.2) (Ts := []) ⟨C.1, C.2.1, C.2.2.1, C.2.2.2.2.2.2.1, fun w h => by simp at h⟩ (hs l) ⟨⟨k1, k2, k3, k4, k5, k6, k7, k8, k9, k10, hT.w hl rfl _⟩, hT.w hv.1 rfl _, by rw [← htc]; exact hT.w hv.2 rfl _⟩ ⟨zblind, ⟨cell, q1, by rw [q3]; rfl, by rw [q2]; exact hfc⟩, fun U hU hW => ⟨by rw [← eav], hT.moved hW, by rw [hU]; exact hP⟩⟩ rfl (by rw [List.length_map]; exact hn) (by rw [hL.1]) rfl (lv_room (zroom rest hw)) hd (zcells C h1 h2)
theorem j_callI {M' : zMI} {cc' : ByteArray} {i n lv' mc' ms' mc2 ms2 : Nat} {As : List zV} {Post : Option zV → zM → Prop} {b : Nat} (hs : zSp E lv' mc' ms' M' cc' (zR b :: As) S Post) (hd : decode cc pc = .ok (.invokespecial i, 3)) (hl : Cond.methodLink M.1 i M'.2.1 ∈ lw_tbl) (hm : zMK M' cc' n) (hr : M'.2.2.2 = none) (hi : M'.2.1.name = "<init>") (hv : Cond.instanceMethod M'.2.1 ∈ lw_tbl) (hb : 0 < b) (hlv : lv' + 1 ≤ lv) (hn : As.length = n) (hst : (As.reverse ++ zR b :: rest) = st) (hw : (rest.map zcat).sum ≤ 8) (h1 : mc2 + mc' ≤ mc) (h2 : ms2 + ms' ≤ ms)
    (kk : ∀ r T, Post r T → zJ E lv mc2 ms2 M cc (pc + 3) ls (r.toList ++ rest) T Q) : zJ E lv mc ms M cc pc ls st S Q := by
  intro p l e R s m args below meth c H locs cells slots mcT msT lsA C hP hL
  subst hst
  have hT := C.2.2.2.2.2.2.2.1
  obtain ⟨k1, k2, k3, k4, k5, k6, k7, k8, k9, k10⟩ := zCB (args := args) (mc' := mc') (ms' := ms') (i := i) C hm hlv
  refine zback (a := ((zR b :: As).map (ztv E)).toArray) ?_ C hL h1 h2 kk
  have est : ((As.reverse ++ zR b :: rest).map (ztv E)) = (As.map (ztv E)).reverse ++ .ref (zad E b) :: rest.map (ztv E) := by
    rw [List.map_append, List.map_cons, List.map_reverse]
    show _ ++ zrv (zb E) b :: _ = _
    rw [zrv_ad hb]
  have eav : ((zR b :: As).map (ztv E)).toArray = (Value.ref (zad E b) :: As.map (ztv E)).toArray := by
    rw [List.map_cons]
    show (zrv (zb E) b :: _).toArray = _
    rw [zrv_ad hb]
  rw [est, eav]
  rw [hr] at k6 k7
  exact va_runI (n := n) (bytes := cc') (maxL := M'.2.2.1) (Ts := []) ⟨C.1, C.2.1, C.2.2.1, C.2.2.2.2.2.2.1, fun w h => by simp at h⟩ (hs l) ⟨⟨k1, k2, k3, k4, k5, k6, k7, k8, k9, k10, hT.w hl rfl _⟩, hi, hT.w hv rfl _⟩ ⟨zblind, fun U hU hW => ⟨by rw [← eav], hT.moved hW, by rw [hU]; exact hP⟩⟩ rfl (by rw [List.length_map]; exact hn) (by rw [hL.1]) rfl (lv_room (zroom rest hw)) hd (zcells C h1 h2)
theorem j_callS {M' : zMI} {cc' : ByteArray} {i n lv' mc' ms' mc2 ms2 : Nat} {As : List zV} {Post : Option zV → zM → Prop}  (hs : zSp E lv' mc' ms' M' cc' As S Post) (hd : decode cc pc = .ok (.invokestatic i, 3)) (hl : Cond.methodLink M.1 i M'.2.1 ∈ lw_tbl) (hm : zMK M' cc' n) (hv : Cond.static M'.2.1 ∈ lw_tbl) (hlv : lv' + 1 ≤ lv) (hn : As.length = n) (hst : (As.reverse ++ rest) = st) (hw : (rest.map zcat).sum ≤ 8) (h1 : mc2 + mc' ≤ mc) (h2 : ms2 + ms' ≤ ms)
    (kk : ∀ r T, Post r T → zJ E lv mc2 ms2 M cc (pc + 3) ls (r.toList ++ rest) T Q) : zJ E lv mc ms M cc pc ls st S Q := by
  intro p l e R s m args below meth c H locs cells slots mcT msT lsA C hP hL
  subst hst
  have hT := C.2.2.2.2.2.2.2.1
  obtain ⟨k1, k2, k3, k4, k5, k6, k7, k8, k9, k10⟩ := zCB (args := args) (mc' := mc') (ms' := ms') (i := i) C hm hlv
  refine zback (a := (As.map (ztv E)).toArray) ?_ C hL h1 h2 kk
  rw [List.map_append, List.map_reverse]
  exact va_runS (n := n) (bytes := cc') (maxL := M'.2.2.1) (ret := M'.2.2.2) (Ts := []) ⟨C.1, C.2.1, C.2.2.1, C.2.2.2.2.2.2.1, fun w h => by simp at h⟩ (hs l) ⟨⟨k1, k2, k3, k4, k5, k6, k7, k8, k9, k10, hT.w hl rfl _⟩, hT.w hv rfl _⟩ ⟨zblind, fun U hU hW => ⟨rfl, hT.moved hW, by rw [hU]; exact hP⟩⟩ rfl (by rw [List.length_map]; exact hn) (by rw [hL.1]) rfl (lv_room (zroom rest hw)) hd (zcells C h1 h2)
theorem j_callSN {M' : zMI} {cc' : ByteArray} {i n lv' mc' ms' mc2 ms2 : Nat} {As : List zV} {Post : Option zV → zM → Prop} {host : String} (hs : zSp E lv' mc' ms' M' cc' As S Post) (hd : decode cc pc = .ok (.invokestatic i, 3)) (hl : Cond.methodLinkNest M.1 i M'.2.1 host ∈ lw_tbl) (hm : zMK M' cc' n) (hv : Cond.static M'.2.1 ∈ lw_tbl) (hlv : lv' + 1 ≤ lv) (hn : As.length = n) (hst : (As.reverse ++ rest) = st) (hw : (rest.map zcat).sum ≤ 8) (h1 : mc2 + mc' ≤ mc) (h2 : ms2 + ms' ≤ ms)
    (kk : ∀ r T, Post r T → zJ E lv mc2 ms2 M cc (pc + 3) ls (r.toList ++ rest) T Q) : zJ E lv mc ms M cc pc ls st S Q := by
  intro p l e R s m args below meth c H locs cells slots mcT msT lsA C hP hL
  subst hst
  have hT := C.2.2.2.2.2.2.2.1
  obtain ⟨k1, k2, k3, k4, k5, k6, k7, k8, k9, k10⟩ := zCB (args := args) (mc' := mc') (ms' := ms') (i := i) C hm hlv
  refine zback (a := (As.map (ztv E)).toArray) ?_ C hL h1 h2 kk
  rw [List.map_append, List.map_reverse]
  exact va_runSN (n := n) (bytes := cc') (maxL := M'.2.2.1) (ret := M'.2.2.2) (host := host) (Ts := []) ⟨C.1, C.2.1, C.2.2.1, C.2.2.2.2.2.2.1, fun w h => by simp at h⟩ (hs l) ⟨⟨⟨k1, k2, k3, k4, k5, k6⟩, k7, k8, k9, k10, hT.w hl rfl _⟩, hT.w hv rfl _, trivial⟩ ⟨zblind, fun U hU hW => ⟨rfl, hT.moved hW, by rw [hU]; exact hP⟩⟩ rfl (by rw [List.length_map]; exact hn) (by rw [hL.1]) rfl (lv_room (zroom rest hw)) hd (zcells C h1 h2)
def zOI (own : String) (i : Nat) : Prop := Cond.methodLink own i Lib.objectInit ∈ lw_tbl ∧ Cond.instanceMethod Lib.objectInit ∈ lw_tbl ∧ Cond.code Lib.objectInit ⟨#[0xb1]⟩ 1 none ∈ lw_tbl
theorem j_objInit {i a : Nat} (hd : decode cc pc = .ok (.invokespecial i, 3)) (hf : zOI M.1 i) (ha : 0 < a) (hlv : 1 ≤ lv) (hw : (st.map zcat).sum ≤ 8) (kk : zJ E lv mc ms M cc (pc + 3) ls st S Q) : zJ E lv mc ms M cc pc ls (zR a :: st) S Q := by
  intro p l e R s m args below meth c H locs cells slots mcT msT lsA C hP hL
  have hT := C.2.2.2.2.2.2.2.1
  obtain ⟨o1, o2, o3⟩ := hf
  have hr := lv_room (m := m) (pc := pc) (ls := lsA) (rest := []) (zroom (E := E) st hw)
  obtain ⟨-, -, -, -, -, -, -, -, c9, c10, -⟩ := id C
  show W _ _ _ _ _ _ _ _ _ _ _ _ _ _ _ (F0 m pc lsA (zrv (zb E) a :: st.map (ztv E)))
  rw [zrv_ad ha]
  exact W.objInit C.1 C.2.1 C.2.2.2.2.2.2.1 (hT.w o1 rfl _) (hT.w o2 rfl _) (hT.w o3 rfl _) rfl (by rw [C.2.2.1]; exact hL.1) rfl hd (by omega) (by
    have h : 2 * (F0 m pc lsA (Value.ref (zb E + (a - 1)) :: st.map (ztv E))).monitorRoom + ((st.map (ztv E)).map fun v => v.category).sum ≤ 8 := lv_room (zroom st hw)
    omega) (kk p l e R s m args below meth c H locs cells slots mcT msT lsA C hP hL)
end ZCALLS
end
section
/-! TEXT CONSTANTS: nine words of the model; the JDK's length and charAt over them -/
def zTi : List Nat := [205, 211, 239, 244, 248, 220, 222, 224, 231]
def zTs : List String := ["number", "word", "table", "order", "row", "up", "down", "first", "none"]
def zTl : List Nat := [6, 4, 5, 5, 3, 2, 4, 5, 4]
def zTy : List (List Int32) := [[110, 117, 109, 98, 101, 114], [119, 111, 114, 100], [116, 97, 98, 108, 101], [111, 114, 100, 101, 114], [114, 111, 119], [117, 112], [100, 111, 119, 110], [102, 105, 114, 115, 116], [110, 111, 110, 101]]
abbrev zSF : String := "jdk/internal/util/Preconditions"
abbrev zSD : String := "Ljava/util/function/BiFunction;"
def zTx (E : zE) (U : State) : Prop :=
  (∀ j, j < 9 → vk_R RX12 (zTi.getD j 0) (zTs.getD j "") (zS E j) U) ∧ vk_S 9 zTl zTy (zS E) (fun j => zS E (16 + j)) (zfr E) U (zH E) ∧
  va_Z "java/lang/String" "COMPACT_STRINGS" "Z" (.int 1) (zfr E) U (zH E) ∧ (va_Z zSF "SIOOBE_FORMATTER" zSD .null (zfr E) U (zH E) ∨ va_Z zSF "SIOOBE_FORMATTER" zSD (.ref (zS E 40)) (zfr E) U (zH E))
theorem zTx.moved {E : zE} {s V : State} (hW : s.WarmedH V.vm) (h : zTx E s) : zTx E V := ⟨fun j hj => (h.1 j hj).warm hW, h.2.1.moved hW.alike, h.2.2.1.moved hW.alike, h.2.2.2.elim (fun q => Or.inl (q.moved hW.alike)) (fun q => Or.inr (q.moved hW.alike))⟩
/-- what a walk of texts stands on -/
def zOKE (E : zE) : Prop := ∀ U, zX E U → zTx E U
section ZTEXT
variable {E : zE} {lv mc ms : Nat} {M : zMI} {cc : ByteArray} {pc : Nat} {ls : List (Option zV)} {st rest : List zV} {S : zM} {Q : Option zV → zM → Prop}
theorem j_ldcQ {i j : Nat} (hE : zOKE E) (hd : decode cc pc = .ok (.ldc i, 2)) (hM : M.1 = RX12) (hj : j < 9) (hi : zTi.getD j 0 = i) (kk : zJ E lv mc ms M cc (pc + 2) ls (zQ j :: st) S Q) : zJ E lv mc ms M cc pc ls st S Q := by
  intro p l e R s m args below meth c H locs cells slots mcT msT lsA C hP hL
  have hT := C.2.2.2.2.2.2.2.1
  have hR := (hE s hT.2.2.2.2.2).1 j hj
  subst hi
  exact va_ldcS C.1 C.2.1 (own := RX12) (by rw [← hM]; exact C.2.2.2.2.2.2.1) hR hd (kk p l e R s m args below meth c H locs cells slots mcT msT lsA C hP hL)
theorem j_getQ {i j : Nat} {n d : String} {v : zV} (hE : zOKE E) (hd : decode cc pc = .ok (.getfield i, 3)) (hl : Cond.fieldLink M.1 i "java/lang/String" n d ∈ lw_tbl) (hv : ∀ U, zTx E U → va_OF "java/lang/String" n d (ztv E v) (zS E j) (zfr E) U (zH E)) (kk : zJ E lv mc ms M cc (pc + 3) ls (v :: st) S Q) : zJ E lv mc ms M cc pc ls (zQ j :: st) S Q := by
  intro p l e R s m args below meth c H locs cells slots mcT msT lsA C hP hL
  have hT := C.2.2.2.2.2.2.2.1
  obtain ⟨cf, k, fi, f, cell, h1, h2, h3, h4, h5, h6⟩ := hv s (hE s hT.2.2.2.2.2)
  exact W.getf C.1 C.2.1 C.2.2.2.2.2.2.1 (hT.w hl rfl _) h1 h2 (by rw [hP.2.1 _ (Nat.lt_of_not_le h6)]; exact h3) h4 h5 rfl rfl hd (kk p l e R s m args below meth c H locs cells slots mcT msT lsA C hP hL)
theorem j_getsQ {i : Nat} {ref n d : String} {v : zV} (hE : zOKE E) (hd : decode cc pc = .ok (.getstatic i, 3)) (hl : Cond.fieldLink M.1 i ref n d ∈ lw_tbl) (hv : ∀ U, zTx E U → va_Z ref n d (ztv E v) (zfr E) U (zH E)) (kk : zJ E lv mc ms M cc (pc + 3) ls (v :: st) S Q) : zJ E lv mc ms M cc pc ls st S Q := by
  intro p l e R s m args below meth c H locs cells slots mcT msT lsA C hP hL
  have hT := C.2.2.2.2.2.2.2.1
  obtain ⟨cf, kf, fi, f, a, cell, h1, h2, h3, h4, h5, h6, h7, h8⟩ := hv s (hE s hT.2.2.2.2.2)
  exact W.gets C.1 C.2.1 C.2.2.2.2.2.2.1 (hT.w hl rfl _) h1 h2 h3 h4 (by rw [hP.2.1 _ (Nat.lt_of_not_le h8)]; exact h5) (fun e => by rw [e] at h6; cases h6) h7 rfl hd (kk p l e R s m args below meth c H locs cells slots mcT msT lsA C hP hL)
theorem j_getsF {i : Nat} (hE : zOKE E) (hd : decode cc pc = .ok (.getstatic i, 3)) (hl : Cond.fieldLink M.1 i zSF "SIOOBE_FORMATTER" zSD ∈ lw_tbl) (kk : ∀ v, v = zR 0 ∨ v = zQ 40 → zJ E lv mc ms M cc (pc + 3) ls (v :: st) S Q) : zJ E lv mc ms M cc pc ls st S Q := by
  intro p l e R s m args below meth c H locs cells slots mcT msT lsA C hP hL
  have hT := C.2.2.2.2.2.2.2.1
  rcases (hE s hT.2.2.2.2.2).2.2.2 with ⟨cf, kf, fi, f, a, cell, h1, h2, h3, h4, h5, h6, h7, h8⟩ | ⟨cf, kf, fi, f, a, cell, h1, h2, h3, h4, h5, h6, h7, h8⟩
  · exact W.gets C.1 C.2.1 C.2.2.2.2.2.2.1 (hT.w hl rfl _) h1 h2 h3 h4 (by rw [hP.2.1 _ (Nat.lt_of_not_le h8)]; exact h5) (fun e => by rw [e] at h6; cases h6) h7 rfl hd (kk (zR 0) (Or.inl rfl) p l e R s m args below meth c H locs cells slots mcT msT lsA C hP hL)
  · exact W.gets C.1 C.2.1 C.2.2.2.2.2.2.1 (hT.w hl rfl _) h1 h2 h3 h4 (by rw [hP.2.1 _ (Nat.lt_of_not_le h8)]; exact h5) (fun e => by rw [e] at h6; cases h6) h7 rfl hd (kk (zQ 40) (Or.inr rfl) p l e R s m args below meth c H locs cells slots mcT msT lsA C hP hL)
theorem j_alenQ {j : Nat} (hE : zOKE E) (hd : decode cc pc = .ok (.arraylength, 1)) (hj : j < 9) (kk : zJ E lv mc ms M cc (pc + 1) ls (zI (Int32.ofNat (zTl.getD j 0)) :: st) S Q) : zJ E lv mc ms M cc pc ls (zQ (16 + j) :: st) S Q := by
  intro p l e R s m args below meth c H locs cells slots mcT msT lsA C hP hL
  have hT := C.2.2.2.2.2.2.2.1
  obtain ⟨cell, h1, h2, h3, h4, h5, h6, h7⟩ := ((hE s hT.2.2.2.2.2).2.1.1 j hj).2.2.2
  exact W.alen C.1 C.2.1 (by rw [hP.2.1 _ (Nat.lt_of_not_le h7)]; exact h1) h2 h5 rfl rfl hd (kk p l e R s m args below meth c H locs cells slots mcT msT lsA C hP hL)
theorem j_baldQ {j : Nat} {x : Int32} (hE : zOKE E) (hd : decode cc pc = .ok (.baload, 1)) (hj : j < 9) (h0 : ¬ x < 0) (hx : x.toNatClampNeg < zTl.getD j 0) (kk : zJ E lv mc ms M cc (pc + 1) ls (zI ((zTy.getD j []).getD x.toNatClampNeg 0) :: st) S Q) : zJ E lv mc ms M cc pc ls (zI x :: zQ (16 + j) :: st) S Q := by
  intro p l e R s m args below meth c H locs cells slots mcT msT lsA C hP hL
  have hT := C.2.2.2.2.2.2.2.1
  obtain ⟨cell, h1, h2, h3, h4, h5, h6, h7⟩ := ((hE s hT.2.2.2.2.2).2.1.1 j hj).2.2.2
  exact W.bald C.1 C.2.1 (by rw [hP.2.1 _ (Nat.lt_of_not_le h7)]; exact h1) h2 h3 (fun q => q.elim h0 (fun q => absurd (Nat.lt_of_lt_of_le hx (Nat.le_trans h4 q)) (Nat.lt_irrefl _))) (h6 _ hx) rfl rfl hd (kk p l e R s m args below meth c H locs cells slots mcT msT lsA C hP hL)
theorem j_nret {v : Int32} {ty : FieldType} (hd : decode cc pc = .ok (.ireturn, 1)) (hr : M.2.2.2 = some ty) (hv : narrow ty (.int v) = .int v) (hq : Q (some (zI v)) S) : zJ E lv mc ms M cc pc ls [zI v] S Q := by
  intro p l e R s m args below meth c H locs cells slots mcT msT lsA C hP hL
  refine W.widen (Nat.le_trans (Nat.le_add_right _ _) C.2.2.2.2.2.2.2.2.2.2.2.1.1) (Nat.le_trans (Nat.le_add_right _ _) C.2.2.2.2.2.2.2.2.2.2.2.1.2) ?_
  exact W.zret C.1 C.2.1 (C.2.2.2.1.trans hr) hv (fun t ht _ => ⟨some (zI v), S, rfl, by rw [ht]; exact hP, hq⟩) (fun q h => C.2.2.2.2.2.2.2.2.2.2.2.2 q h) hd C.2.2.2.2.1
theorem j_callVQ {M' : zMI} {cc' : ByteArray} {i n lv' mc' ms' mc2 ms2 : Nat} {As : List zV} {Post : Option zV → zM → Prop} {j : Nat} (hE : zOKE E) (hs : zSp E lv' mc' ms' M' cc' (zQ j :: As) S Post) (hd : decode cc pc = .ok (.invokevirtual i, 3)) (hl : Cond.methodLink M.1 i M'.2.1 ∈ lw_tbl) (hm : zMK M' cc' n) (hv : zMV M'.2.1) (htc : M'.2.1.cls = "java/lang/String") (hj : j < 9) (hlv : lv' + 1 ≤ lv) (hn : As.length = n) (hst : (As.reverse ++ zQ j :: rest) = st) (hw : (rest.map zcat).sum ≤ 8) (h1 : mc2 + mc' ≤ mc) (h2 : ms2 + ms' ≤ ms)
    (kk : ∀ r T, Post r T → zJ E lv mc2 ms2 M cc (pc + 3) ls (r.toList ++ rest) T Q) : zJ E lv mc ms M cc pc ls st S Q := by
  intro p l e R s m args below meth c H locs cells slots mcT msT lsA C hP hL
  subst hst
  have hT := C.2.2.2.2.2.2.2.1
  obtain ⟨k1, k2, k3, k4, k5, k6, k7, k8, k9, k10⟩ := zCB (args := args) (mc' := mc') (ms' := ms') (i := i) C hm hlv
  refine zback (a := ((zQ j :: As).map (ztv E)).toArray) ?_ C hL h1 h2 kk
  obtain ⟨cell, q1, q2, q3, q4⟩ := ((hE s hT.2.2.2.2.2).2.1.1 j hj).1
  have est : ((As.reverse ++ zQ j :: rest).map (ztv E)) = (As.map (ztv E)).reverse ++ .ref (zS E j) :: rest.map (ztv E) := by
    rw [List.map_append, List.map_cons, List.map_reverse]
    rfl
  have eav : ((zQ j :: As).map (ztv E)).toArray = (Value.ref (zS E j) :: As.map (ztv E)).toArray := rfl
  rw [est, eav]
  exact va_runV (C := "java/lang/String") (n := n) (bytes := cc') (maxL := M'.2.2.1) (ret := M'.2.2.2) (Ts := []) ⟨C.1, C.2.1, C.2.2.1, C.2.2.2.2.2.2.1, fun w h => by simp at h⟩ (hs l) ⟨⟨k1, k2, k3, k4, k5, k6, k7, k8, k9, k10, hT.w hl rfl _⟩, hT.w hv.1 rfl _, by rw [← htc]; exact hT.w hv.2 rfl _⟩ ⟨zblind, ⟨cell, by rw [hP.2.1 _ (Nat.lt_of_not_le q4)]; exact q1, q2, q3⟩, fun U hU hW => ⟨by rw [← eav], hT.moved hW, by rw [hU]; exact hP⟩⟩ rfl (by rw [List.length_map]; exact hn) (by rw [hL.1]) rfl (lv_room (zroom rest hw)) hd (zcells C h1 h2)
end ZTEXT
theorem zSp.ofG {E : zE} {lv mc ms : Nat} {M : zMI} {cc : ByteArray} {av : List zV} {S : zM} {Q : Option zV → zM → Prop} (hy : plainFor M.2.1 = true) (ho : M.2.1.cls = M.1) (hl : (zlay av).length ≤ M.2.2.1) {ls : List (Option zV)} (hls : zlay av ++ List.replicate (M.2.2.1 - (zlay av).length) none = ls)
    (k : zJ E lv mc ms M cc 0 ls [] S Q) : zSp E lv mc ms M cc av S Q := by
  intro l
  refine va_MetF (cc := cc) (maxL := M.2.2.1) (ret := M.2.2.2) hy rfl ?_
  intro p e s m args below meth c s₁ B hml hv
  obtain ⟨rfl, hT, hP⟩ := hv
  have hown : s.vm.findClass M.1 = some m.cls := by rw [← ho]; exact findClass_of_methodNamed B.named
  obtain ⟨hlen, hget⟩ := zlay_sl E av [] [] rfl (fun i v h => by simp at h)
  simp only [List.nil_append] at hlen hget
  have hle := lv_entry (av.map (ztv E)) (n := M.2.2.1) (by omega)
  rw [lg_entry_eq]
  refine k p l e _ s m _ below meth c s.heap [] 0 0 mc ms _ ⟨B.exec, B.bytes, hml, B.returns, B.notSynchronized, (name_of_methodNamed B.named B.method).1, hown, hT, Nat.le_refl _, Nat.le_refl _, ⟨Nat.le_of_eq (Nat.zero_add _), Nat.le_of_eq (Nat.zero_add _)⟩, ⟨Nat.le_of_eq (Nat.zero_add _), Nat.le_of_eq (Nat.zero_add _)⟩, fun q h => by simp at h⟩ hP ⟨hle.1, hle.2.1, fun i v h => ?_⟩
  subst hls
  rw [List.getElem?_toArray]
  by_cases hi : i < (zlay av).length
  · rw [List.getElem?_append_left hi] at h
    rw [List.getElem?_append_left (by omega)]
    exact hget i v h
  · rw [List.getElem?_append_right (by omega)] at h
    simp [List.getElem?_replicate] at h
abbrev mqL : zMI := (RJ0, yJ0_length_8abf5, 1, (some .int))
theorem mk_qL : zMK mqL cJ0_length_8abf5 0 := ⟨List.mem_of_getElem? (i := 1397) (by decide +kernel), List.mem_of_getElem? (i := 98) (by decide +kernel), ⟨by decide +kernel, by decide +kernel, by decide +kernel⟩, by decide⟩
theorem mv_qL : zMV yJ0_length_8abf5 := ⟨List.mem_of_getElem? (i := 1395) (by decide +kernel), List.mem_of_getElem? (i := 1396) (by decide +kernel)⟩
abbrev mqA : zMI := (RJ0, yJ0_charAt_5068e, 2, (some .char))
theorem mk_qA : zMK mqA cJ0_charAt_5068e 1 := ⟨List.mem_of_getElem? (i := 1407) (by decide +kernel), List.mem_of_getElem? (i := 98) (by decide +kernel), ⟨by decide +kernel, by decide +kernel, by decide +kernel⟩, by decide⟩
theorem mv_qA : zMV yJ0_charAt_5068e := ⟨List.mem_of_getElem? (i := 1405) (by decide +kernel), List.mem_of_getElem? (i := 1406) (by decide +kernel)⟩
abbrev mqC : zMI := (RJ0, yJ0_coder_7d493, 1, (some .byte))
theorem mk_qC : zMK mqC cJ0_coder_7d493 0 := ⟨List.mem_of_getElem? (i := 1401) (by decide +kernel), List.mem_of_getElem? (i := 98) (by decide +kernel), ⟨by decide +kernel, by decide +kernel, by decide +kernel⟩, by decide⟩
theorem mv_qC : zMV yJ0_coder_7d493 := ⟨List.mem_of_getElem? (i := 1399) (by decide +kernel), List.mem_of_getElem? (i := 1400) (by decide +kernel)⟩
abbrev mqI : zMI := (RJ0, yJ0_isLatin1_aae02, 1, (some .boolean))
theorem mk_qI : zMK mqI cJ0_isLatin1_aae02 0 := ⟨List.mem_of_getElem? (i := 1411) (by decide +kernel), List.mem_of_getElem? (i := 98) (by decide +kernel), ⟨by decide +kernel, by decide +kernel, by decide +kernel⟩, by decide⟩
theorem mv_qI : zMV yJ0_isLatin1_aae02 := ⟨List.mem_of_getElem? (i := 1409) (by decide +kernel), List.mem_of_getElem? (i := 1410) (by decide +kernel)⟩
abbrev mqX : zMI := (RJ0, yJ0_checkIndex_df160, 2, none)
theorem mk_qX : zMK mqX cJ0_checkIndex_df160 2 := ⟨List.mem_of_getElem? (i := 1417) (by decide +kernel), List.mem_of_getElem? (i := 98) (by decide +kernel), ⟨by decide +kernel, by decide +kernel, by decide +kernel⟩, by decide⟩
theorem ms_qX : Cond.static yJ0_checkIndex_df160 ∈ lw_tbl := List.mem_of_getElem? (i := 1416) (by decide +kernel)
abbrev mqB : zMI := (RJ1, yJ1_charAt_3b067, 2, (some .char))
theorem mk_qB : zMK mqB cJ1_charAt_3b067 2 := ⟨List.mem_of_getElem? (i := 1414) (by decide +kernel), List.mem_of_getElem? (i := 99) (by decide +kernel), ⟨by decide +kernel, by decide +kernel, by decide +kernel⟩, by decide⟩
theorem ms_qB : Cond.static yJ1_charAt_3b067 ∈ lw_tbl := List.mem_of_getElem? (i := 1413) (by decide +kernel)
abbrev mqP : zMI := (RJ3, yJ3_checkIndex_8e157, 3, (some .int))
theorem mk_qP : zMK mqP cJ3_checkIndex_8e157 3 := ⟨List.mem_of_getElem? (i := 1422) (by decide +kernel), List.mem_of_getElem? (i := 100) (by decide +kernel), ⟨by decide +kernel, by decide +kernel, by decide +kernel⟩, by decide⟩
theorem ms_qP : Cond.static yJ3_checkIndex_8e157 ∈ lw_tbl := List.mem_of_getElem? (i := 1421) (by decide +kernel)
theorem lq_335 : Cond.methodLink RJ0 335 yJ0_coder_7d493 ∈ lw_tbl := List.mem_of_getElem? (i := 1398) (by decide +kernel)
theorem lq_492 : Cond.methodLink RJ0 492 yJ0_isLatin1_aae02 ∈ lw_tbl := List.mem_of_getElem? (i := 1408) (by decide +kernel)
theorem lq_495 : Cond.methodLink RJ0 495 yJ1_charAt_3b067 ∈ lw_tbl := List.mem_of_getElem? (i := 1412) (by decide +kernel)
theorem lq_9 : Cond.methodLink RJ1 9 yJ0_checkIndex_df160 ∈ lw_tbl := List.mem_of_getElem? (i := 1415) (by decide +kernel)
theorem lq_1059 : Cond.methodLink RJ0 1059 yJ3_checkIndex_8e157 ∈ lw_tbl := List.mem_of_getElem? (i := 1420) (by decide +kernel)
theorem lq_170 : Cond.methodLink RX12 170 yJ0_length_8abf5 ∈ lw_tbl := List.mem_of_getElem? (i := 1394) (by decide +kernel)
theorem lq_176 : Cond.methodLink RX12 176 yJ0_charAt_5068e ∈ lw_tbl := List.mem_of_getElem? (i := 1404) (by decide +kernel)
theorem fq_38 : Cond.fieldLink RJ0 38 "java/lang/String" "COMPACT_STRINGS" "Z" ∈ lw_tbl := List.mem_of_getElem? (i := 1402) (by decide +kernel)
theorem fq_1053 : Cond.fieldLink RJ0 1053 "jdk/internal/util/Preconditions" "SIOOBE_FORMATTER" "Ljava/util/function/BiFunction;" ∈ lw_tbl := List.mem_of_getElem? (i := 1418) (by decide +kernel)
theorem fq_9 : Cond.fieldLink RJ0 9 "java/lang/String" "value" "[B" ∈ lw_tbl := List.mem_of_getElem? (i := 1833) (by decide +kernel)
theorem fq_15 : Cond.fieldLink RJ0 15 "java/lang/String" "coder" "B" ∈ lw_tbl := List.mem_of_getElem? (i := 1834) (by decide +kernel)
theorem eqL_0 : decode cJ0_length_8abf5 0 = .ok (.aload_n 0, 1) := by decide +kernel
theorem eqL_1 : decode cJ0_length_8abf5 1 = .ok (.getfield 9, 3) := by decide +kernel
theorem eqL_4 : decode cJ0_length_8abf5 4 = .ok (.arraylength, 1) := by decide +kernel
theorem eqL_5 : decode cJ0_length_8abf5 5 = .ok (.aload_n 0, 1) := by decide +kernel
theorem eqL_6 : decode cJ0_length_8abf5 6 = .ok (.invokevirtual 335, 3) := by decide +kernel
theorem eqL_9 : decode cJ0_length_8abf5 9 = .ok (.ishr, 1) := by decide +kernel
theorem eqL_10 : decode cJ0_length_8abf5 10 = .ok (.ireturn, 1) := by decide +kernel
theorem eqA_0 : decode cJ0_charAt_5068e 0 = .ok (.aload_n 0, 1) := by decide +kernel
theorem eqA_1 : decode cJ0_charAt_5068e 1 = .ok (.invokevirtual 492, 3) := by decide +kernel
theorem eqA_4 : decode cJ0_charAt_5068e 4 = .ok (.ifCond .eq 12, 3) := by decide +kernel
theorem eqA_7 : decode cJ0_charAt_5068e 7 = .ok (.aload_n 0, 1) := by decide +kernel
theorem eqA_8 : decode cJ0_charAt_5068e 8 = .ok (.getfield 9, 3) := by decide +kernel
theorem eqA_11 : decode cJ0_charAt_5068e 11 = .ok (.iload_n 1, 1) := by decide +kernel
theorem eqA_12 : decode cJ0_charAt_5068e 12 = .ok (.invokestatic 495, 3) := by decide +kernel
theorem eqA_15 : decode cJ0_charAt_5068e 15 = .ok (.ireturn, 1) := by decide +kernel
theorem eqA_16 : decode cJ0_charAt_5068e 16 = .ok (.aload_n 0, 1) := by decide +kernel
theorem eqA_17 : decode cJ0_charAt_5068e 17 = .ok (.getfield 9, 3) := by decide +kernel
theorem eqA_20 : decode cJ0_charAt_5068e 20 = .ok (.iload_n 1, 1) := by decide +kernel
theorem eqA_21 : decode cJ0_charAt_5068e 21 = .ok (.invokestatic 498, 3) := by decide +kernel
theorem eqA_24 : decode cJ0_charAt_5068e 24 = .ok (.ireturn, 1) := by decide +kernel
theorem eqC_0 : decode cJ0_coder_7d493 0 = .ok (.getstatic 38, 3) := by decide +kernel
theorem eqC_3 : decode cJ0_coder_7d493 3 = .ok (.ifCond .eq 10, 3) := by decide +kernel
theorem eqC_6 : decode cJ0_coder_7d493 6 = .ok (.aload_n 0, 1) := by decide +kernel
theorem eqC_7 : decode cJ0_coder_7d493 7 = .ok (.getfield 15, 3) := by decide +kernel
theorem eqC_10 : decode cJ0_coder_7d493 10 = .ok (.goto 4, 3) := by decide +kernel
theorem eqC_13 : decode cJ0_coder_7d493 13 = .ok (.iconst 1, 1) := by decide +kernel
theorem eqC_14 : decode cJ0_coder_7d493 14 = .ok (.ireturn, 1) := by decide +kernel
theorem eqI_0 : decode cJ0_isLatin1_aae02 0 = .ok (.getstatic 38, 3) := by decide +kernel
theorem eqI_3 : decode cJ0_isLatin1_aae02 3 = .ok (.ifCond .eq 14, 3) := by decide +kernel
theorem eqI_6 : decode cJ0_isLatin1_aae02 6 = .ok (.aload_n 0, 1) := by decide +kernel
theorem eqI_7 : decode cJ0_isLatin1_aae02 7 = .ok (.getfield 15, 3) := by decide +kernel
theorem eqI_10 : decode cJ0_isLatin1_aae02 10 = .ok (.ifCond .ne 7, 3) := by decide +kernel
theorem eqI_13 : decode cJ0_isLatin1_aae02 13 = .ok (.iconst 1, 1) := by decide +kernel
theorem eqI_14 : decode cJ0_isLatin1_aae02 14 = .ok (.goto 4, 3) := by decide +kernel
theorem eqI_17 : decode cJ0_isLatin1_aae02 17 = .ok (.iconst 0, 1) := by decide +kernel
theorem eqI_18 : decode cJ0_isLatin1_aae02 18 = .ok (.ireturn, 1) := by decide +kernel
theorem eqX_0 : decode cJ0_checkIndex_df160 0 = .ok (.iload_n 0, 1) := by decide +kernel
theorem eqX_1 : decode cJ0_checkIndex_df160 1 = .ok (.iload_n 1, 1) := by decide +kernel
theorem eqX_2 : decode cJ0_checkIndex_df160 2 = .ok (.getstatic 1053, 3) := by decide +kernel
theorem eqX_5 : decode cJ0_checkIndex_df160 5 = .ok (.invokestatic 1059, 3) := by decide +kernel
theorem eqX_8 : decode cJ0_checkIndex_df160 8 = .ok (.pop, 1) := by decide +kernel
theorem eqX_9 : decode cJ0_checkIndex_df160 9 = .ok (.return_, 1) := by decide +kernel
theorem eqB_0 : decode cJ1_charAt_3b067 0 = .ok (.iload_n 1, 1) := by decide +kernel
theorem eqB_1 : decode cJ1_charAt_3b067 1 = .ok (.aload_n 0, 1) := by decide +kernel
theorem eqB_2 : decode cJ1_charAt_3b067 2 = .ok (.arraylength, 1) := by decide +kernel
theorem eqB_3 : decode cJ1_charAt_3b067 3 = .ok (.invokestatic 9, 3) := by decide +kernel
theorem eqB_6 : decode cJ1_charAt_3b067 6 = .ok (.aload_n 0, 1) := by decide +kernel
theorem eqB_7 : decode cJ1_charAt_3b067 7 = .ok (.iload_n 1, 1) := by decide +kernel
theorem eqB_8 : decode cJ1_charAt_3b067 8 = .ok (.baload, 1) := by decide +kernel
theorem eqB_9 : decode cJ1_charAt_3b067 9 = .ok (.sipush 255, 3) := by decide +kernel
theorem eqB_12 : decode cJ1_charAt_3b067 12 = .ok (.iand, 1) := by decide +kernel
theorem eqB_13 : decode cJ1_charAt_3b067 13 = .ok (.i2c, 1) := by decide +kernel
theorem eqB_14 : decode cJ1_charAt_3b067 14 = .ok (.ireturn, 1) := by decide +kernel
theorem eqP_0 : decode cJ3_checkIndex_8e157 0 = .ok (.iload_n 0, 1) := by decide +kernel
theorem eqP_1 : decode cJ3_checkIndex_8e157 1 = .ok (.ifCond .lt 8, 3) := by decide +kernel
theorem eqP_4 : decode cJ3_checkIndex_8e157 4 = .ok (.iload_n 0, 1) := by decide +kernel
theorem eqP_5 : decode cJ3_checkIndex_8e157 5 = .ok (.iload_n 1, 1) := by decide +kernel
theorem eqP_6 : decode cJ3_checkIndex_8e157 6 = .ok (.if_icmp .lt 10, 3) := by decide +kernel
theorem eqP_9 : decode cJ3_checkIndex_8e157 9 = .ok (.aload_n 2, 1) := by decide +kernel
theorem eqP_10 : decode cJ3_checkIndex_8e157 10 = .ok (.iload_n 0, 1) := by decide +kernel
theorem eqP_11 : decode cJ3_checkIndex_8e157 11 = .ok (.iload_n 1, 1) := by decide +kernel
theorem eqP_12 : decode cJ3_checkIndex_8e157 12 = .ok (.invokestatic 95, 3) := by decide +kernel
theorem eqP_15 : decode cJ3_checkIndex_8e157 15 = .ok (.athrow, 1) := by decide +kernel
theorem eqP_16 : decode cJ3_checkIndex_8e157 16 = .ok (.iload_n 0, 1) := by decide +kernel
theorem eqP_17 : decode cJ3_checkIndex_8e157 17 = .ok (.ireturn, 1) := by decide +kernel
theorem zTl_lt : ∀ j, j < 9 → zTl.getD j 0 < 7 := by decide
section ZTEXT2
variable {E : zE} {S : zM}
theorem vq_value {j : Nat} (hj : j < 9) (U : State) (h : zTx E U) : va_OF "java/lang/String" "value" "[B" (ztv E (zQ (16 + j))) (zS E j) (zfr E) U (zH E) := (h.2.1.1 j hj).2.2.1
theorem vq_coder {j : Nat} (hj : j < 9) (U : State) (h : zTx E U) : va_OF "java/lang/String" "coder" "B" (ztv E (zI 0)) (zS E j) (zfr E) U (zH E) := (h.2.1.1 j hj).2.1
theorem vq_compact (U : State) (h : zTx E U) : va_Z "java/lang/String" "COMPACT_STRINGS" "Z" (ztv E (zI 1)) (zfr E) U (zH E) := h.2.2.1
theorem q_coder (hE : zOKE E) {j : Nat} (hj : j < 9) : zSp E 0 0 0 mqC cJ0_coder_7d493 [zQ j] S (fun r T => S = T ∧ r = some (zI 0)) := by
  refine zSp.ofG (by decide +kernel) rfl (Nat.le_of_ble_eq_true rfl) rfl ?_
  refine j_getsQ (v := zI 1) hE eqC_0 fq_38 vq_compact ?_
  refine j_if_eq (tgt := 13) eqC_3 (by decide) (fun h => absurd h (by decide)) (fun _ => ?_)
  refine j_aload_nq eqC_6 rfl ?_
  refine j_getQ (v := zI 0) hE eqC_7 fq_15 (vq_coder hj) ?_
  refine j_goto (tgt := 14) eqC_10 (by decide) ?_
  exact j_nret eqC_14 rfl (by decide) ⟨rfl, rfl⟩
theorem q_latin (hE : zOKE E) {j : Nat} (hj : j < 9) : zSp E 0 0 0 mqI cJ0_isLatin1_aae02 [zQ j] S (fun r T => S = T ∧ r = some (zI 1)) := by
  refine zSp.ofG (by decide +kernel) rfl (Nat.le_of_ble_eq_true rfl) rfl ?_
  refine j_getsQ (v := zI 1) hE eqI_0 fq_38 vq_compact ?_
  refine j_if_eq (tgt := 17) eqI_3 (by decide) (fun h => absurd h (by decide)) (fun _ => ?_)
  refine j_aload_nq eqI_6 rfl ?_
  refine j_getQ (v := zI 0) hE eqI_7 fq_15 (vq_coder hj) ?_
  refine j_if_ne (tgt := 17) eqI_10 (by decide) (fun h => absurd rfl h) (fun _ => ?_)
  refine j_iconst (v := 1) eqI_13 (by decide) ?_
  refine j_goto (tgt := 18) eqI_14 (by decide) ?_
  exact j_nret eqI_18 rfl (by decide) ⟨rfl, rfl⟩
theorem q_length (hE : zOKE E) {j : Nat} (hj : j < 9) : zSp E 1 0 0 mqL cJ0_length_8abf5 [zQ j] S (fun r T => S = T ∧ r = some (zI (nI (zTl.getD j 0)))) := by
  refine zSp.ofG (by decide +kernel) rfl (Nat.le_of_ble_eq_true rfl) rfl ?_
  refine j_aload_nq eqL_0 rfl ?_
  refine j_getQ (v := zQ (16 + j)) hE eqL_1 fq_9 (vq_value hj) ?_
  refine j_alenQ hE eqL_4 hj ?_
  refine j_aload_nq eqL_5 rfl ?_
  refine j_callVQ hE (q_coder hE hj) eqL_6 lq_335 mk_qC mv_qC rfl hj (by decide) rfl rfl (Nat.le_of_ble_eq_true rfl) (Nat.le_refl _) (Nat.le_refl _) (fun r T h => ?_)
  obtain ⟨rfl, rfl⟩ := h
  refine j_ishr eqL_9 ?_
  refine j_iret eqL_10 rfl ⟨rfl, ?_⟩
  have := sc_shr0 (n := zTl.getD j 0) (Nat.lt_trans (zTl_lt j hj) (by decide))
  exact congrArg (fun v => some (zI v)) this
theorem q_pre {x y : Int32} {v : zV} (h0 : ¬ x < 0) (h1 : x < y) (hv : v = zR 0 ∨ v = zQ 40) : zSp E 0 0 0 mqP cJ3_checkIndex_8e157 [zI x, zI y, v] S (fun r T => S = T ∧ r = some (zI x)) := by
  have key : zlay [zI x, zI y, v] = [some (zI x), some (zI y), some v] := by rcases hv with rfl | rfl <;> rfl
  refine zSp.ofG (ls := [some (zI x), some (zI y), some v]) (by decide +kernel) rfl (by rw [key]; exact Nat.le_of_ble_eq_true rfl) (by rw [key]; rfl) ?_
  refine j_iload_n eqP_0 rfl ?_
  refine j_if_lt (tgt := 9) eqP_1 (by decide) (fun h => absurd h h0) (fun _ => ?_)
  refine j_iload_n eqP_4 rfl ?_
  refine j_iload_n eqP_5 rfl ?_
  refine j_icmp_lt (tgt := 16) eqP_6 (by decide) (fun _ => ?_) (fun h => absurd h1 h)
  refine j_iload_n eqP_16 rfl ?_
  exact j_iret eqP_17 rfl ⟨rfl, rfl⟩
theorem q_check (hE : zOKE E) {x y : Int32} (h0 : ¬ x < 0) (h1 : x < y) : zSp E 1 0 0 mqX cJ0_checkIndex_df160 [zI x, zI y] S (fun r T => S = T ∧ r = none) := by
  refine zSp.ofG (by decide +kernel) rfl (Nat.le_of_ble_eq_true rfl) rfl ?_
  refine j_iload_n eqX_0 rfl ?_
  refine j_iload_n eqX_1 rfl ?_
  refine j_getsF hE eqX_2 fq_1053 (fun v hv => ?_)
  refine j_callS (q_pre h0 h1 hv) eqX_5 lq_1059 mk_qP ms_qP (by decide) rfl rfl (Nat.le_of_ble_eq_true rfl) (Nat.le_refl _) (Nat.le_refl _) (fun r T h => ?_)
  obtain ⟨rfl, rfl⟩ := h
  refine j_pop eqX_8 rfl ?_
  exact j_vret eqX_9 rfl ⟨rfl, rfl⟩
theorem q_latinAt (hE : zOKE E) {j : Nat} {x : Int32} (hj : j < 9) (h0 : ¬ x < 0) (h1 : x < Int32.ofNat (zTl.getD j 0)) (h2 : x.toNatClampNeg < zTl.getD j 0) : zSp E 2 0 0 mqB cJ1_charAt_3b067 [zQ (16 + j), zI x] S (fun r T => S = T ∧ r = some (zI ((zTy.getD j []).getD x.toNatClampNeg 0 &&& 255))) := by
  refine zSp.ofG (by decide +kernel) rfl (Nat.le_of_ble_eq_true rfl) rfl ?_
  refine j_iload_n eqB_0 rfl ?_
  refine j_aload_nq eqB_1 rfl ?_
  refine j_alenQ hE eqB_2 hj ?_
  refine j_callS (q_check hE h0 h1) eqB_3 lq_9 mk_qX ms_qX (by decide) rfl rfl (Nat.le_of_ble_eq_true rfl) (Nat.le_refl _) (Nat.le_refl _) (fun r T h => ?_)
  obtain ⟨rfl, rfl⟩ := h
  refine j_aload_nq eqB_6 rfl ?_
  refine j_iload_n eqB_7 rfl ?_
  refine j_baldQ hE eqB_8 hj h0 h2 ?_
  refine j_sipush (v := 255) eqB_9 (by decide) ?_
  refine j_iand eqB_12 ?_
  refine j_i2c eqB_13 ?_
  rw [sc_c2]
  exact j_nret eqB_14 rfl (sc_nar _) ⟨rfl, rfl⟩
theorem q_charAt (hE : zOKE E) {j : Nat} {x : Int32} (hj : j < 9) (h0 : ¬ x < 0) (h1 : x < Int32.ofNat (zTl.getD j 0)) (h2 : x.toNatClampNeg < zTl.getD j 0) : zSp E 3 0 0 mqA cJ0_charAt_5068e [zQ j, zI x] S (fun r T => S = T ∧ r = some (zI ((zTy.getD j []).getD x.toNatClampNeg 0 &&& 255))) := by
  refine zSp.ofG (by decide +kernel) rfl (Nat.le_of_ble_eq_true rfl) rfl ?_
  refine j_aload_nq eqA_0 rfl ?_
  refine j_callVQ hE (q_latin hE hj) eqA_1 lq_492 mk_qI mv_qI rfl hj (by decide) rfl rfl (Nat.le_of_ble_eq_true rfl) (Nat.le_refl _) (Nat.le_refl _) (fun r T h => ?_)
  obtain ⟨rfl, rfl⟩ := h
  refine j_if_eq (tgt := 16) eqA_4 (by decide) (fun h => absurd h (by decide)) (fun _ => ?_)
  refine j_aload_nq eqA_7 rfl ?_
  refine j_getQ (v := zQ (16 + j)) hE eqA_8 fq_9 (vq_value hj) ?_
  refine j_iload_n eqA_11 rfl ?_
  refine j_callS (q_latinAt hE hj h0 h1 h2) eqA_12 lq_495 mk_qB ms_qB (by decide) rfl rfl (Nat.le_of_ble_eq_true rfl) (Nat.le_refl _) (Nat.le_refl _) (fun r T h => ?_)
  obtain ⟨rfl, rfl⟩ := h
  exact j_nret eqA_15 rfl (sc_nar _) ⟨rfl, rfl⟩
end ZTEXT2
end
