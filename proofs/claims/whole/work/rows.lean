section
-- ===== PART A: goes FIRST, ahead of the names: the tables' words, and 'selects' of the private methods out of them =====
/-- a private method of a class that the tables say can be made, by its rows of tables_1 -/
def lw_okq (q : MethodName × Nat) : Prop := (q.1.cls ≠ "java/lang/invoke/MethodHandle" ∧ q.1.cls ≠ "java/lang/invoke/VarHandle") ∧ Cond.instantiable q.1.cls q.2 ∈ tables_1 ∧ Cond.privateMethod q.1 ∈ tables_1 ∧ Cond.instanceMethod q.1 ∈ tables_1
theorem lw_p0 : lw_okq (⟨"SockFair", "tapeNumber", "(I)V"⟩, 18) := ⟨⟨by decide +kernel, by decide +kernel⟩, List.mem_of_getElem? (i := 28) (by decide +kernel), List.mem_of_getElem? (i := 496) (by decide +kernel), List.mem_of_getElem? (i := 497) (by decide +kernel)⟩
theorem lw_p1 : lw_okq (⟨"SockFair", "foreseen", "(I)LSockFair$Course;"⟩, 18) := ⟨⟨by decide +kernel, by decide +kernel⟩, List.mem_of_getElem? (i := 28) (by decide +kernel), List.mem_of_getElem? (i := 516) (by decide +kernel), List.mem_of_getElem? (i := 517) (by decide +kernel)⟩
theorem lw_p2 : lw_okq (⟨"SockFair$Outlook", "figureCouple", "(III)V"⟩, 5) := ⟨⟨by decide +kernel, by decide +kernel⟩, List.mem_of_getElem? (i := 251) (by decide +kernel), List.mem_of_getElem? (i := 524) (by decide +kernel), List.mem_of_getElem? (i := 525) (by decide +kernel)⟩
theorem lw_p3 : lw_okq (⟨"SockFair$Course", "bindAt", "(I)V"⟩, 5) := ⟨⟨by decide +kernel, by decide +kernel⟩, List.mem_of_getElem? (i := 284) (by decide +kernel), List.mem_of_getElem? (i := 554) (by decide +kernel), List.mem_of_getElem? (i := 555) (by decide +kernel)⟩
theorem lw_p4 : lw_okq (⟨"SockFair$Course", "wornBehind", "(I)I"⟩, 5) := ⟨⟨by decide +kernel, by decide +kernel⟩, List.mem_of_getElem? (i := 284) (by decide +kernel), List.mem_of_getElem? (i := 561) (by decide +kernel), List.mem_of_getElem? (i := 562) (by decide +kernel)⟩
theorem lw_p5 : lw_okq (⟨"SockFair", "socksChanged", "()V"⟩, 18) := ⟨⟨by decide +kernel, by decide +kernel⟩, List.mem_of_getElem? (i := 28) (by decide +kernel), List.mem_of_getElem? (i := 573) (by decide +kernel), List.mem_of_getElem? (i := 574) (by decide +kernel)⟩
theorem lw_p6 : lw_okq (⟨"SockFair", "bindingsChanged", "()V"⟩, 18) := ⟨⟨by decide +kernel, by decide +kernel⟩, List.mem_of_getElem? (i := 28) (by decide +kernel), List.mem_of_getElem? (i := 577) (by decide +kernel), List.mem_of_getElem? (i := 578) (by decide +kernel)⟩
theorem lw_p7 : lw_okq (⟨"SockFair", "knownTies", "()LSockFair$Ties;"⟩, 18) := ⟨⟨by decide +kernel, by decide +kernel⟩, List.mem_of_getElem? (i := 28) (by decide +kernel), List.mem_of_getElem? (i := 601) (by decide +kernel), List.mem_of_getElem? (i := 602) (by decide +kernel)⟩
theorem lw_p8 : lw_okq (⟨"SockFair$Ties", "isTempted", "(I)Z"⟩, 7) := ⟨⟨by decide +kernel, by decide +kernel⟩, List.mem_of_getElem? (i := 307) (by decide +kernel), List.mem_of_getElem? (i := 642) (by decide +kernel), List.mem_of_getElem? (i := 643) (by decide +kernel)⟩
theorem lw_p9 : lw_okq (⟨"SockFair", "freeOnes", "()I"⟩, 18) := ⟨⟨by decide +kernel, by decide +kernel⟩, List.mem_of_getElem? (i := 28) (by decide +kernel), List.mem_of_getElem? (i := 658) (by decide +kernel), List.mem_of_getElem? (i := 659) (by decide +kernel)⟩
theorem lw_p10 : lw_okq (⟨"SockFair$Ties", "ringThrough", "(I)I"⟩, 7) := ⟨⟨by decide +kernel, by decide +kernel⟩, List.mem_of_getElem? (i := 307) (by decide +kernel), List.mem_of_getElem? (i := 704) (by decide +kernel), List.mem_of_getElem? (i := 705) (by decide +kernel)⟩
theorem lw_p11 : lw_okq (⟨"SockFair$Ties", "allOf", "([II)I"⟩, 7) := ⟨⟨by decide +kernel, by decide +kernel⟩, List.mem_of_getElem? (i := 307) (by decide +kernel), List.mem_of_getElem? (i := 708) (by decide +kernel), List.mem_of_getElem? (i := 709) (by decide +kernel)⟩
theorem lw_p12 : lw_okq (⟨"SockFair$Ties", "partOf", "(I)I"⟩, 7) := ⟨⟨by decide +kernel, by decide +kernel⟩, List.mem_of_getElem? (i := 307) (by decide +kernel), List.mem_of_getElem? (i := 720) (by decide +kernel), List.mem_of_getElem? (i := 721) (by decide +kernel)⟩
theorem lw_p13 : lw_okq (⟨"java/lang/Throwable", "fillInStackTrace", "(I)Ljava/lang/Throwable;"⟩, 6) := ⟨⟨by decide +kernel, by decide +kernel⟩, List.mem_of_getElem? (i := 787) (by decide +kernel), List.mem_of_getElem? (i := 785) (by decide +kernel), List.mem_of_getElem? (i := 786) (by decide +kernel)⟩
theorem lw_p14 : lw_okq (⟨"SockFair$Reader", "step", "()V"⟩, 11) := ⟨⟨by decide +kernel, by decide +kernel⟩, List.mem_of_getElem? (i := 174) (by decide +kernel), List.mem_of_getElem? (i := 827) (by decide +kernel), List.mem_of_getElem? (i := 828) (by decide +kernel)⟩
theorem lw_p15 : lw_okq (⟨"SockFair$Reader", "stepWord", "()V"⟩, 11) := ⟨⟨by decide +kernel, by decide +kernel⟩, List.mem_of_getElem? (i := 174) (by decide +kernel), List.mem_of_getElem? (i := 831) (by decide +kernel), List.mem_of_getElem? (i := 832) (by decide +kernel)⟩
def lw_privs_1 : List (MethodName × Nat) := [(⟨"SockFair", "tapeNumber", "(I)V"⟩, 18), (⟨"SockFair", "foreseen", "(I)LSockFair$Course;"⟩, 18), (⟨"SockFair$Outlook", "figureCouple", "(III)V"⟩, 5), (⟨"SockFair$Course", "bindAt", "(I)V"⟩, 5), (⟨"SockFair$Course", "wornBehind", "(I)I"⟩, 5), (⟨"SockFair", "socksChanged", "()V"⟩, 18), (⟨"SockFair", "bindingsChanged", "()V"⟩, 18), (⟨"SockFair", "knownTies", "()LSockFair$Ties;"⟩, 18), (⟨"SockFair$Ties", "isTempted", "(I)Z"⟩, 7), (⟨"SockFair", "freeOnes", "()I"⟩, 18), (⟨"SockFair$Ties", "ringThrough", "(I)I"⟩, 7), (⟨"SockFair$Ties", "allOf", "([II)I"⟩, 7), (⟨"SockFair$Ties", "partOf", "(I)I"⟩, 7), (⟨"java/lang/Throwable", "fillInStackTrace", "(I)Ljava/lang/Throwable;"⟩, 6), (⟨"SockFair$Reader", "step", "()V"⟩, 11), (⟨"SockFair$Reader", "stepWord", "()V"⟩, 11)]
theorem lw_r1 : ∀ q ∈ lw_privs_1, lw_okq q := List.forall_mem_cons.mpr ⟨lw_p0, List.forall_mem_cons.mpr ⟨lw_p1, List.forall_mem_cons.mpr ⟨lw_p2, List.forall_mem_cons.mpr ⟨lw_p3, List.forall_mem_cons.mpr ⟨lw_p4, List.forall_mem_cons.mpr ⟨lw_p5, List.forall_mem_cons.mpr ⟨lw_p6, List.forall_mem_cons.mpr ⟨lw_p7, List.forall_mem_cons.mpr ⟨lw_p8, List.forall_mem_cons.mpr ⟨lw_p9, List.forall_mem_cons.mpr ⟨lw_p10, List.forall_mem_cons.mpr ⟨lw_p11, List.forall_mem_cons.mpr ⟨lw_p12, List.forall_mem_cons.mpr ⟨lw_p13, List.forall_mem_cons.mpr ⟨lw_p14, List.forall_mem_cons.mpr ⟨lw_p15, fun _ h => absurd h List.not_mem_nil⟩⟩⟩⟩⟩⟩⟩⟩⟩⟩⟩⟩⟩⟩⟩⟩
theorem lw_p16 : lw_okq (⟨"SockFair$Reader", "stepNumber", "()V"⟩, 11) := ⟨⟨by decide +kernel, by decide +kernel⟩, List.mem_of_getElem? (i := 174) (by decide +kernel), List.mem_of_getElem? (i := 876) (by decide +kernel), List.mem_of_getElem? (i := 877) (by decide +kernel)⟩
theorem lw_p17 : lw_okq (⟨"SockFair$Reader", "readSock", "()V"⟩, 11) := ⟨⟨by decide +kernel, by decide +kernel⟩, List.mem_of_getElem? (i := 174) (by decide +kernel), List.mem_of_getElem? (i := 943) (by decide +kernel), List.mem_of_getElem? (i := 944) (by decide +kernel)⟩
theorem lw_p18 : lw_okq (⟨"SockFair$Reader", "refuse", "(I)V"⟩, 11) := ⟨⟨by decide +kernel, by decide +kernel⟩, List.mem_of_getElem? (i := 174) (by decide +kernel), List.mem_of_getElem? (i := 947) (by decide +kernel), List.mem_of_getElem? (i := 948) (by decide +kernel)⟩
theorem lw_p19 : lw_okq (⟨"SockFair$Reader", "readNumber", "(II)I"⟩, 11) := ⟨⟨by decide +kernel, by decide +kernel⟩, List.mem_of_getElem? (i := 174) (by decide +kernel), List.mem_of_getElem? (i := 951) (by decide +kernel), List.mem_of_getElem? (i := 952) (by decide +kernel)⟩
theorem lw_p20 : lw_okq (⟨"SockFair$Reader", "readCouple", "()V"⟩, 11) := ⟨⟨by decide +kernel, by decide +kernel⟩, List.mem_of_getElem? (i := 174) (by decide +kernel), List.mem_of_getElem? (i := 955) (by decide +kernel), List.mem_of_getElem? (i := 956) (by decide +kernel)⟩
theorem lw_p21 : lw_okq (⟨"SockFair$Reader", "readUnbound", "(I)I"⟩, 11) := ⟨⟨by decide +kernel, by decide +kernel⟩, List.mem_of_getElem? (i := 174) (by decide +kernel), List.mem_of_getElem? (i := 959) (by decide +kernel), List.mem_of_getElem? (i := 960) (by decide +kernel)⟩
theorem lw_p22 : lw_okq (⟨"SockFair$Reader", "readRule", "()V"⟩, 11) := ⟨⟨by decide +kernel, by decide +kernel⟩, List.mem_of_getElem? (i := 174) (by decide +kernel), List.mem_of_getElem? (i := 963) (by decide +kernel), List.mem_of_getElem? (i := 964) (by decide +kernel)⟩
theorem lw_p23 : lw_okq (⟨"SockFair$Reader", "readLevel", "(II)V"⟩, 11) := ⟨⟨by decide +kernel, by decide +kernel⟩, List.mem_of_getElem? (i := 174) (by decide +kernel), List.mem_of_getElem? (i := 971) (by decide +kernel), List.mem_of_getElem? (i := 972) (by decide +kernel)⟩
theorem lw_p24 : lw_okq (⟨"SockFair$Reader", "readPart", "(I)V"⟩, 11) := ⟨⟨by decide +kernel, by decide +kernel⟩, List.mem_of_getElem? (i := 174) (by decide +kernel), List.mem_of_getElem? (i := 975) (by decide +kernel), List.mem_of_getElem? (i := 976) (by decide +kernel)⟩
theorem lw_p25 : lw_okq (⟨"SockFair$Reader", "readWithin", "(I)V"⟩, 11) := ⟨⟨by decide +kernel, by decide +kernel⟩, List.mem_of_getElem? (i := 174) (by decide +kernel), List.mem_of_getElem? (i := 983) (by decide +kernel), List.mem_of_getElem? (i := 984) (by decide +kernel)⟩
theorem lw_p26 : lw_okq (⟨"SockFair$Reader", "isAnyWord", "()Z"⟩, 11) := ⟨⟨by decide +kernel, by decide +kernel⟩, List.mem_of_getElem? (i := 174) (by decide +kernel), List.mem_of_getElem? (i := 987) (by decide +kernel), List.mem_of_getElem? (i := 988) (by decide +kernel)⟩
theorem lw_p27 : lw_okq (⟨"SockFair$Reader", "stepOver", "(I)V"⟩, 11) := ⟨⟨by decide +kernel, by decide +kernel⟩, List.mem_of_getElem? (i := 174) (by decide +kernel), List.mem_of_getElem? (i := 991) (by decide +kernel), List.mem_of_getElem? (i := 992) (by decide +kernel)⟩
theorem lw_p28 : lw_okq (⟨"SockFair$Reader", "readNots", "()I"⟩, 11) := ⟨⟨by decide +kernel, by decide +kernel⟩, List.mem_of_getElem? (i := 174) (by decide +kernel), List.mem_of_getElem? (i := 995) (by decide +kernel), List.mem_of_getElem? (i := 996) (by decide +kernel)⟩
theorem lw_p29 : lw_okq (⟨"SockFair$Reader", "joinHere", "(I)I"⟩, 11) := ⟨⟨by decide +kernel, by decide +kernel⟩, List.mem_of_getElem? (i := 174) (by decide +kernel), List.mem_of_getElem? (i := 999) (by decide +kernel), List.mem_of_getElem? (i := 1000) (by decide +kernel)⟩
theorem lw_p30 : lw_okq (⟨"SockFair", "checkPerson", "(I)V"⟩, 18) := ⟨⟨by decide +kernel, by decide +kernel⟩, List.mem_of_getElem? (i := 28) (by decide +kernel), List.mem_of_getElem? (i := 1055) (by decide +kernel), List.mem_of_getElem? (i := 1056) (by decide +kernel)⟩
theorem lw_p31 : lw_okq (⟨"SockFair", "likenessShown", "(IIII)I"⟩, 18) := ⟨⟨by decide +kernel, by decide +kernel⟩, List.mem_of_getElem? (i := 28) (by decide +kernel), List.mem_of_getElem? (i := 1070) (by decide +kernel), List.mem_of_getElem? (i := 1071) (by decide +kernel)⟩
def lw_privs_2 : List (MethodName × Nat) := [(⟨"SockFair$Reader", "stepNumber", "()V"⟩, 11), (⟨"SockFair$Reader", "readSock", "()V"⟩, 11), (⟨"SockFair$Reader", "refuse", "(I)V"⟩, 11), (⟨"SockFair$Reader", "readNumber", "(II)I"⟩, 11), (⟨"SockFair$Reader", "readCouple", "()V"⟩, 11), (⟨"SockFair$Reader", "readUnbound", "(I)I"⟩, 11), (⟨"SockFair$Reader", "readRule", "()V"⟩, 11), (⟨"SockFair$Reader", "readLevel", "(II)V"⟩, 11), (⟨"SockFair$Reader", "readPart", "(I)V"⟩, 11), (⟨"SockFair$Reader", "readWithin", "(I)V"⟩, 11), (⟨"SockFair$Reader", "isAnyWord", "()Z"⟩, 11), (⟨"SockFair$Reader", "stepOver", "(I)V"⟩, 11), (⟨"SockFair$Reader", "readNots", "()I"⟩, 11), (⟨"SockFair$Reader", "joinHere", "(I)I"⟩, 11), (⟨"SockFair", "checkPerson", "(I)V"⟩, 18), (⟨"SockFair", "likenessShown", "(IIII)I"⟩, 18)]
theorem lw_r2 : ∀ q ∈ lw_privs_2, lw_okq q := List.forall_mem_cons.mpr ⟨lw_p16, List.forall_mem_cons.mpr ⟨lw_p17, List.forall_mem_cons.mpr ⟨lw_p18, List.forall_mem_cons.mpr ⟨lw_p19, List.forall_mem_cons.mpr ⟨lw_p20, List.forall_mem_cons.mpr ⟨lw_p21, List.forall_mem_cons.mpr ⟨lw_p22, List.forall_mem_cons.mpr ⟨lw_p23, List.forall_mem_cons.mpr ⟨lw_p24, List.forall_mem_cons.mpr ⟨lw_p25, List.forall_mem_cons.mpr ⟨lw_p26, List.forall_mem_cons.mpr ⟨lw_p27, List.forall_mem_cons.mpr ⟨lw_p28, List.forall_mem_cons.mpr ⟨lw_p29, List.forall_mem_cons.mpr ⟨lw_p30, List.forall_mem_cons.mpr ⟨lw_p31, fun _ h => absurd h List.not_mem_nil⟩⟩⟩⟩⟩⟩⟩⟩⟩⟩⟩⟩⟩⟩⟩⟩
theorem lw_p32 : lw_okq (⟨"SockFair", "areFreeTwo", "(II)Z"⟩, 18) := ⟨⟨by decide +kernel, by decide +kernel⟩, List.mem_of_getElem? (i := 28) (by decide +kernel), List.mem_of_getElem? (i := 1112) (by decide +kernel), List.mem_of_getElem? (i := 1113) (by decide +kernel)⟩
theorem lw_p33 : lw_okq (⟨"SockFair$Ways", "clearRow", "()V"⟩, 9) := ⟨⟨by decide +kernel, by decide +kernel⟩, List.mem_of_getElem? (i := 337) (by decide +kernel), List.mem_of_getElem? (i := 1167) (by decide +kernel), List.mem_of_getElem? (i := 1168) (by decide +kernel)⟩
theorem lw_p34 : lw_okq (⟨"SockFair$Ways", "firstMate", "([IIIJ)I"⟩, 9) := ⟨⟨by decide +kernel, by decide +kernel⟩, List.mem_of_getElem? (i := 337) (by decide +kernel), List.mem_of_getElem? (i := 1171) (by decide +kernel), List.mem_of_getElem? (i := 1172) (by decide +kernel)⟩
theorem lw_p35 : lw_okq (⟨"SockFair$Ways", "settleFrom", "(III)V"⟩, 9) := ⟨⟨by decide +kernel, by decide +kernel⟩, List.mem_of_getElem? (i := 337) (by decide +kernel), List.mem_of_getElem? (i := 1186) (by decide +kernel), List.mem_of_getElem? (i := 1187) (by decide +kernel)⟩
theorem lw_p36 : lw_okq (⟨"SockFair$Ways", "noteRest", "()V"⟩, 9) := ⟨⟨by decide +kernel, by decide +kernel⟩, List.mem_of_getElem? (i := 337) (by decide +kernel), List.mem_of_getElem? (i := 1190) (by decide +kernel), List.mem_of_getElem? (i := 1191) (by decide +kernel)⟩
theorem lw_p37 : lw_okq (⟨"SockFair$Ways", "isCalm", "(III)Z"⟩, 9) := ⟨⟨by decide +kernel, by decide +kernel⟩, List.mem_of_getElem? (i := 337) (by decide +kernel), List.mem_of_getElem? (i := 1195) (by decide +kernel), List.mem_of_getElem? (i := 1196) (by decide +kernel)⟩
theorem lw_p38 : lw_okq (⟨"SockFair", "leastWay", "(III)I"⟩, 18) := ⟨⟨by decide +kernel, by decide +kernel⟩, List.mem_of_getElem? (i := 28) (by decide +kernel), List.mem_of_getElem? (i := 1218) (by decide +kernel), List.mem_of_getElem? (i := 1219) (by decide +kernel)⟩
theorem lw_p39 : lw_okq (⟨"SockFair$Told", "isLikeOneAlone", "(IILSockFair$Socks;)Z"⟩, 7) := ⟨⟨by decide +kernel, by decide +kernel⟩, List.mem_of_getElem? (i := 36) (by decide +kernel), List.mem_of_getElem? (i := 1247) (by decide +kernel), List.mem_of_getElem? (i := 1248) (by decide +kernel)⟩
theorem lw_p40 : lw_okq (⟨"SockFair$Dyes", "tryColours", "(I)V"⟩, 8) := ⟨⟨by decide +kernel, by decide +kernel⟩, List.mem_of_getElem? (i := 377) (by decide +kernel), List.mem_of_getElem? (i := 1280) (by decide +kernel), List.mem_of_getElem? (i := 1281) (by decide +kernel)⟩
theorem lw_p41 : lw_okq (⟨"SockFair$Dyes", "note", "(I)V"⟩, 8) := ⟨⟨by decide +kernel, by decide +kernel⟩, List.mem_of_getElem? (i := 377) (by decide +kernel), List.mem_of_getElem? (i := 1288) (by decide +kernel), List.mem_of_getElem? (i := 1289) (by decide +kernel)⟩
theorem lw_p42 : lw_okq (⟨"SockFair$Dyes", "noteRow", "(IJ)V"⟩, 8) := ⟨⟨by decide +kernel, by decide +kernel⟩, List.mem_of_getElem? (i := 377) (by decide +kernel), List.mem_of_getElem? (i := 1296) (by decide +kernel), List.mem_of_getElem? (i := 1297) (by decide +kernel)⟩
theorem lw_p43 : lw_okq (⟨"SockFair", "isGameAtRest", "(IIII)Z"⟩, 18) := ⟨⟨by decide +kernel, by decide +kernel⟩, List.mem_of_getElem? (i := 28) (by decide +kernel), List.mem_of_getElem? (i := 1337) (by decide +kernel), List.mem_of_getElem? (i := 1338) (by decide +kernel)⟩
theorem lw_p44 : lw_okq (⟨"SockFair", "gain", "(IIII)I"⟩, 18) := ⟨⟨by decide +kernel, by decide +kernel⟩, List.mem_of_getElem? (i := 28) (by decide +kernel), List.mem_of_getElem? (i := 1341) (by decide +kernel), List.mem_of_getElem? (i := 1342) (by decide +kernel)⟩
theorem lw_p45 : lw_okq (⟨"SockFair$Ages", "draw", "(I)I"⟩, 5) := ⟨⟨by decide +kernel, by decide +kernel⟩, List.mem_of_getElem? (i := 411) (by decide +kernel), List.mem_of_getElem? (i := 1358) (by decide +kernel), List.mem_of_getElem? (i := 1359) (by decide +kernel)⟩
theorem lw_p46 : lw_okq (⟨"SockFair$Ages", "befall", "(II)V"⟩, 5) := ⟨⟨by decide +kernel, by decide +kernel⟩, List.mem_of_getElem? (i := 411) (by decide +kernel), List.mem_of_getElem? (i := 1363) (by decide +kernel), List.mem_of_getElem? (i := 1364) (by decide +kernel)⟩
theorem lw_p47 : lw_okq (⟨"SockFair$Ages", "holdOne", "()V"⟩, 5) := ⟨⟨by decide +kernel, by decide +kernel⟩, List.mem_of_getElem? (i := 411) (by decide +kernel), List.mem_of_getElem? (i := 1368) (by decide +kernel), List.mem_of_getElem? (i := 1369) (by decide +kernel)⟩
def lw_privs_3 : List (MethodName × Nat) := [(⟨"SockFair", "areFreeTwo", "(II)Z"⟩, 18), (⟨"SockFair$Ways", "clearRow", "()V"⟩, 9), (⟨"SockFair$Ways", "firstMate", "([IIIJ)I"⟩, 9), (⟨"SockFair$Ways", "settleFrom", "(III)V"⟩, 9), (⟨"SockFair$Ways", "noteRest", "()V"⟩, 9), (⟨"SockFair$Ways", "isCalm", "(III)Z"⟩, 9), (⟨"SockFair", "leastWay", "(III)I"⟩, 18), (⟨"SockFair$Told", "isLikeOneAlone", "(IILSockFair$Socks;)Z"⟩, 7), (⟨"SockFair$Dyes", "tryColours", "(I)V"⟩, 8), (⟨"SockFair$Dyes", "note", "(I)V"⟩, 8), (⟨"SockFair$Dyes", "noteRow", "(IJ)V"⟩, 8), (⟨"SockFair", "isGameAtRest", "(IIII)Z"⟩, 18), (⟨"SockFair", "gain", "(IIII)I"⟩, 18), (⟨"SockFair$Ages", "draw", "(I)I"⟩, 5), (⟨"SockFair$Ages", "befall", "(II)V"⟩, 5), (⟨"SockFair$Ages", "holdOne", "()V"⟩, 5)]
theorem lw_r3 : ∀ q ∈ lw_privs_3, lw_okq q := List.forall_mem_cons.mpr ⟨lw_p32, List.forall_mem_cons.mpr ⟨lw_p33, List.forall_mem_cons.mpr ⟨lw_p34, List.forall_mem_cons.mpr ⟨lw_p35, List.forall_mem_cons.mpr ⟨lw_p36, List.forall_mem_cons.mpr ⟨lw_p37, List.forall_mem_cons.mpr ⟨lw_p38, List.forall_mem_cons.mpr ⟨lw_p39, List.forall_mem_cons.mpr ⟨lw_p40, List.forall_mem_cons.mpr ⟨lw_p41, List.forall_mem_cons.mpr ⟨lw_p42, List.forall_mem_cons.mpr ⟨lw_p43, List.forall_mem_cons.mpr ⟨lw_p44, List.forall_mem_cons.mpr ⟨lw_p45, List.forall_mem_cons.mpr ⟨lw_p46, List.forall_mem_cons.mpr ⟨lw_p47, fun _ h => absurd h List.not_mem_nil⟩⟩⟩⟩⟩⟩⟩⟩⟩⟩⟩⟩⟩⟩⟩⟩
theorem lw_p48 : lw_okq (⟨"SockFair$Ages", "fillFree", "()V"⟩, 5) := ⟨⟨by decide +kernel, by decide +kernel⟩, List.mem_of_getElem? (i := 411) (by decide +kernel), List.mem_of_getElem? (i := 1372) (by decide +kernel), List.mem_of_getElem? (i := 1373) (by decide +kernel)⟩
theorem lw_p49 : lw_okq (⟨"SockFairModel", "lays", "(I)V"⟩, 63) := ⟨⟨by decide +kernel, by decide +kernel⟩, List.mem_of_getElem? (i := 1412) (by decide +kernel), List.mem_of_getElem? (i := 1617) (by decide +kernel), List.mem_of_getElem? (i := 1618) (by decide +kernel)⟩
theorem lw_p50 : lw_okq (⟨"SockFairModel", "right", "(ZI)Z"⟩, 63) := ⟨⟨by decide +kernel, by decide +kernel⟩, List.mem_of_getElem? (i := 1412) (by decide +kernel), List.mem_of_getElem? (i := 1625) (by decide +kernel), List.mem_of_getElem? (i := 1626) (by decide +kernel)⟩
theorem lw_p51 : lw_okq (⟨"SockFairModel", "goes", "()V"⟩, 63) := ⟨⟨by decide +kernel, by decide +kernel⟩, List.mem_of_getElem? (i := 1412) (by decide +kernel), List.mem_of_getElem? (i := 1629) (by decide +kernel), List.mem_of_getElem? (i := 1630) (by decide +kernel)⟩
theorem lw_p52 : lw_okq (⟨"SockFairModel", "byteAt", "(I)I"⟩, 63) := ⟨⟨by decide +kernel, by decide +kernel⟩, List.mem_of_getElem? (i := 1412) (by decide +kernel), List.mem_of_getElem? (i := 1633) (by decide +kernel), List.mem_of_getElem? (i := 1634) (by decide +kernel)⟩
theorem lw_p53 : lw_okq (⟨"SockFairModel", "isGood", "()Z"⟩, 63) := ⟨⟨by decide +kernel, by decide +kernel⟩, List.mem_of_getElem? (i := 1412) (by decide +kernel), List.mem_of_getElem? (i := 1643) (by decide +kernel), List.mem_of_getElem? (i := 1644) (by decide +kernel)⟩
theorem lw_p54 : lw_okq (⟨"SockFairModel", "line", "()V"⟩, 63) := ⟨⟨by decide +kernel, by decide +kernel⟩, List.mem_of_getElem? (i := 1412) (by decide +kernel), List.mem_of_getElem? (i := 1647) (by decide +kernel), List.mem_of_getElem? (i := 1648) (by decide +kernel)⟩
theorem lw_p55 : lw_okq (⟨"SockFairModel", "knownWord", "()I"⟩, 63) := ⟨⟨by decide +kernel, by decide +kernel⟩, List.mem_of_getElem? (i := 1412) (by decide +kernel), List.mem_of_getElem? (i := 1651) (by decide +kernel), List.mem_of_getElem? (i := 1652) (by decide +kernel)⟩
theorem lw_p56 : lw_okq (⟨"SockFairModel", "readsSock", "(I)V"⟩, 63) := ⟨⟨by decide +kernel, by decide +kernel⟩, List.mem_of_getElem? (i := 1412) (by decide +kernel), List.mem_of_getElem? (i := 1662) (by decide +kernel), List.mem_of_getElem? (i := 1663) (by decide +kernel)⟩
theorem lw_p57 : lw_okq (⟨"SockFairModel", "wrong", "(I)V"⟩, 63) := ⟨⟨by decide +kernel, by decide +kernel⟩, List.mem_of_getElem? (i := 1412) (by decide +kernel), List.mem_of_getElem? (i := 1666) (by decide +kernel), List.mem_of_getElem? (i := 1667) (by decide +kernel)⟩
theorem lw_p58 : lw_okq (⟨"SockFairModel", "number", "(II)I"⟩, 63) := ⟨⟨by decide +kernel, by decide +kernel⟩, List.mem_of_getElem? (i := 1412) (by decide +kernel), List.mem_of_getElem? (i := 1670) (by decide +kernel), List.mem_of_getElem? (i := 1671) (by decide +kernel)⟩
theorem lw_p59 : lw_okq (⟨"SockFairModel", "unbound", "(I)I"⟩, 63) := ⟨⟨by decide +kernel, by decide +kernel⟩, List.mem_of_getElem? (i := 1412) (by decide +kernel), List.mem_of_getElem? (i := 1674) (by decide +kernel), List.mem_of_getElem? (i := 1675) (by decide +kernel)⟩
theorem lw_p60 : lw_okq (⟨"SockFairModel", "expression", "(II)V"⟩, 63) := ⟨⟨by decide +kernel, by decide +kernel⟩, List.mem_of_getElem? (i := 1412) (by decide +kernel), List.mem_of_getElem? (i := 1678) (by decide +kernel), List.mem_of_getElem? (i := 1679) (by decide +kernel)⟩
theorem lw_p61 : lw_okq (⟨"SockFairModel", "deeper", "()V"⟩, 63) := ⟨⟨by decide +kernel, by decide +kernel⟩, List.mem_of_getElem? (i := 1412) (by decide +kernel), List.mem_of_getElem? (i := 1682) (by decide +kernel), List.mem_of_getElem? (i := 1683) (by decide +kernel)⟩
theorem lw_p62 : lw_okq (⟨"SockFairModel", "isSign", "(I)Z"⟩, 63) := ⟨⟨by decide +kernel, by decide +kernel⟩, List.mem_of_getElem? (i := 1412) (by decide +kernel), List.mem_of_getElem? (i := 1686) (by decide +kernel), List.mem_of_getElem? (i := 1687) (by decide +kernel)⟩
theorem lw_p63 : lw_okq (⟨"SockFairModel", "operand", "(Z)V"⟩, 63) := ⟨⟨by decide +kernel, by decide +kernel⟩, List.mem_of_getElem? (i := 1412) (by decide +kernel), List.mem_of_getElem? (i := 1690) (by decide +kernel), List.mem_of_getElem? (i := 1691) (by decide +kernel)⟩
def lw_privs_4 : List (MethodName × Nat) := [(⟨"SockFair$Ages", "fillFree", "()V"⟩, 5), (⟨"SockFairModel", "lays", "(I)V"⟩, 63), (⟨"SockFairModel", "right", "(ZI)Z"⟩, 63), (⟨"SockFairModel", "goes", "()V"⟩, 63), (⟨"SockFairModel", "byteAt", "(I)I"⟩, 63), (⟨"SockFairModel", "isGood", "()Z"⟩, 63), (⟨"SockFairModel", "line", "()V"⟩, 63), (⟨"SockFairModel", "knownWord", "()I"⟩, 63), (⟨"SockFairModel", "readsSock", "(I)V"⟩, 63), (⟨"SockFairModel", "wrong", "(I)V"⟩, 63), (⟨"SockFairModel", "number", "(II)I"⟩, 63), (⟨"SockFairModel", "unbound", "(I)I"⟩, 63), (⟨"SockFairModel", "expression", "(II)V"⟩, 63), (⟨"SockFairModel", "deeper", "()V"⟩, 63), (⟨"SockFairModel", "isSign", "(I)Z"⟩, 63), (⟨"SockFairModel", "operand", "(Z)V"⟩, 63)]
theorem lw_r4 : ∀ q ∈ lw_privs_4, lw_okq q := List.forall_mem_cons.mpr ⟨lw_p48, List.forall_mem_cons.mpr ⟨lw_p49, List.forall_mem_cons.mpr ⟨lw_p50, List.forall_mem_cons.mpr ⟨lw_p51, List.forall_mem_cons.mpr ⟨lw_p52, List.forall_mem_cons.mpr ⟨lw_p53, List.forall_mem_cons.mpr ⟨lw_p54, List.forall_mem_cons.mpr ⟨lw_p55, List.forall_mem_cons.mpr ⟨lw_p56, List.forall_mem_cons.mpr ⟨lw_p57, List.forall_mem_cons.mpr ⟨lw_p58, List.forall_mem_cons.mpr ⟨lw_p59, List.forall_mem_cons.mpr ⟨lw_p60, List.forall_mem_cons.mpr ⟨lw_p61, List.forall_mem_cons.mpr ⟨lw_p62, List.forall_mem_cons.mpr ⟨lw_p63, fun _ h => absurd h List.not_mem_nil⟩⟩⟩⟩⟩⟩⟩⟩⟩⟩⟩⟩⟩⟩⟩⟩
theorem lw_p64 : lw_okq (⟨"SockFairModel", "waitsFor", "(I)V"⟩, 63) := ⟨⟨by decide +kernel, by decide +kernel⟩, List.mem_of_getElem? (i := 1412) (by decide +kernel), List.mem_of_getElem? (i := 1694) (by decide +kernel), List.mem_of_getElem? (i := 1695) (by decide +kernel)⟩
theorem lw_p65 : lw_okq (⟨"SockFairModel", "part", "()V"⟩, 63) := ⟨⟨by decide +kernel, by decide +kernel⟩, List.mem_of_getElem? (i := 1412) (by decide +kernel), List.mem_of_getElem? (i := 1698) (by decide +kernel), List.mem_of_getElem? (i := 1699) (by decide +kernel)⟩
theorem lw_p66 : lw_okq (⟨"SockFairModel", "puts", "(I)V"⟩, 63) := ⟨⟨by decide +kernel, by decide +kernel⟩, List.mem_of_getElem? (i := 1412) (by decide +kernel), List.mem_of_getElem? (i := 1702) (by decide +kernel), List.mem_of_getElem? (i := 1703) (by decide +kernel)⟩
theorem lw_p67 : lw_okq (⟨"SockFairModel", "drops", "(I)V"⟩, 63) := ⟨⟨by decide +kernel, by decide +kernel⟩, List.mem_of_getElem? (i := 1412) (by decide +kernel), List.mem_of_getElem? (i := 1706) (by decide +kernel), List.mem_of_getElem? (i := 1707) (by decide +kernel)⟩
theorem lw_p68 : lw_okq (⟨"SockFairModel", "isOpened", "()Z"⟩, 63) := ⟨⟨by decide +kernel, by decide +kernel⟩, List.mem_of_getElem? (i := 1412) (by decide +kernel), List.mem_of_getElem? (i := 1716) (by decide +kernel), List.mem_of_getElem? (i := 1717) (by decide +kernel)⟩
theorem lw_p69 : lw_okq (⟨"SockFairModel", "closes", "()V"⟩, 63) := ⟨⟨by decide +kernel, by decide +kernel⟩, List.mem_of_getElem? (i := 1412) (by decide +kernel), List.mem_of_getElem? (i := 1720) (by decide +kernel), List.mem_of_getElem? (i := 1721) (by decide +kernel)⟩
theorem lw_p70 : lw_okq (⟨"SockFairModel", "need", "(Z)V"⟩, 63) := ⟨⟨by decide +kernel, by decide +kernel⟩, List.mem_of_getElem? (i := 1412) (by decide +kernel), List.mem_of_getElem? (i := 1724) (by decide +kernel), List.mem_of_getElem? (i := 1725) (by decide +kernel)⟩
theorem lw_p71 : lw_okq (⟨"SockFairModel", "copies", "([I[I)V"⟩, 63) := ⟨⟨by decide +kernel, by decide +kernel⟩, List.mem_of_getElem? (i := 1412) (by decide +kernel), List.mem_of_getElem? (i := 1728) (by decide +kernel), List.mem_of_getElem? (i := 1729) (by decide +kernel)⟩
theorem lw_p72 : lw_okq (⟨"SockFairModel", "boundIn", "(I)I"⟩, 63) := ⟨⟨by decide +kernel, by decide +kernel⟩, List.mem_of_getElem? (i := 1412) (by decide +kernel), List.mem_of_getElem? (i := 1747) (by decide +kernel), List.mem_of_getElem? (i := 1748) (by decide +kernel)⟩
theorem lw_p73 : lw_okq (⟨"SockFairModel", "holesIn", "(I)I"⟩, 63) := ⟨⟨by decide +kernel, by decide +kernel⟩, List.mem_of_getElem? (i := 1412) (by decide +kernel), List.mem_of_getElem? (i := 1751) (by decide +kernel), List.mem_of_getElem? (i := 1752) (by decide +kernel)⟩
theorem lw_p74 : lw_okq (⟨"SockFairModel", "mayCouples", "()I"⟩, 63) := ⟨⟨by decide +kernel, by decide +kernel⟩, List.mem_of_getElem? (i := 1412) (by decide +kernel), List.mem_of_getElem? (i := 1755) (by decide +kernel), List.mem_of_getElem? (i := 1756) (by decide +kernel)⟩
theorem lw_p75 : lw_okq (⟨"SockFairModel", "maySet", "(I)I"⟩, 63) := ⟨⟨by decide +kernel, by decide +kernel⟩, List.mem_of_getElem? (i := 1412) (by decide +kernel), List.mem_of_getElem? (i := 1759) (by decide +kernel), List.mem_of_getElem? (i := 1760) (by decide +kernel)⟩
theorem lw_p76 : lw_okq (⟨"SockFairModel", "may", "(III)Z"⟩, 63) := ⟨⟨by decide +kernel, by decide +kernel⟩, List.mem_of_getElem? (i := 1412) (by decide +kernel), List.mem_of_getElem? (i := 1763) (by decide +kernel), List.mem_of_getElem? (i := 1764) (by decide +kernel)⟩
theorem lw_p77 : lw_okq (⟨"SockFairModel", "alikeOf", "(III)I"⟩, 63) := ⟨⟨by decide +kernel, by decide +kernel⟩, List.mem_of_getElem? (i := 1412) (by decide +kernel), List.mem_of_getElem? (i := 1767) (by decide +kernel), List.mem_of_getElem? (i := 1768) (by decide +kernel)⟩
theorem lw_p78 : lw_okq (⟨"SockFairModel", "alikeWith", "(IIIII)I"⟩, 63) := ⟨⟨by decide +kernel, by decide +kernel⟩, List.mem_of_getElem? (i := 1412) (by decide +kernel), List.mem_of_getElem? (i := 1771) (by decide +kernel), List.mem_of_getElem? (i := 1772) (by decide +kernel)⟩
theorem lw_p79 : lw_okq (⟨"SockFairModel", "reckons", "(I)I"⟩, 63) := ⟨⟨by decide +kernel, by decide +kernel⟩, List.mem_of_getElem? (i := 1412) (by decide +kernel), List.mem_of_getElem? (i := 1778) (by decide +kernel), List.mem_of_getElem? (i := 1779) (by decide +kernel)⟩
def lw_privs_5 : List (MethodName × Nat) := [(⟨"SockFairModel", "waitsFor", "(I)V"⟩, 63), (⟨"SockFairModel", "part", "()V"⟩, 63), (⟨"SockFairModel", "puts", "(I)V"⟩, 63), (⟨"SockFairModel", "drops", "(I)V"⟩, 63), (⟨"SockFairModel", "isOpened", "()Z"⟩, 63), (⟨"SockFairModel", "closes", "()V"⟩, 63), (⟨"SockFairModel", "need", "(Z)V"⟩, 63), (⟨"SockFairModel", "copies", "([I[I)V"⟩, 63), (⟨"SockFairModel", "boundIn", "(I)I"⟩, 63), (⟨"SockFairModel", "holesIn", "(I)I"⟩, 63), (⟨"SockFairModel", "mayCouples", "()I"⟩, 63), (⟨"SockFairModel", "maySet", "(I)I"⟩, 63), (⟨"SockFairModel", "may", "(III)Z"⟩, 63), (⟨"SockFairModel", "alikeOf", "(III)I"⟩, 63), (⟨"SockFairModel", "alikeWith", "(IIIII)I"⟩, 63), (⟨"SockFairModel", "reckons", "(I)I"⟩, 63)]
theorem lw_r5 : ∀ q ∈ lw_privs_5, lw_okq q := List.forall_mem_cons.mpr ⟨lw_p64, List.forall_mem_cons.mpr ⟨lw_p65, List.forall_mem_cons.mpr ⟨lw_p66, List.forall_mem_cons.mpr ⟨lw_p67, List.forall_mem_cons.mpr ⟨lw_p68, List.forall_mem_cons.mpr ⟨lw_p69, List.forall_mem_cons.mpr ⟨lw_p70, List.forall_mem_cons.mpr ⟨lw_p71, List.forall_mem_cons.mpr ⟨lw_p72, List.forall_mem_cons.mpr ⟨lw_p73, List.forall_mem_cons.mpr ⟨lw_p74, List.forall_mem_cons.mpr ⟨lw_p75, List.forall_mem_cons.mpr ⟨lw_p76, List.forall_mem_cons.mpr ⟨lw_p77, List.forall_mem_cons.mpr ⟨lw_p78, List.forall_mem_cons.mpr ⟨lw_p79, fun _ h => absurd h List.not_mem_nil⟩⟩⟩⟩⟩⟩⟩⟩⟩⟩⟩⟩⟩⟩⟩⟩
theorem lw_p80 : lw_okq (⟨"SockFairModel", "isPerson", "(I)Z"⟩, 63) := ⟨⟨by decide +kernel, by decide +kernel⟩, List.mem_of_getElem? (i := 1412) (by decide +kernel), List.mem_of_getElem? (i := 1792) (by decide +kernel), List.mem_of_getElem? (i := 1793) (by decide +kernel)⟩
theorem lw_p81 : lw_okq (⟨"SockFairModel", "isWhat", "(II)Z"⟩, 63) := ⟨⟨by decide +kernel, by decide +kernel⟩, List.mem_of_getElem? (i := 1412) (by decide +kernel), List.mem_of_getElem? (i := 1796) (by decide +kernel), List.mem_of_getElem? (i := 1797) (by decide +kernel)⟩
theorem lw_p82 : lw_okq (⟨"SockFairModel", "ratherSet", "(I)I"⟩, 63) := ⟨⟨by decide +kernel, by decide +kernel⟩, List.mem_of_getElem? (i := 1412) (by decide +kernel), List.mem_of_getElem? (i := 1800) (by decide +kernel), List.mem_of_getElem? (i := 1801) (by decide +kernel)⟩
theorem lw_p83 : lw_okq (⟨"SockFairModel", "likingOf", "(II)I"⟩, 63) := ⟨⟨by decide +kernel, by decide +kernel⟩, List.mem_of_getElem? (i := 1412) (by decide +kernel), List.mem_of_getElem? (i := 1804) (by decide +kernel), List.mem_of_getElem? (i := 1805) (by decide +kernel)⟩
theorem lw_p84 : lw_okq (⟨"SockFairModel", "refuses", "(I)I"⟩, 63) := ⟨⟨by decide +kernel, by decide +kernel⟩, List.mem_of_getElem? (i := 1412) (by decide +kernel), List.mem_of_getElem? (i := 1820) (by decide +kernel), List.mem_of_getElem? (i := 1821) (by decide +kernel)⟩
theorem lw_p85 : lw_okq (⟨"SockFairModel", "keeps", "()V"⟩, 63) := ⟨⟨by decide +kernel, by decide +kernel⟩, List.mem_of_getElem? (i := 1412) (by decide +kernel), List.mem_of_getElem? (i := 1824) (by decide +kernel), List.mem_of_getElem? (i := 1825) (by decide +kernel)⟩
theorem lw_p86 : lw_okq (⟨"SockFairModel", "holds", "(I)I"⟩, 63) := ⟨⟨by decide +kernel, by decide +kernel⟩, List.mem_of_getElem? (i := 1412) (by decide +kernel), List.mem_of_getElem? (i := 1828) (by decide +kernel), List.mem_of_getElem? (i := 1829) (by decide +kernel)⟩
theorem lw_p87 : lw_okq (⟨"SockFairModel", "bindsAll", "(I)V"⟩, 63) := ⟨⟨by decide +kernel, by decide +kernel⟩, List.mem_of_getElem? (i := 1412) (by decide +kernel), List.mem_of_getElem? (i := 1832) (by decide +kernel), List.mem_of_getElem? (i := 1833) (by decide +kernel)⟩
theorem lw_p88 : lw_okq (⟨"SockFairModel", "bindsMost", "(I)Z"⟩, 63) := ⟨⟨by decide +kernel, by decide +kernel⟩, List.mem_of_getElem? (i := 1412) (by decide +kernel), List.mem_of_getElem? (i := 1836) (by decide +kernel), List.mem_of_getElem? (i := 1837) (by decide +kernel)⟩
theorem lw_p89 : lw_okq (⟨"SockFairModel", "binds", "(III)V"⟩, 63) := ⟨⟨by decide +kernel, by decide +kernel⟩, List.mem_of_getElem? (i := 1412) (by decide +kernel), List.mem_of_getElem? (i := 1840) (by decide +kernel), List.mem_of_getElem? (i := 1841) (by decide +kernel)⟩
theorem lw_p90 : lw_okq (⟨"SockFairModel", "wears", "(I)I"⟩, 63) := ⟨⟨by decide +kernel, by decide +kernel⟩, List.mem_of_getElem? (i := 1412) (by decide +kernel), List.mem_of_getElem? (i := 1844) (by decide +kernel), List.mem_of_getElem? (i := 1845) (by decide +kernel)⟩
theorem lw_p91 : lw_okq (⟨"SockFairModel", "unbinds", "(II)V"⟩, 63) := ⟨⟨by decide +kernel, by decide +kernel⟩, List.mem_of_getElem? (i := 1412) (by decide +kernel), List.mem_of_getElem? (i := 1848) (by decide +kernel), List.mem_of_getElem? (i := 1849) (by decide +kernel)⟩
theorem lw_p92 : lw_okq (⟨"SockFairModel", "isFairs", "(II)Z"⟩, 63) := ⟨⟨by decide +kernel, by decide +kernel⟩, List.mem_of_getElem? (i := 1412) (by decide +kernel), List.mem_of_getElem? (i := 1872) (by decide +kernel), List.mem_of_getElem? (i := 1873) (by decide +kernel)⟩
theorem lw_p93 : lw_okq (⟨"SockFairModel", "holdsMany", "(I)V"⟩, 63) := ⟨⟨by decide +kernel, by decide +kernel⟩, List.mem_of_getElem? (i := 1412) (by decide +kernel), List.mem_of_getElem? (i := 1876) (by decide +kernel), List.mem_of_getElem? (i := 1877) (by decide +kernel)⟩
theorem lw_p94 : lw_okq (⟨"SockFairModel", "tries", "()V"⟩, 63) := ⟨⟨by decide +kernel, by decide +kernel⟩, List.mem_of_getElem? (i := 1412) (by decide +kernel), List.mem_of_getElem? (i := 1880) (by decide +kernel), List.mem_of_getElem? (i := 1881) (by decide +kernel)⟩
theorem lw_p95 : lw_okq (⟨"SockFairModel", "isTempted", "(I)Z"⟩, 63) := ⟨⟨by decide +kernel, by decide +kernel⟩, List.mem_of_getElem? (i := 1412) (by decide +kernel), List.mem_of_getElem? (i := 1912) (by decide +kernel), List.mem_of_getElem? (i := 1913) (by decide +kernel)⟩
def lw_privs_6 : List (MethodName × Nat) := [(⟨"SockFairModel", "isPerson", "(I)Z"⟩, 63), (⟨"SockFairModel", "isWhat", "(II)Z"⟩, 63), (⟨"SockFairModel", "ratherSet", "(I)I"⟩, 63), (⟨"SockFairModel", "likingOf", "(II)I"⟩, 63), (⟨"SockFairModel", "refuses", "(I)I"⟩, 63), (⟨"SockFairModel", "keeps", "()V"⟩, 63), (⟨"SockFairModel", "holds", "(I)I"⟩, 63), (⟨"SockFairModel", "bindsAll", "(I)V"⟩, 63), (⟨"SockFairModel", "bindsMost", "(I)Z"⟩, 63), (⟨"SockFairModel", "binds", "(III)V"⟩, 63), (⟨"SockFairModel", "wears", "(I)I"⟩, 63), (⟨"SockFairModel", "unbinds", "(II)V"⟩, 63), (⟨"SockFairModel", "isFairs", "(II)Z"⟩, 63), (⟨"SockFairModel", "holdsMany", "(I)V"⟩, 63), (⟨"SockFairModel", "tries", "()V"⟩, 63), (⟨"SockFairModel", "isTempted", "(I)Z"⟩, 63)]
theorem lw_r6 : ∀ q ∈ lw_privs_6, lw_okq q := List.forall_mem_cons.mpr ⟨lw_p80, List.forall_mem_cons.mpr ⟨lw_p81, List.forall_mem_cons.mpr ⟨lw_p82, List.forall_mem_cons.mpr ⟨lw_p83, List.forall_mem_cons.mpr ⟨lw_p84, List.forall_mem_cons.mpr ⟨lw_p85, List.forall_mem_cons.mpr ⟨lw_p86, List.forall_mem_cons.mpr ⟨lw_p87, List.forall_mem_cons.mpr ⟨lw_p88, List.forall_mem_cons.mpr ⟨lw_p89, List.forall_mem_cons.mpr ⟨lw_p90, List.forall_mem_cons.mpr ⟨lw_p91, List.forall_mem_cons.mpr ⟨lw_p92, List.forall_mem_cons.mpr ⟨lw_p93, List.forall_mem_cons.mpr ⟨lw_p94, List.forall_mem_cons.mpr ⟨lw_p95, fun _ h => absurd h List.not_mem_nil⟩⟩⟩⟩⟩⟩⟩⟩⟩⟩⟩⟩⟩⟩⟩⟩
theorem lw_p96 : lw_okq (⟨"SockFairModel", "laysAlike", "(I)I"⟩, 63) := ⟨⟨by decide +kernel, by decide +kernel⟩, List.mem_of_getElem? (i := 1412) (by decide +kernel), List.mem_of_getElem? (i := 1928) (by decide +kernel), List.mem_of_getElem? (i := 1929) (by decide +kernel)⟩
theorem lw_p97 : lw_okq (⟨"SockFairModel", "laysSet", "(I)V"⟩, 63) := ⟨⟨by decide +kernel, by decide +kernel⟩, List.mem_of_getElem? (i := 1412) (by decide +kernel), List.mem_of_getElem? (i := 1932) (by decide +kernel), List.mem_of_getElem? (i := 1933) (by decide +kernel)⟩
theorem lw_p98 : lw_okq (⟨"SockFairModel", "withWhom", "(I)I"⟩, 63) := ⟨⟨by decide +kernel, by decide +kernel⟩, List.mem_of_getElem? (i := 1412) (by decide +kernel), List.mem_of_getElem? (i := 1939) (by decide +kernel), List.mem_of_getElem? (i := 1940) (by decide +kernel)⟩
theorem lw_p99 : lw_okq (⟨"SockFairModel", "laysRests", "()V"⟩, 63) := ⟨⟨by decide +kernel, by decide +kernel⟩, List.mem_of_getElem? (i := 1412) (by decide +kernel), List.mem_of_getElem? (i := 1955) (by decide +kernel), List.mem_of_getElem? (i := 1956) (by decide +kernel)⟩
theorem lw_p100 : lw_okq (⟨"SockFairModel", "goesThrough", "(I)V"⟩, 63) := ⟨⟨by decide +kernel, by decide +kernel⟩, List.mem_of_getElem? (i := 1412) (by decide +kernel), List.mem_of_getElem? (i := 1959) (by decide +kernel), List.mem_of_getElem? (i := 1960) (by decide +kernel)⟩
theorem lw_p101 : lw_okq (⟨"SockFairModel", "isAtRest", "(I)Z"⟩, 63) := ⟨⟨by decide +kernel, by decide +kernel⟩, List.mem_of_getElem? (i := 1412) (by decide +kernel), List.mem_of_getElem? (i := 1963) (by decide +kernel), List.mem_of_getElem? (i := 1964) (by decide +kernel)⟩
theorem lw_p102 : lw_okq (⟨"SockFairModel", "wouldLeave", "(II)Z"⟩, 63) := ⟨⟨by decide +kernel, by decide +kernel⟩, List.mem_of_getElem? (i := 1412) (by decide +kernel), List.mem_of_getElem? (i := 1967) (by decide +kernel), List.mem_of_getElem? (i := 1968) (by decide +kernel)⟩
theorem lw_p103 : lw_okq (⟨"SockFairModel", "takesRest", "()V"⟩, 63) := ⟨⟨by decide +kernel, by decide +kernel⟩, List.mem_of_getElem? (i := 1412) (by decide +kernel), List.mem_of_getElem? (i := 1971) (by decide +kernel), List.mem_of_getElem? (i := 1972) (by decide +kernel)⟩
theorem lw_p104 : lw_okq (⟨"SockFairModel", "nextWith", "(III)I"⟩, 63) := ⟨⟨by decide +kernel, by decide +kernel⟩, List.mem_of_getElem? (i := 1412) (by decide +kernel), List.mem_of_getElem? (i := 1975) (by decide +kernel), List.mem_of_getElem? (i := 1976) (by decide +kernel)⟩
theorem lw_p105 : lw_okq (⟨"SockFairModel", "costs", "(II)I"⟩, 63) := ⟨⟨by decide +kernel, by decide +kernel⟩, List.mem_of_getElem? (i := 1412) (by decide +kernel), List.mem_of_getElem? (i := 1987) (by decide +kernel), List.mem_of_getElem? (i := 1988) (by decide +kernel)⟩
theorem lw_p106 : lw_okq (⟨"SockFairModel", "isKnitFor", "(I)Z"⟩, 63) := ⟨⟨by decide +kernel, by decide +kernel⟩, List.mem_of_getElem? (i := 1412) (by decide +kernel), List.mem_of_getElem? (i := 1995) (by decide +kernel), List.mem_of_getElem? (i := 1996) (by decide +kernel)⟩
theorem lw_p107 : lw_okq (⟨"SockFairModel", "isSeen", "()Z"⟩, 63) := ⟨⟨by decide +kernel, by decide +kernel⟩, List.mem_of_getElem? (i := 1412) (by decide +kernel), List.mem_of_getElem? (i := 2011) (by decide +kernel), List.mem_of_getElem? (i := 2012) (by decide +kernel)⟩
theorem lw_p108 : lw_okq (⟨"SockFairModel", "isGuess", "(I)Z"⟩, 63) := ⟨⟨by decide +kernel, by decide +kernel⟩, List.mem_of_getElem? (i := 1412) (by decide +kernel), List.mem_of_getElem? (i := 2016) (by decide +kernel), List.mem_of_getElem? (i := 2017) (by decide +kernel)⟩
theorem lw_p109 : lw_okq (⟨"SockFairModel", "gains", "(IIII)I"⟩, 63) := ⟨⟨by decide +kernel, by decide +kernel⟩, List.mem_of_getElem? (i := 1412) (by decide +kernel), List.mem_of_getElem? (i := 2038) (by decide +kernel), List.mem_of_getElem? (i := 2039) (by decide +kernel)⟩
theorem lw_p110 : lw_okq (⟨"SockFairModel", "reached", "(II)I"⟩, 63) := ⟨⟨by decide +kernel, by decide +kernel⟩, List.mem_of_getElem? (i := 1412) (by decide +kernel), List.mem_of_getElem? (i := 2050) (by decide +kernel), List.mem_of_getElem? (i := 2051) (by decide +kernel)⟩
theorem lw_p111 : lw_okq (⟨"SockFairModel", "happens", "()V"⟩, 63) := ⟨⟨by decide +kernel, by decide +kernel⟩, List.mem_of_getElem? (i := 1412) (by decide +kernel), List.mem_of_getElem? (i := 2062) (by decide +kernel), List.mem_of_getElem? (i := 2063) (by decide +kernel)⟩
def lw_privs_7 : List (MethodName × Nat) := [(⟨"SockFairModel", "laysAlike", "(I)I"⟩, 63), (⟨"SockFairModel", "laysSet", "(I)V"⟩, 63), (⟨"SockFairModel", "withWhom", "(I)I"⟩, 63), (⟨"SockFairModel", "laysRests", "()V"⟩, 63), (⟨"SockFairModel", "goesThrough", "(I)V"⟩, 63), (⟨"SockFairModel", "isAtRest", "(I)Z"⟩, 63), (⟨"SockFairModel", "wouldLeave", "(II)Z"⟩, 63), (⟨"SockFairModel", "takesRest", "()V"⟩, 63), (⟨"SockFairModel", "nextWith", "(III)I"⟩, 63), (⟨"SockFairModel", "costs", "(II)I"⟩, 63), (⟨"SockFairModel", "isKnitFor", "(I)Z"⟩, 63), (⟨"SockFairModel", "isSeen", "()Z"⟩, 63), (⟨"SockFairModel", "isGuess", "(I)Z"⟩, 63), (⟨"SockFairModel", "gains", "(IIII)I"⟩, 63), (⟨"SockFairModel", "reached", "(II)I"⟩, 63), (⟨"SockFairModel", "happens", "()V"⟩, 63)]
theorem lw_r7 : ∀ q ∈ lw_privs_7, lw_okq q := List.forall_mem_cons.mpr ⟨lw_p96, List.forall_mem_cons.mpr ⟨lw_p97, List.forall_mem_cons.mpr ⟨lw_p98, List.forall_mem_cons.mpr ⟨lw_p99, List.forall_mem_cons.mpr ⟨lw_p100, List.forall_mem_cons.mpr ⟨lw_p101, List.forall_mem_cons.mpr ⟨lw_p102, List.forall_mem_cons.mpr ⟨lw_p103, List.forall_mem_cons.mpr ⟨lw_p104, List.forall_mem_cons.mpr ⟨lw_p105, List.forall_mem_cons.mpr ⟨lw_p106, List.forall_mem_cons.mpr ⟨lw_p107, List.forall_mem_cons.mpr ⟨lw_p108, List.forall_mem_cons.mpr ⟨lw_p109, List.forall_mem_cons.mpr ⟨lw_p110, List.forall_mem_cons.mpr ⟨lw_p111, fun _ h => absurd h List.not_mem_nil⟩⟩⟩⟩⟩⟩⟩⟩⟩⟩⟩⟩⟩⟩⟩⟩
theorem lw_p112 : lw_okq (⟨"SockFairModel", "draw", "(I)I"⟩, 63) := ⟨⟨by decide +kernel, by decide +kernel⟩, List.mem_of_getElem? (i := 1412) (by decide +kernel), List.mem_of_getElem? (i := 2066) (by decide +kernel), List.mem_of_getElem? (i := 2067) (by decide +kernel)⟩
def lw_privs_8 : List (MethodName × Nat) := [(⟨"SockFairModel", "draw", "(I)I"⟩, 63)]
theorem lw_r8 : ∀ q ∈ lw_privs_8, lw_okq q := List.forall_mem_cons.mpr ⟨lw_p112, fun _ h => absurd h List.not_mem_nil⟩
def lw_privs : List (MethodName × Nat) := lw_privs_1 ++ (lw_privs_2 ++ (lw_privs_3 ++ (lw_privs_4 ++ (lw_privs_5 ++ (lw_privs_6 ++ (lw_privs_7 ++ (lw_privs_8)))))))
def lw_tbl : List Cond := k2_sels lw_privs ++ tables_1
theorem lw_privs_ok : ∀ q ∈ lw_privs, lw_okq q := by
  show ∀ q ∈ lw_privs_1 ++ (lw_privs_2 ++ (lw_privs_3 ++ (lw_privs_4 ++ (lw_privs_5 ++ (lw_privs_6 ++ (lw_privs_7 ++ (lw_privs_8))))))), lw_okq q
  exact List.forall_mem_append.mpr ⟨lw_r1, List.forall_mem_append.mpr ⟨lw_r2, List.forall_mem_append.mpr ⟨lw_r3, List.forall_mem_append.mpr ⟨lw_r4, List.forall_mem_append.mpr ⟨lw_r5, List.forall_mem_append.mpr ⟨lw_r6, List.forall_mem_append.mpr ⟨lw_r7, lw_r8⟩⟩⟩⟩⟩⟩⟩
end
section
def RX0 : String := "SockFair$Ages"
def TX0 : u_T := fun k => match k with
  | 0 => ("SockFair$Ages", "socks", "LSockFair$Socks;", true)
  | 1 => ("SockFair$Ages", "parted", "I", false)
  | 2 => ("SockFair$Ages", "told", "LSockFair$Told;", true)
  | 3 => ("SockFair$Ages", "given", "[I", true)
  | _ => ("SockFair$Ages", "seed", "I", false)
def tyX0 : Nat → FieldType := fun k => match k with
  | 0 => .object "SockFair$Socks"
  | 1 => .int
  | 2 => .object "SockFair$Told"
  | 3 => .array .int
  | _ => .int
abbrev wsX00 : List Cond := u_ws RX0 TX0 5
theorem nmX0 : ∀ a, a < 5 → ∀ b, b < 5 → a ≠ b → (TX0 a).2.1 ≠ (TX0 b).2.1 := by decide +kernel
theorem tyX0_ok : ∀ k, k < 5 → parseFieldDescriptor (TX0 k).2.2.1 = some (tyX0 k) := by decide +kernel
abbrev cX0_init : ByteArray := prog_2_method_1_code
def yX0_init : MethodName := ⟨RX0, "<init>", "(LSockFair$Told;)V"⟩
abbrev cX0_run : ByteArray := prog_2_method_2_code
def yX0_run : MethodName := ⟨RX0, "run", "(IILSockFair$Socks;)V"⟩
abbrev cX0_draw : ByteArray := prog_2_method_3_code
def yX0_draw : MethodName := ⟨RX0, "draw", "(I)I"⟩
abbrev cX0_befall : ByteArray := prog_2_method_4_code
def yX0_befall : MethodName := ⟨RX0, "befall", "(II)V"⟩
abbrev cX0_holdOne : ByteArray := prog_2_method_5_code
def yX0_holdOne : MethodName := ⟨RX0, "holdOne", "()V"⟩
abbrev cX0_fillFree : ByteArray := prog_2_method_6_code
def yX0_fillFree : MethodName := ⟨RX0, "fillFree", "()V"⟩
abbrev cX0_boundPeople : ByteArray := prog_2_method_7_code
def yX0_boundPeople : MethodName := ⟨RX0, "boundPeople", "()I"⟩
def RX1 : String := "SockFair$Book"
def TX1 : u_T := fun k => match k with
  | 0 => ("SockFair$Book", "socks", "LSockFair$Socks;", true)
  | 1 => ("SockFair$Book", "acts", "I", false)
  | 2 => ("SockFair$Book", "seen", "I", false)
  | 3 => ("SockFair$Book", "firstAct", "I", false)
  | 4 => ("SockFair$Book", "actRows", "[I", true)
  | 5 => ("SockFair$Book", "seenPeople", "[I", true)
  | 6 => ("SockFair$Book", "seenFairs", "[I", true)
  | _ => ("SockFair$Book", "seenOthers", "[I", true)
def tyX1 : Nat → FieldType := fun k => match k with
  | 0 => .object "SockFair$Socks"
  | 1 => .int
  | 2 => .int
  | 3 => .int
  | 4 => .array .int
  | 5 => .array .int
  | 6 => .array .int
  | _ => .array .int
abbrev wsX10 : List Cond := u_ws RX1 TX1 8
theorem nmX1 : ∀ a, a < 8 → ∀ b, b < 8 → a ≠ b → (TX1 a).2.1 ≠ (TX1 b).2.1 := by decide +kernel
theorem tyX1_ok : ∀ k, k < 8 → parseFieldDescriptor (TX1 k).2.2.1 = some (tyX1 k) := by decide +kernel
abbrev cX1_init : ByteArray := prog_3_method_1_code
def yX1_init : MethodName := ⟨RX1, "<init>", "()V"⟩
abbrev cX1_startAnew : ByteArray := prog_3_method_2_code
def yX1_startAnew : MethodName := ⟨RX1, "startAnew", "(LSockFair$Told;)V"⟩
abbrev cX1_copyFrom : ByteArray := prog_3_method_3_code
def yX1_copyFrom : MethodName := ⟨RX1, "copyFrom", "(LSockFair$Book;)V"⟩
abbrev cX1_keepAct : ByteArray := prog_3_method_4_code
def yX1_keepAct : MethodName := ⟨RX1, "keepAct", "()V"⟩
abbrev cX1_undoAct : ByteArray := prog_3_method_5_code
def yX1_undoAct : MethodName := ⟨RX1, "undoAct", "()Z"⟩
abbrev cX1_addSeen : ByteArray := prog_3_method_6_code
def yX1_addSeen : MethodName := ⟨RX1, "addSeen", "(III)Z"⟩
abbrev cX1_isAsSeen : ByteArray := prog_3_method_7_code
def yX1_isAsSeen : MethodName := ⟨RX1, "isAsSeen", "(LSockFair$Course;)Z"⟩
def RX2 : String := "SockFair$Course"
def TX2 : u_T := fun k => match k with
  | 0 => ("SockFair$Course", "outlook", "LSockFair$Outlook;", true)
  | 1 => ("SockFair$Course", "told", "LSockFair$Told;", true)
  | 2 => ("SockFair$Course", "socks", "LSockFair$Socks;", true)
  | 3 => ("SockFair$Course", "mates", "[I", true)
  | _ => ("SockFair$Course", "walked", "I", false)
def tyX2 : Nat → FieldType := fun k => match k with
  | 0 => .object "SockFair$Outlook"
  | 1 => .object "SockFair$Told"
  | 2 => .object "SockFair$Socks"
  | 3 => .array .int
  | _ => .int
abbrev wsX20 : List Cond := u_ws RX2 TX2 5
theorem nmX2 : ∀ a, a < 5 → ∀ b, b < 5 → a ≠ b → (TX2 a).2.1 ≠ (TX2 b).2.1 := by decide +kernel
theorem tyX2_ok : ∀ k, k < 5 → parseFieldDescriptor (TX2 k).2.2.1 = some (tyX2 k) := by decide +kernel
abbrev cX2_init : ByteArray := prog_4_method_1_code
def yX2_init : MethodName := ⟨RX2, "<init>", "(LSockFair$Outlook;)V"⟩
abbrev cX2_restart : ByteArray := prog_4_method_2_code
def yX2_restart : MethodName := ⟨RX2, "restart", "()V"⟩
abbrev cX2_mateBehind : ByteArray := prog_4_method_3_code
def yX2_mateBehind : MethodName := ⟨RX2, "mateBehind", "(II)I"⟩
abbrev cX2_singleBehind : ByteArray := prog_4_method_4_code
def yX2_singleBehind : MethodName := ⟨RX2, "singleBehind", "(I)I"⟩
abbrev cX2_couplesBehind : ByteArray := prog_4_method_5_code
def yX2_couplesBehind : MethodName := ⟨RX2, "couplesBehind", "(I)I"⟩
abbrev cX2_rowBehind : ByteArray := prog_4_method_6_code
def yX2_rowBehind : MethodName := ⟨RX2, "rowBehind", "(I)J"⟩
abbrev cX2_mateAtNextFair : ByteArray := prog_4_method_7_code
def yX2_mateAtNextFair : MethodName := ⟨RX2, "mateAtNextFair", "(I)I"⟩
abbrev cX2_walk : ByteArray := prog_4_method_8_code
def yX2_walk : MethodName := ⟨RX2, "walk", "(I)V"⟩
abbrev cX2_bindAt : ByteArray := prog_4_method_9_code
def yX2_bindAt : MethodName := ⟨RX2, "bindAt", "(I)V"⟩
abbrev cX2_wornBehind : ByteArray := prog_4_method_10_code
def yX2_wornBehind : MethodName := ⟨RX2, "wornBehind", "(I)I"⟩
def RX3 : String := "SockFair$Dyes"
def TX3 : u_T := fun k => match k with
  | 0 => ("SockFair$Dyes", "known", "Z", false)
  | 1 => ("SockFair$Dyes", "many", "I", false)
  | 2 => ("SockFair$Dyes", "first", "I", false)
  | 3 => ("SockFair$Dyes", "trial", "LSockFair$Course;", true)
  | 4 => ("SockFair$Dyes", "outlook", "LSockFair$Outlook;", true)
  | 5 => ("SockFair$Dyes", "book", "LSockFair$Book;", true)
  | 6 => ("SockFair$Dyes", "unlike", "[I", true)
  | _ => ("SockFair$Dyes", "rows", "[J", true)
def tyX3 : Nat → FieldType := fun k => match k with
  | 0 => .boolean
  | 1 => .int
  | 2 => .int
  | 3 => .object "SockFair$Course"
  | 4 => .object "SockFair$Outlook"
  | 5 => .object "SockFair$Book"
  | 6 => .array .int
  | _ => .array .long
abbrev wsX30 : List Cond := u_ws RX3 TX3 8
theorem nmX3 : ∀ a, a < 8 → ∀ b, b < 8 → a ≠ b → (TX3 a).2.1 ≠ (TX3 b).2.1 := by decide +kernel
theorem tyX3_ok : ∀ k, k < 8 → parseFieldDescriptor (TX3 k).2.2.1 = some (tyX3 k) := by decide +kernel
abbrev cX3_init : ByteArray := prog_5_method_1_code
def yX3_init : MethodName := ⟨RX3, "<init>", "(LSockFair$Course;LSockFair$Book;[J)V"⟩
abbrev cX3_find : ByteArray := prog_5_method_2_code
def yX3_find : MethodName := ⟨RX3, "find", "()V"⟩
abbrev cX3_tryColours : ByteArray := prog_5_method_3_code
def yX3_tryColours : MethodName := ⟨RX3, "tryColours", "(I)V"⟩
abbrev cX3_note : ByteArray := prog_5_method_4_code
def yX3_note : MethodName := ⟨RX3, "note", "(I)V"⟩
abbrev cX3_noteRow : ByteArray := prog_5_method_5_code
def yX3_noteRow : MethodName := ⟨RX3, "noteRow", "(IJ)V"⟩
abbrev cX3_tellingFair : ByteArray := prog_5_method_6_code
def yX3_tellingFair : MethodName := ⟨RX3, "tellingFair", "()I"⟩
abbrev cX3_unlikeBehind : ByteArray := prog_5_method_7_code
def yX3_unlikeBehind : MethodName := ⟨RX3, "unlikeBehind", "(I)I"⟩
def RX4 : String := "SockFair$Outlook"
def TX4 : u_T := fun k => match k with
  | 0 => ("SockFair$Outlook", "told", "LSockFair$Told;", true)
  | 1 => ("SockFair$Outlook", "socks", "LSockFair$Socks;", true)
  | 2 => ("SockFair$Outlook", "given", "[I", true)
  | 3 => ("SockFair$Outlook", "oneColour", "[I", true)
  | _ => ("SockFair$Outlook", "reached", "I", false)
def tyX4 : Nat → FieldType := fun k => match k with
  | 0 => .object "SockFair$Told"
  | 1 => .object "SockFair$Socks"
  | 2 => .array .int
  | 3 => .array .int
  | _ => .int
abbrev wsX40 : List Cond := u_ws RX4 TX4 5
theorem nmX4 : ∀ a, a < 5 → ∀ b, b < 5 → a ≠ b → (TX4 a).2.1 ≠ (TX4 b).2.1 := by decide +kernel
theorem tyX4_ok : ∀ k, k < 5 → parseFieldDescriptor (TX4 k).2.2.1 = some (tyX4 k) := by decide +kernel
abbrev cX4_init : ByteArray := prog_6_method_1_code
def yX4_init : MethodName := ⟨RX4, "<init>", "(LSockFair$Told;LSockFair$Socks;)V"⟩
abbrev cX4_reach : ByteArray := prog_6_method_2_code
def yX4_reach : MethodName := ⟨RX4, "reach", "(I)V"⟩
abbrev cX4_figureAgain : ByteArray := prog_6_method_3_code
def yX4_figureAgain : MethodName := ⟨RX4, "figureAgain", "(II)V"⟩
abbrev cX4_figureCouple : ByteArray := prog_6_method_4_code
def yX4_figureCouple : MethodName := ⟨RX4, "figureCouple", "(III)V"⟩
abbrev cX4_fillOneColour : ByteArray := prog_6_method_5_code
def yX4_fillOneColour : MethodName := ⟨RX4, "fillOneColour", "()V"⟩
def RX5 : String := "SockFair$Reader"
def TX5 : u_T := fun k => match k with
  | 0 => ("SockFair$Reader", "place", "I", false)
  | 1 => ("SockFair$Reader", "text", "[B", true)
  | 2 => ("SockFair$Reader", "told", "LSockFair$Told;", false)
  | 3 => ("SockFair$Reader", "length", "I", false)
  | 4 => ("SockFair$Reader", "at", "I", false)
  | 5 => ("SockFair$Reader", "begin", "I", false)
  | 6 => ("SockFair$Reader", "kind", "I", false)
  | 7 => ("SockFair$Reader", "number", "I", false)
  | 8 => ("SockFair$Reader", "digits", "I", false)
  | 9 => ("SockFair$Reader", "code", "I", false)
  | _ => ("SockFair$Reader", "valuesHere", "I", false)
def tyX5 : Nat → FieldType := fun k => match k with
  | 0 => .int
  | 1 => .array .byte
  | 2 => .object "SockFair$Told"
  | 3 => .int
  | 4 => .int
  | 5 => .int
  | 6 => .int
  | 7 => .int
  | 8 => .int
  | 9 => .int
  | _ => .int
abbrev wsX50 : List Cond := u_ws RX5 TX5 11
theorem nmX5 : ∀ a, a < 11 → ∀ b, b < 11 → a ≠ b → (TX5 a).2.1 ≠ (TX5 b).2.1 := by decide +kernel
theorem tyX5_ok : ∀ k, k < 11 → parseFieldDescriptor (TX5 k).2.2.1 = some (tyX5 k) := by decide +kernel
abbrev cX5_init : ByteArray := prog_7_method_1_code
def yX5_init : MethodName := ⟨RX5, "<init>", "([BLSockFair$Told;)V"⟩
abbrev cX5_read : ByteArray := prog_7_method_2_code
def yX5_read : MethodName := ⟨RX5, "read", "(ILSockFair$Told;)I"⟩
abbrev cX5_refuse : ByteArray := prog_7_method_3_code
def yX5_refuse : MethodName := ⟨RX5, "refuse", "(I)V"⟩
abbrev cX5_step : ByteArray := prog_7_method_4_code
def yX5_step : MethodName := ⟨RX5, "step", "()V"⟩
abbrev cX5_stepWord : ByteArray := prog_7_method_5_code
def yX5_stepWord : MethodName := ⟨RX5, "stepWord", "()V"⟩
abbrev cX5_stepNumber : ByteArray := prog_7_method_6_code
def yX5_stepNumber : MethodName := ⟨RX5, "stepNumber", "()V"⟩
abbrev cX5_isAnyWord : ByteArray := prog_7_method_7_code
def yX5_isAnyWord : MethodName := ⟨RX5, "isAnyWord", "()Z"⟩
abbrev cX5_stepOver : ByteArray := prog_7_method_8_code
def yX5_stepOver : MethodName := ⟨RX5, "stepOver", "(I)V"⟩
abbrev cX5_readSock : ByteArray := prog_7_method_9_code
def yX5_readSock : MethodName := ⟨RX5, "readSock", "()V"⟩
abbrev cX5_readNumber : ByteArray := prog_7_method_10_code
def yX5_readNumber : MethodName := ⟨RX5, "readNumber", "(II)I"⟩
abbrev cX5_readCouple : ByteArray := prog_7_method_11_code
def yX5_readCouple : MethodName := ⟨RX5, "readCouple", "()V"⟩
abbrev cX5_readUnbound : ByteArray := prog_7_method_12_code
def yX5_readUnbound : MethodName := ⟨RX5, "readUnbound", "(I)I"⟩
abbrev cX5_readRule : ByteArray := prog_7_method_13_code
def yX5_readRule : MethodName := ⟨RX5, "readRule", "()V"⟩
abbrev cX5_readLevel : ByteArray := prog_7_method_14_code
def yX5_readLevel : MethodName := ⟨RX5, "readLevel", "(II)V"⟩
abbrev cX5_readNots : ByteArray := prog_7_method_15_code
def yX5_readNots : MethodName := ⟨RX5, "readNots", "()I"⟩
abbrev cX5_joinHere : ByteArray := prog_7_method_16_code
def yX5_joinHere : MethodName := ⟨RX5, "joinHere", "(I)I"⟩
abbrev cX5_readPart : ByteArray := prog_7_method_17_code
def yX5_readPart : MethodName := ⟨RX5, "readPart", "(I)V"⟩
abbrev cX5_readWithin : ByteArray := prog_7_method_18_code
def yX5_readWithin : MethodName := ⟨RX5, "readWithin", "(I)V"⟩
def RX6 : String := "SockFair$Rules"
def TX6 : u_T := fun k => match k with
  | 0 => ("SockFair$Rules", "values", "[I", true)
  | 1 => ("SockFair$Rules", "size", "I", false)
  | 2 => ("SockFair$Rules", "alikeFrom", "I", false)
  | 3 => ("SockFair$Rules", "alikeTo", "I", false)
  | 4 => ("SockFair$Rules", "likesFrom", "I", false)
  | 5 => ("SockFair$Rules", "likesTo", "I", false)
  | 6 => ("SockFair$Rules", "alikeValues", "I", false)
  | 7 => ("SockFair$Rules", "steps", "[I", true)
  | _ => ("SockFair$Rules", "pile", "[I", true)
def tyX6 : Nat → FieldType := fun k => match k with
  | 0 => .array .int
  | 1 => .int
  | 2 => .int
  | 3 => .int
  | 4 => .int
  | 5 => .int
  | 6 => .int
  | 7 => .array .int
  | _ => .array .int
abbrev wsX60 : List Cond := u_ws RX6 TX6 9
theorem nmX6 : ∀ a, a < 9 → ∀ b, b < 9 → a ≠ b → (TX6 a).2.1 ≠ (TX6 b).2.1 := by decide +kernel
theorem tyX6_ok : ∀ k, k < 9 → parseFieldDescriptor (TX6 k).2.2.1 = some (tyX6 k) := by decide +kernel
abbrev cX6_init : ByteArray := prog_8_method_1_code
def yX6_init : MethodName := ⟨RX6, "<init>", "(I)V"⟩
abbrev cX6_clear : ByteArray := prog_8_method_2_code
def yX6_clear : MethodName := ⟨RX6, "clear", "()V"⟩
abbrev cX6_hasAlike : ByteArray := prog_8_method_3_code
def yX6_hasAlike : MethodName := ⟨RX6, "hasAlike", "()Z"⟩
abbrev cX6_hasLikes : ByteArray := prog_8_method_4_code
def yX6_hasLikes : MethodName := ⟨RX6, "hasLikes", "()Z"⟩
abbrev cX6_endAlike : ByteArray := prog_8_method_5_code
def yX6_endAlike : MethodName := ⟨RX6, "endAlike", "(I)V"⟩
abbrev cX6_endLikes : ByteArray := prog_8_method_6_code
def yX6_endLikes : MethodName := ⟨RX6, "endLikes", "(I)V"⟩
abbrev cX6_alikeLooksAt : ByteArray := prog_8_method_7_code
def yX6_alikeLooksAt : MethodName := ⟨RX6, "alikeLooksAt", "(I)Z"⟩
abbrev cX6_addStep : ByteArray := prog_8_method_8_code
def yX6_addStep : MethodName := ⟨RX6, "addStep", "(II)V"⟩
abbrev cX6_figure : ByteArray := prog_8_method_9_code
def yX6_figure : MethodName := ⟨RX6, "figure", "(II)I"⟩
def RX7 : String := "SockFair$Socks"
def TX7 : u_T := fun k => match k with
  | 0 => ("SockFair$Socks", "year", "I", false)
  | 1 => ("SockFair$Socks", "colours", "[I", true)
  | 2 => ("SockFair$Socks", "holes", "[I", true)
  | _ => ("SockFair$Socks", "mates", "[I", true)
def tyX7 : Nat → FieldType := fun k => match k with
  | 0 => .int
  | 1 => .array .int
  | 2 => .array .int
  | _ => .array .int
abbrev wsX70 : List Cond := u_ws RX7 TX7 4
theorem nmX7 : ∀ a, a < 4 → ∀ b, b < 4 → a ≠ b → (TX7 a).2.1 ≠ (TX7 b).2.1 := by decide +kernel
theorem tyX7_ok : ∀ k, k < 4 → parseFieldDescriptor (TX7 k).2.2.1 = some (tyX7 k) := by decide +kernel
abbrev cX7_init : ByteArray := prog_9_method_1_code
def yX7_init : MethodName := ⟨RX7, "<init>", "()V"⟩
abbrev cX7_clear : ByteArray := prog_9_method_2_code
def yX7_clear : MethodName := ⟨RX7, "clear", "()V"⟩
abbrev cX7_copyFrom : ByteArray := prog_9_method_3_code
def yX7_copyFrom : MethodName := ⟨RX7, "copyFrom", "(LSockFair$Socks;)V"⟩
abbrev cX7_writeTo : ByteArray := prog_9_method_4_code
def yX7_writeTo : MethodName := ⟨RX7, "writeTo", "([II)V"⟩
abbrev cX7_readFrom : ByteArray := prog_9_method_5_code
def yX7_readFrom : MethodName := ⟨RX7, "readFrom", "([II)V"⟩
abbrev cX7_allHoles : ByteArray := prog_9_method_6_code
def yX7_allHoles : MethodName := ⟨RX7, "allHoles", "()I"⟩
def RX8 : String := "SockFair$Ties"
def TX8 : u_T := fun k => match k with
  | 0 => ("SockFair$Ties", "told", "LSockFair$Told;", true)
  | 1 => ("SockFair$Ties", "known", "Z", false)
  | 2 => ("SockFair$Ties", "socks", "LSockFair$Socks;", true)
  | 3 => ("SockFair$Ties", "outlook", "LSockFair$Outlook;", true)
  | 4 => ("SockFair$Ties", "may", "[I", true)
  | 5 => ("SockFair$Ties", "fond", "[I", true)
  | _ => ("SockFair$Ties", "wishes", "[I", true)
def tyX8 : Nat → FieldType := fun k => match k with
  | 0 => .object "SockFair$Told"
  | 1 => .boolean
  | 2 => .object "SockFair$Socks"
  | 3 => .object "SockFair$Outlook"
  | 4 => .array .int
  | 5 => .array .int
  | _ => .array .int
abbrev wsX80 : List Cond := u_ws RX8 TX8 7
theorem nmX8 : ∀ a, a < 7 → ∀ b, b < 7 → a ≠ b → (TX8 a).2.1 ≠ (TX8 b).2.1 := by decide +kernel
theorem tyX8_ok : ∀ k, k < 7 → parseFieldDescriptor (TX8 k).2.2.1 = some (tyX8 k) := by decide +kernel
abbrev cX8_init : ByteArray := prog_10_method_1_code
def yX8_init : MethodName := ⟨RX8, "<init>", "(LSockFair$Outlook;)V"⟩
abbrev cX8_know : ByteArray := prog_10_method_2_code
def yX8_know : MethodName := ⟨RX8, "know", "()V"⟩
abbrev cX8_whoMay : ByteArray := prog_10_method_3_code
def yX8_whoMay : MethodName := ⟨RX8, "whoMay", "(I)I"⟩
abbrev cX8_ratherThan : ByteArray := prog_10_method_4_code
def yX8_ratherThan : MethodName := ⟨RX8, "ratherThan", "(II)I"⟩
abbrev cX8_ratherNow : ByteArray := prog_10_method_5_code
def yX8_ratherNow : MethodName := ⟨RX8, "ratherNow", "(I)I"⟩
abbrev cX8_couplesThatMay : ByteArray := prog_10_method_6_code
def yX8_couplesThatMay : MethodName := ⟨RX8, "couplesThatMay", "()I"⟩
abbrev cX8_whoMayNobody : ByteArray := prog_10_method_7_code
def yX8_whoMayNobody : MethodName := ⟨RX8, "whoMayNobody", "()I"⟩
abbrev cX8_closestCouple : ByteArray := prog_10_method_8_code
def yX8_closestCouple : MethodName := ⟨RX8, "closestCouple", "()I"⟩
abbrev cX8_faithfulCouples : ByteArray := prog_10_method_9_code
def yX8_faithfulCouples : MethodName := ⟨RX8, "faithfulCouples", "()I"⟩
abbrev cX8_isTempted : ByteArray := prog_10_method_10_code
def yX8_isTempted : MethodName := ⟨RX8, "isTempted", "(I)Z"⟩
abbrev cX8_leastRing : ByteArray := prog_10_method_11_code
def yX8_leastRing : MethodName := ⟨RX8, "leastRing", "()I"⟩
abbrev cX8_ringThrough : ByteArray := prog_10_method_12_code
def yX8_ringThrough : MethodName := ⟨RX8, "ringThrough", "(I)I"⟩
abbrev cX8_stepsBetween : ByteArray := prog_10_method_13_code
def yX8_stepsBetween : MethodName := ⟨RX8, "stepsBetween", "(II)I"⟩
abbrev cX8_parts : ByteArray := prog_10_method_14_code
def yX8_parts : MethodName := ⟨RX8, "parts", "()I"⟩
abbrev cX8_partOf : ByteArray := prog_10_method_15_code
def yX8_partOf : MethodName := ⟨RX8, "partOf", "(I)I"⟩
abbrev cX8_allOf : ByteArray := prog_10_method_16_code
def yX8_allOf : MethodName := ⟨RX8, "allOf", "([II)I"⟩
def RX9 : String := "SockFair$Told"
def TX9 : u_T := fun k => match k with
  | 0 => ("SockFair$Told", "people", "I", false)
  | 1 => ("SockFair$Told", "patterns", "[I", true)
  | 2 => ("SockFair$Told", "wools", "[I", true)
  | 3 => ("SockFair$Told", "sizes", "[I", true)
  | 4 => ("SockFair$Told", "charms", "[I", true)
  | 5 => ("SockFair$Told", "start", "LSockFair$Socks;", true)
  | _ => ("SockFair$Told", "rules", "LSockFair$Rules;", true)
def tyX9 : Nat → FieldType := fun k => match k with
  | 0 => .int
  | 1 => .array .int
  | 2 => .array .int
  | 3 => .array .int
  | 4 => .array .int
  | 5 => .object "SockFair$Socks"
  | _ => .object "SockFair$Rules"
abbrev wsX90 : List Cond := u_ws RX9 TX9 7
theorem nmX9 : ∀ a, a < 7 → ∀ b, b < 7 → a ≠ b → (TX9 a).2.1 ≠ (TX9 b).2.1 := by decide +kernel
theorem tyX9_ok : ∀ k, k < 7 → parseFieldDescriptor (TX9 k).2.2.1 = some (tyX9 k) := by decide +kernel
abbrev cX9_init : ByteArray := prog_11_method_1_code
def yX9_init : MethodName := ⟨RX9, "<init>", "(I)V"⟩
abbrev cX9_clear : ByteArray := prog_11_method_2_code
def yX9_clear : MethodName := ⟨RX9, "clear", "()V"⟩
abbrev cX9_likeness : ByteArray := prog_11_method_3_code
def yX9_likeness : MethodName := ⟨RX9, "likeness", "(IIIIII)I"⟩
abbrev cX9_fondness : ByteArray := prog_11_method_4_code
def yX9_fondness : MethodName := ⟨RX9, "fondness", "(IIII)I"⟩
abbrev cX9_knitFor : ByteArray := prog_11_method_5_code
def yX9_knitFor : MethodName := ⟨RX9, "knitFor", "(ILSockFair$Socks;)I"⟩
abbrev cX9_isLikeOneAlone : ByteArray := prog_11_method_6_code
def yX9_isLikeOneAlone : MethodName := ⟨RX9, "isLikeOneAlone", "(IILSockFair$Socks;)Z"⟩
def RX10 : String := "SockFair$Ways"
def TX10 : u_T := fun k => match k with
  | 0 => ("SockFair$Ways", "row", "[I", true)
  | 1 => ("SockFair$Ways", "restsKnown", "Z", false)
  | 2 => ("SockFair$Ways", "rests", "I", false)
  | 3 => ("SockFair$Ways", "firstRest", "[I", true)
  | 4 => ("SockFair$Ways", "restMates", "[I", true)
  | 5 => ("SockFair$Ways", "ties", "LSockFair$Ties;", true)
  | 6 => ("SockFair$Ways", "told", "LSockFair$Told;", true)
  | 7 => ("SockFair$Ways", "sums", "[J", true)
  | _ => ("SockFair$Ways", "wishes", "[I", true)
def tyX10 : Nat → FieldType := fun k => match k with
  | 0 => .array .int
  | 1 => .boolean
  | 2 => .int
  | 3 => .array .int
  | 4 => .array .int
  | 5 => .object "SockFair$Ties"
  | 6 => .object "SockFair$Told"
  | 7 => .array .long
  | _ => .array .int
abbrev wsX100 : List Cond := u_ws RX10 TX10 9
theorem nmX10 : ∀ a, a < 9 → ∀ b, b < 9 → a ≠ b → (TX10 a).2.1 ≠ (TX10 b).2.1 := by decide +kernel
theorem tyX10_ok : ∀ k, k < 9 → parseFieldDescriptor (TX10 k).2.2.1 = some (tyX10 k) := by decide +kernel
abbrev cX10_init : ByteArray := prog_12_method_1_code
def yX10_init : MethodName := ⟨RX10, "<init>", "(LSockFair$Ties;[J)V"⟩
abbrev cX10_fill : ByteArray := prog_12_method_2_code
def yX10_fill : MethodName := ⟨RX10, "fill", "([IZI)J"⟩
abbrev cX10_fillFirstRow : ByteArray := prog_12_method_3_code
def yX10_fillFirstRow : MethodName := ⟨RX10, "fillFirstRow", "([II)V"⟩
abbrev cX10_firstMate : ByteArray := prog_12_method_4_code
def yX10_firstMate : MethodName := ⟨RX10, "firstMate", "([IIIJ)I"⟩
abbrev cX10_clearRow : ByteArray := prog_12_method_5_code
def yX10_clearRow : MethodName := ⟨RX10, "clearRow", "()V"⟩
abbrev cX10_findRests : ByteArray := prog_12_method_6_code
def yX10_findRests : MethodName := ⟨RX10, "findRests", "(I)V"⟩
abbrev cX10_settleFrom : ByteArray := prog_12_method_7_code
def yX10_settleFrom : MethodName := ⟨RX10, "settleFrom", "(III)V"⟩
abbrev cX10_isCalm : ByteArray := prog_12_method_8_code
def yX10_isCalm : MethodName := ⟨RX10, "isCalm", "(III)Z"⟩
abbrev cX10_noteRest : ByteArray := prog_12_method_9_code
def yX10_noteRest : MethodName := ⟨RX10, "noteRest", "()V"⟩
def RX11 : String := "SockFair"
def TX11 : u_T := fun k => match k with
  | 0 => ("SockFair", "tape", "[B", true)
  | 1 => ("SockFair", "taped", "I", false)
  | 2 => ("SockFair", "faultPlace", "I", false)
  | 3 => ("SockFair", "refused", "[I", true)
  | 4 => ("SockFair", "reader", "LSockFair$Reader;", true)
  | 5 => ("SockFair", "told", "LSockFair$Told;", true)
  | 6 => ("SockFair", "draft", "LSockFair$Told;", true)
  | 7 => ("SockFair", "book", "LSockFair$Book;", true)
  | 8 => ("SockFair", "kept", "LSockFair$Book;", true)
  | 9 => ("SockFair", "isKept", "Z", false)
  | 10 => ("SockFair", "socks", "LSockFair$Socks;", true)
  | 11 => ("SockFair", "outlook", "LSockFair$Outlook;", true)
  | 12 => ("SockFair", "course", "LSockFair$Course;", true)
  | 13 => ("SockFair", "trial", "LSockFair$Course;", true)
  | 14 => ("SockFair", "ties", "LSockFair$Ties;", true)
  | 15 => ("SockFair", "ways", "LSockFair$Ways;", true)
  | 16 => ("SockFair", "dyes", "LSockFair$Dyes;", true)
  | _ => ("SockFair", "ages", "LSockFair$Ages;", true)
def tyX11 : Nat → FieldType := fun k => match k with
  | 0 => .array .byte
  | 1 => .int
  | 2 => .int
  | 3 => .array .int
  | 4 => .object "SockFair$Reader"
  | 5 => .object "SockFair$Told"
  | 6 => .object "SockFair$Told"
  | 7 => .object "SockFair$Book"
  | 8 => .object "SockFair$Book"
  | 9 => .boolean
  | 10 => .object "SockFair$Socks"
  | 11 => .object "SockFair$Outlook"
  | 12 => .object "SockFair$Course"
  | 13 => .object "SockFair$Course"
  | 14 => .object "SockFair$Ties"
  | 15 => .object "SockFair$Ways"
  | 16 => .object "SockFair$Dyes"
  | _ => .object "SockFair$Ages"
abbrev wsX110 : List Cond := u_ws RX11 TX11 18
theorem nmX11 : ∀ a, a < 18 → ∀ b, b < 18 → a ≠ b → (TX11 a).2.1 ≠ (TX11 b).2.1 := by decide +kernel
theorem tyX11_ok : ∀ k, k < 18 → parseFieldDescriptor (TX11 k).2.2.1 = some (tyX11 k) := by decide +kernel
abbrev cX11_init : ByteArray := prog_1_method_1_code
def yX11_init : MethodName := ⟨RX11, "<init>", "()V"⟩
abbrev cX11_feed : ByteArray := prog_1_method_2_code
def yX11_feed : MethodName := ⟨RX11, "feed", "(IIIII)I"⟩
abbrev cX11_tapeNumber : ByteArray := prog_1_method_3_code
def yX11_tapeNumber : MethodName := ⟨RX11, "tapeNumber", "(I)V"⟩
abbrev cX11_fair : ByteArray := prog_1_method_4_code
def yX11_fair : MethodName := ⟨RX11, "fair", "(I)I"⟩
abbrev cX11_fault : ByteArray := prog_1_method_5_code
def yX11_fault : MethodName := ⟨RX11, "fault", "()I"⟩
abbrev cX11_count : ByteArray := prog_1_method_6_code
def yX11_count : MethodName := ⟨RX11, "count", "(I)I"⟩
abbrev cX11_person : ByteArray := prog_1_method_7_code
def yX11_person : MethodName := ⟨RX11, "person", "(II)I"⟩
abbrev cX11_alike : ByteArray := prog_1_method_8_code
def yX11_alike : MethodName := ⟨RX11, "alike", "(II)I"⟩
abbrev cX11_liking : ByteArray := prog_1_method_9_code
def yX11_liking : MethodName := ⟨RX11, "liking", "(II)I"⟩
abbrev cX11_hold : ByteArray := prog_1_method_10_code
def yX11_hold : MethodName := ⟨RX11, "hold", "(I)I"⟩
abbrev cX11_dye : ByteArray := prog_1_method_11_code
def yX11_dye : MethodName := ⟨RX11, "dye", "(II)I"⟩
abbrev cX11_darn : ByteArray := prog_1_method_12_code
def yX11_darn : MethodName := ⟨RX11, "darn", "(II)I"⟩
abbrev cX11_unravel : ByteArray := prog_1_method_13_code
def yX11_unravel : MethodName := ⟨RX11, "unravel", "(I)I"⟩
abbrev cX11_bind : ByteArray := prog_1_method_14_code
def yX11_bind : MethodName := ⟨RX11, "bind", "(II)Z"⟩
abbrev cX11_undo : ByteArray := prog_1_method_15_code
def yX11_undo : MethodName := ⟨RX11, "undo", "()I"⟩
abbrev cX11_then : ByteArray := prog_1_method_16_code
def yX11_then : MethodName := ⟨RX11, "then", "(II)I"⟩
abbrev cX11_when : ByteArray := prog_1_method_17_code
def yX11_when : MethodName := ⟨RX11, "when", "(I)I"⟩
abbrev cX11_worn : ByteArray := prog_1_method_18_code
def yX11_worn : MethodName := ⟨RX11, "worn", "(I)I"⟩
abbrev cX11_couples : ByteArray := prog_1_method_19_code
def yX11_couples : MethodName := ⟨RX11, "couples", "(I)I"⟩
abbrev cX11_single : ByteArray := prog_1_method_20_code
def yX11_single : MethodName := ⟨RX11, "single", "(I)I"⟩
abbrev cX11_lasts : ByteArray := prog_1_method_21_code
def yX11_lasts : MethodName := ⟨RX11, "lasts", "(I)I"⟩
abbrev cX11_closest : ByteArray := prog_1_method_22_code
def yX11_closest : MethodName := ⟨RX11, "closest", "()I"⟩
abbrev cX11_lonely : ByteArray := prog_1_method_23_code
def yX11_lonely : MethodName := ⟨RX11, "lonely", "()I"⟩
abbrev cX11_faithful : ByteArray := prog_1_method_24_code
def yX11_faithful : MethodName := ⟨RX11, "faithful", "()I"⟩
abbrev cX11_most : ByteArray := prog_1_method_25_code
def yX11_most : MethodName := ⟨RX11, "most", "(I)I"⟩
abbrev cX11_best : ByteArray := prog_1_method_26_code
def yX11_best : MethodName := ⟨RX11, "best", "()J"⟩
abbrev cX11_rests : ByteArray := prog_1_method_27_code
def yX11_rests : MethodName := ⟨RX11, "rests", "(I)I"⟩
abbrev cX11_mates : ByteArray := prog_1_method_28_code
def yX11_mates : MethodName := ⟨RX11, "mates", "(I)I"⟩
abbrev cX11_colour : ByteArray := prog_1_method_29_code
def yX11_colour : MethodName := ⟨RX11, "colour", "(I)I"⟩
abbrev cX11_way : ByteArray := prog_1_method_30_code
def yX11_way : MethodName := ⟨RX11, "way", "(III)I"⟩
abbrev cX11_leastWay : ByteArray := prog_1_method_31_code
def yX11_leastWay : MethodName := ⟨RX11, "leastWay", "(III)I"⟩
abbrev cX11_knit : ByteArray := prog_1_method_32_code
def yX11_knit : MethodName := ⟨RX11, "knit", "(I)I"⟩
abbrev cX11_darner : ByteArray := prog_1_method_33_code
def yX11_darner : MethodName := ⟨RX11, "darner", "()I"⟩
abbrev cX11_see : ByteArray := prog_1_method_34_code
def yX11_see : MethodName := ⟨RX11, "see", "(III)I"⟩
abbrev cX11_forget : ByteArray := prog_1_method_35_code
def yX11_forget : MethodName := ⟨RX11, "forget", "()V"⟩
abbrev cX11_dyed : ByteArray := prog_1_method_36_code
def yX11_dyed : MethodName := ⟨RX11, "dyed", "(I)I"⟩
abbrev cX11_next : ByteArray := prog_1_method_37_code
def yX11_next : MethodName := ⟨RX11, "next", "(I)I"⟩
abbrev cX11_basket : ByteArray := prog_1_method_38_code
def yX11_basket : MethodName := ⟨RX11, "basket", "(II)I"⟩
abbrev cX11_basketLuck : ByteArray := prog_1_method_39_code
def yX11_basketLuck : MethodName := ⟨RX11, "basketLuck", "(II)I"⟩
abbrev cX11_commonDivisor : ByteArray := prog_1_method_40_code
def yX11_commonDivisor : MethodName := ⟨RX11, "commonDivisor", "(II)I"⟩
abbrev cX11_game : ByteArray := prog_1_method_41_code
def yX11_game : MethodName := ⟨RX11, "game", "(III)I"⟩
abbrev cX11_isGameAtRest : ByteArray := prog_1_method_42_code
def yX11_isGameAtRest : MethodName := ⟨RX11, "isGameAtRest", "(IIII)Z"⟩
abbrev cX11_gain : ByteArray := prog_1_method_43_code
def yX11_gain : MethodName := ⟨RX11, "gain", "(IIII)I"⟩
abbrev cX11_ring : ByteArray := prog_1_method_44_code
def yX11_ring : MethodName := ⟨RX11, "ring", "()I"⟩
abbrev cX11_generations : ByteArray := prog_1_method_45_code
def yX11_generations : MethodName := ⟨RX11, "generations", "(III)I"⟩
abbrev cX11_far : ByteArray := prog_1_method_46_code
def yX11_far : MethodName := ⟨RX11, "far", "(II)I"⟩
abbrev cX11_circles : ByteArray := prog_1_method_47_code
def yX11_circles : MethodName := ⟨RX11, "circles", "()I"⟩
abbrev cX11_image : ByteArray := prog_1_method_48_code
def yX11_image : MethodName := ⟨RX11, "image", "()V"⟩
abbrev cX11_restore : ByteArray := prog_1_method_49_code
def yX11_restore : MethodName := ⟨RX11, "restore", "()Z"⟩
abbrev cX11_checkPerson : ByteArray := prog_1_method_50_code
def yX11_checkPerson : MethodName := ⟨RX11, "checkPerson", "(I)V"⟩
abbrev cX11_checkWhat : ByteArray := prog_1_method_51_code
def yX11_checkWhat : MethodName := ⟨RX11, "checkWhat", "(II)V"⟩
abbrev cX11_checkForeseen : ByteArray := prog_1_method_52_code
def yX11_checkForeseen : MethodName := ⟨RX11, "checkForeseen", "(I)V"⟩
abbrev cX11_freeOnes : ByteArray := prog_1_method_53_code
def yX11_freeOnes : MethodName := ⟨RX11, "freeOnes", "()I"⟩
abbrev cX11_foreseen : ByteArray := prog_1_method_54_code
def yX11_foreseen : MethodName := ⟨RX11, "foreseen", "(I)LSockFair$Course;"⟩
abbrev cX11_knownTies : ByteArray := prog_1_method_55_code
def yX11_knownTies : MethodName := ⟨RX11, "knownTies", "()LSockFair$Ties;"⟩
abbrev cX11_areFreeTwo : ByteArray := prog_1_method_56_code
def yX11_areFreeTwo : MethodName := ⟨RX11, "areFreeTwo", "(II)Z"⟩
abbrev cX11_likenessShown : ByteArray := prog_1_method_57_code
def yX11_likenessShown : MethodName := ⟨RX11, "likenessShown", "(IIII)I"⟩
abbrev cX11_socksChanged : ByteArray := prog_1_method_58_code
def yX11_socksChanged : MethodName := ⟨RX11, "socksChanged", "()V"⟩
abbrev cX11_bindingsChanged : ByteArray := prog_1_method_59_code
def yX11_bindingsChanged : MethodName := ⟨RX11, "bindingsChanged", "()V"⟩
abbrev cX11_bindMostAlike : ByteArray := prog_1_method_60_code
def yX11_bindMostAlike : MethodName := ⟨RX11, "bindMostAlike", "([II[III)V"⟩
abbrev cX11_partWorn : ByteArray := prog_1_method_61_code
def yX11_partWorn : MethodName := ⟨RX11, "partWorn", "(I[III)I"⟩
def RX12 : String := "SockFairModel"
def TX12 : u_T := fun k => match k with
  | 0 => ("SockFairModel", "thrown", "I", false)
  | 1 => ("SockFairModel", "people", "I", false)
  | 2 => ("SockFairModel", "alikeAt", "I", false)
  | 3 => ("SockFairModel", "likesAt", "I", false)
  | 4 => ("SockFairModel", "pattern", "[I", true)
  | 5 => ("SockFairModel", "wool", "[I", true)
  | 6 => ("SockFairModel", "size", "[I", true)
  | 7 => ("SockFairModel", "charm", "[I", true)
  | 8 => ("SockFairModel", "code", "[I", true)
  | 9 => ("SockFairModel", "tape", "[I", true)
  | 10 => ("SockFairModel", "taped", "I", false)
  | 11 => ("SockFairModel", "faultKind", "I", false)
  | 12 => ("SockFairModel", "faultPlace", "I", false)
  | 13 => ("SockFairModel", "refused", "[I", true)
  | 14 => ("SockFairModel", "long1", "I", false)
  | 15 => ("SockFairModel", "next0", "I", false)
  | 16 => ("SockFairModel", "sort", "I", false)
  | 17 => ("SockFairModel", "place", "I", false)
  | 18 => ("SockFairModel", "long0", "I", false)
  | 19 => ("SockFairModel", "value", "I", false)
  | 20 => ("SockFairModel", "sign", "I", false)
  | 21 => ("SockFairModel", "word", "J", false)
  | 22 => ("SockFairModel", "newPeople", "I", false)
  | 23 => ("SockFairModel", "newAlikeAt", "I", false)
  | 24 => ("SockFairModel", "newLikesAt", "I", false)
  | 25 => ("SockFairModel", "top", "I", false)
  | 26 => ("SockFairModel", "firstValue", "I", false)
  | 27 => ("SockFairModel", "lastValue", "I", false)
  | 28 => ("SockFairModel", "waiting", "I", false)
  | 29 => ("SockFairModel", "depth", "I", false)
  | 30 => ("SockFairModel", "newPattern", "[I", true)
  | 31 => ("SockFairModel", "newWool", "[I", true)
  | 32 => ("SockFairModel", "newSize", "[I", true)
  | 33 => ("SockFairModel", "newCharm", "[I", true)
  | 34 => ("SockFairModel", "newRow", "[I", true)
  | 35 => ("SockFairModel", "readCode", "[I", true)
  | 36 => ("SockFairModel", "waits", "[I", true)
  | 37 => ("SockFairModel", "tested", "[Z", true)
  | 38 => ("SockFairModel", "rows", "[I", true)
  | 39 => ("SockFairModel", "ahead", "[I", true)
  | 40 => ("SockFairModel", "acts", "I", false)
  | 41 => ("SockFairModel", "told", "[I", true)
  | 42 => ("SockFairModel", "pile", "[I", true)
  | 43 => ("SockFairModel", "alikes", "[I", true)
  | 44 => ("SockFairModel", "mostCouples", "[I", true)
  | 45 => ("SockFairModel", "mostAlike", "[J", true)
  | 46 => ("SockFairModel", "likings", "[I", true)
  | 47 => ("SockFairModel", "with", "[I", true)
  | 48 => ("SockFairModel", "firstRest", "[I", true)
  | 49 => ("SockFairModel", "inRest", "[I", true)
  | 50 => ("SockFairModel", "restMany", "I", false)
  | 51 => ("SockFairModel", "firstWay", "I", false)
  | 52 => ("SockFairModel", "seenMany", "I", false)
  | 53 => ("SockFairModel", "seen", "[I", true)
  | 54 => ("SockFairModel", "rowAt", "[J", true)
  | 55 => ("SockFairModel", "rowsOf", "[J", true)
  | 56 => ("SockFairModel", "its", "I", false)
  | 57 => ("SockFairModel", "hasImage", "Z", false)
  | 58 => ("SockFairModel", "imageActs", "I", false)
  | 59 => ("SockFairModel", "imageSeen", "I", false)
  | 60 => ("SockFairModel", "imageRow", "[I", true)
  | 61 => ("SockFairModel", "imageAhead", "[I", true)
  | _ => ("SockFairModel", "imageSees", "[I", true)
def tyX12 : Nat → FieldType := fun k => match k with
  | 0 => .int
  | 1 => .int
  | 2 => .int
  | 3 => .int
  | 4 => .array .int
  | 5 => .array .int
  | 6 => .array .int
  | 7 => .array .int
  | 8 => .array .int
  | 9 => .array .int
  | 10 => .int
  | 11 => .int
  | 12 => .int
  | 13 => .array .int
  | 14 => .int
  | 15 => .int
  | 16 => .int
  | 17 => .int
  | 18 => .int
  | 19 => .int
  | 20 => .int
  | 21 => .long
  | 22 => .int
  | 23 => .int
  | 24 => .int
  | 25 => .int
  | 26 => .int
  | 27 => .int
  | 28 => .int
  | 29 => .int
  | 30 => .array .int
  | 31 => .array .int
  | 32 => .array .int
  | 33 => .array .int
  | 34 => .array .int
  | 35 => .array .int
  | 36 => .array .int
  | 37 => .array .boolean
  | 38 => .array .int
  | 39 => .array .int
  | 40 => .int
  | 41 => .array .int
  | 42 => .array .int
  | 43 => .array .int
  | 44 => .array .int
  | 45 => .array .long
  | 46 => .array .int
  | 47 => .array .int
  | 48 => .array .int
  | 49 => .array .int
  | 50 => .int
  | 51 => .int
  | 52 => .int
  | 53 => .array .int
  | 54 => .array .long
  | 55 => .array .long
  | 56 => .int
  | 57 => .boolean
  | 58 => .int
  | 59 => .int
  | 60 => .array .int
  | 61 => .array .int
  | _ => .array .int
abbrev wsX120 : List Cond := u_ws RX12 TX12 63
theorem nmX12 : ∀ a, a < 63 → ∀ b, b < 63 → a ≠ b → (TX12 a).2.1 ≠ (TX12 b).2.1 := by decide +kernel
theorem tyX12_ok : ∀ k, k < 63 → parseFieldDescriptor (TX12 k).2.2.1 = some (tyX12 k) := by decide +kernel
abbrev cX12_init : ByteArray := prog_14_method_1_code
def yX12_init : MethodName := ⟨RX12, "<init>", "()V"⟩
abbrev cX12_thrown : ByteArray := prog_14_method_2_code
def yX12_thrown : MethodName := ⟨RX12, "thrown", "()I"⟩
abbrev cX12_right : ByteArray := prog_14_method_3_code
def yX12_right : MethodName := ⟨RX12, "right", "(ZI)Z"⟩
abbrev cX12_within : ByteArray := prog_14_method_4_code
def yX12_within : MethodName := ⟨RX12, "within", "(III)Z"⟩
abbrev cX12_copies : ByteArray := prog_14_method_5_code
def yX12_copies : MethodName := ⟨RX12, "copies", "([I[I)V"⟩
abbrev cX12_bits : ByteArray := prog_14_method_6_code
def yX12_bits : MethodName := ⟨RX12, "bits", "(I)I"⟩
abbrev cX12_feed : ByteArray := prog_14_method_7_code
def yX12_feed : MethodName := ⟨RX12, "feed", "(IIIII)I"⟩
abbrev cX12_lays : ByteArray := prog_14_method_8_code
def yX12_lays : MethodName := ⟨RX12, "lays", "(I)V"⟩
abbrev cX12_byteAt : ByteArray := prog_14_method_9_code
def yX12_byteAt : MethodName := ⟨RX12, "byteAt", "(I)I"⟩
abbrev cX12_isLetter : ByteArray := prog_14_method_10_code
def yX12_isLetter : MethodName := ⟨RX12, "isLetter", "(I)Z"⟩
abbrev cX12_isDigit : ByteArray := prog_14_method_11_code
def yX12_isDigit : MethodName := ⟨RX12, "isDigit", "(I)Z"⟩
abbrev cX12_goes : ByteArray := prog_14_method_12_code
def yX12_goes : MethodName := ⟨RX12, "goes", "()V"⟩
abbrev cX12_spelled : ByteArray := prog_14_method_13_code
def yX12_spelled : MethodName := ⟨RX12, "spelled", "(IIIIIII)J"⟩
abbrev cX12_letters : ByteArray := prog_14_method_14_code
def yX12_letters : MethodName := ⟨RX12, "letters", "(I)J"⟩
abbrev cX12_knownWord : ByteArray := prog_14_method_15_code
def yX12_knownWord : MethodName := ⟨RX12, "knownWord", "()I"⟩
abbrev cX12_wrong : ByteArray := prog_14_method_16_code
def yX12_wrong : MethodName := ⟨RX12, "wrong", "(I)V"⟩
abbrev cX12_isGood : ByteArray := prog_14_method_17_code
def yX12_isGood : MethodName := ⟨RX12, "isGood", "()Z"⟩
abbrev cX12_isSign : ByteArray := prog_14_method_18_code
def yX12_isSign : MethodName := ⟨RX12, "isSign", "(I)Z"⟩
abbrev cX12_need : ByteArray := prog_14_method_19_code
def yX12_need : MethodName := ⟨RX12, "need", "(Z)V"⟩
abbrev cX12_number : ByteArray := prog_14_method_20_code
def yX12_number : MethodName := ⟨RX12, "number", "(II)I"⟩
abbrev cX12_unbound : ByteArray := prog_14_method_21_code
def yX12_unbound : MethodName := ⟨RX12, "unbound", "(I)I"⟩
abbrev cX12_puts : ByteArray := prog_14_method_22_code
def yX12_puts : MethodName := ⟨RX12, "puts", "(I)V"⟩
abbrev cX12_isOpen : ByteArray := prog_14_method_23_code
def yX12_isOpen : MethodName := ⟨RX12, "isOpen", "(I)Z"⟩
abbrev cX12_strength : ByteArray := prog_14_method_24_code
def yX12_strength : MethodName := ⟨RX12, "strength", "(I)I"⟩
abbrev cX12_drops : ByteArray := prog_14_method_25_code
def yX12_drops : MethodName := ⟨RX12, "drops", "(I)V"⟩
abbrev cX12_waitsFor : ByteArray := prog_14_method_26_code
def yX12_waitsFor : MethodName := ⟨RX12, "waitsFor", "(I)V"⟩
abbrev cX12_part : ByteArray := prog_14_method_27_code
def yX12_part : MethodName := ⟨RX12, "part", "()V"⟩
abbrev cX12_deeper : ByteArray := prog_14_method_28_code
def yX12_deeper : MethodName := ⟨RX12, "deeper", "()V"⟩
abbrev cX12_operand : ByteArray := prog_14_method_29_code
def yX12_operand : MethodName := ⟨RX12, "operand", "(Z)V"⟩
abbrev cX12_isOpened : ByteArray := prog_14_method_30_code
def yX12_isOpened : MethodName := ⟨RX12, "isOpened", "()Z"⟩
abbrev cX12_closes : ByteArray := prog_14_method_31_code
def yX12_closes : MethodName := ⟨RX12, "closes", "()V"⟩
abbrev cX12_expression : ByteArray := prog_14_method_32_code
def yX12_expression : MethodName := ⟨RX12, "expression", "(II)V"⟩
abbrev cX12_readsSock : ByteArray := prog_14_method_33_code
def yX12_readsSock : MethodName := ⟨RX12, "readsSock", "(I)V"⟩
abbrev cX12_line : ByteArray := prog_14_method_34_code
def yX12_line : MethodName := ⟨RX12, "line", "()V"⟩
abbrev cX12_fair : ByteArray := prog_14_method_35_code
def yX12_fair : MethodName := ⟨RX12, "fair", "(I)I"⟩
abbrev cX12_fault : ByteArray := prog_14_method_36_code
def yX12_fault : MethodName := ⟨RX12, "fault", "()I"⟩
abbrev cX12_keeps : ByteArray := prog_14_method_37_code
def yX12_keeps : MethodName := ⟨RX12, "keeps", "()V"⟩
abbrev cX12_refuses : ByteArray := prog_14_method_38_code
def yX12_refuses : MethodName := ⟨RX12, "refuses", "(I)I"⟩
abbrev cX12_undo : ByteArray := prog_14_method_39_code
def yX12_undo : MethodName := ⟨RX12, "undo", "()I"⟩
abbrev cX12_tries : ByteArray := prog_14_method_40_code
def yX12_tries : MethodName := ⟨RX12, "tries", "()V"⟩
abbrev cX12_works : ByteArray := prog_14_method_41_code
def yX12_works : MethodName := ⟨RX12, "works", "(III)I"⟩
abbrev cX12_reckons : ByteArray := prog_14_method_42_code
def yX12_reckons : MethodName := ⟨RX12, "reckons", "(I)I"⟩
abbrev cX12_between : ByteArray := prog_14_method_43_code
def yX12_between : MethodName := ⟨RX12, "between", "(II)I"⟩
abbrev cX12_alikeWith : ByteArray := prog_14_method_44_code
def yX12_alikeWith : MethodName := ⟨RX12, "alikeWith", "(IIIII)I"⟩
abbrev cX12_alikeOf : ByteArray := prog_14_method_45_code
def yX12_alikeOf : MethodName := ⟨RX12, "alikeOf", "(III)I"⟩
abbrev cX12_may : ByteArray := prog_14_method_46_code
def yX12_may : MethodName := ⟨RX12, "may", "(III)Z"⟩
abbrev cX12_likingOf : ByteArray := prog_14_method_47_code
def yX12_likingOf : MethodName := ⟨RX12, "likingOf", "(II)I"⟩
abbrev cX12_binds : ByteArray := prog_14_method_48_code
def yX12_binds : MethodName := ⟨RX12, "binds", "(III)V"⟩
abbrev cX12_unbinds : ByteArray := prog_14_method_49_code
def yX12_unbinds : MethodName := ⟨RX12, "unbinds", "(II)V"⟩
abbrev cX12_bindsMost : ByteArray := prog_14_method_50_code
def yX12_bindsMost : MethodName := ⟨RX12, "bindsMost", "(I)Z"⟩
abbrev cX12_bindsAll : ByteArray := prog_14_method_51_code
def yX12_bindsAll : MethodName := ⟨RX12, "bindsAll", "(I)V"⟩
abbrev cX12_wears : ByteArray := prog_14_method_52_code
def yX12_wears : MethodName := ⟨RX12, "wears", "(I)I"⟩
abbrev cX12_holds : ByteArray := prog_14_method_53_code
def yX12_holds : MethodName := ⟨RX12, "holds", "(I)I"⟩
abbrev cX12_holdsMany : ByteArray := prog_14_method_54_code
def yX12_holdsMany : MethodName := ⟨RX12, "holdsMany", "(I)V"⟩
abbrev cX12_boundIn : ByteArray := prog_14_method_55_code
def yX12_boundIn : MethodName := ⟨RX12, "boundIn", "(I)I"⟩
abbrev cX12_holesIn : ByteArray := prog_14_method_56_code
def yX12_holesIn : MethodName := ⟨RX12, "holesIn", "(I)I"⟩
abbrev cX12_maySet : ByteArray := prog_14_method_57_code
def yX12_maySet : MethodName := ⟨RX12, "maySet", "(I)I"⟩
abbrev cX12_ratherSet : ByteArray := prog_14_method_58_code
def yX12_ratherSet : MethodName := ⟨RX12, "ratherSet", "(I)I"⟩
abbrev cX12_mayCouples : ByteArray := prog_14_method_59_code
def yX12_mayCouples : MethodName := ⟨RX12, "mayCouples", "()I"⟩
abbrev cX12_count : ByteArray := prog_14_method_60_code
def yX12_count : MethodName := ⟨RX12, "count", "(I)I"⟩
abbrev cX12_isPerson : ByteArray := prog_14_method_61_code
def yX12_isPerson : MethodName := ⟨RX12, "isPerson", "(I)Z"⟩
abbrev cX12_isWhat : ByteArray := prog_14_method_62_code
def yX12_isWhat : MethodName := ⟨RX12, "isWhat", "(II)Z"⟩
abbrev cX12_person : ByteArray := prog_14_method_63_code
def yX12_person : MethodName := ⟨RX12, "person", "(II)I"⟩
abbrev cX12_alike : ByteArray := prog_14_method_64_code
def yX12_alike : MethodName := ⟨RX12, "alike", "(II)I"⟩
abbrev cX12_liking : ByteArray := prog_14_method_65_code
def yX12_liking : MethodName := ⟨RX12, "liking", "(II)I"⟩
abbrev cX12_hold : ByteArray := prog_14_method_66_code
def yX12_hold : MethodName := ⟨RX12, "hold", "(I)I"⟩
abbrev cX12_dye : ByteArray := prog_14_method_67_code
def yX12_dye : MethodName := ⟨RX12, "dye", "(II)I"⟩
abbrev cX12_darn : ByteArray := prog_14_method_68_code
def yX12_darn : MethodName := ⟨RX12, "darn", "(II)I"⟩
abbrev cX12_unravel : ByteArray := prog_14_method_69_code
def yX12_unravel : MethodName := ⟨RX12, "unravel", "(I)I"⟩
abbrev cX12_bind : ByteArray := prog_14_method_70_code
def yX12_bind : MethodName := ⟨RX12, "bind", "(II)Z"⟩
abbrev cX12_isFairs : ByteArray := prog_14_method_71_code
def yX12_isFairs : MethodName := ⟨RX12, "isFairs", "(II)Z"⟩
abbrev cX12_then : ByteArray := prog_14_method_72_code
def yX12_then : MethodName := ⟨RX12, "then", "(II)I"⟩
abbrev cX12_when : ByteArray := prog_14_method_73_code
def yX12_when : MethodName := ⟨RX12, "when", "(I)I"⟩
abbrev cX12_worn : ByteArray := prog_14_method_74_code
def yX12_worn : MethodName := ⟨RX12, "worn", "(I)I"⟩
abbrev cX12_couples : ByteArray := prog_14_method_75_code
def yX12_couples : MethodName := ⟨RX12, "couples", "(I)I"⟩
abbrev cX12_single : ByteArray := prog_14_method_76_code
def yX12_single : MethodName := ⟨RX12, "single", "(I)I"⟩
abbrev cX12_closest : ByteArray := prog_14_method_77_code
def yX12_closest : MethodName := ⟨RX12, "closest", "()I"⟩
abbrev cX12_lonely : ByteArray := prog_14_method_78_code
def yX12_lonely : MethodName := ⟨RX12, "lonely", "()I"⟩
abbrev cX12_isTempted : ByteArray := prog_14_method_79_code
def yX12_isTempted : MethodName := ⟨RX12, "isTempted", "(I)Z"⟩
abbrev cX12_faithful : ByteArray := prog_14_method_80_code
def yX12_faithful : MethodName := ⟨RX12, "faithful", "()I"⟩
abbrev cX12_lasts : ByteArray := prog_14_method_81_code
def yX12_lasts : MethodName := ⟨RX12, "lasts", "(I)I"⟩
abbrev cX12_darner : ByteArray := prog_14_method_82_code
def yX12_darner : MethodName := ⟨RX12, "darner", "()I"⟩
abbrev cX12_laysAlike : ByteArray := prog_14_method_83_code
def yX12_laysAlike : MethodName := ⟨RX12, "laysAlike", "(I)I"⟩
abbrev cX12_least : ByteArray := prog_14_method_84_code
def yX12_least : MethodName := ⟨RX12, "least", "(I)I"⟩
abbrev cX12_laysSet : ByteArray := prog_14_method_85_code
def yX12_laysSet : MethodName := ⟨RX12, "laysSet", "(I)V"⟩
abbrev cX12_withWhom : ByteArray := prog_14_method_86_code
def yX12_withWhom : MethodName := ⟨RX12, "withWhom", "(I)I"⟩
abbrev cX12_most : ByteArray := prog_14_method_87_code
def yX12_most : MethodName := ⟨RX12, "most", "(I)I"⟩
abbrev cX12_best : ByteArray := prog_14_method_88_code
def yX12_best : MethodName := ⟨RX12, "best", "()J"⟩
abbrev cX12_colour : ByteArray := prog_14_method_89_code
def yX12_colour : MethodName := ⟨RX12, "colour", "(I)I"⟩
abbrev cX12_wouldLeave : ByteArray := prog_14_method_90_code
def yX12_wouldLeave : MethodName := ⟨RX12, "wouldLeave", "(II)Z"⟩
abbrev cX12_isAtRest : ByteArray := prog_14_method_91_code
def yX12_isAtRest : MethodName := ⟨RX12, "isAtRest", "(I)Z"⟩
abbrev cX12_takesRest : ByteArray := prog_14_method_92_code
def yX12_takesRest : MethodName := ⟨RX12, "takesRest", "()V"⟩
abbrev cX12_nextWith : ByteArray := prog_14_method_93_code
def yX12_nextWith : MethodName := ⟨RX12, "nextWith", "(III)I"⟩
abbrev cX12_goesThrough : ByteArray := prog_14_method_94_code
def yX12_goesThrough : MethodName := ⟨RX12, "goesThrough", "(I)V"⟩
abbrev cX12_laysRests : ByteArray := prog_14_method_95_code
def yX12_laysRests : MethodName := ⟨RX12, "laysRests", "()V"⟩
abbrev cX12_rests : ByteArray := prog_14_method_96_code
def yX12_rests : MethodName := ⟨RX12, "rests", "(I)I"⟩
abbrev cX12_mates : ByteArray := prog_14_method_97_code
def yX12_mates : MethodName := ⟨RX12, "mates", "(I)I"⟩
abbrev cX12_costs : ByteArray := prog_14_method_98_code
def yX12_costs : MethodName := ⟨RX12, "costs", "(II)I"⟩
abbrev cX12_way : ByteArray := prog_14_method_99_code
def yX12_way : MethodName := ⟨RX12, "way", "(III)I"⟩
abbrev cX12_isKnitFor : ByteArray := prog_14_method_100_code
def yX12_isKnitFor : MethodName := ⟨RX12, "isKnitFor", "(I)Z"⟩
abbrev cX12_knit : ByteArray := prog_14_method_101_code
def yX12_knit : MethodName := ⟨RX12, "knit", "(I)I"⟩
abbrev cX12_see : ByteArray := prog_14_method_102_code
def yX12_see : MethodName := ⟨RX12, "see", "(III)I"⟩
abbrev cX12_forget : ByteArray := prog_14_method_103_code
def yX12_forget : MethodName := ⟨RX12, "forget", "()V"⟩
abbrev cX12_isSeen : ByteArray := prog_14_method_104_code
def yX12_isSeen : MethodName := ⟨RX12, "isSeen", "()Z"⟩
abbrev cX12_isGuess : ByteArray := prog_14_method_105_code
def yX12_isGuess : MethodName := ⟨RX12, "isGuess", "(I)Z"⟩
abbrev cX12_dyed : ByteArray := prog_14_method_106_code
def yX12_dyed : MethodName := ⟨RX12, "dyed", "(I)I"⟩
abbrev cX12_next : ByteArray := prog_14_method_107_code
def yX12_next : MethodName := ⟨RX12, "next", "(I)I"⟩
abbrev cX12_divisor : ByteArray := prog_14_method_108_code
def yX12_divisor : MethodName := ⟨RX12, "divisor", "(II)I"⟩
abbrev cX12_likely : ByteArray := prog_14_method_109_code
def yX12_likely : MethodName := ⟨RX12, "likely", "(II)I"⟩
abbrev cX12_basket : ByteArray := prog_14_method_110_code
def yX12_basket : MethodName := ⟨RX12, "basket", "(II)I"⟩
abbrev cX12_gains : ByteArray := prog_14_method_111_code
def yX12_gains : MethodName := ⟨RX12, "gains", "(IIII)I"⟩
abbrev cX12_game : ByteArray := prog_14_method_112_code
def yX12_game : MethodName := ⟨RX12, "game", "(III)I"⟩
abbrev cX12_ring : ByteArray := prog_14_method_113_code
def yX12_ring : MethodName := ⟨RX12, "ring", "()I"⟩
abbrev cX12_reached : ByteArray := prog_14_method_114_code
def yX12_reached : MethodName := ⟨RX12, "reached", "(II)I"⟩
abbrev cX12_far : ByteArray := prog_14_method_115_code
def yX12_far : MethodName := ⟨RX12, "far", "(II)I"⟩
abbrev cX12_circles : ByteArray := prog_14_method_116_code
def yX12_circles : MethodName := ⟨RX12, "circles", "()I"⟩
abbrev cX12_draw : ByteArray := prog_14_method_117_code
def yX12_draw : MethodName := ⟨RX12, "draw", "(I)I"⟩
abbrev cX12_happens : ByteArray := prog_14_method_118_code
def yX12_happens : MethodName := ⟨RX12, "happens", "()V"⟩
abbrev cX12_generations : ByteArray := prog_14_method_119_code
def yX12_generations : MethodName := ⟨RX12, "generations", "(III)I"⟩
abbrev cX12_image : ByteArray := prog_14_method_120_code
def yX12_image : MethodName := ⟨RX12, "image", "()V"⟩
abbrev cX12_restore : ByteArray := prog_14_method_121_code
def yX12_restore : MethodName := ⟨RX12, "restore", "()Z"⟩
def RJx145de : String := "java/io/Serializable"
def TJx145de : u_T := fun k => match k with
  | _ => ("", "", "", false)
def tyJx145de : Nat → FieldType := fun k => match k with
  | _ => .int
abbrev wsJx145de0 : List Cond := u_ws RJx145de TJx145de 0
theorem nmJx145de : ∀ a, a < 0 → ∀ b, b < 0 → a ≠ b → (TJx145de a).2.1 ≠ (TJx145de b).2.1 := by decide +kernel
theorem tyJx145de_ok : ∀ k, k < 0 → parseFieldDescriptor (TJx145de k).2.2.1 = some (tyJx145de k) := by decide +kernel
def RJx9f9b0 : String := "java/lang/CharSequence"
def TJx9f9b0 : u_T := fun k => match k with
  | _ => ("", "", "", false)
def tyJx9f9b0 : Nat → FieldType := fun k => match k with
  | _ => .int
abbrev wsJx9f9b00 : List Cond := u_ws RJx9f9b0 TJx9f9b0 0
theorem nmJx9f9b0 : ∀ a, a < 0 → ∀ b, b < 0 → a ≠ b → (TJx9f9b0 a).2.1 ≠ (TJx9f9b0 b).2.1 := by decide +kernel
theorem tyJx9f9b0_ok : ∀ k, k < 0 → parseFieldDescriptor (TJx9f9b0 k).2.2.1 = some (tyJx9f9b0 k) := by decide +kernel
def RJ11 : String := "java/lang/Character"
def TJ11 : u_T := fun k => match k with
  | _ => ("", "", "", false)
def tyJ11 : Nat → FieldType := fun k => match k with
  | _ => .int
abbrev wsJ110 : List Cond := u_ws RJ11 TJ11 0
theorem nmJ11 : ∀ a, a < 0 → ∀ b, b < 0 → a ≠ b → (TJ11 a).2.1 ≠ (TJ11 b).2.1 := by decide +kernel
theorem tyJ11_ok : ∀ k, k < 0 → parseFieldDescriptor (TJ11 k).2.2.1 = some (tyJ11 k) := by decide +kernel
abbrev cJ11_isValidCodePoint_9a6ad : ByteArray := prog_17_method_11_code
def yJ11_isValidCodePoint_9a6ad : MethodName := ⟨RJ11, "isValidCodePoint", "(I)Z"⟩
abbrev cJ11_highSurrogate_5068e : ByteArray := prog_17_method_28_code
def yJ11_highSurrogate_5068e : MethodName := ⟨RJ11, "highSurrogate", "(I)C"⟩
abbrev cJ11_lowSurrogate_5068e : ByteArray := prog_17_method_29_code
def yJ11_lowSurrogate_5068e : MethodName := ⟨RJ11, "lowSurrogate", "(I)C"⟩
def RJxb160c : String := "java/lang/Comparable"
def TJxb160c : u_T := fun k => match k with
  | _ => ("", "", "", false)
def tyJxb160c : Nat → FieldType := fun k => match k with
  | _ => .int
abbrev wsJxb160c0 : List Cond := u_ws RJxb160c TJxb160c 0
theorem nmJxb160c : ∀ a, a < 0 → ∀ b, b < 0 → a ≠ b → (TJxb160c a).2.1 ≠ (TJxb160c b).2.1 := by decide +kernel
theorem tyJxb160c_ok : ∀ k, k < 0 → parseFieldDescriptor (TJxb160c k).2.2.1 = some (tyJxb160c k) := by decide +kernel
def RJ6 : String := "java/lang/Integer"
def TJ6 : u_T := fun k => match k with
  | _ => ("", "", "", false)
def tyJ6 : Nat → FieldType := fun k => match k with
  | _ => .int
abbrev wsJ60 : List Cond := u_ws RJ6 TJ6 0
theorem nmJ6 : ∀ a, a < 0 → ∀ b, b < 0 → a ≠ b → (TJ6 a).2.1 ≠ (TJ6 b).2.1 := by decide +kernel
theorem tyJ6_ok : ∀ k, k < 0 → parseFieldDescriptor (TJ6 k).2.2.1 = some (tyJ6 k) := by decide +kernel
abbrev cJ6_bitCount_0f7a4 : ByteArray := prog_21_method_49_code
def yJ6_bitCount_0f7a4 : MethodName := ⟨RJ6, "bitCount", "(I)I"⟩
def RJ9 : String := "java/lang/Math"
def TJ9 : u_T := fun k => match k with
  | _ => ("", "", "", false)
def tyJ9 : Nat → FieldType := fun k => match k with
  | _ => .int
abbrev wsJ90 : List Cond := u_ws RJ9 TJ9 0
theorem nmJ9 : ∀ a, a < 0 → ∀ b, b < 0 → a ≠ b → (TJ9 a).2.1 ≠ (TJ9 b).2.1 := by decide +kernel
theorem tyJ9_ok : ∀ k, k < 0 → parseFieldDescriptor (TJ9 k).2.2.1 = some (tyJ9 k) := by decide +kernel
abbrev cJ9_abs_0f7a4 : ByteArray := prog_22_method_59_code
def yJ9_abs_0f7a4 : MethodName := ⟨RJ9, "abs", "(I)I"⟩
abbrev cJ9_max_7cf53 : ByteArray := prog_22_method_65_code
def yJ9_max_7cf53 : MethodName := ⟨RJ9, "max", "(II)I"⟩
abbrev cJ9_max_f86c9 : ByteArray := prog_22_method_66_code
def yJ9_max_f86c9 : MethodName := ⟨RJ9, "max", "(JJ)J"⟩
abbrev cJ9_min_7cf53 : ByteArray := prog_22_method_69_code
def yJ9_min_7cf53 : MethodName := ⟨RJ9, "min", "(II)I"⟩
def RJ0 : String := "java/lang/String"
def TJ0 : u_T := fun k => match k with
  | _ => ("", "", "", false)
def tyJ0 : Nat → FieldType := fun k => match k with
  | _ => .int
abbrev wsJ00 : List Cond := u_ws RJ0 TJ0 0
theorem nmJ0 : ∀ a, a < 0 → ∀ b, b < 0 → a ≠ b → (TJ0 a).2.1 ≠ (TJ0 b).2.1 := by decide +kernel
theorem tyJ0_ok : ∀ k, k < 0 → parseFieldDescriptor (TJ0 k).2.2.1 = some (tyJ0 k) := by decide +kernel
abbrev cJ0_length_8abf5 : ByteArray := prog_24_method_54_code
def yJ0_length_8abf5 : MethodName := ⟨RJ0, "length", "()I"⟩
abbrev cJ0_charAt_5068e : ByteArray := prog_24_method_56_code
def yJ0_charAt_5068e : MethodName := ⟨RJ0, "charAt", "(I)C"⟩
abbrev cJ0_indexOf_0f7a4 : ByteArray := prog_24_method_79_code
def yJ0_indexOf_0f7a4 : MethodName := ⟨RJ0, "indexOf", "(I)I"⟩
abbrev cJ0_indexOf_7cf53 : ByteArray := prog_24_method_80_code
def yJ0_indexOf_7cf53 : MethodName := ⟨RJ0, "indexOf", "(II)I"⟩
abbrev cJ0_coder_7d493 : ByteArray := prog_24_method_152_code
def yJ0_coder_7d493 : MethodName := ⟨RJ0, "coder", "()B"⟩
abbrev cJ0_isLatin1_aae02 : ByteArray := prog_24_method_154_code
def yJ0_isLatin1_aae02 : MethodName := ⟨RJ0, "isLatin1", "()Z"⟩
abbrev cJ0_checkIndex_df160 : ByteArray := prog_24_method_155_code
def yJ0_checkIndex_df160 : MethodName := ⟨RJ0, "checkIndex", "(II)V"⟩
abbrev cJ0_checkBoundsBeginEnd_23922 : ByteArray := prog_24_method_158_code
def yJ0_checkBoundsBeginEnd_23922 : MethodName := ⟨RJ0, "checkBoundsBeginEnd", "(III)V"⟩
def RJ1 : String := "java/lang/StringLatin1"
def TJ1 : u_T := fun k => match k with
  | _ => ("", "", "", false)
def tyJ1 : Nat → FieldType := fun k => match k with
  | _ => .int
abbrev wsJ10 : List Cond := u_ws RJ1 TJ1 0
theorem nmJ1 : ∀ a, a < 0 → ∀ b, b < 0 → a ≠ b → (TJ1 a).2.1 ≠ (TJ1 b).2.1 := by decide +kernel
theorem tyJ1_ok : ∀ k, k < 0 → parseFieldDescriptor (TJ1 k).2.2.1 = some (tyJ1 k) := by decide +kernel
abbrev cJ1_charAt_3b067 : ByteArray := prog_25_method_2_code
def yJ1_charAt_3b067 : MethodName := ⟨RJ1, "charAt", "([BI)C"⟩
abbrev cJ1_canEncode_9a6ad : ByteArray := prog_25_method_4_code
def yJ1_canEncode_9a6ad : MethodName := ⟨RJ1, "canEncode", "(I)Z"⟩
abbrev cJ1_indexOf_4cfef : ByteArray := prog_25_method_22_code
def yJ1_indexOf_4cfef : MethodName := ⟨RJ1, "indexOf", "([BIII)I"⟩
abbrev cJ1_indexOfChar_4cfef : ByteArray := prog_25_method_23_code
def yJ1_indexOfChar_4cfef : MethodName := ⟨RJ1, "indexOfChar", "([BIII)I"⟩
def RJ2 : String := "java/lang/StringUTF16"
def TJ2 : u_T := fun k => match k with
  | _ => ("", "", "", false)
def tyJ2 : Nat → FieldType := fun k => match k with
  | _ => .int
abbrev wsJ20 : List Cond := u_ws RJ2 TJ2 0
theorem nmJ2 : ∀ a, a < 0 → ∀ b, b < 0 → a ≠ b → (TJ2 a).2.1 ≠ (TJ2 b).2.1 := by decide +kernel
theorem tyJ2_ok : ∀ k, k < 0 → parseFieldDescriptor (TJ2 k).2.2.1 = some (tyJ2 k) := by decide +kernel
abbrev cJ2_getChar_3b067 : ByteArray := prog_26_method_5_code
def yJ2_getChar_3b067 : MethodName := ⟨RJ2, "getChar", "([BI)C"⟩
abbrev cJ2_length_9d52b : ByteArray := prog_26_method_6_code
def yJ2_length_9d52b : MethodName := ⟨RJ2, "length", "([B)I"⟩
abbrev cJ2_indexOf_4cfef : ByteArray := prog_26_method_40_code
def yJ2_indexOf_4cfef : MethodName := ⟨RJ2, "indexOf", "([BIII)I"⟩
abbrev cJ2_indexOfChar_4cfef : ByteArray := prog_26_method_47_code
def yJ2_indexOfChar_4cfef : MethodName := ⟨RJ2, "indexOfChar", "([BIII)I"⟩
abbrev cJ2_indexOfCharUnsafe_4cfef : ByteArray := prog_26_method_48_code
def yJ2_indexOfCharUnsafe_4cfef : MethodName := ⟨RJ2, "indexOfCharUnsafe", "([BIII)I"⟩
abbrev cJ2_indexOfSupplementary_4cfef : ByteArray := prog_26_method_49_code
def yJ2_indexOfSupplementary_4cfef : MethodName := ⟨RJ2, "indexOfSupplementary", "([BIII)I"⟩
abbrev cJ2_charAt_3b067 : ByteArray := prog_26_method_83_code
def yJ2_charAt_3b067 : MethodName := ⟨RJ2, "charAt", "([BI)C"⟩
abbrev cJ2_checkIndex_2214a : ByteArray := prog_26_method_91_code
def yJ2_checkIndex_2214a : MethodName := ⟨RJ2, "checkIndex", "(I[B)V"⟩
abbrev cJ2_checkBoundsBeginEnd_d044e : ByteArray := prog_26_method_93_code
def yJ2_checkBoundsBeginEnd_d044e : MethodName := ⟨RJ2, "checkBoundsBeginEnd", "(II[B)V"⟩
def RJ10 : String := "java/lang/System"
def TJ10 : u_T := fun k => match k with
  | _ => ("", "", "", false)
def tyJ10 : Nat → FieldType := fun k => match k with
  | _ => .int
abbrev wsJ100 : List Cond := u_ws RJ10 TJ10 0
theorem nmJ10 : ∀ a, a < 0 → ∀ b, b < 0 → a ≠ b → (TJ10 a).2.1 ≠ (TJ10 b).2.1 := by decide +kernel
theorem tyJ10_ok : ∀ k, k < 0 → parseFieldDescriptor (TJ10 k).2.2.1 = some (tyJ10 k) := by decide +kernel
def RJxfd54e : String := "java/lang/constant/Constable"
def TJxfd54e : u_T := fun k => match k with
  | _ => ("", "", "", false)
def tyJxfd54e : Nat → FieldType := fun k => match k with
  | _ => .int
abbrev wsJxfd54e0 : List Cond := u_ws RJxfd54e TJxfd54e 0
theorem nmJxfd54e : ∀ a, a < 0 → ∀ b, b < 0 → a ≠ b → (TJxfd54e a).2.1 ≠ (TJxfd54e b).2.1 := by decide +kernel
theorem tyJxfd54e_ok : ∀ k, k < 0 → parseFieldDescriptor (TJxfd54e k).2.2.1 = some (tyJxfd54e k) := by decide +kernel
def RJx3cf43 : String := "java/lang/constant/ConstantDesc"
def TJx3cf43 : u_T := fun k => match k with
  | _ => ("", "", "", false)
def tyJx3cf43 : Nat → FieldType := fun k => match k with
  | _ => .int
abbrev wsJx3cf430 : List Cond := u_ws RJx3cf43 TJx3cf43 0
theorem nmJx3cf43 : ∀ a, a < 0 → ∀ b, b < 0 → a ≠ b → (TJx3cf43 a).2.1 ≠ (TJx3cf43 b).2.1 := by decide +kernel
theorem tyJx3cf43_ok : ∀ k, k < 0 → parseFieldDescriptor (TJx3cf43 k).2.2.1 = some (tyJx3cf43 k) := by decide +kernel
def RJ3 : String := "jdk/internal/util/Preconditions"
def TJ3 : u_T := fun k => match k with
  | _ => ("", "", "", false)
def tyJ3 : Nat → FieldType := fun k => match k with
  | _ => .int
abbrev wsJ30 : List Cond := u_ws RJ3 TJ3 0
theorem nmJ3 : ∀ a, a < 0 → ∀ b, b < 0 → a ≠ b → (TJ3 a).2.1 ≠ (TJ3 b).2.1 := by decide +kernel
theorem tyJ3_ok : ∀ k, k < 0 → parseFieldDescriptor (TJ3 k).2.2.1 = some (tyJ3 k) := by decide +kernel
abbrev cJ3_checkIndex_8e157 : ByteArray := prog_32_method_11_code
def yJ3_checkIndex_8e157 : MethodName := ⟨RJ3, "checkIndex", "(IILjava/util/function/BiFunction;)I"⟩
abbrev cJ3_checkFromToIndex_8c36e : ByteArray := prog_32_method_12_code
def yJ3_checkFromToIndex_8c36e : MethodName := ⟨RJ3, "checkFromToIndex", "(IIILjava/util/function/BiFunction;)I"⟩
def RL : String := "SockFairLaw"
abbrev cL_fair : ByteArray := method_3_code
def yL_fair : MethodName := ⟨RL, "fair", "(LSockFair;I[J)I"⟩
abbrev cL_count : ByteArray := method_4_code
def yL_count : MethodName := ⟨RL, "count", "(LSockFair;I[J)I"⟩
abbrev cL_person : ByteArray := method_5_code
def yL_person : MethodName := ⟨RL, "person", "(LSockFair;II[J)I"⟩
abbrev cL_alike : ByteArray := method_6_code
def yL_alike : MethodName := ⟨RL, "alike", "(LSockFair;II[J)I"⟩
abbrev cL_liking : ByteArray := method_7_code
def yL_liking : MethodName := ⟨RL, "liking", "(LSockFair;II[J)I"⟩
abbrev cL_dye : ByteArray := method_8_code
def yL_dye : MethodName := ⟨RL, "dye", "(LSockFair;II[J)I"⟩
abbrev cL_darn : ByteArray := method_9_code
def yL_darn : MethodName := ⟨RL, "darn", "(LSockFair;II[J)I"⟩
abbrev cL_unravel : ByteArray := method_10_code
def yL_unravel : MethodName := ⟨RL, "unravel", "(LSockFair;I[J)I"⟩
abbrev cL_bind : ByteArray := method_11_code
def yL_bind : MethodName := ⟨RL, "bind", "(LSockFair;II[J)I"⟩
abbrev cL_then : ByteArray := method_12_code
def yL_then : MethodName := ⟨RL, "then", "(LSockFair;II[J)I"⟩
abbrev cL_when : ByteArray := method_13_code
def yL_when : MethodName := ⟨RL, "when", "(LSockFair;I[J)I"⟩
abbrev cL_worn : ByteArray := method_14_code
def yL_worn : MethodName := ⟨RL, "worn", "(LSockFair;I[J)I"⟩
abbrev cL_couples : ByteArray := method_15_code
def yL_couples : MethodName := ⟨RL, "couples", "(LSockFair;I[J)I"⟩
abbrev cL_single : ByteArray := method_16_code
def yL_single : MethodName := ⟨RL, "single", "(LSockFair;I[J)I"⟩
abbrev cL_most : ByteArray := method_17_code
def yL_most : MethodName := ⟨RL, "most", "(LSockFair;I[J)I"⟩
abbrev cL_rests : ByteArray := method_18_code
def yL_rests : MethodName := ⟨RL, "rests", "(LSockFair;I[J)I"⟩
abbrev cL_mates : ByteArray := method_19_code
def yL_mates : MethodName := ⟨RL, "mates", "(LSockFair;I[J)I"⟩
abbrev cL_way : ByteArray := method_20_code
def yL_way : MethodName := ⟨RL, "way", "(LSockFair;III[J)I"⟩
abbrev cL_knit : ByteArray := method_21_code
def yL_knit : MethodName := ⟨RL, "knit", "(LSockFair;I[J)I"⟩
abbrev cL_see : ByteArray := method_22_code
def yL_see : MethodName := ⟨RL, "see", "(LSockFair;III[J)I"⟩
abbrev cL_dyed : ByteArray := method_23_code
def yL_dyed : MethodName := ⟨RL, "dyed", "(LSockFair;I[J)I"⟩
abbrev cL_next : ByteArray := method_24_code
def yL_next : MethodName := ⟨RL, "next", "(LSockFair;I[J)I"⟩
abbrev cL_basket : ByteArray := method_25_code
def yL_basket : MethodName := ⟨RL, "basket", "(LSockFair;II[J)I"⟩
abbrev cL_game : ByteArray := method_26_code
def yL_game : MethodName := ⟨RL, "game", "(LSockFair;III[J)I"⟩
abbrev cL_generations : ByteArray := method_27_code
def yL_generations : MethodName := ⟨RL, "generations", "(LSockFair;III[J)I"⟩
abbrev cL_far : ByteArray := method_28_code
def yL_far : MethodName := ⟨RL, "far", "(LSockFair;II[J)I"⟩
abbrev cL_lasts : ByteArray := method_29_code
def yL_lasts : MethodName := ⟨RL, "lasts", "(LSockFair;I[J)I"⟩
abbrev cL_colour : ByteArray := method_30_code
def yL_colour : MethodName := ⟨RL, "colour", "(LSockFair;I[J)I"⟩
abbrev cL_law : ByteArray := code
def yL_law : MethodName := ⟨RL, "law", "([I)Z"⟩
abbrev vwCl : List vw_C := [(RX0, TX0, 5), (RX1, TX1, 8), (RX2, TX2, 5), (RX3, TX3, 8), (RX4, TX4, 5), (RX5, TX5, 11), (RX6, TX6, 9), (RX7, TX7, 4), (RX8, TX8, 7), (RX9, TX9, 7), (RX10, TX10, 9), (RX11, TX11, 18), (RX12, TX12, 63)]
end
section
/-! ===== BEGIN words of one list among another's, by their places ===== -/
theorem goodIn_r {big : List Cond} (ws : List Cond) (ps : List Nat) (hp : ws = ps.filterMap (fun i => big[i]?)) (h : ws.all goodWord = true) : GoodIn big ws := by
  intro w hw
  have h1 := List.all_eq_true.mp h w hw
  rw [hp] at hw
  obtain ⟨i, -, hi⟩ := List.mem_filterMap.mp hw
  have hm : w ∈ big := by first | exact List.mem_of_getElem? hi | exact List.getElem?_mem hi
  exact ⟨hm, good_of_word h1⟩
theorem goodIn_app {big a b : List Cond} (ha : GoodIn big a) (hb : GoodIn big b) : GoodIn big (a ++ b) := fun w h => (List.mem_append.mp h).elim (ha w) (hb w)
theorem goodIn_ca {big a b : List Cond} {c : Cond} (ha : GoodIn big (c :: a)) (hb : GoodIn big b) : GoodIn big (c :: (a ++ b)) := fun w h => (List.mem_cons.mp h).elim (fun e => ha w (List.mem_cons.mpr (Or.inl e))) (fun h => (List.mem_append.mp h).elim (fun h => ha w (List.mem_cons.mpr (Or.inr h))) (hb w))
theorem goodIn_sub {big ws : List Cond} (hm : ∀ w ∈ ws, w ∈ big) (h : ws.all goodWord = true) : GoodIn big ws := fun w hw => ⟨hm w hw, good_of_word (List.all_eq_true.mp h w hw)⟩
/-! ===== END ===== -/

/-! ===== BEGIN exceptions that leave a method, and their catching by the caller (launches without stack traces) ===== -/
section VXA
/-! The laws vx_back, vx_callV, vx_callS, vx_callSW, vx_throw0, vx_throwS follow proofs of the library, with one case more: JvmDerived/Free/Laws.lean (Back.of_free), Shelf42/LK1.lean (callV, callS), Shelf/KitTraced.lean (throwNew0V, throwNewS). -/
/-- where a method has thrown q: the class by its name, the cell, what was written, the world -/
def vx_T (XC : String → State → State → Prop) (st : State) (q : Addr) (t : State) (mc ms : Nat) (free : Addr → Prop) : Prop :=
  ∃ (E : String) (ce : Cell) (L : List Loc), XC E st t ∧ t.heap[q]? = some ce ∧ ce.vm = .none ∧ st.vm.findClass E = some ce.cls ∧ st.WarmedH t.vm ∧ st.sameButNew ({ t with vm := st.vm } : State) L mc ms ∧ ∀ z ∈ L, free z.base
def vx_Q (Qc : Array Value → State → Outcome → State → Prop) (XC : String → State → State → Prop) (mc ms : Nat) (free : Addr → Prop) : Array Value → State → Outcome → State → Prop := fun a st o t =>
  (Qc a st o t ∧ ∃ L, FrameEnd st o t L mc ms ∧ ∀ q ∈ L, free q.base) ∨ ∃ q, o = .threw q ∧ vx_T XC st q t mc ms free
/-- a callee that returns or throws -/
def vx_Met (l : Launch) (y : MethodName) (ws : List Cond) (rm : Room) (Pc : Array Value → State → Prop) (Qc : Array Value → State → Outcome → State → Prop) (XC : String → State → State → Prop) (mc ms : Nat) (free : Addr → Prop) : Prop :=
  MetFree l y (headSpec ws rm) Pc (fun _ _ _ _ _ => True) (vx_Q Qc XC mc ms free)
def vx_Post (XC : String → State → State → Prop) (mc ms : Nat) (free : Addr → Prop) : Pt → Array Value → Addr → Pt → Prop := fun A a q B =>
  ∃ (g : JFrame) (mk : MethodId) (t : State) (L : List Loc) (E : String) (ce : Cell), B.U.heap = t.heap ∧ B.U.vm = t.vm ∧ XC E (A.U.calling g mk a) t ∧ t.heap[q]? = some ce ∧ ce.vm = .none ∧ A.U.vm.findClass E = some ce.cls ∧ B.locs = A.locs ++ L ∧ (∀ z ∈ L, free z.base) ∧ B.cells = A.cells + mc ∧ B.slots = A.slots + ms
def vx_Back (l : Launch) (R : Room) (p : Program) (e : Env) (below : List Frame) (s : State) (sargs : Array Value) (y : MethodName) (len W9 : Nat)
    (Pre : Pt → Array Value → Prop) (Post : Pt → Array Value → Option Value → Pt → Prop) (PostX : Pt → Array Value → Addr → Pt → Prop) : Prop :=
  ∀ (m : MethodId) (meth : Method) (c : Code) (A : Pt) (g : JFrame) (ig : Instr) (mk : MethodId) (a : Array Value),
    Stand p l e R s m sargs below meth c A.U A.locs A.cells A.slots → g.method = m → g.locals.size = c.maxLocals → decode c.code g.pc = .ok (ig, len) →
    2 * g.monitorRoom + (g.stack.map fun v => v.category).sum ≤ W9 → A.U.methodNamed? y = some mk → Pre A a →
    (∃ (v : Option Value) (B : Pt), Stand p l e R s m sargs below meth c B.U B.locs B.cells B.slots ∧ Post A a v B ∧
      Steps p.tables e below (doInvoke e (A.U.setTop g) [] mk a).1 (B.U.setTop { g with pc := g.pc + len, stack := v.toList ++ g.stack })) ∨
    (∃ (q : Addr) (B : Pt), Stand p l e R s m sargs below meth c B.U B.locs B.cells B.slots ∧ PostX A a q B ∧
      Steps p.tables e below (doInvoke e (A.U.setTop g) [] mk a).1 ((B.U.setTop g).pushFrame (.throwing q)))
section Payer
variable {l : Launch} {R : Room} {p : Program} {e : Env} {below : List Frame} {s : State} {sargs : Array Value} {y : MethodName} {len W9 : Nat}
theorem vx_back {ws : List Cond} {rm : Room} {Pc : Array Value → State → Prop} {Qc : Array Value → State → Outcome → State → Prop} {XC : String → State → State → Prop} {mc ms : Nat} {free : Addr → Prop} {bytes : ByteArray} {maxL : Nat} {ret : Option FieldType}
    (hM : vx_Met l y ws rm Pc Qc XC mc ms free) (hblind : FrameBlind Pc) (hrc : rm.cells = mc) (hrs : rm.slots = ms)
    (hframes : rm.frames + 1 ≤ R.frames) (hlocals : W9 + (maxL + 11) + rm.locals ≤ R.locals)
    (hws : ∀ w ∈ ws, ∀ a' U, s.WarmedH U.vm → w.before a' U = true) (hcode : Cond.code y bytes maxL ret ∈ ws) (hinit : ∀ a' U, s.WarmedH U.vm → (Cond.initialized y.cls).before a' U = true) :
    vx_Back l R p e below s sargs y len W9 (PreOf R mc ms Pc) (PostOf Qc mc ms free) (vx_Post XC mc ms free) := by
  intro m meth c A g ig mk a X hg hsize hdg hW hn hp
  have h1 : (headSpec ws rm).pre.before a A.U = true := atoms_intro fun w hw => hws w hw _ _ X.warmed
  have h2 : (Cond.code y bytes maxL ret).before a A.U = true := hws _ hcode _ _ X.warmed
  have h3 : (Cond.initialized y.cls).before a A.U = true := hinit _ _ X.warmed
  have h4 : A.cells + (headSpec ws rm).room.cells ≤ R.cells := by rw [show (headSpec ws rm).room.cells = mc from hrc]; exact hp.1
  have h5 : A.slots + (headSpec ws rm).room.slots ≤ R.slots := by rw [show (headSpec ws rm).room.slots = ms from hrs]; exact hp.2.1
  have hPc : Pc a (A.U.calling g mk a) := hblind _ _ _ _ hp.2.2
  obtain ⟨U, Ls, c0, s0⟩ := A
  dsimp only [Pt.U, Pt.locs, Pt.cells, Pt.slots] at h1 h2 h3 h4 h5 X hn hPc ⊢
  obtain ⟨methY, cY, hmY, hcY, -, hlY, -, -, -, -⟩ := Cond.code_spec hn h2
  obtain ⟨kY, hkY, -⟩ := className_of_methodNamed hn
  have hinitY : kY.init = .initialized := Cond.initialized_spec (findClass_of_methodNamed hn) hkY h3
  have h : At U g.method c below := by rw [hg]; exact X.here
  have hlocals9 : W9 + (maxL + 11) + (headSpec ws rm).room.locals ≤ R.locals := hlocals
  have happ : (headSpec ws rm).appliesLoose y e.platform (U.calling g mk a) = true :=
    Spec.appliesLoose_calling (g := g) h hdg hn hkY hinitY
      (X.room_calling (g := g) (R' := (headSpec ws rm).room) hsize hmY hcY hframes (by rw [hlY]; omega) h4 h5) h1
  obtain ⟨mid, hmid⟩ := h.above
  have hfr : (U.setTop g).frames = (.java g :: mid) ++ below := by rw [State.frames_setTop' g h.top, hmid]; rfl
  obtain ⟨o, s₂, hsteps, -, hend, hq⟩ := Steps.callFree hM p X.admits X.cas X.clock (acts := []) hfr happ hPc trivial
  have hq' : vx_Q Qc XC mc ms free a (U.calling g mk a) o s₂ := hq
  rw [State.frames_setTop' g h.top] at hend
  obtain ⟨g₀, hg0⟩ := Option.isSome_iff_exists.mp h.top
  obtain ⟨r, hr⟩ := State.topJava?_eq_some.mp hg0
  have hr' : (({ U with heap := s₂.heap, slotsUsed := s₂.slotsUsed } : State).setVm s₂.vm).frames = .java g₀ :: r := hr
  rcases hq' with ⟨hqc, L, hfe, hL⟩ | ⟨q, rfl, E, ce, L, hx, hce, hcv, hcl, hW₂, hsm, hL⟩
  · obtain ⟨⟨v, rfl⟩, hW₂, e2, q2, q3, q4, q5, q6⟩ := id hfe
    have e3 : s₂ = ({ (U.calling g mk a).setFrames s₂.frames with heap := s₂.heap, slotsUsed := s₂.slotsUsed } : State).setVm s₂.vm := by
      have : s₂ = ({ s₂ with vm := (U.calling g mk a).vm } : State).setVm s₂.vm := rfl
      rw [e2] at this
      exact this
    obtain ⟨c₂, i₂, len₂, hc₂, hd₂, hf₂⟩ := hend
    have hW' : U.WarmedH s₂.vm := hW₂
    have hcc : c₂ = c := by
      have h1 : s₂.code? g.method = U.code? g.method := by
        rw [State.code?_eq, State.code?_eq, hW'.alike.method?]
      exact Option.some.inj (hc₂.symm.trans (h1.trans h.code))
    subst hcc
    have hlen : len₂ = len := by rw [hdg] at hd₂; cases hd₂; rfl
    subst hlen
    have hs₂ : s₂ = (({ U with heap := s₂.heap, slotsUsed := s₂.slotsUsed } : State).setVm s₂.vm).setTop { g with pc := g.pc + len₂, stack := v.toList ++ g.stack } := by
      refine e3.trans ?_
      rw [hf₂, State.calling_eq h.top, State.setFrames_setFrames, State.setTop_of_frames _ hr', hr]
      rfl
    have hsame : U.sameButNew ({ U with heap := s₂.heap, slotsUsed := s₂.slotsUsed } : State) L mc ms := by
      refine ⟨?_, q2, q3, q4, q5, q6⟩
      obtain ⟨t, ht, -⟩ := State.frames_cons hr
      show ({ U with heap := s₂.heap, slotsUsed := s₂.slotsUsed } : State) = { U.setFrames U.frames with heap := s₂.heap, slotsUsed := s₂.slotsUsed }
      rw [State.setFrames_self ht]
    subst hg
    refine Or.inl ⟨v, ⟨(({ U with heap := s₂.heap, slotsUsed := s₂.slotsUsed } : State).setVm s₂.vm), Ls ++ L, c0 + mc, s0 + ms⟩,
      ⟨X.admits, X.cas, X.clock, X.frames, X.room, X.hears, X.method, X.code, (X.here.setHeapUsed s₂.heap s₂.slotsUsed).setVm hW'.alike, X.tail, State.WarmedH.trans X.warmed hW', X.limits, X.bytes, X.same.trans (hsame.setVm s.vm)⟩,
      ⟨g, mk, s₂, L, rfl, rfl, hqc, rfl, hL, rfl, rfl⟩, ?_⟩
    show Steps p.tables e below _ ((({ U with heap := s₂.heap, slotsUsed := s₂.slotsUsed } : State).setVm s₂.vm).setTop { g with pc := g.pc + len₂, stack := v.toList ++ g.stack })
    rw [← hs₂]
    exact hsteps
  · obtain ⟨e2, q2, q3, q4, q5, q6⟩ := id hsm
    have e3 : s₂ = ({ (U.calling g mk a).setFrames s₂.frames with heap := s₂.heap, slotsUsed := s₂.slotsUsed } : State).setVm s₂.vm := by
      have : s₂ = ({ s₂ with vm := (U.calling g mk a).vm } : State).setVm s₂.vm := rfl
      rw [e2] at this
      exact this
    have hf₂ : s₂.frames = .throwing q :: .java g :: U.frames.tail := hend
    have hW' : U.WarmedH s₂.vm := hW₂
    have hs₂ : s₂ = ((({ U with heap := s₂.heap, slotsUsed := s₂.slotsUsed } : State).setVm s₂.vm).setTop g).pushFrame (.throwing q) := by
      refine e3.trans ?_
      rw [hf₂, State.calling_eq h.top, State.setFrames_setFrames, State.pushFrame, State.frames_setTop _ hr', State.setTop_of_frames _ hr', State.setFrames_setFrames, hr]
      rfl
    have hsame : U.sameButNew ({ U with heap := s₂.heap, slotsUsed := s₂.slotsUsed } : State) L mc ms := by
      refine ⟨?_, q2, q3, q4, q5, q6⟩
      obtain ⟨t, ht, -⟩ := State.frames_cons hr
      show ({ U with heap := s₂.heap, slotsUsed := s₂.slotsUsed } : State) = { U.setFrames U.frames with heap := s₂.heap, slotsUsed := s₂.slotsUsed }
      rw [State.setFrames_self ht]
    subst hg
    refine Or.inr ⟨q, ⟨(({ U with heap := s₂.heap, slotsUsed := s₂.slotsUsed } : State).setVm s₂.vm), Ls ++ L, c0 + mc, s0 + ms⟩,
      ⟨X.admits, X.cas, X.clock, X.frames, X.room, X.hears, X.method, X.code, (X.here.setHeapUsed s₂.heap s₂.slotsUsed).setVm hW'.alike, X.tail, State.WarmedH.trans X.warmed hW', X.limits, X.bytes, X.same.trans (hsame.setVm s.vm)⟩,
      ⟨g, mk, s₂, L, E, ce, rfl, rfl, hx, hce, hcv, hcl, rfl, hL, rfl, rfl⟩, ?_⟩
    show Steps p.tables e below _ (((({ U with heap := s₂.heap, slotsUsed := s₂.slotsUsed } : State).setVm s₂.vm).setTop g).pushFrame (.throwing q))
    rw [← hs₂]
    exact hsteps
end Payer
section Calls
variable {p : Program} {l : Launch} {e : Env} {R : Room} {s : State} {m : MethodId} {args : Array Value} {below : List Frame} {meth : Method} {c : Code} {T : State} {locs : List Loc} {cells slots : Nat}
theorem vx_callV (X : Stand p l e R s m args below meth c T locs cells slots) (hexec : p.tables.exec = Jvm.exec) {own C : String} {index : Nat} {y : MethodName} {bytes : ByteArray} {maxL : Nat} {ret : Option FieldType}
    (hown : s.vm.findClass own = some m.cls) (hlink : (Cond.methodLink own index y).before args s = true) (hinst : (Cond.instanceMethod y).before args s = true) (hsel : (Cond.selects C y y).before args s = true)
    (hcode : (Cond.code y bytes maxL ret).before args s = true) (hy : y.cls ≠ "java/lang/invoke/MethodHandle" ∧ y.cls ≠ "java/lang/invoke/VarHandle")
    {W9 : Nat} {Pre : Pt → Array Value → Prop} {Post : Pt → Array Value → Option Value → Pt → Prop} {PostX : Pt → Array Value → Addr → Pt → Prop} (hK : vx_Back l R p e below s args y 3 W9 Pre Post PostX)
    {b : Addr} {cellB : Cell} (hcell : T.heap[b]? = some cellB) (hobj : cellB.vm.isStatics = false) (hcls : s.vm.findClass C = some cellB.cls)
    {g : JFrame} (hg : g.method = m) (hsize : g.locals.size = c.maxLocals) {argsL rest : List Value} (hlen : ∀ sig, parseMethodDescriptor y.desc = some sig → argsL.length = sig.parameters.length)
    (hstack : g.stack = argsL.reverse ++ .ref b :: rest) (hW : 2 * g.monitorRoom + (rest.map fun v => v.category).sum ≤ W9) (hdg : decode c.code g.pc = .ok (.invokevirtual index, 3))
    (hpre : ∀ vm₁, s.WarmedH vm₁ → Pre ⟨T.setVm vm₁, locs, cells, slots⟩ (Value.ref b :: argsL).toArray) :
    (∃ (v : Option Value) (vm₁ : Vm) (B : Pt), s.WarmedH vm₁ ∧ Stand p l e R s m args below meth c B.U B.locs B.cells B.slots ∧ Post ⟨T.setVm vm₁, locs, cells, slots⟩ (Value.ref b :: argsL).toArray v B ∧
      ∀ target, Steps p.tables e below (B.U.setTop { g with pc := g.pc + 3, stack := v.toList ++ rest }) target → Steps p.tables e below (T.setTop g) target) ∨
    (∃ (q : Addr) (vm₁ : Vm) (B : Pt), s.WarmedH vm₁ ∧ Stand p l e R s m args below meth c B.U B.locs B.cells B.slots ∧ PostX ⟨T.setVm vm₁, locs, cells, slots⟩ (Value.ref b :: argsL).toArray q B ∧
      Steps p.tables e below (T.setTop g) ((B.U.setTop { g with stack := rest }).pushFrame (.throwing q))) := by
  obtain ⟨mk, methM, hnamed, hmethM, hstM, habM⟩ := Cond.instanceMethod_spec hinst
  obtain ⟨methM', cM, hmethM', -, -, -, -, -, -, hsigM⟩ := Cond.code_spec hnamed hcode
  cases hmethM.symm.trans hmethM'
  obtain ⟨c2, r2, m2, q1, q2, q3, q4, kP, hkP, hkPi⟩ := Cond.selects_spec hsel
  cases hcls.symm.trans q1
  cases (State.methodFound?_of_named hnamed hy).symm.trans q2
  cases hnamed.symm.trans q3
  have hselP : selectMethod e.platform s.vm cellB.cls mk = .method mk := by rw [Launch.admits_selectMethod X.admits]; exact q4
  obtain ⟨vm₁, X₁, hstep₁⟩ := X.invokevirtual hexec hown hlink hnamed hmethM hstM hkP hkPi hy (a := b) (cell := cellB) hcell
    (fun z h => by rw [h] at hobj; cases hobj) hselP hmethM habM hkP hkPi (g := g) hg (argsL := argsL) (rest := rest) (hlen _ hsigM) hstack hdg
  rcases hK m meth c ⟨T.setVm vm₁, locs, cells, slots⟩ { g with stack := rest } (.invokevirtual index) mk (Value.ref b :: argsL).toArray X₁ hg hsize hdg hW (X₁.named hnamed) (hpre vm₁ X₁.warmed) with ⟨v, B, X', hpost, hsteps⟩ | ⟨q, B, X', hpost, hsteps⟩
  · exact Or.inl ⟨v, vm₁, B, X₁.warmed, X', hpost, fun target h => hstep₁ _ fun acts => by rw [doInvoke_state]; exact hsteps.trans h⟩
  · exact Or.inr ⟨q, vm₁, B, X₁.warmed, X', hpost, hstep₁ _ fun acts => by rw [doInvoke_state]; exact hsteps⟩
theorem vx_callS (X : Stand p l e R s m args below meth c T locs cells slots) (hexec : p.tables.exec = Jvm.exec) {own : String} {index : Nat} {y : MethodName} {bytes : ByteArray} {maxL : Nat} {ret : Option FieldType}
    (hown : s.vm.findClass own = some m.cls) (hlink : (Cond.methodLink own index y).before args s = true) (hstat : (Cond.static y).before args s = true) (hinit : (Cond.initialized y.cls).before args s = true)
    (hcode : (Cond.code y bytes maxL ret).before args s = true) (hy : y.cls ≠ "java/lang/invoke/MethodHandle" ∧ y.cls ≠ "java/lang/invoke/VarHandle")
    {W9 : Nat} {Pre : Pt → Array Value → Prop} {Post : Pt → Array Value → Option Value → Pt → Prop} {PostX : Pt → Array Value → Addr → Pt → Prop} (hK : vx_Back l R p e below s args y 3 W9 Pre Post PostX)
    {g : JFrame} (hg : g.method = m) (hsize : g.locals.size = c.maxLocals) {argsL rest : List Value} (hlen : ∀ sig, parseMethodDescriptor y.desc = some sig → argsL.length = sig.parameters.length)
    (hstack : g.stack = argsL.reverse ++ rest) (hW : 2 * g.monitorRoom + (rest.map fun v => v.category).sum ≤ W9) (hdg : decode c.code g.pc = .ok (.invokestatic index, 3))
    (hpre : ∀ vm₁, s.WarmedH vm₁ → Pre ⟨T.setVm vm₁, locs, cells, slots⟩ argsL.toArray) :
    (∃ (v : Option Value) (vm₁ : Vm) (B : Pt), s.WarmedH vm₁ ∧ Stand p l e R s m args below meth c B.U B.locs B.cells B.slots ∧ Post ⟨T.setVm vm₁, locs, cells, slots⟩ argsL.toArray v B ∧
      ∀ target, Steps p.tables e below (B.U.setTop { g with pc := g.pc + 3, stack := v.toList ++ rest }) target → Steps p.tables e below (T.setTop g) target) ∨
    (∃ (q : Addr) (vm₁ : Vm) (B : Pt), s.WarmedH vm₁ ∧ Stand p l e R s m args below meth c B.U B.locs B.cells B.slots ∧ PostX ⟨T.setVm vm₁, locs, cells, slots⟩ argsL.toArray q B ∧
      Steps p.tables e below (T.setTop g) ((B.U.setTop { g with stack := rest }).pushFrame (.throwing q))) := by
  obtain ⟨mk, hnamed⟩ := Cond.code_named hcode
  obtain ⟨methM, cM, hmethM, -, -, -, -, -, -, hsigM⟩ := Cond.code_spec hnamed hcode
  have hstatic : methM.isStatic = true := Cond.static_spec hnamed hmethM hstat
  obtain ⟨kP, hkP, -⟩ := className_of_methodNamed hnamed
  have hinitP : kP.init = .initialized := Cond.initialized_spec (findClass_of_methodNamed hnamed) hkP hinit
  obtain ⟨vm₁, X₁, hstep₁⟩ := X.invokestatic hexec hown hlink hnamed hmethM hstatic hkP hinitP hy (g := g) hg (argsL := argsL) (rest := rest) (hlen _ hsigM) hstack hdg
  rcases hK m meth c ⟨T.setVm vm₁, locs, cells, slots⟩ { g with stack := rest } (.invokestatic index) mk argsL.toArray X₁ hg hsize hdg hW (X₁.named hnamed) (hpre vm₁ X₁.warmed) with ⟨v, B, X', hpost, hsteps⟩ | ⟨q, B, X', hpost, hsteps⟩
  · exact Or.inl ⟨v, vm₁, B, X₁.warmed, X', hpost, fun target h => hstep₁ _ fun acts => by rw [doInvoke_state]; exact hsteps.trans h⟩
  · exact Or.inr ⟨q, vm₁, B, X₁.warmed, X', hpost, hstep₁ _ fun acts => by rw [doInvoke_state]; exact hsteps⟩
end Calls
theorem vx_cls {s : State} {T : State} {vm₁ : Vm} {E : String} {k : ClassId} (hW : s.WarmedH vm₁) (h : (T.setVm vm₁).vm.findClass E = some k) : s.vm.findClass E = some k := by
  have h1 : vm₁.findClass E = some k := h
  rw [hW.alike.findClass] at h1
  exact h1
/-- the method's frame g, with q thrown over it -/
def vx_W (p : Program) (l : Launch) (e : Env) (R : Room) (s : State) (m : MethodId) (args : Array Value) (below : List Frame) (meth : Method) (c : Code) (H : Heap) (locs : List Loc) (cells slots : Nat) (Q : State → Prop) (g : JFrame) (q : Addr) : Prop :=
  ∀ T : State, T.heap = H → Stand p l e R s m args below meth c T locs cells slots → ∃ t, Steps p.tables e below ((T.setTop g).pushFrame (.throwing q)) t ∧ Q t
def vx_Run (p : Program) (l : Launch) (e : Env) (R : Room) (s : State) (m : MethodId) (args : Array Value) (below : List Frame) (meth : Method) (c : Code) (H : Heap) (locs : List Loc) (cells slots mc ms : Nat) (g : JFrame) (rest : List Value) (Qa : State → Outcome → State → Prop) (XC : String → State → State → Prop) (free : Addr → Prop) : Prop :=
  ∀ T : State, T.heap = H → Stand p l e R s m args below meth c T locs cells slots →
    (∃ (v : Option Value) (st₀ t T' : State) (L : List Loc), st₀.heap = H ∧ Stand p l e R s m args below meth c T' (locs ++ L) (cells + mc) (slots + ms) ∧ (∀ q ∈ L, free q.base) ∧ T'.heap = t.heap ∧ T'.vm = t.vm ∧ Qa st₀ (.returned v) t ∧
      Goes p e below T g T' { g with pc := g.pc + 3, stack := v.toList ++ rest }) ∨
    (∃ (q : Addr) (st₀ t T' : State) (L : List Loc) (E : String) (ce : Cell), st₀.heap = H ∧ Stand p l e R s m args below meth c T' (locs ++ L) (cells + mc) (slots + ms) ∧ (∀ z ∈ L, free z.base) ∧ T'.heap = t.heap ∧ T'.vm = t.vm ∧ XC E st₀ t ∧ t.heap[q]? = some ce ∧ ce.vm = .none ∧ s.vm.findClass E = some ce.cls ∧
      Steps p.tables e below (T.setTop g) ((T'.setTop { g with stack := rest }).pushFrame (.throwing q)))
def vx_X {S : Type} (px : S → Prop) (B : String → S → State → Prop) (A : Nat → Prop) : String → State → State → Prop := fun E st t => ∃ u : S, px u ∧ B E u t ∧ va_F A st t
section Runs
variable {p : Program} {l : Launch} {e : Env} {R : Room} {s : State} {m : MethodId} {args : Array Value} {below : List Frame} {meth : Method} {c : Code} {H : Heap} {locs : List Loc} {cells slots : Nat}
variable {y : MethodName} {bytes cc : ByteArray} {maxL nL mc ms n index : Nat} {ret : Option FieldType} {ws : List Cond} {rm : Room} {Pc : Array Value → State → Prop} {Qc : Array Value → State → Outcome → State → Prop} {XC : String → State → State → Prop} {free : Addr → Prop} {Ts : List Cond} {own C : String} {b : Addr} {As rest : List Value} {g : JFrame}
theorem vx_callBack (cb : CallB R s args own index y bytes maxL ret ws rm mc ms n) (hM : vx_Met l y ws rm Pc Qc XC mc ms free) (hbl : FrameBlind Pc) : vx_Back l R p e below s args y 3 8 (PreOf R mc ms Pc) (PostOf Qc mc ms free) (vx_Post XC mc ms free) := by
  obtain ⟨hrc, hrs, hfr, hlo, hws, hcw, -, hini, -⟩ := cb
  exact vx_back (bytes := bytes) (maxL := maxL) (ret := ret) hM hbl hrc hrs hfr hlo hws hcw (fun a' U hW => word_at hW (Or.inl (by first | rfl | simp [Cond.onTables, Cond.keeps, Cond.steady])) hini)
theorem vx_runV (S : CallFix p m c cc nL s args Ts own) (hM : vx_Met l y ws rm Pc Qc XC mc ms free) (cw : CallW R s args own C index y bytes maxL ret ws rm mc ms n) (hp : PreV s H C b Pc As)
    (hg : g.method = m) (hn : As.length = n) (hsize : g.locals.size = nL) (hstack : g.stack = As.reverse ++ .ref b :: rest) (hW : 2 * g.monitorRoom + (rest.map fun v => v.category).sum ≤ 8) (hdg : decode cc g.pc = .ok (.invokevirtual index, 3)) (hf : cells + mc ≤ R.cells ∧ slots + ms ≤ R.slots) :
    vx_Run p l e R s m args below meth c H locs cells slots mc ms g rest (Qc (Value.ref b :: As).toArray) XC free := by
  have hK : vx_Back l R p e below s args y 3 8 (PreOf R mc ms Pc) (PostOf Qc mc ms free) (vx_Post XC mc ms free) := vx_callBack cw.1 hM hp.1
  obtain ⟨⟨-, -, -, -, -, -, hcode, -, hy, hlen, hl⟩, hin, hse⟩ := cw
  obtain ⟨hx, hb, hml, ho, -⟩ := S
  obtain ⟨-, ⟨cellB, hcB, hoB, hclB⟩, hPc⟩ := hp
  intro T hT X
  rcases vx_callV X hx (C := C) (bytes := bytes) (maxL := maxL) (ret := ret) ho hl hin hse hcode hy hK (by rw [hT]; exact hcB) hoB hclB hg (hsize.trans hml.symm) (argsL := As) (rest := rest) (fun sig h => hn.trans (hlen sig h)) hstack hW (by rw [hb]; exact hdg)
    (fun vm₁ hW₁ => ⟨hf.1, hf.2, hPc (T.setVm vm₁) hT hW₁⟩) with ⟨v, vm₁, ⟨U', l2, c2, s2⟩, hW₁, X', ⟨g', mk, t, L, e1, e2, hq, h1, hL, h2, h3⟩, st⟩ | ⟨q, vm₁, ⟨U', l2, c2, s2⟩, hW₁, X', ⟨g', mk, t, L, E, ce, e1, e2, hq, hce, hcv, hcl, h1, hL, h2, h3⟩, st⟩
  · dsimp only [Pt.U, Pt.locs, Pt.cells, Pt.slots] at X' e1 e2 h1 h2 h3 st
    subst h1; subst h2; subst h3
    exact Or.inl ⟨v, (T.setVm vm₁).calling g' mk (Value.ref b :: As).toArray, t, U', L, hT, X', hL, e1, e2, hq, st⟩
  · dsimp only [Pt.U, Pt.locs, Pt.cells, Pt.slots] at X' e1 e2 h1 h2 h3 st hcl
    subst h1; subst h2; subst h3
    exact Or.inr ⟨q, (T.setVm vm₁).calling g' mk (Value.ref b :: As).toArray, t, U', L, E, ce, hT, X', hL, e1, e2, hq, hce, hcv, vx_cls hW₁ hcl, st⟩
theorem vx_runS (S : CallFix p m c cc nL s args Ts own) (hM : vx_Met l y ws rm Pc Qc XC mc ms free) (cw : CallB R s args own index y bytes maxL ret ws rm mc ms n ∧ (Cond.static y).before args s = true) (hp : PreS s H Pc As)
    (hg : g.method = m) (hn : As.length = n) (hsize : g.locals.size = nL) (hstack : g.stack = As.reverse ++ rest) (hW : 2 * g.monitorRoom + (rest.map fun v => v.category).sum ≤ 8) (hdg : decode cc g.pc = .ok (.invokestatic index, 3)) (hf : cells + mc ≤ R.cells ∧ slots + ms ≤ R.slots) :
    vx_Run p l e R s m args below meth c H locs cells slots mc ms g rest (Qc As.toArray) XC free := by
  have hK : vx_Back l R p e below s args y 3 8 (PreOf R mc ms Pc) (PostOf Qc mc ms free) (vx_Post XC mc ms free) := vx_callBack cw.1 hM hp.1
  obtain ⟨⟨-, -, -, -, -, -, hcode, hini, hy, hlen, hl⟩, hstt⟩ := cw
  obtain ⟨hx, hb, hml, ho, -⟩ := S
  intro T hT X
  rcases vx_callS X hx (bytes := bytes) (maxL := maxL) (ret := ret) ho hl hstt hini hcode hy hK hg (hsize.trans hml.symm) (argsL := As) (rest := rest) (fun sig h => hn.trans (hlen sig h)) hstack hW (by rw [hb]; exact hdg)
    (fun vm₁ hW₁ => ⟨hf.1, hf.2, hp.2 (T.setVm vm₁) hT hW₁⟩) with ⟨v, vm₁, ⟨U', l2, c2, s2⟩, hW₁, X', ⟨g', mk, t, L, e1, e2, hq, h1, hL, h2, h3⟩, st⟩ | ⟨q, vm₁, ⟨U', l2, c2, s2⟩, hW₁, X', ⟨g', mk, t, L, E, ce, e1, e2, hq, hce, hcv, hcl, h1, hL, h2, h3⟩, st⟩
  · dsimp only [Pt.U, Pt.locs, Pt.cells, Pt.slots] at X' e1 e2 h1 h2 h3 st
    subst h1; subst h2; subst h3
    exact Or.inl ⟨v, (T.setVm vm₁).calling g' mk As.toArray, t, U', L, hT, X', hL, e1, e2, hq, st⟩
  · dsimp only [Pt.U, Pt.locs, Pt.cells, Pt.slots] at X' e1 e2 h1 h2 h3 st hcl
    subst h1; subst h2; subst h3
    exact Or.inr ⟨q, (T.setVm vm₁).calling g' mk As.toArray, t, U', L, E, ce, hT, X', hL, e1, e2, hq, hce, hcv, vx_cls hW₁ hcl, st⟩
end Runs
section Rows
variable {p : Program} {l : Launch} {e : Env} {R : Room} {s : State} {m : MethodId} {args : Array Value} {below : List Frame} {meth : Method} {c : Code} {H : Heap} {locs : List Loc} {cells slots : Nat} {Q : State → Prop}
variable {mc ms : Nat} {free : Addr → Prop} {A0 A1 : Nat → Prop} {H0 : Heap} {a : Array Value} {pc : Nat} {ls : Array Slot} {st0 rest : List Value}
theorem vx_keep {st₀ t T' : State} {L : List Loc} (h0 : st₀.heap = H) (e1 : T'.heap = t.heap) (hS : va_S A0 H0 H locs) (hA : ∀ q, q < H.size → A1 q → A0 q) (hf : ∀ q, free q → A0 q) (hL : ∀ q ∈ L, free q.base) (hF : va_F A1 st₀ t) :
    H.size ≤ T'.heap.size ∧ (∀ q : Nat, q < H.size → ¬ A1 q → T'.heap[q]? = H[q]?) ∧ va_S A0 H0 T'.heap (locs ++ L) := by
  obtain ⟨hz, hk⟩ := hF
  rw [h0] at hz hk
  exact ⟨by rw [e1]; exact hz, fun q h1 h2 => by rw [e1]; exact hk q h1 h2,
    ⟨Nat.le_trans hS.1 (by rw [e1]; exact hz), fun q h1 h2 => by rw [e1, hk q (Nat.lt_of_lt_of_le h1 hS.1) (fun z => h2 (hA q (Nat.lt_of_lt_of_le h1 hS.1) z))]; exact hS.2.1 q h1 h2, fun q hq => by
      rcases List.mem_append.mp hq with h | h
      · exact hS.2.2 q h
      · exact hf _ (hL q h)⟩⟩
theorem vx_calli {S SX : Type} {post : Int32 → S → Prop} {px : SX → Prop} {B : S → State → Prop} {BX : String → SX → State → Prop} {AX : Nat → Prop} (hr : vx_Run p l e R s m args below meth c H locs cells slots mc ms (F0 m pc ls st0) rest (va_Qi post B A1 a) (vx_X px BX AX) free) (hS : va_S A0 H0 H locs) (hA : ∀ q, q < H.size → A1 q → A0 q) (hf : ∀ q, free q → A0 q) (hAX : ∀ q, q < H.size → AX q → A0 q)
    (kx : ∀ (E : String) (ce : Cell) (q9 : Addr) (u : SX) (t : State) (H1 : Heap) (locs1 : List Loc), t.heap = H1 → s.vm.Alike t.vm → px u → BX E u t → H.size ≤ H1.size → (∀ q : Nat, q < H.size → ¬ AX q → H1[q]? = H[q]?) → va_S A0 H0 H1 locs1 → H1[q9]? = some ce → ce.vm = .none → s.vm.findClass E = some ce.cls → vx_W p l e R s m args below meth c H1 locs1 (cells + mc) (slots + ms) Q (F0 m pc ls rest) q9)
    (kk : ∀ (r : Int32) (u : S) (t : State) (H1 : Heap) (locs1 : List Loc), t.heap = H1 → s.vm.Alike t.vm → post r u → B u t → H.size ≤ H1.size → (∀ q : Nat, q < H.size → ¬ A1 q → H1[q]? = H[q]?) → va_S A0 H0 H1 locs1 → W p l e R s m args below meth c H1 locs1 (cells + mc) (slots + ms) Q (F0 m (pc + 3) ls (.int r :: rest))) : W p l e R s m args below meth c H locs cells slots Q (F0 m pc ls st0) := by
  intro T hT X
  rcases hr T hT X with ⟨v, st₀, t, T', L, h0, X', hL, e1, e2, ⟨⟨r, u, hv, hp, hb⟩, hF⟩, st⟩ | ⟨q, st₀, t, T', L, E, ce, h0, X', hL, e1, e2, ⟨u, hp, hb, hF⟩, hce, hcv, hcl, st⟩
  · cases hv
    obtain ⟨k1, k2, k3⟩ := vx_keep h0 e1 hS hA hf hL hF
    obtain ⟨t2, a1, b1⟩ := kk r u t T'.heap (locs ++ L) e1.symm (by rw [← e2]; exact X'.warmed.alike) hp hb k1 k2 k3 T' rfl X'
    exact ⟨t2, st t2 a1, b1⟩
  · obtain ⟨k1, k2, k3⟩ := vx_keep h0 e1 hS hAX hf hL hF
    obtain ⟨t2, a1, b1⟩ := kx E ce q u t T'.heap (locs ++ L) e1.symm (by rw [← e2]; exact X'.warmed.alike) hp hb k1 k2 k3 (by rw [e1]; exact hce) hcv hcl T' rfl X'
    exact ⟨t2, st.trans a1, b1⟩
theorem vx_calll {S SX : Type} {post : Int64 → S → Prop} {px : SX → Prop} {B : S → State → Prop} {BX : String → SX → State → Prop} {AX : Nat → Prop} (hr : vx_Run p l e R s m args below meth c H locs cells slots mc ms (F0 m pc ls st0) rest (va_Ql post B A1 a) (vx_X px BX AX) free) (hS : va_S A0 H0 H locs) (hA : ∀ q, q < H.size → A1 q → A0 q) (hf : ∀ q, free q → A0 q) (hAX : ∀ q, q < H.size → AX q → A0 q)
    (kx : ∀ (E : String) (ce : Cell) (q9 : Addr) (u : SX) (t : State) (H1 : Heap) (locs1 : List Loc), t.heap = H1 → s.vm.Alike t.vm → px u → BX E u t → H.size ≤ H1.size → (∀ q : Nat, q < H.size → ¬ AX q → H1[q]? = H[q]?) → va_S A0 H0 H1 locs1 → H1[q9]? = some ce → ce.vm = .none → s.vm.findClass E = some ce.cls → vx_W p l e R s m args below meth c H1 locs1 (cells + mc) (slots + ms) Q (F0 m pc ls rest) q9)
    (kk : ∀ (r : Int64) (u : S) (t : State) (H1 : Heap) (locs1 : List Loc), t.heap = H1 → s.vm.Alike t.vm → post r u → B u t → H.size ≤ H1.size → (∀ q : Nat, q < H.size → ¬ A1 q → H1[q]? = H[q]?) → va_S A0 H0 H1 locs1 → W p l e R s m args below meth c H1 locs1 (cells + mc) (slots + ms) Q (F0 m (pc + 3) ls (.long r :: rest))) : W p l e R s m args below meth c H locs cells slots Q (F0 m pc ls st0) := by
  intro T hT X
  rcases hr T hT X with ⟨v, st₀, t, T', L, h0, X', hL, e1, e2, ⟨⟨r, u, hv, hp, hb⟩, hF⟩, st⟩ | ⟨q, st₀, t, T', L, E, ce, h0, X', hL, e1, e2, ⟨u, hp, hb, hF⟩, hce, hcv, hcl, st⟩
  · cases hv
    obtain ⟨k1, k2, k3⟩ := vx_keep h0 e1 hS hA hf hL hF
    obtain ⟨t2, a1, b1⟩ := kk r u t T'.heap (locs ++ L) e1.symm (by rw [← e2]; exact X'.warmed.alike) hp hb k1 k2 k3 T' rfl X'
    exact ⟨t2, st t2 a1, b1⟩
  · obtain ⟨k1, k2, k3⟩ := vx_keep h0 e1 hS hAX hf hL hF
    obtain ⟨t2, a1, b1⟩ := kx E ce q u t T'.heap (locs ++ L) e1.symm (by rw [← e2]; exact X'.warmed.alike) hp hb k1 k2 k3 (by rw [e1]; exact hce) hcv hcl T' rfl X'
    exact ⟨t2, st.trans a1, b1⟩
theorem vx_callf {S SX : Type} {post : UInt32 → S → Prop} {px : SX → Prop} {B : S → State → Prop} {BX : String → SX → State → Prop} {AX : Nat → Prop} (hr : vx_Run p l e R s m args below meth c H locs cells slots mc ms (F0 m pc ls st0) rest (va_Qf post B A1 a) (vx_X px BX AX) free) (hS : va_S A0 H0 H locs) (hA : ∀ q, q < H.size → A1 q → A0 q) (hf : ∀ q, free q → A0 q) (hAX : ∀ q, q < H.size → AX q → A0 q)
    (kx : ∀ (E : String) (ce : Cell) (q9 : Addr) (u : SX) (t : State) (H1 : Heap) (locs1 : List Loc), t.heap = H1 → s.vm.Alike t.vm → px u → BX E u t → H.size ≤ H1.size → (∀ q : Nat, q < H.size → ¬ AX q → H1[q]? = H[q]?) → va_S A0 H0 H1 locs1 → H1[q9]? = some ce → ce.vm = .none → s.vm.findClass E = some ce.cls → vx_W p l e R s m args below meth c H1 locs1 (cells + mc) (slots + ms) Q (F0 m pc ls rest) q9)
    (kk : ∀ (r : UInt32) (u : S) (t : State) (H1 : Heap) (locs1 : List Loc), t.heap = H1 → s.vm.Alike t.vm → post r u → B u t → H.size ≤ H1.size → (∀ q : Nat, q < H.size → ¬ A1 q → H1[q]? = H[q]?) → va_S A0 H0 H1 locs1 → W p l e R s m args below meth c H1 locs1 (cells + mc) (slots + ms) Q (F0 m (pc + 3) ls (.float r :: rest))) : W p l e R s m args below meth c H locs cells slots Q (F0 m pc ls st0) := by
  intro T hT X
  rcases hr T hT X with ⟨v, st₀, t, T', L, h0, X', hL, e1, e2, ⟨⟨r, u, hv, hp, hb⟩, hF⟩, st⟩ | ⟨q, st₀, t, T', L, E, ce, h0, X', hL, e1, e2, ⟨u, hp, hb, hF⟩, hce, hcv, hcl, st⟩
  · cases hv
    obtain ⟨k1, k2, k3⟩ := vx_keep h0 e1 hS hA hf hL hF
    obtain ⟨t2, a1, b1⟩ := kk r u t T'.heap (locs ++ L) e1.symm (by rw [← e2]; exact X'.warmed.alike) hp hb k1 k2 k3 T' rfl X'
    exact ⟨t2, st t2 a1, b1⟩
  · obtain ⟨k1, k2, k3⟩ := vx_keep h0 e1 hS hAX hf hL hF
    obtain ⟨t2, a1, b1⟩ := kx E ce q u t T'.heap (locs ++ L) e1.symm (by rw [← e2]; exact X'.warmed.alike) hp hb k1 k2 k3 (by rw [e1]; exact hce) hcv hcl T' rfl X'
    exact ⟨t2, st.trans a1, b1⟩
theorem vx_calld {S SX : Type} {post : UInt64 → S → Prop} {px : SX → Prop} {B : S → State → Prop} {BX : String → SX → State → Prop} {AX : Nat → Prop} (hr : vx_Run p l e R s m args below meth c H locs cells slots mc ms (F0 m pc ls st0) rest (va_Qd post B A1 a) (vx_X px BX AX) free) (hS : va_S A0 H0 H locs) (hA : ∀ q, q < H.size → A1 q → A0 q) (hf : ∀ q, free q → A0 q) (hAX : ∀ q, q < H.size → AX q → A0 q)
    (kx : ∀ (E : String) (ce : Cell) (q9 : Addr) (u : SX) (t : State) (H1 : Heap) (locs1 : List Loc), t.heap = H1 → s.vm.Alike t.vm → px u → BX E u t → H.size ≤ H1.size → (∀ q : Nat, q < H.size → ¬ AX q → H1[q]? = H[q]?) → va_S A0 H0 H1 locs1 → H1[q9]? = some ce → ce.vm = .none → s.vm.findClass E = some ce.cls → vx_W p l e R s m args below meth c H1 locs1 (cells + mc) (slots + ms) Q (F0 m pc ls rest) q9)
    (kk : ∀ (r : UInt64) (u : S) (t : State) (H1 : Heap) (locs1 : List Loc), t.heap = H1 → s.vm.Alike t.vm → post r u → B u t → H.size ≤ H1.size → (∀ q : Nat, q < H.size → ¬ A1 q → H1[q]? = H[q]?) → va_S A0 H0 H1 locs1 → W p l e R s m args below meth c H1 locs1 (cells + mc) (slots + ms) Q (F0 m (pc + 3) ls (.double r :: rest))) : W p l e R s m args below meth c H locs cells slots Q (F0 m pc ls st0) := by
  intro T hT X
  rcases hr T hT X with ⟨v, st₀, t, T', L, h0, X', hL, e1, e2, ⟨⟨r, u, hv, hp, hb⟩, hF⟩, st⟩ | ⟨q, st₀, t, T', L, E, ce, h0, X', hL, e1, e2, ⟨u, hp, hb, hF⟩, hce, hcv, hcl, st⟩
  · cases hv
    obtain ⟨k1, k2, k3⟩ := vx_keep h0 e1 hS hA hf hL hF
    obtain ⟨t2, a1, b1⟩ := kk r u t T'.heap (locs ++ L) e1.symm (by rw [← e2]; exact X'.warmed.alike) hp hb k1 k2 k3 T' rfl X'
    exact ⟨t2, st t2 a1, b1⟩
  · obtain ⟨k1, k2, k3⟩ := vx_keep h0 e1 hS hAX hf hL hF
    obtain ⟨t2, a1, b1⟩ := kx E ce q u t T'.heap (locs ++ L) e1.symm (by rw [← e2]; exact X'.warmed.alike) hp hb k1 k2 k3 (by rw [e1]; exact hce) hcv hcl T' rfl X'
    exact ⟨t2, st.trans a1, b1⟩
theorem vx_callv {S SX : Type} {post : S → Prop} {px : SX → Prop} {B : S → State → Prop} {BX : String → SX → State → Prop} {AX : Nat → Prop} (hr : vx_Run p l e R s m args below meth c H locs cells slots mc ms (F0 m pc ls st0) rest (va_Qv post B A1 a) (vx_X px BX AX) free) (hS : va_S A0 H0 H locs) (hA : ∀ q, q < H.size → A1 q → A0 q) (hf : ∀ q, free q → A0 q) (hAX : ∀ q, q < H.size → AX q → A0 q)
    (kx : ∀ (E : String) (ce : Cell) (q9 : Addr) (u : SX) (t : State) (H1 : Heap) (locs1 : List Loc), t.heap = H1 → s.vm.Alike t.vm → px u → BX E u t → H.size ≤ H1.size → (∀ q : Nat, q < H.size → ¬ AX q → H1[q]? = H[q]?) → va_S A0 H0 H1 locs1 → H1[q9]? = some ce → ce.vm = .none → s.vm.findClass E = some ce.cls → vx_W p l e R s m args below meth c H1 locs1 (cells + mc) (slots + ms) Q (F0 m pc ls rest) q9)
    (kk : ∀ (u : S) (t : State) (H1 : Heap) (locs1 : List Loc), t.heap = H1 → s.vm.Alike t.vm → post u → B u t → H.size ≤ H1.size → (∀ q : Nat, q < H.size → ¬ A1 q → H1[q]? = H[q]?) → va_S A0 H0 H1 locs1 → W p l e R s m args below meth c H1 locs1 (cells + mc) (slots + ms) Q (F0 m (pc + 3) ls (rest))) : W p l e R s m args below meth c H locs cells slots Q (F0 m pc ls st0) := by
  intro T hT X
  rcases hr T hT X with ⟨v, st₀, t, T', L, h0, X', hL, e1, e2, ⟨⟨u, hv, hp, hb⟩, hF⟩, st⟩ | ⟨q, st₀, t, T', L, E, ce, h0, X', hL, e1, e2, ⟨u, hp, hb, hF⟩, hce, hcv, hcl, st⟩
  · cases hv
    obtain ⟨k1, k2, k3⟩ := vx_keep h0 e1 hS hA hf hL hF
    obtain ⟨t2, a1, b1⟩ := kk u t T'.heap (locs ++ L) e1.symm (by rw [← e2]; exact X'.warmed.alike) hp hb k1 k2 k3 T' rfl X'
    exact ⟨t2, st t2 a1, b1⟩
  · obtain ⟨k1, k2, k3⟩ := vx_keep h0 e1 hS hAX hf hL hF
    obtain ⟨t2, a1, b1⟩ := kx E ce q u t T'.heap (locs ++ L) e1.symm (by rw [← e2]; exact X'.warmed.alike) hp hb k1 k2 k3 (by rw [e1]; exact hce) hcv hcl T' rfl X'
    exact ⟨t2, st.trans a1, b1⟩
end Rows
section Ends
variable {p : Program} {l : Launch} {e : Env} {R : Room} {s : State} {m : MethodId} {args : Array Value} {below : List Frame} {meth : Method} {c : Code} {H : Heap} {locs : List Loc} {cells slots : Nat} {Q : State → Prop}
variable {mc ms : Nat} {free : Addr → Prop} {A0 A1 : Nat → Prop} {H0 : Heap} {a : Array Value} {ls : Array Slot} {st0 rest : List Value}
variable {Qc : Array Value → State → Outcome → State → Prop} {XC : String → State → State → Prop}
/-- what a body that may throw owes at its end -/
def vx_MQ (below : List Frame) (Qc : Array Value → State → Outcome → State → Prop) (XC : String → State → State → Prop) (a : Array Value) (s : State) (mc ms : Nat) (free : Addr → Prop) : State → Prop := fun t =>
  ∃ o, t.status = .running ∧ Ended t below o ∧ vx_Q Qc XC mc ms free a s o t
theorem vx_ret {g : JFrame} {mc ms : Nat} (k : W p l e R s m args below meth c H locs cells slots (MQ below Qc args s mc ms free) g) : W p l e R s m args below meth c H locs cells slots (vx_MQ below Qc XC args s mc ms free) g := by
  intro T hT X
  obtain ⟨t, a1, o, b1, b2, b3, b4⟩ := k T hT X
  exact ⟨t, a1, o, b1, b2, Or.inl ⟨b3, b4⟩⟩
/-- not caught here: it goes on to the caller -/
theorem vx_widen {g : JFrame} {q : Addr} {k n : Nat} (h1 : cells ≤ k) (h2 : slots ≤ n) (kk : vx_W p l e R s m args below meth c H locs k n Q g q) : vx_W p l e R s m args below meth c H locs cells slots Q g q := fun T hT X => kk T hT (stand_widen X h1 h2)
theorem vx_out {pc : Nat} {E : String} {ce : Cell} {q : Addr} {mc ms : Nat} (hout : ∀ x ∈ c.exceptionTable.toList, covers x pc = false) (hlocks : meth.locks = false) (hcell : H[q]? = some ce) (hv : ce.vm = .none) (hcl : s.vm.findClass E = some ce.cls)
    (hx : ∀ t : State, t.heap = H → s.vm.Alike t.vm → XC E s t) (hf : ∀ z ∈ locs, free z.base) (hc : cells ≤ mc) (hs : slots ≤ ms) :
    vx_W p l e R s m args below meth c H locs cells slots (vx_MQ below Qc XC args s mc ms free) (F0 m pc ls rest) q := by
  intro T hT X
  obtain ⟨st1, hrun, hend, hW, hsm⟩ := X.leaveThrown q (g := F0 m pc ls rest) rfl rfl rfl hout hlocks
  have hcell9 : (T.setFrames (.throwing q :: below)).heap[q]? = some ce := by
    show T.heap[q]? = some ce
    rw [hT]; exact hcell
  exact ⟨_, st1, .threw q, hrun, hend, Or.inr ⟨q, rfl, E, ce, locs, hx _ hT hW.alike, hcell9, hv, hcl, hW, hsm.mono hc hs, hf⟩⟩
theorem vx_frame {U : State} {k n : Nat} (h : s.sameButNew ({ U with vm := s.vm } : State) locs k n) : s.heap.size ≤ U.heap.size ∧ ∀ q : Nat, q < s.heap.size → (∀ z ∈ locs, z.base ≠ q) → U.heap[q]? = s.heap[q]? := by
  obtain ⟨-, h2, -, -, -, h6⟩ := h
  refine ⟨h2, fun q hq hz => ?_⟩
  obtain ⟨c9, e1, e2, e3, e4⟩ := h6 q _ (Array.getElem?_eq_getElem hq)
  have hs : c9.slots = (s.heap[q]).slots := Array.ext_getElem? fun i => e4 i fun hm => hz _ hm rfl
  have h9 : c9 = s.heap[q] := by
    rw [hs] at e2
    exact e2
  have e5 : U.heap[q]? = some c9 := e1
  rw [e5, h9, Array.getElem?_eq_getElem hq]
/-- the words of a throw but the four that speak of the heap -/
def vx_no (w : Cond) : Bool := decide (w ≠ .isRef (.static Bundle.tN "UNASSIGNED_STACK" Bundle.steD)) && decide (w ≠ .isRef (.static Bundle.tN "SUPPRESSED_SENTINEL" Bundle.listD)) && decide (w ≠ .laysStatic Bundle.tN "UNASSIGNED_STACK" Bundle.steD) && decide (w ≠ .laysStatic Bundle.tN "SUPPRESSED_SENTINEL" Bundle.listD)
def vx_at0 (own : String) (ic : Nat) (X : String) (names : List String) : List Cond := (Bundle.ownAtoms0 own ic X names).filter vx_no
def vx_atS (own : String) (ic : Nat) (X : String) (names : List String) : List Cond := (Bundle.ownAtoms own ic X names).filter vx_no
/-- a word that the tables alone decide, or a good one -/
def vx_ot (w : Cond) : Bool := w.onTables || goodWord w
theorem vx_ot_at {args a' : Array Value} {s U : State} {w : Cond} (hW : s.WarmedH U.vm) (hvm : s.vm = U.vm) (hg : vx_ot w = true) (h : w.before args s = true) : w.before a' U = true := by
  simp only [vx_ot, Bool.or_eq_true] at hg
  rcases hg with hg | hg
  · exact va_tabs hg hvm h
  · exact word_at hW (good_of_word hg) h
/-- a list's words: the good ones out of the method's own list, the others by premises of their own -/
theorem vx_hat {args : Array Value} {s : State} {L B : List Cond} (h1 : ∀ w ∈ L.filter goodWord, w.before args s = true) (h2 : ∀ w ∈ L.filter (fun w => !goodWord w), w ∈ B) (h3 : ∀ w ∈ B, w.before args s = true) : ∀ w ∈ L, w.before args s = true := by
  intro w hw
  by_cases g : goodWord w = true
  · exact h1 w (List.mem_filter.mpr ⟨hw, g⟩)
  · refine h3 w (h2 w (List.mem_filter.mpr ⟨hw, ?_⟩))
    show (!goodWord w) = true
    cases hgw : goodWord w
    · rfl
    · exact absurd hgw g
theorem vx_c {args : Array Value} {s : State} {w : Cond} {B : List Cond} (h : w.before args s = true) (t : ∀ w ∈ B, w.before args s = true) : ∀ w' ∈ w :: B, w'.before args s = true := fun w' h' => (List.mem_cons.mp h').elim (fun e => by rw [e]; exact h) (t w')
theorem vx_n {args : Array Value} {s : State} : ∀ w ∈ ([] : List Cond), w.before args s = true := fun _ h => nomatch h
theorem vx_own {args : Array Value} {s : State} {L : List Cond} (h1 : ∀ w ∈ L.filter vx_no, w.before args s = true)
    (hU : (Cond.isRef (.static Bundle.tN "UNASSIGNED_STACK" Bundle.steD)).before args s = true) (hN : (Cond.isRef (.static Bundle.tN "SUPPRESSED_SENTINEL" Bundle.listD)).before args s = true)
    (lU : (Cond.laysStatic Bundle.tN "UNASSIGNED_STACK" Bundle.steD).before args s = true) (lN : (Cond.laysStatic Bundle.tN "SUPPRESSED_SENTINEL" Bundle.listD).before args s = true) : ∀ w ∈ L, w.before args s = true := by
  intro w hw
  by_cases e1 : w = .isRef (.static Bundle.tN "UNASSIGNED_STACK" Bundle.steD)
  · rw [e1]; exact hU
  · by_cases e2 : w = .isRef (.static Bundle.tN "SUPPRESSED_SENTINEL" Bundle.listD)
    · rw [e2]; exact hN
    · by_cases e3 : w = .laysStatic Bundle.tN "UNASSIGNED_STACK" Bundle.steD
      · rw [e3]; exact lU
      · by_cases e4 : w = .laysStatic Bundle.tN "SUPPRESSED_SENTINEL" Bundle.listD
        · rw [e4]; exact lN
        · exact h1 w (List.mem_filter.mpr ⟨hw, by unfold vx_no; rw [decide_eq_true e1, decide_eq_true e2, decide_eq_true e3, decide_eq_true e4]; rfl⟩)
/-- where a static field lies, its class's statics cell in H -/
def vx_L (C n d : String) (A : Nat → Prop) (U : State) (H : Heap) : Prop := ∃ (c : ClassId) (k : Class) (i : Nat) (f : Field) (a : Nat) (cell : Cell), U.vm.findClass C = some c ∧ U.fieldFound? C n d = some (c, k, i, f) ∧ f.isStatic = true ∧ k.statics = some a ∧ H[a]? = some cell ∧ cell.vm.isStatics = true ∧ cell.cls = c ∧ f.slot < cell.slots.size ∧ k.staticTypes[f.slot]? = some f.type ∧ ¬ A a
theorem vx_L.moved {C n d : String} {A : Nat → Prop} {u U : State} {H : Heap} (hvm : u.vm.Alike U.vm) (h : vx_L C n d A u H) : vx_L C n d A U H := by
  obtain ⟨c, k, i, f, a, cell, h1, h2, h3, h4, h5, h6, h7, h8, h9, h10⟩ := h
  obtain ⟨k', hi', he⟩ := State.fieldFound?_setVm hvm h2
  exact ⟨c, k', i, f, a, cell, by rw [hvm.findClass]; exact h1, hi', h3, by rw [he]; exact h4, h5, h6, h7, h8, by rw [he]; exact h9, h10⟩
theorem vx_L.kept {C n d : String} {A : Nat → Prop} {U : State} {H H1 : Heap} (h : vx_L C n d A U H) (hq : ∀ a : Nat, a < H.size → ¬ A a → H1[a]? = H[a]?) : vx_L C n d A U H1 := by
  obtain ⟨c, k, i, f, a, cell, h1, h2, h3, h4, h5, h6, h7, h8, h9, h10⟩ := h
  exact ⟨c, k, i, f, a, cell, h1, h2, h3, h4, by rw [hq a (Array.getElem?_eq_some_iff.mp h5).1 h10]; exact h5, h6, h7, h8, h9, h10⟩
theorem vx_L.narrow {C n d : String} {A B : Nat → Prop} {U : State} {H : Heap} (h : vx_L C n d A U H) (hAB : ∀ q, B q → A q) : vx_L C n d B U H := by
  obtain ⟨c, k, i, f, a, cell, h1, h2, h3, h4, h5, h6, h7, h8, h9, h10⟩ := h
  exact ⟨c, k, i, f, a, cell, h1, h2, h3, h4, h5, h6, h7, h8, h9, fun z => h10 (hAB _ z)⟩
theorem vx_L.word {C n d : String} {A : Nat → Prop} {s : State} {args : Array Value} (h : vx_L C n d A s s.heap) : (Cond.laysStatic C n d).before args s = true := by
  obtain ⟨c, k, i, f, a, cell, h1, h2, h3, h4, h5, h6, h7, h8, h9, -⟩ := h
  show (Cond.laysStatic C n d).holds args s none s [] = true
  exact Cond.laysStatic_of h1 h2 h3 h4 h5 h6 h7 h8 h9
/-- .. and what it holds: null or some reference -/
def vx_Zq (C n d : String) (A : Nat → Prop) (U : State) (H : Heap) : Prop := va_Zq C n d A U H ∧ vx_L C n d A U H
theorem vx_Zq.moved {C n d : String} {A : Nat → Prop} {u U : State} {H : Heap} (hvm : u.vm.Alike U.vm) (h : vx_Zq C n d A u H) : vx_Zq C n d A U H := ⟨va_Zq.moved hvm h.1, vx_L.moved hvm h.2⟩
theorem vx_Zq.kept {C n d : String} {A : Nat → Prop} {U : State} {H H1 : Heap} (h : vx_Zq C n d A U H) (hq : ∀ a : Nat, a < H.size → ¬ A a → H1[a]? = H[a]?) : vx_Zq C n d A U H1 := ⟨va_Zq.kept h.1 hq, vx_L.kept h.2 hq⟩
theorem vx_Zq.narrow {C n d : String} {A B : Nat → Prop} {U : State} {H : Heap} (h : vx_Zq C n d A U H) (hAB : ∀ q, B q → A q) : vx_Zq C n d B U H := ⟨va_Zq.narrow h.1 hAB, vx_L.narrow h.2 hAB⟩
theorem vx_Zqof {args : Array Value} {s : State} {C n d : String} {A : Nat → Prop} (hl : (Cond.laysStatic C n d).before args s = true) (hini : (Cond.initialized C).before args s = true) (h : (Cond.isRef (.static C n d)).before args s = true) (hA : ∀ a : Nat, a < s.heap.size → ¬ A a) : vx_Zq C n d A s s.heap := by
  refine ⟨va_Zqof hl hini h hA, ?_⟩
  obtain ⟨c, k, i, f, a, cell, h1, h2, h3, h4, h5, h6, h7, h8, h9⟩ := Cond.laysStatic_spec hl
  exact ⟨c, k, i, f, a, cell, h1, h2, h3, h4, h5, h6, h7, h8, h9, hA a (Array.getElem?_eq_some_iff.mp h5).1⟩
theorem vx_isRef {C n d : String} {v : Value} {A : Nat → Prop} {s : State} {args : Array Value} (h : va_Z C n d v A s s.heap) (hv : v.isRef = true) : (Cond.isRef (.static C n d)).before args s = true := by
  obtain ⟨cf, kf, fi, f, a, cell, h1, h2, h3, h4, h5, h6, h7, -⟩ := h
  have he : (Term.static C n d).eval args s none [] s = some v := by
    simp [Term.eval, State.fieldNamed?, h1, h2, h4, h5, h6, h7]
  simp only [Cond.before, Cond.holds, Cond.value, he]
  cases v <;> simp_all [Value.isRef]
theorem vx_isRefq {C n d : String} {A : Nat → Prop} {s : State} {args : Array Value} (h : va_Zq C n d A s s.heap) : (Cond.isRef (.static C n d)).before args s = true := by
  rcases h with h | ⟨t, h⟩
  · exact vx_isRef h rfl
  · exact vx_isRef h rfl
/-- the same frame, seen from here: as if the method were called anew in this heap -/
theorem vx_rebase {T : State} (X : Stand p l e R s m args below meth c T locs cells slots) {R' : Room} (hf : R'.frames ≤ R.frames) (hl : R'.locals ≤ R.locals) (hc : cells + R'.cells ≤ R.cells) (hs : slots + R'.slots ≤ R.slots) :
    Stand p l e R' ((T.setVm s.vm).setFrames (.invoking m args :: below)) m args below meth c T [] 0 0 := by
  have htop : (T.setVm s.vm).topJava?.isSome := X.here.top
  have hF : ((T.setVm s.vm).setFrames (.invoking m args :: below)).frames = .invoking m args :: below := State.frames_setFrames _ (State.cur_lt_of_top htop)
  obtain ⟨g₀, hg0⟩ := Option.isSome_iff_exists.mp htop
  obtain ⟨r, hr⟩ := State.topJava?_eq_some.mp hg0
  have hl9 : e.platform.stackLimits (T.setVm s.vm).me = e.platform.stackLimits s.me := X.limits
  have hb9 : (T.setVm s.vm).me.stackBytes = s.me.stackBytes := X.bytes
  refine ⟨X.admits, X.cas, X.clock, hF, ?_, X.hears, X.method, X.code, X.here, X.tail, X.warmed, ?_, ?_, ?_⟩
  · have h := X.room
    have hU : ((T.setVm s.vm).setFrames (.invoking m args :: below)).localsInUse = s.localsInUse := by
      rw [State.localsInUse_invoking hF (meth := meth) (c := c) X.method X.code, State.localsInUse_invoking X.frames X.method X.code]
    simp only [State.hasRoom, Bool.and_eq_true, decide_eq_true_eq] at h ⊢
    obtain ⟨⟨⟨⟨h1, h2, h3, h4, h5, h6⟩, h7⟩, h8⟩, h9⟩ := h
    rw [X.frames, List.length_cons] at h2 h3
    have q1 := X.heapSize
    have q2 := X.used
    simp only [hF, hU, List.length_cons, State.stackLimits_setFrames, State.stackBytes_setFrames, hl9, hb9]
    refine ⟨⟨⟨⟨by omega, by omega, by omega, by omega, by omega, h6⟩, ?_⟩, ?_⟩, X.book⟩
    · show T.heap.size + R'.cells ≤ e.platform.maxCells
      omega
    · show T.slotsUsed + R'.slots ≤ e.platform.maxSlots
      omega
  · rw [State.stackLimits_setFrames]; rfl
  · rw [State.stackBytes_setFrames]; rfl
  · refine ⟨?_, Nat.le_refl _, Nat.le_refl _, ?_, ?_, fun a c9 h9 => ⟨c9, h9, rfl, rfl, fun _ _ => rfl⟩⟩
    · obtain ⟨t, ht, -⟩ := State.frames_cons hr
      show T.setVm s.vm = { ((T.setVm s.vm).setFrames (.invoking m args :: below)).setFrames (T.setVm s.vm).frames with heap := T.heap, slotsUsed := T.slotsUsed }
      rw [State.setFrames_setFrames, State.setFrames_self ht]
      rfl
    · show T.slotsUsed = T.slotsUsed + ((T.heap.toList.drop T.heap.size).map (·.slots.size)).sum
      rw [List.drop_eq_nil_of_le (Nat.le_of_eq Array.length_toList)]
      rfl
    · show ((T.heap.toList.drop T.heap.size).map (·.slots.size)).sum ≤ 0
      rw [List.drop_eq_nil_of_le (Nat.le_of_eq Array.length_toList)]
      exact Nat.le_refl _
/-- 'throw new E()': new; dup; invokespecial; athrow -/
theorem vx_throw0 {cc : ByteArray} {pc : Nat} (hexec : p.tables.exec = Jvm.exec) (hb : c.code = cc) (hl : l.stackTraces = false) {own cls : String} {names : List String} {ik ic mc ms : Nat} {A : Nat → Prop}
    (hown : s.vm.findClass own = some m.cls) (hcls : Bundle.fit cls = true) (hnames : ∀ n ∈ names, Bundle.fit n = true)
    (hk : (Cond.classLink own ik cls).before args s = true) (hini : (Cond.initialized cls).before args s = true) (hat : ∀ w ∈ vx_at0 own ic cls names, w.before args s = true)
    (hgood : ∀ w ∈ Cond.classLink own ik cls :: Cond.initialized cls :: vx_at0 own ic cls names, vx_ot w = true)
    (hU : vx_Zq Bundle.tN "UNASSIGNED_STACK" Bundle.steD A s s.heap) (hN : vx_Zq Bundle.tN "SUPPRESSED_SENTINEL" Bundle.listD A s s.heap) (hS : va_S A s.heap H locs) (hsize : ls.size = c.maxLocals)
    (d0 : decode cc pc = .ok (.new ik, 3)) (d3 : decode cc (pc + 3) = .ok (.dup, 1)) (d4 : decode cc (pc + 4) = .ok (.invokespecial ic, 3)) (d7 : decode cc (pc + 7) = .ok (.athrow, 1))
    (hout : ∀ x ∈ c.exceptionTable.toList, covers x (pc + 7) = false)
    (hRframes : names.length + 3 < R.frames) (hRlocals : (rest.map fun v => v.category).sum + (13 * (names.length + 1) + 42) ≤ R.locals) (hRcells : cells + 1 ≤ R.cells) (hRslots : slots + 6 ≤ R.slots) (hlocks : meth.locks = false)
    (hx : ∀ t : State, s.vm.Alike t.vm → H.size ≤ t.heap.size → (∀ q : Nat, q < H.size → t.heap[q]? = H[q]?) → XC cls s t)
    (hf : ∀ z ∈ locs, free z.base) (hc : cells + 1 ≤ mc) (hs : slots + 6 ≤ ms) :
    W p l e R s m args below meth c H locs cells slots (vx_MQ below Qc XC args s mc ms free) (F0 m pc ls rest) := by
  intro T hT X
  have htr : e.platform.stackTraces = false := (show e.platform.stackTraces = l.stackTraces by rw [X.admits.platform]).trans hl
  have Y := vx_rebase X (R' := { frames := R.frames, locals := R.locals, cells := 1, slots := 6 }) (Nat.le_refl _) (Nat.le_refl _) hRcells hRslots
  obtain ⟨s', hA⟩ : ∃ z, z = (T.setVm s.vm).setFrames (.invoking m args :: below) := ⟨_, rfl⟩
  rw [← hA] at Y
  have hvm : s'.vm = s.vm := by rw [hA]; rfl
  have hhp : s'.heap = H := by rw [hA]; exact hT
  have hW0 : s.WarmedH s'.vm := by rw [hvm]; exact State.WarmedH.refl s
  have hat' : ∀ w ∈ vx_at0 own ic cls names, w.before args s' = true := fun w hw => vx_ot_at hW0 hvm.symm (hgood w (List.mem_cons_of_mem _ (List.mem_cons_of_mem _ hw))) (hat w hw)
  have hk' : (Cond.classLink own ik cls).before args s' = true := vx_ot_at hW0 hvm.symm (hgood _ List.mem_cons_self) hk
  have hini' : (Cond.initialized cls).before args s' = true := vx_ot_at hW0 hvm.symm (hgood _ (List.mem_cons_of_mem _ List.mem_cons_self)) hini
  have hU' : vx_Zq Bundle.tN "UNASSIGNED_STACK" Bundle.steD A s' s'.heap := by rw [hhp]; exact vx_Zq.moved hW0.alike (hU.kept hS.2.1)
  have hN' : vx_Zq Bundle.tN "SUPPRESSED_SENTINEL" Bundle.listD A s' s'.heap := by rw [hhp]; exact vx_Zq.moved hW0.alike (hN.kept hS.2.1)
  have h : ∀ w ∈ Bundle.ownAtoms0 own ic cls names, w.before args s' = true := vx_own hat' (vx_isRefq hU'.1) (vx_isRefq hN'.1) hU'.2.word hN'.2.word
  have hown' : s'.vm.findClass own = some m.cls := by rw [hvm]; exact hown
  have hins : (Cond.instantiable cls 6).before args s' = true := h _ (by simp [Bundle.ownAtoms0])
  obtain ⟨vm₁, cX, kX, hfX, hkX, -, -, X₁, st1⟩ := Y.newCold hexec (own := own) (C := cls) (index := ik) (n := 6) hown' hk' hins hini'
    (g := F0 m pc ls rest) rfl (by rw [hb]; exact d0) (Nat.le_refl _) (Nat.le_refl _)
  generalize hT1 : (T.setVm vm₁).pushCell { cls := cX, slots := kX.instanceTypes.map defaultValue, vm := .none } = T1 at X₁ st1
  have hcat : (Value.ref T.heap.size).category = 1 := rfl
  have hcellA : T1.heap[T.heap.size]? = some (freshCell cX kX) := by rw [← hT1]; exact State.heap_pushCell_size _ _
  have d3' : decode c.code (pc + 3) = .ok (.dup, 1) := by rw [hb]; exact d3
  obtain ⟨U, hsteps, hrun, hend, hW, hsame, ce, hce, hO⟩ := X₁.ctorThrow0 hexec htr (own := own) (cls := cls) (names := names) (ic := ic) hown' hcls hnames h (fun x hx => nomatch hx) hfX hkX hcellA (by rw [hhp, hT]; exact Nat.le_refl _)
    (g := { method := m, pc := pc + 4, locals := ls, stack := .ref T.heap.size :: .ref T.heap.size :: rest, locked := none }) rfl hsize rfl rfl (rest := rest) rfl
    (by rw [hb]; exact d4) (by rw [hb]; exact d7) hout hRframes (by simp only [List.map_cons, List.sum_cons, hcat]; omega) hlocks
  obtain ⟨f1, f2⟩ := vx_frame hsame
  rw [hhp] at f1 f2
  have hWs : s.WarmedH U.vm := State.WarmedH.trans hW0 hW
  have hcl : s.vm.findClass cls = some ce.cls := by
    have h9 := hO.cls
    rw [hvm] at h9
    exact h9
  have hall : s.sameButNew ({ U with vm := s.vm } : State) locs mc ms := by
    subst hA
    obtain ⟨e1, e2⟩ := hsame
    rw [State.setFrames_setFrames] at e1
    have h2 : (T.setVm s.vm).sameButNew ({ U with vm := s.vm } : State) [] (0 + 1) (0 + 6) := ⟨e1, e2⟩
    have h3 := X.same.trans h2
    rw [List.append_nil] at h3
    exact h3.mono hc hs
  refine ⟨U, ?_, .threw T.heap.size, hrun, hend, Or.inr ⟨T.heap.size, rfl, cls, ce, locs, hx U hWs.alike f1 (fun q hq => f2 q hq (fun z hz => nomatch hz)), hce, hO.vm, hcl, hWs, hall, hf⟩⟩
  refine st1 _ ?_
  show Steps p.tables e below (T1.setTop { method := m, pc := pc + 3, locals := ls, stack := .ref T.heap.size :: rest, locked := none }) _
  jvm_step X₁.here [X₁.here.top, hexec, d3', Value.category]
  exact hsteps
/-- 'throw new E("text")': new; dup; ldc; invokespecial; athrow -/
theorem vx_throwS {cc : ByteArray} {pc : Nat} (hexec : p.tables.exec = Jvm.exec) (hb : c.code = cc) (hl : l.stackTraces = false) {own cls text : String} {names : List String} {ik is ic mc ms sa : Nat} {A : Nat → Prop}
    (hown : s.vm.findClass own = some m.cls) (hcls : Bundle.fit cls = true) (hnames : ∀ n ∈ names, Bundle.fit n = true)
    (hk : (Cond.classLink own ik cls).before args s = true) (hini : (Cond.initialized cls).before args s = true) (hstr : vk_R own is text sa s) (hat : ∀ w ∈ vx_atS own ic cls names, w.before args s = true)
    (hgood : ∀ w ∈ Cond.classLink own ik cls :: Cond.initialized cls :: vx_atS own ic cls names, vx_ot w = true)
    (hU : vx_Zq Bundle.tN "UNASSIGNED_STACK" Bundle.steD A s s.heap) (hN : vx_Zq Bundle.tN "SUPPRESSED_SENTINEL" Bundle.listD A s s.heap) (hS : va_S A s.heap H locs) (hsize : ls.size = c.maxLocals)
    (d0 : decode cc pc = .ok (.new ik, 3)) (d3 : decode cc (pc + 3) = .ok (.dup, 1)) (d4 : decode cc (pc + 4) = .ok (.ldc is, 2)) (d6 : decode cc (pc + 6) = .ok (.invokespecial ic, 3)) (d9 : decode cc (pc + 9) = .ok (.athrow, 1))
    (hout : ∀ x ∈ c.exceptionTable.toList, covers x (pc + 9) = false)
    (hRframes : names.length + 3 < R.frames) (hRlocals : (rest.map fun v => v.category).sum + (13 * (names.length + 1) + 43) ≤ R.locals) (hRcells : cells + 1 ≤ R.cells) (hRslots : slots + 6 ≤ R.slots) (hlocks : meth.locks = false)
    (hx : ∀ t : State, s.vm.Alike t.vm → H.size ≤ t.heap.size → (∀ q : Nat, q < H.size → t.heap[q]? = H[q]?) → XC cls s t)
    (hf : ∀ z ∈ locs, free z.base) (hc : cells + 1 ≤ mc) (hs : slots + 6 ≤ ms) :
    W p l e R s m args below meth c H locs cells slots (vx_MQ below Qc XC args s mc ms free) (F0 m pc ls rest) := by
  intro T hT X
  have htr : e.platform.stackTraces = false := (show e.platform.stackTraces = l.stackTraces by rw [X.admits.platform]).trans hl
  have Y := vx_rebase X (R' := { frames := R.frames, locals := R.locals, cells := 1, slots := 6 }) (Nat.le_refl _) (Nat.le_refl _) hRcells hRslots
  obtain ⟨s', hA⟩ : ∃ z, z = (T.setVm s.vm).setFrames (.invoking m args :: below) := ⟨_, rfl⟩
  rw [← hA] at Y
  have hvm : s'.vm = s.vm := by rw [hA]; rfl
  have hhp : s'.heap = H := by rw [hA]; exact hT
  have hW0 : s.WarmedH s'.vm := by rw [hvm]; exact State.WarmedH.refl s
  have hat' : ∀ w ∈ vx_atS own ic cls names, w.before args s' = true := fun w hw => vx_ot_at hW0 hvm.symm (hgood w (List.mem_cons_of_mem _ (List.mem_cons_of_mem _ hw))) (hat w hw)
  have hk' : (Cond.classLink own ik cls).before args s' = true := vx_ot_at hW0 hvm.symm (hgood _ List.mem_cons_self) hk
  have hini' : (Cond.initialized cls).before args s' = true := vx_ot_at hW0 hvm.symm (hgood _ (List.mem_cons_of_mem _ List.mem_cons_self)) hini
  have hU' : vx_Zq Bundle.tN "UNASSIGNED_STACK" Bundle.steD A s' s'.heap := by rw [hhp]; exact vx_Zq.moved hW0.alike (hU.kept hS.2.1)
  have hN' : vx_Zq Bundle.tN "SUPPRESSED_SENTINEL" Bundle.listD A s' s'.heap := by rw [hhp]; exact vx_Zq.moved hW0.alike (hN.kept hS.2.1)
  have h : ∀ w ∈ Bundle.ownAtoms own ic cls names, w.before args s' = true := vx_own hat' (vx_isRefq hU'.1) (vx_isRefq hN'.1) hU'.2.word hN'.2.word
  have hown' : s'.vm.findClass own = some m.cls := by rw [hvm]; exact hown
  have hins : (Cond.instantiable cls 6).before args s' = true := h _ (by simp [Bundle.ownAtoms])
  obtain ⟨vm₁, cX, kX, hfX, hkX, -, -, X₁, st1⟩ := Y.newCold hexec (own := own) (C := cls) (index := ik) (n := 6) hown' hk' hins hini'
    (g := F0 m pc ls rest) rfl (by rw [hb]; exact d0) (Nat.le_refl _) (Nat.le_refl _)
  generalize hT1 : (T.setVm vm₁).pushCell { cls := cX, slots := kX.instanceTypes.map defaultValue, vm := .none } = T1 at X₁ st1
  have hcat : (Value.ref T.heap.size).category = 1 := rfl
  have hcellA : T1.heap[T.heap.size]? = some (freshCell cX kX) := by rw [← hT1]; exact State.heap_pushCell_size _ _
  have d3' : decode c.code (pc + 3) = .ok (.dup, 1) := by rw [hb]; exact d3
  have d4' : decode c.code (pc + 4) = .ok (.ldc is, 2) := by rw [hb]; exact d4
  have hstr' : vk_R own is text sa s' := vk_R.warm hW0 hstr
  obtain ⟨U, hsteps, hrun, hend, hW, hsame, ce, hce, hO⟩ := X₁.ctorThrowS hexec htr (own := own) (cls := cls) (names := names) (ic := ic) hown' hcls hnames h (fun x hx => nomatch hx) hfX hkX hcellA (by rw [hhp, hT]; exact Nat.le_refl _) (msg := .ref sa) rfl
    (g := { method := m, pc := pc + 6, locals := ls, stack := .ref sa :: .ref T.heap.size :: .ref T.heap.size :: rest, locked := none }) rfl hsize rfl rfl (rest := rest) rfl
    (by rw [hb]; exact d6) (by rw [hb]; exact d9) hout hRframes (by simp only [List.map_cons, List.sum_cons, hcat]; omega) hlocks
  obtain ⟨f1, f2⟩ := vx_frame hsame
  rw [hhp] at f1 f2
  have hWs : s.WarmedH U.vm := State.WarmedH.trans hW0 hW
  have hcl : s.vm.findClass cls = some ce.cls := by
    have h9 := hO.cls
    rw [hvm] at h9
    exact h9
  have hall : s.sameButNew ({ U with vm := s.vm } : State) locs mc ms := by
    subst hA
    obtain ⟨e1, e2⟩ := hsame
    rw [State.setFrames_setFrames] at e1
    have h2 : (T.setVm s.vm).sameButNew ({ U with vm := s.vm } : State) [] (0 + 1) (0 + 6) := ⟨e1, e2⟩
    have h3 := X.same.trans h2
    rw [List.append_nil] at h3
    exact h3.mono hc hs
  refine ⟨U, ?_, .threw T.heap.size, hrun, hend, Or.inr ⟨T.heap.size, rfl, cls, ce, locs, hx U hWs.alike f1 (fun q hq => f2 q hq (fun z hz => nomatch hz)), hce, hO.vm, hcl, hWs, hall, hf⟩⟩
  refine st1 _ ?_
  show Steps p.tables e below (T1.setTop { method := m, pc := pc + 3, locals := ls, stack := .ref T.heap.size :: rest, locked := none }) _
  jvm_step X₁.here [X₁.here.top, hexec, d3', Value.category]
  exact X₁.ldcString hexec (own := own) (text := text) (index := is) (a := sa) hown' hstr'.1 hstr'.2
    (g := { method := m, pc := pc + 4, locals := ls, stack := .ref T.heap.size :: .ref T.heap.size :: rest, locked := none }) rfl d4' _ hsteps
/-- 'throw new E("text")', the text by a wide index -/
theorem vx_throwSW {cc : ByteArray} {pc : Nat} (hexec : p.tables.exec = Jvm.exec) (hb : c.code = cc) (hl : l.stackTraces = false) {own cls text : String} {names : List String} {ik is ic mc ms sa : Nat} {A : Nat → Prop}
    (hown : s.vm.findClass own = some m.cls) (hcls : Bundle.fit cls = true) (hnames : ∀ n ∈ names, Bundle.fit n = true)
    (hk : (Cond.classLink own ik cls).before args s = true) (hini : (Cond.initialized cls).before args s = true) (hstr : vk_R own is text sa s) (hat : ∀ w ∈ vx_atS own ic cls names, w.before args s = true)
    (hgood : ∀ w ∈ Cond.classLink own ik cls :: Cond.initialized cls :: vx_atS own ic cls names, vx_ot w = true)
    (hU : vx_Zq Bundle.tN "UNASSIGNED_STACK" Bundle.steD A s s.heap) (hN : vx_Zq Bundle.tN "SUPPRESSED_SENTINEL" Bundle.listD A s s.heap) (hS : va_S A s.heap H locs) (hsize : ls.size = c.maxLocals)
    (d0 : decode cc pc = .ok (.new ik, 3)) (d3 : decode cc (pc + 3) = .ok (.dup, 1)) (d4 : decode cc (pc + 4) = .ok (.ldc_w is, 3)) (d7 : decode cc (pc + 7) = .ok (.invokespecial ic, 3)) (d10 : decode cc (pc + 10) = .ok (.athrow, 1))
    (hout : ∀ x ∈ c.exceptionTable.toList, covers x (pc + 10) = false)
    (hRframes : names.length + 3 < R.frames) (hRlocals : (rest.map fun v => v.category).sum + (13 * (names.length + 1) + 43) ≤ R.locals) (hRcells : cells + 1 ≤ R.cells) (hRslots : slots + 6 ≤ R.slots) (hlocks : meth.locks = false)
    (hx : ∀ t : State, s.vm.Alike t.vm → H.size ≤ t.heap.size → (∀ q : Nat, q < H.size → t.heap[q]? = H[q]?) → XC cls s t)
    (hf : ∀ z ∈ locs, free z.base) (hc : cells + 1 ≤ mc) (hs : slots + 6 ≤ ms) :
    W p l e R s m args below meth c H locs cells slots (vx_MQ below Qc XC args s mc ms free) (F0 m pc ls rest) := by
  intro T hT X
  have htr : e.platform.stackTraces = false := (show e.platform.stackTraces = l.stackTraces by rw [X.admits.platform]).trans hl
  have Y := vx_rebase X (R' := { frames := R.frames, locals := R.locals, cells := 1, slots := 6 }) (Nat.le_refl _) (Nat.le_refl _) hRcells hRslots
  obtain ⟨s', hA⟩ : ∃ z, z = (T.setVm s.vm).setFrames (.invoking m args :: below) := ⟨_, rfl⟩
  rw [← hA] at Y
  have hvm : s'.vm = s.vm := by rw [hA]; rfl
  have hhp : s'.heap = H := by rw [hA]; exact hT
  have hW0 : s.WarmedH s'.vm := by rw [hvm]; exact State.WarmedH.refl s
  have hat' : ∀ w ∈ vx_atS own ic cls names, w.before args s' = true := fun w hw => vx_ot_at hW0 hvm.symm (hgood w (List.mem_cons_of_mem _ (List.mem_cons_of_mem _ hw))) (hat w hw)
  have hk' : (Cond.classLink own ik cls).before args s' = true := vx_ot_at hW0 hvm.symm (hgood _ List.mem_cons_self) hk
  have hini' : (Cond.initialized cls).before args s' = true := vx_ot_at hW0 hvm.symm (hgood _ (List.mem_cons_of_mem _ List.mem_cons_self)) hini
  have hU' : vx_Zq Bundle.tN "UNASSIGNED_STACK" Bundle.steD A s' s'.heap := by rw [hhp]; exact vx_Zq.moved hW0.alike (hU.kept hS.2.1)
  have hN' : vx_Zq Bundle.tN "SUPPRESSED_SENTINEL" Bundle.listD A s' s'.heap := by rw [hhp]; exact vx_Zq.moved hW0.alike (hN.kept hS.2.1)
  have h : ∀ w ∈ Bundle.ownAtoms own ic cls names, w.before args s' = true := vx_own hat' (vx_isRefq hU'.1) (vx_isRefq hN'.1) hU'.2.word hN'.2.word
  have hown' : s'.vm.findClass own = some m.cls := by rw [hvm]; exact hown
  have hins : (Cond.instantiable cls 6).before args s' = true := h _ (by simp [Bundle.ownAtoms])
  obtain ⟨vm₁, cX, kX, hfX, hkX, -, -, X₁, st1⟩ := Y.newCold hexec (own := own) (C := cls) (index := ik) (n := 6) hown' hk' hins hini'
    (g := F0 m pc ls rest) rfl (by rw [hb]; exact d0) (Nat.le_refl _) (Nat.le_refl _)
  generalize hT1 : (T.setVm vm₁).pushCell { cls := cX, slots := kX.instanceTypes.map defaultValue, vm := .none } = T1 at X₁ st1
  have hcat : (Value.ref T.heap.size).category = 1 := rfl
  have hcellA : T1.heap[T.heap.size]? = some (freshCell cX kX) := by rw [← hT1]; exact State.heap_pushCell_size _ _
  have d3' : decode c.code (pc + 3) = .ok (.dup, 1) := by rw [hb]; exact d3
  have d4' : decode c.code (pc + 4) = .ok (.ldc_w is, 3) := by rw [hb]; exact d4
  have hstr' : vk_R own is text sa s' := vk_R.warm hW0 hstr
  obtain ⟨U, hsteps, hrun, hend, hW, hsame, ce, hce, hO⟩ := X₁.ctorThrowS hexec htr (own := own) (cls := cls) (names := names) (ic := ic) hown' hcls hnames h (fun x hx => nomatch hx) hfX hkX hcellA (by rw [hhp, hT]; exact Nat.le_refl _) (msg := .ref sa) rfl
    (g := { method := m, pc := pc + 7, locals := ls, stack := .ref sa :: .ref T.heap.size :: .ref T.heap.size :: rest, locked := none }) rfl hsize rfl rfl (rest := rest) rfl
    (by rw [hb]; exact d7) (by rw [hb]; exact d10) hout hRframes (by simp only [List.map_cons, List.sum_cons, hcat]; omega) hlocks
  obtain ⟨f1, f2⟩ := vx_frame hsame
  rw [hhp] at f1 f2
  have hWs : s.WarmedH U.vm := State.WarmedH.trans hW0 hW
  have hcl : s.vm.findClass cls = some ce.cls := by
    have h9 := hO.cls
    rw [hvm] at h9
    exact h9
  have hall : s.sameButNew ({ U with vm := s.vm } : State) locs mc ms := by
    subst hA
    obtain ⟨e1, e2⟩ := hsame
    rw [State.setFrames_setFrames] at e1
    have h2 : (T.setVm s.vm).sameButNew ({ U with vm := s.vm } : State) [] (0 + 1) (0 + 6) := ⟨e1, e2⟩
    have h3 := X.same.trans h2
    rw [List.append_nil] at h3
    exact h3.mono hc hs
  refine ⟨U, ?_, .threw T.heap.size, hrun, hend, Or.inr ⟨T.heap.size, rfl, cls, ce, locs, hx U hWs.alike f1 (fun q hq => f2 q hq (fun z hz => nomatch hz)), hce, hO.vm, hcl, hWs, hall, hf⟩⟩
  refine st1 _ ?_
  show Steps p.tables e below (T1.setTop { method := m, pc := pc + 3, locals := ls, stack := .ref T.heap.size :: rest, locked := none }) _
  jvm_step X₁.here [X₁.here.top, hexec, d3', Value.category]
  exact X₁.ldcStringW hexec (own := own) (text := text) (index := is) (a := sa) hown' hstr'.1 hstr'.2
    (g := { method := m, pc := pc + 4, locals := ls, stack := .ref T.heap.size :: .ref T.heap.size :: rest, locked := none }) rfl d4' _ hsteps
end Ends
section Bodies
variable {l : Launch}
theorem vx_ofW {y : MethodName} {ws ws' : List Cond} {rm : Room} {Pc : Array Value → State → Prop} {Qc : Array Value → State → Outcome → State → Prop} {XC : String → State → State → Prop} {mc ms : Nat} {free : Addr → Prop} {cc : ByteArray} {maxL : Nat} {ret : Option FieldType}
    (hy : plainName y.cls = true) (hw : ws = Cond.code y cc maxL ret :: ws')
    (body : ∀ p e s m args below meth c s₁, BodyLoose p l y (headSpec ws rm) cc maxL ret e s m args below meth c s₁ → c.maxLocals = maxL → (∀ x ∈ c.exceptionTable.toList, False) → Pc args s →
      W p l e (headSpec ws rm).room s m args below meth c s.heap [] 0 0 (vx_MQ below Qc XC args s mc ms free) (entryFrame m args maxL)) : vx_Met l y ws rm Pc Qc XC mc ms free := by
  refine MetFree.of_bodyS (code := cc) (maxLocals := maxL) (ret := ret) hy ?_ ?_
  · intro args s m h hn
    obtain ⟨meth, c, h1, h2, h3, h4, h5, h6, -, -⟩ := Cond.code_spec hn (atoms_spec (ws := ws) h _ (by rw [hw]; exact List.mem_cons_self))
    exact ⟨meth, c, h1, h2, h3, h4, h5, h6⟩
  · intro p e s m args below meth c s₁ B hml hP _
    have hh0 : s₁.heap = s.heap := by rw [B.state]; rfl
    have ht : ∀ x ∈ c.exceptionTable.toList, False := by
      obtain ⟨meth9, c9, h1, h2, -, -, -, -, h7, -⟩ := Cond.code_spec B.named (atoms_spec (ws := ws) B.pre _ (by rw [hw]; exact List.mem_cons_self))
      cases Option.some.inj (h1.symm.trans B.method)
      cases Option.some.inj (h2.symm.trans (Stand.of_body B).code)
      intro x hx
      rw [Array.isEmpty_iff.mp h7] at hx
      cases hx
    obtain ⟨t, a1, o, b1, b2, b3⟩ := body p e s m args below meth c s₁ B hml ht hP s₁ hh0 (Stand.of_body B)
    exact ⟨t, o, a1, b1, b2, b3⟩
/-- the table of a body with handlers -/
theorem vx_table {p : Program} {x y : MethodName} {S : Spec} {cc bytes : ByteArray} {maxL maxL' : Nat} {ret ret' : Option FieldType} {e : Env} {s s₁ : State} {m : MethodId} {args : Array Value} {below : List Frame} {meth : Method} {c : Code} {hh : List (Nat × Nat × Nat × Nat)}
    (B : BodyLoose p l y S cc maxL ret e s m args below meth c s₁) (h : (Cond.codeWith y bytes maxL' ret' hh).before args s = true) : c.exceptionTable.toList = tableOf hh := by
  obtain ⟨m9, meth9, c9, hn9, h1, h2, -, -, h6, -⟩ := Cond.codeWith_spec h
  cases Option.some.inj (hn9.symm.trans B.named)
  cases Option.some.inj (h1.symm.trans B.method)
  cases Option.some.inj (h2.symm.trans (Stand.of_body B).code)
  rw [← h6, table_eq]
end Bodies
end VXA
/-! ===== END ===== -/
/-! ===== BEGIN a static call of a method with an exception table ===== -/
section VXS
variable {p : Program} {l : Launch} {e : Env} {R : Room} {s : State} {m : MethodId} {args : Array Value} {below : List Frame} {meth : Method} {c : Code} {T : State} {H : Heap} {locs : List Loc} {cells slots : Nat}
abbrev vx_CSW (R : Room) (s : State) (args : Array Value) (own : String) (index : Nat) (y : MethodName) (bytes : ByteArray) (maxL : Nat) (ret : Option FieldType) (hh : List (Nat × Nat × Nat × Nat)) (ws : List Cond) (rm : Room) (mc ms n : Nat) : Prop :=
  (rm.cells = mc ∧ rm.slots = ms ∧ rm.frames + 1 ≤ R.frames ∧ 8 + (maxL + 11) + rm.locals ≤ R.locals ∧ (∀ w ∈ ws, ∀ (a' : Array Value) (U : State), s.WarmedH U.vm → w.before a' U = true) ∧ Cond.codeWith y bytes maxL ret hh ∈ ws) ∧
  (Cond.codeWith y bytes maxL ret hh).before args s = true ∧ (Cond.initialized y.cls).before args s = true ∧ (y.cls ≠ "java/lang/invoke/MethodHandle" ∧ y.cls ≠ "java/lang/invoke/VarHandle") ∧
  (∀ sig, parseMethodDescriptor y.desc = some sig → n = sig.parameters.length) ∧ (Cond.methodLink own index y).before args s = true ∧ (Cond.static y).before args s = true
theorem vx_cwSW {own : String} {index maxL mc ms : Nat} {y : MethodName} {bytes : ByteArray} {ret : Option FieldType} {hh : List (Nat × Nat × Nat × Nat)} {Ts ws ws' : List Cond} {rm : Room} (n : Nat) (ht : ∀ w ∈ Ts, w.before args s = true) (hT : GoodIn Ts (va_wsS own index y ws)) (hw : ws = Cond.codeWith y bytes maxL ret hh :: ws') (hrc : rm.cells = mc) (hrs : rm.slots = ms)
    (hd : y.cls ≠ "java/lang/invoke/MethodHandle" ∧ y.cls ≠ "java/lang/invoke/VarHandle" ∧ (parseMethodDescriptor y.desc).map (fun d => d.parameters.length) = some n) (hR : rm.frames + 1 ≤ R.frames ∧ 8 + (maxL + 11) + rm.locals ≤ R.locals) :
    vx_CSW R s args own index y bytes maxL ret hh ws rm mc ms n := by
  have ok : ∀ w ∈ va_wsS own index y ws, w.before args s = true := fun w h => ht w (hT w h).1
  have hG : GoodIn Ts ws := fun w h => hT w (by unfold va_wsS; exact List.mem_append_right _ h)
  have hc : Cond.codeWith y bytes maxL ret hh ∈ ws := by rw [hw]; exact List.mem_cons_self
  refine ⟨⟨hrc, hrs, hR.1, hR.2, pay_in ht hG, hc⟩, ht _ (hG _ hc).1, ok _ (by simp [va_wsS]), ⟨hd.1, hd.2.1⟩, fun sig h => ?_, ok _ (by simp [va_wsS]), ok _ (by simp [va_wsS])⟩
  have h2 := hd.2.2
  rw [h] at h2
  exact (Option.some.inj h2).symm
theorem vx_callSW (X : Stand p l e R s m args below meth c T locs cells slots) (hexec : p.tables.exec = Jvm.exec) {own : String} {index : Nat} {y : MethodName} {bytes : ByteArray} {maxL : Nat} {ret : Option FieldType} {hh : List (Nat × Nat × Nat × Nat)}
    (hown : s.vm.findClass own = some m.cls) (hlink : (Cond.methodLink own index y).before args s = true) (hstat : (Cond.static y).before args s = true) (hinit : (Cond.initialized y.cls).before args s = true)
    (hcode : (Cond.codeWith y bytes maxL ret hh).before args s = true) (hy : y.cls ≠ "java/lang/invoke/MethodHandle" ∧ y.cls ≠ "java/lang/invoke/VarHandle")
    {W9 : Nat} {Pre : Pt → Array Value → Prop} {Post : Pt → Array Value → Option Value → Pt → Prop} (hK : Back l R p e below s args y 3 W9 Pre Post)
    {g : JFrame} (hg : g.method = m) (hsize : g.locals.size = c.maxLocals) {argsL rest : List Value} (hlen : ∀ sig, parseMethodDescriptor y.desc = some sig → argsL.length = sig.parameters.length)
    (hstack : g.stack = argsL.reverse ++ rest) (hW : 2 * g.monitorRoom + (rest.map fun v => v.category).sum ≤ W9) (hdg : decode c.code g.pc = .ok (.invokestatic index, 3))
    (hpre : ∀ vm₁, s.WarmedH vm₁ → Pre ⟨T.setVm vm₁, locs, cells, slots⟩ argsL.toArray) :
    ∃ (v : Option Value) (vm₁ : Vm) (B : Pt), s.WarmedH vm₁ ∧ Stand p l e R s m args below meth c B.U B.locs B.cells B.slots ∧ Post ⟨T.setVm vm₁, locs, cells, slots⟩ argsL.toArray v B ∧
      ∀ target, Steps p.tables e below (B.U.setTop { g with pc := g.pc + 3, stack := v.toList ++ rest }) target → Steps p.tables e below (T.setTop g) target := by
  obtain ⟨mk, methM, cM, hnamed, hmethM, -, -, -, -, -, -, hsigM⟩ := Cond.codeWith_spec hcode
  have hstatic : methM.isStatic = true := Cond.static_spec hnamed hmethM hstat
  obtain ⟨kP, hkP, -⟩ := className_of_methodNamed hnamed
  have hinitP : kP.init = .initialized := Cond.initialized_spec (findClass_of_methodNamed hnamed) hkP hinit
  obtain ⟨vm₁, X₁, hstep₁⟩ := X.invokestatic hexec hown hlink hnamed hmethM hstatic hkP hinitP hy (g := g) hg (argsL := argsL) (rest := rest) (hlen _ hsigM) hstack hdg
  obtain ⟨v, B, X', hpost, hsteps⟩ := hK m meth c ⟨T.setVm vm₁, locs, cells, slots⟩ { g with stack := rest } (.invokestatic index) mk argsL.toArray X₁ hg hsize hdg hW (X₁.named hnamed) (hpre vm₁ X₁.warmed)
  exact ⟨v, vm₁, B, X₁.warmed, X', hpost, fun target h => hstep₁ _ fun acts => by rw [doInvoke_state]; exact hsteps.trans h⟩
theorem vx_runSW {y : MethodName} {bytes cc : ByteArray} {maxL nL mc ms n index : Nat} {ret : Option FieldType} {hh : List (Nat × Nat × Nat × Nat)} {ws : List Cond} {rm : Room} {Pc : Array Value → State → Prop} {Qc : Array Value → State → Outcome → State → Prop} {free : Addr → Prop} {Ts : List Cond} {own : String} {As rest : List Value} {g : JFrame}
    (S : CallFix p m c cc nL s args Ts own) (hM : Met l y ws rm Pc Qc mc ms free) (cw : vx_CSW R s args own index y bytes maxL ret hh ws rm mc ms n) (hp : PreS s H Pc As)
    (hg : g.method = m) (hn : As.length = n) (hsize : g.locals.size = nL) (hstack : g.stack = As.reverse ++ rest) (hW : 2 * g.monitorRoom + (rest.map fun v => v.category).sum ≤ 8) (hdg : decode cc g.pc = .ok (.invokestatic index, 3)) (hf : cells + mc ≤ R.cells ∧ slots + ms ≤ R.slots) :
    va_Run p l e R s m args below meth c H locs cells slots mc ms g rest (Qc As.toArray) (free) := by
  obtain ⟨⟨hrc, hrs, hfr, hlo, hws, hcw⟩, hcode, hini, hy, hlen, hl, hstt⟩ := cw
  have hK : Back l R p e below s args y 3 8 (PreOf R mc ms Pc) (PostOf Qc mc ms free) := va_backW (hh := hh) (bytes := bytes) (maxL := maxL) (ret := ret) hM hp.1 hrc hrs hfr hlo hws hcw (fun a' U hW => word_at hW (Or.inl (by first | rfl | simp [Cond.onTables, Cond.keeps, Cond.steady])) hini)
  obtain ⟨hx, hb, hml, ho, -⟩ := S
  intro T hT X
  obtain ⟨v, vm₁, ⟨U', l2, c2, s2⟩, hW₁, X', ⟨g', mk, t, L, e1, e2, hq, h1, hL, h2, h3⟩, st⟩ := vx_callSW X hx (hh := hh) (bytes := bytes) (maxL := maxL) (ret := ret) ho hl hstt hini hcode hy hK hg (hsize.trans hml.symm) (argsL := As) (rest := rest) (fun sig h => hn.trans (hlen sig h)) hstack hW (by rw [hb]; exact hdg)
    (fun vm₁ hW₁ => ⟨hf.1, hf.2, hp.2 (T.setVm vm₁) hT hW₁⟩)
  dsimp only [Pt.U, Pt.locs, Pt.cells, Pt.slots] at X' e1 e2 h1 h2 h3 st
  subst h1; subst h2; subst h3
  exact ⟨v, (T.setVm vm₁).calling g' mk As.toArray, t, U', L, hT, X', hL, e1, e2, hq, st⟩
/-- a thing of a world lies in the heap -/
theorem vx_lt {D : va_G} {cl : List vw_C} {ws : va_W} {H1 : Heap} (h : va_P D cl ws H1) {k : Nat} {q : Nat × va_E} (hk : ws[k]? = some q) : q.1 < H1.size := (h k q hk).lt
end VXS
/-! ===== END ===== -/
/-! ===== BEGIN methods with a table of their own: called by a name, returning or throwing ===== -/
section VXH
/-! vx_backW, vx_callVX, vx_callSX, vx_callVW, vx_runVW, vx_runVX, vx_runSX, vx_ofWH follow the same proofs as their sisters above (Free/Laws.lean, Shelf42/LK1.lean); vx_outP calls Shelf42/NT130.lean (outThrough). -/
section
variable {l : Launch} {R : Room} {p : Program} {e : Env} {below : List Frame} {s : State} {sargs : Array Value} {y : MethodName} {len W9 : Nat}
theorem vx_backW {ws : List Cond} {rm : Room} {Pc : Array Value → State → Prop} {Qc : Array Value → State → Outcome → State → Prop} {XC : String → State → State → Prop} {mc ms : Nat} {free : Addr → Prop} {bytes : ByteArray} {maxL : Nat} {ret : Option FieldType} {hh : List (Nat × Nat × Nat × Nat)}
    (hM : vx_Met l y ws rm Pc Qc XC mc ms free) (hblind : FrameBlind Pc) (hrc : rm.cells = mc) (hrs : rm.slots = ms)
    (hframes : rm.frames + 1 ≤ R.frames) (hlocals : W9 + (maxL + 11) + rm.locals ≤ R.locals)
    (hws : ∀ w ∈ ws, ∀ a' U, s.WarmedH U.vm → w.before a' U = true) (hcode : Cond.codeWith y bytes maxL ret hh ∈ ws) (hinit : ∀ a' U, s.WarmedH U.vm → (Cond.initialized y.cls).before a' U = true) :
    vx_Back l R p e below s sargs y len W9 (PreOf R mc ms Pc) (PostOf Qc mc ms free) (vx_Post XC mc ms free) := by
  intro m meth c A g ig mk a X hg hsize hdg hW hn hp
  have h1 : (headSpec ws rm).pre.before a A.U = true := atoms_intro fun w hw => hws w hw _ _ X.warmed
  have h2 : (Cond.codeWith y bytes maxL ret hh).before a A.U = true := hws _ hcode _ _ X.warmed
  have h3 : (Cond.initialized y.cls).before a A.U = true := hinit _ _ X.warmed
  have h4 : A.cells + (headSpec ws rm).room.cells ≤ R.cells := by rw [show (headSpec ws rm).room.cells = mc from hrc]; exact hp.1
  have h5 : A.slots + (headSpec ws rm).room.slots ≤ R.slots := by rw [show (headSpec ws rm).room.slots = ms from hrs]; exact hp.2.1
  have hPc : Pc a (A.U.calling g mk a) := hblind _ _ _ _ hp.2.2
  obtain ⟨U, Ls, c0, s0⟩ := A
  dsimp only [Pt.U, Pt.locs, Pt.cells, Pt.slots] at h1 h2 h3 h4 h5 X hn hPc ⊢
  obtain ⟨m9, methY, cY, hn9, hmY, hcY, -, hlY, -⟩ := Cond.codeWith_spec h2
  cases Option.some.inj (hn9.symm.trans hn)
  obtain ⟨kY, hkY, -⟩ := className_of_methodNamed hn
  have hinitY : kY.init = .initialized := Cond.initialized_spec (findClass_of_methodNamed hn) hkY h3
  have h : At U g.method c below := by rw [hg]; exact X.here
  have hlocals9 : W9 + (maxL + 11) + (headSpec ws rm).room.locals ≤ R.locals := hlocals
  have happ : (headSpec ws rm).appliesLoose y e.platform (U.calling g mk a) = true :=
    Spec.appliesLoose_calling (g := g) h hdg hn hkY hinitY
      (X.room_calling (g := g) (R' := (headSpec ws rm).room) hsize hmY hcY hframes (by rw [hlY]; omega) h4 h5) h1
  obtain ⟨mid, hmid⟩ := h.above
  have hfr : (U.setTop g).frames = (.java g :: mid) ++ below := by rw [State.frames_setTop' g h.top, hmid]; rfl
  obtain ⟨o, s₂, hsteps, -, hend, hq⟩ := Steps.callFree hM p X.admits X.cas X.clock (acts := []) hfr happ hPc trivial
  have hq' : vx_Q Qc XC mc ms free a (U.calling g mk a) o s₂ := hq
  rw [State.frames_setTop' g h.top] at hend
  obtain ⟨g₀, hg0⟩ := Option.isSome_iff_exists.mp h.top
  obtain ⟨r, hr⟩ := State.topJava?_eq_some.mp hg0
  have hr' : (({ U with heap := s₂.heap, slotsUsed := s₂.slotsUsed } : State).setVm s₂.vm).frames = .java g₀ :: r := hr
  rcases hq' with ⟨hqc, L, hfe, hL⟩ | ⟨q, rfl, E, ce, L, hx, hce, hcv, hcl, hW₂, hsm, hL⟩
  · obtain ⟨⟨v, rfl⟩, hW₂, e2, q2, q3, q4, q5, q6⟩ := id hfe
    have e3 : s₂ = ({ (U.calling g mk a).setFrames s₂.frames with heap := s₂.heap, slotsUsed := s₂.slotsUsed } : State).setVm s₂.vm := by
      have : s₂ = ({ s₂ with vm := (U.calling g mk a).vm } : State).setVm s₂.vm := rfl
      rw [e2] at this
      exact this
    obtain ⟨c₂, i₂, len₂, hc₂, hd₂, hf₂⟩ := hend
    have hW' : U.WarmedH s₂.vm := hW₂
    have hcc : c₂ = c := by
      have h1 : s₂.code? g.method = U.code? g.method := by
        rw [State.code?_eq, State.code?_eq, hW'.alike.method?]
      exact Option.some.inj (hc₂.symm.trans (h1.trans h.code))
    subst hcc
    have hlen : len₂ = len := by rw [hdg] at hd₂; cases hd₂; rfl
    subst hlen
    have hs₂ : s₂ = (({ U with heap := s₂.heap, slotsUsed := s₂.slotsUsed } : State).setVm s₂.vm).setTop { g with pc := g.pc + len₂, stack := v.toList ++ g.stack } := by
      refine e3.trans ?_
      rw [hf₂, State.calling_eq h.top, State.setFrames_setFrames, State.setTop_of_frames _ hr', hr]
      rfl
    have hsame : U.sameButNew ({ U with heap := s₂.heap, slotsUsed := s₂.slotsUsed } : State) L mc ms := by
      refine ⟨?_, q2, q3, q4, q5, q6⟩
      obtain ⟨t, ht, -⟩ := State.frames_cons hr
      show ({ U with heap := s₂.heap, slotsUsed := s₂.slotsUsed } : State) = { U.setFrames U.frames with heap := s₂.heap, slotsUsed := s₂.slotsUsed }
      rw [State.setFrames_self ht]
    subst hg
    refine Or.inl ⟨v, ⟨(({ U with heap := s₂.heap, slotsUsed := s₂.slotsUsed } : State).setVm s₂.vm), Ls ++ L, c0 + mc, s0 + ms⟩,
      ⟨X.admits, X.cas, X.clock, X.frames, X.room, X.hears, X.method, X.code, (X.here.setHeapUsed s₂.heap s₂.slotsUsed).setVm hW'.alike, X.tail, State.WarmedH.trans X.warmed hW', X.limits, X.bytes, X.same.trans (hsame.setVm s.vm)⟩,
      ⟨g, mk, s₂, L, rfl, rfl, hqc, rfl, hL, rfl, rfl⟩, ?_⟩
    show Steps p.tables e below _ ((({ U with heap := s₂.heap, slotsUsed := s₂.slotsUsed } : State).setVm s₂.vm).setTop { g with pc := g.pc + len₂, stack := v.toList ++ g.stack })
    rw [← hs₂]
    exact hsteps
  · obtain ⟨e2, q2, q3, q4, q5, q6⟩ := id hsm
    have e3 : s₂ = ({ (U.calling g mk a).setFrames s₂.frames with heap := s₂.heap, slotsUsed := s₂.slotsUsed } : State).setVm s₂.vm := by
      have : s₂ = ({ s₂ with vm := (U.calling g mk a).vm } : State).setVm s₂.vm := rfl
      rw [e2] at this
      exact this
    have hf₂ : s₂.frames = .throwing q :: .java g :: U.frames.tail := hend
    have hW' : U.WarmedH s₂.vm := hW₂
    have hs₂ : s₂ = ((({ U with heap := s₂.heap, slotsUsed := s₂.slotsUsed } : State).setVm s₂.vm).setTop g).pushFrame (.throwing q) := by
      refine e3.trans ?_
      rw [hf₂, State.calling_eq h.top, State.setFrames_setFrames, State.pushFrame, State.frames_setTop _ hr', State.setTop_of_frames _ hr', State.setFrames_setFrames, hr]
      rfl
    have hsame : U.sameButNew ({ U with heap := s₂.heap, slotsUsed := s₂.slotsUsed } : State) L mc ms := by
      refine ⟨?_, q2, q3, q4, q5, q6⟩
      obtain ⟨t, ht, -⟩ := State.frames_cons hr
      show ({ U with heap := s₂.heap, slotsUsed := s₂.slotsUsed } : State) = { U.setFrames U.frames with heap := s₂.heap, slotsUsed := s₂.slotsUsed }
      rw [State.setFrames_self ht]
    subst hg
    refine Or.inr ⟨q, ⟨(({ U with heap := s₂.heap, slotsUsed := s₂.slotsUsed } : State).setVm s₂.vm), Ls ++ L, c0 + mc, s0 + ms⟩,
      ⟨X.admits, X.cas, X.clock, X.frames, X.room, X.hears, X.method, X.code, (X.here.setHeapUsed s₂.heap s₂.slotsUsed).setVm hW'.alike, X.tail, State.WarmedH.trans X.warmed hW', X.limits, X.bytes, X.same.trans (hsame.setVm s.vm)⟩,
      ⟨g, mk, s₂, L, E, ce, rfl, rfl, hx, hce, hcv, hcl, rfl, hL, rfl, rfl⟩, ?_⟩
    show Steps p.tables e below _ (((({ U with heap := s₂.heap, slotsUsed := s₂.slotsUsed } : State).setVm s₂.vm).setTop g).pushFrame (.throwing q))
    rw [← hs₂]
    exact hsteps
end
variable {p : Program} {l : Launch} {e : Env} {R : Room} {s : State} {m : MethodId} {args : Array Value} {below : List Frame} {meth : Method} {c : Code} {T : State} {H : Heap} {locs : List Loc} {cells slots : Nat}
theorem vx_callVX (X : Stand p l e R s m args below meth c T locs cells slots) (hexec : p.tables.exec = Jvm.exec) {own C : String} {index : Nat} {y : MethodName} {bytes : ByteArray} {maxL : Nat} {ret : Option FieldType} {hh : List (Nat × Nat × Nat × Nat)}
    (hown : s.vm.findClass own = some m.cls) (hlink : (Cond.methodLink own index y).before args s = true) (hinst : (Cond.instanceMethod y).before args s = true) (hsel : (Cond.selects C y y).before args s = true)
    (hcode : (Cond.codeWith y bytes maxL ret hh).before args s = true) (hy : y.cls ≠ "java/lang/invoke/MethodHandle" ∧ y.cls ≠ "java/lang/invoke/VarHandle")
    {W9 : Nat} {Pre : Pt → Array Value → Prop} {Post : Pt → Array Value → Option Value → Pt → Prop} {PostX : Pt → Array Value → Addr → Pt → Prop} (hK : vx_Back l R p e below s args y 3 W9 Pre Post PostX)
    {b : Addr} {cellB : Cell} (hcell : T.heap[b]? = some cellB) (hobj : cellB.vm.isStatics = false) (hcls : s.vm.findClass C = some cellB.cls)
    {g : JFrame} (hg : g.method = m) (hsize : g.locals.size = c.maxLocals) {argsL rest : List Value} (hlen : ∀ sig, parseMethodDescriptor y.desc = some sig → argsL.length = sig.parameters.length)
    (hstack : g.stack = argsL.reverse ++ .ref b :: rest) (hW : 2 * g.monitorRoom + (rest.map fun v => v.category).sum ≤ W9) (hdg : decode c.code g.pc = .ok (.invokevirtual index, 3))
    (hpre : ∀ vm₁, s.WarmedH vm₁ → Pre ⟨T.setVm vm₁, locs, cells, slots⟩ (Value.ref b :: argsL).toArray) :
    (∃ (v : Option Value) (vm₁ : Vm) (B : Pt), s.WarmedH vm₁ ∧ Stand p l e R s m args below meth c B.U B.locs B.cells B.slots ∧ Post ⟨T.setVm vm₁, locs, cells, slots⟩ (Value.ref b :: argsL).toArray v B ∧
      ∀ target, Steps p.tables e below (B.U.setTop { g with pc := g.pc + 3, stack := v.toList ++ rest }) target → Steps p.tables e below (T.setTop g) target) ∨
    (∃ (q : Addr) (vm₁ : Vm) (B : Pt), s.WarmedH vm₁ ∧ Stand p l e R s m args below meth c B.U B.locs B.cells B.slots ∧ PostX ⟨T.setVm vm₁, locs, cells, slots⟩ (Value.ref b :: argsL).toArray q B ∧
      Steps p.tables e below (T.setTop g) ((B.U.setTop { g with stack := rest }).pushFrame (.throwing q))) := by
  obtain ⟨mk, methM, hnamed, hmethM, hstM, habM⟩ := Cond.instanceMethod_spec hinst
  obtain ⟨m8, methM', cM, hn8, hmethM', -, -, -, -, -, -, hsigM⟩ := Cond.codeWith_spec hcode
  cases Option.some.inj (hn8.symm.trans hnamed)
  cases hmethM.symm.trans hmethM'
  obtain ⟨c2, r2, m2, q1, q2, q3, q4, kP, hkP, hkPi⟩ := Cond.selects_spec hsel
  cases hcls.symm.trans q1
  cases (State.methodFound?_of_named hnamed hy).symm.trans q2
  cases hnamed.symm.trans q3
  have hselP : selectMethod e.platform s.vm cellB.cls mk = .method mk := by rw [Launch.admits_selectMethod X.admits]; exact q4
  obtain ⟨vm₁, X₁, hstep₁⟩ := X.invokevirtual hexec hown hlink hnamed hmethM hstM hkP hkPi hy (a := b) (cell := cellB) hcell
    (fun z h => by rw [h] at hobj; cases hobj) hselP hmethM habM hkP hkPi (g := g) hg (argsL := argsL) (rest := rest) (hlen _ hsigM) hstack hdg
  rcases hK m meth c ⟨T.setVm vm₁, locs, cells, slots⟩ { g with stack := rest } (.invokevirtual index) mk (Value.ref b :: argsL).toArray X₁ hg hsize hdg hW (X₁.named hnamed) (hpre vm₁ X₁.warmed) with ⟨v, B, X', hpost, hsteps⟩ | ⟨q, B, X', hpost, hsteps⟩
  · exact Or.inl ⟨v, vm₁, B, X₁.warmed, X', hpost, fun target h => hstep₁ _ fun acts => by rw [doInvoke_state]; exact hsteps.trans h⟩
  · exact Or.inr ⟨q, vm₁, B, X₁.warmed, X', hpost, hstep₁ _ fun acts => by rw [doInvoke_state]; exact hsteps⟩
theorem vx_callSX (X : Stand p l e R s m args below meth c T locs cells slots) (hexec : p.tables.exec = Jvm.exec) {own : String} {index : Nat} {y : MethodName} {bytes : ByteArray} {maxL : Nat} {ret : Option FieldType} {hh : List (Nat × Nat × Nat × Nat)}
    (hown : s.vm.findClass own = some m.cls) (hlink : (Cond.methodLink own index y).before args s = true) (hstat : (Cond.static y).before args s = true) (hinit : (Cond.initialized y.cls).before args s = true)
    (hcode : (Cond.codeWith y bytes maxL ret hh).before args s = true) (hy : y.cls ≠ "java/lang/invoke/MethodHandle" ∧ y.cls ≠ "java/lang/invoke/VarHandle")
    {W9 : Nat} {Pre : Pt → Array Value → Prop} {Post : Pt → Array Value → Option Value → Pt → Prop} {PostX : Pt → Array Value → Addr → Pt → Prop} (hK : vx_Back l R p e below s args y 3 W9 Pre Post PostX)
    {g : JFrame} (hg : g.method = m) (hsize : g.locals.size = c.maxLocals) {argsL rest : List Value} (hlen : ∀ sig, parseMethodDescriptor y.desc = some sig → argsL.length = sig.parameters.length)
    (hstack : g.stack = argsL.reverse ++ rest) (hW : 2 * g.monitorRoom + (rest.map fun v => v.category).sum ≤ W9) (hdg : decode c.code g.pc = .ok (.invokestatic index, 3))
    (hpre : ∀ vm₁, s.WarmedH vm₁ → Pre ⟨T.setVm vm₁, locs, cells, slots⟩ argsL.toArray) :
    (∃ (v : Option Value) (vm₁ : Vm) (B : Pt), s.WarmedH vm₁ ∧ Stand p l e R s m args below meth c B.U B.locs B.cells B.slots ∧ Post ⟨T.setVm vm₁, locs, cells, slots⟩ argsL.toArray v B ∧
      ∀ target, Steps p.tables e below (B.U.setTop { g with pc := g.pc + 3, stack := v.toList ++ rest }) target → Steps p.tables e below (T.setTop g) target) ∨
    (∃ (q : Addr) (vm₁ : Vm) (B : Pt), s.WarmedH vm₁ ∧ Stand p l e R s m args below meth c B.U B.locs B.cells B.slots ∧ PostX ⟨T.setVm vm₁, locs, cells, slots⟩ argsL.toArray q B ∧
      Steps p.tables e below (T.setTop g) ((B.U.setTop { g with stack := rest }).pushFrame (.throwing q))) := by
  obtain ⟨mk, methM, cM, hnamed, hmethM, -, -, -, -, -, -, hsigM⟩ := Cond.codeWith_spec hcode
  have hstatic : methM.isStatic = true := Cond.static_spec hnamed hmethM hstat
  obtain ⟨kP, hkP, -⟩ := className_of_methodNamed hnamed
  have hinitP : kP.init = .initialized := Cond.initialized_spec (findClass_of_methodNamed hnamed) hkP hinit
  obtain ⟨vm₁, X₁, hstep₁⟩ := X.invokestatic hexec hown hlink hnamed hmethM hstatic hkP hinitP hy (g := g) hg (argsL := argsL) (rest := rest) (hlen _ hsigM) hstack hdg
  rcases hK m meth c ⟨T.setVm vm₁, locs, cells, slots⟩ { g with stack := rest } (.invokestatic index) mk argsL.toArray X₁ hg hsize hdg hW (X₁.named hnamed) (hpre vm₁ X₁.warmed) with ⟨v, B, X', hpost, hsteps⟩ | ⟨q, B, X', hpost, hsteps⟩
  · exact Or.inl ⟨v, vm₁, B, X₁.warmed, X', hpost, fun target h => hstep₁ _ fun acts => by rw [doInvoke_state]; exact hsteps.trans h⟩
  · exact Or.inr ⟨q, vm₁, B, X₁.warmed, X', hpost, hstep₁ _ fun acts => by rw [doInvoke_state]; exact hsteps⟩
theorem vx_callVW (X : Stand p l e R s m args below meth c T locs cells slots) (hexec : p.tables.exec = Jvm.exec) {own C : String} {index : Nat} {y : MethodName} {bytes : ByteArray} {maxL : Nat} {ret : Option FieldType} {hh : List (Nat × Nat × Nat × Nat)}
    (hown : s.vm.findClass own = some m.cls) (hlink : (Cond.methodLink own index y).before args s = true) (hinst : (Cond.instanceMethod y).before args s = true) (hsel : (Cond.selects C y y).before args s = true)
    (hcode : (Cond.codeWith y bytes maxL ret hh).before args s = true) (hy : y.cls ≠ "java/lang/invoke/MethodHandle" ∧ y.cls ≠ "java/lang/invoke/VarHandle")
    {W9 : Nat} {Pre : Pt → Array Value → Prop} {Post : Pt → Array Value → Option Value → Pt → Prop} (hK : Back l R p e below s args y 3 W9 Pre Post)
    {b : Addr} {cellB : Cell} (hcell : T.heap[b]? = some cellB) (hobj : cellB.vm.isStatics = false) (hcls : s.vm.findClass C = some cellB.cls)
    {g : JFrame} (hg : g.method = m) (hsize : g.locals.size = c.maxLocals) {argsL rest : List Value} (hlen : ∀ sig, parseMethodDescriptor y.desc = some sig → argsL.length = sig.parameters.length)
    (hstack : g.stack = argsL.reverse ++ .ref b :: rest) (hW : 2 * g.monitorRoom + (rest.map fun v => v.category).sum ≤ W9) (hdg : decode c.code g.pc = .ok (.invokevirtual index, 3))
    (hpre : ∀ vm₁, s.WarmedH vm₁ → Pre ⟨T.setVm vm₁, locs, cells, slots⟩ (Value.ref b :: argsL).toArray) :
    ∃ (v : Option Value) (vm₁ : Vm) (B : Pt), s.WarmedH vm₁ ∧ Stand p l e R s m args below meth c B.U B.locs B.cells B.slots ∧ Post ⟨T.setVm vm₁, locs, cells, slots⟩ (Value.ref b :: argsL).toArray v B ∧
      ∀ target, Steps p.tables e below (B.U.setTop { g with pc := g.pc + 3, stack := v.toList ++ rest }) target → Steps p.tables e below (T.setTop g) target := by
  obtain ⟨mk, methM, hnamed, hmethM, hstM, habM⟩ := Cond.instanceMethod_spec hinst
  obtain ⟨m8, methM', cM, hn8, hmethM', -, -, -, -, -, -, hsigM⟩ := Cond.codeWith_spec hcode
  cases Option.some.inj (hn8.symm.trans hnamed)
  cases hmethM.symm.trans hmethM'
  obtain ⟨c2, r2, m2, q1, q2, q3, q4, kP, hkP, hkPi⟩ := Cond.selects_spec hsel
  cases hcls.symm.trans q1
  cases (State.methodFound?_of_named hnamed hy).symm.trans q2
  cases hnamed.symm.trans q3
  have hselP : selectMethod e.platform s.vm cellB.cls mk = .method mk := by rw [Launch.admits_selectMethod X.admits]; exact q4
  obtain ⟨vm₁, X₁, hstep₁⟩ := X.invokevirtual hexec hown hlink hnamed hmethM hstM hkP hkPi hy (a := b) (cell := cellB) hcell
    (fun z h => by rw [h] at hobj; cases hobj) hselP hmethM habM hkP hkPi (g := g) hg (argsL := argsL) (rest := rest) (hlen _ hsigM) hstack hdg
  obtain ⟨v, B, X', hpost, hsteps⟩ := hK m meth c ⟨T.setVm vm₁, locs, cells, slots⟩ { g with stack := rest } (.invokevirtual index) mk (Value.ref b :: argsL).toArray X₁ hg hsize hdg hW (X₁.named hnamed) (hpre vm₁ X₁.warmed)
  exact ⟨v, vm₁, B, X₁.warmed, X', hpost, fun target h => hstep₁ _ fun acts => by rw [doInvoke_state]; exact hsteps.trans h⟩
abbrev vx_CVW (R : Room) (s : State) (args : Array Value) (own C : String) (index : Nat) (y : MethodName) (bytes : ByteArray) (maxL : Nat) (ret : Option FieldType) (hh : List (Nat × Nat × Nat × Nat)) (ws : List Cond) (rm : Room) (mc ms n : Nat) : Prop :=
  (rm.cells = mc ∧ rm.slots = ms ∧ rm.frames + 1 ≤ R.frames ∧ 8 + (maxL + 11) + rm.locals ≤ R.locals ∧ (∀ w ∈ ws, ∀ (a' : Array Value) (U : State), s.WarmedH U.vm → w.before a' U = true) ∧ Cond.codeWith y bytes maxL ret hh ∈ ws) ∧
  (Cond.codeWith y bytes maxL ret hh).before args s = true ∧ (Cond.initialized y.cls).before args s = true ∧ (y.cls ≠ "java/lang/invoke/MethodHandle" ∧ y.cls ≠ "java/lang/invoke/VarHandle") ∧
  (∀ sig, parseMethodDescriptor y.desc = some sig → n = sig.parameters.length) ∧ (Cond.methodLink own index y).before args s = true ∧ (Cond.instanceMethod y).before args s = true ∧ (Cond.selects C y y).before args s = true
theorem vx_cwVW {own C : String} {index maxL mc ms : Nat} {y : MethodName} {bytes : ByteArray} {ret : Option FieldType} {hh : List (Nat × Nat × Nat × Nat)} {Ts ws ws' : List Cond} {rm : Room} (n : Nat) (ht : ∀ w ∈ Ts, w.before args s = true) (hT : GoodIn Ts (wsV own index C y ws)) (hw : ws = Cond.codeWith y bytes maxL ret hh :: ws') (hrc : rm.cells = mc) (hrs : rm.slots = ms)
    (hd : y.cls = C ∧ y.cls ≠ "java/lang/invoke/MethodHandle" ∧ y.cls ≠ "java/lang/invoke/VarHandle" ∧ (parseMethodDescriptor y.desc).map (fun d => d.parameters.length) = some n) (hR : rm.frames + 1 ≤ R.frames ∧ 8 + (maxL + 11) + rm.locals ≤ R.locals) :
    vx_CVW R s args own C index y bytes maxL ret hh ws rm mc ms n := by
  obtain ⟨hC, hd⟩ := hd
  subst hC
  have ok : ∀ w ∈ wsV own index y.cls y ws, w.before args s = true := fun w h => ht w (hT w h).1
  have hG : GoodIn Ts ws := fun w h => hT w (by unfold wsV; exact List.mem_append_right _ h)
  have hc : Cond.codeWith y bytes maxL ret hh ∈ ws := by rw [hw]; exact List.mem_cons_self
  refine ⟨⟨hrc, hrs, hR.1, hR.2, pay_in ht hG, hc⟩, ht _ (hG _ hc).1, ok _ (by simp [wsV]), ⟨hd.1, hd.2.1⟩, fun sig h => ?_, ok _ (by simp [wsV]), ok _ (by simp [wsV]), ok _ (by simp [wsV])⟩
  have h2 := hd.2.2
  rw [h] at h2
  exact (Option.some.inj h2).symm
theorem vx_runVW {y : MethodName} {bytes cc : ByteArray} {maxL nL mc ms n index : Nat} {ret : Option FieldType} {hh : List (Nat × Nat × Nat × Nat)} {ws : List Cond} {rm : Room} {Pc : Array Value → State → Prop} {Qc : Array Value → State → Outcome → State → Prop} {free : Addr → Prop} {Ts : List Cond} {own C : String} {b : Addr} {As rest : List Value} {g : JFrame}
    (S : CallFix p m c cc nL s args Ts own) (hM : Met l y ws rm Pc Qc mc ms free) (cw : vx_CVW R s args own C index y bytes maxL ret hh ws rm mc ms n) (hp : PreV s H C b Pc As)
    (hg : g.method = m) (hn : As.length = n) (hsize : g.locals.size = nL) (hstack : g.stack = As.reverse ++ .ref b :: rest) (hW : 2 * g.monitorRoom + (rest.map fun v => v.category).sum ≤ 8) (hdg : decode cc g.pc = .ok (.invokevirtual index, 3)) (hf : cells + mc ≤ R.cells ∧ slots + ms ≤ R.slots) :
    va_Run p l e R s m args below meth c H locs cells slots mc ms g rest (Qc (Value.ref b :: As).toArray) free := by
  obtain ⟨⟨hrc, hrs, hfr, hlo, hws, hcw⟩, hcode, hini, hy, hlen, hl, hin, hse⟩ := cw
  have hK : Back l R p e below s args y 3 8 (PreOf R mc ms Pc) (PostOf Qc mc ms free) := va_backW (hh := hh) (bytes := bytes) (maxL := maxL) (ret := ret) hM hp.1 hrc hrs hfr hlo hws hcw (fun a' U hW => word_at hW (Or.inl (by first | rfl | simp [Cond.onTables, Cond.keeps, Cond.steady])) hini)
  obtain ⟨hx, hb, hml, ho, -⟩ := S
  obtain ⟨-, ⟨cellB, hcB, hoB, hclB⟩, hPc⟩ := hp
  intro T hT X
  obtain ⟨v, vm₁, ⟨U', l2, c2, s2⟩, hW₁, X', ⟨g', mk, t, L, e1, e2, hq, h1, hL, h2, h3⟩, st⟩ := vx_callVW X hx (C := C) (hh := hh) (bytes := bytes) (maxL := maxL) (ret := ret) ho hl hin hse hcode hy hK (by rw [hT]; exact hcB) hoB hclB hg (hsize.trans hml.symm) (argsL := As) (rest := rest) (fun sig h => hn.trans (hlen sig h)) hstack hW (by rw [hb]; exact hdg)
    (fun vm₁ hW₁ => ⟨hf.1, hf.2, hPc (T.setVm vm₁) hT hW₁⟩)
  dsimp only [Pt.U, Pt.locs, Pt.cells, Pt.slots] at X' e1 e2 h1 h2 h3 st
  subst h1; subst h2; subst h3
  exact ⟨v, (T.setVm vm₁).calling g' mk (Value.ref b :: As).toArray, t, U', L, hT, X', hL, e1, e2, hq, st⟩
section
variable {y : MethodName} {bytes cc : ByteArray} {maxL nL mc ms n index : Nat} {ret : Option FieldType} {ws : List Cond} {rm : Room} {Pc : Array Value → State → Prop} {Qc : Array Value → State → Outcome → State → Prop} {XC : String → State → State → Prop} {free : Addr → Prop} {Ts : List Cond} {own C : String} {b : Addr} {As rest : List Value} {g : JFrame}
theorem vx_runVX {hh : List (Nat × Nat × Nat × Nat)} (S : CallFix p m c cc nL s args Ts own) (hM : vx_Met l y ws rm Pc Qc XC mc ms free) (cw : vx_CVW R s args own C index y bytes maxL ret hh ws rm mc ms n) (hp : PreV s H C b Pc As)
    (hg : g.method = m) (hn : As.length = n) (hsize : g.locals.size = nL) (hstack : g.stack = As.reverse ++ .ref b :: rest) (hW : 2 * g.monitorRoom + (rest.map fun v => v.category).sum ≤ 8) (hdg : decode cc g.pc = .ok (.invokevirtual index, 3)) (hf : cells + mc ≤ R.cells ∧ slots + ms ≤ R.slots) :
    vx_Run p l e R s m args below meth c H locs cells slots mc ms g rest (Qc (Value.ref b :: As).toArray) XC free := by
  obtain ⟨⟨hrc, hrs, hfr, hlo, hws, hcw⟩, hcode, hini, hy, hlen, hl, hin, hse⟩ := cw
  have hK : vx_Back l R p e below s args y 3 8 (PreOf R mc ms Pc) (PostOf Qc mc ms free) (vx_Post XC mc ms free) := vx_backW (hh := hh) (bytes := bytes) (maxL := maxL) (ret := ret) hM hp.1 hrc hrs hfr hlo hws hcw (fun a' U hW => word_at hW (Or.inl (by first | rfl | simp [Cond.onTables, Cond.keeps, Cond.steady])) hini)
  obtain ⟨hx, hb, hml, ho, -⟩ := S
  obtain ⟨-, ⟨cellB, hcB, hoB, hclB⟩, hPc⟩ := hp
  intro T hT X
  rcases vx_callVX X hx (C := C) (hh := hh) (bytes := bytes) (maxL := maxL) (ret := ret) ho hl hin hse hcode hy hK (by rw [hT]; exact hcB) hoB hclB hg (hsize.trans hml.symm) (argsL := As) (rest := rest) (fun sig h => hn.trans (hlen sig h)) hstack hW (by rw [hb]; exact hdg)
    (fun vm₁ hW₁ => ⟨hf.1, hf.2, hPc (T.setVm vm₁) hT hW₁⟩) with ⟨v, vm₁, ⟨U', l2, c2, s2⟩, hW₁, X', ⟨g', mk, t, L, e1, e2, hq, h1, hL, h2, h3⟩, st⟩ | ⟨q, vm₁, ⟨U', l2, c2, s2⟩, hW₁, X', ⟨g', mk, t, L, E, ce, e1, e2, hq, hce, hcv, hcl, h1, hL, h2, h3⟩, st⟩
  · dsimp only [Pt.U, Pt.locs, Pt.cells, Pt.slots] at X' e1 e2 h1 h2 h3 st
    subst h1; subst h2; subst h3
    exact Or.inl ⟨v, (T.setVm vm₁).calling g' mk (Value.ref b :: As).toArray, t, U', L, hT, X', hL, e1, e2, hq, st⟩
  · dsimp only [Pt.U, Pt.locs, Pt.cells, Pt.slots] at X' e1 e2 h1 h2 h3 st hcl
    subst h1; subst h2; subst h3
    exact Or.inr ⟨q, (T.setVm vm₁).calling g' mk (Value.ref b :: As).toArray, t, U', L, E, ce, hT, X', hL, e1, e2, hq, hce, hcv, vx_cls hW₁ hcl, st⟩
theorem vx_runSX {hh : List (Nat × Nat × Nat × Nat)} (S : CallFix p m c cc nL s args Ts own) (hM : vx_Met l y ws rm Pc Qc XC mc ms free) (cw : vx_CSW R s args own index y bytes maxL ret hh ws rm mc ms n) (hp : PreS s H Pc As)
    (hg : g.method = m) (hn : As.length = n) (hsize : g.locals.size = nL) (hstack : g.stack = As.reverse ++ rest) (hW : 2 * g.monitorRoom + (rest.map fun v => v.category).sum ≤ 8) (hdg : decode cc g.pc = .ok (.invokestatic index, 3)) (hf : cells + mc ≤ R.cells ∧ slots + ms ≤ R.slots) :
    vx_Run p l e R s m args below meth c H locs cells slots mc ms g rest (Qc As.toArray) XC free := by
  obtain ⟨⟨hrc, hrs, hfr, hlo, hws, hcw⟩, hcode, hini, hy, hlen, hl, hstt⟩ := cw
  have hK : vx_Back l R p e below s args y 3 8 (PreOf R mc ms Pc) (PostOf Qc mc ms free) (vx_Post XC mc ms free) := vx_backW (hh := hh) (bytes := bytes) (maxL := maxL) (ret := ret) hM hp.1 hrc hrs hfr hlo hws hcw (fun a' U hW => word_at hW (Or.inl (by first | rfl | simp [Cond.onTables, Cond.keeps, Cond.steady])) hini)
  obtain ⟨hx, hb, hml, ho, -⟩ := S
  intro T hT X
  rcases vx_callSX X hx (hh := hh) (bytes := bytes) (maxL := maxL) (ret := ret) ho hl hstt hini hcode hy hK hg (hsize.trans hml.symm) (argsL := As) (rest := rest) (fun sig h => hn.trans (hlen sig h)) hstack hW (by rw [hb]; exact hdg)
    (fun vm₁ hW₁ => ⟨hf.1, hf.2, hp.2 (T.setVm vm₁) hT hW₁⟩) with ⟨v, vm₁, ⟨U', l2, c2, s2⟩, hW₁, X', ⟨g', mk, t, L, e1, e2, hq, h1, hL, h2, h3⟩, st⟩ | ⟨q, vm₁, ⟨U', l2, c2, s2⟩, hW₁, X', ⟨g', mk, t, L, E, ce, e1, e2, hq, hce, hcv, hcl, h1, hL, h2, h3⟩, st⟩
  · dsimp only [Pt.U, Pt.locs, Pt.cells, Pt.slots] at X' e1 e2 h1 h2 h3 st
    subst h1; subst h2; subst h3
    exact Or.inl ⟨v, (T.setVm vm₁).calling g' mk As.toArray, t, U', L, hT, X', hL, e1, e2, hq, st⟩
  · dsimp only [Pt.U, Pt.locs, Pt.cells, Pt.slots] at X' e1 e2 h1 h2 h3 st hcl
    subst h1; subst h2; subst h3
    exact Or.inr ⟨q, (T.setVm vm₁).calling g' mk As.toArray, t, U', L, E, ce, hT, X', hL, e1, e2, hq, hce, hcv, vx_cls hW₁ hcl, st⟩
end
end VXH
theorem vx_ofWH {l : Launch} {y : MethodName} {ws ws' : List Cond} {rm : Room} {Pc : Array Value → State → Prop} {Qc : Array Value → State → Outcome → State → Prop} {XC : String → State → State → Prop} {mc ms : Nat} {free : Addr → Prop} {cc : ByteArray} {maxL : Nat} {ret : Option FieldType} {hh : List (Nat × Nat × Nat × Nat)}
    (hy : plainName y.cls = true) (hw : ws = Cond.codeWith y cc maxL ret hh :: ws')
    (body : ∀ p e s m args below meth c s₁, BodyLoose p l y (headSpec ws rm) cc maxL ret e s m args below meth c s₁ → c.maxLocals = maxL → Pc args s →
      W p l e (headSpec ws rm).room s m args below meth c s.heap [] 0 0 (vx_MQ below Qc XC args s mc ms free) (entryFrame m args maxL)) : vx_Met l y ws rm Pc Qc XC mc ms free := by
  refine MetFree.of_bodyS (code := cc) (maxLocals := maxL) (ret := ret) hy ?_ ?_
  · intro args s m h hn
    obtain ⟨m9, meth, c, hn9, h1, h2, h3, h4, -, h5, h6, -⟩ := Cond.codeWith_spec (atoms_spec (ws := ws) h _ (by rw [hw]; exact List.mem_cons_self))
    cases hn.symm.trans hn9
    exact ⟨meth, c, h1, h2, h3, h4, h5, h6⟩
  · intro p e s m args below meth c s₁ B hml hP _
    have hh0 : s₁.heap = s.heap := by rw [B.state]; rfl
    obtain ⟨t, a1, o, b1, b2, b3⟩ := body p e s m args below meth c s₁ B hml hP s₁ hh0 (Stand.of_body B)
    exact ⟨t, o, a1, b1, b2, b3⟩
/-! ===== END ===== -/
end
section
/-! printed by wip/whole/gencode.py: the cells in the order of their making, the methods of the small machine, their code -/
abbrev mj_O : Type := Nat × Nat × Nat × Nat × Nat
/-- the kind of a cell: 1 ints, 2 longs, 3 bytes, 4 booleans, 10 + k an object of class k -/
def mj_shl : List Nat := ([21, 3, 1, 19, 1, 1, 1, 1, 17, 1, 1, 1, 16, 1, 1, 1, 19, 1, 1, 1, 1, 17, 1, 1, 1, 16, 1, 1, 1, 15, 11, 17, 1, 1, 1, 1, 1, 1, 1, 11, 17, 1, 1, 1, 1, 1, 1, 1, 14, 1, 1, 12, 1, 12, 1, 18, 1, 1, 1, 2, 20, 1, 1, 1, 1, 13, 1, 10, 17, 1, 1, 1, 1, 22, 1, 1, 1, 1, 1, 1, 1, 1, 1, 1, 1, 1, 1, 1, 4, 1, 1, 1, 1, 1, 1, 2, 1, 1, 1, 1, 1, 2, 2, 1, 1, 1, 2] : List Nat)
def mj_lnl : List Nat := ([18, 700, 3, 7, 11, 11, 11, 11, 4, 10, 10, 10, 9, 32, 700, 64, 7, 11, 11, 11, 11, 4, 10, 10, 10, 9, 32, 0, 64, 11, 8, 4, 10, 10, 10, 440, 8, 8, 8, 8, 4, 10, 10, 10, 440, 8, 8, 8, 5, 800, 100, 5, 90, 5, 90, 7, 10, 100, 10, 1024, 9, 10, 10, 10, 10, 8, 9, 5, 4, 10, 10, 10, 100, 63, 11, 11, 11, 11, 1400, 700, 3, 11, 11, 11, 11, 33, 1400, 950, 9, 66, 1320, 11, 950, 100, 1024, 1024, 100, 10, 10, 10, 24, 20, 1800, 33, 1320, 24, 1] : List Nat)
def mj_sh (k : Nat) : Nat := mj_shl.getD k 0
def mj_ln (k : Nat) : Nat := mj_lnl.getD k 0
def mj_ftl : List (List Nat) := ([([3, 0, 3, 3, 0] : List Nat), ([3, 0, 0, 0, 3, 3, 3, 3] : List Nat), ([3, 3, 3, 3, 0] : List Nat), ([1, 0, 0, 3, 3, 3, 3, 3] : List Nat), ([3, 3, 3, 3, 0] : List Nat), ([0, 3, 3, 0, 0, 0, 0, 0, 0, 0, 0] : List Nat), ([3, 0, 0, 0, 0, 0, 0, 3, 3] : List Nat), ([0, 3, 3, 3] : List Nat), ([3, 1, 3, 3, 3, 3, 3] : List Nat), ([0, 3, 3, 3, 3, 3, 3] : List Nat), ([3, 1, 0, 3, 3, 3, 3, 3, 3] : List Nat), ([3, 0, 0, 3, 3, 3, 3, 3, 3, 1, 3, 3, 3, 3, 3, 3, 3, 3] : List Nat), ([0, 0, 0, 0, 3, 3, 3, 3, 3, 3, 0, 0, 0, 3, 0, 0, 0, 0, 0, 0, 0, 2, 0, 0, 0, 0, 0, 0, 0, 0, 3, 3, 3, 3, 3, 3, 3, 3, 3, 3, 0, 3, 3, 3, 3, 3, 3, 3, 3, 3, 0, 0, 0, 3, 3, 3, 0, 1, 0, 0, 3, 3, 3] : List Nat)] : List (List Nat))
def mj_ft (c j : Nat) : Nat := (mj_ftl.getD c []).getD j 0
/-- the texts that charAt and indexOf read -/
def mj_txt (k : Nat) : List Nat := ([([59, 40, 41, 43, 45, 42, 47, 60, 61] : List Nat), ([112, 108, 97, 105, 110, 32, 32, 32, 115, 116, 114, 105, 112, 101, 100, 32, 97, 114, 103, 121, 108, 101, 32, 32, 104, 101, 101, 108, 101, 100, 32, 32, 98, 111, 117, 110, 100, 32, 32, 32, 97, 108, 105, 107, 101, 32, 32, 32, 108, 105, 107, 101, 115, 32, 32, 32, 111, 114, 32, 32, 32, 32, 32, 32, 97, 110, 100, 32, 32, 32, 32, 32, 110, 111, 116, 32, 32, 32, 32, 32, 99, 111, 108, 111, 117, 114, 115, 32, 115, 105, 122, 101, 115, 32, 32, 32, 104, 111, 108, 101, 115, 32, 32, 32, 119, 111, 114, 110, 32, 32, 32, 32, 112, 97, 116, 116, 101, 114, 110, 32, 119, 111, 111, 108, 32, 32, 32, 32, 99, 104, 97, 114, 109, 32, 32, 32, 111, 119, 110, 32, 32, 32, 32, 32, 115, 105, 122, 101, 32, 32, 32, 32] : List Nat)] : List (List Nat)).getD k []
def mj_ixo : List Nat → Nat → Int32 → Int32
  | [], _, _ => -1
  | c :: t, i, x => if x = nI c then nI i else mj_ixo t (i + 1) x
def mj_sw0 : List (Int32 × Nat) := ([(nI 7, 80), (nI 8, 90), (nI 42, 148), (nI 43, 124), (nI 45, 136), (nI 47, 160), (nI 60, 101), (nI 61, 112)] : List (Int32 × Nat))
def mj_sw1 : List (Int32 × Nat) := ([(nI 3, 172), (nI 4, 190), (nI 5, 208), (nI 6, 223), (nI 7, 238), (nI 8, 246), (nI 9, 254)] : List (Int32 × Nat))
def mj_sw2 : List (Int32 × Nat) := ([(nI 0, 60), (nI 1, 68), (nI 2, 76), (nI 3, 95), (nI 4, 103), (nI 5, 111), (nI 6, 119), (nI 7, 127), (nI 8, 132), (nI 9, 139), (nI 10, 146)] : List (Int32 × Nat))
def mj_sw3 : List (Int32 × Nat) := ([(nI 0, 56), (nI 1, 66), (nI 2, 76), (nI 3, 86), (nI 4, 96), (nI 5, 106), (nI 6, 116), (nI 7, 126), (nI 8, 135)] : List (Int32 × Nat))
def mj_sw4 : List (Int32 × Nat) := ([(nI 0, 68), (nI 1, 76)] : List (Int32 × Nat))
def mj_sw5 : List (Int32 × Nat) := ([(nI 0, 88), (nI 1, 106), (nI 2, 122), (nI 3, 137), (nI 4, 155), (nI 5, 170), (nI 6, 186), (nI 7, 202), (nI 8, 218), (nI 9, 234), (nI 10, 248), (nI 11, 263), (nI 12, 281), (nI 13, 298), (nI 14, 315), (nI 15, 331), (nI 16, 347), (nI 17, 361)] : List (Int32 × Nat))
def mj_sw6 : List (Int32 × Nat) := ([(nI 4, 44), (nI 5, 58), (nI 6, 72), (nI 7, 83), (nI 8, 94), (nI 9, 98), (nI 10, 102)] : List (Int32 × Nat))
def mj_sw7 : List (Int32 × Nat) := ([(nI 0, 68), (nI 1, 73), (nI 2, 80), (nI 3, 86), (nI 4, 92), (nI 5, 97), (nI 6, 102), (nI 7, 107)] : List (Int32 × Nat))
def mj_sw8 : List (Int32 × Nat) := ([(nI 0, 72), (nI 1, 81), (nI 2, 88), (nI 3, 95), (nI 4, 102), (nI 5, 112), (nI 6, 119), (nI 7, 129)] : List (Int32 × Nat))
def mj_sw9 : List (Int32 × Nat) := ([(nI 0, 224), (nI 1, 297), (nI 2, 353), (nI 3, 366), (nI 4, 422), (nI 5, 490), (nI 6, 558), (nI 7, 626), (nI 8, 651), (nI 9, 719), (nI 10, 787), (nI 11, 843), (nI 12, 918), (nI 13, 931), (nI 14, 999), (nI 15, 1055), (nI 16, 1111), (nI 17, 1167), (nI 18, 1223), (nI 19, 1236), (nI 20, 1249), (nI 21, 1262), (nI 22, 1318), (nI 23, 1332), (nI 24, 1388), (nI 25, 1444), (nI 26, 1524), (nI 27, 1580), (nI 28, 1660), (nI 29, 1671), (nI 30, 1727), (nI 31, 1783), (nI 32, 1851), (nI 33, 1931), (nI 34, 1944), (nI 35, 2024), (nI 36, 2092), (nI 37, 2105), (nI 38, 2161), (nI 39, 2217), (nI 40, 2230), (nI 41, 2241)] : List (Int32 × Nat))
def mj_swt (a : Nat) : List (Int32 × Nat) := ([mj_sw0, mj_sw1, mj_sw2, mj_sw3, mj_sw4, mj_sw5, mj_sw6, mj_sw7, mj_sw8, mj_sw9] : List (List (Int32 × Nat))).getD a []
/-- parameters (without the receiver) -/
def mj_mnl : List Nat := ([1, 3, 1, 2, 0, 0, 0, 0, 1, 1, 0, 0, 3, 1, 1, 0, 2, 1, 1, 1, 1, 1, 1, 1, 3, 0, 1, 1, 2, 0, 1, 2, 1, 2, 3, 0, 2, 2, 1, 0, 0, 0, 0, 1, 0, 2, 0, 1, 0, 2, 0, 1, 1, 1, 1, 0, 0, 0, 1, 1, 1, 2, 2, 0, 0, 1, 2, 2, 0, 1, 0, 1, 2, 1, 0, 0, 0, 0, 1, 0, 1, 2, 0, 1, 2, 1, 0, 6, 4, 2, 3, 2, 3, 2, 4, 0, 1, 3, 3, 0, 0, 5, 1, 1, 0, 1, 2, 2, 2, 1, 2, 2, 1, 2, 0, 2, 1, 1, 1, 1, 1, 0, 0, 0, 1, 0, 1, 1, 1, 3, 3, 1, 0, 3, 0, 1, 1, 2, 2, 2, 3, 4, 4, 0, 3, 2, 0, 0, 0, 1, 2, 1, 0, 1, 0, 2, 4, 0, 0, 5, 4, 0, 0, 2, 3, 2, 1, 5, 1, 1, 1, 1, 0, 7, 1, 0, 1, 0, 1, 1, 2, 1, 1, 1, 1, 1, 1, 0, 0, 1, 0, 0, 2, 1, 0, 1, 0, 0, 1, 0, 0, 3, 1, 2, 5, 3, 3, 2, 3, 2, 1, 1, 1, 1, 1, 1, 1, 1, 1, 0, 1, 1, 2, 2, 2, 2, 1, 2, 2, 1, 2, 2, 2, 1, 1, 1, 1, 0, 0, 1, 0, 1, 0, 1, 1, 1, 1, 1, 0, 1, 2, 1, 0, 3, 1, 0, 1, 1, 2, 3, 1, 1, 3, 0, 0, 1, 1, 1, 2, 2, 2, 4, 3, 0, 2, 2, 0, 1, 0, 3, 0, 0, 1, 1, 0, 2, 2, 3, 1, 2, 0, 0, 4, 4, 1, 3, 3, 4, 4, 4, 4, 4, 3, 4, 4, 3, 3, 3, 3, 3, 3, 3, 5, 3, 5, 3, 3, 4, 5, 5, 4, 3, 3, 1] : List Nat)
def mj_mn (m : Nat) : Nat := mj_mnl.getD m 0
/-- the class that holds a method -/
def mj_mol : List Nat := ([0, 0, 0, 0, 0, 0, 0, 1, 1, 1, 1, 1, 1, 1, 2, 2, 2, 2, 2, 2, 2, 2, 2, 2, 3, 3, 3, 3, 3, 3, 3, 4, 4, 4, 4, 4, 5, 5, 5, 5, 5, 5, 5, 5, 5, 5, 5, 5, 5, 5, 5, 5, 5, 5, 6, 6, 6, 6, 6, 6, 6, 6, 6, 7, 7, 7, 7, 7, 7, 8, 8, 8, 8, 8, 8, 8, 8, 8, 8, 8, 8, 8, 8, 8, 8, 9, 9, 9, 9, 9, 9, 10, 10, 10, 10, 10, 10, 10, 10, 10, 11, 11, 11, 11, 11, 11, 11, 11, 11, 11, 11, 11, 11, 11, 11, 11, 11, 11, 11, 11, 11, 11, 11, 11, 11, 11, 11, 11, 11, 11, 11, 11, 11, 11, 11, 11, 11, 11, 11, 11, 11, 11, 11, 11, 11, 11, 11, 11, 11, 11, 11, 11, 11, 11, 11, 11, 11, 11, 11, 11, 11, 12, 12, 12, 12, 12, 12, 12, 12, 12, 12, 12, 12, 12, 12, 12, 12, 12, 12, 12, 12, 12, 12, 12, 12, 12, 12, 12, 12, 12, 12, 12, 12, 12, 12, 12, 12, 12, 12, 12, 12, 12, 12, 12, 12, 12, 12, 12, 12, 12, 12, 12, 12, 12, 12, 12, 12, 12, 12, 12, 12, 12, 12, 12, 12, 12, 12, 12, 12, 12, 12, 12, 12, 12, 12, 12, 12, 12, 12, 12, 12, 12, 12, 12, 12, 12, 12, 12, 12, 12, 12, 12, 12, 12, 12, 12, 12, 12, 12, 12, 12, 12, 12, 12, 12, 12, 12, 12, 12, 12, 12, 12, 12, 12, 12, 12, 12, 12, 12, 12, 12, 12, 14, 15, 15, 16, 15, 17, 15, 15, 15, 15, 16, 16, 16, 18, 18, 18, 18, 18, 18, 18, 18, 18, 18, 18, 18, 18, 18, 18, 18, 18, 18, 18, 18, 18, 18, 18, 18, 18, 18, 18, 18, 18] : List Nat)
def mj_mo (m : Nat) : Nat := mj_mol.getD m 0
/-- locals -/
def mj_mll : List Nat := ([2, 5, 2, 4, 3, 4, 3, 1, 2, 2, 1, 1, 4, 3, 2, 1, 3, 4, 2, 5, 2, 3, 2, 4, 4, 2, 5, 3, 7, 3, 2, 3, 5, 5, 7, 3, 3, 4, 2, 1, 6, 1, 1, 2, 2, 4, 3, 3, 3, 7, 2, 2, 2, 2, 2, 1, 1, 1, 3, 2, 3, 3, 9, 1, 2, 2, 4, 5, 3, 2, 5, 2, 6, 2, 3, 3, 6, 4, 4, 4, 5, 6, 4, 4, 5, 2, 1, 12, 6, 11, 5, 3, 10, 7, 8, 2, 3, 8, 6, 3, 2, 6, 3, 3, 1, 2, 3, 3, 4, 4, 4, 3, 3, 3, 1, 3, 3, 2, 2, 2, 4, 1, 1, 1, 4, 1, 2, 2, 2, 4, 11, 2, 6, 4, 1, 2, 2, 7, 4, 6, 7, 5, 9, 1, 4, 3, 1, 1, 1, 2, 2, 1, 3, 2, 1, 3, 5, 1, 1, 12, 7, 1, 1, 3, 3, 4, 3, 6, 3, 2, 1, 1, 2, 9, 1, 2, 2, 1, 2, 2, 4, 3, 2, 1, 1, 2, 2, 2, 1, 5, 2, 1, 5, 3, 4, 3, 1, 2, 2, 2, 2, 3, 5, 2, 9, 4, 4, 4, 4, 4, 7, 3, 4, 2, 3, 4, 4, 4, 6, 3, 2, 2, 3, 3, 3, 3, 3, 4, 4, 3, 3, 3, 3, 3, 2, 2, 2, 6, 3, 4, 4, 3, 5, 5, 2, 6, 5, 5, 1, 6, 3, 4, 2, 5, 6, 4, 2, 2, 7, 5, 3, 5, 4, 1, 6, 3, 5, 10, 5, 4, 7, 6, 9, 7, 7, 4, 4, 2, 4, 6, 2, 2, 1, 2, 1, 2, 2, 3, 2, 3, 1, 1, 4, 6, 1, 4, 4, 5, 5, 5, 5, 5, 4, 5, 5, 4, 4, 4, 4, 4, 4, 4, 6, 4, 6, 4, 4, 5, 6, 6, 5, 4, 4, 7] : List Nat)
def mj_ml (m : Nat) : Nat := mj_mll.getD m 0
/-- cells that a method may make -/
def mj_mcl : List Nat := ([5, 0, 0, 0, 0, 0, 0, 8, 0, 0, 0, 0, 0, 0, 1, 0, 0, 0, 0, 0, 0, 0, 0, 0, 1, 0, 0, 0, 0, 0, 0, 2, 0, 0, 0, 0, 0, 0, 0, 0, 0, 0, 0, 0, 0, 0, 0, 0, 0, 0, 0, 0, 0, 0, 3, 0, 0, 0, 0, 0, 0, 0, 0, 3, 0, 0, 0, 0, 0, 3, 0, 0, 0, 0, 0, 0, 0, 0, 0, 0, 0, 0, 0, 0, 0, 12, 0, 0, 0, 0, 0, 4, 0, 0, 0, 0, 0, 0, 0, 0, 72, 0, 0, 1, 0, 1, 2, 2, 2, 0, 1, 1, 1, 2, 0, 2, 1, 1, 1, 1, 1, 0, 0, 0, 1, 0, 1, 1, 1, 3, 0, 1, 0, 2, 0, 1, 1, 2, 0, 0, 4, 0, 0, 0, 2, 2, 0, 0, 0, 1, 1, 1, 0, 0, 0, 0, 0, 0, 0, 0, 0, 32, 0, 0, 0, 0, 0, 0, 0, 0, 0, 0, 0, 0, 0, 0, 0, 0, 0, 0, 0, 0, 0, 0, 0, 0, 0, 0, 0, 0, 0, 0, 0, 0, 0, 0, 0, 0, 0, 0, 0, 0, 0, 0, 0, 0, 0, 0, 0, 0, 0, 0, 0, 0, 0, 0, 0, 0, 0, 0, 0, 0, 0, 0, 0, 0, 0, 0, 0, 0, 0, 0, 0, 0, 0, 0, 0, 0, 0, 0, 0, 0, 0, 0, 0, 0, 0, 0, 0, 0, 0, 0, 0, 0, 0, 0, 0, 0, 0, 0, 0, 0, 0, 0, 0, 0, 0, 0, 0, 0, 0, 0, 0, 0, 0, 0, 0, 0, 0, 0, 0, 0, 0, 0, 0, 0, 0, 0, 0, 0, 0, 0, 0, 0, 0, 1, 1, 2, 2, 2, 1, 1, 1, 2, 2, 1, 1, 1, 1, 1, 1, 1, 3, 1, 2, 1, 1, 2, 4, 2, 2, 1, 1, 601024] : List Nat)
def mj_mc (m : Nat) : Nat := mj_mcl.getD m 0
/-- their slots -/
def mj_msl : List Nat := ([134, 0, 0, 0, 0, 0, 0, 498, 0, 0, 0, 0, 0, 0, 90, 0, 0, 0, 0, 0, 0, 0, 0, 0, 9, 0, 0, 0, 0, 0, 0, 900, 0, 0, 0, 0, 0, 0, 0, 0, 0, 0, 0, 0, 0, 0, 0, 0, 0, 0, 0, 0, 0, 0, 796, 0, 0, 0, 0, 0, 0, 0, 0, 30, 0, 0, 0, 0, 0, 120, 0, 0, 0, 0, 0, 0, 0, 0, 0, 0, 0, 0, 0, 0, 0, 883, 0, 0, 0, 0, 0, 40, 0, 0, 0, 0, 0, 0, 0, 0, 5957, 0, 0, 6, 0, 6, 12, 12, 12, 0, 6, 6, 6, 12, 0, 12, 6, 6, 6, 6, 6, 0, 0, 0, 6, 0, 6, 6, 6, 18, 0, 6, 0, 12, 0, 6, 6, 12, 0, 0, 24, 0, 0, 0, 12, 12, 0, 0, 0, 6, 6, 6, 0, 0, 0, 0, 0, 0, 0, 0, 0, 12429, 0, 0, 0, 0, 0, 0, 0, 0, 0, 0, 0, 0, 0, 0, 0, 0, 0, 0, 0, 0, 0, 0, 0, 0, 0, 0, 0, 0, 0, 0, 0, 0, 0, 0, 0, 0, 0, 0, 0, 0, 0, 0, 0, 0, 0, 0, 0, 0, 0, 0, 0, 0, 0, 0, 0, 0, 0, 0, 0, 0, 0, 0, 0, 0, 0, 0, 0, 0, 0, 0, 0, 0, 0, 0, 0, 0, 0, 0, 0, 0, 0, 0, 0, 0, 0, 0, 0, 0, 0, 0, 0, 0, 0, 0, 0, 0, 0, 0, 0, 0, 0, 0, 0, 0, 0, 0, 0, 0, 0, 0, 0, 0, 0, 0, 0, 0, 0, 0, 0, 0, 0, 0, 0, 0, 0, 0, 0, 0, 0, 0, 0, 0, 0, 6, 6, 12, 12, 12, 6, 6, 6, 12, 12, 6, 6, 6, 6, 6, 6, 6, 18, 6, 12, 6, 6, 12, 24, 12, 12, 6, 6, 7293034] : List Nat)
def mj_ms (m : Nat) : Nat := mj_msl.getD m 0
def mj_myl : List MethodName := ([yX0_init, yX0_run, yX0_draw, yX0_befall, yX0_holdOne, yX0_fillFree, yX0_boundPeople, yX1_init, yX1_startAnew, yX1_copyFrom, yX1_keepAct, yX1_undoAct, yX1_addSeen, yX1_isAsSeen, yX2_init, yX2_restart, yX2_mateBehind, yX2_singleBehind, yX2_couplesBehind, yX2_rowBehind, yX2_mateAtNextFair, yX2_walk, yX2_bindAt, yX2_wornBehind, yX3_init, yX3_find, yX3_tryColours, yX3_note, yX3_noteRow, yX3_tellingFair, yX3_unlikeBehind, yX4_init, yX4_reach, yX4_figureAgain, yX4_figureCouple, yX4_fillOneColour, yX5_init, yX5_read, yX5_refuse, yX5_step, yX5_stepWord, yX5_stepNumber, yX5_isAnyWord, yX5_stepOver, yX5_readSock, yX5_readNumber, yX5_readCouple, yX5_readUnbound, yX5_readRule, yX5_readLevel, yX5_readNots, yX5_joinHere, yX5_readPart, yX5_readWithin, yX6_init, yX6_clear, yX6_hasAlike, yX6_hasLikes, yX6_endAlike, yX6_endLikes, yX6_alikeLooksAt, yX6_addStep, yX6_figure, yX7_init, yX7_clear, yX7_copyFrom, yX7_writeTo, yX7_readFrom, yX7_allHoles, yX8_init, yX8_know, yX8_whoMay, yX8_ratherThan, yX8_ratherNow, yX8_couplesThatMay, yX8_whoMayNobody, yX8_closestCouple, yX8_faithfulCouples, yX8_isTempted, yX8_leastRing, yX8_ringThrough, yX8_stepsBetween, yX8_parts, yX8_partOf, yX8_allOf, yX9_init, yX9_clear, yX9_likeness, yX9_fondness, yX9_knitFor, yX9_isLikeOneAlone, yX10_init, yX10_fill, yX10_fillFirstRow, yX10_firstMate, yX10_clearRow, yX10_findRests, yX10_settleFrom, yX10_isCalm, yX10_noteRest, yX11_init, yX11_feed, yX11_tapeNumber, yX11_fair, yX11_fault, yX11_count, yX11_person, yX11_alike, yX11_liking, yX11_hold, yX11_dye, yX11_darn, yX11_unravel, yX11_bind, yX11_undo, yX11_then, yX11_when, yX11_worn, yX11_couples, yX11_single, yX11_lasts, yX11_closest, yX11_lonely, yX11_faithful, yX11_most, yX11_best, yX11_rests, yX11_mates, yX11_colour, yX11_way, yX11_leastWay, yX11_knit, yX11_darner, yX11_see, yX11_forget, yX11_dyed, yX11_next, yX11_basket, yX11_basketLuck, yX11_commonDivisor, yX11_game, yX11_isGameAtRest, yX11_gain, yX11_ring, yX11_generations, yX11_far, yX11_circles, yX11_image, yX11_restore, yX11_checkPerson, yX11_checkWhat, yX11_checkForeseen, yX11_freeOnes, yX11_foreseen, yX11_knownTies, yX11_areFreeTwo, yX11_likenessShown, yX11_socksChanged, yX11_bindingsChanged, yX11_bindMostAlike, yX11_partWorn, yX12_init, yX12_thrown, yX12_right, yX12_within, yX12_copies, yX12_bits, yX12_feed, yX12_lays, yX12_byteAt, yX12_isLetter, yX12_isDigit, yX12_goes, yX12_spelled, yX12_letters, yX12_knownWord, yX12_wrong, yX12_isGood, yX12_isSign, yX12_need, yX12_number, yX12_unbound, yX12_puts, yX12_isOpen, yX12_strength, yX12_drops, yX12_waitsFor, yX12_part, yX12_deeper, yX12_operand, yX12_isOpened, yX12_closes, yX12_expression, yX12_readsSock, yX12_line, yX12_fair, yX12_fault, yX12_keeps, yX12_refuses, yX12_undo, yX12_tries, yX12_works, yX12_reckons, yX12_between, yX12_alikeWith, yX12_alikeOf, yX12_may, yX12_likingOf, yX12_binds, yX12_unbinds, yX12_bindsMost, yX12_bindsAll, yX12_wears, yX12_holds, yX12_holdsMany, yX12_boundIn, yX12_holesIn, yX12_maySet, yX12_ratherSet, yX12_mayCouples, yX12_count, yX12_isPerson, yX12_isWhat, yX12_person, yX12_alike, yX12_liking, yX12_hold, yX12_dye, yX12_darn, yX12_unravel, yX12_bind, yX12_isFairs, yX12_then, yX12_when, yX12_worn, yX12_couples, yX12_single, yX12_closest, yX12_lonely, yX12_isTempted, yX12_faithful, yX12_lasts, yX12_darner, yX12_laysAlike, yX12_least, yX12_laysSet, yX12_withWhom, yX12_most, yX12_best, yX12_colour, yX12_wouldLeave, yX12_isAtRest, yX12_takesRest, yX12_nextWith, yX12_goesThrough, yX12_laysRests, yX12_rests, yX12_mates, yX12_costs, yX12_way, yX12_isKnitFor, yX12_knit, yX12_see, yX12_forget, yX12_isSeen, yX12_isGuess, yX12_dyed, yX12_next, yX12_divisor, yX12_likely, yX12_basket, yX12_gains, yX12_game, yX12_ring, yX12_reached, yX12_far, yX12_circles, yX12_draw, yX12_happens, yX12_generations, yX12_image, yX12_restore, yJ6_bitCount_0f7a4, yJ0_charAt_5068e, yJ0_isLatin1_aae02, yJ1_charAt_3b067, yJ0_checkIndex_df160, yJ3_checkIndex_8e157, yJ0_indexOf_0f7a4, yJ0_indexOf_7cf53, yJ0_length_8abf5, yJ0_coder_7d493, yJ1_indexOf_4cfef, yJ1_indexOfChar_4cfef, yJ1_canEncode_9a6ad, yL_fair, yL_count, yL_person, yL_alike, yL_liking, yL_dye, yL_darn, yL_unravel, yL_bind, yL_then, yL_when, yL_worn, yL_couples, yL_single, yL_most, yL_rests, yL_mates, yL_way, yL_knit, yL_see, yL_dyed, yL_next, yL_basket, yL_game, yL_generations, yL_far, yL_lasts, yL_colour, yL_law] : List MethodName)
def mj_my (m : Nat) : MethodName := mj_myl.getD m ⟨"", "", ""⟩
def mj_mbl : List ByteArray := ([cX0_init, cX0_run, cX0_draw, cX0_befall, cX0_holdOne, cX0_fillFree, cX0_boundPeople, cX1_init, cX1_startAnew, cX1_copyFrom, cX1_keepAct, cX1_undoAct, cX1_addSeen, cX1_isAsSeen, cX2_init, cX2_restart, cX2_mateBehind, cX2_singleBehind, cX2_couplesBehind, cX2_rowBehind, cX2_mateAtNextFair, cX2_walk, cX2_bindAt, cX2_wornBehind, cX3_init, cX3_find, cX3_tryColours, cX3_note, cX3_noteRow, cX3_tellingFair, cX3_unlikeBehind, cX4_init, cX4_reach, cX4_figureAgain, cX4_figureCouple, cX4_fillOneColour, cX5_init, cX5_read, cX5_refuse, cX5_step, cX5_stepWord, cX5_stepNumber, cX5_isAnyWord, cX5_stepOver, cX5_readSock, cX5_readNumber, cX5_readCouple, cX5_readUnbound, cX5_readRule, cX5_readLevel, cX5_readNots, cX5_joinHere, cX5_readPart, cX5_readWithin, cX6_init, cX6_clear, cX6_hasAlike, cX6_hasLikes, cX6_endAlike, cX6_endLikes, cX6_alikeLooksAt, cX6_addStep, cX6_figure, cX7_init, cX7_clear, cX7_copyFrom, cX7_writeTo, cX7_readFrom, cX7_allHoles, cX8_init, cX8_know, cX8_whoMay, cX8_ratherThan, cX8_ratherNow, cX8_couplesThatMay, cX8_whoMayNobody, cX8_closestCouple, cX8_faithfulCouples, cX8_isTempted, cX8_leastRing, cX8_ringThrough, cX8_stepsBetween, cX8_parts, cX8_partOf, cX8_allOf, cX9_init, cX9_clear, cX9_likeness, cX9_fondness, cX9_knitFor, cX9_isLikeOneAlone, cX10_init, cX10_fill, cX10_fillFirstRow, cX10_firstMate, cX10_clearRow, cX10_findRests, cX10_settleFrom, cX10_isCalm, cX10_noteRest, cX11_init, cX11_feed, cX11_tapeNumber, cX11_fair, cX11_fault, cX11_count, cX11_person, cX11_alike, cX11_liking, cX11_hold, cX11_dye, cX11_darn, cX11_unravel, cX11_bind, cX11_undo, cX11_then, cX11_when, cX11_worn, cX11_couples, cX11_single, cX11_lasts, cX11_closest, cX11_lonely, cX11_faithful, cX11_most, cX11_best, cX11_rests, cX11_mates, cX11_colour, cX11_way, cX11_leastWay, cX11_knit, cX11_darner, cX11_see, cX11_forget, cX11_dyed, cX11_next, cX11_basket, cX11_basketLuck, cX11_commonDivisor, cX11_game, cX11_isGameAtRest, cX11_gain, cX11_ring, cX11_generations, cX11_far, cX11_circles, cX11_image, cX11_restore, cX11_checkPerson, cX11_checkWhat, cX11_checkForeseen, cX11_freeOnes, cX11_foreseen, cX11_knownTies, cX11_areFreeTwo, cX11_likenessShown, cX11_socksChanged, cX11_bindingsChanged, cX11_bindMostAlike, cX11_partWorn, cX12_init, cX12_thrown, cX12_right, cX12_within, cX12_copies, cX12_bits, cX12_feed, cX12_lays, cX12_byteAt, cX12_isLetter, cX12_isDigit, cX12_goes, cX12_spelled, cX12_letters, cX12_knownWord, cX12_wrong, cX12_isGood, cX12_isSign, cX12_need, cX12_number, cX12_unbound, cX12_puts, cX12_isOpen, cX12_strength, cX12_drops, cX12_waitsFor, cX12_part, cX12_deeper, cX12_operand, cX12_isOpened, cX12_closes, cX12_expression, cX12_readsSock, cX12_line, cX12_fair, cX12_fault, cX12_keeps, cX12_refuses, cX12_undo, cX12_tries, cX12_works, cX12_reckons, cX12_between, cX12_alikeWith, cX12_alikeOf, cX12_may, cX12_likingOf, cX12_binds, cX12_unbinds, cX12_bindsMost, cX12_bindsAll, cX12_wears, cX12_holds, cX12_holdsMany, cX12_boundIn, cX12_holesIn, cX12_maySet, cX12_ratherSet, cX12_mayCouples, cX12_count, cX12_isPerson, cX12_isWhat, cX12_person, cX12_alike, cX12_liking, cX12_hold, cX12_dye, cX12_darn, cX12_unravel, cX12_bind, cX12_isFairs, cX12_then, cX12_when, cX12_worn, cX12_couples, cX12_single, cX12_closest, cX12_lonely, cX12_isTempted, cX12_faithful, cX12_lasts, cX12_darner, cX12_laysAlike, cX12_least, cX12_laysSet, cX12_withWhom, cX12_most, cX12_best, cX12_colour, cX12_wouldLeave, cX12_isAtRest, cX12_takesRest, cX12_nextWith, cX12_goesThrough, cX12_laysRests, cX12_rests, cX12_mates, cX12_costs, cX12_way, cX12_isKnitFor, cX12_knit, cX12_see, cX12_forget, cX12_isSeen, cX12_isGuess, cX12_dyed, cX12_next, cX12_divisor, cX12_likely, cX12_basket, cX12_gains, cX12_game, cX12_ring, cX12_reached, cX12_far, cX12_circles, cX12_draw, cX12_happens, cX12_generations, cX12_image, cX12_restore, cJ6_bitCount_0f7a4, cJ0_charAt_5068e, cJ0_isLatin1_aae02, cJ1_charAt_3b067, cJ0_checkIndex_df160, cJ3_checkIndex_8e157, cJ0_indexOf_0f7a4, cJ0_indexOf_7cf53, cJ0_length_8abf5, cJ0_coder_7d493, cJ1_indexOf_4cfef, cJ1_indexOfChar_4cfef, cJ1_canEncode_9a6ad, cL_fair, cL_count, cL_person, cL_alike, cL_liking, cL_dye, cL_darn, cL_unravel, cL_bind, cL_then, cL_when, cL_worn, cL_couples, cL_single, cL_most, cL_rests, cL_mates, cL_way, cL_knit, cL_see, cL_dyed, cL_next, cL_basket, cL_game, cL_generations, cL_far, cL_lasts, cL_colour, cL_law] : List ByteArray)
def mj_mb (m : Nat) : ByteArray := mj_mbl.getD m ⟨#[]⟩
/-- the rows of a method's exception table -/
def mj_hhl : List (List (Nat × Nat × Nat × Nat)) := ([([] : List (Nat × Nat × Nat × Nat)), ([] : List (Nat × Nat × Nat × Nat)), ([] : List (Nat × Nat × Nat × Nat)), ([] : List (Nat × Nat × Nat × Nat)), ([] : List (Nat × Nat × Nat × Nat)), ([] : List (Nat × Nat × Nat × Nat)), ([] : List (Nat × Nat × Nat × Nat)), ([] : List (Nat × Nat × Nat × Nat)), ([] : List (Nat × Nat × Nat × Nat)), ([] : List (Nat × Nat × Nat × Nat)), ([] : List (Nat × Nat × Nat × Nat)), ([] : List (Nat × Nat × Nat × Nat)), ([] : List (Nat × Nat × Nat × Nat)), ([] : List (Nat × Nat × Nat × Nat)), ([] : List (Nat × Nat × Nat × Nat)), ([] : List (Nat × Nat × Nat × Nat)), ([] : List (Nat × Nat × Nat × Nat)), ([] : List (Nat × Nat × Nat × Nat)), ([] : List (Nat × Nat × Nat × Nat)), ([] : List (Nat × Nat × Nat × Nat)), ([] : List (Nat × Nat × Nat × Nat)), ([] : List (Nat × Nat × Nat × Nat)), ([] : List (Nat × Nat × Nat × Nat)), ([] : List (Nat × Nat × Nat × Nat)), ([] : List (Nat × Nat × Nat × Nat)), ([] : List (Nat × Nat × Nat × Nat)), ([] : List (Nat × Nat × Nat × Nat)), ([] : List (Nat × Nat × Nat × Nat)), ([] : List (Nat × Nat × Nat × Nat)), ([] : List (Nat × Nat × Nat × Nat)), ([] : List (Nat × Nat × Nat × Nat)), ([] : List (Nat × Nat × Nat × Nat)), ([] : List (Nat × Nat × Nat × Nat)), ([] : List (Nat × Nat × Nat × Nat)), ([] : List (Nat × Nat × Nat × Nat)), ([] : List (Nat × Nat × Nat × Nat)), ([] : List (Nat × Nat × Nat × Nat)), ([] : List (Nat × Nat × Nat × Nat)), ([] : List (Nat × Nat × Nat × Nat)), ([] : List (Nat × Nat × Nat × Nat)), ([] : List (Nat × Nat × Nat × Nat)), ([] : List (Nat × Nat × Nat × Nat)), ([] : List (Nat × Nat × Nat × Nat)), ([] : List (Nat × Nat × Nat × Nat)), ([] : List (Nat × Nat × Nat × Nat)), ([] : List (Nat × Nat × Nat × Nat)), ([] : List (Nat × Nat × Nat × Nat)), ([] : List (Nat × Nat × Nat × Nat)), ([] : List (Nat × Nat × Nat × Nat)), ([] : List (Nat × Nat × Nat × Nat)), ([] : List (Nat × Nat × Nat × Nat)), ([] : List (Nat × Nat × Nat × Nat)), ([] : List (Nat × Nat × Nat × Nat)), ([] : List (Nat × Nat × Nat × Nat)), ([] : List (Nat × Nat × Nat × Nat)), ([] : List (Nat × Nat × Nat × Nat)), ([] : List (Nat × Nat × Nat × Nat)), ([] : List (Nat × Nat × Nat × Nat)), ([] : List (Nat × Nat × Nat × Nat)), ([] : List (Nat × Nat × Nat × Nat)), ([] : List (Nat × Nat × Nat × Nat)), ([] : List (Nat × Nat × Nat × Nat)), ([] : List (Nat × Nat × Nat × Nat)), ([] : List (Nat × Nat × Nat × Nat)), ([] : List (Nat × Nat × Nat × Nat)), ([] : List (Nat × Nat × Nat × Nat)), ([] : List (Nat × Nat × Nat × Nat)), ([] : List (Nat × Nat × Nat × Nat)), ([] : List (Nat × Nat × Nat × Nat)), ([] : List (Nat × Nat × Nat × Nat)), ([] : List (Nat × Nat × Nat × Nat)), ([] : List (Nat × Nat × Nat × Nat)), ([] : List (Nat × Nat × Nat × Nat)), ([] : List (Nat × Nat × Nat × Nat)), ([] : List (Nat × Nat × Nat × Nat)), ([] : List (Nat × Nat × Nat × Nat)), ([] : List (Nat × Nat × Nat × Nat)), ([] : List (Nat × Nat × Nat × Nat)), ([] : List (Nat × Nat × Nat × Nat)), ([] : List (Nat × Nat × Nat × Nat)), ([] : List (Nat × Nat × Nat × Nat)), ([] : List (Nat × Nat × Nat × Nat)), ([] : List (Nat × Nat × Nat × Nat)), ([] : List (Nat × Nat × Nat × Nat)), ([] : List (Nat × Nat × Nat × Nat)), ([] : List (Nat × Nat × Nat × Nat)), ([] : List (Nat × Nat × Nat × Nat)), ([] : List (Nat × Nat × Nat × Nat)), ([] : List (Nat × Nat × Nat × Nat)), ([] : List (Nat × Nat × Nat × Nat)), ([] : List (Nat × Nat × Nat × Nat)), ([] : List (Nat × Nat × Nat × Nat)), ([] : List (Nat × Nat × Nat × Nat)), ([] : List (Nat × Nat × Nat × Nat)), ([] : List (Nat × Nat × Nat × Nat)), ([] : List (Nat × Nat × Nat × Nat)), ([] : List (Nat × Nat × Nat × Nat)), ([] : List (Nat × Nat × Nat × Nat)), ([] : List (Nat × Nat × Nat × Nat)), ([] : List (Nat × Nat × Nat × Nat)), ([] : List (Nat × Nat × Nat × Nat)), ([] : List (Nat × Nat × Nat × Nat)), ([] : List (Nat × Nat × Nat × Nat)), ([] : List (Nat × Nat × Nat × Nat)), ([] : List (Nat × Nat × Nat × Nat)), ([] : List (Nat × Nat × Nat × Nat)), ([] : List (Nat × Nat × Nat × Nat)), ([] : List (Nat × Nat × Nat × Nat)), ([] : List (Nat × Nat × Nat × Nat)), ([] : List (Nat × Nat × Nat × Nat)), ([] : List (Nat × Nat × Nat × Nat)), ([] : List (Nat × Nat × Nat × Nat)), ([] : List (Nat × Nat × Nat × Nat)), ([] : List (Nat × Nat × Nat × Nat)), ([] : List (Nat × Nat × Nat × Nat)), ([] : List (Nat × Nat × Nat × Nat)), ([] : List (Nat × Nat × Nat × Nat)), ([] : List (Nat × Nat × Nat × Nat)), ([] : List (Nat × Nat × Nat × Nat)), ([] : List (Nat × Nat × Nat × Nat)), ([] : List (Nat × Nat × Nat × Nat)), ([] : List (Nat × Nat × Nat × Nat)), ([] : List (Nat × Nat × Nat × Nat)), ([] : List (Nat × Nat × Nat × Nat)), ([] : List (Nat × Nat × Nat × Nat)), ([] : List (Nat × Nat × Nat × Nat)), ([] : List (Nat × Nat × Nat × Nat)), ([] : List (Nat × Nat × Nat × Nat)), ([] : List (Nat × Nat × Nat × Nat)), ([] : List (Nat × Nat × Nat × Nat)), ([] : List (Nat × Nat × Nat × Nat)), ([] : List (Nat × Nat × Nat × Nat)), ([] : List (Nat × Nat × Nat × Nat)), ([] : List (Nat × Nat × Nat × Nat)), ([] : List (Nat × Nat × Nat × Nat)), ([] : List (Nat × Nat × Nat × Nat)), ([] : List (Nat × Nat × Nat × Nat)), ([] : List (Nat × Nat × Nat × Nat)), ([] : List (Nat × Nat × Nat × Nat)), ([] : List (Nat × Nat × Nat × Nat)), ([] : List (Nat × Nat × Nat × Nat)), ([] : List (Nat × Nat × Nat × Nat)), ([] : List (Nat × Nat × Nat × Nat)), ([] : List (Nat × Nat × Nat × Nat)), ([] : List (Nat × Nat × Nat × Nat)), ([] : List (Nat × Nat × Nat × Nat)), ([] : List (Nat × Nat × Nat × Nat)), ([] : List (Nat × Nat × Nat × Nat)), ([] : List (Nat × Nat × Nat × Nat)), ([] : List (Nat × Nat × Nat × Nat)), ([] : List (Nat × Nat × Nat × Nat)), ([] : List (Nat × Nat × Nat × Nat)), ([] : List (Nat × Nat × Nat × Nat)), ([] : List (Nat × Nat × Nat × Nat)), ([] : List (Nat × Nat × Nat × Nat)), ([] : List (Nat × Nat × Nat × Nat)), ([] : List (Nat × Nat × Nat × Nat)), ([] : List (Nat × Nat × Nat × Nat)), ([] : List (Nat × Nat × Nat × Nat)), ([] : List (Nat × Nat × Nat × Nat)), ([] : List (Nat × Nat × Nat × Nat)), ([] : List (Nat × Nat × Nat × Nat)), ([] : List (Nat × Nat × Nat × Nat)), ([] : List (Nat × Nat × Nat × Nat)), ([] : List (Nat × Nat × Nat × Nat)), ([] : List (Nat × Nat × Nat × Nat)), ([] : List (Nat × Nat × Nat × Nat)), ([] : List (Nat × Nat × Nat × Nat)), ([] : List (Nat × Nat × Nat × Nat)), ([] : List (Nat × Nat × Nat × Nat)), ([] : List (Nat × Nat × Nat × Nat)), ([] : List (Nat × Nat × Nat × Nat)), ([] : List (Nat × Nat × Nat × Nat)), ([] : List (Nat × Nat × Nat × Nat)), ([] : List (Nat × Nat × Nat × Nat)), ([] : List (Nat × Nat × Nat × Nat)), ([] : List (Nat × Nat × Nat × Nat)), ([] : List (Nat × Nat × Nat × Nat)), ([] : List (Nat × Nat × Nat × Nat)), ([] : List (Nat × Nat × Nat × Nat)), ([] : List (Nat × Nat × Nat × Nat)), ([] : List (Nat × Nat × Nat × Nat)), ([] : List (Nat × Nat × Nat × Nat)), ([] : List (Nat × Nat × Nat × Nat)), ([] : List (Nat × Nat × Nat × Nat)), ([] : List (Nat × Nat × Nat × Nat)), ([] : List (Nat × Nat × Nat × Nat)), ([] : List (Nat × Nat × Nat × Nat)), ([] : List (Nat × Nat × Nat × Nat)), ([] : List (Nat × Nat × Nat × Nat)), ([] : List (Nat × Nat × Nat × Nat)), ([] : List (Nat × Nat × Nat × Nat)), ([] : List (Nat × Nat × Nat × Nat)), ([] : List (Nat × Nat × Nat × Nat)), ([] : List (Nat × Nat × Nat × Nat)), ([] : List (Nat × Nat × Nat × Nat)), ([] : List (Nat × Nat × Nat × Nat)), ([] : List (Nat × Nat × Nat × Nat)), ([] : List (Nat × Nat × Nat × Nat)), ([] : List (Nat × Nat × Nat × Nat)), ([] : List (Nat × Nat × Nat × Nat)), ([] : List (Nat × Nat × Nat × Nat)), ([] : List (Nat × Nat × Nat × Nat)), ([] : List (Nat × Nat × Nat × Nat)), ([] : List (Nat × Nat × Nat × Nat)), ([] : List (Nat × Nat × Nat × Nat)), ([] : List (Nat × Nat × Nat × Nat)), ([] : List (Nat × Nat × Nat × Nat)), ([] : List (Nat × Nat × Nat × Nat)), ([] : List (Nat × Nat × Nat × Nat)), ([] : List (Nat × Nat × Nat × Nat)), ([] : List (Nat × Nat × Nat × Nat)), ([] : List (Nat × Nat × Nat × Nat)), ([] : List (Nat × Nat × Nat × Nat)), ([] : List (Nat × Nat × Nat × Nat)), ([] : List (Nat × Nat × Nat × Nat)), ([] : List (Nat × Nat × Nat × Nat)), ([] : List (Nat × Nat × Nat × Nat)), ([] : List (Nat × Nat × Nat × Nat)), ([] : List (Nat × Nat × Nat × Nat)), ([] : List (Nat × Nat × Nat × Nat)), ([] : List (Nat × Nat × Nat × Nat)), ([] : List (Nat × Nat × Nat × Nat)), ([] : List (Nat × Nat × Nat × Nat)), ([] : List (Nat × Nat × Nat × Nat)), ([] : List (Nat × Nat × Nat × Nat)), ([] : List (Nat × Nat × Nat × Nat)), ([] : List (Nat × Nat × Nat × Nat)), ([] : List (Nat × Nat × Nat × Nat)), ([] : List (Nat × Nat × Nat × Nat)), ([] : List (Nat × Nat × Nat × Nat)), ([] : List (Nat × Nat × Nat × Nat)), ([] : List (Nat × Nat × Nat × Nat)), ([] : List (Nat × Nat × Nat × Nat)), ([] : List (Nat × Nat × Nat × Nat)), ([] : List (Nat × Nat × Nat × Nat)), ([] : List (Nat × Nat × Nat × Nat)), ([] : List (Nat × Nat × Nat × Nat)), ([] : List (Nat × Nat × Nat × Nat)), ([] : List (Nat × Nat × Nat × Nat)), ([] : List (Nat × Nat × Nat × Nat)), ([] : List (Nat × Nat × Nat × Nat)), ([] : List (Nat × Nat × Nat × Nat)), ([] : List (Nat × Nat × Nat × Nat)), ([] : List (Nat × Nat × Nat × Nat)), ([] : List (Nat × Nat × Nat × Nat)), ([] : List (Nat × Nat × Nat × Nat)), ([] : List (Nat × Nat × Nat × Nat)), ([] : List (Nat × Nat × Nat × Nat)), ([] : List (Nat × Nat × Nat × Nat)), ([] : List (Nat × Nat × Nat × Nat)), ([] : List (Nat × Nat × Nat × Nat)), ([] : List (Nat × Nat × Nat × Nat)), ([] : List (Nat × Nat × Nat × Nat)), ([] : List (Nat × Nat × Nat × Nat)), ([] : List (Nat × Nat × Nat × Nat)), ([] : List (Nat × Nat × Nat × Nat)), ([] : List (Nat × Nat × Nat × Nat)), ([] : List (Nat × Nat × Nat × Nat)), ([] : List (Nat × Nat × Nat × Nat)), ([] : List (Nat × Nat × Nat × Nat)), ([] : List (Nat × Nat × Nat × Nat)), ([] : List (Nat × Nat × Nat × Nat)), ([] : List (Nat × Nat × Nat × Nat)), ([] : List (Nat × Nat × Nat × Nat)), ([] : List (Nat × Nat × Nat × Nat)), ([] : List (Nat × Nat × Nat × Nat)), ([] : List (Nat × Nat × Nat × Nat)), ([] : List (Nat × Nat × Nat × Nat)), ([] : List (Nat × Nat × Nat × Nat)), ([] : List (Nat × Nat × Nat × Nat)), ([] : List (Nat × Nat × Nat × Nat)), ([] : List (Nat × Nat × Nat × Nat)), ([] : List (Nat × Nat × Nat × Nat)), ([] : List (Nat × Nat × Nat × Nat)), ([] : List (Nat × Nat × Nat × Nat)), ([] : List (Nat × Nat × Nat × Nat)), ([] : List (Nat × Nat × Nat × Nat)), ([] : List (Nat × Nat × Nat × Nat)), ([] : List (Nat × Nat × Nat × Nat)), ([] : List (Nat × Nat × Nat × Nat)), ([] : List (Nat × Nat × Nat × Nat)), ([] : List (Nat × Nat × Nat × Nat)), ([] : List (Nat × Nat × Nat × Nat)), ([] : List (Nat × Nat × Nat × Nat)), ([] : List (Nat × Nat × Nat × Nat)), ([] : List (Nat × Nat × Nat × Nat)), ([] : List (Nat × Nat × Nat × Nat)), ([] : List (Nat × Nat × Nat × Nat)), ([] : List (Nat × Nat × Nat × Nat)), ([] : List (Nat × Nat × Nat × Nat)), ([] : List (Nat × Nat × Nat × Nat)), ([] : List (Nat × Nat × Nat × Nat)), ([] : List (Nat × Nat × Nat × Nat)), ([] : List (Nat × Nat × Nat × Nat)), ([(0, 9, 12, 13)] : List (Nat × Nat × Nat × Nat)), ([(0, 9, 12, 18)] : List (Nat × Nat × Nat × Nat)), ([(0, 10, 13, 18)] : List (Nat × Nat × Nat × Nat)), ([(0, 10, 13, 18)] : List (Nat × Nat × Nat × Nat)), ([(0, 10, 13, 18)] : List (Nat × Nat × Nat × Nat)), ([(0, 10, 13, 18)] : List (Nat × Nat × Nat × Nat)), ([(0, 10, 13, 18)] : List (Nat × Nat × Nat × Nat)), ([(0, 9, 12, 18)] : List (Nat × Nat × Nat × Nat)), ([(0, 17, 20, 18)] : List (Nat × Nat × Nat × Nat)), ([(0, 10, 13, 18), (0, 10, 17, 13)] : List (Nat × Nat × Nat × Nat)), ([(0, 9, 12, 18)] : List (Nat × Nat × Nat × Nat)), ([(0, 9, 12, 18)] : List (Nat × Nat × Nat × Nat)), ([(0, 9, 12, 13)] : List (Nat × Nat × Nat × Nat)), ([(0, 9, 12, 13)] : List (Nat × Nat × Nat × Nat)), ([(0, 9, 12, 18)] : List (Nat × Nat × Nat × Nat)), ([(0, 9, 12, 18)] : List (Nat × Nat × Nat × Nat)), ([(0, 9, 12, 18)] : List (Nat × Nat × Nat × Nat)), ([(0, 12, 15, 18)] : List (Nat × Nat × Nat × Nat)), ([(0, 9, 12, 18)] : List (Nat × Nat × Nat × Nat)), ([(0, 12, 15, 18)] : List (Nat × Nat × Nat × Nat)), ([(0, 9, 12, 18)] : List (Nat × Nat × Nat × Nat)), ([(0, 9, 12, 18)] : List (Nat × Nat × Nat × Nat)), ([(0, 10, 13, 18), (0, 10, 17, 13)] : List (Nat × Nat × Nat × Nat)), ([(0, 12, 15, 18), (0, 12, 19, 13)] : List (Nat × Nat × Nat × Nat)), ([(0, 12, 15, 18), (0, 12, 19, 13)] : List (Nat × Nat × Nat × Nat)), ([(0, 10, 13, 18)] : List (Nat × Nat × Nat × Nat)), ([(0, 9, 12, 18)] : List (Nat × Nat × Nat × Nat)), ([(0, 9, 12, 18)] : List (Nat × Nat × Nat × Nat)), ([] : List (Nat × Nat × Nat × Nat))] : List (List (Nat × Nat × Nat × Nat)))
def mj_hh (m : Nat) : (List (Nat × Nat × Nat × Nat)) := mj_hhl.getD m []
/-- what is caught at a call: which, where it goes on behind the store, the local of the store -/
def mj_htl : List (List (Nat × Nat × Nat)) := ([([(1, 13, 3)] : List (Nat × Nat × Nat)), ([(0, 13, 3)] : List (Nat × Nat × Nat)), ([(0, 15, 4)] : List (Nat × Nat × Nat)), ([(0, 15, 4)] : List (Nat × Nat × Nat)), ([(0, 15, 4)] : List (Nat × Nat × Nat)), ([(0, 15, 4)] : List (Nat × Nat × Nat)), ([(0, 15, 4)] : List (Nat × Nat × Nat)), ([(0, 13, 3)] : List (Nat × Nat × Nat)), ([(0, 22, 4)] : List (Nat × Nat × Nat)), ([(0, 15, 4), (1, 19, 4)] : List (Nat × Nat × Nat)), ([(0, 13, 3)] : List (Nat × Nat × Nat)), ([(0, 13, 3)] : List (Nat × Nat × Nat)), ([(1, 13, 3)] : List (Nat × Nat × Nat)), ([(1, 13, 3)] : List (Nat × Nat × Nat)), ([(0, 13, 3)] : List (Nat × Nat × Nat)), ([(0, 13, 3)] : List (Nat × Nat × Nat)), ([(0, 13, 3)] : List (Nat × Nat × Nat)), ([(0, 17, 5)] : List (Nat × Nat × Nat)), ([(0, 13, 3)] : List (Nat × Nat × Nat)), ([(0, 17, 5)] : List (Nat × Nat × Nat)), ([(0, 13, 3)] : List (Nat × Nat × Nat)), ([(0, 13, 3)] : List (Nat × Nat × Nat)), ([(0, 15, 4), (1, 19, 4)] : List (Nat × Nat × Nat)), ([(0, 17, 5), (1, 21, 5)] : List (Nat × Nat × Nat)), ([(0, 17, 5), (1, 21, 5)] : List (Nat × Nat × Nat)), ([(0, 15, 4)] : List (Nat × Nat × Nat)), ([(0, 13, 3)] : List (Nat × Nat × Nat)), ([(0, 13, 3)] : List (Nat × Nat × Nat))] : List (List (Nat × Nat × Nat)))
def mj_ht (m : Nat) : (List (Nat × Nat × Nat)) := mj_htl.getD m []
def mj_mrl : List (Option FieldType) := ([none, none, (some .int), none, none, none, (some .int), none, none, none, none, (some .boolean), (some .boolean), (some .boolean), none, none, (some .int), (some .int), (some .int), (some .long), (some .int), none, none, (some .int), none, none, none, none, none, (some .int), (some .int), none, none, none, none, none, none, (some .int), none, none, none, none, (some .boolean), none, none, (some .int), none, (some .int), none, none, (some .int), (some .int), none, none, none, none, (some .boolean), (some .boolean), none, none, (some .boolean), none, (some .int), none, none, none, none, none, (some .int), none, none, (some .int), (some .int), (some .int), (some .int), (some .int), (some .int), (some .int), (some .boolean), (some .int), (some .int), (some .int), (some .int), (some .int), (some .int), none, none, (some .int), (some .int), (some .int), (some .boolean), none, (some .long), none, (some .int), none, none, none, (some .boolean), none, none, (some .int), none, (some .int), (some .int), (some .int), (some .int), (some .int), (some .int), (some .int), (some .int), (some .int), (some .int), (some .boolean), (some .int), (some .int), (some .int), (some .int), (some .int), (some .int), (some .int), (some .int), (some .int), (some .int), (some .int), (some .long), (some .int), (some .int), (some .int), (some .int), (some .int), (some .int), (some .int), (some .int), none, (some .int), (some .int), (some .int), (some .int), (some .int), (some .int), (some .boolean), (some .int), (some .int), (some .int), (some .int), (some .int), none, (some .boolean), none, none, none, (some .int), (some (.object "SockFair$Course")), (some (.object "SockFair$Ties")), (some .boolean), (some .int), none, none, none, (some .int), none, (some .int), (some .boolean), (some .boolean), none, (some .int), (some .int), none, (some .int), (some .boolean), (some .boolean), none, (some .long), (some .long), (some .int), none, (some .boolean), (some .boolean), none, (some .int), (some .int), none, (some .boolean), (some .int), none, none, none, none, none, (some .boolean), none, none, none, none, (some .int), (some .int), none, (some .int), (some .int), none, (some .int), (some .int), (some .int), (some .int), (some .int), (some .boolean), (some .int), none, none, (some .boolean), none, (some .int), (some .int), none, (some .int), (some .int), (some .int), (some .int), (some .int), (some .int), (some .boolean), (some .boolean), (some .int), (some .int), (some .int), (some .int), (some .int), (some .int), (some .int), (some .boolean), (some .boolean), (some .int), (some .int), (some .int), (some .int), (some .int), (some .int), (some .int), (some .boolean), (some .int), (some .int), (some .int), (some .int), (some .int), none, (some .int), (some .int), (some .long), (some .int), (some .boolean), (some .boolean), none, (some .int), none, none, (some .int), (some .int), (some .int), (some .int), (some .boolean), (some .int), (some .int), none, (some .boolean), (some .boolean), (some .int), (some .int), (some .int), (some .int), (some .int), (some .int), (some .int), (some .int), (some .int), (some .int), (some .int), (some .int), none, (some .int), none, (some .boolean), (some .int), (some .char), (some .boolean), (some .char), none, (some .int), (some .int), (some .int), (some .int), (some .byte), (some .int), (some .int), (some .boolean), (some .int), (some .int), (some .int), (some .int), (some .int), (some .int), (some .int), (some .int), (some .int), (some .int), (some .int), (some .int), (some .int), (some .int), (some .int), (some .int), (some .int), (some .int), (some .int), (some .int), (some .int), (some .int), (some .int), (some .int), (some .int), (some .int), (some .int), (some .int), (some .boolean)] : List (Option FieldType))
def mj_mr (m : Nat) : (Option FieldType) := mj_mrl.getD m none
/-- the locals with which a method begins -/
def mj_ar : List Value → List (Option Value)
  | [] => []
  | .long x :: t => some (.long x) :: none :: mj_ar t
  | .double x :: t => some (.double x) :: none :: mj_ar t
  | v :: t => some v :: mj_ar t
def mj_in (n : Nat) (as : List Value) : List (Option Value) := mj_ar as ++ List.replicate (n - (mj_ar as).length) none
end
section
-- 0: SockFair$Ages.<init> (LSockFair$Told;)V
def k0_0 : List mj_O := (0, 5, 0, 0, 0) :: (1, 51, 0, 0, 3) :: (4, 5, 0, 0, 0) :: (5, 5, 1, 0, 0) :: (6, 37, 0, 2, 9) :: (9, 5, 0, 0, 0) :: (10, 52, 7, 0, 15) :: (13, 18, 0, 0, 0) :: (14, 49, 63, 0, 17) :: (17, 37, 0, 0, 18) :: (20, 5, 0, 0, 0) :: (21, 0, 100, 0, 0) :: (23, 53, 1, 0, 0) :: (25, 37, 0, 3, 22) :: (28, 5, 0, 0, 0) :: (29, 0, 0, 0, 0) :: (30, 34, 0, 1, 26) :: (33, 5, 0, 0, 0) :: (34, 0, 0, 0, 0) :: (35, 34, 0, 4, 30) :: (38, 25, 0, 0, 0) :: []
def k0 : Nat → List mj_O := fun t => match t with
  | 0 => k0_0
  | _ => []
-- 1: SockFair$Ages.run (IILSockFair$Socks;)V
def k1_67 : List mj_O := (67, 25, 0, 0, 0) :: []
def k1_21 : List mj_O := (21, 3, 4, 0, 0) :: (23, 3, 2, 0, 0) :: (24, 22, 3, 67, 0) :: (27, 5, 0, 0, 0) :: (28, 33, 0, 2, 9) :: (31, 31, 9, 0, 37) :: (34, 21, 5, 67, 0) :: (37, 5, 0, 0, 0) :: (38, 5, 0, 0, 0) :: (39, 5, 0, 0, 0) :: (40, 33, 0, 2, 9) :: (43, 31, 9, 0, 37) :: (46, 47, 2, 0, 42) :: (49, 5, 0, 0, 0) :: (50, 0, 4, 0, 0) :: (51, 47, 2, 0, 42) :: (54, 47, 3, 0, 46) :: (57, 5, 0, 0, 0) :: (58, 47, 4, 0, 50) :: (61, 9, 4, 1, 0) :: (64, 23, 0, 21, 0) :: k1_67
def k1_0 : List mj_O := (0, 5, 0, 0, 0) :: (1, 3, 1, 0, 0) :: (2, 34, 0, 4, 30) :: (5, 5, 0, 0, 0) :: (6, 0, 0, 0, 0) :: (7, 34, 0, 1, 26) :: (10, 5, 0, 0, 0) :: (11, 33, 0, 0, 18) :: (14, 5, 3, 0, 0) :: (15, 47, 65, 0, 33) :: (18, 0, 0, 0, 0) :: (19, 6, 4, 0, 0) :: k1_21
def k1 : Nat → List mj_O := fun t => match t with
  | 0 => k1_0
  | 21 => k1_21
  | 67 => k1_67
  | _ => []
-- 2: SockFair$Ages.draw (I)I
def k2_36 : List mj_O := (36, 26, 0, 0, 0) :: []
def k2_23 : List mj_O := (23, 5, 0, 0, 0) :: (24, 31, 0, 4, 30) :: (27, 0, 16, 0, 0) :: (29, 11, 7, 0, 0) :: (30, 0, 32767, 0, 0) :: (33, 11, 8, 0, 0) :: (34, 3, 1, 0, 0) :: (35, 11, 4, 0, 0) :: k2_36
def k2_0 : List mj_O := (0, 5, 0, 0, 0) :: (1, 5, 0, 0, 0) :: (2, 31, 0, 4, 30) :: (5, 0, 1103515245, 0, 53) :: (7, 11, 2, 0, 0) :: (8, 0, 12345, 0, 0) :: (11, 11, 0, 0, 0) :: (12, 34, 0, 4, 30) :: (15, 3, 1, 0, 0) :: (16, 21, 4, 23, 0) :: (19, 0, 0, 0, 0) :: (20, 23, 0, 36, 0) :: k2_23
def k2 : Nat → List mj_O := fun t => match t with
  | 0 => k2_0
  | 23 => k2_23
  | 36 => k2_36
  | _ => []
-- 3: SockFair$Ages.befall (II)V
def k3_104 : List mj_O := (104, 25, 0, 0, 0) :: []
def k3_74 : List mj_O := (74, 3, 2, 0, 0) :: (75, 0, 2, 0, 0) :: (76, 22, 1, 104, 0) :: (79, 5, 0, 0, 0) :: (80, 33, 0, 0, 18) :: (83, 33, 7, 1, 66) :: (86, 3, 1, 0, 0) :: (87, 5, 0, 0, 0) :: (88, 0, 10, 0, 0) :: (90, 47, 2, 0, 42) :: (93, 42, 0, 0, 0) :: (94, 5, 0, 0, 0) :: (95, 33, 0, 0, 18) :: (98, 33, 7, 2, 57) :: (101, 3, 1, 0, 0) :: (102, 0, 0, 0, 0) :: (103, 42, 0, 0, 0) :: k3_104
def k3_42 : List mj_O := (42, 3, 2, 0, 0) :: (43, 0, 1, 0, 0) :: (44, 22, 1, 74, 0) :: (47, 3, 3, 0, 0) :: (48, 21, 2, 74, 0) :: (51, 5, 0, 0, 0) :: (52, 33, 0, 0, 18) :: (55, 33, 7, 3, 54) :: (58, 3, 1, 0, 0) :: (59, 1, 1, 0, 0) :: (60, 42, 0, 0, 0) :: (61, 5, 0, 0, 0) :: (62, 33, 0, 0, 18) :: (65, 33, 7, 3, 54) :: (68, 3, 3, 0, 0) :: (69, 1, 1, 0, 0) :: (70, 42, 0, 0, 0) :: (71, 23, 0, 104, 0) :: k3_74
def k3_0 : List mj_O := (0, 5, 0, 0, 0) :: (1, 33, 0, 0, 18) :: (4, 33, 7, 3, 54) :: (7, 3, 1, 0, 0) :: (8, 38, 0, 0, 0) :: (9, 6, 3, 0, 0) :: (10, 3, 2, 0, 0) :: (11, 21, 1, 42, 0) :: (14, 5, 0, 0, 0) :: (15, 33, 0, 0, 18) :: (18, 33, 7, 2, 57) :: (21, 3, 1, 0, 0) :: (22, 0, 9, 0, 0) :: (24, 5, 0, 0, 0) :: (25, 33, 0, 0, 18) :: (28, 33, 7, 2, 57) :: (31, 3, 1, 0, 0) :: (32, 38, 0, 0, 0) :: (33, 0, 3, 0, 0) :: (34, 11, 0, 0, 0) :: (35, 71, 0, 0, 60) :: (38, 42, 0, 0, 0) :: (39, 23, 0, 104, 0) :: k3_42
def k3 : Nat → List mj_O := fun t => match t with
  | 0 => k3_0
  | 42 => k3_42
  | 74 => k3_74
  | 104 => k3_104
  | _ => []
-- 4: SockFair$Ages.holdOne ()V
def k4_97 : List mj_O := (97, 5, 0, 0, 0) :: (98, 18, 0, 0, 0) :: (99, 31, 0, 1, 26) :: (102, 3, 1, 0, 0) :: (103, 5, 0, 0, 0) :: (104, 33, 0, 0, 18) :: (107, 33, 7, 3, 54) :: (110, 0, 0, 0, 0) :: (111, 5, 0, 0, 0) :: (112, 33, 0, 2, 9) :: (115, 31, 9, 0, 37) :: (118, 50, 160, 0, 76) :: (121, 11, 0, 0, 0) :: (122, 34, 0, 1, 26) :: (125, 25, 0, 0, 0) :: []
def k4_89 : List mj_O := (89, 11, 9, 0, 0) :: (90, 6, 1, 0, 0) :: (91, 9, 2, 1, 0) :: (94, 23, 0, 31, 0) :: k4_97
def k4_88 : List mj_O := (88, 0, 0, 0, 0) :: k4_89
def k4_31 : List mj_O := (31, 3, 2, 0, 0) :: (32, 5, 0, 0, 0) :: (33, 33, 0, 2, 9) :: (36, 31, 9, 0, 37) :: (39, 22, 3, 97, 0) :: (42, 5, 0, 0, 0) :: (43, 33, 0, 0, 18) :: (46, 33, 7, 2, 57) :: (49, 3, 2, 0, 0) :: (50, 0, 9, 0, 0) :: (52, 5, 0, 0, 0) :: (53, 33, 0, 0, 18) :: (56, 33, 7, 2, 57) :: (59, 3, 2, 0, 0) :: (60, 38, 0, 0, 0) :: (61, 0, 1, 0, 0) :: (62, 11, 0, 0, 0) :: (63, 71, 0, 0, 60) :: (66, 42, 0, 0, 0) :: (67, 3, 1, 0, 0) :: (68, 5, 0, 0, 0) :: (69, 33, 0, 0, 18) :: (72, 33, 7, 2, 57) :: (75, 3, 2, 0, 0) :: (76, 38, 0, 0, 0) :: (77, 0, 9, 0, 0) :: (79, 22, 1, 88, 0) :: (82, 0, 1, 0, 0) :: (83, 3, 2, 0, 0) :: (84, 11, 5, 0, 0) :: (85, 23, 0, 89, 0) :: k4_88
def k4_0 : List mj_O := (0, 5, 0, 0, 0) :: (1, 47, 5, 0, 69) :: (4, 5, 0, 0, 0) :: (5, 33, 0, 3, 22) :: (8, 0, 0, 0, 0) :: (9, 5, 0, 0, 0) :: (10, 33, 0, 0, 18) :: (13, 33, 7, 3, 54) :: (16, 0, 0, 0, 0) :: (17, 5, 0, 0, 0) :: (18, 33, 0, 2, 9) :: (21, 31, 9, 0, 37) :: (24, 50, 159, 0, 72) :: (27, 0, 0, 0, 0) :: (28, 6, 1, 0, 0) :: (29, 0, 0, 0, 0) :: (30, 6, 2, 0, 0) :: k4_31
def k4 : Nat → List mj_O := fun t => match t with
  | 0 => k4_0
  | 31 => k4_31
  | 88 => k4_88
  | 89 => k4_89
  | 97 => k4_97
  | _ => []
-- 5: SockFair$Ages.fillFree ()V
def k5_118 : List mj_O := (118, 25, 0, 0, 0) :: []
def k5_112 : List mj_O := (112, 9, 2, 1, 0) :: (115, 23, 0, 10, 0) :: k5_118
def k5_106 : List mj_O := (106, 9, 3, 1, 0) :: (109, 23, 0, 25, 0) :: k5_112
def k5_25 : List mj_O := (25, 5, 1, 0, 0) :: (26, 3, 2, 0, 0) :: (27, 38, 0, 0, 0) :: (28, 1, 1, 0, 0) :: (29, 22, 1, 112, 0) :: (32, 3, 3, 0, 0) :: (33, 5, 0, 0, 0) :: (34, 33, 0, 2, 9) :: (37, 31, 9, 0, 37) :: (40, 22, 3, 112, 0) :: (43, 5, 1, 0, 0) :: (44, 3, 3, 0, 0) :: (45, 38, 0, 0, 0) :: (46, 1, 1, 0, 0) :: (47, 22, 1, 106, 0) :: (50, 5, 0, 0, 0) :: (51, 33, 0, 3, 22) :: (54, 3, 2, 0, 0) :: (55, 0, 10, 0, 0) :: (57, 11, 2, 0, 0) :: (58, 3, 3, 0, 0) :: (59, 11, 0, 0, 0) :: (60, 5, 0, 0, 0) :: (61, 33, 0, 2, 9) :: (64, 3, 2, 0, 0) :: (65, 5, 0, 0, 0) :: (66, 33, 0, 0, 18) :: (69, 33, 7, 1, 66) :: (72, 3, 2, 0, 0) :: (73, 38, 0, 0, 0) :: (74, 5, 0, 0, 0) :: (75, 33, 0, 0, 18) :: (78, 33, 7, 2, 57) :: (81, 3, 2, 0, 0) :: (82, 38, 0, 0, 0) :: (83, 3, 3, 0, 0) :: (84, 5, 0, 0, 0) :: (85, 33, 0, 0, 18) :: (88, 33, 7, 1, 66) :: (91, 3, 3, 0, 0) :: (92, 38, 0, 0, 0) :: (93, 5, 0, 0, 0) :: (94, 33, 0, 0, 18) :: (97, 33, 7, 2, 57) :: (100, 3, 3, 0, 0) :: (101, 38, 0, 0, 0) :: (102, 47, 87, 0, 80) :: (105, 42, 0, 0, 0) :: k5_106
def k5_10 : List mj_O := (10, 3, 2, 0, 0) :: (11, 5, 0, 0, 0) :: (12, 33, 0, 2, 9) :: (15, 31, 9, 0, 37) :: (18, 22, 3, 118, 0) :: (21, 3, 2, 0, 0) :: (22, 0, 1, 0, 0) :: (23, 11, 0, 0, 0) :: (24, 6, 3, 0, 0) :: k5_25
def k5_0 : List mj_O := (0, 5, 0, 0, 0) :: (1, 33, 0, 0, 18) :: (4, 33, 7, 3, 54) :: (7, 8, 1, 0, 0) :: (8, 0, 0, 0, 0) :: (9, 6, 2, 0, 0) :: k5_10
def k5 : Nat → List mj_O := fun t => match t with
  | 0 => k5_0
  | 10 => k5_10
  | 25 => k5_25
  | 106 => k5_106
  | 112 => k5_112
  | 118 => k5_118
  | _ => []
-- 6: SockFair$Ages.boundPeople ()I
def k6_37 : List mj_O := (37, 3, 1, 0, 0) :: (38, 26, 0, 0, 0) :: []
def k6_31 : List mj_O := (31, 9, 2, 1, 0) :: (34, 23, 0, 4, 0) :: k6_37
def k6_4 : List mj_O := (4, 3, 2, 0, 0) :: (5, 5, 0, 0, 0) :: (6, 33, 0, 2, 9) :: (9, 31, 9, 0, 37) :: (12, 22, 3, 37, 0) :: (15, 5, 0, 0, 0) :: (16, 33, 0, 0, 18) :: (19, 33, 7, 3, 54) :: (22, 3, 2, 0, 0) :: (23, 38, 0, 0, 0) :: (24, 1, 1, 0, 0) :: (25, 22, 0, 31, 0) :: (28, 9, 1, 1, 0) :: k6_31
def k6_0 : List mj_O := (0, 0, 0, 0, 0) :: (1, 6, 1, 0, 0) :: (2, 0, 0, 0, 0) :: (3, 6, 2, 0, 0) :: k6_4
def k6 : Nat → List mj_O := fun t => match t with
  | 0 => k6_0
  | 4 => k6_4
  | 31 => k6_31
  | 37 => k6_37
  | _ => []
-- 7: SockFair$Book.<init> ()V
def k7_0 : List mj_O := (0, 5, 0, 0, 0) :: (1, 51, 0, 0, 3) :: (4, 5, 0, 0, 0) :: (5, 52, 7, 0, 9) :: (8, 18, 0, 0, 0) :: (9, 49, 63, 0, 11) :: (12, 37, 1, 0, 12) :: (15, 5, 0, 0, 0) :: (16, 0, 0, 0, 0) :: (17, 34, 1, 1, 18) :: (20, 5, 0, 0, 0) :: (21, 0, 0, 0, 0) :: (22, 34, 1, 2, 22) :: (25, 5, 0, 0, 0) :: (26, 0, 0, 0, 0) :: (27, 34, 1, 3, 25) :: (30, 5, 0, 0, 0) :: (31, 0, 440, 0, 0) :: (34, 53, 1, 0, 0) :: (36, 37, 1, 4, 28) :: (39, 5, 0, 0, 0) :: (40, 0, 8, 0, 0) :: (42, 53, 1, 0, 0) :: (44, 37, 1, 5, 32) :: (47, 5, 0, 0, 0) :: (48, 0, 8, 0, 0) :: (50, 53, 1, 0, 0) :: (52, 37, 1, 6, 35) :: (55, 5, 0, 0, 0) :: (56, 0, 8, 0, 0) :: (58, 53, 1, 0, 0) :: (60, 37, 1, 7, 38) :: (63, 25, 0, 0, 0) :: []
def k7 : Nat → List mj_O := fun t => match t with
  | 0 => k7_0
  | _ => []
-- 8: SockFair$Book.startAnew (LSockFair$Told;)V
def k8_0 : List mj_O := (0, 5, 0, 0, 0) :: (1, 33, 1, 0, 12) :: (4, 5, 1, 0, 0) :: (5, 33, 9, 5, 41) :: (8, 47, 65, 0, 46) :: (11, 5, 0, 0, 0) :: (12, 0, 0, 0, 0) :: (13, 34, 1, 1, 18) :: (16, 5, 0, 0, 0) :: (17, 0, 0, 0, 0) :: (18, 34, 1, 2, 22) :: (21, 5, 0, 0, 0) :: (22, 0, 0, 0, 0) :: (23, 34, 1, 3, 25) :: (26, 25, 0, 0, 0) :: []
def k8 : Nat → List mj_O := fun t => match t with
  | 0 => k8_0
  | _ => []
-- 9: SockFair$Book.copyFrom (LSockFair$Book;)V
def k9_0 : List mj_O := (0, 5, 0, 0, 0) :: (1, 33, 1, 0, 12) :: (4, 5, 1, 0, 0) :: (5, 33, 1, 0, 12) :: (8, 47, 65, 0, 46) :: (11, 5, 0, 0, 0) :: (12, 5, 1, 0, 0) :: (13, 31, 1, 1, 18) :: (16, 34, 1, 1, 18) :: (19, 5, 0, 0, 0) :: (20, 5, 1, 0, 0) :: (21, 31, 1, 2, 22) :: (24, 34, 1, 2, 22) :: (27, 5, 0, 0, 0) :: (28, 5, 1, 0, 0) :: (29, 31, 1, 3, 25) :: (32, 34, 1, 3, 25) :: (35, 5, 1, 0, 0) :: (36, 33, 1, 4, 28) :: (39, 0, 0, 0, 0) :: (40, 5, 0, 0, 0) :: (41, 33, 1, 4, 28) :: (44, 0, 0, 0, 0) :: (45, 0, 440, 0, 0) :: (48, 54, 0, 0, 50) :: (51, 5, 1, 0, 0) :: (52, 33, 1, 5, 32) :: (55, 0, 0, 0, 0) :: (56, 5, 0, 0, 0) :: (57, 33, 1, 5, 32) :: (60, 0, 0, 0, 0) :: (61, 0, 8, 0, 0) :: (63, 54, 0, 0, 50) :: (66, 5, 1, 0, 0) :: (67, 33, 1, 6, 35) :: (70, 0, 0, 0, 0) :: (71, 5, 0, 0, 0) :: (72, 33, 1, 6, 35) :: (75, 0, 0, 0, 0) :: (76, 0, 8, 0, 0) :: (78, 54, 0, 0, 50) :: (81, 5, 1, 0, 0) :: (82, 33, 1, 7, 38) :: (85, 0, 0, 0, 0) :: (86, 5, 0, 0, 0) :: (87, 33, 1, 7, 38) :: (90, 0, 0, 0, 0) :: (91, 0, 8, 0, 0) :: (93, 54, 0, 0, 50) :: (96, 25, 0, 0, 0) :: []
def k9 : Nat → List mj_O := fun t => match t with
  | 0 => k9_0
  | _ => []
-- 10: SockFair$Book.keepAct ()V
def k10_32 : List mj_O := (32, 5, 0, 0, 0) :: (33, 33, 1, 0, 12) :: (36, 5, 0, 0, 0) :: (37, 33, 1, 4, 28) :: (40, 5, 0, 0, 0) :: (41, 31, 1, 3, 25) :: (44, 5, 0, 0, 0) :: (45, 31, 1, 1, 18) :: (48, 11, 0, 0, 0) :: (49, 0, 40, 0, 0) :: (51, 11, 4, 0, 0) :: (52, 0, 11, 0, 0) :: (54, 11, 2, 0, 0) :: (55, 47, 66, 0, 56) :: (58, 5, 0, 0, 0) :: (59, 18, 0, 0, 0) :: (60, 31, 1, 1, 18) :: (63, 0, 1, 0, 0) :: (64, 11, 0, 0, 0) :: (65, 34, 1, 1, 18) :: (68, 25, 0, 0, 0) :: []
def k10_0 : List mj_O := (0, 5, 0, 0, 0) :: (1, 31, 1, 1, 18) :: (4, 0, 40, 0, 0) :: (6, 22, 1, 32, 0) :: (9, 5, 0, 0, 0) :: (10, 5, 0, 0, 0) :: (11, 31, 1, 3, 25) :: (14, 0, 1, 0, 0) :: (15, 11, 0, 0, 0) :: (16, 0, 40, 0, 0) :: (18, 11, 4, 0, 0) :: (19, 34, 1, 3, 25) :: (22, 5, 0, 0, 0) :: (23, 18, 0, 0, 0) :: (24, 31, 1, 1, 18) :: (27, 0, 1, 0, 0) :: (28, 11, 1, 0, 0) :: (29, 34, 1, 1, 18) :: k10_32
def k10 : Nat → List mj_O := fun t => match t with
  | 0 => k10_0
  | 32 => k10_32
  | _ => []
-- 11: SockFair$Book.undoAct ()Z
def k11_9 : List mj_O := (9, 5, 0, 0, 0) :: (10, 18, 0, 0, 0) :: (11, 31, 1, 1, 18) :: (14, 0, 1, 0, 0) :: (15, 11, 1, 0, 0) :: (16, 34, 1, 1, 18) :: (19, 5, 0, 0, 0) :: (20, 33, 1, 0, 12) :: (23, 5, 0, 0, 0) :: (24, 33, 1, 4, 28) :: (27, 5, 0, 0, 0) :: (28, 31, 1, 3, 25) :: (31, 5, 0, 0, 0) :: (32, 31, 1, 1, 18) :: (35, 11, 0, 0, 0) :: (36, 0, 40, 0, 0) :: (38, 11, 4, 0, 0) :: (39, 0, 11, 0, 0) :: (41, 11, 2, 0, 0) :: (42, 47, 67, 0, 60) :: (45, 0, 1, 0, 0) :: (46, 27, 0, 0, 0) :: []
def k11_0 : List mj_O := (0, 5, 0, 0, 0) :: (1, 31, 1, 1, 18) :: (4, 21, 1, 9, 0) :: (7, 0, 0, 0, 0) :: (8, 27, 0, 0, 0) :: k11_9
def k11 : Nat → List mj_O := fun t => match t with
  | 0 => k11_0
  | 9 => k11_9
  | _ => []
-- 12: SockFair$Book.addSeen (III)Z
def k12_11 : List mj_O := (11, 5, 0, 0, 0) :: (12, 33, 1, 5, 32) :: (15, 5, 0, 0, 0) :: (16, 31, 1, 2, 22) :: (19, 3, 1, 0, 0) :: (20, 42, 0, 0, 0) :: (21, 5, 0, 0, 0) :: (22, 33, 1, 6, 35) :: (25, 5, 0, 0, 0) :: (26, 31, 1, 2, 22) :: (29, 3, 2, 0, 0) :: (30, 42, 0, 0, 0) :: (31, 5, 0, 0, 0) :: (32, 33, 1, 7, 38) :: (35, 5, 0, 0, 0) :: (36, 31, 1, 2, 22) :: (39, 3, 3, 0, 0) :: (40, 42, 0, 0, 0) :: (41, 5, 0, 0, 0) :: (42, 18, 0, 0, 0) :: (43, 31, 1, 2, 22) :: (46, 0, 1, 0, 0) :: (47, 11, 0, 0, 0) :: (48, 34, 1, 2, 22) :: (51, 0, 1, 0, 0) :: (52, 27, 0, 0, 0) :: []
def k12_0 : List mj_O := (0, 5, 0, 0, 0) :: (1, 31, 1, 2, 22) :: (4, 0, 8, 0, 0) :: (6, 22, 2, 11, 0) :: (9, 0, 0, 0, 0) :: (10, 27, 0, 0, 0) :: k12_11
def k12 : Nat → List mj_O := fun t => match t with
  | 0 => k12_0
  | 11 => k12_11
  | _ => []
-- 13: SockFair$Book.isAsSeen (LSockFair$Course;)Z
def k13_49 : List mj_O := (49, 0, 1, 0, 0) :: (50, 27, 0, 0, 0) :: []
def k13_43 : List mj_O := (43, 9, 2, 1, 0) :: (46, 23, 0, 2, 0) :: k13_49
def k13_2 : List mj_O := (2, 3, 2, 0, 0) :: (3, 5, 0, 0, 0) :: (4, 31, 1, 2, 22) :: (7, 22, 3, 49, 0) :: (10, 3, 2, 0, 0) :: (11, 0, 8, 0, 0) :: (13, 22, 3, 49, 0) :: (16, 5, 1, 0, 0) :: (17, 5, 0, 0, 0) :: (18, 33, 1, 5, 32) :: (21, 3, 2, 0, 0) :: (22, 38, 0, 0, 0) :: (23, 5, 0, 0, 0) :: (24, 33, 1, 6, 35) :: (27, 3, 2, 0, 0) :: (28, 38, 0, 0, 0) :: (29, 47, 16, 0, 63) :: (32, 5, 0, 0, 0) :: (33, 33, 1, 7, 38) :: (36, 3, 2, 0, 0) :: (37, 38, 0, 0, 0) :: (38, 22, 0, 43, 0) :: (41, 0, 0, 0, 0) :: (42, 27, 0, 0, 0) :: k13_43
def k13_0 : List mj_O := (0, 0, 0, 0, 0) :: (1, 6, 2, 0, 0) :: k13_2
def k13 : Nat → List mj_O := fun t => match t with
  | 0 => k13_0
  | 2 => k13_2
  | 43 => k13_43
  | 49 => k13_49
  | _ => []
-- 14: SockFair$Course.<init> (LSockFair$Outlook;)V
def k14_0 : List mj_O := (0, 5, 0, 0, 0) :: (1, 51, 0, 0, 3) :: (4, 5, 0, 0, 0) :: (5, 5, 1, 0, 0) :: (6, 37, 2, 0, 9) :: (9, 5, 0, 0, 0) :: (10, 5, 1, 0, 0) :: (11, 33, 4, 0, 15) :: (14, 37, 2, 1, 21) :: (17, 5, 0, 0, 0) :: (18, 5, 1, 0, 0) :: (19, 33, 4, 1, 22) :: (22, 37, 2, 2, 26) :: (25, 5, 0, 0, 0) :: (26, 0, 90, 0, 0) :: (28, 53, 1, 0, 0) :: (30, 37, 2, 3, 27) :: (33, 5, 0, 0, 0) :: (34, 1, 1, 0, 0) :: (35, 34, 2, 4, 31) :: (38, 25, 0, 0, 0) :: []
def k14 : Nat → List mj_O := fun t => match t with
  | 0 => k14_0
  | _ => []
-- 15: SockFair$Course.restart ()V
def k15_0 : List mj_O := (0, 5, 0, 0, 0) :: (1, 1, 1, 0, 0) :: (2, 34, 2, 4, 31) :: (5, 25, 0, 0, 0) :: []
def k15 : Nat → List mj_O := fun t => match t with
  | 0 => k15_0
  | _ => []
-- 16: SockFair$Course.mateBehind (II)I
def k16_25 : List mj_O := (25, 26, 0, 0, 0) :: []
def k16_14 : List mj_O := (14, 5, 0, 0, 0) :: (15, 33, 2, 3, 27) :: (18, 3, 2, 0, 0) :: (19, 0, 10, 0, 0) :: (21, 11, 2, 0, 0) :: (22, 3, 1, 0, 0) :: (23, 11, 0, 0, 0) :: (24, 38, 0, 0, 0) :: k16_25
def k16_10 : List mj_O := (10, 1, 1, 0, 0) :: (11, 23, 0, 25, 0) :: k16_14
def k16_0 : List mj_O := (0, 3, 2, 0, 0) :: (1, 21, 2, 10, 0) :: (4, 3, 2, 0, 0) :: (5, 0, 8, 0, 0) :: (7, 22, 5, 14, 0) :: k16_10
def k16 : Nat → List mj_O := fun t => match t with
  | 0 => k16_0
  | 10 => k16_10
  | 14 => k16_14
  | 25 => k16_25
  | _ => []
-- 17: SockFair$Course.singleBehind (I)I
def k17_37 : List mj_O := (37, 3, 2, 0, 0) :: (38, 26, 0, 0, 0) :: []
def k17_31 : List mj_O := (31, 9, 3, 1, 0) :: (34, 23, 0, 4, 0) :: k17_37
def k17_4 : List mj_O := (4, 3, 3, 0, 0) :: (5, 5, 0, 0, 0) :: (6, 33, 2, 1, 21) :: (9, 31, 9, 0, 35) :: (12, 22, 3, 37, 0) :: (15, 5, 0, 0, 0) :: (16, 3, 3, 0, 0) :: (17, 3, 1, 0, 0) :: (18, 47, 16, 0, 40) :: (21, 1, 1, 0, 0) :: (22, 22, 1, 31, 0) :: (25, 3, 2, 0, 0) :: (26, 0, 1, 0, 0) :: (27, 3, 3, 0, 0) :: (28, 11, 5, 0, 0) :: (29, 11, 9, 0, 0) :: (30, 6, 2, 0, 0) :: k17_31
def k17_0 : List mj_O := (0, 0, 0, 0, 0) :: (1, 6, 2, 0, 0) :: (2, 0, 0, 0, 0) :: (3, 6, 3, 0, 0) :: k17_4
def k17 : Nat → List mj_O := fun t => match t with
  | 0 => k17_0
  | 4 => k17_4
  | 31 => k17_31
  | 37 => k17_37
  | _ => []
-- 18: SockFair$Course.couplesBehind (I)I
def k18_0 : List mj_O := (0, 5, 0, 0, 0) :: (1, 33, 2, 1, 21) :: (4, 31, 9, 0, 35) :: (7, 5, 0, 0, 0) :: (8, 3, 1, 0, 0) :: (9, 47, 17, 0, 44) :: (12, 48, 282, 0, 48) :: (15, 11, 1, 0, 0) :: (16, 0, 2, 0, 0) :: (17, 11, 3, 0, 0) :: (18, 26, 0, 0, 0) :: []
def k18 : Nat → List mj_O := fun t => match t with
  | 0 => k18_0
  | _ => []
-- 19: SockFair$Course.rowBehind (I)J
def k19_38 : List mj_O := (38, 4, 2, 0, 0) :: (39, 28, 0, 0, 0) :: []
def k19_5 : List mj_O := (5, 3, 4, 0, 0) :: (7, 5, 0, 0, 0) :: (8, 33, 2, 1, 21) :: (11, 31, 9, 0, 35) :: (14, 22, 3, 38, 0) :: (17, 4, 2, 0, 0) :: (18, 0, 4, 0, 0) :: (19, 14, 0, 0, 0) :: (20, 5, 0, 0, 0) :: (21, 3, 4, 0, 0) :: (23, 3, 1, 0, 0) :: (24, 47, 16, 0, 40) :: (27, 0, 1, 0, 0) :: (28, 11, 0, 0, 0) :: (29, 15, 0, 0, 0) :: (30, 13, 3, 0, 0) :: (31, 7, 2, 0, 0) :: (32, 9, 4, 1, 0) :: (35, 23, 0, 5, 0) :: k19_38
def k19_0 : List mj_O := (0, 2, 0, 0, 0) :: (1, 7, 2, 0, 0) :: (2, 0, 0, 0, 0) :: (3, 6, 4, 0, 0) :: k19_5
def k19 : Nat → List mj_O := fun t => match t with
  | 0 => k19_0
  | 5 => k19_5
  | 38 => k19_38
  | _ => []
-- 20: SockFair$Course.mateAtNextFair (I)I
def k20_0 : List mj_O := (0, 5, 0, 0, 0) :: (1, 47, 15, 0, 53) :: (4, 5, 0, 0, 0) :: (5, 0, 0, 0, 0) :: (6, 47, 21, 0, 56) :: (9, 5, 0, 0, 0) :: (10, 0, 1, 0, 0) :: (11, 47, 22, 0, 60) :: (14, 5, 0, 0, 0) :: (15, 33, 2, 3, 27) :: (18, 0, 10, 0, 0) :: (20, 3, 1, 0, 0) :: (21, 11, 0, 0, 0) :: (22, 38, 0, 0, 0) :: (23, 26, 0, 0, 0) :: []
def k20 : Nat → List mj_O := fun t => match t with
  | 0 => k20_0
  | _ => []
-- 21: SockFair$Course.walk (I)V
def k21_89 : List mj_O := (89, 25, 0, 0, 0) :: []
def k21_38 : List mj_O := (38, 3, 2, 0, 0) :: (39, 3, 1, 0, 0) :: (40, 22, 4, 89, 0) :: (43, 3, 2, 0, 0) :: (44, 0, 8, 0, 0) :: (46, 22, 4, 89, 0) :: (49, 5, 0, 0, 0) :: (50, 3, 2, 0, 0) :: (51, 47, 22, 0, 60) :: (54, 5, 0, 0, 0) :: (55, 3, 2, 0, 0) :: (56, 47, 23, 0, 72) :: (59, 5, 0, 0, 0) :: (60, 33, 2, 3, 27) :: (63, 3, 2, 0, 0) :: (64, 0, 10, 0, 0) :: (66, 11, 2, 0, 0) :: (67, 5, 0, 0, 0) :: (68, 33, 2, 1, 21) :: (71, 31, 9, 0, 35) :: (74, 50, 160, 0, 75) :: (77, 19, 0, 0, 0) :: (78, 5, 0, 0, 0) :: (79, 3, 2, 0, 0) :: (80, 34, 2, 4, 31) :: (83, 9, 2, 1, 0) :: (86, 23, 0, 38, 0) :: k21_89
def k21_31 : List mj_O := (31, 5, 0, 0, 0) :: (32, 31, 2, 4, 31) :: (35, 0, 1, 0, 0) :: (36, 11, 0, 0, 0) :: (37, 6, 2, 0, 0) :: k21_38
def k21_0 : List mj_O := (0, 5, 0, 0, 0) :: (1, 31, 2, 4, 31) :: (4, 1, 1, 0, 0) :: (5, 22, 1, 31, 0) :: (8, 5, 0, 0, 0) :: (9, 33, 2, 2, 26) :: (12, 33, 7, 3, 63) :: (15, 0, 0, 0, 0) :: (16, 5, 0, 0, 0) :: (17, 33, 2, 3, 27) :: (20, 0, 0, 0, 0) :: (21, 0, 10, 0, 0) :: (23, 54, 0, 0, 66) :: (26, 5, 0, 0, 0) :: (27, 0, 0, 0, 0) :: (28, 34, 2, 4, 31) :: k21_31
def k21 : Nat → List mj_O := fun t => match t with
  | 0 => k21_0
  | 31 => k21_31
  | 38 => k21_38
  | 89 => k21_89
  | _ => []
-- 22: SockFair$Course.bindAt (I)V
def k22_0 : List mj_O := (0, 5, 0, 0, 0) :: (1, 33, 2, 3, 27) :: (4, 3, 1, 0, 0) :: (5, 0, 1, 0, 0) :: (6, 11, 1, 0, 0) :: (7, 0, 10, 0, 0) :: (9, 11, 2, 0, 0) :: (10, 5, 0, 0, 0) :: (11, 33, 2, 3, 27) :: (14, 3, 1, 0, 0) :: (15, 0, 10, 0, 0) :: (17, 11, 2, 0, 0) :: (18, 0, 10, 0, 0) :: (20, 54, 0, 0, 66) :: (23, 5, 0, 0, 0) :: (24, 33, 2, 0, 9) :: (27, 33, 4, 2, 79) :: (30, 3, 1, 0, 0) :: (31, 0, 1, 0, 0) :: (32, 11, 1, 0, 0) :: (33, 0, 100, 0, 0) :: (35, 11, 2, 0, 0) :: (36, 5, 0, 0, 0) :: (37, 33, 2, 3, 27) :: (40, 3, 1, 0, 0) :: (41, 0, 10, 0, 0) :: (43, 11, 2, 0, 0) :: (44, 5, 0, 0, 0) :: (45, 33, 2, 1, 21) :: (48, 31, 9, 0, 35) :: (51, 50, 159, 0, 82) :: (54, 25, 0, 0, 0) :: []
def k22 : Nat → List mj_O := fun t => match t with
  | 0 => k22_0
  | _ => []
-- 23: SockFair$Course.wornBehind (I)I
def k23_43 : List mj_O := (43, 3, 2, 0, 0) :: (44, 26, 0, 0, 0) :: []
def k23_37 : List mj_O := (37, 9, 3, 1, 0) :: (40, 23, 0, 4, 0) :: k23_43
def k23_4 : List mj_O := (4, 3, 3, 0, 0) :: (5, 5, 0, 0, 0) :: (6, 33, 2, 1, 21) :: (9, 31, 9, 0, 35) :: (12, 22, 3, 43, 0) :: (15, 5, 0, 0, 0) :: (16, 33, 2, 2, 26) :: (19, 33, 7, 2, 86) :: (22, 3, 3, 0, 0) :: (23, 38, 0, 0, 0) :: (24, 3, 1, 0, 0) :: (25, 11, 0, 0, 0) :: (26, 0, 9, 0, 0) :: (28, 22, 2, 37, 0) :: (31, 3, 2, 0, 0) :: (32, 0, 1, 0, 0) :: (33, 3, 3, 0, 0) :: (34, 11, 5, 0, 0) :: (35, 11, 9, 0, 0) :: (36, 6, 2, 0, 0) :: k23_37
def k23_0 : List mj_O := (0, 0, 0, 0, 0) :: (1, 6, 2, 0, 0) :: (2, 0, 0, 0, 0) :: (3, 6, 3, 0, 0) :: k23_4
def k23 : Nat → List mj_O := fun t => match t with
  | 0 => k23_0
  | 4 => k23_4
  | 37 => k23_37
  | 43 => k23_43
  | _ => []
-- 24: SockFair$Dyes.<init> (LSockFair$Course;LSockFair$Book;[J)V
def k24_0 : List mj_O := (0, 5, 0, 0, 0) :: (1, 51, 0, 0, 3) :: (4, 5, 0, 0, 0) :: (5, 5, 1, 0, 0) :: (6, 37, 3, 3, 9) :: (9, 5, 0, 0, 0) :: (10, 5, 2, 0, 0) :: (11, 37, 3, 5, 15) :: (14, 5, 0, 0, 0) :: (15, 5, 3, 0, 0) :: (16, 37, 3, 7, 19) :: (19, 5, 0, 0, 0) :: (20, 5, 1, 0, 0) :: (21, 33, 2, 0, 23) :: (24, 37, 3, 4, 29) :: (27, 5, 0, 0, 0) :: (28, 0, 0, 0, 0) :: (29, 35, 3, 0, 30) :: (32, 5, 0, 0, 0) :: (33, 0, 0, 0, 0) :: (34, 34, 3, 1, 34) :: (37, 5, 0, 0, 0) :: (38, 1, 1, 0, 0) :: (39, 34, 3, 2, 38) :: (42, 5, 0, 0, 0) :: (43, 0, 9, 0, 0) :: (45, 53, 1, 0, 0) :: (47, 37, 3, 6, 41) :: (50, 25, 0, 0, 0) :: []
def k24 : Nat → List mj_O := fun t => match t with
  | 0 => k24_0
  | _ => []
-- 25: SockFair$Dyes.find ()V
def k25_80 : List mj_O := (80, 25, 0, 0, 0) :: []
def k25_55 : List mj_O := (55, 3, 1, 0, 0) :: (56, 5, 0, 0, 0) :: (57, 33, 3, 4, 29) :: (60, 33, 4, 0, 51) :: (63, 31, 9, 0, 55) :: (66, 22, 3, 80, 0) :: (69, 5, 0, 0, 0) :: (70, 3, 1, 0, 0) :: (71, 47, 26, 0, 60) :: (74, 9, 1, 1, 0) :: (77, 23, 0, 55, 0) :: k25_80
def k25_44 : List mj_O := (44, 5, 0, 0, 0) :: (45, 33, 3, 4, 29) :: (48, 0, 8, 0, 0) :: (50, 47, 32, 0, 45) :: (53, 0, 0, 0, 0) :: (54, 6, 1, 0, 0) :: k25_55
def k25_25 : List mj_O := (25, 3, 1, 0, 0) :: (26, 0, 8, 0, 0) :: (28, 22, 4, 44, 0) :: (31, 5, 0, 0, 0) :: (32, 33, 3, 6, 41) :: (35, 3, 1, 0, 0) :: (36, 0, 0, 0, 0) :: (37, 42, 0, 0, 0) :: (38, 9, 1, 1, 0) :: (41, 23, 0, 25, 0) :: k25_44
def k25_8 : List mj_O := (8, 5, 0, 0, 0) :: (9, 0, 1, 0, 0) :: (10, 35, 3, 0, 30) :: (13, 5, 0, 0, 0) :: (14, 0, 0, 0, 0) :: (15, 34, 3, 1, 34) :: (18, 5, 0, 0, 0) :: (19, 1, 1, 0, 0) :: (20, 34, 3, 2, 38) :: (23, 0, 0, 0, 0) :: (24, 6, 1, 0, 0) :: k25_25
def k25_0 : List mj_O := (0, 5, 0, 0, 0) :: (1, 31, 3, 0, 30) :: (4, 21, 0, 8, 0) :: (7, 25, 0, 0, 0) :: k25_8
def k25 : Nat → List mj_O := fun t => match t with
  | 0 => k25_0
  | 8 => k25_8
  | 25 => k25_25
  | 44 => k25_44
  | 55 => k25_55
  | 80 => k25_80
  | _ => []
-- 26: SockFair$Dyes.tryColours (I)V
def k26_93 : List mj_O := (93, 5, 2, 0, 0) :: (94, 3, 1, 0, 0) :: (95, 3, 3, 0, 0) :: (96, 42, 0, 0, 0) :: (97, 5, 0, 0, 0) :: (98, 33, 3, 4, 29) :: (101, 3, 1, 0, 0) :: (102, 0, 8, 0, 0) :: (104, 47, 33, 0, 72) :: (107, 25, 0, 0, 0) :: []
def k26_87 : List mj_O := (87, 9, 4, 1, 0) :: (90, 23, 0, 18, 0) :: k26_93
def k26_18 : List mj_O := (18, 3, 4, 0, 0) :: (20, 0, 10, 0, 0) :: (22, 22, 3, 93, 0) :: (25, 3, 4, 0, 0) :: (27, 3, 3, 0, 0) :: (28, 22, 0, 87, 0) :: (31, 5, 2, 0, 0) :: (32, 3, 1, 0, 0) :: (33, 3, 4, 0, 0) :: (35, 42, 0, 0, 0) :: (36, 5, 0, 0, 0) :: (37, 33, 3, 4, 29) :: (40, 3, 1, 0, 0) :: (41, 0, 8, 0, 0) :: (43, 47, 33, 0, 72) :: (46, 5, 0, 0, 0) :: (47, 33, 3, 3, 9) :: (50, 47, 15, 0, 76) :: (53, 5, 0, 0, 0) :: (54, 33, 3, 3, 9) :: (57, 0, 8, 0, 0) :: (59, 47, 21, 0, 79) :: (62, 5, 0, 0, 0) :: (63, 33, 3, 5, 15) :: (66, 5, 0, 0, 0) :: (67, 33, 3, 3, 9) :: (70, 47, 13, 0, 82) :: (73, 21, 0, 87, 0) :: (76, 5, 0, 0, 0) :: (77, 0, 10, 0, 0) :: (79, 3, 1, 0, 0) :: (80, 11, 2, 0, 0) :: (81, 3, 4, 0, 0) :: (83, 11, 0, 0, 0) :: (84, 47, 27, 0, 88) :: k26_87
def k26_0 : List mj_O := (0, 5, 0, 0, 0) :: (1, 33, 3, 4, 29) :: (4, 33, 4, 1, 63) :: (7, 33, 7, 1, 67) :: (10, 8, 2, 0, 0) :: (11, 5, 2, 0, 0) :: (12, 3, 1, 0, 0) :: (13, 38, 0, 0, 0) :: (14, 6, 3, 0, 0) :: (15, 0, 0, 0, 0) :: (16, 6, 4, 0, 0) :: k26_18
def k26 : Nat → List mj_O := fun t => match t with
  | 0 => k26_0
  | 18 => k26_18
  | 87 => k26_87
  | 93 => k26_93
  | _ => []
-- 27: SockFair$Dyes.note (I)V
def k27_49 : List mj_O := (49, 25, 0, 0, 0) :: []
def k27_24 : List mj_O := (24, 3, 2, 0, 0) :: (25, 0, 8, 0, 0) :: (27, 22, 4, 49, 0) :: (30, 5, 0, 0, 0) :: (31, 3, 2, 0, 0) :: (32, 5, 0, 0, 0) :: (33, 33, 3, 3, 9) :: (36, 3, 2, 0, 0) :: (37, 47, 19, 0, 91) :: (40, 47, 28, 0, 95) :: (43, 9, 2, 1, 0) :: (46, 23, 0, 24, 0) :: k27_49
def k27_12 : List mj_O := (12, 5, 0, 0, 0) :: (13, 18, 0, 0, 0) :: (14, 31, 3, 1, 34) :: (17, 0, 1, 0, 0) :: (18, 11, 0, 0, 0) :: (19, 34, 3, 1, 34) :: (22, 0, 1, 0, 0) :: (23, 6, 2, 0, 0) :: k27_24
def k27_0 : List mj_O := (0, 5, 0, 0, 0) :: (1, 31, 3, 1, 34) :: (4, 21, 1, 12, 0) :: (7, 5, 0, 0, 0) :: (8, 3, 1, 0, 0) :: (9, 34, 3, 2, 38) :: k27_12
def k27 : Nat → List mj_O := fun t => match t with
  | 0 => k27_0
  | 12 => k27_12
  | 24 => k27_24
  | 49 => k27_49
  | _ => []
-- 28: SockFair$Dyes.noteRow (IJ)V
def k28_77 : List mj_O := (77, 25, 0, 0, 0) :: []
def k28_49 : List mj_O := (49, 3, 5, 0, 0) :: (51, 5, 0, 0, 0) :: (52, 33, 3, 7, 19) :: (55, 46, 0, 0, 0) :: (56, 22, 3, 77, 0) :: (59, 5, 0, 0, 0) :: (60, 33, 3, 7, 19) :: (63, 3, 5, 0, 0) :: (65, 4, 2, 0, 0) :: (66, 43, 0, 0, 0) :: (67, 5, 0, 0, 0) :: (68, 33, 3, 6, 41) :: (71, 3, 1, 0, 0) :: (72, 20, 0, 0, 0) :: (73, 38, 0, 0, 0) :: (74, 0, 1, 0, 0) :: (75, 11, 0, 0, 0) :: (76, 42, 0, 0, 0) :: k28_77
def k28_43 : List mj_O := (43, 9, 6, 1, 0) :: (46, 23, 0, 23, 0) :: k28_49
def k28_23 : List mj_O := (23, 3, 6, 0, 0) :: (25, 3, 5, 0, 0) :: (27, 22, 3, 49, 0) :: (30, 5, 0, 0, 0) :: (31, 33, 3, 7, 19) :: (34, 3, 6, 0, 0) :: (36, 39, 0, 0, 0) :: (37, 4, 2, 0, 0) :: (38, 17, 0, 0, 0) :: (39, 21, 1, 43, 0) :: (42, 25, 0, 0, 0) :: k28_43
def k28_0 : List mj_O := (0, 3, 1, 0, 0) :: (1, 0, 1, 0, 0) :: (2, 11, 1, 0, 0) :: (3, 0, 90, 0, 0) :: (5, 11, 2, 0, 0) :: (6, 6, 4, 0, 0) :: (8, 3, 4, 0, 0) :: (10, 5, 0, 0, 0) :: (11, 33, 3, 6, 41) :: (14, 3, 1, 0, 0) :: (15, 38, 0, 0, 0) :: (16, 11, 0, 0, 0) :: (17, 6, 5, 0, 0) :: (19, 3, 4, 0, 0) :: (21, 6, 6, 0, 0) :: k28_23
def k28 : Nat → List mj_O := fun t => match t with
  | 0 => k28_0
  | 23 => k28_23
  | 43 => k28_43
  | 49 => k28_49
  | 77 => k28_77
  | _ => []
-- 29: SockFair$Dyes.tellingFair ()I
def k29_42 : List mj_O := (42, 3, 1, 0, 0) :: (43, 26, 0, 0, 0) :: []
def k29_36 : List mj_O := (36, 9, 2, 1, 0) :: (39, 23, 0, 13, 0) :: k29_42
def k29_13 : List mj_O := (13, 3, 2, 0, 0) :: (14, 0, 8, 0, 0) :: (16, 22, 4, 42, 0) :: (19, 5, 0, 0, 0) :: (20, 33, 3, 6, 41) :: (23, 3, 2, 0, 0) :: (24, 38, 0, 0, 0) :: (25, 5, 0, 0, 0) :: (26, 33, 3, 6, 41) :: (29, 3, 1, 0, 0) :: (30, 38, 0, 0, 0) :: (31, 22, 5, 36, 0) :: (34, 3, 2, 0, 0) :: (35, 6, 1, 0, 0) :: k29_36
def k29_9 : List mj_O := (9, 0, 1, 0, 0) :: (10, 6, 1, 0, 0) :: (11, 0, 2, 0, 0) :: (12, 6, 2, 0, 0) :: k29_13
def k29_0 : List mj_O := (0, 5, 0, 0, 0) :: (1, 31, 3, 1, 34) :: (4, 21, 1, 9, 0) :: (7, 1, 1, 0, 0) :: (8, 26, 0, 0, 0) :: k29_9
def k29 : Nat → List mj_O := fun t => match t with
  | 0 => k29_0
  | 9 => k29_9
  | 13 => k29_13
  | 36 => k29_36
  | 42 => k29_42
  | _ => []
-- 30: SockFair$Dyes.unlikeBehind (I)I
def k30_21 : List mj_O := (21, 26, 0, 0, 0) :: []
def k30_15 : List mj_O := (15, 5, 0, 0, 0) :: (16, 33, 3, 6, 41) :: (19, 3, 1, 0, 0) :: (20, 38, 0, 0, 0) :: k30_21
def k30_11 : List mj_O := (11, 0, 0, 0, 0) :: (12, 23, 0, 21, 0) :: k30_15
def k30_0 : List mj_O := (0, 3, 1, 0, 0) :: (1, 0, 1, 0, 0) :: (2, 22, 2, 11, 0) :: (5, 3, 1, 0, 0) :: (6, 0, 8, 0, 0) :: (8, 22, 5, 15, 0) :: k30_11
def k30 : Nat → List mj_O := fun t => match t with
  | 0 => k30_0
  | 11 => k30_11
  | 15 => k30_15
  | 21 => k30_21
  | _ => []
-- 31: SockFair$Outlook.<init> (LSockFair$Told;LSockFair$Socks;)V
def k31_0 : List mj_O := (0, 5, 0, 0, 0) :: (1, 51, 0, 0, 3) :: (4, 5, 0, 0, 0) :: (5, 5, 1, 0, 0) :: (6, 37, 4, 0, 9) :: (9, 5, 0, 0, 0) :: (10, 5, 2, 0, 0) :: (11, 37, 4, 1, 15) :: (14, 5, 0, 0, 0) :: (15, 0, 800, 0, 0) :: (18, 53, 1, 0, 0) :: (20, 37, 4, 2, 19) :: (23, 5, 0, 0, 0) :: (24, 0, 100, 0, 0) :: (26, 53, 1, 0, 0) :: (28, 37, 4, 3, 23) :: (31, 5, 0, 0, 0) :: (32, 0, 0, 0, 0) :: (33, 34, 4, 4, 26) :: (36, 25, 0, 0, 0) :: []
def k31 : Nat → List mj_O := fun t => match t with
  | 0 => k31_0
  | _ => []
-- 32: SockFair$Outlook.reach (I)V
def k32_79 : List mj_O := (79, 25, 0, 0, 0) :: []
def k32_66 : List mj_O := (66, 5, 0, 0, 0) :: (67, 3, 2, 0, 0) :: (68, 0, 1, 0, 0) :: (69, 11, 0, 0, 0) :: (70, 34, 4, 4, 26) :: (73, 9, 2, 1, 0) :: (76, 23, 0, 5, 0) :: k32_79
def k32_60 : List mj_O := (60, 9, 3, 1, 0) :: (63, 23, 0, 18, 0) :: k32_66
def k32_34 : List mj_O := (34, 3, 4, 0, 0) :: (36, 5, 0, 0, 0) :: (37, 33, 4, 0, 9) :: (40, 31, 9, 0, 30) :: (43, 22, 3, 60, 0) :: (46, 5, 0, 0, 0) :: (47, 3, 3, 0, 0) :: (48, 3, 4, 0, 0) :: (50, 3, 2, 0, 0) :: (51, 47, 34, 0, 35) :: (54, 9, 4, 1, 0) :: (57, 23, 0, 34, 0) :: k32_60
def k32_18 : List mj_O := (18, 3, 3, 0, 0) :: (19, 5, 0, 0, 0) :: (20, 33, 4, 0, 9) :: (23, 31, 9, 0, 30) :: (26, 22, 3, 66, 0) :: (29, 3, 3, 0, 0) :: (30, 0, 1, 0, 0) :: (31, 11, 0, 0, 0) :: (32, 6, 4, 0, 0) :: k32_34
def k32_5 : List mj_O := (5, 3, 2, 0, 0) :: (6, 3, 1, 0, 0) :: (7, 22, 3, 79, 0) :: (10, 3, 2, 0, 0) :: (11, 0, 8, 0, 0) :: (13, 22, 3, 79, 0) :: (16, 0, 0, 0, 0) :: (17, 6, 3, 0, 0) :: k32_18
def k32_0 : List mj_O := (0, 5, 0, 0, 0) :: (1, 31, 4, 4, 26) :: (4, 6, 2, 0, 0) :: k32_5
def k32 : Nat → List mj_O := fun t => match t with
  | 0 => k32_0
  | 5 => k32_5
  | 18 => k32_18
  | 34 => k32_34
  | 60 => k32_60
  | 66 => k32_66
  | 79 => k32_79
  | _ => []
-- 33: SockFair$Outlook.figureAgain (II)V
def k33_56 : List mj_O := (56, 25, 0, 0, 0) :: []
def k33_50 : List mj_O := (50, 9, 3, 1, 0) :: (53, 23, 0, 2, 0) :: k33_56
def k33_44 : List mj_O := (44, 9, 4, 1, 0) :: (47, 23, 0, 18, 0) :: k33_50
def k33_18 : List mj_O := (18, 3, 4, 0, 0) :: (20, 5, 0, 0, 0) :: (21, 33, 4, 0, 9) :: (24, 31, 9, 0, 30) :: (27, 22, 3, 50, 0) :: (30, 3, 4, 0, 0) :: (32, 3, 1, 0, 0) :: (33, 22, 0, 44, 0) :: (36, 5, 0, 0, 0) :: (37, 3, 1, 0, 0) :: (38, 3, 4, 0, 0) :: (40, 3, 3, 0, 0) :: (41, 47, 34, 0, 35) :: k33_44
def k33_2 : List mj_O := (2, 3, 3, 0, 0) :: (3, 3, 2, 0, 0) :: (4, 22, 3, 56, 0) :: (7, 3, 3, 0, 0) :: (8, 5, 0, 0, 0) :: (9, 31, 4, 4, 26) :: (12, 22, 3, 56, 0) :: (15, 0, 0, 0, 0) :: (16, 6, 4, 0, 0) :: k33_18
def k33_0 : List mj_O := (0, 0, 0, 0, 0) :: (1, 6, 3, 0, 0) :: k33_2
def k33 : Nat → List mj_O := fun t => match t with
  | 0 => k33_0
  | 2 => k33_2
  | 18 => k33_18
  | 44 => k33_44
  | 50 => k33_50
  | 56 => k33_56
  | _ => []
-- 34: SockFair$Outlook.figureCouple (III)V
def k34_0 : List mj_O := (0, 0, 9, 0, 0) :: (2, 5, 0, 0, 0) :: (3, 33, 4, 1, 15) :: (6, 33, 7, 2, 39) :: (9, 3, 1, 0, 0) :: (10, 38, 0, 0, 0) :: (11, 3, 3, 0, 0) :: (12, 11, 0, 0, 0) :: (13, 71, 0, 0, 44) :: (16, 6, 4, 0, 0) :: (18, 0, 9, 0, 0) :: (20, 5, 0, 0, 0) :: (21, 33, 4, 1, 15) :: (24, 33, 7, 2, 39) :: (27, 3, 2, 0, 0) :: (28, 38, 0, 0, 0) :: (29, 3, 3, 0, 0) :: (30, 11, 0, 0, 0) :: (31, 71, 0, 0, 44) :: (34, 6, 5, 0, 0) :: (36, 5, 0, 0, 0) :: (37, 33, 4, 0, 9) :: (40, 3, 1, 0, 0) :: (41, 5, 0, 0, 0) :: (42, 33, 4, 1, 15) :: (45, 33, 7, 1, 50) :: (48, 3, 1, 0, 0) :: (49, 38, 0, 0, 0) :: (50, 3, 4, 0, 0) :: (52, 3, 2, 0, 0) :: (53, 5, 0, 0, 0) :: (54, 33, 4, 1, 15) :: (57, 33, 7, 1, 50) :: (60, 3, 2, 0, 0) :: (61, 38, 0, 0, 0) :: (62, 3, 5, 0, 0) :: (64, 47, 87, 0, 53) :: (67, 6, 6, 0, 0) :: (69, 5, 0, 0, 0) :: (70, 33, 4, 2, 19) :: (73, 3, 3, 0, 0) :: (74, 0, 100, 0, 0) :: (76, 11, 2, 0, 0) :: (77, 3, 1, 0, 0) :: (78, 0, 10, 0, 0) :: (80, 11, 2, 0, 0) :: (81, 11, 0, 0, 0) :: (82, 3, 2, 0, 0) :: (83, 11, 0, 0, 0) :: (84, 3, 6, 0, 0) :: (86, 42, 0, 0, 0) :: (87, 5, 0, 0, 0) :: (88, 33, 4, 2, 19) :: (91, 3, 3, 0, 0) :: (92, 0, 100, 0, 0) :: (94, 11, 2, 0, 0) :: (95, 3, 2, 0, 0) :: (96, 0, 10, 0, 0) :: (98, 11, 2, 0, 0) :: (99, 11, 0, 0, 0) :: (100, 3, 1, 0, 0) :: (101, 11, 0, 0, 0) :: (102, 3, 6, 0, 0) :: (104, 42, 0, 0, 0) :: (105, 25, 0, 0, 0) :: []
def k34 : Nat → List mj_O := fun t => match t with
  | 0 => k34_0
  | _ => []
-- 35: SockFair$Outlook.fillOneColour ()V
def k35_80 : List mj_O := (80, 25, 0, 0, 0) :: []
def k35_74 : List mj_O := (74, 9, 1, 1, 0) :: (77, 23, 0, 2, 0) :: k35_80
def k35_17 : List mj_O := (17, 3, 2, 0, 0) :: (18, 5, 0, 0, 0) :: (19, 33, 4, 0, 9) :: (22, 31, 9, 0, 30) :: (25, 22, 3, 74, 0) :: (28, 5, 0, 0, 0) :: (29, 33, 4, 3, 23) :: (32, 3, 1, 0, 0) :: (33, 0, 10, 0, 0) :: (35, 11, 2, 0, 0) :: (36, 3, 2, 0, 0) :: (37, 11, 0, 0, 0) :: (38, 5, 0, 0, 0) :: (39, 33, 4, 0, 9) :: (42, 3, 1, 0, 0) :: (43, 0, 0, 0, 0) :: (44, 5, 0, 0, 0) :: (45, 33, 4, 1, 15) :: (48, 33, 7, 2, 39) :: (51, 3, 1, 0, 0) :: (52, 38, 0, 0, 0) :: (53, 3, 2, 0, 0) :: (54, 0, 0, 0, 0) :: (55, 5, 0, 0, 0) :: (56, 33, 4, 1, 15) :: (59, 33, 7, 2, 39) :: (62, 3, 2, 0, 0) :: (63, 38, 0, 0, 0) :: (64, 47, 87, 0, 53) :: (67, 42, 0, 0, 0) :: (68, 9, 2, 1, 0) :: (71, 23, 0, 17, 0) :: k35_74
def k35_2 : List mj_O := (2, 3, 1, 0, 0) :: (3, 5, 0, 0, 0) :: (4, 33, 4, 0, 9) :: (7, 31, 9, 0, 30) :: (10, 22, 3, 80, 0) :: (13, 3, 1, 0, 0) :: (14, 0, 1, 0, 0) :: (15, 11, 0, 0, 0) :: (16, 6, 2, 0, 0) :: k35_17
def k35_0 : List mj_O := (0, 0, 0, 0, 0) :: (1, 6, 1, 0, 0) :: k35_2
def k35 : Nat → List mj_O := fun t => match t with
  | 0 => k35_0
  | 2 => k35_2
  | 17 => k35_17
  | 74 => k35_74
  | 80 => k35_80
  | _ => []
-- 36: SockFair$Reader.<init> ([BLSockFair$Told;)V
def k36_0 : List mj_O := (0, 5, 0, 0, 0) :: (1, 51, 0, 0, 5) :: (4, 5, 0, 0, 0) :: (5, 5, 1, 0, 0) :: (6, 37, 5, 1, 11) :: (9, 5, 0, 0, 0) :: (10, 5, 2, 0, 0) :: (11, 37, 5, 2, 15) :: (14, 25, 0, 0, 0) :: []
def k36 : Nat → List mj_O := fun t => match t with
  | 0 => k36_0
  | _ => []
-- 37: SockFair$Reader.read (ILSockFair$Told;)I
def k37_140 : List mj_O := (140, 5, 0, 0, 0) :: (141, 31, 5, 9, 32) :: (144, 26, 0, 0, 0) :: []
def k37_128 : List mj_O := (128, 5, 0, 0, 0) :: (129, 0, 59, 0, 0) :: (131, 47, 43, 0, 62) :: (134, 9, 3, 1, 0) :: (137, 23, 0, 46, 0) :: k37_140
def k37_123 : List mj_O := (123, 5, 0, 0, 0) :: (124, 0, 1, 0, 0) :: (125, 47, 38, 0, 58) :: k37_128
def k37_116 : List mj_O := (116, 5, 0, 0, 0) :: (117, 47, 48, 0, 55) :: (120, 23, 0, 128, 0) :: k37_123
def k37_99 : List mj_O := (99, 5, 0, 0, 0) :: (100, 31, 5, 6, 46) :: (103, 0, 5, 0, 0) :: (104, 22, 0, 116, 0) :: (107, 5, 0, 0, 0) :: (108, 31, 5, 6, 46) :: (111, 0, 6, 0, 0) :: (113, 22, 1, 123, 0) :: k37_116
def k37_84 : List mj_O := (84, 5, 0, 0, 0) :: (85, 31, 5, 6, 46) :: (88, 0, 4, 0, 0) :: (89, 22, 1, 99, 0) :: (92, 5, 0, 0, 0) :: (93, 47, 46, 0, 52) :: (96, 23, 0, 128, 0) :: k37_99
def k37_46 : List mj_O := (46, 3, 3, 0, 0) :: (47, 0, 700, 0, 0) :: (50, 22, 3, 140, 0) :: (53, 5, 0, 0, 0) :: (54, 31, 5, 9, 32) :: (57, 21, 1, 140, 0) :: (60, 5, 0, 0, 0) :: (61, 31, 5, 6, 46) :: (64, 0, 21, 0, 0) :: (66, 22, 0, 140, 0) :: (69, 5, 0, 0, 0) :: (70, 31, 5, 6, 46) :: (73, 0, 3, 0, 0) :: (74, 22, 4, 84, 0) :: (77, 5, 0, 0, 0) :: (78, 47, 44, 0, 49) :: (81, 23, 0, 128, 0) :: k37_84
def k37_0 : List mj_O := (0, 5, 0, 0, 0) :: (1, 5, 2, 0, 0) :: (2, 37, 5, 2, 15) :: (5, 5, 0, 0, 0) :: (6, 3, 1, 0, 0) :: (7, 5, 0, 0, 0) :: (8, 33, 5, 1, 11) :: (11, 46, 0, 0, 0) :: (12, 71, 0, 0, 19) :: (15, 34, 5, 3, 25) :: (18, 5, 0, 0, 0) :: (19, 0, 0, 0, 0) :: (20, 34, 5, 4, 29) :: (23, 5, 0, 0, 0) :: (24, 0, 0, 0, 0) :: (25, 34, 5, 9, 32) :: (28, 5, 0, 0, 0) :: (29, 1, 1, 0, 0) :: (30, 34, 5, 0, 35) :: (33, 5, 0, 0, 0) :: (34, 33, 5, 2, 15) :: (37, 47, 86, 0, 38) :: (40, 5, 0, 0, 0) :: (41, 47, 39, 0, 43) :: (44, 0, 0, 0, 0) :: (45, 6, 3, 0, 0) :: k37_46
def k37 : Nat → List mj_O := fun t => match t with
  | 0 => k37_0
  | 46 => k37_46
  | 84 => k37_84
  | 99 => k37_99
  | 116 => k37_116
  | 123 => k37_123
  | 128 => k37_128
  | 140 => k37_140
  | _ => []
-- 38: SockFair$Reader.refuse (I)V
def k38_20 : List mj_O := (20, 5, 0, 0, 0) :: (21, 0, 23, 0, 0) :: (23, 34, 5, 6, 46) :: (26, 25, 0, 0, 0) :: []
def k38_0 : List mj_O := (0, 5, 0, 0, 0) :: (1, 31, 5, 9, 32) :: (4, 21, 1, 20, 0) :: (7, 5, 0, 0, 0) :: (8, 3, 1, 0, 0) :: (9, 34, 5, 9, 32) :: (12, 5, 0, 0, 0) :: (13, 5, 0, 0, 0) :: (14, 31, 5, 5, 65) :: (17, 34, 5, 0, 35) :: k38_20
def k38 : Nat → List mj_O := fun t => match t with
  | 0 => k38_0
  | 20 => k38_20
  | _ => []
-- 39: SockFair$Reader.step ()V
def k39_222 : List mj_O := (222, 25, 0, 0, 0) :: []
def k39_209 : List mj_O := (209, 34, 5, 6, 46) :: (212, 5, 0, 0, 0) :: (213, 18, 0, 0, 0) :: (214, 31, 5, 4, 29) :: (217, 0, 1, 0, 0) :: (218, 11, 0, 0, 0) :: (219, 34, 5, 4, 29) :: k39_222
def k39_207 : List mj_O := (207, 0, 22, 0, 0) :: k39_209
def k39_164 : List mj_O := (164, 5, 0, 0, 0) :: (165, 5, 0, 0, 0) :: (166, 33, 5, 1, 11) :: (169, 5, 0, 0, 0) :: (170, 31, 5, 4, 29) :: (173, 40, 0, 0, 0) :: (174, 21, 5, 207, 0) :: (177, 55, 0, 0, 74) :: (179, 5, 0, 0, 0) :: (180, 33, 5, 1, 11) :: (183, 5, 0, 0, 0) :: (184, 31, 5, 4, 29) :: (187, 40, 0, 0, 0) :: (188, 12, 2, 0, 0) :: (189, 62, 288, 0, 76) :: (192, 21, 2, 207, 0) :: (195, 5, 0, 0, 0) :: (196, 33, 5, 1, 11) :: (199, 5, 0, 0, 0) :: (200, 31, 5, 4, 29) :: (203, 40, 0, 0, 0) :: (204, 23, 0, 209, 0) :: k39_207
def k39_129 : List mj_O := (129, 5, 0, 0, 0) :: (130, 33, 5, 1, 11) :: (133, 5, 0, 0, 0) :: (134, 31, 5, 4, 29) :: (137, 40, 0, 0, 0) :: (138, 0, 48, 0, 0) :: (140, 22, 2, 164, 0) :: (143, 5, 0, 0, 0) :: (144, 33, 5, 1, 11) :: (147, 5, 0, 0, 0) :: (148, 31, 5, 4, 29) :: (151, 40, 0, 0, 0) :: (152, 0, 57, 0, 0) :: (154, 22, 4, 164, 0) :: (157, 5, 0, 0, 0) :: (158, 47, 41, 0, 71) :: (161, 23, 0, 222, 0) :: k39_164
def k39_94 : List mj_O := (94, 5, 0, 0, 0) :: (95, 33, 5, 1, 11) :: (98, 5, 0, 0, 0) :: (99, 31, 5, 4, 29) :: (102, 40, 0, 0, 0) :: (103, 0, 97, 0, 0) :: (105, 22, 2, 129, 0) :: (108, 5, 0, 0, 0) :: (109, 33, 5, 1, 11) :: (112, 5, 0, 0, 0) :: (113, 31, 5, 4, 29) :: (116, 40, 0, 0, 0) :: (117, 0, 122, 0, 0) :: (119, 22, 4, 129, 0) :: (122, 5, 0, 0, 0) :: (123, 47, 40, 0, 68) :: (126, 23, 0, 222, 0) :: k39_129
def k39_66 : List mj_O := (66, 5, 0, 0, 0) :: (67, 5, 0, 0, 0) :: (68, 31, 5, 4, 29) :: (71, 34, 5, 5, 65) :: (74, 5, 0, 0, 0) :: (75, 31, 5, 4, 29) :: (78, 5, 0, 0, 0) :: (79, 31, 5, 3, 25) :: (82, 22, 2, 94, 0) :: (85, 5, 0, 0, 0) :: (86, 0, 21, 0, 0) :: (88, 34, 5, 6, 46) :: (91, 23, 0, 222, 0) :: k39_94
def k39_53 : List mj_O := (53, 5, 0, 0, 0) :: (54, 18, 0, 0, 0) :: (55, 31, 5, 4, 29) :: (58, 0, 1, 0, 0) :: (59, 11, 0, 0, 0) :: (60, 34, 5, 4, 29) :: (63, 23, 0, 14, 0) :: k39_66
def k39_14 : List mj_O := (14, 5, 0, 0, 0) :: (15, 31, 5, 4, 29) :: (18, 5, 0, 0, 0) :: (19, 31, 5, 3, 25) :: (22, 22, 3, 66, 0) :: (25, 5, 0, 0, 0) :: (26, 33, 5, 1, 11) :: (29, 5, 0, 0, 0) :: (30, 31, 5, 4, 29) :: (33, 40, 0, 0, 0) :: (34, 0, 32, 0, 0) :: (36, 22, 0, 53, 0) :: (39, 5, 0, 0, 0) :: (40, 33, 5, 1, 11) :: (43, 5, 0, 0, 0) :: (44, 31, 5, 4, 29) :: (47, 40, 0, 0, 0) :: (48, 0, 10, 0, 0) :: (50, 22, 1, 66, 0) :: k39_53
def k39_0 : List mj_O := (0, 5, 0, 0, 0) :: (1, 31, 5, 9, 32) :: (4, 21, 0, 14, 0) :: (7, 5, 0, 0, 0) :: (8, 0, 23, 0, 0) :: (10, 34, 5, 6, 46) :: (13, 25, 0, 0, 0) :: k39_14
def k39 : Nat → List mj_O := fun t => match t with
  | 0 => k39_0
  | 14 => k39_14
  | 53 => k39_53
  | 66 => k39_66
  | 94 => k39_94
  | 129 => k39_129
  | 164 => k39_164
  | 207 => k39_207
  | 209 => k39_209
  | 222 => k39_222
  | _ => []
-- 40: SockFair$Reader.stepWord ()V
def k40_157 : List mj_O := (157, 25, 0, 0, 0) :: []
def k40_151 : List mj_O := (151, 9, 2, 1, 0) :: (154, 23, 0, 65, 0) :: k40_157
def k40_127 : List mj_O := (127, 3, 4, 0, 0) :: (129, 3, 1, 0, 0) :: (130, 22, 1, 151, 0) :: (133, 55, 1, 0, 82) :: (135, 3, 3, 0, 0) :: (136, 3, 1, 0, 0) :: (137, 11, 0, 0, 0) :: (138, 62, 283, 0, 84) :: (141, 0, 32, 0, 0) :: (143, 22, 1, 151, 0) :: (146, 5, 0, 0, 0) :: (147, 3, 2, 0, 0) :: (148, 34, 5, 6, 46) :: k40_151
def k40_88 : List mj_O := (88, 3, 5, 0, 0) :: (90, 3, 1, 0, 0) :: (91, 22, 3, 127, 0) :: (94, 5, 0, 0, 0) :: (95, 33, 5, 1, 11) :: (98, 5, 0, 0, 0) :: (99, 31, 5, 5, 65) :: (102, 3, 5, 0, 0) :: (104, 11, 0, 0, 0) :: (105, 40, 0, 0, 0) :: (106, 55, 1, 0, 82) :: (108, 3, 3, 0, 0) :: (109, 3, 5, 0, 0) :: (111, 11, 0, 0, 0) :: (112, 62, 283, 0, 84) :: (115, 22, 1, 127, 0) :: (118, 9, 4, 1, 0) :: (121, 9, 5, 1, 0) :: (124, 23, 0, 88, 0) :: k40_127
def k40_65 : List mj_O := (65, 3, 2, 0, 0) :: (66, 0, 19, 0, 0) :: (68, 22, 3, 157, 0) :: (71, 3, 1, 0, 0) :: (72, 0, 8, 0, 0) :: (74, 22, 3, 157, 0) :: (77, 3, 2, 0, 0) :: (78, 0, 8, 0, 0) :: (80, 11, 2, 0, 0) :: (81, 6, 3, 0, 0) :: (82, 0, 0, 0, 0) :: (83, 6, 4, 0, 0) :: (85, 0, 0, 0, 0) :: (86, 6, 5, 0, 0) :: k40_88
def k40_57 : List mj_O := (57, 5, 0, 0, 0) :: (58, 0, 19, 0, 0) :: (60, 34, 5, 6, 46) :: (63, 0, 0, 0, 0) :: (64, 6, 2, 0, 0) :: k40_65
def k40_2 : List mj_O := (2, 5, 0, 0, 0) :: (3, 31, 5, 4, 29) :: (6, 5, 0, 0, 0) :: (7, 31, 5, 3, 25) :: (10, 22, 3, 57, 0) :: (13, 5, 0, 0, 0) :: (14, 33, 5, 1, 11) :: (17, 5, 0, 0, 0) :: (18, 31, 5, 4, 29) :: (21, 40, 0, 0, 0) :: (22, 0, 97, 0, 0) :: (24, 22, 2, 57, 0) :: (27, 5, 0, 0, 0) :: (28, 33, 5, 1, 11) :: (31, 5, 0, 0, 0) :: (32, 31, 5, 4, 29) :: (35, 40, 0, 0, 0) :: (36, 0, 122, 0, 0) :: (38, 22, 4, 57, 0) :: (41, 9, 1, 1, 0) :: (44, 5, 0, 0, 0) :: (45, 18, 0, 0, 0) :: (46, 31, 5, 4, 29) :: (49, 0, 1, 0, 0) :: (50, 11, 0, 0, 0) :: (51, 34, 5, 4, 29) :: (54, 23, 0, 2, 0) :: k40_57
def k40_0 : List mj_O := (0, 0, 0, 0, 0) :: (1, 6, 1, 0, 0) :: k40_2
def k40 : Nat → List mj_O := fun t => match t with
  | 0 => k40_0
  | 2 => k40_2
  | 57 => k40_57
  | 65 => k40_65
  | 88 => k40_88
  | 127 => k40_127
  | 151 => k40_151
  | 157 => k40_157
  | _ => []
-- 41: SockFair$Reader.stepNumber ()V
def k41_110 : List mj_O := (110, 25, 0, 0, 0) :: []
def k41_97 : List mj_O := (97, 5, 0, 0, 0) :: (98, 18, 0, 0, 0) :: (99, 31, 5, 4, 29) :: (102, 0, 1, 0, 0) :: (103, 11, 0, 0, 0) :: (104, 34, 5, 4, 29) :: (107, 23, 0, 16, 0) :: k41_110
def k41_16 : List mj_O := (16, 5, 0, 0, 0) :: (17, 31, 5, 4, 29) :: (20, 5, 0, 0, 0) :: (21, 31, 5, 3, 25) :: (24, 22, 3, 110, 0) :: (27, 5, 0, 0, 0) :: (28, 33, 5, 1, 11) :: (31, 5, 0, 0, 0) :: (32, 31, 5, 4, 29) :: (35, 40, 0, 0, 0) :: (36, 0, 48, 0, 0) :: (38, 22, 2, 110, 0) :: (41, 5, 0, 0, 0) :: (42, 33, 5, 1, 11) :: (45, 5, 0, 0, 0) :: (46, 31, 5, 4, 29) :: (49, 40, 0, 0, 0) :: (50, 0, 57, 0, 0) :: (52, 22, 4, 110, 0) :: (55, 5, 0, 0, 0) :: (56, 18, 0, 0, 0) :: (57, 31, 5, 8, 91) :: (60, 0, 1, 0, 0) :: (61, 11, 0, 0, 0) :: (62, 34, 5, 8, 91) :: (65, 5, 0, 0, 0) :: (66, 31, 5, 8, 91) :: (69, 0, 4, 0, 0) :: (70, 22, 4, 97, 0) :: (73, 5, 0, 0, 0) :: (74, 0, 10, 0, 0) :: (76, 5, 0, 0, 0) :: (77, 31, 5, 7, 88) :: (80, 11, 2, 0, 0) :: (81, 5, 0, 0, 0) :: (82, 33, 5, 1, 11) :: (85, 5, 0, 0, 0) :: (86, 31, 5, 4, 29) :: (89, 40, 0, 0, 0) :: (90, 11, 0, 0, 0) :: (91, 0, 48, 0, 0) :: (93, 11, 1, 0, 0) :: (94, 34, 5, 7, 88) :: k41_97
def k41_0 : List mj_O := (0, 5, 0, 0, 0) :: (1, 0, 20, 0, 0) :: (3, 34, 5, 6, 46) :: (6, 5, 0, 0, 0) :: (7, 0, 0, 0, 0) :: (8, 34, 5, 7, 88) :: (11, 5, 0, 0, 0) :: (12, 0, 0, 0, 0) :: (13, 34, 5, 8, 91) :: k41_16
def k41 : Nat → List mj_O := fun t => match t with
  | 0 => k41_0
  | 16 => k41_16
  | 97 => k41_97
  | 110 => k41_110
  | _ => []
-- 42: SockFair$Reader.isAnyWord ()Z
def k42_14 : List mj_O := (14, 27, 0, 0, 0) :: []
def k42_13 : List mj_O := (13, 0, 0, 0, 0) :: k42_14
def k42_0 : List mj_O := (0, 5, 0, 0, 0) :: (1, 31, 5, 6, 46) :: (4, 0, 19, 0, 0) :: (6, 22, 4, 13, 0) :: (9, 0, 1, 0, 0) :: (10, 23, 0, 14, 0) :: k42_13
def k42 : Nat → List mj_O := fun t => match t with
  | 0 => k42_0
  | 13 => k42_13
  | 14 => k42_14
  | _ => []
-- 43: SockFair$Reader.stepOver (I)V
def k43_20 : List mj_O := (20, 25, 0, 0, 0) :: []
def k43_15 : List mj_O := (15, 5, 0, 0, 0) :: (16, 0, 1, 0, 0) :: (17, 47, 38, 0, 58) :: k43_20
def k43_0 : List mj_O := (0, 5, 0, 0, 0) :: (1, 31, 5, 6, 46) :: (4, 3, 1, 0, 0) :: (5, 22, 1, 15, 0) :: (8, 5, 0, 0, 0) :: (9, 47, 39, 0, 43) :: (12, 23, 0, 20, 0) :: k43_15
def k43 : Nat → List mj_O := fun t => match t with
  | 0 => k43_0
  | 15 => k43_15
  | 20 => k43_20
  | _ => []
-- 44: SockFair$Reader.readSock ()V
def k44_20 : List mj_O := (20, 5, 0, 0, 0) :: (21, 33, 5, 2, 15) :: (24, 33, 9, 1, 97) :: (27, 3, 1, 0, 0) :: (28, 5, 0, 0, 0) :: (29, 31, 5, 6, 46) :: (32, 42, 0, 0, 0) :: (33, 5, 0, 0, 0) :: (34, 47, 39, 0, 43) :: (37, 5, 0, 0, 0) :: (38, 33, 5, 2, 15) :: (41, 33, 9, 5, 101) :: (44, 33, 7, 1, 105) :: (47, 3, 1, 0, 0) :: (48, 5, 0, 0, 0) :: (49, 0, 0, 0, 0) :: (50, 0, 9, 0, 0) :: (52, 47, 45, 0, 110) :: (55, 42, 0, 0, 0) :: (56, 5, 0, 0, 0) :: (57, 33, 5, 2, 15) :: (60, 33, 9, 2, 113) :: (63, 3, 1, 0, 0) :: (64, 5, 0, 0, 0) :: (65, 0, 0, 0, 0) :: (66, 0, 3, 0, 0) :: (67, 47, 45, 0, 110) :: (70, 42, 0, 0, 0) :: (71, 5, 0, 0, 0) :: (72, 33, 5, 2, 15) :: (75, 33, 9, 3, 116) :: (78, 3, 1, 0, 0) :: (79, 5, 0, 0, 0) :: (80, 0, 1, 0, 0) :: (81, 0, 30, 0, 0) :: (83, 47, 45, 0, 110) :: (86, 42, 0, 0, 0) :: (87, 5, 0, 0, 0) :: (88, 33, 5, 2, 15) :: (91, 33, 9, 5, 101) :: (94, 33, 7, 2, 119) :: (97, 3, 1, 0, 0) :: (98, 5, 0, 0, 0) :: (99, 0, 0, 0, 0) :: (100, 0, 9, 0, 0) :: (102, 47, 45, 0, 110) :: (105, 42, 0, 0, 0) :: (106, 5, 0, 0, 0) :: (107, 33, 5, 2, 15) :: (110, 33, 9, 4, 122) :: (113, 3, 1, 0, 0) :: (114, 5, 0, 0, 0) :: (115, 0, 0, 0, 0) :: (116, 0, 20, 0, 0) :: (118, 47, 45, 0, 110) :: (121, 42, 0, 0, 0) :: (122, 5, 0, 0, 0) :: (123, 33, 5, 2, 15) :: (126, 18, 0, 0, 0) :: (127, 31, 9, 0, 94) :: (130, 0, 1, 0, 0) :: (131, 11, 0, 0, 0) :: (132, 34, 9, 0, 94) :: (135, 25, 0, 0, 0) :: []
def k44_0 : List mj_O := (0, 5, 0, 0, 0) :: (1, 33, 5, 2, 15) :: (4, 31, 9, 0, 94) :: (7, 6, 1, 0, 0) :: (8, 3, 1, 0, 0) :: (9, 0, 10, 0, 0) :: (11, 22, 2, 20, 0) :: (14, 5, 0, 0, 0) :: (15, 0, 2, 0, 0) :: (16, 47, 38, 0, 58) :: (19, 25, 0, 0, 0) :: k44_20
def k44 : Nat → List mj_O := fun t => match t with
  | 0 => k44_0
  | 20 => k44_20
  | _ => []
-- 45: SockFair$Reader.readNumber (II)I
def k45_52 : List mj_O := (52, 3, 3, 0, 0) :: (53, 26, 0, 0, 0) :: []
def k45_48 : List mj_O := (48, 5, 0, 0, 0) :: (49, 47, 39, 0, 43) :: k45_52
def k45_40 : List mj_O := (40, 5, 0, 0, 0) :: (41, 0, 2, 0, 0) :: (42, 47, 38, 0, 58) :: (45, 23, 0, 52, 0) :: k45_48
def k45_22 : List mj_O := (22, 5, 0, 0, 0) :: (23, 31, 5, 8, 91) :: (26, 0, 4, 0, 0) :: (27, 22, 4, 40, 0) :: (30, 3, 3, 0, 0) :: (31, 3, 1, 0, 0) :: (32, 22, 2, 40, 0) :: (35, 3, 3, 0, 0) :: (36, 3, 2, 0, 0) :: (37, 22, 5, 48, 0) :: k45_40
def k45_0 : List mj_O := (0, 5, 0, 0, 0) :: (1, 31, 5, 7, 88) :: (4, 6, 3, 0, 0) :: (5, 5, 0, 0, 0) :: (6, 31, 5, 6, 46) :: (9, 0, 20, 0, 0) :: (11, 22, 0, 22, 0) :: (14, 5, 0, 0, 0) :: (15, 0, 1, 0, 0) :: (16, 47, 38, 0, 58) :: (19, 23, 0, 52, 0) :: k45_22
def k45 : Nat → List mj_O := fun t => match t with
  | 0 => k45_0
  | 22 => k45_22
  | 40 => k45_40
  | 48 => k45_48
  | 52 => k45_52
  | _ => []
-- 46: SockFair$Reader.readCouple ()V
def k46_57 : List mj_O := (57, 25, 0, 0, 0) :: []
def k46_0 : List mj_O := (0, 5, 0, 0, 0) :: (1, 47, 39, 0, 43) :: (4, 5, 0, 0, 0) :: (5, 1, 1, 0, 0) :: (6, 47, 47, 0, 125) :: (9, 6, 1, 0, 0) :: (10, 5, 0, 0, 0) :: (11, 3, 1, 0, 0) :: (12, 47, 47, 0, 125) :: (15, 6, 2, 0, 0) :: (16, 5, 0, 0, 0) :: (17, 31, 5, 9, 32) :: (20, 21, 1, 57, 0) :: (23, 3, 1, 0, 0) :: (24, 21, 2, 57, 0) :: (27, 3, 2, 0, 0) :: (28, 21, 2, 57, 0) :: (31, 5, 0, 0, 0) :: (32, 33, 5, 2, 15) :: (35, 33, 9, 5, 101) :: (38, 33, 7, 3, 128) :: (41, 3, 1, 0, 0) :: (42, 3, 2, 0, 0) :: (43, 42, 0, 0, 0) :: (44, 5, 0, 0, 0) :: (45, 33, 5, 2, 15) :: (48, 33, 9, 5, 101) :: (51, 33, 7, 3, 128) :: (54, 3, 2, 0, 0) :: (55, 3, 1, 0, 0) :: (56, 42, 0, 0, 0) :: k46_57
def k46 : Nat → List mj_O := fun t => match t with
  | 0 => k46_0
  | 57 => k46_57
  | _ => []
-- 47: SockFair$Reader.readUnbound (I)I
def k47_92 : List mj_O := (92, 1, 1, 0, 0) :: (93, 26, 0, 0, 0) :: []
def k47_86 : List mj_O := (86, 5, 0, 0, 0) :: (87, 47, 39, 0, 43) :: (90, 3, 2, 0, 0) :: (91, 26, 0, 0, 0) :: k47_92
def k47_78 : List mj_O := (78, 5, 0, 0, 0) :: (79, 0, 4, 0, 0) :: (80, 47, 38, 0, 58) :: (83, 23, 0, 92, 0) :: k47_86
def k47_57 : List mj_O := (57, 3, 2, 0, 0) :: (58, 3, 1, 0, 0) :: (59, 22, 0, 78, 0) :: (62, 5, 0, 0, 0) :: (63, 33, 5, 2, 15) :: (66, 33, 9, 5, 101) :: (69, 33, 7, 3, 128) :: (72, 3, 2, 0, 0) :: (73, 38, 0, 0, 0) :: (74, 1, 1, 0, 0) :: (75, 22, 0, 86, 0) :: k47_78
def k47_38 : List mj_O := (38, 3, 2, 0, 0) :: (39, 5, 0, 0, 0) :: (40, 33, 5, 2, 15) :: (43, 31, 9, 0, 94) :: (46, 22, 2, 57, 0) :: (49, 5, 0, 0, 0) :: (50, 0, 3, 0, 0) :: (51, 47, 38, 0, 58) :: (54, 23, 0, 92, 0) :: k47_57
def k47_22 : List mj_O := (22, 5, 0, 0, 0) :: (23, 31, 5, 8, 91) :: (26, 0, 4, 0, 0) :: (27, 22, 5, 38, 0) :: (30, 5, 0, 0, 0) :: (31, 0, 2, 0, 0) :: (32, 47, 38, 0, 58) :: (35, 23, 0, 92, 0) :: k47_38
def k47_0 : List mj_O := (0, 5, 0, 0, 0) :: (1, 31, 5, 7, 88) :: (4, 6, 2, 0, 0) :: (5, 5, 0, 0, 0) :: (6, 31, 5, 6, 46) :: (9, 0, 20, 0, 0) :: (11, 22, 0, 22, 0) :: (14, 5, 0, 0, 0) :: (15, 0, 1, 0, 0) :: (16, 47, 38, 0, 58) :: (19, 23, 0, 92, 0) :: k47_22
def k47 : Nat → List mj_O := fun t => match t with
  | 0 => k47_0
  | 22 => k47_22
  | 38 => k47_38
  | 57 => k47_57
  | 78 => k47_78
  | 86 => k47_86
  | 92 => k47_92
  | _ => []
-- 48: SockFair$Reader.readRule ()V
def k48_118 : List mj_O := (118, 25, 0, 0, 0) :: []
def k48_107 : List mj_O := (107, 5, 0, 0, 0) :: (108, 33, 5, 2, 15) :: (111, 33, 9, 6, 131) :: (114, 3, 2, 0, 0) :: (115, 47, 59, 0, 159) :: k48_118
def k48_65 : List mj_O := (65, 34, 5, 10, 146) :: (68, 5, 0, 0, 0) :: (69, 33, 5, 2, 15) :: (72, 33, 9, 6, 131) :: (75, 31, 6, 1, 149) :: (78, 6, 2, 0, 0) :: (79, 5, 0, 0, 0) :: (80, 47, 39, 0, 43) :: (83, 5, 0, 0, 0) :: (84, 0, 0, 0, 0) :: (85, 0, 0, 0, 0) :: (86, 47, 49, 0, 152) :: (89, 3, 1, 0, 0) :: (90, 21, 0, 107, 0) :: (93, 5, 0, 0, 0) :: (94, 33, 5, 2, 15) :: (97, 33, 9, 6, 131) :: (100, 3, 2, 0, 0) :: (101, 47, 58, 0, 156) :: (104, 23, 0, 118, 0) :: k48_107
def k48_63 : List mj_O := (63, 0, 462880, 0, 145) :: k48_65
def k48_53 : List mj_O := (53, 5, 0, 0, 0) :: (54, 3, 1, 0, 0) :: (55, 21, 0, 63, 0) :: (58, 0, 64513, 0, 144) :: (60, 23, 0, 65, 0) :: k48_63
def k48_47 : List mj_O := (47, 5, 0, 0, 0) :: (48, 0, 5, 0, 0) :: (49, 47, 38, 0, 58) :: (52, 25, 0, 0, 0) :: k48_53
def k48_34 : List mj_O := (34, 5, 0, 0, 0) :: (35, 33, 5, 2, 15) :: (38, 33, 9, 6, 131) :: (41, 47, 57, 0, 141) :: (44, 21, 0, 53, 0) :: k48_47
def k48_13 : List mj_O := (13, 6, 1, 0, 0) :: (14, 3, 1, 0, 0) :: (15, 21, 0, 34, 0) :: (18, 5, 0, 0, 0) :: (19, 33, 5, 2, 15) :: (22, 33, 9, 6, 131) :: (25, 47, 56, 0, 135) :: (28, 21, 0, 53, 0) :: (31, 23, 0, 47, 0) :: k48_34
def k48_12 : List mj_O := (12, 0, 0, 0, 0) :: k48_13
def k48_0 : List mj_O := (0, 5, 0, 0, 0) :: (1, 31, 5, 6, 46) :: (4, 0, 5, 0, 0) :: (5, 22, 1, 12, 0) :: (8, 0, 1, 0, 0) :: (9, 23, 0, 13, 0) :: k48_12
def k48 : Nat → List mj_O := fun t => match t with
  | 0 => k48_0
  | 12 => k48_12
  | 13 => k48_13
  | 34 => k48_34
  | 47 => k48_47
  | 53 => k48_53
  | 63 => k48_63
  | 65 => k48_65
  | 107 => k48_107
  | 118 => k48_118
  | _ => []
-- 49: SockFair$Reader.readLevel (II)V
def k49_131 : List mj_O := (131, 25, 0, 0, 0) :: []
def k49_107 : List mj_O := (107, 3, 5, 0, 0) :: (109, 3, 3, 0, 0) :: (110, 22, 3, 131, 0) :: (113, 5, 0, 0, 0) :: (114, 33, 5, 2, 15) :: (117, 33, 9, 6, 131) :: (120, 0, 2, 0, 0) :: (121, 0, 0, 0, 0) :: (122, 47, 61, 0, 172) :: (125, 9, 5, 1, 0) :: (128, 23, 0, 107, 0) :: k49_131
def k49_104 : List mj_O := (104, 0, 0, 0, 0) :: (105, 6, 5, 0, 0) :: k49_107
def k49_50 : List mj_O := (50, 3, 5, 0, 0) :: (52, 3, 4, 0, 0) :: (54, 22, 3, 104, 0) :: (57, 5, 0, 0, 0) :: (58, 3, 1, 0, 0) :: (59, 47, 51, 0, 169) :: (62, 1, 1, 0, 0) :: (63, 22, 0, 104, 0) :: (66, 5, 0, 0, 0) :: (67, 3, 1, 0, 0) :: (68, 47, 51, 0, 169) :: (71, 6, 6, 0, 0) :: (73, 5, 0, 0, 0) :: (74, 47, 39, 0, 43) :: (77, 5, 0, 0, 0) :: (78, 3, 1, 0, 0) :: (79, 0, 1, 0, 0) :: (80, 11, 0, 0, 0) :: (81, 3, 2, 0, 0) :: (82, 47, 49, 0, 152) :: (85, 5, 0, 0, 0) :: (86, 33, 5, 2, 15) :: (89, 33, 9, 6, 131) :: (92, 3, 6, 0, 0) :: (94, 0, 0, 0, 0) :: (95, 47, 61, 0, 172) :: (98, 9, 5, 1, 0) :: (101, 23, 0, 50, 0) :: k49_104
def k49_45 : List mj_O := (45, 6, 4, 0, 0) :: (47, 0, 0, 0, 0) :: (48, 6, 5, 0, 0) :: k49_50
def k49_42 : List mj_O := (42, 0, 700, 0, 0) :: k49_45
def k49_24 : List mj_O := (24, 6, 3, 0, 0) :: (25, 5, 0, 0, 0) :: (26, 3, 1, 0, 0) :: (27, 0, 1, 0, 0) :: (28, 11, 0, 0, 0) :: (29, 3, 2, 0, 0) :: (30, 47, 49, 0, 152) :: (33, 3, 1, 0, 0) :: (34, 0, 2, 0, 0) :: (35, 22, 1, 42, 0) :: (38, 0, 1, 0, 0) :: (39, 23, 0, 45, 0) :: k49_42
def k49_23 : List mj_O := (23, 0, 0, 0, 0) :: k49_24
def k49_11 : List mj_O := (11, 3, 1, 0, 0) :: (12, 0, 2, 0, 0) :: (13, 22, 1, 23, 0) :: (16, 5, 0, 0, 0) :: (17, 47, 50, 0, 165) :: (20, 23, 0, 24, 0) :: k49_23
def k49_0 : List mj_O := (0, 3, 1, 0, 0) :: (1, 0, 4, 0, 0) :: (2, 22, 5, 11, 0) :: (5, 5, 0, 0, 0) :: (6, 3, 2, 0, 0) :: (7, 47, 52, 0, 162) :: (10, 25, 0, 0, 0) :: k49_11
def k49 : Nat → List mj_O := fun t => match t with
  | 0 => k49_0
  | 11 => k49_11
  | 23 => k49_23
  | 24 => k49_24
  | 42 => k49_42
  | 45 => k49_45
  | 50 => k49_50
  | 104 => k49_104
  | 107 => k49_107
  | 131 => k49_131
  | _ => []
-- 50: SockFair$Reader.readNots ()I
def k50_41 : List mj_O := (41, 3, 1, 0, 0) :: (42, 26, 0, 0, 0) :: []
def k50_27 : List mj_O := (27, 5, 0, 0, 0) :: (28, 31, 5, 6, 46) :: (31, 0, 9, 0, 0) :: (33, 22, 1, 41, 0) :: (36, 5, 0, 0, 0) :: (37, 0, 2, 0, 0) :: (38, 47, 38, 0, 58) :: k50_41
def k50_2 : List mj_O := (2, 3, 1, 0, 0) :: (3, 0, 6, 0, 0) :: (5, 22, 3, 27, 0) :: (8, 5, 0, 0, 0) :: (9, 31, 5, 6, 46) :: (12, 0, 9, 0, 0) :: (14, 22, 1, 27, 0) :: (17, 5, 0, 0, 0) :: (18, 47, 39, 0, 43) :: (21, 9, 1, 1, 0) :: (24, 23, 0, 2, 0) :: k50_27
def k50_0 : List mj_O := (0, 0, 0, 0, 0) :: (1, 6, 1, 0, 0) :: k50_2
def k50 : Nat → List mj_O := fun t => match t with
  | 0 => k50_0
  | 2 => k50_2
  | 27 => k50_27
  | 41 => k50_41
  | _ => []
-- 51: SockFair$Reader.joinHere (I)I
def k51_172 : List mj_O := (172, 1, 1, 0, 0) :: (173, 26, 0, 0, 0) :: []
def k51_171 : List mj_O := (171, 26, 0, 0, 0) :: k51_172
def k51_170 : List mj_O := (170, 1, 1, 0, 0) :: k51_171
def k51_160 : List mj_O := (160, 3, 1, 0, 0) :: (161, 0, 4, 0, 0) :: (162, 22, 1, 170, 0) :: (165, 0, 10, 0, 0) :: (167, 23, 0, 171, 0) :: k51_170
def k51_159 : List mj_O := (159, 26, 0, 0, 0) :: k51_160
def k51_158 : List mj_O := (158, 1, 1, 0, 0) :: k51_159
def k51_148 : List mj_O := (148, 3, 1, 0, 0) :: (149, 0, 4, 0, 0) :: (150, 22, 1, 158, 0) :: (153, 0, 9, 0, 0) :: (155, 23, 0, 159, 0) :: k51_158
def k51_147 : List mj_O := (147, 26, 0, 0, 0) :: k51_148
def k51_146 : List mj_O := (146, 1, 1, 0, 0) :: k51_147
def k51_136 : List mj_O := (136, 3, 1, 0, 0) :: (137, 0, 3, 0, 0) :: (138, 22, 1, 146, 0) :: (141, 0, 8, 0, 0) :: (143, 23, 0, 147, 0) :: k51_146
def k51_135 : List mj_O := (135, 26, 0, 0, 0) :: k51_136
def k51_134 : List mj_O := (134, 1, 1, 0, 0) :: k51_135
def k51_124 : List mj_O := (124, 3, 1, 0, 0) :: (125, 0, 3, 0, 0) :: (126, 22, 1, 134, 0) :: (129, 0, 7, 0, 0) :: (131, 23, 0, 135, 0) :: k51_134
def k51_123 : List mj_O := (123, 26, 0, 0, 0) :: k51_124
def k51_122 : List mj_O := (122, 1, 1, 0, 0) :: k51_123
def k51_112 : List mj_O := (112, 3, 1, 0, 0) :: (113, 0, 2, 0, 0) :: (114, 22, 1, 122, 0) :: (117, 0, 6, 0, 0) :: (119, 23, 0, 123, 0) :: k51_122
def k51_111 : List mj_O := (111, 26, 0, 0, 0) :: k51_112
def k51_110 : List mj_O := (110, 1, 1, 0, 0) :: k51_111
def k51_101 : List mj_O := (101, 3, 1, 0, 0) :: (102, 0, 2, 0, 0) :: (103, 22, 1, 110, 0) :: (106, 0, 5, 0, 0) :: (107, 23, 0, 111, 0) :: k51_110
def k51_100 : List mj_O := (100, 26, 0, 0, 0) :: k51_101
def k51_99 : List mj_O := (99, 1, 1, 0, 0) :: k51_100
def k51_90 : List mj_O := (90, 3, 1, 0, 0) :: (91, 0, 1, 0, 0) :: (92, 22, 1, 99, 0) :: (95, 0, 4, 0, 0) :: (96, 23, 0, 100, 0) :: k51_99
def k51_89 : List mj_O := (89, 26, 0, 0, 0) :: k51_90
def k51_88 : List mj_O := (88, 1, 1, 0, 0) :: k51_89
def k51_80 : List mj_O := (80, 3, 1, 0, 0) :: (81, 21, 1, 88, 0) :: (84, 0, 3, 0, 0) :: (85, 23, 0, 89, 0) :: k51_88
def k51_0 : List mj_O := (0, 5, 0, 0, 0) :: (1, 31, 5, 6, 46) :: (4, 24, 0, 172, 0) :: k51_80
def k51 : Nat → List mj_O := fun t => match t with
  | 0 => k51_0
  | 80 => k51_80
  | 88 => k51_88
  | 89 => k51_89
  | 90 => k51_90
  | 99 => k51_99
  | 100 => k51_100
  | 101 => k51_101
  | 110 => k51_110
  | 111 => k51_111
  | 112 => k51_112
  | 122 => k51_122
  | 123 => k51_123
  | 124 => k51_124
  | 134 => k51_134
  | 135 => k51_135
  | 136 => k51_136
  | 146 => k51_146
  | 147 => k51_147
  | 148 => k51_148
  | 158 => k51_158
  | 159 => k51_159
  | 160 => k51_160
  | 170 => k51_170
  | 171 => k51_171
  | 172 => k51_172
  | _ => []
-- 52: SockFair$Reader.readPart (I)V
def k52_141 : List mj_O := (141, 25, 0, 0, 0) :: []
def k52_122 : List mj_O := (122, 5, 0, 0, 0) :: (123, 33, 5, 2, 15) :: (126, 33, 9, 6, 131) :: (129, 0, 1, 0, 0) :: (130, 5, 0, 0, 0) :: (131, 31, 5, 6, 46) :: (134, 47, 61, 0, 172) :: (137, 5, 0, 0, 0) :: (138, 47, 39, 0, 43) :: k52_141
def k52_100 : List mj_O := (100, 5, 0, 0, 0) :: (101, 31, 5, 10, 146) :: (104, 5, 0, 0, 0) :: (105, 31, 5, 6, 46) :: (108, 11, 6, 0, 0) :: (109, 0, 1, 0, 0) :: (110, 11, 8, 0, 0) :: (111, 21, 1, 122, 0) :: (114, 5, 0, 0, 0) :: (115, 0, 3, 0, 0) :: (116, 47, 38, 0, 58) :: (119, 23, 0, 141, 0) :: k52_122
def k52_85 : List mj_O := (85, 5, 0, 0, 0) :: (86, 47, 42, 0, 178) :: (89, 21, 1, 100, 0) :: (92, 5, 0, 0, 0) :: (93, 0, 1, 0, 0) :: (94, 47, 38, 0, 58) :: (97, 23, 0, 141, 0) :: k52_100
def k52_56 : List mj_O := (56, 5, 0, 0, 0) :: (57, 31, 5, 6, 46) :: (60, 0, 40, 0, 0) :: (62, 22, 1, 85, 0) :: (65, 5, 0, 0, 0) :: (66, 47, 39, 0, 43) :: (69, 5, 0, 0, 0) :: (70, 3, 1, 0, 0) :: (71, 0, 1, 0, 0) :: (72, 11, 0, 0, 0) :: (73, 47, 53, 0, 175) :: (76, 5, 0, 0, 0) :: (77, 0, 41, 0, 0) :: (79, 47, 43, 0, 62) :: (82, 23, 0, 141, 0) :: k52_85
def k52_25 : List mj_O := (25, 5, 0, 0, 0) :: (26, 31, 5, 6, 46) :: (29, 0, 20, 0, 0) :: (31, 22, 1, 56, 0) :: (34, 5, 0, 0, 0) :: (35, 33, 5, 2, 15) :: (38, 33, 9, 6, 131) :: (41, 0, 0, 0, 0) :: (42, 5, 0, 0, 0) :: (43, 31, 5, 7, 88) :: (46, 47, 61, 0, 172) :: (49, 5, 0, 0, 0) :: (50, 47, 39, 0, 43) :: (53, 23, 0, 141, 0) :: k52_56
def k52_0 : List mj_O := (0, 5, 0, 0, 0) :: (1, 31, 5, 6, 46) :: (4, 0, 20, 0, 0) :: (6, 22, 1, 25, 0) :: (9, 5, 0, 0, 0) :: (10, 31, 5, 8, 91) :: (13, 0, 4, 0, 0) :: (14, 22, 5, 25, 0) :: (17, 5, 0, 0, 0) :: (18, 0, 2, 0, 0) :: (19, 47, 38, 0, 58) :: (22, 23, 0, 141, 0) :: k52_25
def k52 : Nat → List mj_O := fun t => match t with
  | 0 => k52_0
  | 25 => k52_25
  | 56 => k52_56
  | 85 => k52_85
  | 100 => k52_100
  | 122 => k52_122
  | 141 => k52_141
  | _ => []
-- 53: SockFair$Reader.readWithin (I)V
def k53_49 : List mj_O := (49, 25, 0, 0, 0) :: []
def k53_46 : List mj_O := (46, 47, 38, 0, 58) :: k53_49
def k53_45 : List mj_O := (45, 0, 1, 0, 0) :: k53_46
def k53_41 : List mj_O := (41, 0, 2, 0, 0) :: (42, 23, 0, 46, 0) :: k53_45
def k53_15 : List mj_O := (15, 5, 0, 0, 0) :: (16, 5, 0, 0, 0) :: (17, 47, 42, 0, 178) :: (20, 21, 1, 41, 0) :: (23, 5, 0, 0, 0) :: (24, 31, 5, 6, 46) :: (27, 0, 20, 0, 0) :: (29, 22, 0, 41, 0) :: (32, 5, 0, 0, 0) :: (33, 31, 5, 6, 46) :: (36, 0, 40, 0, 0) :: (38, 22, 1, 45, 0) :: k53_41
def k53_0 : List mj_O := (0, 3, 1, 0, 0) :: (1, 0, 6, 0, 0) :: (3, 22, 3, 15, 0) :: (6, 5, 0, 0, 0) :: (7, 0, 0, 0, 0) :: (8, 3, 1, 0, 0) :: (9, 47, 49, 0, 152) :: (12, 23, 0, 49, 0) :: k53_15
def k53 : Nat → List mj_O := fun t => match t with
  | 0 => k53_0
  | 15 => k53_15
  | 41 => k53_41
  | 45 => k53_45
  | 46 => k53_46
  | 49 => k53_49
  | _ => []
-- 54: SockFair$Rules.<init> (I)V
def k54_0 : List mj_O := (0, 5, 0, 0, 0) :: (1, 51, 0, 0, 3) :: (4, 5, 0, 0, 0) :: (5, 0, 32, 0, 0) :: (7, 53, 1, 0, 0) :: (9, 37, 6, 0, 9) :: (12, 5, 0, 0, 0) :: (13, 0, 0, 0, 0) :: (14, 3, 1, 0, 0) :: (15, 70, 0, 0, 13) :: (18, 53, 1, 0, 0) :: (20, 37, 6, 7, 19) :: (23, 5, 0, 0, 0) :: (24, 0, 64, 0, 0) :: (26, 53, 1, 0, 0) :: (28, 37, 6, 8, 22) :: (31, 5, 0, 0, 0) :: (32, 47, 55, 0, 25) :: (35, 25, 0, 0, 0) :: []
def k54 : Nat → List mj_O := fun t => match t with
  | 0 => k54_0
  | _ => []
-- 55: SockFair$Rules.clear ()V
def k55_0 : List mj_O := (0, 5, 0, 0, 0) :: (1, 0, 0, 0, 0) :: (2, 34, 6, 1, 28) :: (5, 5, 0, 0, 0) :: (6, 0, 0, 0, 0) :: (7, 34, 6, 2, 32) :: (10, 5, 0, 0, 0) :: (11, 0, 0, 0, 0) :: (12, 34, 6, 3, 35) :: (15, 5, 0, 0, 0) :: (16, 0, 0, 0, 0) :: (17, 34, 6, 4, 38) :: (20, 5, 0, 0, 0) :: (21, 0, 0, 0, 0) :: (22, 34, 6, 5, 41) :: (25, 5, 0, 0, 0) :: (26, 0, 0, 0, 0) :: (27, 34, 6, 6, 44) :: (30, 25, 0, 0, 0) :: []
def k55 : Nat → List mj_O := fun t => match t with
  | 0 => k55_0
  | _ => []
-- 56: SockFair$Rules.hasAlike ()Z
def k56_16 : List mj_O := (16, 27, 0, 0, 0) :: []
def k56_15 : List mj_O := (15, 0, 0, 0, 0) :: k56_16
def k56_0 : List mj_O := (0, 5, 0, 0, 0) :: (1, 31, 6, 3, 35) :: (4, 5, 0, 0, 0) :: (5, 31, 6, 2, 32) :: (8, 22, 5, 15, 0) :: (11, 0, 1, 0, 0) :: (12, 23, 0, 16, 0) :: k56_15
def k56 : Nat → List mj_O := fun t => match t with
  | 0 => k56_0
  | 15 => k56_15
  | 16 => k56_16
  | _ => []
-- 57: SockFair$Rules.hasLikes ()Z
def k57_16 : List mj_O := (16, 27, 0, 0, 0) :: []
def k57_15 : List mj_O := (15, 0, 0, 0, 0) :: k57_16
def k57_0 : List mj_O := (0, 5, 0, 0, 0) :: (1, 31, 6, 5, 41) :: (4, 5, 0, 0, 0) :: (5, 31, 6, 4, 38) :: (8, 22, 5, 15, 0) :: (11, 0, 1, 0, 0) :: (12, 23, 0, 16, 0) :: k57_15
def k57 : Nat → List mj_O := fun t => match t with
  | 0 => k57_0
  | 15 => k57_15
  | 16 => k57_16
  | _ => []
-- 58: SockFair$Rules.endAlike (I)V
def k58_71 : List mj_O := (71, 25, 0, 0, 0) :: []
def k58_65 : List mj_O := (65, 9, 2, 1, 0) :: (68, 23, 0, 15, 0) :: k58_71
def k58_15 : List mj_O := (15, 3, 2, 0, 0) :: (16, 5, 0, 0, 0) :: (17, 31, 6, 1, 28) :: (20, 22, 3, 71, 0) :: (23, 3, 2, 0, 0) :: (24, 5, 0, 0, 0) :: (25, 33, 6, 7, 19) :: (28, 46, 0, 0, 0) :: (29, 22, 3, 71, 0) :: (32, 5, 0, 0, 0) :: (33, 33, 6, 7, 19) :: (36, 3, 2, 0, 0) :: (37, 38, 0, 0, 0) :: (38, 0, 20, 0, 0) :: (40, 11, 6, 0, 0) :: (41, 0, 1, 0, 0) :: (42, 22, 1, 65, 0) :: (45, 5, 0, 0, 0) :: (46, 18, 0, 0, 0) :: (47, 31, 6, 6, 44) :: (50, 0, 1, 0, 0) :: (51, 5, 0, 0, 0) :: (52, 33, 6, 7, 19) :: (55, 3, 2, 0, 0) :: (56, 38, 0, 0, 0) :: (57, 0, 31, 0, 0) :: (59, 11, 8, 0, 0) :: (60, 11, 5, 0, 0) :: (61, 11, 9, 0, 0) :: (62, 34, 6, 6, 44) :: k58_65
def k58_0 : List mj_O := (0, 5, 0, 0, 0) :: (1, 3, 1, 0, 0) :: (2, 34, 6, 2, 32) :: (5, 5, 0, 0, 0) :: (6, 5, 0, 0, 0) :: (7, 31, 6, 1, 28) :: (10, 34, 6, 3, 35) :: (13, 3, 1, 0, 0) :: (14, 6, 2, 0, 0) :: k58_15
def k58 : Nat → List mj_O := fun t => match t with
  | 0 => k58_0
  | 15 => k58_15
  | 65 => k58_65
  | 71 => k58_71
  | _ => []
-- 59: SockFair$Rules.endLikes (I)V
def k59_0 : List mj_O := (0, 5, 0, 0, 0) :: (1, 3, 1, 0, 0) :: (2, 34, 6, 4, 38) :: (5, 5, 0, 0, 0) :: (6, 5, 0, 0, 0) :: (7, 31, 6, 1, 28) :: (10, 34, 6, 5, 41) :: (13, 25, 0, 0, 0) :: []
def k59 : Nat → List mj_O := fun t => match t with
  | 0 => k59_0
  | _ => []
-- 60: SockFair$Rules.alikeLooksAt (I)Z
def k60_28 : List mj_O := (28, 27, 0, 0, 0) :: []
def k60_27 : List mj_O := (27, 0, 0, 0, 0) :: k60_28
def k60_16 : List mj_O := (16, 6, 2, 0, 0) :: (17, 3, 2, 0, 0) :: (18, 3, 1, 0, 0) :: (19, 11, 8, 0, 0) :: (20, 21, 0, 27, 0) :: (23, 0, 1, 0, 0) :: (24, 23, 0, 28, 0) :: k60_27
def k60_14 : List mj_O := (14, 1, 32769, 0, 53) :: k60_16
def k60_0 : List mj_O := (0, 5, 0, 0, 0) :: (1, 47, 56, 0, 47) :: (4, 21, 0, 14, 0) :: (7, 5, 0, 0, 0) :: (8, 31, 6, 6, 44) :: (11, 23, 0, 16, 0) :: k60_14
def k60 : Nat → List mj_O := fun t => match t with
  | 0 => k60_0
  | 14 => k60_14
  | 16 => k60_16
  | 27 => k60_27
  | 28 => k60_28
  | _ => []
-- 61: SockFair$Rules.addStep (II)V
def k61_30 : List mj_O := (30, 5, 0, 0, 0) :: (31, 18, 0, 0, 0) :: (32, 31, 6, 1, 28) :: (35, 0, 1, 0, 0) :: (36, 11, 0, 0, 0) :: (37, 34, 6, 1, 28) :: (40, 25, 0, 0, 0) :: []
def k61_0 : List mj_O := (0, 5, 0, 0, 0) :: (1, 31, 6, 1, 28) :: (4, 5, 0, 0, 0) :: (5, 33, 6, 7, 19) :: (8, 46, 0, 0, 0) :: (9, 22, 3, 30, 0) :: (12, 5, 0, 0, 0) :: (13, 33, 6, 7, 19) :: (16, 5, 0, 0, 0) :: (17, 31, 6, 1, 28) :: (20, 3, 1, 0, 0) :: (21, 0, 20, 0, 0) :: (23, 11, 5, 0, 0) :: (24, 3, 2, 0, 0) :: (25, 0, 1048575, 0, 54) :: (27, 11, 8, 0, 0) :: (28, 11, 9, 0, 0) :: (29, 42, 0, 0, 0) :: k61_30
def k61 : Nat → List mj_O := fun t => match t with
  | 0 => k61_0
  | 30 => k61_30
  | _ => []
-- 62: SockFair$Rules.figure (II)I
def k62_281 : List mj_O := (281, 3, 3, 0, 0) :: (282, 26, 0, 0, 0) :: []
def k62_275 : List mj_O := (275, 9, 5, 1, 0) :: (278, 23, 0, 8, 0) :: k62_281
def k62_274 : List mj_O := (274, 6, 3, 0, 0) :: k62_275
def k62_270 : List mj_O := (270, 3, 8, 0, 0) :: (272, 3, 3, 0, 0) :: (273, 11, 3, 0, 0) :: k62_274
def k62_262 : List mj_O := (262, 3, 3, 0, 0) :: (263, 21, 1, 270, 0) :: (266, 0, 0, 0, 0) :: (267, 23, 0, 274, 0) :: k62_270
def k62_254 : List mj_O := (254, 3, 8, 0, 0) :: (256, 3, 3, 0, 0) :: (257, 11, 2, 0, 0) :: (258, 6, 3, 0, 0) :: (259, 23, 0, 275, 0) :: k62_262
def k62_246 : List mj_O := (246, 3, 8, 0, 0) :: (248, 3, 3, 0, 0) :: (249, 11, 1, 0, 0) :: (250, 6, 3, 0, 0) :: (251, 23, 0, 275, 0) :: k62_254
def k62_238 : List mj_O := (238, 3, 8, 0, 0) :: (240, 3, 3, 0, 0) :: (241, 11, 0, 0, 0) :: (242, 6, 3, 0, 0) :: (243, 23, 0, 275, 0) :: k62_246
def k62_234 : List mj_O := (234, 6, 3, 0, 0) :: (235, 23, 0, 275, 0) :: k62_238
def k62_233 : List mj_O := (233, 0, 0, 0, 0) :: k62_234
def k62_223 : List mj_O := (223, 3, 8, 0, 0) :: (225, 3, 3, 0, 0) :: (226, 22, 1, 233, 0) :: (229, 0, 1, 0, 0) :: (230, 23, 0, 234, 0) :: k62_233
def k62_219 : List mj_O := (219, 6, 3, 0, 0) :: (220, 23, 0, 275, 0) :: k62_223
def k62_218 : List mj_O := (218, 0, 0, 0, 0) :: k62_219
def k62_208 : List mj_O := (208, 3, 8, 0, 0) :: (210, 3, 3, 0, 0) :: (211, 22, 3, 218, 0) :: (214, 0, 1, 0, 0) :: (215, 23, 0, 219, 0) :: k62_218
def k62_204 : List mj_O := (204, 6, 3, 0, 0) :: (205, 23, 0, 275, 0) :: k62_208
def k62_203 : List mj_O := (203, 0, 0, 0, 0) :: k62_204
def k62_190 : List mj_O := (190, 3, 8, 0, 0) :: (192, 21, 0, 203, 0) :: (195, 3, 3, 0, 0) :: (196, 21, 0, 203, 0) :: (199, 0, 1, 0, 0) :: (200, 23, 0, 204, 0) :: k62_203
def k62_186 : List mj_O := (186, 6, 3, 0, 0) :: (187, 23, 0, 275, 0) :: k62_190
def k62_185 : List mj_O := (185, 0, 0, 0, 0) :: k62_186
def k62_181 : List mj_O := (181, 0, 1, 0, 0) :: (182, 23, 0, 186, 0) :: k62_185
def k62_172 : List mj_O := (172, 3, 8, 0, 0) :: (174, 21, 1, 181, 0) :: (177, 3, 3, 0, 0) :: (178, 21, 0, 185, 0) :: k62_181
def k62_111 : List mj_O := (111, 10, 4, 1, 0) :: (114, 5, 0, 0, 0) :: (115, 33, 6, 8, 22) :: (118, 3, 4, 0, 0) :: (120, 0, 63, 0, 0) :: (122, 11, 8, 0, 0) :: (123, 38, 0, 0, 0) :: (124, 6, 8, 0, 0) :: (126, 3, 6, 0, 0) :: (128, 24, 1, 262, 0) :: k62_172
def k62_107 : List mj_O := (107, 6, 3, 0, 0) :: (108, 23, 0, 275, 0) :: k62_111
def k62_106 : List mj_O := (106, 0, 0, 0, 0) :: k62_107
def k62_92 : List mj_O := (92, 3, 6, 0, 0) :: (94, 0, 2, 0, 0) :: (95, 22, 1, 111, 0) :: (98, 3, 3, 0, 0) :: (99, 21, 1, 106, 0) :: (102, 0, 1, 0, 0) :: (103, 23, 0, 107, 0) :: k62_106
def k62_88 : List mj_O := (88, 6, 3, 0, 0) :: (89, 23, 0, 275, 0) :: k62_92
def k62_78 : List mj_O := (78, 5, 0, 0, 0) :: (79, 33, 6, 0, 9) :: (82, 3, 7, 0, 0) :: (84, 0, 31, 0, 0) :: (86, 11, 8, 0, 0) :: (87, 38, 0, 0, 0) :: k62_88
def k62_8 : List mj_O := (8, 3, 5, 0, 0) :: (10, 3, 2, 0, 0) :: (11, 22, 3, 281, 0) :: (14, 3, 5, 0, 0) :: (16, 5, 0, 0, 0) :: (17, 33, 6, 7, 19) :: (20, 46, 0, 0, 0) :: (21, 22, 3, 281, 0) :: (24, 5, 0, 0, 0) :: (25, 33, 6, 7, 19) :: (28, 3, 5, 0, 0) :: (30, 38, 0, 0, 0) :: (31, 0, 20, 0, 0) :: (33, 11, 6, 0, 0) :: (34, 6, 6, 0, 0) :: (36, 5, 0, 0, 0) :: (37, 33, 6, 7, 19) :: (40, 3, 5, 0, 0) :: (42, 38, 0, 0, 0) :: (43, 0, 1048575, 0, 54) :: (45, 11, 8, 0, 0) :: (46, 6, 7, 0, 0) :: (48, 3, 6, 0, 0) :: (50, 0, 1, 0, 0) :: (51, 22, 4, 92, 0) :: (54, 5, 0, 0, 0) :: (55, 33, 6, 8, 22) :: (58, 3, 4, 0, 0) :: (60, 0, 63, 0, 0) :: (62, 11, 8, 0, 0) :: (63, 3, 3, 0, 0) :: (64, 42, 0, 0, 0) :: (65, 9, 4, 1, 0) :: (68, 3, 6, 0, 0) :: (70, 21, 1, 78, 0) :: (73, 3, 7, 0, 0) :: (75, 23, 0, 88, 0) :: k62_78
def k62_0 : List mj_O := (0, 0, 0, 0, 0) :: (1, 6, 3, 0, 0) :: (2, 0, 0, 0, 0) :: (3, 6, 4, 0, 0) :: (5, 3, 1, 0, 0) :: (6, 6, 5, 0, 0) :: k62_8
def k62 : Nat → List mj_O := fun t => match t with
  | 0 => k62_0
  | 8 => k62_8
  | 78 => k62_78
  | 88 => k62_88
  | 92 => k62_92
  | 106 => k62_106
  | 107 => k62_107
  | 111 => k62_111
  | 172 => k62_172
  | 181 => k62_181
  | 185 => k62_185
  | 186 => k62_186
  | 190 => k62_190
  | 203 => k62_203
  | 204 => k62_204
  | 208 => k62_208
  | 218 => k62_218
  | 219 => k62_219
  | 223 => k62_223
  | 233 => k62_233
  | 234 => k62_234
  | 238 => k62_238
  | 246 => k62_246
  | 254 => k62_254
  | 262 => k62_262
  | 270 => k62_270
  | 274 => k62_274
  | 275 => k62_275
  | 281 => k62_281
  | _ => []
-- 63: SockFair$Socks.<init> ()V
def k63_0 : List mj_O := (0, 5, 0, 0, 0) :: (1, 51, 0, 0, 3) :: (4, 5, 0, 0, 0) :: (5, 0, 10, 0, 0) :: (7, 53, 1, 0, 0) :: (9, 37, 7, 1, 9) :: (12, 5, 0, 0, 0) :: (13, 0, 10, 0, 0) :: (15, 53, 1, 0, 0) :: (17, 37, 7, 2, 15) :: (20, 5, 0, 0, 0) :: (21, 0, 10, 0, 0) :: (23, 53, 1, 0, 0) :: (25, 37, 7, 3, 18) :: (28, 5, 0, 0, 0) :: (29, 47, 64, 0, 21) :: (32, 25, 0, 0, 0) :: []
def k63 : Nat → List mj_O := fun t => match t with
  | 0 => k63_0
  | _ => []
-- 64: SockFair$Socks.clear ()V
def k64_40 : List mj_O := (40, 25, 0, 0, 0) :: []
def k64_7 : List mj_O := (7, 3, 1, 0, 0) :: (8, 0, 10, 0, 0) :: (10, 22, 3, 40, 0) :: (13, 5, 0, 0, 0) :: (14, 33, 7, 1, 9) :: (17, 3, 1, 0, 0) :: (18, 0, 0, 0, 0) :: (19, 42, 0, 0, 0) :: (20, 5, 0, 0, 0) :: (21, 33, 7, 2, 15) :: (24, 3, 1, 0, 0) :: (25, 0, 0, 0, 0) :: (26, 42, 0, 0, 0) :: (27, 5, 0, 0, 0) :: (28, 33, 7, 3, 18) :: (31, 3, 1, 0, 0) :: (32, 1, 1, 0, 0) :: (33, 42, 0, 0, 0) :: (34, 9, 1, 1, 0) :: (37, 23, 0, 7, 0) :: k64_40
def k64_0 : List mj_O := (0, 5, 0, 0, 0) :: (1, 0, 0, 0, 0) :: (2, 34, 7, 0, 24) :: (5, 0, 0, 0, 0) :: (6, 6, 1, 0, 0) :: k64_7
def k64 : Nat → List mj_O := fun t => match t with
  | 0 => k64_0
  | 7 => k64_7
  | 40 => k64_40
  | _ => []
-- 65: SockFair$Socks.copyFrom (LSockFair$Socks;)V
def k65_0 : List mj_O := (0, 5, 0, 0, 0) :: (1, 5, 1, 0, 0) :: (2, 31, 7, 0, 24) :: (5, 34, 7, 0, 24) :: (8, 5, 1, 0, 0) :: (9, 33, 7, 1, 9) :: (12, 0, 0, 0, 0) :: (13, 5, 0, 0, 0) :: (14, 33, 7, 1, 9) :: (17, 0, 0, 0, 0) :: (18, 0, 10, 0, 0) :: (20, 54, 0, 0, 28) :: (23, 5, 1, 0, 0) :: (24, 33, 7, 2, 15) :: (27, 0, 0, 0, 0) :: (28, 5, 0, 0, 0) :: (29, 33, 7, 2, 15) :: (32, 0, 0, 0, 0) :: (33, 0, 10, 0, 0) :: (35, 54, 0, 0, 28) :: (38, 5, 1, 0, 0) :: (39, 33, 7, 3, 18) :: (42, 0, 0, 0, 0) :: (43, 5, 0, 0, 0) :: (44, 33, 7, 3, 18) :: (47, 0, 0, 0, 0) :: (48, 0, 10, 0, 0) :: (50, 54, 0, 0, 28) :: (53, 25, 0, 0, 0) :: []
def k65 : Nat → List mj_O := fun t => match t with
  | 0 => k65_0
  | _ => []
-- 66: SockFair$Socks.writeTo ([II)V
def k66_55 : List mj_O := (55, 25, 0, 0, 0) :: []
def k66_9 : List mj_O := (9, 3, 3, 0, 0) :: (10, 0, 10, 0, 0) :: (12, 22, 3, 55, 0) :: (15, 5, 1, 0, 0) :: (16, 3, 2, 0, 0) :: (17, 0, 1, 0, 0) :: (18, 11, 0, 0, 0) :: (19, 3, 3, 0, 0) :: (20, 11, 0, 0, 0) :: (21, 5, 0, 0, 0) :: (22, 33, 7, 1, 9) :: (25, 3, 3, 0, 0) :: (26, 38, 0, 0, 0) :: (27, 5, 0, 0, 0) :: (28, 33, 7, 2, 15) :: (31, 3, 3, 0, 0) :: (32, 38, 0, 0, 0) :: (33, 0, 4, 0, 0) :: (34, 11, 5, 0, 0) :: (35, 11, 9, 0, 0) :: (36, 5, 0, 0, 0) :: (37, 33, 7, 3, 18) :: (40, 3, 3, 0, 0) :: (41, 38, 0, 0, 0) :: (42, 0, 1, 0, 0) :: (43, 11, 0, 0, 0) :: (44, 0, 8, 0, 0) :: (46, 11, 5, 0, 0) :: (47, 11, 9, 0, 0) :: (48, 42, 0, 0, 0) :: (49, 9, 3, 1, 0) :: (52, 23, 0, 9, 0) :: k66_55
def k66_0 : List mj_O := (0, 5, 1, 0, 0) :: (1, 3, 2, 0, 0) :: (2, 5, 0, 0, 0) :: (3, 31, 7, 0, 24) :: (6, 42, 0, 0, 0) :: (7, 0, 0, 0, 0) :: (8, 6, 3, 0, 0) :: k66_9
def k66 : Nat → List mj_O := fun t => match t with
  | 0 => k66_0
  | 9 => k66_9
  | 55 => k66_55
  | _ => []
-- 67: SockFair$Socks.readFrom ([II)V
def k67_67 : List mj_O := (67, 25, 0, 0, 0) :: []
def k67_9 : List mj_O := (9, 3, 3, 0, 0) :: (10, 0, 10, 0, 0) :: (12, 22, 3, 67, 0) :: (15, 5, 1, 0, 0) :: (16, 3, 2, 0, 0) :: (17, 0, 1, 0, 0) :: (18, 11, 0, 0, 0) :: (19, 3, 3, 0, 0) :: (20, 11, 0, 0, 0) :: (21, 38, 0, 0, 0) :: (22, 6, 4, 0, 0) :: (24, 5, 0, 0, 0) :: (25, 33, 7, 1, 9) :: (28, 3, 3, 0, 0) :: (29, 3, 4, 0, 0) :: (31, 0, 15, 0, 0) :: (33, 11, 8, 0, 0) :: (34, 42, 0, 0, 0) :: (35, 5, 0, 0, 0) :: (36, 33, 7, 2, 15) :: (39, 3, 3, 0, 0) :: (40, 3, 4, 0, 0) :: (42, 0, 4, 0, 0) :: (43, 11, 6, 0, 0) :: (44, 0, 15, 0, 0) :: (46, 11, 8, 0, 0) :: (47, 42, 0, 0, 0) :: (48, 5, 0, 0, 0) :: (49, 33, 7, 3, 18) :: (52, 3, 3, 0, 0) :: (53, 3, 4, 0, 0) :: (55, 0, 8, 0, 0) :: (57, 11, 6, 0, 0) :: (58, 0, 1, 0, 0) :: (59, 11, 1, 0, 0) :: (60, 42, 0, 0, 0) :: (61, 9, 3, 1, 0) :: (64, 23, 0, 9, 0) :: k67_67
def k67_0 : List mj_O := (0, 5, 0, 0, 0) :: (1, 5, 1, 0, 0) :: (2, 3, 2, 0, 0) :: (3, 38, 0, 0, 0) :: (4, 34, 7, 0, 24) :: (7, 0, 0, 0, 0) :: (8, 6, 3, 0, 0) :: k67_9
def k67 : Nat → List mj_O := fun t => match t with
  | 0 => k67_0
  | 9 => k67_9
  | 67 => k67_67
  | _ => []
-- 68: SockFair$Socks.allHoles ()I
def k68_25 : List mj_O := (25, 3, 1, 0, 0) :: (26, 26, 0, 0, 0) :: []
def k68_4 : List mj_O := (4, 3, 2, 0, 0) :: (5, 0, 10, 0, 0) :: (7, 22, 3, 25, 0) :: (10, 3, 1, 0, 0) :: (11, 5, 0, 0, 0) :: (12, 33, 7, 2, 15) :: (15, 3, 2, 0, 0) :: (16, 38, 0, 0, 0) :: (17, 11, 0, 0, 0) :: (18, 6, 1, 0, 0) :: (19, 9, 2, 1, 0) :: (22, 23, 0, 4, 0) :: k68_25
def k68_0 : List mj_O := (0, 0, 0, 0, 0) :: (1, 6, 1, 0, 0) :: (2, 0, 0, 0, 0) :: (3, 6, 2, 0, 0) :: k68_4
def k68 : Nat → List mj_O := fun t => match t with
  | 0 => k68_0
  | 4 => k68_4
  | 25 => k68_25
  | _ => []
-- 69: SockFair$Ties.<init> (LSockFair$Outlook;)V
def k69_0 : List mj_O := (0, 5, 0, 0, 0) :: (1, 51, 0, 0, 3) :: (4, 5, 0, 0, 0) :: (5, 5, 1, 0, 0) :: (6, 37, 8, 3, 9) :: (9, 5, 0, 0, 0) :: (10, 5, 1, 0, 0) :: (11, 33, 4, 0, 15) :: (14, 37, 8, 0, 21) :: (17, 5, 0, 0, 0) :: (18, 5, 1, 0, 0) :: (19, 33, 4, 1, 22) :: (22, 37, 8, 2, 26) :: (25, 5, 0, 0, 0) :: (26, 0, 0, 0, 0) :: (27, 35, 8, 1, 27) :: (30, 5, 0, 0, 0) :: (31, 0, 10, 0, 0) :: (33, 53, 1, 0, 0) :: (35, 37, 8, 4, 31) :: (38, 5, 0, 0, 0) :: (39, 0, 100, 0, 0) :: (41, 53, 1, 0, 0) :: (43, 37, 8, 5, 35) :: (46, 5, 0, 0, 0) :: (47, 0, 10, 0, 0) :: (49, 53, 1, 0, 0) :: (51, 37, 8, 6, 38) :: (54, 25, 0, 0, 0) :: []
def k69 : Nat → List mj_O := fun t => match t with
  | 0 => k69_0
  | _ => []
-- 70: SockFair$Ties.know ()V
def k70_131 : List mj_O := (131, 5, 0, 0, 0) :: (132, 0, 1, 0, 0) :: (133, 35, 8, 1, 27) :: (136, 25, 0, 0, 0) :: []
def k70_125 : List mj_O := (125, 9, 1, 1, 0) :: (128, 23, 0, 18, 0) :: k70_131
def k70_119 : List mj_O := (119, 9, 2, 1, 0) :: (122, 23, 0, 38, 0) :: k70_125
def k70_91 : List mj_O := (91, 11, 9, 0, 0) :: (92, 42, 0, 0, 0) :: (93, 5, 0, 0, 0) :: (94, 33, 8, 5, 35) :: (97, 3, 3, 0, 0) :: (98, 5, 0, 0, 0) :: (99, 33, 8, 0, 21) :: (102, 3, 1, 0, 0) :: (103, 3, 2, 0, 0) :: (104, 3, 4, 0, 0) :: (106, 5, 0, 0, 0) :: (107, 33, 8, 2, 26) :: (110, 33, 7, 2, 54) :: (113, 3, 2, 0, 0) :: (114, 38, 0, 0, 0) :: (115, 47, 88, 0, 59) :: (118, 42, 0, 0, 0) :: k70_119
def k70_90 : List mj_O := (90, 0, 0, 0, 0) :: k70_91
def k70_38 : List mj_O := (38, 3, 2, 0, 0) :: (39, 5, 0, 0, 0) :: (40, 33, 8, 0, 21) :: (43, 31, 9, 0, 45) :: (46, 22, 3, 125, 0) :: (49, 3, 2, 0, 0) :: (50, 3, 1, 0, 0) :: (51, 22, 0, 119, 0) :: (54, 3, 1, 0, 0) :: (55, 0, 10, 0, 0) :: (57, 11, 2, 0, 0) :: (58, 3, 2, 0, 0) :: (59, 11, 0, 0, 0) :: (60, 6, 3, 0, 0) :: (61, 5, 0, 0, 0) :: (62, 33, 8, 3, 9) :: (65, 33, 4, 2, 51) :: (68, 3, 3, 0, 0) :: (69, 38, 0, 0, 0) :: (70, 6, 4, 0, 0) :: (72, 5, 0, 0, 0) :: (73, 33, 8, 4, 31) :: (76, 3, 1, 0, 0) :: (77, 20, 0, 0, 0) :: (78, 38, 0, 0, 0) :: (79, 3, 4, 0, 0) :: (81, 21, 5, 90, 0) :: (84, 0, 1, 0, 0) :: (85, 3, 2, 0, 0) :: (86, 11, 5, 0, 0) :: (87, 23, 0, 91, 0) :: k70_90
def k70_18 : List mj_O := (18, 3, 1, 0, 0) :: (19, 5, 0, 0, 0) :: (20, 33, 8, 0, 21) :: (23, 31, 9, 0, 45) :: (26, 22, 3, 131, 0) :: (29, 5, 0, 0, 0) :: (30, 33, 8, 4, 31) :: (33, 3, 1, 0, 0) :: (34, 0, 0, 0, 0) :: (35, 42, 0, 0, 0) :: (36, 0, 0, 0, 0) :: (37, 6, 2, 0, 0) :: k70_38
def k70_8 : List mj_O := (8, 5, 0, 0, 0) :: (9, 33, 8, 3, 9) :: (12, 0, 1, 0, 0) :: (13, 47, 32, 0, 41) :: (16, 0, 0, 0, 0) :: (17, 6, 1, 0, 0) :: k70_18
def k70_0 : List mj_O := (0, 5, 0, 0, 0) :: (1, 31, 8, 1, 27) :: (4, 21, 0, 8, 0) :: (7, 25, 0, 0, 0) :: k70_8
def k70 : Nat → List mj_O := fun t => match t with
  | 0 => k70_0
  | 8 => k70_8
  | 18 => k70_18
  | 38 => k70_38
  | 90 => k70_90
  | 91 => k70_91
  | 119 => k70_119
  | 125 => k70_125
  | 131 => k70_131
  | _ => []
-- 71: SockFair$Ties.whoMay (I)I
def k71_0 : List mj_O := (0, 5, 0, 0, 0) :: (1, 33, 8, 4, 31) :: (4, 3, 1, 0, 0) :: (5, 38, 0, 0, 0) :: (6, 26, 0, 0, 0) :: []
def k71 : Nat → List mj_O := fun t => match t with
  | 0 => k71_0
  | _ => []
-- 72: SockFair$Ties.ratherThan (II)I
def k72_83 : List mj_O := (83, 3, 3, 0, 0) :: (84, 26, 0, 0, 0) :: []
def k72_77 : List mj_O := (77, 9, 5, 1, 0) :: (80, 23, 0, 22, 0) :: k72_83
def k72_22 : List mj_O := (22, 3, 5, 0, 0) :: (24, 5, 0, 0, 0) :: (25, 33, 8, 0, 21) :: (28, 31, 9, 0, 45) :: (31, 22, 3, 83, 0) :: (34, 5, 0, 0, 0) :: (35, 33, 8, 4, 31) :: (38, 3, 1, 0, 0) :: (39, 38, 0, 0, 0) :: (40, 3, 5, 0, 0) :: (42, 11, 6, 0, 0) :: (43, 0, 1, 0, 0) :: (44, 11, 8, 0, 0) :: (45, 21, 0, 77, 0) :: (48, 5, 0, 0, 0) :: (49, 33, 8, 5, 35) :: (52, 3, 4, 0, 0) :: (54, 3, 5, 0, 0) :: (56, 11, 0, 0, 0) :: (57, 38, 0, 0, 0) :: (58, 5, 0, 0, 0) :: (59, 33, 8, 5, 35) :: (62, 3, 4, 0, 0) :: (64, 3, 2, 0, 0) :: (65, 11, 0, 0, 0) :: (66, 38, 0, 0, 0) :: (67, 22, 5, 77, 0) :: (70, 3, 3, 0, 0) :: (71, 0, 1, 0, 0) :: (72, 3, 5, 0, 0) :: (74, 11, 5, 0, 0) :: (75, 11, 9, 0, 0) :: (76, 6, 3, 0, 0) :: k72_77
def k72_11 : List mj_O := (11, 0, 0, 0, 0) :: (12, 6, 3, 0, 0) :: (13, 3, 1, 0, 0) :: (14, 0, 10, 0, 0) :: (16, 11, 2, 0, 0) :: (17, 6, 4, 0, 0) :: (19, 0, 0, 0, 0) :: (20, 6, 5, 0, 0) :: k72_22
def k72_0 : List mj_O := (0, 3, 2, 0, 0) :: (1, 21, 3, 11, 0) :: (4, 5, 0, 0, 0) :: (5, 33, 8, 4, 31) :: (8, 3, 1, 0, 0) :: (9, 38, 0, 0, 0) :: (10, 26, 0, 0, 0) :: k72_11
def k72 : Nat → List mj_O := fun t => match t with
  | 0 => k72_0
  | 11 => k72_11
  | 22 => k72_22
  | 77 => k72_77
  | 83 => k72_83
  | _ => []
-- 73: SockFair$Ties.ratherNow (I)I
def k73_0 : List mj_O := (0, 5, 0, 0, 0) :: (1, 3, 1, 0, 0) :: (2, 5, 0, 0, 0) :: (3, 33, 8, 2, 26) :: (6, 33, 7, 3, 63) :: (9, 3, 1, 0, 0) :: (10, 38, 0, 0, 0) :: (11, 47, 72, 0, 66) :: (14, 26, 0, 0, 0) :: []
def k73 : Nat → List mj_O := fun t => match t with
  | 0 => k73_0
  | _ => []
-- 74: SockFair$Ties.couplesThatMay ()I
def k74_32 : List mj_O := (32, 3, 1, 0, 0) :: (33, 0, 2, 0, 0) :: (34, 11, 3, 0, 0) :: (35, 26, 0, 0, 0) :: []
def k74_4 : List mj_O := (4, 3, 2, 0, 0) :: (5, 5, 0, 0, 0) :: (6, 33, 8, 0, 21) :: (9, 31, 9, 0, 45) :: (12, 22, 3, 32, 0) :: (15, 3, 1, 0, 0) :: (16, 5, 0, 0, 0) :: (17, 3, 2, 0, 0) :: (18, 47, 71, 0, 70) :: (21, 48, 282, 0, 74) :: (24, 11, 0, 0, 0) :: (25, 6, 1, 0, 0) :: (26, 9, 2, 1, 0) :: (29, 23, 0, 4, 0) :: k74_32
def k74_0 : List mj_O := (0, 0, 0, 0, 0) :: (1, 6, 1, 0, 0) :: (2, 0, 0, 0, 0) :: (3, 6, 2, 0, 0) :: k74_4
def k74 : Nat → List mj_O := fun t => match t with
  | 0 => k74_0
  | 4 => k74_4
  | 32 => k74_32
  | _ => []
-- 75: SockFair$Ties.whoMayNobody ()I
def k75_35 : List mj_O := (35, 3, 1, 0, 0) :: (36, 26, 0, 0, 0) :: []
def k75_29 : List mj_O := (29, 9, 2, 1, 0) :: (32, 23, 0, 4, 0) :: k75_35
def k75_4 : List mj_O := (4, 3, 2, 0, 0) :: (5, 5, 0, 0, 0) :: (6, 33, 8, 0, 21) :: (9, 31, 9, 0, 45) :: (12, 22, 3, 35, 0) :: (15, 5, 0, 0, 0) :: (16, 3, 2, 0, 0) :: (17, 47, 71, 0, 70) :: (20, 21, 1, 29, 0) :: (23, 3, 1, 0, 0) :: (24, 0, 1, 0, 0) :: (25, 3, 2, 0, 0) :: (26, 11, 5, 0, 0) :: (27, 11, 9, 0, 0) :: (28, 6, 1, 0, 0) :: k75_29
def k75_0 : List mj_O := (0, 0, 0, 0, 0) :: (1, 6, 1, 0, 0) :: (2, 0, 0, 0, 0) :: (3, 6, 2, 0, 0) :: k75_4
def k75 : Nat → List mj_O := fun t => match t with
  | 0 => k75_0
  | 4 => k75_4
  | 29 => k75_29
  | 35 => k75_35
  | _ => []
-- 76: SockFair$Ties.closestCouple ()I
def k76_85 : List mj_O := (85, 3, 1, 0, 0) :: (86, 26, 0, 0, 0) :: []
def k76_79 : List mj_O := (79, 9, 3, 1, 0) :: (82, 23, 0, 6, 0) :: k76_85
def k76_73 : List mj_O := (73, 9, 4, 1, 0) :: (76, 23, 0, 22, 0) :: k76_79
def k76_62 : List mj_O := (62, 0, 10, 0, 0) :: (64, 3, 3, 0, 0) :: (65, 11, 2, 0, 0) :: (66, 3, 4, 0, 0) :: (68, 11, 0, 0, 0) :: (69, 6, 1, 0, 0) :: (70, 3, 5, 0, 0) :: (72, 6, 2, 0, 0) :: k76_73
def k76_22 : List mj_O := (22, 3, 4, 0, 0) :: (24, 5, 0, 0, 0) :: (25, 33, 8, 0, 21) :: (28, 31, 9, 0, 45) :: (31, 22, 3, 79, 0) :: (34, 5, 0, 0, 0) :: (35, 33, 8, 3, 9) :: (38, 33, 4, 2, 51) :: (41, 3, 3, 0, 0) :: (42, 0, 10, 0, 0) :: (44, 11, 2, 0, 0) :: (45, 3, 4, 0, 0) :: (47, 11, 0, 0, 0) :: (48, 38, 0, 0, 0) :: (49, 6, 5, 0, 0) :: (51, 3, 1, 0, 0) :: (52, 1, 1, 0, 0) :: (53, 22, 0, 62, 0) :: (56, 3, 5, 0, 0) :: (58, 3, 2, 0, 0) :: (59, 22, 5, 73, 0) :: k76_62
def k76_6 : List mj_O := (6, 3, 3, 0, 0) :: (7, 5, 0, 0, 0) :: (8, 33, 8, 0, 21) :: (11, 31, 9, 0, 45) :: (14, 22, 3, 85, 0) :: (17, 3, 3, 0, 0) :: (18, 0, 1, 0, 0) :: (19, 11, 0, 0, 0) :: (20, 6, 4, 0, 0) :: k76_22
def k76_0 : List mj_O := (0, 1, 1, 0, 0) :: (1, 6, 1, 0, 0) :: (2, 0, 0, 0, 0) :: (3, 6, 2, 0, 0) :: (4, 0, 0, 0, 0) :: (5, 6, 3, 0, 0) :: k76_6
def k76 : Nat → List mj_O := fun t => match t with
  | 0 => k76_0
  | 6 => k76_6
  | 22 => k76_22
  | 62 => k76_62
  | 73 => k76_73
  | 79 => k76_79
  | 85 => k76_85
  | _ => []
-- 77: SockFair$Ties.faithfulCouples ()I
def k77_55 : List mj_O := (55, 3, 1, 0, 0) :: (56, 26, 0, 0, 0) :: []
def k77_49 : List mj_O := (49, 9, 2, 1, 0) :: (52, 23, 0, 4, 0) :: k77_55
def k77_4 : List mj_O := (4, 3, 2, 0, 0) :: (5, 5, 0, 0, 0) :: (6, 33, 8, 0, 21) :: (9, 31, 9, 0, 45) :: (12, 22, 3, 55, 0) :: (15, 5, 0, 0, 0) :: (16, 33, 8, 2, 26) :: (19, 33, 7, 3, 63) :: (22, 3, 2, 0, 0) :: (23, 38, 0, 0, 0) :: (24, 6, 3, 0, 0) :: (25, 3, 3, 0, 0) :: (26, 3, 2, 0, 0) :: (27, 22, 5, 49, 0) :: (30, 5, 0, 0, 0) :: (31, 3, 2, 0, 0) :: (32, 47, 78, 0, 79) :: (35, 21, 1, 49, 0) :: (38, 5, 0, 0, 0) :: (39, 3, 3, 0, 0) :: (40, 47, 78, 0, 79) :: (43, 21, 1, 49, 0) :: (46, 9, 1, 1, 0) :: k77_49
def k77_0 : List mj_O := (0, 0, 0, 0, 0) :: (1, 6, 1, 0, 0) :: (2, 0, 0, 0, 0) :: (3, 6, 2, 0, 0) :: k77_4
def k77 : Nat → List mj_O := fun t => match t with
  | 0 => k77_0
  | 4 => k77_4
  | 49 => k77_49
  | 55 => k77_55
  | _ => []
-- 78: SockFair$Ties.isTempted (I)Z
def k78_47 : List mj_O := (47, 0, 0, 0, 0) :: (48, 27, 0, 0, 0) :: []
def k78_41 : List mj_O := (41, 9, 3, 1, 0) :: (44, 23, 0, 8, 0) :: k78_47
def k78_8 : List mj_O := (8, 3, 3, 0, 0) :: (9, 5, 0, 0, 0) :: (10, 33, 8, 0, 21) :: (13, 31, 9, 0, 45) :: (16, 22, 3, 47, 0) :: (19, 3, 2, 0, 0) :: (20, 3, 3, 0, 0) :: (21, 11, 6, 0, 0) :: (22, 0, 1, 0, 0) :: (23, 11, 8, 0, 0) :: (24, 21, 0, 41, 0) :: (27, 5, 0, 0, 0) :: (28, 3, 3, 0, 0) :: (29, 47, 73, 0, 83) :: (32, 3, 1, 0, 0) :: (33, 11, 6, 0, 0) :: (34, 0, 1, 0, 0) :: (35, 11, 8, 0, 0) :: (36, 21, 0, 41, 0) :: (39, 0, 1, 0, 0) :: (40, 27, 0, 0, 0) :: k78_41
def k78_0 : List mj_O := (0, 5, 0, 0, 0) :: (1, 3, 1, 0, 0) :: (2, 47, 73, 0, 83) :: (5, 6, 2, 0, 0) :: (6, 0, 0, 0, 0) :: (7, 6, 3, 0, 0) :: k78_8
def k78 : Nat → List mj_O := fun t => match t with
  | 0 => k78_0
  | 8 => k78_8
  | 41 => k78_41
  | 47 => k78_47
  | _ => []
-- 79: SockFair$Ties.leastRing ()I
def k79_74 : List mj_O := (74, 3, 1, 0, 0) :: (75, 26, 0, 0, 0) :: []
def k79_68 : List mj_O := (68, 9, 2, 1, 0) :: (71, 23, 0, 34, 0) :: k79_74
def k79_66 : List mj_O := (66, 3, 3, 0, 0) :: (67, 6, 1, 0, 0) :: k79_68
def k79_34 : List mj_O := (34, 3, 2, 0, 0) :: (35, 5, 0, 0, 0) :: (36, 33, 8, 0, 21) :: (39, 31, 9, 0, 45) :: (42, 22, 3, 74, 0) :: (45, 5, 0, 0, 0) :: (46, 3, 2, 0, 0) :: (47, 47, 80, 0, 86) :: (50, 6, 3, 0, 0) :: (51, 3, 3, 0, 0) :: (52, 1, 1, 0, 0) :: (53, 22, 0, 68, 0) :: (56, 3, 1, 0, 0) :: (57, 1, 1, 0, 0) :: (58, 22, 0, 66, 0) :: (61, 3, 3, 0, 0) :: (62, 3, 1, 0, 0) :: (63, 22, 3, 68, 0) :: k79_66
def k79_30 : List mj_O := (30, 1, 1, 0, 0) :: (31, 6, 1, 0, 0) :: (32, 0, 0, 0, 0) :: (33, 6, 2, 0, 0) :: k79_34
def k79_2 : List mj_O := (2, 3, 1, 0, 0) :: (3, 5, 0, 0, 0) :: (4, 33, 8, 0, 21) :: (7, 31, 9, 0, 45) :: (10, 22, 3, 30, 0) :: (13, 5, 0, 0, 0) :: (14, 33, 8, 6, 38) :: (17, 3, 1, 0, 0) :: (18, 5, 0, 0, 0) :: (19, 3, 1, 0, 0) :: (20, 47, 73, 0, 83) :: (23, 42, 0, 0, 0) :: (24, 9, 1, 1, 0) :: (27, 23, 0, 2, 0) :: k79_30
def k79_0 : List mj_O := (0, 0, 0, 0, 0) :: (1, 6, 1, 0, 0) :: k79_2
def k79 : Nat → List mj_O := fun t => match t with
  | 0 => k79_0
  | 2 => k79_2
  | 30 => k79_30
  | 34 => k79_34
  | 66 => k79_66
  | 68 => k79_68
  | 74 => k79_74
  | _ => []
-- 80: SockFair$Ties.ringThrough (I)I
def k80_61 : List mj_O := (61, 1, 1, 0, 0) :: (62, 26, 0, 0, 0) :: []
def k80_45 : List mj_O := (45, 3, 3, 0, 0) :: (46, 3, 2, 0, 0) :: (47, 1, 1, 0, 0) :: (48, 11, 10, 0, 0) :: (49, 11, 8, 0, 0) :: (50, 6, 3, 0, 0) :: (51, 3, 2, 0, 0) :: (52, 3, 3, 0, 0) :: (53, 11, 9, 0, 0) :: (54, 6, 2, 0, 0) :: (55, 9, 4, 1, 0) :: (58, 23, 0, 12, 0) :: k80_61
def k80_12 : List mj_O := (12, 3, 4, 0, 0) :: (14, 5, 0, 0, 0) :: (15, 33, 8, 0, 21) :: (18, 31, 9, 0, 45) :: (21, 22, 4, 61, 0) :: (24, 5, 0, 0, 0) :: (25, 5, 0, 0, 0) :: (26, 33, 8, 6, 38) :: (29, 3, 3, 0, 0) :: (30, 47, 84, 0, 89) :: (33, 6, 3, 0, 0) :: (34, 3, 3, 0, 0) :: (35, 3, 1, 0, 0) :: (36, 11, 6, 0, 0) :: (37, 0, 1, 0, 0) :: (38, 11, 8, 0, 0) :: (39, 21, 0, 45, 0) :: (42, 3, 4, 0, 0) :: (44, 26, 0, 0, 0) :: k80_45
def k80_0 : List mj_O := (0, 5, 0, 0, 0) :: (1, 33, 8, 6, 38) :: (4, 3, 1, 0, 0) :: (5, 38, 0, 0, 0) :: (6, 6, 2, 0, 0) :: (7, 3, 2, 0, 0) :: (8, 6, 3, 0, 0) :: (9, 0, 2, 0, 0) :: (10, 6, 4, 0, 0) :: k80_12
def k80 : Nat → List mj_O := fun t => match t with
  | 0 => k80_0
  | 12 => k80_12
  | 45 => k80_45
  | 61 => k80_61
  | _ => []
-- 81: SockFair$Ties.stepsBetween (II)I
def k81_61 : List mj_O := (61, 1, 1, 0, 0) :: (62, 26, 0, 0, 0) :: []
def k81_34 : List mj_O := (34, 5, 0, 0, 0) :: (35, 5, 0, 0, 0) :: (36, 33, 8, 4, 31) :: (39, 3, 4, 0, 0) :: (41, 47, 84, 0, 89) :: (44, 3, 3, 0, 0) :: (45, 1, 1, 0, 0) :: (46, 11, 10, 0, 0) :: (47, 11, 8, 0, 0) :: (48, 6, 4, 0, 0) :: (50, 3, 3, 0, 0) :: (51, 3, 4, 0, 0) :: (53, 11, 9, 0, 0) :: (54, 6, 3, 0, 0) :: (55, 9, 5, 1, 0) :: (58, 23, 0, 10, 0) :: k81_61
def k81_10 : List mj_O := (10, 3, 5, 0, 0) :: (12, 5, 0, 0, 0) :: (13, 33, 8, 0, 21) :: (16, 31, 9, 0, 45) :: (19, 22, 3, 61, 0) :: (22, 3, 4, 0, 0) :: (24, 3, 2, 0, 0) :: (25, 11, 6, 0, 0) :: (26, 0, 1, 0, 0) :: (27, 11, 8, 0, 0) :: (28, 21, 0, 34, 0) :: (31, 3, 5, 0, 0) :: (33, 26, 0, 0, 0) :: k81_34
def k81_0 : List mj_O := (0, 0, 1, 0, 0) :: (1, 3, 1, 0, 0) :: (2, 11, 5, 0, 0) :: (3, 6, 3, 0, 0) :: (4, 3, 3, 0, 0) :: (5, 6, 4, 0, 0) :: (7, 0, 0, 0, 0) :: (8, 6, 5, 0, 0) :: k81_10
def k81 : Nat → List mj_O := fun t => match t with
  | 0 => k81_0
  | 10 => k81_10
  | 34 => k81_34
  | 61 => k81_61
  | _ => []
-- 82: SockFair$Ties.parts ()I
def k82_42 : List mj_O := (42, 3, 1, 0, 0) :: (43, 26, 0, 0, 0) :: []
def k82_36 : List mj_O := (36, 9, 3, 1, 0) :: (39, 23, 0, 6, 0) :: k82_42
def k82_6 : List mj_O := (6, 3, 3, 0, 0) :: (7, 5, 0, 0, 0) :: (8, 33, 8, 0, 21) :: (11, 31, 9, 0, 45) :: (14, 22, 3, 42, 0) :: (17, 3, 2, 0, 0) :: (18, 3, 3, 0, 0) :: (19, 11, 6, 0, 0) :: (20, 0, 1, 0, 0) :: (21, 11, 8, 0, 0) :: (22, 21, 1, 36, 0) :: (25, 9, 1, 1, 0) :: (28, 3, 2, 0, 0) :: (29, 5, 0, 0, 0) :: (30, 3, 3, 0, 0) :: (31, 47, 83, 0, 93) :: (34, 11, 9, 0, 0) :: (35, 6, 2, 0, 0) :: k82_36
def k82_0 : List mj_O := (0, 0, 0, 0, 0) :: (1, 6, 1, 0, 0) :: (2, 0, 0, 0, 0) :: (3, 6, 2, 0, 0) :: (4, 0, 0, 0, 0) :: (5, 6, 3, 0, 0) :: k82_6
def k82 : Nat → List mj_O := fun t => match t with
  | 0 => k82_0
  | 6 => k82_6
  | 36 => k82_36
  | 42 => k82_42
  | _ => []
-- 83: SockFair$Ties.partOf (I)I
def k83_35 : List mj_O := (35, 3, 2, 0, 0) :: (36, 26, 0, 0, 0) :: []
def k83_6 : List mj_O := (6, 3, 3, 0, 0) :: (7, 5, 0, 0, 0) :: (8, 33, 8, 0, 21) :: (11, 31, 9, 0, 45) :: (14, 22, 3, 35, 0) :: (17, 3, 2, 0, 0) :: (18, 5, 0, 0, 0) :: (19, 5, 0, 0, 0) :: (20, 33, 8, 4, 31) :: (23, 3, 2, 0, 0) :: (24, 47, 84, 0, 89) :: (27, 11, 9, 0, 0) :: (28, 6, 2, 0, 0) :: (29, 9, 3, 1, 0) :: (32, 23, 0, 6, 0) :: k83_35
def k83_0 : List mj_O := (0, 0, 1, 0, 0) :: (1, 3, 1, 0, 0) :: (2, 11, 5, 0, 0) :: (3, 6, 2, 0, 0) :: (4, 0, 1, 0, 0) :: (5, 6, 3, 0, 0) :: k83_6
def k83 : Nat → List mj_O := fun t => match t with
  | 0 => k83_0
  | 6 => k83_6
  | 35 => k83_35
  | _ => []
-- 84: SockFair$Ties.allOf ([II)I
def k84_39 : List mj_O := (39, 3, 3, 0, 0) :: (40, 26, 0, 0, 0) :: []
def k84_33 : List mj_O := (33, 9, 4, 1, 0) :: (36, 23, 0, 5, 0) :: k84_39
def k84_5 : List mj_O := (5, 3, 4, 0, 0) :: (7, 5, 0, 0, 0) :: (8, 33, 8, 0, 21) :: (11, 31, 9, 0, 45) :: (14, 22, 3, 39, 0) :: (17, 3, 2, 0, 0) :: (18, 3, 4, 0, 0) :: (20, 11, 6, 0, 0) :: (21, 0, 1, 0, 0) :: (22, 11, 8, 0, 0) :: (23, 21, 0, 33, 0) :: (26, 3, 3, 0, 0) :: (27, 5, 1, 0, 0) :: (28, 3, 4, 0, 0) :: (30, 38, 0, 0, 0) :: (31, 11, 9, 0, 0) :: (32, 6, 3, 0, 0) :: k84_33
def k84_0 : List mj_O := (0, 0, 0, 0, 0) :: (1, 6, 3, 0, 0) :: (2, 0, 0, 0, 0) :: (3, 6, 4, 0, 0) :: k84_5
def k84 : Nat → List mj_O := fun t => match t with
  | 0 => k84_0
  | 5 => k84_5
  | 33 => k84_33
  | 39 => k84_39
  | _ => []
-- 85: SockFair$Told.<init> (I)V
def k85_0 : List mj_O := (0, 5, 0, 0, 0) :: (1, 51, 0, 0, 3) :: (4, 5, 0, 0, 0) :: (5, 0, 0, 0, 0) :: (6, 34, 9, 0, 9) :: (9, 5, 0, 0, 0) :: (10, 0, 11, 0, 0) :: (12, 53, 1, 0, 0) :: (14, 37, 9, 1, 15) :: (17, 5, 0, 0, 0) :: (18, 0, 11, 0, 0) :: (20, 53, 1, 0, 0) :: (22, 37, 9, 2, 19) :: (25, 5, 0, 0, 0) :: (26, 0, 11, 0, 0) :: (28, 53, 1, 0, 0) :: (30, 37, 9, 3, 22) :: (33, 5, 0, 0, 0) :: (34, 0, 11, 0, 0) :: (36, 53, 1, 0, 0) :: (38, 37, 9, 4, 25) :: (41, 5, 0, 0, 0) :: (42, 52, 7, 0, 28) :: (45, 18, 0, 0, 0) :: (46, 49, 63, 0, 30) :: (49, 37, 9, 5, 31) :: (52, 5, 0, 0, 0) :: (53, 52, 6, 0, 35) :: (56, 18, 0, 0, 0) :: (57, 3, 1, 0, 0) :: (58, 49, 54, 0, 37) :: (61, 37, 9, 6, 40) :: (64, 25, 0, 0, 0) :: []
def k85 : Nat → List mj_O := fun t => match t with
  | 0 => k85_0
  | _ => []
-- 86: SockFair$Told.clear ()V
def k86_0 : List mj_O := (0, 5, 0, 0, 0) :: (1, 0, 0, 0, 0) :: (2, 34, 9, 0, 9) :: (5, 5, 0, 0, 0) :: (6, 33, 9, 5, 31) :: (9, 47, 64, 0, 44) :: (12, 5, 0, 0, 0) :: (13, 33, 9, 6, 40) :: (16, 47, 55, 0, 47) :: (19, 25, 0, 0, 0) :: []
def k86 : Nat → List mj_O := fun t => match t with
  | 0 => k86_0
  | _ => []
-- 87: SockFair$Told.likeness (IIIIII)I
def k87_191 : List mj_O := (191, 11, 0, 0, 0) :: (192, 42, 0, 0, 0) :: (193, 5, 0, 0, 0) :: (194, 33, 9, 6, 40) :: (197, 5, 0, 0, 0) :: (198, 33, 9, 6, 40) :: (201, 31, 6, 2, 63) :: (204, 5, 0, 0, 0) :: (205, 33, 9, 6, 40) :: (208, 31, 6, 3, 66) :: (211, 47, 62, 0, 69) :: (214, 26, 0, 0, 0) :: []
def k87_190 : List mj_O := (190, 0, 0, 0, 0) :: k87_191
def k87_176 : List mj_O := (176, 5, 0, 0, 0) :: (177, 33, 9, 1, 15) :: (180, 3, 4, 0, 0) :: (182, 38, 0, 0, 0) :: (183, 21, 1, 190, 0) :: (186, 0, 1, 0, 0) :: (187, 23, 0, 191, 0) :: k87_190
def k87_175 : List mj_O := (175, 0, 0, 0, 0) :: k87_176
def k87_158 : List mj_O := (158, 42, 0, 0, 0) :: (159, 5, 11, 0, 0) :: (161, 0, 0, 0, 0) :: (162, 5, 0, 0, 0) :: (163, 33, 9, 1, 15) :: (166, 3, 1, 0, 0) :: (167, 38, 0, 0, 0) :: (168, 21, 1, 175, 0) :: (171, 0, 1, 0, 0) :: (172, 23, 0, 176, 0) :: k87_175
def k87_157 : List mj_O := (157, 0, 0, 0, 0) :: k87_158
def k87_87 : List mj_O := (87, 5, 0, 0, 0) :: (88, 33, 9, 6, 40) :: (91, 33, 6, 0, 58) :: (94, 8, 11, 0, 0) :: (96, 5, 11, 0, 0) :: (98, 0, 10, 0, 0) :: (100, 3, 7, 0, 0) :: (102, 42, 0, 0, 0) :: (103, 5, 11, 0, 0) :: (105, 0, 11, 0, 0) :: (107, 3, 8, 0, 0) :: (109, 42, 0, 0, 0) :: (110, 5, 11, 0, 0) :: (112, 0, 12, 0, 0) :: (114, 3, 9, 0, 0) :: (116, 42, 0, 0, 0) :: (117, 5, 11, 0, 0) :: (119, 0, 13, 0, 0) :: (121, 3, 3, 0, 0) :: (122, 3, 6, 0, 0) :: (124, 11, 0, 0, 0) :: (125, 42, 0, 0, 0) :: (126, 5, 11, 0, 0) :: (128, 0, 14, 0, 0) :: (130, 3, 10, 0, 0) :: (132, 42, 0, 0, 0) :: (133, 5, 11, 0, 0) :: (135, 0, 15, 0, 0) :: (137, 5, 0, 0, 0) :: (138, 33, 9, 2, 19) :: (141, 3, 1, 0, 0) :: (142, 38, 0, 0, 0) :: (143, 5, 0, 0, 0) :: (144, 33, 9, 2, 19) :: (147, 3, 4, 0, 0) :: (149, 38, 0, 0, 0) :: (150, 22, 1, 157, 0) :: (153, 0, 1, 0, 0) :: (154, 23, 0, 158, 0) :: k87_157
def k87_58 : List mj_O := (58, 6, 10, 0, 0) :: (60, 5, 0, 0, 0) :: (61, 33, 9, 6, 40) :: (64, 47, 56, 0, 54) :: (67, 21, 1, 87, 0) :: (70, 0, 10, 0, 0) :: (72, 3, 7, 0, 0) :: (74, 11, 1, 0, 0) :: (75, 3, 8, 0, 0) :: (77, 11, 1, 0, 0) :: (78, 3, 9, 0, 0) :: (80, 11, 1, 0, 0) :: (81, 0, 5, 0, 0) :: (82, 3, 10, 0, 0) :: (84, 11, 2, 0, 0) :: (85, 11, 0, 0, 0) :: (86, 26, 0, 0, 0) :: k87_87
def k87_57 : List mj_O := (57, 0, 0, 0, 0) :: k87_58
def k87_0 : List mj_O := (0, 3, 2, 0, 0) :: (1, 3, 5, 0, 0) :: (3, 11, 1, 0, 0) :: (4, 72, 0, 0, 48) :: (7, 6, 7, 0, 0) :: (9, 5, 0, 0, 0) :: (10, 33, 9, 3, 22) :: (13, 3, 1, 0, 0) :: (14, 38, 0, 0, 0) :: (15, 5, 0, 0, 0) :: (16, 33, 9, 3, 22) :: (19, 3, 4, 0, 0) :: (21, 38, 0, 0, 0) :: (22, 11, 1, 0, 0) :: (23, 72, 0, 0, 48) :: (26, 6, 8, 0, 0) :: (28, 3, 3, 0, 0) :: (29, 3, 6, 0, 0) :: (31, 11, 1, 0, 0) :: (32, 72, 0, 0, 48) :: (35, 6, 9, 0, 0) :: (37, 5, 0, 0, 0) :: (38, 33, 9, 1, 15) :: (41, 3, 1, 0, 0) :: (42, 38, 0, 0, 0) :: (43, 5, 0, 0, 0) :: (44, 33, 9, 1, 15) :: (47, 3, 4, 0, 0) :: (49, 38, 0, 0, 0) :: (50, 22, 1, 57, 0) :: (53, 0, 1, 0, 0) :: (54, 23, 0, 58, 0) :: k87_57
def k87 : Nat → List mj_O := fun t => match t with
  | 0 => k87_0
  | 57 => k87_57
  | 58 => k87_58
  | 87 => k87_87
  | 157 => k87_157
  | 158 => k87_158
  | 175 => k87_175
  | 176 => k87_176
  | 190 => k87_190
  | 191 => k87_191
  | _ => []
-- 88: SockFair$Told.fondness (IIII)I
def k88_19 : List mj_O := (19, 5, 0, 0, 0) :: (20, 33, 9, 6, 40) :: (23, 33, 6, 0, 58) :: (26, 8, 5, 0, 0) :: (28, 5, 5, 0, 0) :: (30, 0, 5, 0, 0) :: (31, 3, 3, 0, 0) :: (32, 42, 0, 0, 0) :: (33, 5, 5, 0, 0) :: (35, 0, 16, 0, 0) :: (37, 5, 0, 0, 0) :: (38, 33, 9, 4, 25) :: (41, 3, 2, 0, 0) :: (42, 38, 0, 0, 0) :: (43, 42, 0, 0, 0) :: (44, 5, 5, 0, 0) :: (46, 0, 17, 0, 0) :: (48, 5, 0, 0, 0) :: (49, 33, 9, 4, 25) :: (52, 3, 1, 0, 0) :: (53, 38, 0, 0, 0) :: (54, 42, 0, 0, 0) :: (55, 5, 5, 0, 0) :: (57, 0, 18, 0, 0) :: (59, 5, 0, 0, 0) :: (60, 33, 9, 3, 22) :: (63, 3, 2, 0, 0) :: (64, 38, 0, 0, 0) :: (65, 42, 0, 0, 0) :: (66, 5, 5, 0, 0) :: (68, 0, 12, 0, 0) :: (70, 3, 4, 0, 0) :: (72, 42, 0, 0, 0) :: (73, 5, 0, 0, 0) :: (74, 33, 9, 6, 40) :: (77, 5, 0, 0, 0) :: (78, 33, 9, 6, 40) :: (81, 31, 6, 4, 76) :: (84, 5, 0, 0, 0) :: (85, 33, 9, 6, 40) :: (88, 31, 6, 5, 79) :: (91, 47, 62, 0, 69) :: (94, 26, 0, 0, 0) :: []
def k88_0 : List mj_O := (0, 5, 0, 0, 0) :: (1, 33, 9, 6, 40) :: (4, 47, 57, 0, 73) :: (7, 21, 1, 19, 0) :: (10, 3, 3, 0, 0) :: (11, 5, 0, 0, 0) :: (12, 33, 9, 4, 25) :: (15, 3, 2, 0, 0) :: (16, 38, 0, 0, 0) :: (17, 11, 0, 0, 0) :: (18, 26, 0, 0, 0) :: k88_19
def k88 : Nat → List mj_O := fun t => match t with
  | 0 => k88_0
  | 19 => k88_19
  | _ => []
-- 89: SockFair$Told.knitFor (ILSockFair$Socks;)I
def k89_203 : List mj_O := (203, 1, 1, 0, 0) :: (204, 26, 0, 0, 0) :: []
def k89_197 : List mj_O := (197, 9, 7, 1, 0) :: (200, 23, 0, 83, 0) :: k89_203
def k89_191 : List mj_O := (191, 9, 8, 1, 0) :: (194, 23, 0, 92, 0) :: k89_197
def k89_185 : List mj_O := (185, 9, 9, 1, 0) :: (188, 23, 0, 102, 0) :: k89_191
def k89_179 : List mj_O := (179, 9, 10, 1, 0) :: (182, 23, 0, 112, 0) :: k89_185
def k89_112 : List mj_O := (112, 3, 10, 0, 0) :: (114, 3, 6, 0, 0) :: (116, 22, 3, 185, 0) :: (119, 5, 0, 0, 0) :: (120, 33, 9, 3, 22) :: (123, 0, 10, 0, 0) :: (125, 3, 7, 0, 0) :: (127, 42, 0, 0, 0) :: (128, 5, 0, 0, 0) :: (129, 33, 9, 1, 15) :: (132, 0, 10, 0, 0) :: (134, 3, 9, 0, 0) :: (136, 42, 0, 0, 0) :: (137, 5, 0, 0, 0) :: (138, 33, 9, 2, 19) :: (141, 0, 10, 0, 0) :: (143, 3, 10, 0, 0) :: (145, 42, 0, 0, 0) :: (146, 5, 0, 0, 0) :: (147, 3, 8, 0, 0) :: (149, 3, 1, 0, 0) :: (150, 5, 2, 0, 0) :: (151, 47, 90, 0, 87) :: (154, 21, 0, 179, 0) :: (157, 0, 10000, 0, 0) :: (160, 3, 7, 0, 0) :: (162, 11, 2, 0, 0) :: (163, 0, 100, 0, 0) :: (165, 3, 8, 0, 0) :: (167, 11, 2, 0, 0) :: (168, 11, 0, 0, 0) :: (169, 0, 10, 0, 0) :: (171, 3, 9, 0, 0) :: (173, 11, 2, 0, 0) :: (174, 11, 0, 0, 0) :: (175, 3, 10, 0, 0) :: (177, 11, 0, 0, 0) :: (178, 26, 0, 0, 0) :: k89_179
def k89_102 : List mj_O := (102, 3, 9, 0, 0) :: (104, 3, 5, 0, 0) :: (106, 22, 3, 191, 0) :: (109, 0, 0, 0, 0) :: (110, 6, 10, 0, 0) :: k89_112
def k89_92 : List mj_O := (92, 3, 8, 0, 0) :: (94, 3, 4, 0, 0) :: (96, 22, 3, 197, 0) :: (99, 0, 0, 0, 0) :: (100, 6, 9, 0, 0) :: k89_102
def k89_83 : List mj_O := (83, 3, 7, 0, 0) :: (85, 3, 3, 0, 0) :: (86, 22, 4, 203, 0) :: (89, 0, 0, 0, 0) :: (90, 6, 8, 0, 0) :: k89_92
def k89_78 : List mj_O := (78, 6, 6, 0, 0) :: (80, 0, 1, 0, 0) :: (81, 6, 7, 0, 0) :: k89_83
def k89_77 : List mj_O := (77, 0, 1, 0, 0) :: k89_78
def k89_59 : List mj_O := (59, 6, 5, 0, 0) :: (61, 5, 0, 0, 0) :: (62, 33, 9, 6, 40) :: (65, 0, 32768, 0, 86) :: (67, 47, 60, 0, 82) :: (70, 21, 0, 77, 0) :: (73, 0, 4, 0, 0) :: (74, 23, 0, 78, 0) :: k89_77
def k89_58 : List mj_O := (58, 0, 1, 0, 0) :: k89_59
def k89_39 : List mj_O := (39, 6, 4, 0, 0) :: (41, 5, 0, 0, 0) :: (42, 33, 9, 6, 40) :: (45, 0, 16385, 0, 0) :: (48, 47, 60, 0, 82) :: (51, 21, 0, 58, 0) :: (54, 0, 4, 0, 0) :: (55, 23, 0, 59, 0) :: k89_58
def k89_38 : List mj_O := (38, 0, 1, 0, 0) :: k89_39
def k89_19 : List mj_O := (19, 6, 3, 0, 0) :: (20, 5, 0, 0, 0) :: (21, 33, 9, 6, 40) :: (24, 0, 1024, 0, 0) :: (27, 47, 60, 0, 82) :: (30, 21, 0, 38, 0) :: (33, 0, 10, 0, 0) :: (35, 23, 0, 39, 0) :: k89_38
def k89_18 : List mj_O := (18, 0, 1, 0, 0) :: k89_19
def k89_0 : List mj_O := (0, 5, 0, 0, 0) :: (1, 33, 9, 6, 40) :: (4, 0, 2048, 0, 0) :: (7, 47, 60, 0, 82) :: (10, 21, 0, 18, 0) :: (13, 0, 30, 0, 0) :: (15, 23, 0, 19, 0) :: k89_18
def k89 : Nat → List mj_O := fun t => match t with
  | 0 => k89_0
  | 18 => k89_18
  | 19 => k89_19
  | 38 => k89_38
  | 39 => k89_39
  | 58 => k89_58
  | 59 => k89_59
  | 77 => k89_77
  | 78 => k89_78
  | 83 => k89_83
  | 92 => k89_92
  | 102 => k89_102
  | 112 => k89_112
  | 179 => k89_179
  | 185 => k89_185
  | 191 => k89_191
  | 197 => k89_197
  | 203 => k89_203
  | _ => []
-- 90: SockFair$Told.isLikeOneAlone (IILSockFair$Socks;)Z
def k90_79 : List mj_O := (79, 0, 1, 0, 0) :: (80, 27, 0, 0, 0) :: []
def k90_73 : List mj_O := (73, 9, 4, 1, 0) :: (76, 23, 0, 29, 0) :: k90_79
def k90_29 : List mj_O := (29, 3, 4, 0, 0) :: (31, 5, 0, 0, 0) :: (32, 31, 9, 0, 9) :: (35, 22, 3, 79, 0) :: (38, 3, 4, 0, 0) :: (40, 3, 2, 0, 0) :: (41, 22, 0, 73, 0) :: (44, 5, 0, 0, 0) :: (45, 3, 4, 0, 0) :: (47, 5, 3, 0, 0) :: (48, 33, 7, 1, 91) :: (51, 3, 4, 0, 0) :: (53, 38, 0, 0, 0) :: (54, 5, 3, 0, 0) :: (55, 33, 7, 2, 94) :: (58, 3, 4, 0, 0) :: (60, 38, 0, 0, 0) :: (61, 0, 10, 0, 0) :: (63, 3, 1, 0, 0) :: (64, 0, 0, 0, 0) :: (65, 47, 87, 0, 97) :: (68, 21, 5, 73, 0) :: (71, 0, 0, 0, 0) :: (72, 27, 0, 0, 0) :: k90_73
def k90_26 : List mj_O := (26, 0, 0, 0, 0) :: (27, 6, 4, 0, 0) :: k90_29
def k90_0 : List mj_O := (0, 5, 0, 0, 0) :: (1, 3, 2, 0, 0) :: (2, 5, 3, 0, 0) :: (3, 33, 7, 1, 91) :: (6, 3, 2, 0, 0) :: (7, 38, 0, 0, 0) :: (8, 5, 3, 0, 0) :: (9, 33, 7, 2, 94) :: (12, 3, 2, 0, 0) :: (13, 38, 0, 0, 0) :: (14, 0, 10, 0, 0) :: (16, 3, 1, 0, 0) :: (17, 0, 0, 0, 0) :: (18, 47, 87, 0, 97) :: (21, 21, 4, 26, 0) :: (24, 0, 0, 0, 0) :: (25, 27, 0, 0, 0) :: k90_26
def k90 : Nat → List mj_O := fun t => match t with
  | 0 => k90_0
  | 26 => k90_26
  | 29 => k90_29
  | 73 => k90_73
  | 79 => k90_79
  | _ => []
-- 91: SockFair$Ways.<init> (LSockFair$Ties;[J)V
def k91_0 : List mj_O := (0, 5, 0, 0, 0) :: (1, 51, 0, 0, 3) :: (4, 5, 0, 0, 0) :: (5, 5, 1, 0, 0) :: (6, 37, 10, 5, 9) :: (9, 5, 0, 0, 0) :: (10, 5, 2, 0, 0) :: (11, 37, 10, 7, 15) :: (14, 5, 0, 0, 0) :: (15, 5, 1, 0, 0) :: (16, 33, 8, 0, 19) :: (19, 37, 10, 6, 25) :: (22, 5, 0, 0, 0) :: (23, 0, 10, 0, 0) :: (25, 53, 1, 0, 0) :: (27, 37, 10, 0, 26) :: (30, 5, 0, 0, 0) :: (31, 0, 0, 0, 0) :: (32, 35, 10, 1, 30) :: (35, 5, 0, 0, 0) :: (36, 0, 0, 0, 0) :: (37, 34, 10, 2, 34) :: (40, 5, 0, 0, 0) :: (41, 0, 10, 0, 0) :: (43, 53, 1, 0, 0) :: (45, 37, 10, 3, 38) :: (48, 5, 0, 0, 0) :: (49, 0, 10, 0, 0) :: (51, 53, 1, 0, 0) :: (53, 37, 10, 4, 41) :: (56, 5, 0, 0, 0) :: (57, 0, 10, 0, 0) :: (59, 53, 1, 0, 0) :: (61, 37, 10, 8, 44) :: (64, 25, 0, 0, 0) :: []
def k91 : Nat → List mj_O := fun t => match t with
  | 0 => k91_0
  | _ => []
-- 92: SockFair$Ways.fill ([IZI)J
def k92_143 : List mj_O := (143, 5, 0, 0, 0) :: (144, 33, 10, 7, 15) :: (147, 3, 3, 0, 0) :: (148, 39, 0, 0, 0) :: (149, 28, 0, 0, 0) :: []
def k92_137 : List mj_O := (137, 9, 4, 1, 0) :: (140, 23, 0, 10, 0) :: k92_143
def k92_117 : List mj_O := (117, 5, 0, 0, 0) :: (118, 33, 10, 7, 15) :: (121, 3, 5, 0, 0) :: (123, 0, 1, 0, 0) :: (124, 3, 4, 0, 0) :: (126, 11, 5, 0, 0) :: (127, 11, 9, 0, 0) :: (128, 4, 6, 0, 0) :: (130, 43, 0, 0, 0) :: (131, 9, 5, 1, 0) :: (134, 23, 0, 25, 0) :: k92_137
def k92_111 : List mj_O := (111, 9, 8, 1, 0) :: (114, 23, 0, 46, 0) :: k92_117
def k92_104 : List mj_O := (104, 15, 0, 0, 0) :: (105, 13, 0, 0, 0) :: (106, 73, 0, 0, 52) :: (109, 7, 6, 0, 0) :: k92_111
def k92_103 : List mj_O := (103, 0, 1, 0, 0) :: k92_104
def k92_46 : List mj_O := (46, 3, 8, 0, 0) :: (48, 3, 4, 0, 0) :: (50, 22, 3, 117, 0) :: (53, 5, 1, 0, 0) :: (54, 3, 8, 0, 0) :: (56, 0, 10, 0, 0) :: (58, 11, 2, 0, 0) :: (59, 3, 4, 0, 0) :: (61, 11, 0, 0, 0) :: (62, 38, 0, 0, 0) :: (63, 6, 9, 0, 0) :: (65, 3, 5, 0, 0) :: (67, 3, 8, 0, 0) :: (69, 11, 6, 0, 0) :: (70, 0, 1, 0, 0) :: (71, 11, 8, 0, 0) :: (72, 21, 0, 111, 0) :: (75, 3, 9, 0, 0) :: (77, 21, 5, 111, 0) :: (80, 4, 6, 0, 0) :: (82, 5, 0, 0, 0) :: (83, 33, 10, 7, 15) :: (86, 3, 5, 0, 0) :: (88, 0, 1, 0, 0) :: (89, 3, 8, 0, 0) :: (91, 11, 5, 0, 0) :: (92, 11, 10, 0, 0) :: (93, 39, 0, 0, 0) :: (94, 3, 2, 0, 0) :: (95, 21, 0, 103, 0) :: (98, 3, 9, 0, 0) :: (100, 23, 0, 104, 0) :: k92_103
def k92_25 : List mj_O := (25, 3, 5, 0, 0) :: (27, 0, 1, 0, 0) :: (28, 3, 4, 0, 0) :: (30, 11, 5, 0, 0) :: (31, 22, 3, 137, 0) :: (34, 5, 0, 0, 0) :: (35, 33, 10, 7, 15) :: (38, 3, 5, 0, 0) :: (40, 39, 0, 0, 0) :: (41, 7, 6, 0, 0) :: (43, 0, 0, 0, 0) :: (44, 6, 8, 0, 0) :: k92_46
def k92_10 : List mj_O := (10, 3, 4, 0, 0) :: (12, 5, 0, 0, 0) :: (13, 33, 10, 6, 25) :: (16, 31, 9, 0, 47) :: (19, 22, 3, 143, 0) :: (22, 0, 0, 0, 0) :: (23, 6, 5, 0, 0) :: k92_25
def k92_0 : List mj_O := (0, 5, 0, 0, 0) :: (1, 33, 10, 7, 15) :: (4, 0, 0, 0, 0) :: (5, 2, 0, 0, 0) :: (6, 43, 0, 0, 0) :: (7, 0, 0, 0, 0) :: (8, 6, 4, 0, 0) :: k92_10
def k92 : Nat → List mj_O := fun t => match t with
  | 0 => k92_0
  | 10 => k92_10
  | 25 => k92_25
  | 46 => k92_46
  | 103 => k92_103
  | 104 => k92_104
  | 111 => k92_111
  | 117 => k92_117
  | 137 => k92_137
  | 143 => k92_143
  | _ => []
-- 93: SockFair$Ways.fillFirstRow ([II)V
def k93_98 : List mj_O := (98, 25, 0, 0, 0) :: []
def k93_92 : List mj_O := (92, 9, 4, 1, 0) :: (95, 23, 0, 9, 0) :: k93_98
def k93_9 : List mj_O := (9, 3, 4, 0, 0) :: (11, 5, 0, 0, 0) :: (12, 33, 10, 6, 25) :: (15, 31, 9, 0, 47) :: (18, 22, 3, 98, 0) :: (21, 3, 3, 0, 0) :: (22, 3, 4, 0, 0) :: (24, 11, 6, 0, 0) :: (25, 0, 1, 0, 0) :: (26, 11, 8, 0, 0) :: (27, 21, 0, 92, 0) :: (30, 3, 3, 0, 0) :: (31, 0, 1, 0, 0) :: (32, 3, 4, 0, 0) :: (34, 11, 5, 0, 0) :: (35, 11, 10, 0, 0) :: (36, 6, 5, 0, 0) :: (38, 5, 0, 0, 0) :: (39, 5, 1, 0, 0) :: (40, 3, 4, 0, 0) :: (42, 3, 5, 0, 0) :: (44, 5, 0, 0, 0) :: (45, 33, 10, 7, 15) :: (48, 3, 3, 0, 0) :: (49, 39, 0, 0, 0) :: (50, 2, 1, 0, 0) :: (51, 13, 1, 0, 0) :: (52, 47, 94, 0, 61) :: (55, 6, 6, 0, 0) :: (57, 5, 0, 0, 0) :: (58, 33, 10, 0, 26) :: (61, 3, 4, 0, 0) :: (63, 3, 6, 0, 0) :: (65, 42, 0, 0, 0) :: (66, 3, 5, 0, 0) :: (68, 6, 3, 0, 0) :: (69, 3, 6, 0, 0) :: (71, 1, 1, 0, 0) :: (72, 22, 0, 92, 0) :: (75, 5, 0, 0, 0) :: (76, 33, 10, 0, 26) :: (79, 3, 6, 0, 0) :: (81, 3, 4, 0, 0) :: (83, 42, 0, 0, 0) :: (84, 3, 5, 0, 0) :: (86, 0, 1, 0, 0) :: (87, 3, 6, 0, 0) :: (89, 11, 5, 0, 0) :: (90, 11, 10, 0, 0) :: (91, 6, 3, 0, 0) :: k93_92
def k93_0 : List mj_O := (0, 5, 0, 0, 0) :: (1, 47, 95, 0, 58) :: (4, 3, 2, 0, 0) :: (5, 6, 3, 0, 0) :: (6, 0, 0, 0, 0) :: (7, 6, 4, 0, 0) :: k93_9
def k93 : Nat → List mj_O := fun t => match t with
  | 0 => k93_0
  | 9 => k93_9
  | 92 => k93_92
  | 98 => k93_98
  | _ => []
-- 94: SockFair$Ways.firstMate ([IIIJ)I
def k94_76 : List mj_O := (76, 1, 1, 0, 0) :: (77, 26, 0, 0, 0) :: []
def k94_70 : List mj_O := (70, 9, 6, 1, 0) :: (73, 23, 0, 5, 0) :: k94_76
def k94_31 : List mj_O := (31, 6, 7, 0, 0) :: (33, 3, 7, 0, 0) :: (35, 21, 0, 70, 0) :: (38, 5, 1, 0, 0) :: (39, 3, 2, 0, 0) :: (40, 0, 10, 0, 0) :: (42, 11, 2, 0, 0) :: (43, 3, 6, 0, 0) :: (45, 11, 0, 0, 0) :: (46, 38, 0, 0, 0) :: (47, 21, 5, 70, 0) :: (50, 5, 0, 0, 0) :: (51, 33, 10, 7, 15) :: (54, 3, 3, 0, 0) :: (55, 0, 1, 0, 0) :: (56, 3, 6, 0, 0) :: (58, 11, 5, 0, 0) :: (59, 11, 10, 0, 0) :: (60, 39, 0, 0, 0) :: (61, 4, 4, 0, 0) :: (63, 17, 0, 0, 0) :: (64, 21, 1, 70, 0) :: (67, 3, 6, 0, 0) :: (69, 26, 0, 0, 0) :: k94_70
def k94_30 : List mj_O := (30, 0, 0, 0, 0) :: k94_31
def k94_5 : List mj_O := (5, 3, 6, 0, 0) :: (7, 5, 0, 0, 0) :: (8, 33, 10, 6, 25) :: (11, 31, 9, 0, 47) :: (14, 22, 3, 76, 0) :: (17, 3, 3, 0, 0) :: (18, 3, 6, 0, 0) :: (20, 11, 6, 0, 0) :: (21, 0, 1, 0, 0) :: (22, 11, 8, 0, 0) :: (23, 21, 0, 30, 0) :: (26, 0, 1, 0, 0) :: (27, 23, 0, 31, 0) :: k94_30
def k94_0 : List mj_O := (0, 3, 2, 0, 0) :: (1, 0, 1, 0, 0) :: (2, 11, 0, 0, 0) :: (3, 6, 6, 0, 0) :: k94_5
def k94 : Nat → List mj_O := fun t => match t with
  | 0 => k94_0
  | 5 => k94_5
  | 30 => k94_30
  | 31 => k94_31
  | 70 => k94_70
  | 76 => k94_76
  | _ => []
-- 95: SockFair$Ways.clearRow ()V
def k95_21 : List mj_O := (21, 25, 0, 0, 0) :: []
def k95_2 : List mj_O := (2, 3, 1, 0, 0) :: (3, 0, 10, 0, 0) :: (5, 22, 3, 21, 0) :: (8, 5, 0, 0, 0) :: (9, 33, 10, 0, 26) :: (12, 3, 1, 0, 0) :: (13, 1, 1, 0, 0) :: (14, 42, 0, 0, 0) :: (15, 9, 1, 1, 0) :: (18, 23, 0, 2, 0) :: k95_21
def k95_0 : List mj_O := (0, 0, 0, 0, 0) :: (1, 6, 1, 0, 0) :: k95_2
def k95 : Nat → List mj_O := fun t => match t with
  | 0 => k95_0
  | 2 => k95_2
  | 21 => k95_21
  | _ => []
-- 96: SockFair$Ways.findRests (I)V
def k96_50 : List mj_O := (50, 5, 0, 0, 0) :: (51, 0, 0, 0, 0) :: (52, 3, 1, 0, 0) :: (53, 0, 0, 0, 0) :: (54, 47, 97, 0, 65) :: (57, 25, 0, 0, 0) :: []
def k96_24 : List mj_O := (24, 3, 2, 0, 0) :: (25, 0, 10, 0, 0) :: (27, 22, 3, 50, 0) :: (30, 5, 0, 0, 0) :: (31, 33, 10, 3, 38) :: (34, 3, 2, 0, 0) :: (35, 1, 1, 0, 0) :: (36, 42, 0, 0, 0) :: (37, 5, 0, 0, 0) :: (38, 33, 10, 4, 41) :: (41, 3, 2, 0, 0) :: (42, 0, 0, 0, 0) :: (43, 42, 0, 0, 0) :: (44, 9, 2, 1, 0) :: (47, 23, 0, 24, 0) :: k96_50
def k96_8 : List mj_O := (8, 5, 0, 0, 0) :: (9, 0, 1, 0, 0) :: (10, 35, 10, 1, 30) :: (13, 5, 0, 0, 0) :: (14, 0, 0, 0, 0) :: (15, 34, 10, 2, 34) :: (18, 5, 0, 0, 0) :: (19, 47, 95, 0, 58) :: (22, 0, 0, 0, 0) :: (23, 6, 2, 0, 0) :: k96_24
def k96_0 : List mj_O := (0, 5, 0, 0, 0) :: (1, 31, 10, 1, 30) :: (4, 21, 0, 8, 0) :: (7, 25, 0, 0, 0) :: k96_8
def k96 : Nat → List mj_O := fun t => match t with
  | 0 => k96_0
  | 8 => k96_8
  | 24 => k96_24
  | 50 => k96_50
  | _ => []
-- 97: SockFair$Ways.settleFrom (III)V
def k97_193 : List mj_O := (193, 25, 0, 0, 0) :: []
def k97_166 : List mj_O := (166, 5, 0, 0, 0) :: (167, 3, 4, 0, 0) :: (169, 1, 1, 0, 0) :: (170, 3, 3, 0, 0) :: (171, 47, 98, 0, 76) :: (174, 21, 0, 193, 0) :: (177, 5, 0, 0, 0) :: (178, 3, 4, 0, 0) :: (180, 0, 1, 0, 0) :: (181, 11, 0, 0, 0) :: (182, 3, 5, 0, 0) :: (184, 3, 3, 0, 0) :: (185, 0, 1, 0, 0) :: (186, 3, 4, 0, 0) :: (188, 11, 5, 0, 0) :: (189, 11, 9, 0, 0) :: (190, 47, 97, 0, 65) :: k97_193
def k97_160 : List mj_O := (160, 9, 7, 1, 0) :: (163, 23, 0, 88, 0) :: k97_166
def k97_88 : List mj_O := (88, 3, 7, 0, 0) :: (90, 5, 0, 0, 0) :: (91, 33, 10, 6, 25) :: (94, 31, 9, 0, 47) :: (97, 22, 3, 166, 0) :: (100, 3, 6, 0, 0) :: (102, 3, 7, 0, 0) :: (104, 11, 6, 0, 0) :: (105, 0, 1, 0, 0) :: (106, 11, 8, 0, 0) :: (107, 21, 0, 160, 0) :: (110, 5, 0, 0, 0) :: (111, 3, 4, 0, 0) :: (113, 3, 7, 0, 0) :: (115, 3, 3, 0, 0) :: (116, 47, 98, 0, 76) :: (119, 21, 0, 160, 0) :: (122, 5, 0, 0, 0) :: (123, 3, 7, 0, 0) :: (125, 3, 4, 0, 0) :: (127, 3, 3, 0, 0) :: (128, 47, 98, 0, 76) :: (131, 21, 0, 160, 0) :: (134, 5, 0, 0, 0) :: (135, 3, 4, 0, 0) :: (137, 0, 1, 0, 0) :: (138, 11, 0, 0, 0) :: (139, 3, 5, 0, 0) :: (141, 0, 1, 0, 0) :: (142, 3, 7, 0, 0) :: (144, 11, 5, 0, 0) :: (145, 11, 10, 0, 0) :: (146, 3, 3, 0, 0) :: (147, 0, 1, 0, 0) :: (148, 3, 4, 0, 0) :: (150, 11, 5, 0, 0) :: (151, 11, 9, 0, 0) :: (152, 0, 1, 0, 0) :: (153, 3, 7, 0, 0) :: (155, 11, 5, 0, 0) :: (156, 11, 9, 0, 0) :: (157, 47, 97, 0, 65) :: k97_160
def k97_60 : List mj_O := (60, 3, 2, 0, 0) :: (61, 0, 1, 0, 0) :: (62, 3, 4, 0, 0) :: (64, 11, 5, 0, 0) :: (65, 11, 10, 0, 0) :: (66, 6, 5, 0, 0) :: (68, 5, 0, 0, 0) :: (69, 33, 10, 5, 9) :: (72, 3, 4, 0, 0) :: (74, 47, 71, 0, 72) :: (77, 3, 5, 0, 0) :: (79, 11, 8, 0, 0) :: (80, 6, 6, 0, 0) :: (82, 3, 4, 0, 0) :: (84, 0, 1, 0, 0) :: (85, 11, 0, 0, 0) :: (86, 6, 7, 0, 0) :: k97_88
def k97_43 : List mj_O := (43, 3, 4, 0, 0) :: (45, 5, 0, 0, 0) :: (46, 33, 10, 6, 25) :: (49, 31, 9, 0, 47) :: (52, 22, 2, 60, 0) :: (55, 5, 0, 0, 0) :: (56, 47, 99, 0, 69) :: (59, 25, 0, 0, 0) :: k97_60
def k97_6 : List mj_O := (6, 3, 5, 0, 0) :: (8, 0, 10, 0, 0) :: (10, 22, 3, 43, 0) :: (13, 3, 4, 0, 0) :: (15, 5, 0, 0, 0) :: (16, 33, 10, 6, 25) :: (19, 31, 9, 0, 47) :: (22, 22, 3, 43, 0) :: (25, 3, 2, 0, 0) :: (26, 3, 4, 0, 0) :: (28, 11, 6, 0, 0) :: (29, 0, 1, 0, 0) :: (30, 11, 8, 0, 0) :: (31, 21, 1, 43, 0) :: (34, 9, 4, 1, 0) :: (37, 9, 5, 1, 0) :: (40, 23, 0, 6, 0) :: k97_43
def k97_0 : List mj_O := (0, 3, 1, 0, 0) :: (1, 6, 4, 0, 0) :: (3, 0, 0, 0, 0) :: (4, 6, 5, 0, 0) :: k97_6
def k97 : Nat → List mj_O := fun t => match t with
  | 0 => k97_0
  | 6 => k97_6
  | 43 => k97_43
  | 60 => k97_60
  | 88 => k97_88
  | 160 => k97_160
  | 166 => k97_166
  | 193 => k97_193
  | _ => []
-- 98: SockFair$Ways.isCalm (III)Z
def k98_79 : List mj_O := (79, 0, 1, 0, 0) :: (80, 27, 0, 0, 0) :: []
def k98_73 : List mj_O := (73, 9, 5, 1, 0) :: (76, 23, 0, 35, 0) :: k98_79
def k98_35 : List mj_O := (35, 3, 5, 0, 0) :: (37, 5, 0, 0, 0) :: (38, 33, 10, 6, 25) :: (41, 31, 9, 0, 47) :: (44, 22, 3, 79, 0) :: (47, 3, 4, 0, 0) :: (49, 3, 5, 0, 0) :: (51, 11, 6, 0, 0) :: (52, 0, 1, 0, 0) :: (53, 11, 8, 0, 0) :: (54, 21, 0, 73, 0) :: (57, 5, 0, 0, 0) :: (58, 33, 10, 8, 44) :: (61, 3, 5, 0, 0) :: (63, 38, 0, 0, 0) :: (64, 3, 1, 0, 0) :: (65, 11, 6, 0, 0) :: (66, 0, 1, 0, 0) :: (67, 11, 8, 0, 0) :: (68, 21, 0, 73, 0) :: (71, 0, 0, 0, 0) :: (72, 27, 0, 0, 0) :: k98_73
def k98_0 : List mj_O := (0, 5, 0, 0, 0) :: (1, 33, 10, 0, 26) :: (4, 3, 1, 0, 0) :: (5, 3, 2, 0, 0) :: (6, 42, 0, 0, 0) :: (7, 5, 0, 0, 0) :: (8, 33, 10, 8, 44) :: (11, 3, 1, 0, 0) :: (12, 5, 0, 0, 0) :: (13, 33, 10, 5, 9) :: (16, 3, 1, 0, 0) :: (17, 3, 2, 0, 0) :: (18, 47, 72, 0, 80) :: (21, 42, 0, 0, 0) :: (22, 5, 0, 0, 0) :: (23, 33, 10, 8, 44) :: (26, 3, 1, 0, 0) :: (27, 38, 0, 0, 0) :: (28, 3, 3, 0, 0) :: (29, 11, 8, 0, 0) :: (30, 6, 4, 0, 0) :: (32, 0, 0, 0, 0) :: (33, 6, 5, 0, 0) :: k98_35
def k98 : Nat → List mj_O := fun t => match t with
  | 0 => k98_0
  | 35 => k98_35
  | 73 => k98_73
  | 79 => k98_79
  | _ => []
-- 99: SockFair$Ways.noteRest ()V
def k99_57 : List mj_O := (57, 5, 0, 0, 0) :: (58, 18, 0, 0, 0) :: (59, 31, 10, 2, 34) :: (62, 0, 1, 0, 0) :: (63, 11, 0, 0, 0) :: (64, 34, 10, 2, 34) :: (67, 25, 0, 0, 0) :: []
def k99_51 : List mj_O := (51, 9, 1, 1, 0) :: (54, 23, 0, 2, 0) :: k99_57
def k99_34 : List mj_O := (34, 3, 2, 0, 0) :: (35, 1, 1, 0, 0) :: (36, 22, 0, 51, 0) :: (39, 5, 0, 0, 0) :: (40, 33, 10, 4, 41) :: (43, 3, 1, 0, 0) :: (44, 20, 0, 0, 0) :: (45, 38, 0, 0, 0) :: (46, 0, 1, 0, 0) :: (47, 3, 2, 0, 0) :: (48, 11, 5, 0, 0) :: (49, 11, 9, 0, 0) :: (50, 42, 0, 0, 0) :: k99_51
def k99_2 : List mj_O := (2, 3, 1, 0, 0) :: (3, 5, 0, 0, 0) :: (4, 33, 10, 6, 25) :: (7, 31, 9, 0, 47) :: (10, 22, 3, 57, 0) :: (13, 5, 0, 0, 0) :: (14, 33, 10, 0, 26) :: (17, 3, 1, 0, 0) :: (18, 38, 0, 0, 0) :: (19, 6, 2, 0, 0) :: (20, 5, 0, 0, 0) :: (21, 31, 10, 2, 34) :: (24, 21, 1, 34, 0) :: (27, 5, 0, 0, 0) :: (28, 33, 10, 3, 38) :: (31, 3, 1, 0, 0) :: (32, 3, 2, 0, 0) :: (33, 42, 0, 0, 0) :: k99_34
def k99_0 : List mj_O := (0, 0, 0, 0, 0) :: (1, 6, 1, 0, 0) :: k99_2
def k99 : Nat → List mj_O := fun t => match t with
  | 0 => k99_0
  | 2 => k99_2
  | 34 => k99_34
  | 51 => k99_51
  | 57 => k99_57
  | _ => []
-- 100: SockFair.<init> ()V
def k100_0 : List mj_O := (0, 5, 0, 0, 0) :: (1, 51, 0, 0, 3) :: (4, 5, 0, 0, 0) :: (5, 0, 700, 0, 0) :: (8, 53, 3, 0, 0) :: (10, 37, 11, 0, 9) :: (13, 5, 0, 0, 0) :: (14, 0, 0, 0, 0) :: (15, 34, 11, 1, 13) :: (18, 5, 0, 0, 0) :: (19, 1, 1, 0, 0) :: (20, 34, 11, 2, 17) :: (23, 5, 0, 0, 0) :: (24, 0, 3, 0, 0) :: (25, 53, 1, 0, 0) :: (27, 37, 11, 3, 20) :: (30, 5, 0, 0, 0) :: (31, 52, 9, 0, 24) :: (34, 18, 0, 0, 0) :: (35, 0, 700, 0, 0) :: (38, 49, 85, 0, 26) :: (41, 37, 11, 5, 29) :: (44, 5, 0, 0, 0) :: (45, 52, 9, 0, 24) :: (48, 18, 0, 0, 0) :: (49, 0, 0, 0, 0) :: (50, 49, 85, 0, 26) :: (53, 37, 11, 6, 33) :: (56, 5, 0, 0, 0) :: (57, 52, 5, 0, 36) :: (60, 18, 0, 0, 0) :: (61, 5, 0, 0, 0) :: (62, 33, 11, 0, 9) :: (65, 5, 0, 0, 0) :: (66, 33, 11, 6, 33) :: (69, 49, 36, 0, 38) :: (72, 37, 11, 4, 41) :: (75, 5, 0, 0, 0) :: (76, 52, 1, 0, 45) :: (79, 18, 0, 0, 0) :: (80, 49, 7, 0, 47) :: (83, 37, 11, 7, 48) :: (86, 5, 0, 0, 0) :: (87, 52, 1, 0, 45) :: (90, 18, 0, 0, 0) :: (91, 49, 7, 0, 47) :: (94, 37, 11, 8, 52) :: (97, 5, 0, 0, 0) :: (98, 0, 0, 0, 0) :: (99, 35, 11, 9, 55) :: (102, 5, 0, 0, 0) :: (103, 5, 0, 0, 0) :: (104, 33, 11, 7, 48) :: (107, 33, 1, 0, 59) :: (110, 37, 11, 10, 63) :: (113, 5, 0, 0, 0) :: (114, 52, 4, 0, 64) :: (117, 18, 0, 0, 0) :: (118, 5, 0, 0, 0) :: (119, 33, 11, 5, 29) :: (122, 5, 0, 0, 0) :: (123, 33, 11, 10, 63) :: (126, 49, 31, 0, 66) :: (129, 37, 11, 11, 69) :: (132, 5, 0, 0, 0) :: (133, 52, 2, 0, 73) :: (136, 18, 0, 0, 0) :: (137, 5, 0, 0, 0) :: (138, 33, 11, 11, 69) :: (141, 49, 14, 0, 75) :: (144, 37, 11, 12, 78) :: (147, 5, 0, 0, 0) :: (148, 52, 2, 0, 73) :: (151, 18, 0, 0, 0) :: (152, 5, 0, 0, 0) :: (153, 33, 11, 11, 69) :: (156, 49, 14, 0, 75) :: (159, 37, 11, 13, 82) :: (162, 5, 0, 0, 0) :: (163, 52, 8, 0, 85) :: (166, 18, 0, 0, 0) :: (167, 5, 0, 0, 0) :: (168, 33, 11, 11, 69) :: (171, 49, 69, 0, 87) :: (174, 37, 11, 14, 88) :: (177, 0, 1024, 0, 0) :: (180, 53, 2, 0, 0) :: (182, 8, 1, 0, 0) :: (183, 5, 0, 0, 0) :: (184, 52, 10, 0, 92) :: (187, 18, 0, 0, 0) :: (188, 5, 0, 0, 0) :: (189, 33, 11, 14, 88) :: (192, 5, 1, 0, 0) :: (193, 49, 91, 0, 94) :: (196, 37, 11, 15, 97) :: (199, 5, 0, 0, 0) :: (200, 52, 3, 0, 101) :: (203, 18, 0, 0, 0) :: (204, 5, 0, 0, 0) :: (205, 33, 11, 13, 82) :: (208, 5, 0, 0, 0) :: (209, 33, 11, 7, 48) :: (212, 5, 1, 0, 0) :: (213, 49, 24, 0, 103) :: (216, 37, 11, 16, 106) :: (219, 5, 0, 0, 0) :: (220, 52, 0, 0, 110) :: (223, 18, 0, 0, 0) :: (224, 5, 0, 0, 0) :: (225, 33, 11, 5, 29) :: (228, 49, 0, 0, 112) :: (231, 37, 11, 17, 115) :: (234, 25, 0, 0, 0) :: []
def k100 : Nat → List mj_O := fun t => match t with
  | 0 => k100_0
  | _ => []
-- 101: SockFair.feed (IIIII)I
def k101_12 : List mj_O := (12, 5, 0, 0, 0) :: (13, 3, 1, 0, 0) :: (14, 47, 102, 0, 119) :: (17, 5, 0, 0, 0) :: (18, 3, 2, 0, 0) :: (19, 47, 102, 0, 119) :: (22, 5, 0, 0, 0) :: (23, 3, 3, 0, 0) :: (24, 47, 102, 0, 119) :: (27, 5, 0, 0, 0) :: (28, 3, 4, 0, 0) :: (30, 47, 102, 0, 119) :: (33, 5, 0, 0, 0) :: (34, 3, 5, 0, 0) :: (36, 47, 102, 0, 119) :: (39, 5, 0, 0, 0) :: (40, 31, 11, 1, 13) :: (43, 26, 0, 0, 0) :: []
def k101_0 : List mj_O := (0, 5, 0, 0, 0) :: (1, 31, 11, 1, 13) :: (4, 0, 680, 0, 0) :: (7, 22, 5, 12, 0) :: (10, 1, 1, 0, 0) :: (11, 26, 0, 0, 0) :: k101_12
def k101 : Nat → List mj_O := fun t => match t with
  | 0 => k101_0
  | 12 => k101_12
  | _ => []
-- 102: SockFair.tapeNumber (I)V
def k102_46 : List mj_O := (46, 25, 0, 0, 0) :: []
def k102_40 : List mj_O := (40, 10, 2, 8, 0) :: (43, 23, 0, 3, 0) :: k102_46
def k102_3 : List mj_O := (3, 3, 2, 0, 0) :: (4, 21, 2, 46, 0) :: (7, 5, 0, 0, 0) :: (8, 31, 11, 1, 13) :: (11, 0, 700, 0, 0) :: (14, 22, 3, 40, 0) :: (17, 5, 0, 0, 0) :: (18, 33, 11, 0, 9) :: (21, 5, 0, 0, 0) :: (22, 31, 11, 1, 13) :: (25, 3, 1, 0, 0) :: (26, 3, 2, 0, 0) :: (27, 11, 6, 0, 0) :: (28, 12, 1, 0, 0) :: (29, 44, 0, 0, 0) :: (30, 5, 0, 0, 0) :: (31, 18, 0, 0, 0) :: (32, 31, 11, 1, 13) :: (35, 0, 1, 0, 0) :: (36, 11, 0, 0, 0) :: (37, 34, 11, 1, 13) :: k102_40
def k102_0 : List mj_O := (0, 0, 24, 0, 0) :: (2, 6, 2, 0, 0) :: k102_3
def k102 : Nat → List mj_O := fun t => match t with
  | 0 => k102_0
  | 3 => k102_3
  | 40 => k102_40
  | 46 => k102_46
  | _ => []
-- 103: SockFair.fair (I)I
def k103_75 : List mj_O := (75, 5, 0, 0, 0) :: (76, 33, 11, 4, 41) :: (79, 3, 1, 0, 0) :: (80, 5, 0, 0, 0) :: (81, 33, 11, 5, 29) :: (84, 47, 37, 0, 129) :: (87, 19, 0, 0, 0) :: (88, 5, 0, 0, 0) :: (89, 33, 11, 7, 48) :: (92, 5, 0, 0, 0) :: (93, 33, 11, 5, 29) :: (96, 47, 8, 0, 136) :: (99, 5, 0, 0, 0) :: (100, 0, 0, 0, 0) :: (101, 35, 11, 9, 55) :: (104, 5, 0, 0, 0) :: (105, 47, 157, 0, 139) :: (108, 0, 0, 0, 0) :: (109, 26, 0, 0, 0) :: []
def k103_56 : List mj_O := (56, 34, 11, 2, 17) :: (59, 3, 2, 0, 0) :: (60, 21, 0, 75, 0) :: (63, 5, 0, 0, 0) :: (64, 33, 11, 3, 20) :: (67, 0, 0, 0, 0) :: (68, 20, 0, 0, 0) :: (69, 38, 0, 0, 0) :: (70, 0, 1, 0, 0) :: (71, 11, 0, 0, 0) :: (72, 42, 0, 0, 0) :: (73, 3, 2, 0, 0) :: (74, 26, 0, 0, 0) :: k103_75
def k103_49 : List mj_O := (49, 5, 0, 0, 0) :: (50, 33, 11, 4, 41) :: (53, 31, 5, 0, 133) :: k103_56
def k103_22 : List mj_O := (22, 5, 0, 0, 0) :: (23, 0, 0, 0, 0) :: (24, 34, 11, 1, 13) :: (27, 5, 0, 0, 0) :: (28, 33, 11, 4, 41) :: (31, 3, 1, 0, 0) :: (32, 5, 0, 0, 0) :: (33, 33, 11, 6, 33) :: (36, 47, 37, 0, 129) :: (39, 6, 2, 0, 0) :: (40, 5, 0, 0, 0) :: (41, 3, 2, 0, 0) :: (42, 21, 1, 49, 0) :: (45, 1, 1, 0, 0) :: (46, 23, 0, 56, 0) :: k103_49
def k103_12 : List mj_O := (12, 30, 1, 124, 122) :: k103_22
def k103_0 : List mj_O := (0, 3, 1, 0, 0) :: (1, 21, 2, 12, 0) :: (4, 3, 1, 0, 0) :: (5, 5, 0, 0, 0) :: (6, 31, 11, 1, 13) :: (9, 22, 5, 22, 0) :: k103_12
def k103 : Nat → List mj_O := fun t => match t with
  | 0 => k103_0
  | 12 => k103_12
  | 22 => k103_22
  | 49 => k103_49
  | 56 => k103_56
  | 75 => k103_75
  | _ => []
-- 104: SockFair.fault ()I
def k104_0 : List mj_O := (0, 5, 0, 0, 0) :: (1, 31, 11, 2, 17) :: (4, 26, 0, 0, 0) :: []
def k104 : Nat → List mj_O := fun t => match t with
  | 0 => k104_0
  | _ => []
-- 105: SockFair.count (I)I
def k105_153 : List mj_O := (153, 30, 0, 172, 170) :: []
def k105_146 : List mj_O := (146, 5, 0, 0, 0) :: (147, 33, 11, 3, 20) :: (150, 0, 2, 0, 0) :: (151, 38, 0, 0, 0) :: (152, 26, 0, 0, 0) :: k105_153
def k105_139 : List mj_O := (139, 5, 0, 0, 0) :: (140, 33, 11, 3, 20) :: (143, 0, 1, 0, 0) :: (144, 38, 0, 0, 0) :: (145, 26, 0, 0, 0) :: k105_146
def k105_132 : List mj_O := (132, 5, 0, 0, 0) :: (133, 33, 11, 3, 20) :: (136, 0, 0, 0, 0) :: (137, 38, 0, 0, 0) :: (138, 26, 0, 0, 0) :: k105_139
def k105_127 : List mj_O := (127, 5, 0, 0, 0) :: (128, 31, 11, 1, 13) :: (131, 26, 0, 0, 0) :: k105_132
def k105_119 : List mj_O := (119, 5, 0, 0, 0) :: (120, 33, 11, 7, 48) :: (123, 31, 1, 2, 167) :: (126, 26, 0, 0, 0) :: k105_127
def k105_111 : List mj_O := (111, 5, 0, 0, 0) :: (112, 33, 11, 7, 48) :: (115, 31, 1, 1, 164) :: (118, 26, 0, 0, 0) :: k105_119
def k105_103 : List mj_O := (103, 5, 0, 0, 0) :: (104, 47, 154, 0, 157) :: (107, 47, 74, 0, 161) :: (110, 26, 0, 0, 0) :: k105_111
def k105_95 : List mj_O := (95, 5, 0, 0, 0) :: (96, 33, 11, 10, 63) :: (99, 47, 68, 0, 154) :: (102, 26, 0, 0, 0) :: k105_103
def k105_76 : List mj_O := (76, 0, 1, 0, 0) :: (77, 5, 0, 0, 0) :: (78, 33, 11, 5, 29) :: (81, 31, 9, 0, 142) :: (84, 11, 5, 0, 0) :: (85, 0, 1, 0, 0) :: (86, 11, 1, 0, 0) :: (87, 5, 0, 0, 0) :: (88, 47, 152, 0, 150) :: (91, 1, 1, 0, 0) :: (92, 11, 10, 0, 0) :: (93, 11, 8, 0, 0) :: (94, 26, 0, 0, 0) :: k105_95
def k105_68 : List mj_O := (68, 5, 0, 0, 0) :: (69, 33, 11, 10, 63) :: (72, 31, 7, 0, 145) :: (75, 26, 0, 0, 0) :: k105_76
def k105_60 : List mj_O := (60, 5, 0, 0, 0) :: (61, 33, 11, 5, 29) :: (64, 31, 9, 0, 142) :: (67, 26, 0, 0, 0) :: k105_68
def k105_0 : List mj_O := (0, 3, 1, 0, 0) :: (1, 24, 2, 153, 0) :: k105_60
def k105 : Nat → List mj_O := fun t => match t with
  | 0 => k105_0
  | 60 => k105_60
  | 68 => k105_68
  | 76 => k105_76
  | 95 => k105_95
  | 103 => k105_103
  | 111 => k105_111
  | 119 => k105_119
  | 127 => k105_127
  | 132 => k105_132
  | 139 => k105_139
  | 146 => k105_146
  | 153 => k105_153
  | _ => []
-- 106: SockFair.person (II)I
def k106_144 : List mj_O := (144, 30, 0, 206, 170) :: []
def k106_135 : List mj_O := (135, 5, 0, 0, 0) :: (136, 47, 154, 0, 157) :: (139, 3, 1, 0, 0) :: (140, 47, 73, 0, 203) :: (143, 26, 0, 0, 0) :: k106_144
def k106_126 : List mj_O := (126, 5, 0, 0, 0) :: (127, 47, 154, 0, 157) :: (130, 3, 1, 0, 0) :: (131, 47, 71, 0, 199) :: (134, 26, 0, 0, 0) :: k106_135
def k106_116 : List mj_O := (116, 5, 0, 0, 0) :: (117, 33, 11, 10, 63) :: (120, 33, 7, 3, 196) :: (123, 3, 1, 0, 0) :: (124, 38, 0, 0, 0) :: (125, 26, 0, 0, 0) :: k106_126
def k106_106 : List mj_O := (106, 5, 0, 0, 0) :: (107, 33, 11, 5, 29) :: (110, 33, 9, 4, 193) :: (113, 3, 1, 0, 0) :: (114, 38, 0, 0, 0) :: (115, 26, 0, 0, 0) :: k106_116
def k106_96 : List mj_O := (96, 5, 0, 0, 0) :: (97, 33, 11, 10, 63) :: (100, 33, 7, 2, 190) :: (103, 3, 1, 0, 0) :: (104, 38, 0, 0, 0) :: (105, 26, 0, 0, 0) :: k106_106
def k106_86 : List mj_O := (86, 5, 0, 0, 0) :: (87, 33, 11, 5, 29) :: (90, 33, 9, 3, 187) :: (93, 3, 1, 0, 0) :: (94, 38, 0, 0, 0) :: (95, 26, 0, 0, 0) :: k106_96
def k106_76 : List mj_O := (76, 5, 0, 0, 0) :: (77, 33, 11, 5, 29) :: (80, 33, 9, 2, 184) :: (83, 3, 1, 0, 0) :: (84, 38, 0, 0, 0) :: (85, 26, 0, 0, 0) :: k106_86
def k106_66 : List mj_O := (66, 5, 0, 0, 0) :: (67, 33, 11, 5, 29) :: (70, 33, 9, 1, 181) :: (73, 3, 1, 0, 0) :: (74, 38, 0, 0, 0) :: (75, 26, 0, 0, 0) :: k106_76
def k106_56 : List mj_O := (56, 5, 0, 0, 0) :: (57, 33, 11, 10, 63) :: (60, 33, 7, 1, 178) :: (63, 3, 1, 0, 0) :: (64, 38, 0, 0, 0) :: (65, 26, 0, 0, 0) :: k106_66
def k106_0 : List mj_O := (0, 5, 0, 0, 0) :: (1, 3, 1, 0, 0) :: (2, 47, 149, 0, 175) :: (5, 3, 2, 0, 0) :: (6, 24, 3, 144, 0) :: k106_56
def k106 : Nat → List mj_O := fun t => match t with
  | 0 => k106_0
  | 56 => k106_56
  | 66 => k106_66
  | 76 => k106_76
  | 86 => k106_86
  | 96 => k106_96
  | 106 => k106_106
  | 116 => k106_116
  | 126 => k106_126
  | 135 => k106_135
  | 144 => k106_144
  | _ => []
-- 107: SockFair.alike (II)I
def k107_0 : List mj_O := (0, 5, 0, 0, 0) :: (1, 3, 1, 0, 0) :: (2, 47, 149, 0, 175) :: (5, 5, 0, 0, 0) :: (6, 3, 2, 0, 0) :: (7, 47, 149, 0, 175) :: (10, 5, 0, 0, 0) :: (11, 3, 1, 0, 0) :: (12, 5, 0, 0, 0) :: (13, 33, 11, 10, 63) :: (16, 33, 7, 2, 190) :: (19, 3, 1, 0, 0) :: (20, 38, 0, 0, 0) :: (21, 3, 2, 0, 0) :: (22, 5, 0, 0, 0) :: (23, 33, 11, 10, 63) :: (26, 33, 7, 2, 190) :: (29, 3, 2, 0, 0) :: (30, 38, 0, 0, 0) :: (31, 47, 156, 0, 208) :: (34, 26, 0, 0, 0) :: []
def k107 : Nat → List mj_O := fun t => match t with
  | 0 => k107_0
  | _ => []
-- 108: SockFair.liking (II)I
def k108_0 : List mj_O := (0, 5, 0, 0, 0) :: (1, 3, 1, 0, 0) :: (2, 47, 149, 0, 175) :: (5, 5, 0, 0, 0) :: (6, 3, 2, 0, 0) :: (7, 47, 149, 0, 175) :: (10, 5, 0, 0, 0) :: (11, 3, 1, 0, 0) :: (12, 5, 0, 0, 0) :: (13, 33, 11, 10, 63) :: (16, 33, 7, 2, 190) :: (19, 3, 1, 0, 0) :: (20, 38, 0, 0, 0) :: (21, 3, 2, 0, 0) :: (22, 5, 0, 0, 0) :: (23, 33, 11, 10, 63) :: (26, 33, 7, 2, 190) :: (29, 3, 2, 0, 0) :: (30, 38, 0, 0, 0) :: (31, 47, 156, 0, 208) :: (34, 6, 3, 0, 0) :: (35, 5, 0, 0, 0) :: (36, 33, 11, 5, 29) :: (39, 3, 1, 0, 0) :: (40, 3, 2, 0, 0) :: (41, 3, 3, 0, 0) :: (42, 5, 0, 0, 0) :: (43, 33, 11, 10, 63) :: (46, 33, 7, 2, 190) :: (49, 3, 2, 0, 0) :: (50, 38, 0, 0, 0) :: (51, 47, 88, 0, 212) :: (54, 26, 0, 0, 0) :: []
def k108 : Nat → List mj_O := fun t => match t with
  | 0 => k108_0
  | _ => []
-- 109: SockFair.hold (I)I
def k109_110 : List mj_O := (110, 5, 0, 0, 0) :: (111, 33, 11, 10, 63) :: (114, 18, 0, 0, 0) :: (115, 31, 7, 0, 145) :: (118, 3, 1, 0, 0) :: (119, 11, 0, 0, 0) :: (120, 34, 7, 0, 145) :: (123, 5, 0, 0, 0) :: (124, 47, 157, 0, 139) :: (127, 5, 0, 0, 0) :: (128, 33, 11, 10, 63) :: (131, 31, 7, 0, 145) :: (134, 26, 0, 0, 0) :: []
def k109_53 : List mj_O := (53, 3, 3, 0, 0) :: (54, 5, 0, 0, 0) :: (55, 33, 11, 5, 29) :: (58, 31, 9, 0, 142) :: (61, 22, 3, 110, 0) :: (64, 5, 0, 0, 0) :: (65, 33, 11, 10, 63) :: (68, 33, 7, 3, 196) :: (71, 3, 3, 0, 0) :: (72, 5, 2, 0, 0) :: (73, 3, 3, 0, 0) :: (74, 3, 1, 0, 0) :: (75, 47, 16, 0, 222) :: (78, 42, 0, 0, 0) :: (79, 5, 0, 0, 0) :: (80, 33, 11, 10, 63) :: (83, 33, 7, 2, 190) :: (86, 3, 3, 0, 0) :: (87, 0, 9, 0, 0) :: (89, 5, 0, 0, 0) :: (90, 33, 11, 10, 63) :: (93, 33, 7, 2, 190) :: (96, 3, 3, 0, 0) :: (97, 38, 0, 0, 0) :: (98, 3, 1, 0, 0) :: (99, 11, 0, 0, 0) :: (100, 71, 0, 0, 226) :: (103, 42, 0, 0, 0) :: (104, 9, 3, 1, 0) :: (107, 23, 0, 53, 0) :: k109_110
def k109_38 : List mj_O := (38, 5, 0, 0, 0) :: (39, 33, 11, 7, 48) :: (42, 47, 10, 0, 215) :: (45, 5, 0, 0, 0) :: (46, 3, 1, 0, 0) :: (47, 47, 153, 0, 218) :: (50, 8, 2, 0, 0) :: (51, 0, 0, 0, 0) :: (52, 6, 3, 0, 0) :: k109_53
def k109_26 : List mj_O := (26, 5, 0, 0, 0) :: (27, 33, 11, 3, 20) :: (30, 0, 1, 0, 0) :: (31, 20, 0, 0, 0) :: (32, 38, 0, 0, 0) :: (33, 0, 1, 0, 0) :: (34, 11, 0, 0, 0) :: (35, 42, 0, 0, 0) :: (36, 1, 1, 0, 0) :: (37, 26, 0, 0, 0) :: k109_38
def k109_0 : List mj_O := (0, 3, 1, 0, 0) :: (1, 0, 1, 0, 0) :: (2, 22, 2, 26, 0) :: (5, 3, 1, 0, 0) :: (6, 0, 20, 0, 0) :: (8, 22, 4, 26, 0) :: (11, 5, 0, 0, 0) :: (12, 33, 11, 10, 63) :: (15, 31, 7, 0, 145) :: (18, 3, 1, 0, 0) :: (19, 11, 0, 0, 0) :: (20, 0, 999, 0, 0) :: (23, 22, 5, 38, 0) :: k109_26
def k109 : Nat → List mj_O := fun t => match t with
  | 0 => k109_0
  | 26 => k109_26
  | 38 => k109_38
  | 53 => k109_53
  | 110 => k109_110
  | _ => []
-- 110: SockFair.dye (II)I
def k110_27 : List mj_O := (27, 5, 0, 0, 0) :: (28, 33, 11, 7, 48) :: (31, 47, 10, 0, 215) :: (34, 5, 0, 0, 0) :: (35, 33, 11, 10, 63) :: (38, 33, 7, 1, 178) :: (41, 3, 1, 0, 0) :: (42, 38, 0, 0, 0) :: (43, 6, 3, 0, 0) :: (44, 5, 0, 0, 0) :: (45, 33, 11, 10, 63) :: (48, 33, 7, 1, 178) :: (51, 3, 1, 0, 0) :: (52, 3, 2, 0, 0) :: (53, 42, 0, 0, 0) :: (54, 5, 0, 0, 0) :: (55, 47, 157, 0, 139) :: (58, 3, 3, 0, 0) :: (59, 26, 0, 0, 0) :: []
def k110_15 : List mj_O := (15, 5, 0, 0, 0) :: (16, 33, 11, 3, 20) :: (19, 0, 1, 0, 0) :: (20, 20, 0, 0, 0) :: (21, 38, 0, 0, 0) :: (22, 0, 1, 0, 0) :: (23, 11, 0, 0, 0) :: (24, 42, 0, 0, 0) :: (25, 1, 1, 0, 0) :: (26, 26, 0, 0, 0) :: k110_27
def k110_0 : List mj_O := (0, 5, 0, 0, 0) :: (1, 3, 1, 0, 0) :: (2, 47, 149, 0, 175) :: (5, 3, 2, 0, 0) :: (6, 21, 2, 15, 0) :: (9, 3, 2, 0, 0) :: (10, 0, 10, 0, 0) :: (12, 22, 2, 27, 0) :: k110_15
def k110 : Nat → List mj_O := fun t => match t with
  | 0 => k110_0
  | 15 => k110_15
  | 27 => k110_27
  | _ => []
-- 111: SockFair.darn (II)I
def k111_28 : List mj_O := (28, 5, 0, 0, 0) :: (29, 33, 11, 7, 48) :: (32, 47, 10, 0, 215) :: (35, 5, 0, 0, 0) :: (36, 33, 11, 10, 63) :: (39, 33, 7, 2, 190) :: (42, 3, 1, 0, 0) :: (43, 0, 0, 0, 0) :: (44, 5, 0, 0, 0) :: (45, 33, 11, 10, 63) :: (48, 33, 7, 2, 190) :: (51, 3, 1, 0, 0) :: (52, 38, 0, 0, 0) :: (53, 3, 2, 0, 0) :: (54, 11, 1, 0, 0) :: (55, 70, 0, 0, 231) :: (58, 42, 0, 0, 0) :: (59, 5, 0, 0, 0) :: (60, 47, 157, 0, 139) :: (63, 5, 0, 0, 0) :: (64, 33, 11, 10, 63) :: (67, 33, 7, 2, 190) :: (70, 3, 1, 0, 0) :: (71, 38, 0, 0, 0) :: (72, 26, 0, 0, 0) :: []
def k111_16 : List mj_O := (16, 5, 0, 0, 0) :: (17, 33, 11, 3, 20) :: (20, 0, 1, 0, 0) :: (21, 20, 0, 0, 0) :: (22, 38, 0, 0, 0) :: (23, 0, 1, 0, 0) :: (24, 11, 0, 0, 0) :: (25, 42, 0, 0, 0) :: (26, 1, 1, 0, 0) :: (27, 26, 0, 0, 0) :: k111_28
def k111_0 : List mj_O := (0, 5, 0, 0, 0) :: (1, 3, 1, 0, 0) :: (2, 47, 149, 0, 175) :: (5, 3, 2, 0, 0) :: (6, 0, 1, 0, 0) :: (7, 22, 2, 16, 0) :: (10, 3, 2, 0, 0) :: (11, 0, 9, 0, 0) :: (13, 22, 5, 28, 0) :: k111_16
def k111 : Nat → List mj_O := fun t => match t with
  | 0 => k111_0
  | 16 => k111_16
  | 28 => k111_28
  | _ => []
-- 112: SockFair.unravel (I)I
def k112_32 : List mj_O := (32, 5, 0, 0, 0) :: (33, 33, 11, 7, 48) :: (36, 47, 10, 0, 215) :: (39, 5, 0, 0, 0) :: (40, 33, 11, 10, 63) :: (43, 33, 7, 3, 196) :: (46, 3, 1, 0, 0) :: (47, 1, 1, 0, 0) :: (48, 42, 0, 0, 0) :: (49, 5, 0, 0, 0) :: (50, 33, 11, 10, 63) :: (53, 33, 7, 3, 196) :: (56, 3, 2, 0, 0) :: (57, 1, 1, 0, 0) :: (58, 42, 0, 0, 0) :: (59, 5, 0, 0, 0) :: (60, 47, 158, 0, 234) :: (63, 3, 2, 0, 0) :: (64, 26, 0, 0, 0) :: []
def k112_0 : List mj_O := (0, 5, 0, 0, 0) :: (1, 3, 1, 0, 0) :: (2, 47, 149, 0, 175) :: (5, 5, 0, 0, 0) :: (6, 33, 11, 10, 63) :: (9, 33, 7, 3, 196) :: (12, 3, 1, 0, 0) :: (13, 38, 0, 0, 0) :: (14, 6, 2, 0, 0) :: (15, 3, 2, 0, 0) :: (16, 1, 1, 0, 0) :: (17, 22, 1, 32, 0) :: (20, 5, 0, 0, 0) :: (21, 33, 11, 3, 20) :: (24, 0, 1, 0, 0) :: (25, 20, 0, 0, 0) :: (26, 38, 0, 0, 0) :: (27, 0, 1, 0, 0) :: (28, 11, 0, 0, 0) :: (29, 42, 0, 0, 0) :: (30, 1, 1, 0, 0) :: (31, 26, 0, 0, 0) :: k112_32
def k112 : Nat → List mj_O := fun t => match t with
  | 0 => k112_0
  | 32 => k112_32
  | _ => []
-- 113: SockFair.bind (II)Z
def k113_31 : List mj_O := (31, 5, 0, 0, 0) :: (32, 33, 11, 7, 48) :: (35, 47, 10, 0, 215) :: (38, 5, 0, 0, 0) :: (39, 33, 11, 10, 63) :: (42, 33, 7, 3, 196) :: (45, 3, 1, 0, 0) :: (46, 3, 2, 0, 0) :: (47, 42, 0, 0, 0) :: (48, 5, 0, 0, 0) :: (49, 33, 11, 10, 63) :: (52, 33, 7, 3, 196) :: (55, 3, 2, 0, 0) :: (56, 3, 1, 0, 0) :: (57, 42, 0, 0, 0) :: (58, 5, 0, 0, 0) :: (59, 47, 158, 0, 234) :: (62, 0, 1, 0, 0) :: (63, 27, 0, 0, 0) :: []
def k113_0 : List mj_O := (0, 5, 0, 0, 0) :: (1, 3, 1, 0, 0) :: (2, 47, 149, 0, 175) :: (5, 5, 0, 0, 0) :: (6, 3, 2, 0, 0) :: (7, 47, 149, 0, 175) :: (10, 5, 0, 0, 0) :: (11, 3, 1, 0, 0) :: (12, 3, 2, 0, 0) :: (13, 47, 155, 0, 237) :: (16, 21, 1, 31, 0) :: (19, 5, 0, 0, 0) :: (20, 33, 11, 3, 20) :: (23, 0, 1, 0, 0) :: (24, 20, 0, 0, 0) :: (25, 38, 0, 0, 0) :: (26, 0, 1, 0, 0) :: (27, 11, 0, 0, 0) :: (28, 42, 0, 0, 0) :: (29, 0, 0, 0, 0) :: (30, 27, 0, 0, 0) :: k113_31
def k113 : Nat → List mj_O := fun t => match t with
  | 0 => k113_0
  | 31 => k113_31
  | _ => []
-- 114: SockFair.undo ()I
def k114_12 : List mj_O := (12, 5, 0, 0, 0) :: (13, 47, 157, 0, 139) :: (16, 5, 0, 0, 0) :: (17, 33, 11, 7, 48) :: (20, 31, 1, 1, 164) :: (23, 26, 0, 0, 0) :: []
def k114_0 : List mj_O := (0, 5, 0, 0, 0) :: (1, 33, 11, 7, 48) :: (4, 47, 11, 0, 241) :: (7, 21, 1, 12, 0) :: (10, 1, 1, 0, 0) :: (11, 26, 0, 0, 0) :: k114_12
def k114 : Nat → List mj_O := fun t => match t with
  | 0 => k114_0
  | 12 => k114_12
  | _ => []
-- 115: SockFair.then (II)I
def k115_0 : List mj_O := (0, 5, 0, 0, 0) :: (1, 3, 1, 0, 0) :: (2, 47, 149, 0, 175) :: (5, 3, 2, 0, 0) :: (6, 48, 151, 0, 245) :: (9, 5, 0, 0, 0) :: (10, 3, 2, 0, 0) :: (11, 47, 153, 0, 218) :: (14, 3, 1, 0, 0) :: (15, 3, 2, 0, 0) :: (16, 47, 16, 0, 222) :: (19, 26, 0, 0, 0) :: []
def k115 : Nat → List mj_O := fun t => match t with
  | 0 => k115_0
  | _ => []
-- 116: SockFair.when (I)I
def k116_35 : List mj_O := (35, 1, 1, 0, 0) :: (36, 26, 0, 0, 0) :: []
def k116_29 : List mj_O := (29, 9, 2, 1, 0) :: (32, 23, 0, 7, 0) :: k116_35
def k116_7 : List mj_O := (7, 3, 2, 0, 0) :: (8, 0, 8, 0, 0) :: (10, 22, 4, 35, 0) :: (13, 5, 0, 0, 0) :: (14, 3, 2, 0, 0) :: (15, 47, 153, 0, 218) :: (18, 3, 1, 0, 0) :: (19, 3, 2, 0, 0) :: (20, 47, 16, 0, 222) :: (23, 1, 1, 0, 0) :: (24, 22, 0, 29, 0) :: (27, 3, 2, 0, 0) :: (28, 26, 0, 0, 0) :: k116_29
def k116_0 : List mj_O := (0, 5, 0, 0, 0) :: (1, 3, 1, 0, 0) :: (2, 47, 149, 0, 175) :: (5, 0, 0, 0, 0) :: (6, 6, 2, 0, 0) :: k116_7
def k116 : Nat → List mj_O := fun t => match t with
  | 0 => k116_0
  | 7 => k116_7
  | 29 => k116_29
  | 35 => k116_35
  | _ => []
-- 117: SockFair.worn (I)I
def k117_0 : List mj_O := (0, 5, 0, 0, 0) :: (1, 3, 1, 0, 0) :: (2, 47, 149, 0, 175) :: (5, 0, 9, 0, 0) :: (7, 5, 0, 0, 0) :: (8, 33, 11, 10, 63) :: (11, 33, 7, 2, 190) :: (14, 3, 1, 0, 0) :: (15, 38, 0, 0, 0) :: (16, 11, 1, 0, 0) :: (17, 26, 0, 0, 0) :: []
def k117 : Nat → List mj_O := fun t => match t with
  | 0 => k117_0
  | _ => []
-- 118: SockFair.couples (I)I
def k118_0 : List mj_O := (0, 3, 1, 0, 0) :: (1, 48, 151, 0, 245) :: (4, 5, 0, 0, 0) :: (5, 3, 1, 0, 0) :: (6, 47, 153, 0, 218) :: (9, 3, 1, 0, 0) :: (10, 47, 18, 0, 248) :: (13, 26, 0, 0, 0) :: []
def k118 : Nat → List mj_O := fun t => match t with
  | 0 => k118_0
  | _ => []
-- 119: SockFair.single (I)I
def k119_0 : List mj_O := (0, 3, 1, 0, 0) :: (1, 48, 151, 0, 245) :: (4, 5, 0, 0, 0) :: (5, 3, 1, 0, 0) :: (6, 47, 153, 0, 218) :: (9, 3, 1, 0, 0) :: (10, 47, 17, 0, 251) :: (13, 26, 0, 0, 0) :: []
def k119 : Nat → List mj_O := fun t => match t with
  | 0 => k119_0
  | _ => []
-- 120: SockFair.lasts (I)I
def k120_22 : List mj_O := (22, 5, 0, 0, 0) :: (23, 33, 11, 10, 63) :: (26, 33, 7, 2, 190) :: (29, 3, 1, 0, 0) :: (30, 38, 0, 0, 0) :: (31, 5, 0, 0, 0) :: (32, 33, 11, 10, 63) :: (35, 33, 7, 2, 190) :: (38, 3, 2, 0, 0) :: (39, 38, 0, 0, 0) :: (40, 70, 0, 0, 231) :: (43, 6, 3, 0, 0) :: (44, 0, 1, 0, 0) :: (45, 0, 9, 0, 0) :: (47, 3, 3, 0, 0) :: (48, 11, 1, 0, 0) :: (49, 70, 0, 0, 231) :: (52, 26, 0, 0, 0) :: []
def k120_0 : List mj_O := (0, 5, 0, 0, 0) :: (1, 3, 1, 0, 0) :: (2, 47, 149, 0, 175) :: (5, 5, 0, 0, 0) :: (6, 33, 11, 10, 63) :: (9, 33, 7, 3, 196) :: (12, 3, 1, 0, 0) :: (13, 38, 0, 0, 0) :: (14, 6, 2, 0, 0) :: (15, 3, 2, 0, 0) :: (16, 1, 1, 0, 0) :: (17, 22, 1, 22, 0) :: (20, 1, 1, 0, 0) :: (21, 26, 0, 0, 0) :: k120_22
def k120 : Nat → List mj_O := fun t => match t with
  | 0 => k120_0
  | 22 => k120_22
  | _ => []
-- 121: SockFair.closest ()I
def k121_0 : List mj_O := (0, 5, 0, 0, 0) :: (1, 47, 154, 0, 157) :: (4, 47, 76, 0, 254) :: (7, 26, 0, 0, 0) :: []
def k121 : Nat → List mj_O := fun t => match t with
  | 0 => k121_0
  | _ => []
-- 122: SockFair.lonely ()I
def k122_0 : List mj_O := (0, 5, 0, 0, 0) :: (1, 47, 154, 0, 157) :: (4, 47, 75, 0, 257) :: (7, 26, 0, 0, 0) :: []
def k122 : Nat → List mj_O := fun t => match t with
  | 0 => k122_0
  | _ => []
-- 123: SockFair.faithful ()I
def k123_0 : List mj_O := (0, 5, 0, 0, 0) :: (1, 47, 154, 0, 157) :: (4, 47, 77, 0, 260) :: (7, 26, 0, 0, 0) :: []
def k123 : Nat → List mj_O := fun t => match t with
  | 0 => k123_0
  | _ => []
-- 124: SockFair.most (I)I
def k124_48 : List mj_O := (48, 5, 0, 0, 0) :: (49, 33, 11, 15, 97) :: (52, 5, 0, 0, 0) :: (53, 33, 11, 11, 69) :: (56, 33, 4, 2, 266) :: (59, 3, 2, 0, 0) :: (60, 47, 93, 0, 273) :: (63, 5, 0, 0, 0) :: (64, 33, 11, 15, 97) :: (67, 33, 10, 0, 277) :: (70, 3, 1, 0, 0) :: (71, 38, 0, 0, 0) :: (72, 26, 0, 0, 0) :: []
def k124_10 : List mj_O := (10, 5, 0, 0, 0) :: (11, 33, 11, 11, 69) :: (14, 0, 1, 0, 0) :: (15, 47, 32, 0, 263) :: (18, 5, 0, 0, 0) :: (19, 47, 152, 0, 150) :: (22, 6, 2, 0, 0) :: (23, 5, 0, 0, 0) :: (24, 33, 11, 15, 97) :: (27, 5, 0, 0, 0) :: (28, 33, 11, 11, 69) :: (31, 33, 4, 2, 266) :: (34, 0, 0, 0, 0) :: (35, 3, 2, 0, 0) :: (36, 47, 92, 0, 269) :: (39, 16, 0, 0, 0) :: (40, 6, 3, 0, 0) :: (41, 3, 1, 0, 0) :: (42, 1, 1, 0, 0) :: (43, 22, 1, 48, 0) :: (46, 3, 3, 0, 0) :: (47, 26, 0, 0, 0) :: k124_48
def k124_0 : List mj_O := (0, 3, 1, 0, 0) :: (1, 1, 1, 0, 0) :: (2, 22, 0, 10, 0) :: (5, 5, 0, 0, 0) :: (6, 3, 1, 0, 0) :: (7, 47, 149, 0, 175) :: k124_10
def k124 : Nat → List mj_O := fun t => match t with
  | 0 => k124_0
  | 10 => k124_10
  | 48 => k124_48
  | _ => []
-- 125: SockFair.best ()J
def k125_0 : List mj_O := (0, 5, 0, 0, 0) :: (1, 33, 11, 11, 69) :: (4, 0, 1, 0, 0) :: (5, 47, 32, 0, 263) :: (8, 5, 0, 0, 0) :: (9, 33, 11, 15, 97) :: (12, 5, 0, 0, 0) :: (13, 33, 11, 11, 69) :: (16, 33, 4, 2, 266) :: (19, 0, 1, 0, 0) :: (20, 5, 0, 0, 0) :: (21, 47, 152, 0, 150) :: (24, 47, 92, 0, 269) :: (27, 28, 0, 0, 0) :: []
def k125 : Nat → List mj_O := fun t => match t with
  | 0 => k125_0
  | _ => []
-- 126: SockFair.rests (I)I
def k126_50 : List mj_O := (50, 26, 0, 0, 0) :: []
def k126_41 : List mj_O := (41, 5, 0, 0, 0) :: (42, 33, 11, 15, 97) :: (45, 33, 10, 3, 286) :: (48, 3, 1, 0, 0) :: (49, 38, 0, 0, 0) :: k126_50
def k126_10 : List mj_O := (10, 5, 0, 0, 0) :: (11, 47, 154, 0, 157) :: (14, 19, 0, 0, 0) :: (15, 5, 0, 0, 0) :: (16, 33, 11, 15, 97) :: (19, 5, 0, 0, 0) :: (20, 47, 152, 0, 150) :: (23, 47, 96, 0, 280) :: (26, 3, 1, 0, 0) :: (27, 1, 1, 0, 0) :: (28, 22, 1, 41, 0) :: (31, 5, 0, 0, 0) :: (32, 33, 11, 15, 97) :: (35, 31, 10, 2, 283) :: (38, 23, 0, 50, 0) :: k126_41
def k126_0 : List mj_O := (0, 3, 1, 0, 0) :: (1, 1, 1, 0, 0) :: (2, 22, 0, 10, 0) :: (5, 5, 0, 0, 0) :: (6, 3, 1, 0, 0) :: (7, 47, 149, 0, 175) :: k126_10
def k126 : Nat → List mj_O := fun t => match t with
  | 0 => k126_0
  | 10 => k126_10
  | 41 => k126_41
  | 50 => k126_50
  | _ => []
-- 127: SockFair.mates (I)I
def k127_0 : List mj_O := (0, 5, 0, 0, 0) :: (1, 3, 1, 0, 0) :: (2, 47, 149, 0, 175) :: (5, 5, 0, 0, 0) :: (6, 47, 154, 0, 157) :: (9, 19, 0, 0, 0) :: (10, 5, 0, 0, 0) :: (11, 33, 11, 15, 97) :: (14, 5, 0, 0, 0) :: (15, 47, 152, 0, 150) :: (18, 47, 96, 0, 280) :: (21, 5, 0, 0, 0) :: (22, 33, 11, 15, 97) :: (25, 33, 10, 4, 289) :: (28, 3, 1, 0, 0) :: (29, 38, 0, 0, 0) :: (30, 26, 0, 0, 0) :: []
def k127 : Nat → List mj_O := fun t => match t with
  | 0 => k127_0
  | _ => []
-- 128: SockFair.colour (I)I
def k128_11 : List mj_O := (11, 5, 0, 0, 0) :: (12, 33, 11, 11, 69) :: (15, 47, 35, 0, 296) :: (18, 5, 0, 0, 0) :: (19, 33, 11, 15, 97) :: (22, 5, 0, 0, 0) :: (23, 33, 11, 11, 69) :: (26, 33, 4, 3, 299) :: (29, 0, 0, 0, 0) :: (30, 5, 0, 0, 0) :: (31, 47, 152, 0, 150) :: (34, 47, 92, 0, 269) :: (37, 16, 0, 0, 0) :: (38, 26, 0, 0, 0) :: []
def k128_0 : List mj_O := (0, 3, 1, 0, 0) :: (1, 0, 1, 0, 0) :: (2, 48, 150, 0, 292) :: (5, 3, 1, 0, 0) :: (6, 21, 1, 11, 0) :: (9, 0, 0, 0, 0) :: (10, 26, 0, 0, 0) :: k128_11
def k128 : Nat → List mj_O := fun t => match t with
  | 0 => k128_0
  | 11 => k128_11
  | _ => []
-- 129: SockFair.way (III)I
def k129_26 : List mj_O := (26, 5, 0, 0, 0) :: (27, 3, 1, 0, 0) :: (28, 3, 2, 0, 0) :: (29, 3, 3, 0, 0) :: (30, 47, 130, 0, 302) :: (33, 26, 0, 0, 0) :: []
def k129_0 : List mj_O := (0, 5, 0, 0, 0) :: (1, 3, 1, 0, 0) :: (2, 47, 149, 0, 175) :: (5, 5, 0, 0, 0) :: (6, 3, 2, 0, 0) :: (7, 47, 149, 0, 175) :: (10, 3, 3, 0, 0) :: (11, 0, 1, 0, 0) :: (12, 48, 150, 0, 292) :: (15, 5, 0, 0, 0) :: (16, 3, 1, 0, 0) :: (17, 3, 2, 0, 0) :: (18, 47, 155, 0, 237) :: (21, 21, 1, 26, 0) :: (24, 1, 1, 0, 0) :: (25, 26, 0, 0, 0) :: k129_26
def k129 : Nat → List mj_O := fun t => match t with
  | 0 => k129_0
  | 26 => k129_26
  | _ => []
-- 130: SockFair.leastWay (III)I
def k130_202 : List mj_O := (202, 26, 0, 0, 0) :: []
def k130_200 : List mj_O := (200, 3, 7, 0, 0) :: k130_202
def k130_154 : List mj_O := (154, 5, 0, 0, 0) :: (155, 33, 11, 10, 63) :: (158, 33, 7, 1, 178) :: (161, 3, 1, 0, 0) :: (162, 3, 4, 0, 0) :: (164, 42, 0, 0, 0) :: (165, 5, 0, 0, 0) :: (166, 33, 11, 10, 63) :: (169, 33, 7, 2, 190) :: (172, 3, 1, 0, 0) :: (173, 3, 5, 0, 0) :: (175, 42, 0, 0, 0) :: (176, 5, 0, 0, 0) :: (177, 33, 11, 11, 69) :: (180, 3, 1, 0, 0) :: (181, 0, 1, 0, 0) :: (182, 47, 33, 0, 309) :: (185, 3, 3, 0, 0) :: (186, 21, 1, 200, 0) :: (189, 3, 7, 0, 0) :: (191, 1, 1, 0, 0) :: (192, 22, 0, 200, 0) :: (195, 3, 6, 0, 0) :: (197, 23, 0, 202, 0) :: k130_200
def k130_148 : List mj_O := (148, 9, 8, 1, 0) :: (151, 23, 0, 41, 0) :: k130_154
def k130_142 : List mj_O := (142, 9, 9, 1, 0) :: (145, 23, 0, 51, 0) :: k130_148
def k130_72 : List mj_O := (72, 11, 0, 0, 0) :: (73, 6, 10, 0, 0) :: (75, 3, 10, 0, 0) :: (77, 3, 6, 0, 0) :: (79, 22, 3, 142, 0) :: (82, 5, 0, 0, 0) :: (83, 33, 11, 10, 63) :: (86, 33, 7, 1, 178) :: (89, 3, 1, 0, 0) :: (90, 3, 8, 0, 0) :: (92, 42, 0, 0, 0) :: (93, 5, 0, 0, 0) :: (94, 33, 11, 10, 63) :: (97, 33, 7, 2, 190) :: (100, 3, 1, 0, 0) :: (101, 3, 5, 0, 0) :: (103, 3, 9, 0, 0) :: (105, 11, 1, 0, 0) :: (106, 42, 0, 0, 0) :: (107, 5, 0, 0, 0) :: (108, 33, 11, 11, 69) :: (111, 3, 1, 0, 0) :: (112, 0, 1, 0, 0) :: (113, 47, 33, 0, 309) :: (116, 5, 0, 0, 0) :: (117, 33, 11, 13, 82) :: (120, 3, 1, 0, 0) :: (121, 47, 20, 0, 312) :: (124, 3, 2, 0, 0) :: (125, 22, 1, 142, 0) :: (128, 3, 10, 0, 0) :: (130, 6, 6, 0, 0) :: (132, 0, 10, 0, 0) :: (134, 3, 8, 0, 0) :: (136, 11, 2, 0, 0) :: (137, 3, 9, 0, 0) :: (139, 11, 0, 0, 0) :: (140, 6, 7, 0, 0) :: k130_142
def k130_71 : List mj_O := (71, 0, 3, 0, 0) :: k130_72
def k130_51 : List mj_O := (51, 3, 9, 0, 0) :: (53, 3, 5, 0, 0) :: (55, 22, 4, 148, 0) :: (58, 3, 9, 0, 0) :: (60, 3, 8, 0, 0) :: (62, 3, 4, 0, 0) :: (64, 22, 1, 71, 0) :: (67, 0, 0, 0, 0) :: (68, 23, 0, 72, 0) :: k130_71
def k130_41 : List mj_O := (41, 3, 8, 0, 0) :: (43, 0, 10, 0, 0) :: (45, 22, 3, 154, 0) :: (48, 0, 0, 0, 0) :: (49, 6, 9, 0, 0) :: k130_51
def k130_0 : List mj_O := (0, 5, 0, 0, 0) :: (1, 33, 11, 10, 63) :: (4, 33, 7, 1, 178) :: (7, 3, 1, 0, 0) :: (8, 38, 0, 0, 0) :: (9, 6, 4, 0, 0) :: (11, 5, 0, 0, 0) :: (12, 33, 11, 10, 63) :: (15, 33, 7, 2, 190) :: (18, 3, 1, 0, 0) :: (19, 38, 0, 0, 0) :: (20, 6, 5, 0, 0) :: (22, 0, 2147483647, 0, 308) :: (25, 6, 6, 0, 0) :: (27, 1, 1, 0, 0) :: (28, 6, 7, 0, 0) :: (30, 5, 0, 0, 0) :: (31, 33, 11, 11, 69) :: (34, 0, 1, 0, 0) :: (35, 47, 32, 0, 263) :: (38, 0, 0, 0, 0) :: (39, 6, 8, 0, 0) :: k130_41
def k130 : Nat → List mj_O := fun t => match t with
  | 0 => k130_0
  | 41 => k130_41
  | 51 => k130_51
  | 71 => k130_71
  | 72 => k130_72
  | 142 => k130_142
  | 148 => k130_148
  | 154 => k130_154
  | 200 => k130_200
  | 202 => k130_202
  | _ => []
-- 131: SockFair.knit (I)I
def k131_0 : List mj_O := (0, 5, 0, 0, 0) :: (1, 3, 1, 0, 0) :: (2, 47, 149, 0, 175) :: (5, 5, 0, 0, 0) :: (6, 33, 11, 5, 29) :: (9, 3, 1, 0, 0) :: (10, 5, 0, 0, 0) :: (11, 33, 11, 10, 63) :: (14, 47, 89, 0, 315) :: (17, 26, 0, 0, 0) :: []
def k131 : Nat → List mj_O := fun t => match t with
  | 0 => k131_0
  | _ => []
-- 132: SockFair.darner ()I
def k132_122 : List mj_O := (122, 3, 2, 0, 0) :: (123, 26, 0, 0, 0) :: []
def k132_116 : List mj_O := (116, 9, 3, 1, 0) :: (119, 23, 0, 14, 0) :: k132_122
def k132_96 : List mj_O := (96, 5, 0, 0, 0) :: (97, 33, 11, 10, 63) :: (100, 33, 7, 2, 190) :: (103, 3, 3, 0, 0) :: (104, 3, 4, 0, 0) :: (106, 42, 0, 0, 0) :: (107, 5, 0, 0, 0) :: (108, 33, 11, 11, 69) :: (111, 3, 3, 0, 0) :: (112, 0, 5, 0, 0) :: (113, 47, 33, 0, 309) :: k132_116
def k132_14 : List mj_O := (14, 3, 3, 0, 0) :: (15, 5, 0, 0, 0) :: (16, 33, 11, 5, 29) :: (19, 31, 9, 0, 142) :: (22, 22, 3, 122, 0) :: (25, 5, 0, 0, 0) :: (26, 33, 11, 10, 63) :: (29, 33, 7, 2, 190) :: (32, 3, 3, 0, 0) :: (33, 38, 0, 0, 0) :: (34, 6, 4, 0, 0) :: (36, 3, 4, 0, 0) :: (38, 21, 5, 116, 0) :: (41, 5, 0, 0, 0) :: (42, 33, 11, 10, 63) :: (45, 33, 7, 2, 190) :: (48, 3, 3, 0, 0) :: (49, 0, 0, 0, 0) :: (50, 42, 0, 0, 0) :: (51, 5, 0, 0, 0) :: (52, 33, 11, 11, 69) :: (55, 3, 3, 0, 0) :: (56, 0, 5, 0, 0) :: (57, 47, 33, 0, 309) :: (60, 5, 0, 0, 0) :: (61, 33, 11, 13, 82) :: (64, 47, 15, 0, 319) :: (67, 5, 0, 0, 0) :: (68, 33, 11, 13, 82) :: (71, 0, 5, 0, 0) :: (72, 47, 21, 0, 322) :: (75, 5, 0, 0, 0) :: (76, 33, 11, 13, 82) :: (79, 0, 5, 0, 0) :: (80, 47, 18, 0, 248) :: (83, 6, 5, 0, 0) :: (85, 3, 5, 0, 0) :: (87, 3, 1, 0, 0) :: (88, 22, 5, 96, 0) :: (91, 3, 5, 0, 0) :: (93, 6, 1, 0, 0) :: (94, 3, 3, 0, 0) :: (95, 6, 2, 0, 0) :: k132_96
def k132_0 : List mj_O := (0, 5, 0, 0, 0) :: (1, 0, 5, 0, 0) :: (2, 47, 153, 0, 218) :: (5, 0, 5, 0, 0) :: (6, 47, 18, 0, 248) :: (9, 6, 1, 0, 0) :: (10, 1, 1, 0, 0) :: (11, 6, 2, 0, 0) :: (12, 0, 0, 0, 0) :: (13, 6, 3, 0, 0) :: k132_14
def k132 : Nat → List mj_O := fun t => match t with
  | 0 => k132_0
  | 14 => k132_14
  | 96 => k132_96
  | 116 => k132_116
  | 122 => k132_122
  | _ => []
-- 133: SockFair.see (III)I
def k133_56 : List mj_O := (56, 5, 0, 0, 0) :: (57, 33, 11, 16, 106) :: (60, 0, 0, 0, 0) :: (61, 35, 3, 0, 329) :: (64, 5, 0, 0, 0) :: (65, 33, 11, 7, 48) :: (68, 31, 1, 2, 167) :: (71, 26, 0, 0, 0) :: []
def k133_44 : List mj_O := (44, 5, 0, 0, 0) :: (45, 33, 11, 3, 20) :: (48, 0, 2, 0, 0) :: (49, 20, 0, 0, 0) :: (50, 38, 0, 0, 0) :: (51, 0, 1, 0, 0) :: (52, 11, 0, 0, 0) :: (53, 42, 0, 0, 0) :: (54, 1, 1, 0, 0) :: (55, 26, 0, 0, 0) :: k133_56
def k133_15 : List mj_O := (15, 3, 2, 0, 0) :: (16, 0, 1, 0, 0) :: (17, 22, 2, 44, 0) :: (20, 3, 2, 0, 0) :: (21, 0, 20, 0, 0) :: (23, 22, 4, 44, 0) :: (26, 3, 1, 0, 0) :: (27, 3, 3, 0, 0) :: (28, 22, 0, 44, 0) :: (31, 5, 0, 0, 0) :: (32, 33, 11, 7, 48) :: (35, 3, 1, 0, 0) :: (36, 3, 2, 0, 0) :: (37, 3, 3, 0, 0) :: (38, 47, 12, 0, 325) :: (41, 21, 1, 56, 0) :: k133_44
def k133_0 : List mj_O := (0, 5, 0, 0, 0) :: (1, 3, 1, 0, 0) :: (2, 47, 149, 0, 175) :: (5, 3, 3, 0, 0) :: (6, 1, 1, 0, 0) :: (7, 22, 0, 15, 0) :: (10, 5, 0, 0, 0) :: (11, 3, 3, 0, 0) :: (12, 47, 149, 0, 175) :: k133_15
def k133 : Nat → List mj_O := fun t => match t with
  | 0 => k133_0
  | 15 => k133_15
  | 44 => k133_44
  | 56 => k133_56
  | _ => []
-- 134: SockFair.forget ()V
def k134_0 : List mj_O := (0, 5, 0, 0, 0) :: (1, 33, 11, 7, 48) :: (4, 0, 0, 0, 0) :: (5, 34, 1, 2, 167) :: (8, 5, 0, 0, 0) :: (9, 33, 11, 16, 106) :: (12, 0, 0, 0, 0) :: (13, 35, 3, 0, 329) :: (16, 25, 0, 0, 0) :: []
def k134 : Nat → List mj_O := fun t => match t with
  | 0 => k134_0
  | _ => []
-- 135: SockFair.dyed (I)I
def k135_60 : List mj_O := (60, 26, 0, 0, 0) :: []
def k135_53 : List mj_O := (53, 5, 0, 0, 0) :: (54, 33, 11, 16, 106) :: (57, 31, 3, 2, 342) :: k135_60
def k135_32 : List mj_O := (32, 5, 0, 0, 0) :: (33, 33, 11, 16, 106) :: (36, 47, 25, 0, 336) :: (39, 3, 1, 0, 0) :: (40, 21, 1, 53, 0) :: (43, 5, 0, 0, 0) :: (44, 33, 11, 16, 106) :: (47, 31, 3, 1, 339) :: (50, 23, 0, 60, 0) :: k135_53
def k135_31 : List mj_O := (31, 26, 0, 0, 0) :: k135_32
def k135_30 : List mj_O := (30, 0, 0, 0, 0) :: k135_31
def k135_0 : List mj_O := (0, 3, 1, 0, 0) :: (1, 0, 2, 0, 0) :: (2, 48, 150, 0, 292) :: (5, 3, 1, 0, 0) :: (6, 0, 2, 0, 0) :: (7, 22, 1, 32, 0) :: (10, 5, 0, 0, 0) :: (11, 33, 11, 7, 48) :: (14, 5, 0, 0, 0) :: (15, 0, 8, 0, 0) :: (17, 47, 153, 0, 218) :: (20, 47, 13, 0, 332) :: (23, 21, 0, 30, 0) :: (26, 0, 1, 0, 0) :: (27, 23, 0, 31, 0) :: k135_30
def k135 : Nat → List mj_O := fun t => match t with
  | 0 => k135_0
  | 30 => k135_30
  | 31 => k135_31
  | 32 => k135_32
  | 53 => k135_53
  | 60 => k135_60
  | _ => []
-- 136: SockFair.next (I)I
def k136_40 : List mj_O := (40, 26, 0, 0, 0) :: []
def k136_26 : List mj_O := (26, 5, 0, 0, 0) :: (27, 33, 11, 16, 106) :: (30, 5, 0, 0, 0) :: (31, 33, 11, 16, 106) :: (34, 47, 29, 0, 345) :: (37, 47, 30, 0, 348) :: k136_40
def k136_0 : List mj_O := (0, 3, 1, 0, 0) :: (1, 0, 1, 0, 0) :: (2, 48, 150, 0, 292) :: (5, 5, 0, 0, 0) :: (6, 33, 11, 16, 106) :: (9, 47, 25, 0, 336) :: (12, 3, 1, 0, 0) :: (13, 21, 1, 26, 0) :: (16, 5, 0, 0, 0) :: (17, 33, 11, 16, 106) :: (20, 47, 29, 0, 345) :: (23, 23, 0, 40, 0) :: k136_26
def k136 : Nat → List mj_O := fun t => match t with
  | 0 => k136_0
  | 26 => k136_26
  | 40 => k136_40
  | _ => []
-- 137: SockFair.basket (II)I
def k137_102 : List mj_O := (102, 0, 1, 0, 0) :: (103, 3, 6, 0, 0) :: (105, 70, 0, 0, 231) :: (108, 11, 3, 0, 0) :: (109, 26, 0, 0, 0) :: []
def k137_100 : List mj_O := (100, 3, 5, 0, 0) :: k137_102
def k137_67 : List mj_O := (67, 3, 1, 0, 0) :: (68, 3, 3, 0, 0) :: (69, 48, 138, 0, 353) :: (72, 6, 4, 0, 0) :: (74, 3, 1, 0, 0) :: (75, 0, 840, 0, 0) :: (78, 11, 2, 0, 0) :: (79, 6, 5, 0, 0) :: (81, 3, 4, 0, 0) :: (83, 3, 5, 0, 0) :: (85, 48, 139, 0, 356) :: (88, 6, 6, 0, 0) :: (90, 3, 2, 0, 0) :: (91, 0, 1, 0, 0) :: (92, 22, 1, 100, 0) :: (95, 3, 4, 0, 0) :: (97, 23, 0, 102, 0) :: k137_100
def k137_61 : List mj_O := (61, 3, 2, 0, 0) :: (62, 21, 1, 67, 0) :: (65, 3, 3, 0, 0) :: (66, 26, 0, 0, 0) :: k137_67
def k137_55 : List mj_O := (55, 9, 4, 1, 0) :: (58, 23, 0, 32, 0) :: k137_61
def k137_32 : List mj_O := (32, 3, 4, 0, 0) :: (34, 3, 1, 0, 0) :: (35, 22, 3, 61, 0) :: (38, 3, 1, 0, 0) :: (39, 3, 4, 0, 0) :: (41, 48, 138, 0, 353) :: (44, 3, 1, 0, 0) :: (45, 3, 3, 0, 0) :: (46, 48, 138, 0, 353) :: (49, 22, 5, 55, 0) :: (52, 3, 4, 0, 0) :: (54, 6, 3, 0, 0) :: k137_55
def k137_27 : List mj_O := (27, 0, 0, 0, 0) :: (28, 6, 3, 0, 0) :: (29, 0, 1, 0, 0) :: (30, 6, 4, 0, 0) :: k137_32
def k137_16 : List mj_O := (16, 30, 1, 351, 122) :: k137_27
def k137_0 : List mj_O := (0, 3, 2, 0, 0) :: (1, 0, 2, 0, 0) :: (2, 48, 150, 0, 292) :: (5, 3, 1, 0, 0) :: (6, 0, 1, 0, 0) :: (7, 22, 2, 16, 0) :: (10, 3, 1, 0, 0) :: (11, 0, 9, 0, 0) :: (13, 22, 5, 27, 0) :: k137_16
def k137 : Nat → List mj_O := fun t => match t with
  | 0 => k137_0
  | 16 => k137_16
  | 27 => k137_27
  | 32 => k137_32
  | 55 => k137_55
  | 61 => k137_61
  | 67 => k137_67
  | 100 => k137_100
  | 102 => k137_102
  | _ => []
-- 138: SockFair.basketLuck (II)I
def k138_37 : List mj_O := (37, 3, 2, 0, 0) :: (38, 26, 0, 0, 0) :: []
def k138_12 : List mj_O := (12, 3, 3, 0, 0) :: (13, 3, 0, 0, 0) :: (14, 22, 3, 37, 0) :: (17, 3, 2, 0, 0) :: (18, 3, 1, 0, 0) :: (19, 0, 840, 0, 0) :: (22, 0, 1, 0, 0) :: (23, 3, 3, 0, 0) :: (24, 70, 0, 0, 231) :: (27, 11, 3, 0, 0) :: (28, 11, 2, 0, 0) :: (29, 11, 0, 0, 0) :: (30, 6, 2, 0, 0) :: (31, 9, 3, 1, 0) :: (34, 23, 0, 12, 0) :: k138_37
def k138_8 : List mj_O := (8, 0, 0, 0, 0) :: (9, 6, 2, 0, 0) :: (10, 3, 1, 0, 0) :: (11, 6, 3, 0, 0) :: k138_12
def k138_0 : List mj_O := (0, 3, 1, 0, 0) :: (1, 21, 1, 8, 0) :: (4, 0, 840, 0, 0) :: (7, 26, 0, 0, 0) :: k138_8
def k138 : Nat → List mj_O := fun t => match t with
  | 0 => k138_0
  | 8 => k138_8
  | 12 => k138_12
  | 37 => k138_37
  | _ => []
-- 139: SockFair.commonDivisor (II)I
def k139_34 : List mj_O := (34, 3, 2, 0, 0) :: (35, 26, 0, 0, 0) :: []
def k139_7 : List mj_O := (7, 3, 4, 0, 0) :: (9, 0, 64, 0, 0) :: (11, 22, 3, 34, 0) :: (14, 3, 3, 0, 0) :: (15, 21, 0, 34, 0) :: (18, 3, 2, 0, 0) :: (19, 3, 3, 0, 0) :: (20, 11, 4, 0, 0) :: (21, 6, 5, 0, 0) :: (23, 3, 3, 0, 0) :: (24, 6, 2, 0, 0) :: (25, 3, 5, 0, 0) :: (27, 6, 3, 0, 0) :: (28, 9, 4, 1, 0) :: (31, 23, 0, 7, 0) :: k139_34
def k139_0 : List mj_O := (0, 3, 0, 0, 0) :: (1, 6, 2, 0, 0) :: (2, 3, 1, 0, 0) :: (3, 6, 3, 0, 0) :: (4, 0, 0, 0, 0) :: (5, 6, 4, 0, 0) :: k139_7
def k139 : Nat → List mj_O := fun t => match t with
  | 0 => k139_0
  | 7 => k139_7
  | 34 => k139_34
  | _ => []
-- 140: SockFair.game (III)I
def k140_96 : List mj_O := (96, 26, 0, 0, 0) :: []
def k140_94 : List mj_O := (94, 3, 5, 0, 0) :: k140_96
def k140_85 : List mj_O := (85, 3, 3, 0, 0) :: (86, 21, 1, 94, 0) :: (89, 3, 4, 0, 0) :: (91, 23, 0, 96, 0) :: k140_94
def k140_79 : List mj_O := (79, 10, 6, 1, 0) :: (82, 23, 0, 40, 0) :: k140_85
def k140_40 : List mj_O := (40, 3, 6, 0, 0) :: (42, 21, 2, 85, 0) :: (45, 5, 0, 0, 0) :: (46, 3, 1, 0, 0) :: (47, 3, 6, 0, 0) :: (49, 0, 1, 0, 0) :: (50, 11, 6, 0, 0) :: (51, 3, 2, 0, 0) :: (52, 3, 6, 0, 0) :: (54, 0, 1, 0, 0) :: (55, 11, 8, 0, 0) :: (56, 47, 141, 0, 361) :: (59, 21, 0, 79, 0) :: (62, 9, 4, 1, 0) :: (65, 0, 10, 0, 0) :: (67, 3, 6, 0, 0) :: (69, 0, 1, 0, 0) :: (70, 11, 6, 0, 0) :: (71, 11, 2, 0, 0) :: (72, 3, 6, 0, 0) :: (74, 0, 1, 0, 0) :: (75, 11, 8, 0, 0) :: (76, 11, 0, 0, 0) :: (77, 6, 5, 0, 0) :: k140_79
def k140_31 : List mj_O := (31, 0, 0, 0, 0) :: (32, 6, 4, 0, 0) :: (34, 1, 1, 0, 0) :: (35, 6, 5, 0, 0) :: (37, 0, 3, 0, 0) :: (38, 6, 6, 0, 0) :: k140_40
def k140_0 : List mj_O := (0, 5, 0, 0, 0) :: (1, 3, 1, 0, 0) :: (2, 47, 149, 0, 175) :: (5, 5, 0, 0, 0) :: (6, 3, 2, 0, 0) :: (7, 47, 149, 0, 175) :: (10, 3, 3, 0, 0) :: (11, 0, 1, 0, 0) :: (12, 48, 150, 0, 292) :: (15, 3, 1, 0, 0) :: (16, 3, 2, 0, 0) :: (17, 22, 1, 31, 0) :: (20, 30, 1, 359, 122) :: k140_31
def k140 : Nat → List mj_O := fun t => match t with
  | 0 => k140_0
  | 31 => k140_31
  | 40 => k140_40
  | 79 => k140_79
  | 85 => k140_85
  | 94 => k140_94
  | 96 => k140_96
  | _ => []
-- 141: SockFair.isGameAtRest (IIII)Z
def k141_51 : List mj_O := (51, 27, 0, 0, 0) :: []
def k141_50 : List mj_O := (50, 0, 0, 0, 0) :: k141_51
def k141_0 : List mj_O := (0, 5, 0, 0, 0) :: (1, 3, 1, 0, 0) :: (2, 3, 2, 0, 0) :: (3, 3, 3, 0, 0) :: (4, 3, 4, 0, 0) :: (6, 47, 142, 0, 365) :: (9, 5, 0, 0, 0) :: (10, 3, 1, 0, 0) :: (11, 0, 1, 0, 0) :: (12, 3, 2, 0, 0) :: (13, 11, 1, 0, 0) :: (14, 3, 3, 0, 0) :: (15, 3, 4, 0, 0) :: (17, 47, 142, 0, 365) :: (20, 22, 2, 50, 0) :: (23, 5, 0, 0, 0) :: (24, 3, 3, 0, 0) :: (25, 3, 4, 0, 0) :: (27, 3, 1, 0, 0) :: (28, 3, 2, 0, 0) :: (29, 47, 142, 0, 365) :: (32, 5, 0, 0, 0) :: (33, 3, 3, 0, 0) :: (34, 0, 1, 0, 0) :: (35, 3, 4, 0, 0) :: (37, 11, 1, 0, 0) :: (38, 3, 1, 0, 0) :: (39, 3, 2, 0, 0) :: (40, 47, 142, 0, 365) :: (43, 22, 2, 50, 0) :: (46, 0, 1, 0, 0) :: (47, 23, 0, 51, 0) :: k141_50
def k141 : Nat → List mj_O := fun t => match t with
  | 0 => k141_0
  | 50 => k141_50
  | 51 => k141_51
  | _ => []
-- 142: SockFair.gain (IIII)I
def k142_76 : List mj_O := (76, 6, 8, 0, 0) :: (78, 3, 7, 0, 0) :: (80, 3, 8, 0, 0) :: (82, 0, 2, 0, 0) :: (83, 11, 3, 0, 0) :: (84, 11, 1, 0, 0) :: (85, 3, 2, 0, 0) :: (86, 11, 1, 0, 0) :: (87, 26, 0, 0, 0) :: []
def k142_75 : List mj_O := (75, 0, 0, 0, 0) :: k142_76
def k142_39 : List mj_O := (39, 6, 6, 0, 0) :: (41, 0, 0, 0, 0) :: (42, 5, 0, 0, 0) :: (43, 3, 1, 0, 0) :: (44, 3, 5, 0, 0) :: (46, 3, 3, 0, 0) :: (47, 3, 6, 0, 0) :: (49, 47, 156, 0, 208) :: (52, 70, 0, 0, 231) :: (55, 6, 7, 0, 0) :: (57, 3, 4, 0, 0) :: (59, 0, 1, 0, 0) :: (60, 22, 1, 75, 0) :: (63, 5, 0, 0, 0) :: (64, 33, 11, 10, 63) :: (67, 33, 7, 2, 190) :: (70, 3, 3, 0, 0) :: (71, 38, 0, 0, 0) :: (72, 23, 0, 76, 0) :: k142_75
def k142_30 : List mj_O := (30, 5, 0, 0, 0) :: (31, 33, 11, 10, 63) :: (34, 33, 7, 2, 190) :: (37, 3, 3, 0, 0) :: (38, 38, 0, 0, 0) :: k142_39
def k142_18 : List mj_O := (18, 6, 5, 0, 0) :: (20, 3, 4, 0, 0) :: (22, 0, 1, 0, 0) :: (23, 22, 1, 30, 0) :: (26, 0, 0, 0, 0) :: (27, 23, 0, 39, 0) :: k142_30
def k142_9 : List mj_O := (9, 5, 0, 0, 0) :: (10, 33, 11, 10, 63) :: (13, 33, 7, 2, 190) :: (16, 3, 1, 0, 0) :: (17, 38, 0, 0, 0) :: k142_18
def k142_0 : List mj_O := (0, 3, 2, 0, 0) :: (1, 0, 1, 0, 0) :: (2, 22, 1, 9, 0) :: (5, 0, 0, 0, 0) :: (6, 23, 0, 18, 0) :: k142_9
def k142 : Nat → List mj_O := fun t => match t with
  | 0 => k142_0
  | 9 => k142_9
  | 18 => k142_18
  | 30 => k142_30
  | 39 => k142_39
  | 75 => k142_75
  | 76 => k142_76
  | _ => []
-- 143: SockFair.ring ()I
def k143_0 : List mj_O := (0, 5, 0, 0, 0) :: (1, 47, 154, 0, 157) :: (4, 47, 79, 0, 368) :: (7, 26, 0, 0, 0) :: []
def k143 : Nat → List mj_O := fun t => match t with
  | 0 => k143_0
  | _ => []
-- 144: SockFair.generations (III)I
def k144_84 : List mj_O := (84, 5, 0, 0, 0) :: (85, 33, 11, 17, 115) :: (88, 33, 0, 0, 383) :: (91, 47, 68, 0, 154) :: (94, 26, 0, 0, 0) :: []
def k144_76 : List mj_O := (76, 5, 0, 0, 0) :: (77, 33, 11, 17, 115) :: (80, 31, 0, 1, 380) :: (83, 26, 0, 0, 0) :: k144_84
def k144_68 : List mj_O := (68, 5, 0, 0, 0) :: (69, 33, 11, 17, 115) :: (72, 47, 6, 0, 377) :: (75, 26, 0, 0, 0) :: k144_76
def k144_26 : List mj_O := (26, 5, 0, 0, 0) :: (27, 33, 11, 17, 115) :: (30, 3, 1, 0, 0) :: (31, 3, 2, 0, 0) :: (32, 5, 0, 0, 0) :: (33, 33, 11, 10, 63) :: (36, 47, 1, 0, 373) :: (39, 3, 3, 0, 0) :: (40, 24, 4, 84, 0) :: k144_68
def k144_15 : List mj_O := (15, 30, 1, 371, 122) :: k144_26
def k144_0 : List mj_O := (0, 3, 3, 0, 0) :: (1, 0, 2, 0, 0) :: (2, 48, 150, 0, 292) :: (5, 3, 2, 0, 0) :: (6, 21, 2, 15, 0) :: (9, 3, 2, 0, 0) :: (10, 0, 60, 0, 0) :: (12, 22, 5, 26, 0) :: k144_15
def k144 : Nat → List mj_O := fun t => match t with
  | 0 => k144_0
  | 15 => k144_15
  | 26 => k144_26
  | 68 => k144_68
  | 76 => k144_76
  | 84 => k144_84
  | _ => []
-- 145: SockFair.far (II)I
def k145_0 : List mj_O := (0, 5, 0, 0, 0) :: (1, 3, 1, 0, 0) :: (2, 47, 149, 0, 175) :: (5, 5, 0, 0, 0) :: (6, 3, 2, 0, 0) :: (7, 47, 149, 0, 175) :: (10, 5, 0, 0, 0) :: (11, 47, 154, 0, 157) :: (14, 3, 1, 0, 0) :: (15, 3, 2, 0, 0) :: (16, 47, 81, 0, 384) :: (19, 26, 0, 0, 0) :: []
def k145 : Nat → List mj_O := fun t => match t with
  | 0 => k145_0
  | _ => []
-- 146: SockFair.circles ()I
def k146_0 : List mj_O := (0, 5, 0, 0, 0) :: (1, 47, 154, 0, 157) :: (4, 47, 82, 0, 387) :: (7, 26, 0, 0, 0) :: []
def k146 : Nat → List mj_O := fun t => match t with
  | 0 => k146_0
  | _ => []
-- 147: SockFair.image ()V
def k147_0 : List mj_O := (0, 5, 0, 0, 0) :: (1, 33, 11, 8, 52) :: (4, 5, 0, 0, 0) :: (5, 33, 11, 7, 48) :: (8, 47, 9, 0, 390) :: (11, 5, 0, 0, 0) :: (12, 0, 1, 0, 0) :: (13, 35, 11, 9, 55) :: (16, 25, 0, 0, 0) :: []
def k147 : Nat → List mj_O := fun t => match t with
  | 0 => k147_0
  | _ => []
-- 148: SockFair.restore ()Z
def k148_9 : List mj_O := (9, 5, 0, 0, 0) :: (10, 33, 11, 7, 48) :: (13, 5, 0, 0, 0) :: (14, 33, 11, 8, 52) :: (17, 47, 9, 0, 390) :: (20, 5, 0, 0, 0) :: (21, 47, 157, 0, 139) :: (24, 0, 1, 0, 0) :: (25, 27, 0, 0, 0) :: []
def k148_0 : List mj_O := (0, 5, 0, 0, 0) :: (1, 31, 11, 9, 55) :: (4, 21, 1, 9, 0) :: (7, 0, 0, 0, 0) :: (8, 27, 0, 0, 0) :: k148_9
def k148 : Nat → List mj_O := fun t => match t with
  | 0 => k148_0
  | 9 => k148_9
  | _ => []
-- 149: SockFair.checkPerson (I)V
def k149_26 : List mj_O := (26, 25, 0, 0, 0) :: []
def k149_15 : List mj_O := (15, 30, 0, 394, 170) :: k149_26
def k149_0 : List mj_O := (0, 3, 1, 0, 0) :: (1, 21, 2, 15, 0) :: (4, 3, 1, 0, 0) :: (5, 5, 0, 0, 0) :: (6, 33, 11, 5, 29) :: (9, 31, 9, 0, 142) :: (12, 22, 2, 26, 0) :: k149_15
def k149 : Nat → List mj_O := fun t => match t with
  | 0 => k149_0
  | 15 => k149_15
  | 26 => k149_26
  | _ => []
-- 150: SockFair.checkWhat (II)V
def k150_20 : List mj_O := (20, 25, 0, 0, 0) :: []
def k150_9 : List mj_O := (9, 30, 0, 396, 170) :: k150_20
def k150_0 : List mj_O := (0, 3, 0, 0, 0) :: (1, 21, 2, 9, 0) :: (4, 3, 0, 0, 0) :: (5, 3, 1, 0, 0) :: (6, 22, 5, 20, 0) :: k150_9
def k150 : Nat → List mj_O := fun t => match t with
  | 0 => k150_0
  | 9 => k150_9
  | 20 => k150_20
  | _ => []
-- 151: SockFair.checkForeseen (I)V
def k151_21 : List mj_O := (21, 25, 0, 0, 0) :: []
def k151_10 : List mj_O := (10, 30, 1, 398, 122) :: k151_21
def k151_0 : List mj_O := (0, 3, 0, 0, 0) :: (1, 21, 2, 10, 0) :: (4, 3, 0, 0, 0) :: (5, 0, 30, 0, 0) :: (7, 22, 5, 21, 0) :: k151_10
def k151 : Nat → List mj_O := fun t => match t with
  | 0 => k151_0
  | 10 => k151_10
  | 21 => k151_21
  | _ => []
-- 152: SockFair.freeOnes ()I
def k152_40 : List mj_O := (40, 3, 1, 0, 0) :: (41, 26, 0, 0, 0) :: []
def k152_34 : List mj_O := (34, 9, 2, 1, 0) :: (37, 23, 0, 4, 0) :: k152_40
def k152_4 : List mj_O := (4, 3, 2, 0, 0) :: (5, 5, 0, 0, 0) :: (6, 33, 11, 5, 29) :: (9, 31, 9, 0, 142) :: (12, 22, 3, 40, 0) :: (15, 5, 0, 0, 0) :: (16, 33, 11, 10, 63) :: (19, 33, 7, 3, 196) :: (22, 3, 2, 0, 0) :: (23, 38, 0, 0, 0) :: (24, 1, 1, 0, 0) :: (25, 22, 1, 34, 0) :: (28, 3, 1, 0, 0) :: (29, 0, 1, 0, 0) :: (30, 3, 2, 0, 0) :: (31, 11, 5, 0, 0) :: (32, 11, 9, 0, 0) :: (33, 6, 1, 0, 0) :: k152_34
def k152_0 : List mj_O := (0, 0, 0, 0, 0) :: (1, 6, 1, 0, 0) :: (2, 0, 0, 0, 0) :: (3, 6, 2, 0, 0) :: k152_4
def k152 : Nat → List mj_O := fun t => match t with
  | 0 => k152_0
  | 4 => k152_4
  | 34 => k152_34
  | 40 => k152_40
  | _ => []
-- 153: SockFair.foreseen (I)LSockFair$Course;
def k153_0 : List mj_O := (0, 5, 0, 0, 0) :: (1, 33, 11, 11, 69) :: (4, 3, 1, 0, 0) :: (5, 47, 32, 0, 263) :: (8, 5, 0, 0, 0) :: (9, 33, 11, 12, 78) :: (12, 3, 1, 0, 0) :: (13, 47, 21, 0, 322) :: (16, 5, 0, 0, 0) :: (17, 33, 11, 12, 78) :: (20, 29, 0, 0, 0) :: []
def k153 : Nat → List mj_O := fun t => match t with
  | 0 => k153_0
  | _ => []
-- 154: SockFair.knownTies ()LSockFair$Ties;
def k154_0 : List mj_O := (0, 5, 0, 0, 0) :: (1, 33, 11, 14, 88) :: (4, 47, 70, 0, 400) :: (7, 5, 0, 0, 0) :: (8, 33, 11, 14, 88) :: (11, 29, 0, 0, 0) :: []
def k154 : Nat → List mj_O := fun t => match t with
  | 0 => k154_0
  | _ => []
-- 155: SockFair.areFreeTwo (II)Z
def k155_36 : List mj_O := (36, 27, 0, 0, 0) :: []
def k155_35 : List mj_O := (35, 0, 0, 0, 0) :: k155_36
def k155_0 : List mj_O := (0, 3, 1, 0, 0) :: (1, 3, 2, 0, 0) :: (2, 22, 0, 35, 0) :: (5, 5, 0, 0, 0) :: (6, 33, 11, 10, 63) :: (9, 33, 7, 3, 196) :: (12, 3, 1, 0, 0) :: (13, 38, 0, 0, 0) :: (14, 1, 1, 0, 0) :: (15, 22, 1, 35, 0) :: (18, 5, 0, 0, 0) :: (19, 33, 11, 10, 63) :: (22, 33, 7, 3, 196) :: (25, 3, 2, 0, 0) :: (26, 38, 0, 0, 0) :: (27, 1, 1, 0, 0) :: (28, 22, 1, 35, 0) :: (31, 0, 1, 0, 0) :: (32, 23, 0, 36, 0) :: k155_35
def k155 : Nat → List mj_O := fun t => match t with
  | 0 => k155_0
  | 35 => k155_35
  | 36 => k155_36
  | _ => []
-- 156: SockFair.likenessShown (IIII)I
def k156_0 : List mj_O := (0, 5, 0, 0, 0) :: (1, 33, 11, 5, 29) :: (4, 3, 1, 0, 0) :: (5, 5, 0, 0, 0) :: (6, 33, 11, 10, 63) :: (9, 33, 7, 1, 178) :: (12, 3, 1, 0, 0) :: (13, 38, 0, 0, 0) :: (14, 3, 2, 0, 0) :: (15, 3, 3, 0, 0) :: (16, 5, 0, 0, 0) :: (17, 33, 11, 10, 63) :: (20, 33, 7, 1, 178) :: (23, 3, 3, 0, 0) :: (24, 38, 0, 0, 0) :: (25, 3, 4, 0, 0) :: (27, 47, 87, 0, 403) :: (30, 26, 0, 0, 0) :: []
def k156 : Nat → List mj_O := fun t => match t with
  | 0 => k156_0
  | _ => []
-- 157: SockFair.socksChanged ()V
def k157_0 : List mj_O := (0, 5, 0, 0, 0) :: (1, 33, 11, 11, 69) :: (4, 0, 0, 0, 0) :: (5, 34, 4, 4, 407) :: (8, 5, 0, 0, 0) :: (9, 33, 11, 14, 88) :: (12, 0, 0, 0, 0) :: (13, 35, 8, 1, 410) :: (16, 5, 0, 0, 0) :: (17, 47, 158, 0, 234) :: (20, 25, 0, 0, 0) :: []
def k157 : Nat → List mj_O := fun t => match t with
  | 0 => k157_0
  | _ => []
-- 158: SockFair.bindingsChanged ()V
def k158_0 : List mj_O := (0, 5, 0, 0, 0) :: (1, 33, 11, 12, 78) :: (4, 47, 15, 0, 319) :: (7, 5, 0, 0, 0) :: (8, 33, 11, 15, 97) :: (11, 0, 0, 0, 0) :: (12, 35, 10, 1, 411) :: (15, 5, 0, 0, 0) :: (16, 33, 11, 16, 106) :: (19, 0, 0, 0, 0) :: (20, 35, 3, 0, 329) :: (23, 25, 0, 0, 0) :: []
def k158 : Nat → List mj_O := fun t => match t with
  | 0 => k158_0
  | _ => []
-- 159: SockFair.bindMostAlike ([II[III)V
def k159_136 : List mj_O := (136, 25, 0, 0, 0) :: []
def k159_114 : List mj_O := (114, 5, 2, 0, 0) :: (115, 3, 3, 0, 0) :: (116, 3, 7, 0, 0) :: (118, 11, 0, 0, 0) :: (119, 3, 8, 0, 0) :: (121, 42, 0, 0, 0) :: (122, 5, 2, 0, 0) :: (123, 3, 3, 0, 0) :: (124, 3, 8, 0, 0) :: (126, 11, 0, 0, 0) :: (127, 3, 7, 0, 0) :: (129, 42, 0, 0, 0) :: (130, 9, 5, 1, 0) :: (133, 23, 0, 3, 0) :: k159_136
def k159_107 : List mj_O := (107, 3, 7, 0, 0) :: (109, 1, 1, 0, 0) :: (110, 22, 1, 114, 0) :: (113, 25, 0, 0, 0) :: k159_114
def k159_101 : List mj_O := (101, 9, 9, 1, 0) :: (104, 23, 0, 22, 0) :: k159_107
def k159_95 : List mj_O := (95, 9, 10, 1, 0) :: (98, 23, 0, 35, 0) :: k159_101
def k159_35 : List mj_O := (35, 5, 2, 0, 0) :: (36, 3, 3, 0, 0) :: (37, 3, 9, 0, 0) :: (39, 11, 0, 0, 0) :: (40, 38, 0, 0, 0) :: (41, 1, 1, 0, 0) :: (42, 22, 1, 101, 0) :: (45, 3, 10, 0, 0) :: (47, 3, 4, 0, 0) :: (49, 22, 3, 101, 0) :: (52, 5, 0, 0, 0) :: (53, 3, 1, 0, 0) :: (54, 3, 9, 0, 0) :: (56, 0, 10, 0, 0) :: (58, 11, 2, 0, 0) :: (59, 11, 0, 0, 0) :: (60, 3, 10, 0, 0) :: (62, 11, 0, 0, 0) :: (63, 38, 0, 0, 0) :: (64, 6, 11, 0, 0) :: (66, 3, 11, 0, 0) :: (68, 3, 6, 0, 0) :: (70, 22, 5, 95, 0) :: (73, 5, 2, 0, 0) :: (74, 3, 3, 0, 0) :: (75, 3, 10, 0, 0) :: (77, 11, 0, 0, 0) :: (78, 38, 0, 0, 0) :: (79, 1, 1, 0, 0) :: (80, 22, 1, 95, 0) :: (83, 3, 11, 0, 0) :: (85, 6, 6, 0, 0) :: (87, 3, 9, 0, 0) :: (89, 6, 7, 0, 0) :: (91, 3, 10, 0, 0) :: (93, 6, 8, 0, 0) :: k159_95
def k159_22 : List mj_O := (22, 3, 9, 0, 0) :: (24, 3, 4, 0, 0) :: (26, 22, 3, 107, 0) :: (29, 3, 9, 0, 0) :: (31, 0, 1, 0, 0) :: (32, 11, 0, 0, 0) :: (33, 6, 10, 0, 0) :: k159_35
def k159_3 : List mj_O := (3, 3, 5, 0, 0) :: (5, 3, 4, 0, 0) :: (7, 22, 3, 136, 0) :: (10, 0, 0, 0, 0) :: (11, 6, 6, 0, 0) :: (13, 1, 1, 0, 0) :: (14, 6, 7, 0, 0) :: (16, 1, 1, 0, 0) :: (17, 6, 8, 0, 0) :: (19, 0, 0, 0, 0) :: (20, 6, 9, 0, 0) :: k159_22
def k159_0 : List mj_O := (0, 0, 0, 0, 0) :: (1, 6, 5, 0, 0) :: k159_3
def k159 : Nat → List mj_O := fun t => match t with
  | 0 => k159_0
  | 3 => k159_3
  | 22 => k159_22
  | 35 => k159_35
  | 95 => k159_95
  | 101 => k159_101
  | 107 => k159_107
  | 114 => k159_114
  | 136 => k159_136
  | _ => []
-- 160: SockFair.partWorn (I[III)I
def k160_57 : List mj_O := (57, 3, 4, 0, 0) :: (59, 26, 0, 0, 0) :: []
def k160_51 : List mj_O := (51, 9, 5, 1, 0) :: (54, 23, 0, 6, 0) :: k160_57
def k160_6 : List mj_O := (6, 3, 5, 0, 0) :: (8, 3, 3, 0, 0) :: (9, 22, 3, 57, 0) :: (12, 5, 1, 0, 0) :: (13, 3, 2, 0, 0) :: (14, 3, 5, 0, 0) :: (16, 11, 0, 0, 0) :: (17, 38, 0, 0, 0) :: (18, 6, 6, 0, 0) :: (20, 3, 0, 0, 0) :: (21, 3, 5, 0, 0) :: (23, 11, 6, 0, 0) :: (24, 0, 1, 0, 0) :: (25, 11, 8, 0, 0) :: (26, 21, 0, 51, 0) :: (29, 3, 6, 0, 0) :: (31, 21, 2, 51, 0) :: (34, 5, 1, 0, 0) :: (35, 3, 2, 0, 0) :: (36, 3, 5, 0, 0) :: (38, 11, 0, 0, 0) :: (39, 1, 1, 0, 0) :: (40, 42, 0, 0, 0) :: (41, 5, 1, 0, 0) :: (42, 3, 2, 0, 0) :: (43, 3, 6, 0, 0) :: (45, 11, 0, 0, 0) :: (46, 1, 1, 0, 0) :: (47, 42, 0, 0, 0) :: (48, 9, 4, 1, 0) :: k160_51
def k160_0 : List mj_O := (0, 0, 0, 0, 0) :: (1, 6, 4, 0, 0) :: (3, 0, 0, 0, 0) :: (4, 6, 5, 0, 0) :: k160_6
def k160 : Nat → List mj_O := fun t => match t with
  | 0 => k160_0
  | 6 => k160_6
  | 51 => k160_51
  | 57 => k160_57
  | _ => []
-- 282: java/lang/Integer.bitCount (I)I
def k282_0 : List mj_O := (0, 3, 0, 0, 0) :: (1, 3, 0, 0, 0) :: (2, 0, 1, 0, 0) :: (3, 11, 7, 0, 0) :: (4, 0, 1431655765, 0, 265) :: (7, 11, 8, 0, 0) :: (8, 11, 1, 0, 0) :: (9, 6, 0, 0, 0) :: (10, 3, 0, 0, 0) :: (11, 0, 858993459, 0, 266) :: (14, 11, 8, 0, 0) :: (15, 3, 0, 0, 0) :: (16, 0, 2, 0, 0) :: (17, 11, 7, 0, 0) :: (18, 0, 858993459, 0, 266) :: (21, 11, 8, 0, 0) :: (22, 11, 0, 0, 0) :: (23, 6, 0, 0, 0) :: (24, 3, 0, 0, 0) :: (25, 3, 0, 0, 0) :: (26, 0, 4, 0, 0) :: (27, 11, 7, 0, 0) :: (28, 11, 0, 0, 0) :: (29, 0, 252645135, 0, 267) :: (32, 11, 8, 0, 0) :: (33, 6, 0, 0, 0) :: (34, 3, 0, 0, 0) :: (35, 3, 0, 0, 0) :: (36, 0, 8, 0, 0) :: (38, 11, 7, 0, 0) :: (39, 11, 0, 0, 0) :: (40, 6, 0, 0, 0) :: (41, 3, 0, 0, 0) :: (42, 3, 0, 0, 0) :: (43, 0, 16, 0, 0) :: (45, 11, 7, 0, 0) :: (46, 11, 0, 0, 0) :: (47, 6, 0, 0, 0) :: (48, 3, 0, 0, 0) :: (49, 0, 63, 0, 0) :: (51, 11, 8, 0, 0) :: (52, 26, 0, 0, 0) :: []
def k282 : Nat → List mj_O := fun t => match t with
  | 0 => k282_0
  | _ => []
end
section
-- 161: SockFairModel.<init> ()V
def k161_0 : List mj_O := (0, 5, 0, 0, 0) :: (1, 51, 0, 0, 1) :: (4, 5, 0, 0, 0) :: (5, 1, 1, 0, 0) :: (6, 34, 12, 2, 9) :: (9, 5, 0, 0, 0) :: (10, 1, 1, 0, 0) :: (11, 34, 12, 3, 13) :: (14, 5, 0, 0, 0) :: (15, 0, 11, 0, 0) :: (17, 53, 1, 0, 0) :: (19, 37, 12, 4, 16) :: (22, 5, 0, 0, 0) :: (23, 0, 11, 0, 0) :: (25, 53, 1, 0, 0) :: (27, 37, 12, 5, 20) :: (30, 5, 0, 0, 0) :: (31, 0, 11, 0, 0) :: (33, 53, 1, 0, 0) :: (35, 37, 12, 6, 23) :: (38, 5, 0, 0, 0) :: (39, 0, 11, 0, 0) :: (41, 53, 1, 0, 0) :: (43, 37, 12, 7, 26) :: (46, 5, 0, 0, 0) :: (47, 0, 1400, 0, 0) :: (50, 53, 1, 0, 0) :: (52, 37, 12, 8, 29) :: (55, 5, 0, 0, 0) :: (56, 0, 700, 0, 0) :: (59, 53, 1, 0, 0) :: (61, 37, 12, 9, 32) :: (64, 5, 0, 0, 0) :: (65, 1, 1, 0, 0) :: (66, 34, 12, 12, 35) :: (69, 5, 0, 0, 0) :: (70, 0, 3, 0, 0) :: (71, 53, 1, 0, 0) :: (73, 37, 12, 13, 38) :: (76, 5, 0, 0, 0) :: (77, 0, 11, 0, 0) :: (79, 53, 1, 0, 0) :: (81, 37, 12, 30, 41) :: (84, 5, 0, 0, 0) :: (85, 0, 11, 0, 0) :: (87, 53, 1, 0, 0) :: (89, 37, 12, 31, 44) :: (92, 5, 0, 0, 0) :: (93, 0, 11, 0, 0) :: (95, 53, 1, 0, 0) :: (97, 37, 12, 32, 47) :: (100, 5, 0, 0, 0) :: (101, 0, 11, 0, 0) :: (103, 53, 1, 0, 0) :: (105, 37, 12, 33, 50) :: (108, 5, 0, 0, 0) :: (109, 0, 33, 0, 0) :: (111, 53, 1, 0, 0) :: (113, 37, 12, 34, 53) :: (116, 5, 0, 0, 0) :: (117, 0, 1400, 0, 0) :: (120, 53, 1, 0, 0) :: (122, 37, 12, 35, 56) :: (125, 5, 0, 0, 0) :: (126, 0, 950, 0, 0) :: (129, 53, 1, 0, 0) :: (131, 37, 12, 36, 59) :: (134, 5, 0, 0, 0) :: (135, 0, 9, 0, 0) :: (137, 53, 4, 0, 0) :: (139, 37, 12, 37, 62) :: (142, 5, 0, 0, 0) :: (143, 0, 66, 0, 0) :: (145, 53, 1, 0, 0) :: (147, 37, 12, 38, 66) :: (150, 5, 0, 0, 0) :: (151, 0, 1320, 0, 0) :: (154, 53, 1, 0, 0) :: (156, 37, 12, 39, 69) :: (159, 5, 0, 0, 0) :: (160, 0, 11, 0, 0) :: (162, 53, 1, 0, 0) :: (164, 37, 12, 41, 72) :: (167, 5, 0, 0, 0) :: (168, 0, 950, 0, 0) :: (171, 53, 1, 0, 0) :: (173, 37, 12, 42, 75) :: (176, 5, 0, 0, 0) :: (177, 0, 100, 0, 0) :: (179, 53, 1, 0, 0) :: (181, 37, 12, 43, 78) :: (184, 5, 0, 0, 0) :: (185, 0, 1024, 0, 0) :: (188, 53, 1, 0, 0) :: (190, 37, 12, 44, 81) :: (193, 5, 0, 0, 0) :: (194, 0, 1024, 0, 0) :: (197, 53, 2, 0, 0) :: (199, 37, 12, 45, 84) :: (202, 5, 0, 0, 0) :: (203, 0, 100, 0, 0) :: (205, 53, 1, 0, 0) :: (207, 37, 12, 46, 88) :: (210, 5, 0, 0, 0) :: (211, 0, 10, 0, 0) :: (213, 53, 1, 0, 0) :: (215, 37, 12, 47, 91) :: (218, 5, 0, 0, 0) :: (219, 0, 10, 0, 0) :: (221, 53, 1, 0, 0) :: (223, 37, 12, 48, 94) :: (226, 5, 0, 0, 0) :: (227, 0, 10, 0, 0) :: (229, 53, 1, 0, 0) :: (231, 37, 12, 49, 97) :: (234, 5, 0, 0, 0) :: (235, 0, 24, 0, 0) :: (237, 53, 1, 0, 0) :: (239, 37, 12, 53, 100) :: (242, 5, 0, 0, 0) :: (243, 0, 20, 0, 0) :: (245, 53, 2, 0, 0) :: (247, 37, 12, 54, 103) :: (250, 5, 0, 0, 0) :: (251, 0, 1800, 0, 0) :: (254, 53, 2, 0, 0) :: (256, 37, 12, 55, 106) :: (259, 5, 0, 0, 0) :: (260, 0, 33, 0, 0) :: (262, 53, 1, 0, 0) :: (264, 37, 12, 60, 109) :: (267, 5, 0, 0, 0) :: (268, 0, 1320, 0, 0) :: (271, 53, 1, 0, 0) :: (273, 37, 12, 61, 112) :: (276, 5, 0, 0, 0) :: (277, 0, 24, 0, 0) :: (279, 53, 1, 0, 0) :: (281, 37, 12, 62, 115) :: (284, 25, 0, 0, 0) :: []
def k161 : Nat → List mj_O := fun t => match t with
  | 0 => k161_0
  | _ => []
-- 162: SockFairModel.thrown ()I
def k162_0 : List mj_O := (0, 5, 0, 0, 0) :: (1, 31, 12, 0, 118) :: (4, 26, 0, 0, 0) :: []
def k162 : Nat → List mj_O := fun t => match t with
  | 0 => k162_0
  | _ => []
-- 163: SockFairModel.right (ZI)Z
def k163_28 : List mj_O := (28, 27, 0, 0, 0) :: []
def k163_27 : List mj_O := (27, 0, 0, 0, 0) :: k163_28
def k163_16 : List mj_O := (16, 5, 0, 0, 0) :: (17, 31, 12, 0, 118) :: (20, 21, 1, 27, 0) :: (23, 0, 1, 0, 0) :: (24, 23, 0, 28, 0) :: k163_27
def k163_0 : List mj_O := (0, 5, 0, 0, 0) :: (1, 31, 12, 0, 118) :: (4, 21, 1, 16, 0) :: (7, 3, 1, 0, 0) :: (8, 21, 1, 16, 0) :: (11, 5, 0, 0, 0) :: (12, 3, 2, 0, 0) :: (13, 34, 12, 0, 118) :: k163_16
def k163 : Nat → List mj_O := fun t => match t with
  | 0 => k163_0
  | 16 => k163_16
  | 27 => k163_27
  | 28 => k163_28
  | _ => []
-- 164: SockFairModel.within (III)Z
def k164_15 : List mj_O := (15, 27, 0, 0, 0) :: []
def k164_14 : List mj_O := (14, 0, 0, 0, 0) :: k164_15
def k164_0 : List mj_O := (0, 3, 0, 0, 0) :: (1, 3, 1, 0, 0) :: (2, 22, 2, 14, 0) :: (5, 3, 0, 0, 0) :: (6, 3, 2, 0, 0) :: (7, 22, 4, 14, 0) :: (10, 0, 1, 0, 0) :: (11, 23, 0, 15, 0) :: k164_14
def k164 : Nat → List mj_O := fun t => match t with
  | 0 => k164_0
  | 14 => k164_14
  | 15 => k164_15
  | _ => []
-- 165: SockFairModel.copies ([I[I)V
def k165_20 : List mj_O := (20, 25, 0, 0, 0) :: []
def k165_2 : List mj_O := (2, 3, 3, 0, 0) :: (3, 5, 1, 0, 0) :: (4, 46, 0, 0, 0) :: (5, 22, 3, 20, 0) :: (8, 5, 2, 0, 0) :: (9, 3, 3, 0, 0) :: (10, 5, 1, 0, 0) :: (11, 3, 3, 0, 0) :: (12, 38, 0, 0, 0) :: (13, 42, 0, 0, 0) :: (14, 9, 3, 1, 0) :: (17, 23, 0, 2, 0) :: k165_20
def k165_0 : List mj_O := (0, 0, 0, 0, 0) :: (1, 6, 3, 0, 0) :: k165_2
def k165 : Nat → List mj_O := fun t => match t with
  | 0 => k165_0
  | 2 => k165_2
  | 20 => k165_20
  | _ => []
-- 166: SockFairModel.bits (I)I
def k166_24 : List mj_O := (24, 3, 1, 0, 0) :: (25, 26, 0, 0, 0) :: []
def k166_4 : List mj_O := (4, 3, 2, 0, 0) :: (5, 0, 10, 0, 0) :: (7, 22, 3, 24, 0) :: (10, 3, 1, 0, 0) :: (11, 3, 0, 0, 0) :: (12, 3, 2, 0, 0) :: (13, 11, 6, 0, 0) :: (14, 0, 1, 0, 0) :: (15, 11, 8, 0, 0) :: (16, 11, 0, 0, 0) :: (17, 6, 1, 0, 0) :: (18, 9, 2, 1, 0) :: (21, 23, 0, 4, 0) :: k166_24
def k166_0 : List mj_O := (0, 0, 0, 0, 0) :: (1, 6, 1, 0, 0) :: (2, 0, 0, 0, 0) :: (3, 6, 2, 0, 0) :: k166_4
def k166 : Nat → List mj_O := fun t => match t with
  | 0 => k166_0
  | 4 => k166_4
  | 24 => k166_24
  | _ => []
-- 167: SockFairModel.feed (IIIII)I
def k167_20 : List mj_O := (20, 5, 0, 0, 0) :: (21, 3, 1, 0, 0) :: (22, 47, 168, 0, 124) :: (25, 5, 0, 0, 0) :: (26, 3, 2, 0, 0) :: (27, 47, 168, 0, 124) :: (30, 5, 0, 0, 0) :: (31, 3, 3, 0, 0) :: (32, 47, 168, 0, 124) :: (35, 5, 0, 0, 0) :: (36, 3, 4, 0, 0) :: (38, 47, 168, 0, 124) :: (41, 5, 0, 0, 0) :: (42, 3, 5, 0, 0) :: (44, 47, 168, 0, 124) :: (47, 5, 0, 0, 0) :: (48, 31, 12, 10, 121) :: (51, 26, 0, 0, 0) :: []
def k167_0 : List mj_O := (0, 5, 0, 0, 0) :: (1, 0, 0, 0, 0) :: (2, 34, 12, 0, 118) :: (5, 5, 0, 0, 0) :: (6, 31, 12, 10, 121) :: (9, 0, 20, 0, 0) :: (11, 11, 0, 0, 0) :: (12, 0, 700, 0, 0) :: (15, 22, 5, 20, 0) :: (18, 1, 1, 0, 0) :: (19, 26, 0, 0, 0) :: k167_20
def k167 : Nat → List mj_O := fun t => match t with
  | 0 => k167_0
  | 20 => k167_20
  | _ => []
-- 168: SockFairModel.lays (I)V
def k168_39 : List mj_O := (39, 25, 0, 0, 0) :: []
def k168_3 : List mj_O := (3, 3, 2, 0, 0) :: (4, 21, 2, 39, 0) :: (7, 5, 0, 0, 0) :: (8, 33, 12, 9, 32) :: (11, 5, 0, 0, 0) :: (12, 31, 12, 10, 121) :: (15, 3, 1, 0, 0) :: (16, 3, 2, 0, 0) :: (17, 11, 6, 0, 0) :: (18, 0, 255, 0, 0) :: (21, 11, 8, 0, 0) :: (22, 42, 0, 0, 0) :: (23, 5, 0, 0, 0) :: (24, 18, 0, 0, 0) :: (25, 31, 12, 10, 121) :: (28, 0, 1, 0, 0) :: (29, 11, 0, 0, 0) :: (30, 34, 12, 10, 121) :: (33, 10, 2, 8, 0) :: (36, 23, 0, 3, 0) :: k168_39
def k168_0 : List mj_O := (0, 0, 24, 0, 0) :: (2, 6, 2, 0, 0) :: k168_3
def k168 : Nat → List mj_O := fun t => match t with
  | 0 => k168_0
  | 3 => k168_3
  | 39 => k168_39
  | _ => []
-- 169: SockFairModel.byteAt (I)I
def k169_18 : List mj_O := (18, 26, 0, 0, 0) :: []
def k169_17 : List mj_O := (17, 0, 0, 0, 0) :: k169_18
def k169_0 : List mj_O := (0, 3, 1, 0, 0) :: (1, 5, 0, 0, 0) :: (2, 31, 12, 14, 128) :: (5, 22, 3, 17, 0) :: (8, 5, 0, 0, 0) :: (9, 33, 12, 9, 32) :: (12, 3, 1, 0, 0) :: (13, 38, 0, 0, 0) :: (14, 23, 0, 18, 0) :: k169_17
def k169 : Nat → List mj_O := fun t => match t with
  | 0 => k169_0
  | 17 => k169_17
  | 18 => k169_18
  | _ => []
-- 170: SockFairModel.isLetter (I)Z
def k170_17 : List mj_O := (17, 27, 0, 0, 0) :: []
def k170_16 : List mj_O := (16, 0, 0, 0, 0) :: k170_17
def k170_0 : List mj_O := (0, 3, 0, 0, 0) :: (1, 0, 97, 0, 0) :: (3, 22, 2, 16, 0) :: (6, 3, 0, 0, 0) :: (7, 0, 122, 0, 0) :: (9, 22, 4, 16, 0) :: (12, 0, 1, 0, 0) :: (13, 23, 0, 17, 0) :: k170_16
def k170 : Nat → List mj_O := fun t => match t with
  | 0 => k170_0
  | 16 => k170_16
  | 17 => k170_17
  | _ => []
-- 171: SockFairModel.isDigit (I)Z
def k171_17 : List mj_O := (17, 27, 0, 0, 0) :: []
def k171_16 : List mj_O := (16, 0, 0, 0, 0) :: k171_17
def k171_0 : List mj_O := (0, 3, 0, 0, 0) :: (1, 0, 48, 0, 0) :: (3, 22, 2, 16, 0) :: (6, 3, 0, 0, 0) :: (7, 0, 57, 0, 0) :: (9, 22, 4, 16, 0) :: (12, 0, 1, 0, 0) :: (13, 23, 0, 17, 0) :: k171_16
def k171 : Nat → List mj_O := fun t => match t with
  | 0 => k171_0
  | 16 => k171_16
  | 17 => k171_17
  | _ => []
-- 172: SockFairModel.goes ()V
def k172_331 : List mj_O := (331, 5, 0, 0, 0) :: (332, 5, 0, 0, 0) :: (333, 31, 12, 15, 131) :: (336, 5, 0, 0, 0) :: (337, 31, 12, 17, 138) :: (340, 11, 1, 0, 0) :: (341, 34, 12, 18, 161) :: (344, 25, 0, 0, 0) :: []
def k172_328 : List mj_O := (328, 34, 12, 16, 151) :: k172_331
def k172_327 : List mj_O := (327, 0, 4, 0, 0) :: k172_328
def k172_323 : List mj_O := (323, 0, 3, 0, 0) :: (324, 23, 0, 328, 0) :: k172_327
def k172_258 : List mj_O := (258, 5, 0, 0, 0) :: (259, 18, 0, 0, 0) :: (260, 31, 12, 15, 131) :: (263, 0, 1, 0, 0) :: (264, 11, 0, 0, 0) :: (265, 34, 12, 15, 131) :: (268, 5, 0, 0, 0) :: (269, 3, 1, 0, 0) :: (270, 0, 59, 0, 0) :: (272, 22, 0, 323, 0) :: (275, 3, 1, 0, 0) :: (276, 0, 40, 0, 0) :: (278, 22, 0, 323, 0) :: (281, 3, 1, 0, 0) :: (282, 0, 41, 0, 0) :: (284, 22, 0, 323, 0) :: (287, 3, 1, 0, 0) :: (288, 0, 43, 0, 0) :: (290, 22, 0, 323, 0) :: (293, 3, 1, 0, 0) :: (294, 0, 45, 0, 0) :: (296, 22, 0, 323, 0) :: (299, 3, 1, 0, 0) :: (300, 0, 42, 0, 0) :: (302, 22, 0, 323, 0) :: (305, 3, 1, 0, 0) :: (306, 0, 47, 0, 0) :: (308, 22, 0, 323, 0) :: (311, 3, 1, 0, 0) :: (312, 0, 60, 0, 0) :: (314, 22, 0, 323, 0) :: (317, 3, 1, 0, 0) :: (318, 0, 61, 0, 0) :: (320, 22, 1, 327, 0) :: k172_323
def k172_250 : List mj_O := (250, 5, 0, 0, 0) :: (251, 0, 2, 0, 0) :: (252, 34, 12, 16, 151) :: (255, 23, 0, 331, 0) :: k172_258
def k172_237 : List mj_O := (237, 5, 0, 0, 0) :: (238, 18, 0, 0, 0) :: (239, 31, 12, 15, 131) :: (242, 0, 1, 0, 0) :: (243, 11, 0, 0, 0) :: (244, 34, 12, 15, 131) :: (247, 23, 0, 187, 0) :: k172_250
def k172_187 : List mj_O := (187, 5, 0, 0, 0) :: (188, 5, 0, 0, 0) :: (189, 31, 12, 15, 131) :: (192, 47, 169, 0, 134) :: (195, 48, 171, 0, 158) :: (198, 21, 0, 250, 0) :: (201, 5, 0, 0, 0) :: (202, 31, 12, 15, 131) :: (205, 5, 0, 0, 0) :: (206, 31, 12, 17, 138) :: (209, 11, 1, 0, 0) :: (210, 0, 4, 0, 0) :: (211, 22, 3, 237, 0) :: (214, 5, 0, 0, 0) :: (215, 0, 10, 0, 0) :: (217, 5, 0, 0, 0) :: (218, 31, 12, 19, 145) :: (221, 11, 2, 0, 0) :: (222, 5, 0, 0, 0) :: (223, 5, 0, 0, 0) :: (224, 31, 12, 15, 131) :: (227, 47, 169, 0, 134) :: (230, 11, 0, 0, 0) :: (231, 0, 48, 0, 0) :: (233, 11, 1, 0, 0) :: (234, 34, 12, 19, 145) :: k172_237
def k172_180 : List mj_O := (180, 3, 1, 0, 0) :: (181, 48, 171, 0, 158) :: (184, 21, 0, 258, 0) :: k172_187
def k172_172 : List mj_O := (172, 5, 0, 0, 0) :: (173, 0, 1, 0, 0) :: (174, 34, 12, 16, 151) :: (177, 23, 0, 331, 0) :: k172_180
def k172_159 : List mj_O := (159, 5, 0, 0, 0) :: (160, 18, 0, 0, 0) :: (161, 31, 12, 15, 131) :: (164, 0, 1, 0, 0) :: (165, 11, 0, 0, 0) :: (166, 34, 12, 15, 131) :: (169, 23, 0, 108, 0) :: k172_172
def k172_108 : List mj_O := (108, 5, 0, 0, 0) :: (109, 5, 0, 0, 0) :: (110, 31, 12, 15, 131) :: (113, 47, 169, 0, 134) :: (116, 48, 170, 0, 154) :: (119, 21, 0, 172, 0) :: (122, 5, 0, 0, 0) :: (123, 31, 12, 15, 131) :: (126, 5, 0, 0, 0) :: (127, 31, 12, 17, 138) :: (130, 11, 1, 0, 0) :: (131, 0, 7, 0, 0) :: (133, 22, 3, 159, 0) :: (136, 5, 0, 0, 0) :: (137, 5, 0, 0, 0) :: (138, 32, 12, 21, 141) :: (141, 0, 5, 0, 0) :: (142, 14, 0, 0, 0) :: (143, 5, 0, 0, 0) :: (144, 5, 0, 0, 0) :: (145, 31, 12, 15, 131) :: (148, 47, 169, 0, 134) :: (151, 0, 96, 0, 0) :: (153, 11, 1, 0, 0) :: (154, 15, 0, 0, 0) :: (155, 13, 3, 0, 0) :: (156, 36, 12, 21, 141) :: k172_159
def k172_101 : List mj_O := (101, 3, 1, 0, 0) :: (102, 48, 170, 0, 154) :: (105, 21, 0, 180, 0) :: k172_108
def k172_50 : List mj_O := (50, 5, 0, 0, 0) :: (51, 5, 0, 0, 0) :: (52, 31, 12, 15, 131) :: (55, 34, 12, 17, 138) :: (58, 5, 0, 0, 0) :: (59, 2, 0, 0, 0) :: (60, 36, 12, 21, 141) :: (63, 5, 0, 0, 0) :: (64, 0, 0, 0, 0) :: (65, 34, 12, 19, 145) :: (68, 5, 0, 0, 0) :: (69, 5, 0, 0, 0) :: (70, 31, 12, 15, 131) :: (73, 47, 169, 0, 134) :: (76, 6, 1, 0, 0) :: (77, 5, 0, 0, 0) :: (78, 3, 1, 0, 0) :: (79, 34, 12, 20, 148) :: (82, 5, 0, 0, 0) :: (83, 31, 12, 15, 131) :: (86, 5, 0, 0, 0) :: (87, 31, 12, 14, 128) :: (90, 22, 2, 101, 0) :: (93, 5, 0, 0, 0) :: (94, 0, 0, 0, 0) :: (95, 34, 12, 16, 151) :: (98, 23, 0, 331, 0) :: k172_101
def k172_37 : List mj_O := (37, 5, 0, 0, 0) :: (38, 18, 0, 0, 0) :: (39, 31, 12, 15, 131) :: (42, 0, 1, 0, 0) :: (43, 11, 0, 0, 0) :: (44, 34, 12, 15, 131) :: (47, 23, 0, 0, 0) :: k172_50
def k172_0 : List mj_O := (0, 5, 0, 0, 0) :: (1, 31, 12, 15, 131) :: (4, 5, 0, 0, 0) :: (5, 31, 12, 14, 128) :: (8, 22, 3, 50, 0) :: (11, 5, 0, 0, 0) :: (12, 5, 0, 0, 0) :: (13, 31, 12, 15, 131) :: (16, 47, 169, 0, 134) :: (19, 0, 32, 0, 0) :: (21, 22, 0, 37, 0) :: (24, 5, 0, 0, 0) :: (25, 5, 0, 0, 0) :: (26, 31, 12, 15, 131) :: (29, 47, 169, 0, 134) :: (32, 0, 10, 0, 0) :: (34, 22, 1, 50, 0) :: k172_37
def k172 : Nat → List mj_O := fun t => match t with
  | 0 => k172_0
  | 37 => k172_37
  | 50 => k172_50
  | 101 => k172_101
  | 108 => k172_108
  | 159 => k172_159
  | 172 => k172_172
  | 180 => k172_180
  | 187 => k172_187
  | 237 => k172_237
  | 250 => k172_250
  | 258 => k172_258
  | 323 => k172_323
  | 327 => k172_327
  | 328 => k172_328
  | 331 => k172_331
  | _ => []
-- 173: SockFairModel.spelled (IIIIIII)J
def k173_102 : List mj_O := (102, 4, 7, 0, 0) :: (104, 28, 0, 0, 0) :: []
def k173_84 : List mj_O := (84, 3, 6, 0, 0) :: (86, 21, 0, 102, 0) :: (89, 4, 7, 0, 0) :: (91, 0, 5, 0, 0) :: (92, 14, 0, 0, 0) :: (93, 3, 6, 0, 0) :: (95, 0, 96, 0, 0) :: (97, 11, 1, 0, 0) :: (98, 15, 0, 0, 0) :: (99, 13, 3, 0, 0) :: (100, 7, 7, 0, 0) :: k173_102
def k173_66 : List mj_O := (66, 3, 5, 0, 0) :: (68, 21, 0, 84, 0) :: (71, 4, 7, 0, 0) :: (73, 0, 5, 0, 0) :: (74, 14, 0, 0, 0) :: (75, 3, 5, 0, 0) :: (77, 0, 96, 0, 0) :: (79, 11, 1, 0, 0) :: (80, 15, 0, 0, 0) :: (81, 13, 3, 0, 0) :: (82, 7, 7, 0, 0) :: k173_84
def k173_48 : List mj_O := (48, 3, 4, 0, 0) :: (50, 21, 0, 66, 0) :: (53, 4, 7, 0, 0) :: (55, 0, 5, 0, 0) :: (56, 14, 0, 0, 0) :: (57, 3, 4, 0, 0) :: (59, 0, 96, 0, 0) :: (61, 11, 1, 0, 0) :: (62, 15, 0, 0, 0) :: (63, 13, 3, 0, 0) :: (64, 7, 7, 0, 0) :: k173_66
def k173_32 : List mj_O := (32, 3, 3, 0, 0) :: (33, 21, 0, 48, 0) :: (36, 4, 7, 0, 0) :: (38, 0, 5, 0, 0) :: (39, 14, 0, 0, 0) :: (40, 3, 3, 0, 0) :: (41, 0, 96, 0, 0) :: (43, 11, 1, 0, 0) :: (44, 15, 0, 0, 0) :: (45, 13, 3, 0, 0) :: (46, 7, 7, 0, 0) :: k173_48
def k173_0 : List mj_O := (0, 3, 0, 0, 0) :: (1, 15, 0, 0, 0) :: (2, 2, 96, 0, 164) :: (5, 13, 1, 0, 0) :: (6, 0, 5, 0, 0) :: (7, 14, 0, 0, 0) :: (8, 3, 1, 0, 0) :: (9, 0, 96, 0, 0) :: (11, 11, 1, 0, 0) :: (12, 15, 0, 0, 0) :: (13, 13, 3, 0, 0) :: (14, 7, 7, 0, 0) :: (16, 3, 2, 0, 0) :: (17, 21, 0, 32, 0) :: (20, 4, 7, 0, 0) :: (22, 0, 5, 0, 0) :: (23, 14, 0, 0, 0) :: (24, 3, 2, 0, 0) :: (25, 0, 96, 0, 0) :: (27, 11, 1, 0, 0) :: (28, 15, 0, 0, 0) :: (29, 13, 3, 0, 0) :: (30, 7, 7, 0, 0) :: k173_32
def k173 : Nat → List mj_O := fun t => match t with
  | 0 => k173_0
  | 32 => k173_32
  | 48 => k173_48
  | 66 => k173_66
  | 84 => k173_84
  | 102 => k173_102
  | _ => []
-- 174: SockFairModel.letters (I)J
def k174_374 : List mj_O := (374, 0, 110, 0, 0) :: (376, 0, 111, 0, 0) :: (378, 0, 116, 0, 0) :: (380, 0, 0, 0, 0) :: (381, 0, 0, 0, 0) :: (382, 0, 0, 0, 0) :: (383, 0, 0, 0, 0) :: (384, 48, 173, 0, 166) :: (387, 28, 0, 0, 0) :: []
def k174_361 : List mj_O := (361, 0, 111, 0, 0) :: (363, 0, 114, 0, 0) :: (365, 0, 0, 0, 0) :: (366, 0, 0, 0, 0) :: (367, 0, 0, 0, 0) :: (368, 0, 0, 0, 0) :: (369, 0, 0, 0, 0) :: (370, 48, 173, 0, 166) :: (373, 28, 0, 0, 0) :: k174_374
def k174_347 : List mj_O := (347, 0, 97, 0, 0) :: (349, 0, 110, 0, 0) :: (351, 0, 100, 0, 0) :: (353, 0, 0, 0, 0) :: (354, 0, 0, 0, 0) :: (355, 0, 0, 0, 0) :: (356, 0, 0, 0, 0) :: (357, 48, 173, 0, 166) :: (360, 28, 0, 0, 0) :: k174_361
def k174_331 : List mj_O := (331, 0, 108, 0, 0) :: (333, 0, 105, 0, 0) :: (335, 0, 107, 0, 0) :: (337, 0, 101, 0, 0) :: (339, 0, 115, 0, 0) :: (341, 0, 0, 0, 0) :: (342, 0, 0, 0, 0) :: (343, 48, 173, 0, 166) :: (346, 28, 0, 0, 0) :: k174_347
def k174_315 : List mj_O := (315, 0, 98, 0, 0) :: (317, 0, 111, 0, 0) :: (319, 0, 117, 0, 0) :: (321, 0, 110, 0, 0) :: (323, 0, 100, 0, 0) :: (325, 0, 0, 0, 0) :: (326, 0, 0, 0, 0) :: (327, 48, 173, 0, 166) :: (330, 28, 0, 0, 0) :: k174_331
def k174_298 : List mj_O := (298, 0, 104, 0, 0) :: (300, 0, 101, 0, 0) :: (302, 0, 101, 0, 0) :: (304, 0, 108, 0, 0) :: (306, 0, 101, 0, 0) :: (308, 0, 100, 0, 0) :: (310, 0, 0, 0, 0) :: (311, 48, 173, 0, 166) :: (314, 28, 0, 0, 0) :: k174_315
def k174_281 : List mj_O := (281, 0, 97, 0, 0) :: (283, 0, 114, 0, 0) :: (285, 0, 103, 0, 0) :: (287, 0, 121, 0, 0) :: (289, 0, 108, 0, 0) :: (291, 0, 101, 0, 0) :: (293, 0, 0, 0, 0) :: (294, 48, 173, 0, 166) :: (297, 28, 0, 0, 0) :: k174_298
def k174_263 : List mj_O := (263, 0, 115, 0, 0) :: (265, 0, 116, 0, 0) :: (267, 0, 114, 0, 0) :: (269, 0, 105, 0, 0) :: (271, 0, 112, 0, 0) :: (273, 0, 101, 0, 0) :: (275, 0, 100, 0, 0) :: (277, 48, 173, 0, 166) :: (280, 28, 0, 0, 0) :: k174_281
def k174_248 : List mj_O := (248, 0, 115, 0, 0) :: (250, 0, 105, 0, 0) :: (252, 0, 122, 0, 0) :: (254, 0, 101, 0, 0) :: (256, 0, 0, 0, 0) :: (257, 0, 0, 0, 0) :: (258, 0, 0, 0, 0) :: (259, 48, 173, 0, 166) :: (262, 28, 0, 0, 0) :: k174_263
def k174_234 : List mj_O := (234, 0, 111, 0, 0) :: (236, 0, 119, 0, 0) :: (238, 0, 110, 0, 0) :: (240, 0, 0, 0, 0) :: (241, 0, 0, 0, 0) :: (242, 0, 0, 0, 0) :: (243, 0, 0, 0, 0) :: (244, 48, 173, 0, 166) :: (247, 28, 0, 0, 0) :: k174_248
def k174_218 : List mj_O := (218, 0, 99, 0, 0) :: (220, 0, 104, 0, 0) :: (222, 0, 97, 0, 0) :: (224, 0, 114, 0, 0) :: (226, 0, 109, 0, 0) :: (228, 0, 0, 0, 0) :: (229, 0, 0, 0, 0) :: (230, 48, 173, 0, 166) :: (233, 28, 0, 0, 0) :: k174_234
def k174_202 : List mj_O := (202, 0, 97, 0, 0) :: (204, 0, 108, 0, 0) :: (206, 0, 105, 0, 0) :: (208, 0, 107, 0, 0) :: (210, 0, 101, 0, 0) :: (212, 0, 0, 0, 0) :: (213, 0, 0, 0, 0) :: (214, 48, 173, 0, 166) :: (217, 28, 0, 0, 0) :: k174_218
def k174_186 : List mj_O := (186, 0, 104, 0, 0) :: (188, 0, 111, 0, 0) :: (190, 0, 108, 0, 0) :: (192, 0, 101, 0, 0) :: (194, 0, 115, 0, 0) :: (196, 0, 0, 0, 0) :: (197, 0, 0, 0, 0) :: (198, 48, 173, 0, 166) :: (201, 28, 0, 0, 0) :: k174_202
def k174_170 : List mj_O := (170, 0, 112, 0, 0) :: (172, 0, 108, 0, 0) :: (174, 0, 97, 0, 0) :: (176, 0, 105, 0, 0) :: (178, 0, 110, 0, 0) :: (180, 0, 0, 0, 0) :: (181, 0, 0, 0, 0) :: (182, 48, 173, 0, 166) :: (185, 28, 0, 0, 0) :: k174_186
def k174_155 : List mj_O := (155, 0, 119, 0, 0) :: (157, 0, 111, 0, 0) :: (159, 0, 111, 0, 0) :: (161, 0, 108, 0, 0) :: (163, 0, 0, 0, 0) :: (164, 0, 0, 0, 0) :: (165, 0, 0, 0, 0) :: (166, 48, 173, 0, 166) :: (169, 28, 0, 0, 0) :: k174_170
def k174_137 : List mj_O := (137, 0, 112, 0, 0) :: (139, 0, 97, 0, 0) :: (141, 0, 116, 0, 0) :: (143, 0, 116, 0, 0) :: (145, 0, 101, 0, 0) :: (147, 0, 114, 0, 0) :: (149, 0, 110, 0, 0) :: (151, 48, 173, 0, 166) :: (154, 28, 0, 0, 0) :: k174_155
def k174_122 : List mj_O := (122, 0, 119, 0, 0) :: (124, 0, 111, 0, 0) :: (126, 0, 114, 0, 0) :: (128, 0, 110, 0, 0) :: (130, 0, 0, 0, 0) :: (131, 0, 0, 0, 0) :: (132, 0, 0, 0, 0) :: (133, 48, 173, 0, 166) :: (136, 28, 0, 0, 0) :: k174_137
def k174_106 : List mj_O := (106, 0, 115, 0, 0) :: (108, 0, 105, 0, 0) :: (110, 0, 122, 0, 0) :: (112, 0, 101, 0, 0) :: (114, 0, 115, 0, 0) :: (116, 0, 0, 0, 0) :: (117, 0, 0, 0, 0) :: (118, 48, 173, 0, 166) :: (121, 28, 0, 0, 0) :: k174_122
def k174_88 : List mj_O := (88, 0, 99, 0, 0) :: (90, 0, 111, 0, 0) :: (92, 0, 108, 0, 0) :: (94, 0, 111, 0, 0) :: (96, 0, 117, 0, 0) :: (98, 0, 114, 0, 0) :: (100, 0, 115, 0, 0) :: (102, 48, 173, 0, 166) :: (105, 28, 0, 0, 0) :: k174_106
def k174_0 : List mj_O := (0, 3, 0, 0, 0) :: (1, 24, 5, 374, 0) :: k174_88
def k174 : Nat → List mj_O := fun t => match t with
  | 0 => k174_0
  | 88 => k174_88
  | 106 => k174_106
  | 122 => k174_122
  | 137 => k174_137
  | 155 => k174_155
  | 170 => k174_170
  | 186 => k174_186
  | 202 => k174_202
  | 218 => k174_218
  | 234 => k174_234
  | 248 => k174_248
  | 263 => k174_263
  | 281 => k174_281
  | 298 => k174_298
  | 315 => k174_315
  | 331 => k174_331
  | 347 => k174_347
  | 361 => k174_361
  | 374 => k174_374
  | _ => []
-- 175: SockFairModel.knownWord ()I
def k175_47 : List mj_O := (47, 1, 1, 0, 0) :: (48, 26, 0, 0, 0) :: []
def k175_41 : List mj_O := (41, 9, 1, 1, 0) :: (44, 23, 0, 21, 0) :: k175_47
def k175_21 : List mj_O := (21, 3, 1, 0, 0) :: (22, 0, 19, 0, 0) :: (24, 22, 3, 47, 0) :: (27, 3, 1, 0, 0) :: (28, 48, 174, 0, 170) :: (31, 5, 0, 0, 0) :: (32, 32, 12, 21, 141) :: (35, 17, 0, 0, 0) :: (36, 21, 1, 41, 0) :: (39, 3, 1, 0, 0) :: (40, 26, 0, 0, 0) :: k175_41
def k175_19 : List mj_O := (19, 0, 0, 0, 0) :: (20, 6, 1, 0, 0) :: k175_21
def k175_17 : List mj_O := (17, 1, 1, 0, 0) :: (18, 26, 0, 0, 0) :: k175_19
def k175_0 : List mj_O := (0, 5, 0, 0, 0) :: (1, 31, 12, 16, 151) :: (4, 0, 1, 0, 0) :: (5, 22, 1, 17, 0) :: (8, 5, 0, 0, 0) :: (9, 31, 12, 18, 161) :: (12, 0, 7, 0, 0) :: (14, 22, 5, 19, 0) :: k175_17
def k175 : Nat → List mj_O := fun t => match t with
  | 0 => k175_0
  | 17 => k175_17
  | 19 => k175_19
  | 21 => k175_21
  | 41 => k175_41
  | 47 => k175_47
  | _ => []
-- 176: SockFairModel.wrong (I)V
def k176_8 : List mj_O := (8, 5, 0, 0, 0) :: (9, 3, 1, 0, 0) :: (10, 34, 12, 11, 174) :: (13, 5, 0, 0, 0) :: (14, 5, 0, 0, 0) :: (15, 31, 12, 17, 138) :: (18, 34, 12, 12, 35) :: (21, 25, 0, 0, 0) :: []
def k176_0 : List mj_O := (0, 5, 0, 0, 0) :: (1, 31, 12, 11, 174) :: (4, 21, 0, 8, 0) :: (7, 25, 0, 0, 0) :: k176_8
def k176 : Nat → List mj_O := fun t => match t with
  | 0 => k176_0
  | 8 => k176_8
  | _ => []
-- 177: SockFairModel.isGood ()Z
def k177_12 : List mj_O := (12, 27, 0, 0, 0) :: []
def k177_11 : List mj_O := (11, 0, 0, 0, 0) :: k177_12
def k177_0 : List mj_O := (0, 5, 0, 0, 0) :: (1, 31, 12, 11, 174) :: (4, 21, 1, 11, 0) :: (7, 0, 1, 0, 0) :: (8, 23, 0, 12, 0) :: k177_11
def k177 : Nat → List mj_O := fun t => match t with
  | 0 => k177_0
  | 11 => k177_11
  | 12 => k177_12
  | _ => []
-- 178: SockFairModel.isSign (I)Z
def k178_21 : List mj_O := (21, 27, 0, 0, 0) :: []
def k178_20 : List mj_O := (20, 0, 0, 0, 0) :: k178_21
def k178_0 : List mj_O := (0, 5, 0, 0, 0) :: (1, 31, 12, 16, 151) :: (4, 0, 3, 0, 0) :: (5, 22, 1, 20, 0) :: (8, 5, 0, 0, 0) :: (9, 31, 12, 20, 148) :: (12, 3, 1, 0, 0) :: (13, 22, 1, 20, 0) :: (16, 0, 1, 0, 0) :: (17, 23, 0, 21, 0) :: k178_20
def k178 : Nat → List mj_O := fun t => match t with
  | 0 => k178_0
  | 20 => k178_20
  | 21 => k178_21
  | _ => []
-- 179: SockFairModel.need (Z)V
def k179_24 : List mj_O := (24, 25, 0, 0, 0) :: []
def k179_19 : List mj_O := (19, 5, 0, 0, 0) :: (20, 0, 1, 0, 0) :: (21, 47, 176, 0, 184) :: k179_24
def k179_8 : List mj_O := (8, 3, 1, 0, 0) :: (9, 21, 0, 19, 0) :: (12, 5, 0, 0, 0) :: (13, 47, 172, 0, 181) :: (16, 23, 0, 24, 0) :: k179_19
def k179_0 : List mj_O := (0, 5, 0, 0, 0) :: (1, 47, 177, 0, 177) :: (4, 21, 1, 8, 0) :: (7, 25, 0, 0, 0) :: k179_8
def k179 : Nat → List mj_O := fun t => match t with
  | 0 => k179_0
  | 8 => k179_8
  | 19 => k179_19
  | 24 => k179_24
  | _ => []
-- 180: SockFairModel.number (II)I
def k180_70 : List mj_O := (70, 3, 3, 0, 0) :: (71, 26, 0, 0, 0) :: []
def k180_54 : List mj_O := (54, 5, 0, 0, 0) :: (55, 31, 12, 19, 145) :: (58, 6, 3, 0, 0) :: (59, 5, 0, 0, 0) :: (60, 47, 177, 0, 177) :: (63, 21, 0, 70, 0) :: (66, 5, 0, 0, 0) :: (67, 47, 172, 0, 181) :: k180_70
def k180_49 : List mj_O := (49, 5, 0, 0, 0) :: (50, 0, 2, 0, 0) :: (51, 47, 176, 0, 184) :: k180_54
def k180_25 : List mj_O := (25, 5, 0, 0, 0) :: (26, 31, 12, 18, 161) :: (29, 0, 4, 0, 0) :: (30, 22, 4, 49, 0) :: (33, 5, 0, 0, 0) :: (34, 31, 12, 19, 145) :: (37, 3, 1, 0, 0) :: (38, 22, 2, 49, 0) :: (41, 5, 0, 0, 0) :: (42, 31, 12, 19, 145) :: (45, 3, 2, 0, 0) :: (46, 22, 5, 54, 0) :: k180_49
def k180_9 : List mj_O := (9, 5, 0, 0, 0) :: (10, 31, 12, 16, 151) :: (13, 0, 2, 0, 0) :: (14, 22, 0, 25, 0) :: (17, 5, 0, 0, 0) :: (18, 0, 1, 0, 0) :: (19, 47, 176, 0, 184) :: (22, 23, 0, 54, 0) :: k180_25
def k180_0 : List mj_O := (0, 5, 0, 0, 0) :: (1, 47, 177, 0, 177) :: (4, 21, 1, 9, 0) :: (7, 0, 0, 0, 0) :: (8, 26, 0, 0, 0) :: k180_9
def k180 : Nat → List mj_O := fun t => match t with
  | 0 => k180_0
  | 9 => k180_9
  | 25 => k180_25
  | 49 => k180_49
  | 54 => k180_54
  | 70 => k180_70
  | _ => []
-- 181: SockFairModel.unbound (I)I
def k181_105 : List mj_O := (105, 3, 2, 0, 0) :: (106, 26, 0, 0, 0) :: []
def k181_89 : List mj_O := (89, 5, 0, 0, 0) :: (90, 31, 12, 19, 145) :: (93, 6, 2, 0, 0) :: (94, 5, 0, 0, 0) :: (95, 47, 177, 0, 177) :: (98, 21, 0, 105, 0) :: (101, 5, 0, 0, 0) :: (102, 47, 172, 0, 181) :: k181_105
def k181_84 : List mj_O := (84, 5, 0, 0, 0) :: (85, 0, 4, 0, 0) :: (86, 47, 176, 0, 184) :: k181_89
def k181_60 : List mj_O := (60, 5, 0, 0, 0) :: (61, 31, 12, 19, 145) :: (64, 3, 1, 0, 0) :: (65, 22, 0, 84, 0) :: (68, 5, 0, 0, 0) :: (69, 33, 12, 34, 53) :: (72, 0, 23, 0, 0) :: (74, 5, 0, 0, 0) :: (75, 31, 12, 19, 145) :: (78, 11, 0, 0, 0) :: (79, 38, 0, 0, 0) :: (80, 1, 1, 0, 0) :: (81, 22, 0, 89, 0) :: k181_84
def k181_41 : List mj_O := (41, 5, 0, 0, 0) :: (42, 31, 12, 19, 145) :: (45, 5, 0, 0, 0) :: (46, 31, 12, 22, 187) :: (49, 22, 2, 60, 0) :: (52, 5, 0, 0, 0) :: (53, 0, 3, 0, 0) :: (54, 47, 176, 0, 184) :: (57, 23, 0, 89, 0) :: k181_60
def k181_25 : List mj_O := (25, 5, 0, 0, 0) :: (26, 31, 12, 18, 161) :: (29, 0, 4, 0, 0) :: (30, 22, 5, 41, 0) :: (33, 5, 0, 0, 0) :: (34, 0, 2, 0, 0) :: (35, 47, 176, 0, 184) :: (38, 23, 0, 89, 0) :: k181_41
def k181_9 : List mj_O := (9, 5, 0, 0, 0) :: (10, 31, 12, 16, 151) :: (13, 0, 2, 0, 0) :: (14, 22, 0, 25, 0) :: (17, 5, 0, 0, 0) :: (18, 0, 1, 0, 0) :: (19, 47, 176, 0, 184) :: (22, 23, 0, 89, 0) :: k181_25
def k181_0 : List mj_O := (0, 5, 0, 0, 0) :: (1, 47, 177, 0, 177) :: (4, 21, 1, 9, 0) :: (7, 0, 0, 0, 0) :: (8, 26, 0, 0, 0) :: k181_9
def k181 : Nat → List mj_O := fun t => match t with
  | 0 => k181_0
  | 9 => k181_9
  | 25 => k181_25
  | 41 => k181_41
  | 60 => k181_60
  | 84 => k181_84
  | 89 => k181_89
  | 105 => k181_105
  | _ => []
-- 182: SockFairModel.puts (I)V
def k182_0 : List mj_O := (0, 5, 0, 0, 0) :: (1, 33, 12, 35, 56) :: (4, 5, 0, 0, 0) :: (5, 31, 12, 25, 190) :: (8, 3, 1, 0, 0) :: (9, 42, 0, 0, 0) :: (10, 5, 0, 0, 0) :: (11, 18, 0, 0, 0) :: (12, 31, 12, 25, 190) :: (15, 0, 1, 0, 0) :: (16, 11, 0, 0, 0) :: (17, 34, 12, 25, 190) :: (20, 25, 0, 0, 0) :: []
def k182 : Nat → List mj_O := fun t => match t with
  | 0 => k182_0
  | _ => []
-- 183: SockFairModel.isOpen (I)Z
def k183_11 : List mj_O := (11, 27, 0, 0, 0) :: []
def k183_10 : List mj_O := (10, 0, 0, 0, 0) :: k183_11
def k183_0 : List mj_O := (0, 3, 0, 0, 0) :: (1, 0, 14, 0, 0) :: (3, 22, 2, 10, 0) :: (6, 0, 1, 0, 0) :: (7, 23, 0, 11, 0) :: k183_10
def k183 : Nat → List mj_O := fun t => match t with
  | 0 => k183_0
  | 10 => k183_10
  | 11 => k183_11
  | _ => []
-- 184: SockFairModel.strength (I)I
def k184_61 : List mj_O := (61, 26, 0, 0, 0) :: []
def k184_59 : List mj_O := (59, 0, 6, 0, 0) :: k184_61
def k184_55 : List mj_O := (55, 0, 5, 0, 0) :: (56, 23, 0, 61, 0) :: k184_59
def k184_43 : List mj_O := (43, 3, 0, 0, 0) :: (44, 0, 8, 0, 0) :: (46, 22, 0, 55, 0) :: (49, 3, 0, 0, 0) :: (50, 0, 9, 0, 0) :: (52, 22, 1, 59, 0) :: k184_55
def k184_39 : List mj_O := (39, 0, 4, 0, 0) :: (40, 23, 0, 61, 0) :: k184_43
def k184_27 : List mj_O := (27, 3, 0, 0, 0) :: (28, 0, 6, 0, 0) :: (30, 22, 0, 39, 0) :: (33, 3, 0, 0, 0) :: (34, 0, 7, 0, 0) :: (36, 22, 1, 43, 0) :: k184_39
def k184_18 : List mj_O := (18, 3, 0, 0, 0) :: (19, 0, 3, 0, 0) :: (20, 22, 1, 27, 0) :: (23, 0, 3, 0, 0) :: (24, 23, 0, 61, 0) :: k184_27
def k184_9 : List mj_O := (9, 3, 0, 0, 0) :: (10, 0, 4, 0, 0) :: (11, 22, 1, 18, 0) :: (14, 0, 2, 0, 0) :: (15, 23, 0, 61, 0) :: k184_18
def k184_0 : List mj_O := (0, 3, 0, 0, 0) :: (1, 0, 5, 0, 0) :: (2, 22, 1, 9, 0) :: (5, 0, 1, 0, 0) :: (6, 23, 0, 61, 0) :: k184_9
def k184 : Nat → List mj_O := fun t => match t with
  | 0 => k184_0
  | 9 => k184_9
  | 18 => k184_18
  | 27 => k184_27
  | 39 => k184_39
  | 43 => k184_43
  | 55 => k184_55
  | 59 => k184_59
  | 61 => k184_61
  | _ => []
-- 185: SockFairModel.drops (I)V
def k185_68 : List mj_O := (68, 25, 0, 0, 0) :: []
def k185_0 : List mj_O := (0, 5, 0, 0, 0) :: (1, 31, 12, 28, 193) :: (4, 21, 5, 68, 0) :: (7, 5, 0, 0, 0) :: (8, 33, 12, 36, 59) :: (11, 5, 0, 0, 0) :: (12, 31, 12, 28, 193) :: (15, 0, 1, 0, 0) :: (16, 11, 1, 0, 0) :: (17, 38, 0, 0, 0) :: (18, 48, 183, 0, 196) :: (21, 21, 1, 68, 0) :: (24, 5, 0, 0, 0) :: (25, 33, 12, 36, 59) :: (28, 5, 0, 0, 0) :: (29, 31, 12, 28, 193) :: (32, 0, 1, 0, 0) :: (33, 11, 1, 0, 0) :: (34, 38, 0, 0, 0) :: (35, 48, 184, 0, 199) :: (38, 3, 1, 0, 0) :: (39, 22, 2, 68, 0) :: (42, 5, 0, 0, 0) :: (43, 18, 0, 0, 0) :: (44, 31, 12, 28, 193) :: (47, 0, 1, 0, 0) :: (48, 11, 1, 0, 0) :: (49, 34, 12, 28, 193) :: (52, 5, 0, 0, 0) :: (53, 5, 0, 0, 0) :: (54, 33, 12, 36, 59) :: (57, 5, 0, 0, 0) :: (58, 31, 12, 28, 193) :: (61, 38, 0, 0, 0) :: (62, 47, 182, 0, 202) :: (65, 23, 0, 0, 0) :: k185_68
def k185 : Nat → List mj_O := fun t => match t with
  | 0 => k185_0
  | 68 => k185_68
  | _ => []
-- 186: SockFairModel.waitsFor (I)V
def k186_0 : List mj_O := (0, 5, 0, 0, 0) :: (1, 33, 12, 36, 59) :: (4, 5, 0, 0, 0) :: (5, 31, 12, 28, 193) :: (8, 3, 1, 0, 0) :: (9, 42, 0, 0, 0) :: (10, 5, 0, 0, 0) :: (11, 18, 0, 0, 0) :: (12, 31, 12, 28, 193) :: (15, 0, 1, 0, 0) :: (16, 11, 0, 0, 0) :: (17, 34, 12, 28, 193) :: (20, 25, 0, 0, 0) :: []
def k186 : Nat → List mj_O := fun t => match t with
  | 0 => k186_0
  | _ => []
-- 187: SockFairModel.part ()V
def k187_108 : List mj_O := (108, 25, 0, 0, 0) :: []
def k187_97 : List mj_O := (97, 5, 0, 0, 0) :: (98, 47, 177, 0, 177) :: (101, 21, 0, 108, 0) :: (104, 5, 0, 0, 0) :: (105, 47, 172, 0, 181) :: k187_108
def k187_92 : List mj_O := (92, 5, 0, 0, 0) :: (93, 0, 1, 0, 0) :: (94, 47, 176, 0, 184) :: k187_97
def k187_79 : List mj_O := (79, 5, 0, 0, 0) :: (80, 0, 2, 0, 0) :: (81, 47, 182, 0, 202) :: (84, 5, 0, 0, 0) :: (85, 3, 1, 0, 0) :: (86, 47, 182, 0, 202) :: (89, 23, 0, 97, 0) :: k187_92
def k187_74 : List mj_O := (74, 5, 0, 0, 0) :: (75, 0, 3, 0, 0) :: (76, 47, 176, 0, 184) :: k187_79
def k187_45 : List mj_O := (45, 5, 0, 0, 0) :: (46, 31, 12, 16, 151) :: (49, 0, 1, 0, 0) :: (50, 22, 1, 92, 0) :: (53, 5, 0, 0, 0) :: (54, 47, 175, 0, 205) :: (57, 6, 1, 0, 0) :: (58, 3, 1, 0, 0) :: (59, 5, 0, 0, 0) :: (60, 31, 12, 26, 209) :: (63, 22, 2, 74, 0) :: (66, 3, 1, 0, 0) :: (67, 5, 0, 0, 0) :: (68, 31, 12, 27, 212) :: (71, 22, 5, 79, 0) :: k187_74
def k187_29 : List mj_O := (29, 5, 0, 0, 0) :: (30, 0, 1, 0, 0) :: (31, 47, 182, 0, 202) :: (34, 5, 0, 0, 0) :: (35, 5, 0, 0, 0) :: (36, 31, 12, 19, 145) :: (39, 47, 182, 0, 202) :: (42, 23, 0, 97, 0) :: k187_45
def k187_8 : List mj_O := (8, 5, 0, 0, 0) :: (9, 31, 12, 16, 151) :: (12, 0, 2, 0, 0) :: (13, 22, 1, 45, 0) :: (16, 5, 0, 0, 0) :: (17, 31, 12, 18, 161) :: (20, 0, 4, 0, 0) :: (21, 22, 5, 29, 0) :: (24, 5, 0, 0, 0) :: (25, 0, 2, 0, 0) :: (26, 47, 176, 0, 184) :: k187_29
def k187_0 : List mj_O := (0, 5, 0, 0, 0) :: (1, 47, 177, 0, 177) :: (4, 21, 1, 8, 0) :: (7, 25, 0, 0, 0) :: k187_8
def k187 : Nat → List mj_O := fun t => match t with
  | 0 => k187_0
  | 8 => k187_8
  | 29 => k187_29
  | 45 => k187_45
  | 74 => k187_74
  | 79 => k187_79
  | 92 => k187_92
  | 97 => k187_97
  | 108 => k187_108
  | _ => []
-- 188: SockFairModel.deeper ()V
def k188_61 : List mj_O := (61, 47, 176, 0, 184) :: (64, 25, 0, 0, 0) :: []
def k188_60 : List mj_O := (60, 0, 1, 0, 0) :: k188_61
def k188_56 : List mj_O := (56, 0, 2, 0, 0) :: (57, 23, 0, 61, 0) :: k188_60
def k188_30 : List mj_O := (30, 5, 0, 0, 0) :: (31, 5, 0, 0, 0) :: (32, 31, 12, 16, 151) :: (35, 0, 2, 0, 0) :: (36, 22, 0, 56, 0) :: (39, 5, 0, 0, 0) :: (40, 31, 12, 16, 151) :: (43, 0, 1, 0, 0) :: (44, 22, 0, 56, 0) :: (47, 5, 0, 0, 0) :: (48, 0, 40, 0, 0) :: (50, 47, 178, 0, 218) :: (53, 21, 0, 60, 0) :: k188_56
def k188_0 : List mj_O := (0, 5, 0, 0, 0) :: (1, 31, 12, 29, 215) :: (4, 0, 6, 0, 0) :: (6, 22, 3, 30, 0) :: (9, 5, 0, 0, 0) :: (10, 18, 0, 0, 0) :: (11, 31, 12, 29, 215) :: (14, 0, 1, 0, 0) :: (15, 11, 0, 0, 0) :: (16, 34, 12, 29, 215) :: (19, 5, 0, 0, 0) :: (20, 33, 12, 37, 62) :: (23, 5, 0, 0, 0) :: (24, 31, 12, 29, 215) :: (27, 0, 0, 0, 0) :: (28, 45, 0, 0, 0) :: (29, 25, 0, 0, 0) :: k188_30
def k188 : Nat → List mj_O := fun t => match t with
  | 0 => k188_0
  | 30 => k188_30
  | 56 => k188_56
  | 60 => k188_60
  | 61 => k188_61
  | _ => []
-- 189: SockFairModel.operand (Z)V
def k189_120 : List mj_O := (120, 5, 0, 0, 0) :: (121, 47, 187, 0, 227) :: (124, 25, 0, 0, 0) :: []
def k189_117 : List mj_O := (117, 23, 0, 4, 0) :: k189_120
def k189_96 : List mj_O := (96, 6, 3, 0, 0) :: (97, 3, 3, 0, 0) :: (98, 21, 0, 117, 0) :: (101, 5, 0, 0, 0) :: (102, 0, 14, 0, 0) :: (104, 47, 186, 0, 221) :: (107, 5, 0, 0, 0) :: (108, 47, 172, 0, 181) :: (111, 5, 0, 0, 0) :: (112, 47, 188, 0, 224) :: (115, 0, 1, 0, 0) :: (116, 6, 2, 0, 0) :: k189_117
def k189_95 : List mj_O := (95, 0, 0, 0, 0) :: k189_96
def k189_75 : List mj_O := (75, 5, 0, 0, 0) :: (76, 47, 177, 0, 177) :: (79, 21, 0, 95, 0) :: (82, 5, 0, 0, 0) :: (83, 0, 40, 0, 0) :: (85, 47, 178, 0, 218) :: (88, 21, 0, 95, 0) :: (91, 0, 1, 0, 0) :: (92, 23, 0, 96, 0) :: k189_95
def k189_63 : List mj_O := (63, 5, 0, 0, 0) :: (64, 0, 3, 0, 0) :: (65, 47, 186, 0, 221) :: (68, 5, 0, 0, 0) :: (69, 47, 172, 0, 181) :: (72, 23, 0, 18, 0) :: k189_75
def k189_50 : List mj_O := (50, 9, 4, 1, 0) :: (53, 5, 0, 0, 0) :: (54, 47, 177, 0, 177) :: (57, 21, 1, 63, 0) :: (60, 23, 0, 18, 0) :: k189_63
def k189_18 : List mj_O := (18, 5, 0, 0, 0) :: (19, 47, 177, 0, 177) :: (22, 21, 0, 75, 0) :: (25, 3, 2, 0, 0) :: (26, 21, 0, 75, 0) :: (29, 5, 0, 0, 0) :: (30, 47, 175, 0, 205) :: (33, 0, 18, 0, 0) :: (35, 22, 1, 75, 0) :: (38, 3, 4, 0, 0) :: (40, 0, 6, 0, 0) :: (42, 22, 1, 50, 0) :: (45, 5, 0, 0, 0) :: (46, 0, 2, 0, 0) :: (47, 47, 176, 0, 184) :: k189_50
def k189_4 : List mj_O := (4, 3, 3, 0, 0) :: (5, 21, 0, 120, 0) :: (8, 5, 0, 0, 0) :: (9, 47, 177, 0, 177) :: (12, 21, 0, 120, 0) :: (15, 0, 0, 0, 0) :: (16, 6, 4, 0, 0) :: k189_18
def k189_0 : List mj_O := (0, 3, 1, 0, 0) :: (1, 6, 2, 0, 0) :: (2, 0, 1, 0, 0) :: (3, 6, 3, 0, 0) :: k189_4
def k189 : Nat → List mj_O := fun t => match t with
  | 0 => k189_0
  | 4 => k189_4
  | 18 => k189_18
  | 50 => k189_50
  | 63 => k189_63
  | 75 => k189_75
  | 95 => k189_95
  | 96 => k189_96
  | 117 => k189_117
  | 120 => k189_120
  | _ => []
-- 190: SockFairModel.isOpened ()Z
def k190_38 : List mj_O := (38, 27, 0, 0, 0) :: []
def k190_37 : List mj_O := (37, 0, 0, 0, 0) :: k190_38
def k190_29 : List mj_O := (29, 3, 1, 0, 0) :: (30, 21, 2, 37, 0) :: (33, 0, 1, 0, 0) :: (34, 23, 0, 38, 0) :: k190_37
def k190_7 : List mj_O := (7, 3, 1, 0, 0) :: (8, 21, 2, 29, 0) :: (11, 5, 0, 0, 0) :: (12, 33, 12, 36, 59) :: (15, 3, 1, 0, 0) :: (16, 38, 0, 0, 0) :: (17, 48, 183, 0, 196) :: (20, 21, 1, 29, 0) :: (23, 10, 1, 1, 0) :: (26, 23, 0, 7, 0) :: k190_29
def k190_0 : List mj_O := (0, 5, 0, 0, 0) :: (1, 31, 12, 28, 193) :: (4, 0, 1, 0, 0) :: (5, 11, 1, 0, 0) :: (6, 6, 1, 0, 0) :: k190_7
def k190 : Nat → List mj_O := fun t => match t with
  | 0 => k190_0
  | 7 => k190_7
  | 29 => k190_29
  | 37 => k190_37
  | 38 => k190_38
  | _ => []
-- 191: SockFairModel.closes ()V
def k191_0 : List mj_O := (0, 5, 0, 0, 0) :: (1, 0, 0, 0, 0) :: (2, 47, 185, 0, 230) :: (5, 5, 0, 0, 0) :: (6, 18, 0, 0, 0) :: (7, 31, 12, 28, 193) :: (10, 0, 1, 0, 0) :: (11, 11, 1, 0, 0) :: (12, 34, 12, 28, 193) :: (15, 5, 0, 0, 0) :: (16, 18, 0, 0, 0) :: (17, 31, 12, 29, 215) :: (20, 0, 1, 0, 0) :: (21, 11, 1, 0, 0) :: (22, 34, 12, 29, 215) :: (25, 5, 0, 0, 0) :: (26, 47, 172, 0, 181) :: (29, 25, 0, 0, 0) :: []
def k191 : Nat → List mj_O := fun t => match t with
  | 0 => k191_0
  | _ => []
-- 192: SockFairModel.expression (II)V
def k192_360 : List mj_O := (360, 5, 0, 0, 0) :: (361, 0, 0, 0, 0) :: (362, 47, 185, 0, 230) :: (365, 5, 0, 0, 0) :: (366, 0, 0, 0, 0) :: (367, 47, 182, 0, 202) :: (370, 25, 0, 0, 0) :: []
def k192_340 : List mj_O := (340, 5, 0, 0, 0) :: (341, 47, 177, 0, 177) :: (344, 21, 0, 360, 0) :: (347, 5, 0, 0, 0) :: (348, 31, 12, 29, 215) :: (351, 0, 1, 0, 0) :: (352, 22, 5, 360, 0) :: (355, 5, 0, 0, 0) :: (356, 0, 1, 0, 0) :: (357, 47, 176, 0, 184) :: k192_360
def k192_337 : List mj_O := (337, 23, 0, 39, 0) :: k192_340
def k192_335 : List mj_O := (335, 0, 0, 0, 0) :: (336, 6, 3, 0, 0) :: k192_337
def k192_312 : List mj_O := (312, 5, 0, 0, 0) :: (313, 0, 41, 0, 0) :: (315, 47, 178, 0, 218) :: (318, 21, 0, 335, 0) :: (321, 5, 0, 0, 0) :: (322, 47, 190, 0, 237) :: (325, 21, 0, 335, 0) :: (328, 5, 0, 0, 0) :: (329, 47, 191, 0, 240) :: (332, 23, 0, 337, 0) :: k192_335
def k192_297 : List mj_O := (297, 47, 186, 0, 221) :: (300, 5, 0, 0, 0) :: (301, 47, 172, 0, 181) :: (304, 5, 0, 0, 0) :: (305, 0, 0, 0, 0) :: (306, 47, 189, 0, 233) :: (309, 23, 0, 337, 0) :: k192_312
def k192_295 : List mj_O := (295, 0, 11, 0, 0) :: k192_297
def k192_274 : List mj_O := (274, 5, 0, 0, 0) :: (275, 0, 6, 0, 0) :: (277, 47, 185, 0, 230) :: (280, 5, 0, 0, 0) :: (281, 5, 0, 0, 0) :: (282, 0, 42, 0, 0) :: (284, 47, 178, 0, 218) :: (287, 21, 0, 295, 0) :: (290, 0, 10, 0, 0) :: (292, 23, 0, 297, 0) :: k192_295
def k192_256 : List mj_O := (256, 5, 0, 0, 0) :: (257, 0, 42, 0, 0) :: (259, 47, 178, 0, 218) :: (262, 21, 1, 274, 0) :: (265, 5, 0, 0, 0) :: (266, 0, 47, 0, 0) :: (268, 47, 178, 0, 218) :: (271, 21, 0, 312, 0) :: k192_274
def k192_241 : List mj_O := (241, 47, 186, 0, 221) :: (244, 5, 0, 0, 0) :: (245, 47, 172, 0, 181) :: (248, 5, 0, 0, 0) :: (249, 0, 0, 0, 0) :: (250, 47, 189, 0, 233) :: (253, 23, 0, 337, 0) :: k192_256
def k192_239 : List mj_O := (239, 0, 9, 0, 0) :: k192_241
def k192_219 : List mj_O := (219, 5, 0, 0, 0) :: (220, 0, 5, 0, 0) :: (221, 47, 185, 0, 230) :: (224, 5, 0, 0, 0) :: (225, 5, 0, 0, 0) :: (226, 0, 43, 0, 0) :: (228, 47, 178, 0, 218) :: (231, 21, 0, 239, 0) :: (234, 0, 8, 0, 0) :: (236, 23, 0, 241, 0) :: k192_239
def k192_201 : List mj_O := (201, 5, 0, 0, 0) :: (202, 0, 43, 0, 0) :: (204, 47, 178, 0, 218) :: (207, 21, 1, 219, 0) :: (210, 5, 0, 0, 0) :: (211, 0, 45, 0, 0) :: (213, 47, 178, 0, 218) :: (216, 21, 0, 256, 0) :: k192_219
def k192_176 : List mj_O := (176, 47, 186, 0, 221) :: (179, 5, 0, 0, 0) :: (180, 33, 12, 37, 62) :: (183, 5, 0, 0, 0) :: (184, 31, 12, 29, 215) :: (187, 0, 1, 0, 0) :: (188, 45, 0, 0, 0) :: (189, 5, 0, 0, 0) :: (190, 47, 172, 0, 181) :: (193, 5, 0, 0, 0) :: (194, 0, 0, 0, 0) :: (195, 47, 189, 0, 233) :: (198, 23, 0, 337, 0) :: k192_201
def k192_174 : List mj_O := (174, 0, 7, 0, 0) :: k192_176
def k192_142 : List mj_O := (142, 5, 0, 0, 0) :: (143, 33, 12, 37, 62) :: (146, 5, 0, 0, 0) :: (147, 31, 12, 29, 215) :: (150, 41, 0, 0, 0) :: (151, 21, 1, 201, 0) :: (154, 5, 0, 0, 0) :: (155, 0, 4, 0, 0) :: (156, 47, 185, 0, 230) :: (159, 5, 0, 0, 0) :: (160, 5, 0, 0, 0) :: (161, 0, 60, 0, 0) :: (163, 47, 178, 0, 218) :: (166, 21, 0, 174, 0) :: (169, 0, 6, 0, 0) :: (171, 23, 0, 176, 0) :: k192_174
def k192_124 : List mj_O := (124, 5, 0, 0, 0) :: (125, 0, 60, 0, 0) :: (127, 47, 178, 0, 218) :: (130, 21, 1, 142, 0) :: (133, 5, 0, 0, 0) :: (134, 0, 61, 0, 0) :: (136, 47, 178, 0, 218) :: (139, 21, 0, 201, 0) :: k192_142
def k192_99 : List mj_O := (99, 47, 186, 0, 221) :: (102, 5, 0, 0, 0) :: (103, 33, 12, 37, 62) :: (106, 5, 0, 0, 0) :: (107, 31, 12, 29, 215) :: (110, 0, 0, 0, 0) :: (111, 45, 0, 0, 0) :: (112, 5, 0, 0, 0) :: (113, 47, 172, 0, 181) :: (116, 5, 0, 0, 0) :: (117, 0, 1, 0, 0) :: (118, 47, 189, 0, 233) :: (121, 23, 0, 337, 0) :: k192_124
def k192_98 : List mj_O := (98, 0, 5, 0, 0) :: k192_99
def k192_83 : List mj_O := (83, 47, 185, 0, 230) :: (86, 5, 0, 0, 0) :: (87, 3, 4, 0, 0) :: (89, 0, 16, 0, 0) :: (91, 22, 1, 98, 0) :: (94, 0, 4, 0, 0) :: (95, 23, 0, 99, 0) :: k192_98
def k192_82 : List mj_O := (82, 0, 1, 0, 0) :: k192_83
def k192_70 : List mj_O := (70, 5, 0, 0, 0) :: (71, 3, 4, 0, 0) :: (73, 0, 16, 0, 0) :: (75, 22, 1, 82, 0) :: (78, 0, 2, 0, 0) :: (79, 23, 0, 83, 0) :: k192_82
def k192_39 : List mj_O := (39, 3, 3, 0, 0) :: (40, 21, 0, 340, 0) :: (43, 5, 0, 0, 0) :: (44, 47, 177, 0, 177) :: (47, 21, 0, 340, 0) :: (50, 5, 0, 0, 0) :: (51, 47, 175, 0, 205) :: (54, 6, 4, 0, 0) :: (56, 3, 4, 0, 0) :: (58, 0, 16, 0, 0) :: (60, 22, 0, 70, 0) :: (63, 3, 4, 0, 0) :: (65, 0, 17, 0, 0) :: (67, 22, 1, 124, 0) :: k192_70
def k192_8 : List mj_O := (8, 5, 0, 0, 0) :: (9, 3, 1, 0, 0) :: (10, 34, 12, 26, 209) :: (13, 5, 0, 0, 0) :: (14, 3, 2, 0, 0) :: (15, 34, 12, 27, 212) :: (18, 5, 0, 0, 0) :: (19, 0, 0, 0, 0) :: (20, 34, 12, 28, 193) :: (23, 5, 0, 0, 0) :: (24, 0, 0, 0, 0) :: (25, 34, 12, 29, 215) :: (28, 5, 0, 0, 0) :: (29, 47, 188, 0, 224) :: (32, 5, 0, 0, 0) :: (33, 0, 1, 0, 0) :: (34, 47, 189, 0, 233) :: (37, 0, 1, 0, 0) :: (38, 6, 3, 0, 0) :: k192_39
def k192_0 : List mj_O := (0, 5, 0, 0, 0) :: (1, 47, 177, 0, 177) :: (4, 21, 1, 8, 0) :: (7, 25, 0, 0, 0) :: k192_8
def k192 : Nat → List mj_O := fun t => match t with
  | 0 => k192_0
  | 8 => k192_8
  | 39 => k192_39
  | 70 => k192_70
  | 82 => k192_82
  | 83 => k192_83
  | 98 => k192_98
  | 99 => k192_99
  | 124 => k192_124
  | 142 => k192_142
  | 174 => k192_174
  | 176 => k192_176
  | 201 => k192_201
  | 219 => k192_219
  | 239 => k192_239
  | 241 => k192_241
  | 256 => k192_256
  | 274 => k192_274
  | 295 => k192_295
  | 297 => k192_297
  | 312 => k192_312
  | 335 => k192_335
  | 337 => k192_337
  | 340 => k192_340
  | 360 => k192_360
  | _ => []
-- 193: SockFairModel.readsSock (I)V
def k193_134 : List mj_O := (134, 25, 0, 0, 0) :: []
def k193_22 : List mj_O := (22, 5, 0, 0, 0) :: (23, 47, 172, 0, 181) :: (26, 5, 0, 0, 0) :: (27, 31, 12, 22, 187) :: (30, 6, 2, 0, 0) :: (31, 5, 0, 0, 0) :: (32, 33, 12, 30, 41) :: (35, 3, 2, 0, 0) :: (36, 3, 1, 0, 0) :: (37, 42, 0, 0, 0) :: (38, 5, 0, 0, 0) :: (39, 33, 12, 34, 53) :: (42, 0, 1, 0, 0) :: (43, 3, 2, 0, 0) :: (44, 11, 0, 0, 0) :: (45, 5, 0, 0, 0) :: (46, 0, 0, 0, 0) :: (47, 0, 9, 0, 0) :: (49, 47, 180, 0, 243) :: (52, 42, 0, 0, 0) :: (53, 5, 0, 0, 0) :: (54, 33, 12, 31, 44) :: (57, 3, 2, 0, 0) :: (58, 5, 0, 0, 0) :: (59, 0, 0, 0, 0) :: (60, 0, 3, 0, 0) :: (61, 47, 180, 0, 243) :: (64, 42, 0, 0, 0) :: (65, 5, 0, 0, 0) :: (66, 33, 12, 32, 47) :: (69, 3, 2, 0, 0) :: (70, 5, 0, 0, 0) :: (71, 0, 1, 0, 0) :: (72, 0, 30, 0, 0) :: (74, 47, 180, 0, 243) :: (77, 42, 0, 0, 0) :: (78, 5, 0, 0, 0) :: (79, 33, 12, 34, 53) :: (82, 0, 12, 0, 0) :: (84, 3, 2, 0, 0) :: (85, 11, 0, 0, 0) :: (86, 5, 0, 0, 0) :: (87, 0, 0, 0, 0) :: (88, 0, 9, 0, 0) :: (90, 47, 180, 0, 243) :: (93, 42, 0, 0, 0) :: (94, 5, 0, 0, 0) :: (95, 33, 12, 33, 50) :: (98, 3, 2, 0, 0) :: (99, 5, 0, 0, 0) :: (100, 0, 0, 0, 0) :: (101, 0, 20, 0, 0) :: (103, 47, 180, 0, 243) :: (106, 42, 0, 0, 0) :: (107, 5, 0, 0, 0) :: (108, 33, 12, 34, 53) :: (111, 0, 23, 0, 0) :: (113, 3, 2, 0, 0) :: (114, 11, 0, 0, 0) :: (115, 1, 1, 0, 0) :: (116, 42, 0, 0, 0) :: (117, 5, 0, 0, 0) :: (118, 47, 177, 0, 177) :: (121, 21, 0, 134, 0) :: (124, 5, 0, 0, 0) :: (125, 18, 0, 0, 0) :: (126, 31, 12, 22, 187) :: (129, 0, 1, 0, 0) :: (130, 11, 0, 0, 0) :: (131, 34, 12, 22, 187) :: k193_134
def k193_14 : List mj_O := (14, 5, 0, 0, 0) :: (15, 47, 177, 0, 177) :: (18, 21, 1, 22, 0) :: (21, 25, 0, 0, 0) :: k193_22
def k193_0 : List mj_O := (0, 5, 0, 0, 0) :: (1, 31, 12, 22, 187) :: (4, 0, 10, 0, 0) :: (6, 22, 1, 14, 0) :: (9, 5, 0, 0, 0) :: (10, 0, 2, 0, 0) :: (11, 47, 176, 0, 184) :: k193_14
def k193 : Nat → List mj_O := fun t => match t with
  | 0 => k193_0
  | 14 => k193_14
  | 22 => k193_22
  | 134 => k193_134
  | _ => []
-- 194: SockFairModel.line ()V
def k194_207 : List mj_O := (207, 5, 0, 0, 0) :: (208, 5, 0, 0, 0) :: (209, 0, 59, 0, 0) :: (211, 47, 178, 0, 218) :: (214, 47, 179, 0, 263) :: (217, 25, 0, 0, 0) :: []
def k194_202 : List mj_O := (202, 5, 0, 0, 0) :: (203, 0, 1, 0, 0) :: (204, 47, 176, 0, 184) :: k194_207
def k194_179 : List mj_O := (179, 5, 0, 0, 0) :: (180, 47, 172, 0, 181) :: (183, 5, 0, 0, 0) :: (184, 5, 0, 0, 0) :: (185, 31, 12, 25, 190) :: (188, 34, 12, 24, 260) :: (191, 5, 0, 0, 0) :: (192, 0, 6, 0, 0) :: (194, 0, 10, 0, 0) :: (196, 47, 192, 0, 256) :: (199, 23, 0, 207, 0) :: k194_202
def k194_171 : List mj_O := (171, 5, 0, 0, 0) :: (172, 47, 177, 0, 177) :: (175, 21, 1, 179, 0) :: (178, 25, 0, 0, 0) :: k194_179
def k194_152 : List mj_O := (152, 3, 1, 0, 0) :: (153, 0, 15, 0, 0) :: (155, 22, 1, 202, 0) :: (158, 5, 0, 0, 0) :: (159, 31, 12, 24, 260) :: (162, 1, 1, 0, 0) :: (163, 22, 0, 171, 0) :: (166, 5, 0, 0, 0) :: (167, 0, 5, 0, 0) :: (168, 47, 176, 0, 184) :: k194_171
def k194_130 : List mj_O := (130, 5, 0, 0, 0) :: (131, 47, 172, 0, 181) :: (134, 5, 0, 0, 0) :: (135, 5, 0, 0, 0) :: (136, 31, 12, 25, 190) :: (139, 34, 12, 23, 253) :: (142, 5, 0, 0, 0) :: (143, 0, 0, 0, 0) :: (144, 0, 6, 0, 0) :: (146, 47, 192, 0, 256) :: (149, 23, 0, 207, 0) :: k194_152
def k194_122 : List mj_O := (122, 5, 0, 0, 0) :: (123, 47, 177, 0, 177) :: (126, 21, 1, 130, 0) :: (129, 25, 0, 0, 0) :: k194_130
def k194_103 : List mj_O := (103, 3, 1, 0, 0) :: (104, 0, 7, 0, 0) :: (106, 22, 1, 152, 0) :: (109, 5, 0, 0, 0) :: (110, 31, 12, 23, 253) :: (113, 1, 1, 0, 0) :: (114, 22, 0, 122, 0) :: (117, 5, 0, 0, 0) :: (118, 0, 5, 0, 0) :: (119, 47, 176, 0, 184) :: k194_122
def k194_100 : List mj_O := (100, 23, 0, 207, 0) :: k194_103
def k194_83 : List mj_O := (83, 5, 0, 0, 0) :: (84, 47, 177, 0, 177) :: (87, 21, 0, 100, 0) :: (90, 5, 0, 0, 0) :: (91, 33, 12, 34, 53) :: (94, 0, 23, 0, 0) :: (96, 3, 3, 0, 0) :: (97, 11, 0, 0, 0) :: (98, 3, 2, 0, 0) :: (99, 42, 0, 0, 0) :: k194_100
def k194_44 : List mj_O := (44, 3, 1, 0, 0) :: (45, 0, 14, 0, 0) :: (47, 22, 1, 103, 0) :: (50, 5, 0, 0, 0) :: (51, 47, 172, 0, 181) :: (54, 5, 0, 0, 0) :: (55, 1, 1, 0, 0) :: (56, 47, 181, 0, 250) :: (59, 6, 2, 0, 0) :: (60, 5, 0, 0, 0) :: (61, 3, 2, 0, 0) :: (62, 47, 181, 0, 250) :: (65, 6, 3, 0, 0) :: (66, 5, 0, 0, 0) :: (67, 47, 177, 0, 177) :: (70, 21, 0, 83, 0) :: (73, 5, 0, 0, 0) :: (74, 33, 12, 34, 53) :: (77, 0, 23, 0, 0) :: (79, 3, 2, 0, 0) :: (80, 11, 0, 0, 0) :: (81, 3, 3, 0, 0) :: (82, 42, 0, 0, 0) :: k194_83
def k194_38 : List mj_O := (38, 47, 193, 0, 247) :: (41, 23, 0, 207, 0) :: k194_44
def k194_32 : List mj_O := (32, 3, 1, 0, 0) :: (33, 0, 11, 0, 0) :: (35, 11, 1, 0, 0) :: (36, 0, 1, 0, 0) :: (37, 11, 0, 0, 0) :: k194_38
def k194_22 : List mj_O := (22, 5, 0, 0, 0) :: (23, 3, 1, 0, 0) :: (24, 0, 5, 0, 0) :: (25, 22, 1, 32, 0) :: (28, 0, 0, 0, 0) :: (29, 23, 0, 38, 0) :: k194_32
def k194_0 : List mj_O := (0, 5, 0, 0, 0) :: (1, 47, 175, 0, 205) :: (4, 6, 1, 0, 0) :: (5, 3, 1, 0, 0) :: (6, 0, 5, 0, 0) :: (7, 22, 0, 22, 0) :: (10, 3, 1, 0, 0) :: (11, 0, 11, 0, 0) :: (13, 22, 2, 44, 0) :: (16, 3, 1, 0, 0) :: (17, 0, 13, 0, 0) :: (19, 22, 4, 44, 0) :: k194_22
def k194 : Nat → List mj_O := fun t => match t with
  | 0 => k194_0
  | 22 => k194_22
  | 32 => k194_32
  | 38 => k194_38
  | 44 => k194_44
  | 83 => k194_83
  | 100 => k194_100
  | 103 => k194_103
  | 122 => k194_122
  | 130 => k194_130
  | 152 => k194_152
  | 171 => k194_171
  | 179 => k194_179
  | 202 => k194_202
  | 207 => k194_207
  | _ => []
-- 195: SockFairModel.fair (I)I
def k195_241 : List mj_O := (241, 5, 0, 0, 0) :: (242, 0, 0, 0, 0) :: (243, 34, 12, 40, 280) :: (246, 5, 0, 0, 0) :: (247, 0, 0, 0, 0) :: (248, 34, 12, 52, 283) :: (251, 5, 0, 0, 0) :: (252, 0, 0, 0, 0) :: (253, 35, 12, 57, 286) :: (256, 0, 0, 0, 0) :: (257, 26, 0, 0, 0) :: []
def k195_217 : List mj_O := (217, 3, 2, 0, 0) :: (218, 0, 33, 0, 0) :: (220, 22, 3, 241, 0) :: (223, 5, 0, 0, 0) :: (224, 33, 12, 38, 66) :: (227, 3, 2, 0, 0) :: (228, 5, 0, 0, 0) :: (229, 33, 12, 34, 53) :: (232, 3, 2, 0, 0) :: (233, 38, 0, 0, 0) :: (234, 42, 0, 0, 0) :: (235, 9, 2, 1, 0) :: (238, 23, 0, 217, 0) :: k195_241
def k195_131 : List mj_O := (131, 5, 0, 0, 0) :: (132, 5, 0, 0, 0) :: (133, 31, 12, 22, 187) :: (136, 34, 12, 1, 273) :: (139, 5, 0, 0, 0) :: (140, 5, 0, 0, 0) :: (141, 31, 12, 23, 253) :: (144, 34, 12, 2, 9) :: (147, 5, 0, 0, 0) :: (148, 5, 0, 0, 0) :: (149, 31, 12, 24, 260) :: (152, 34, 12, 3, 13) :: (155, 5, 0, 0, 0) :: (156, 5, 0, 0, 0) :: (157, 33, 12, 30, 41) :: (160, 5, 0, 0, 0) :: (161, 33, 12, 4, 16) :: (164, 47, 165, 0, 276) :: (167, 5, 0, 0, 0) :: (168, 5, 0, 0, 0) :: (169, 33, 12, 31, 44) :: (172, 5, 0, 0, 0) :: (173, 33, 12, 5, 20) :: (176, 47, 165, 0, 276) :: (179, 5, 0, 0, 0) :: (180, 5, 0, 0, 0) :: (181, 33, 12, 32, 47) :: (184, 5, 0, 0, 0) :: (185, 33, 12, 6, 23) :: (188, 47, 165, 0, 276) :: (191, 5, 0, 0, 0) :: (192, 5, 0, 0, 0) :: (193, 33, 12, 33, 50) :: (196, 5, 0, 0, 0) :: (197, 33, 12, 7, 26) :: (200, 47, 165, 0, 276) :: (203, 5, 0, 0, 0) :: (204, 5, 0, 0, 0) :: (205, 33, 12, 35, 56) :: (208, 5, 0, 0, 0) :: (209, 33, 12, 8, 29) :: (212, 47, 165, 0, 276) :: (215, 0, 0, 0, 0) :: (216, 6, 2, 0, 0) :: k195_217
def k195_109 : List mj_O := (109, 5, 0, 0, 0) :: (110, 47, 177, 0, 177) :: (113, 21, 1, 131, 0) :: (116, 5, 0, 0, 0) :: (117, 33, 12, 13, 38) :: (120, 0, 0, 0, 0) :: (121, 20, 0, 0, 0) :: (122, 38, 0, 0, 0) :: (123, 0, 1, 0, 0) :: (124, 11, 0, 0, 0) :: (125, 42, 0, 0, 0) :: (126, 5, 0, 0, 0) :: (127, 31, 12, 11, 174) :: (130, 26, 0, 0, 0) :: k195_131
def k195_88 : List mj_O := (88, 5, 0, 0, 0) :: (89, 47, 177, 0, 177) :: (92, 21, 0, 109, 0) :: (95, 5, 0, 0, 0) :: (96, 31, 12, 16, 151) :: (99, 21, 0, 109, 0) :: (102, 5, 0, 0, 0) :: (103, 47, 194, 0, 270) :: (106, 23, 0, 88, 0) :: k195_109
def k195_32 : List mj_O := (32, 5, 0, 0, 0) :: (33, 0, 0, 0, 0) :: (34, 34, 12, 10, 121) :: (37, 5, 0, 0, 0) :: (38, 1, 1, 0, 0) :: (39, 34, 12, 12, 35) :: (42, 5, 0, 0, 0) :: (43, 0, 0, 0, 0) :: (44, 34, 12, 11, 174) :: (47, 5, 0, 0, 0) :: (48, 3, 1, 0, 0) :: (49, 34, 12, 14, 128) :: (52, 5, 0, 0, 0) :: (53, 0, 0, 0, 0) :: (54, 34, 12, 15, 131) :: (57, 5, 0, 0, 0) :: (58, 0, 0, 0, 0) :: (59, 34, 12, 22, 187) :: (62, 5, 0, 0, 0) :: (63, 1, 1, 0, 0) :: (64, 34, 12, 23, 253) :: (67, 5, 0, 0, 0) :: (68, 1, 1, 0, 0) :: (69, 34, 12, 24, 260) :: (72, 5, 0, 0, 0) :: (73, 33, 12, 34, 53) :: (76, 0, 0, 0, 0) :: (77, 0, 0, 0, 0) :: (78, 42, 0, 0, 0) :: (79, 5, 0, 0, 0) :: (80, 0, 0, 0, 0) :: (81, 34, 12, 25, 190) :: (84, 5, 0, 0, 0) :: (85, 47, 172, 0, 181) :: k195_88
def k195_23 : List mj_O := (23, 0, 1, 0, 0) :: (24, 47, 163, 0, 266) :: (27, 21, 1, 32, 0) :: (30, 0, 0, 0, 0) :: (31, 26, 0, 0, 0) :: k195_32
def k195_22 : List mj_O := (22, 0, 0, 0, 0) :: k195_23
def k195_0 : List mj_O := (0, 5, 0, 0, 0) :: (1, 0, 0, 0, 0) :: (2, 34, 12, 0, 118) :: (5, 5, 0, 0, 0) :: (6, 3, 1, 0, 0) :: (7, 21, 2, 22, 0) :: (10, 3, 1, 0, 0) :: (11, 5, 0, 0, 0) :: (12, 31, 12, 10, 121) :: (15, 22, 4, 22, 0) :: (18, 0, 1, 0, 0) :: (19, 23, 0, 23, 0) :: k195_22
def k195 : Nat → List mj_O := fun t => match t with
  | 0 => k195_0
  | 22 => k195_22
  | 23 => k195_23
  | 32 => k195_32
  | 88 => k195_88
  | 109 => k195_109
  | 131 => k195_131
  | 217 => k195_217
  | 241 => k195_241
  | _ => []
-- 196: SockFairModel.fault ()I
def k196_0 : List mj_O := (0, 5, 0, 0, 0) :: (1, 0, 0, 0, 0) :: (2, 34, 12, 0, 118) :: (5, 5, 0, 0, 0) :: (6, 31, 12, 12, 35) :: (9, 26, 0, 0, 0) :: []
def k196 : Nat → List mj_O := fun t => match t with
  | 0 => k196_0
  | _ => []
-- 197: SockFairModel.keeps ()V
def k197_84 : List mj_O := (84, 5, 0, 0, 0) :: (85, 18, 0, 0, 0) :: (86, 31, 12, 40, 280) :: (89, 0, 1, 0, 0) :: (90, 11, 0, 0, 0) :: (91, 34, 12, 40, 280) :: (94, 25, 0, 0, 0) :: []
def k197_52 : List mj_O := (52, 3, 1, 0, 0) :: (53, 0, 33, 0, 0) :: (55, 22, 3, 84, 0) :: (58, 5, 0, 0, 0) :: (59, 33, 12, 39, 69) :: (62, 0, 33, 0, 0) :: (64, 5, 0, 0, 0) :: (65, 31, 12, 40, 280) :: (68, 11, 2, 0, 0) :: (69, 3, 1, 0, 0) :: (70, 11, 0, 0, 0) :: (71, 5, 0, 0, 0) :: (72, 33, 12, 38, 66) :: (75, 3, 1, 0, 0) :: (76, 38, 0, 0, 0) :: (77, 42, 0, 0, 0) :: (78, 9, 1, 1, 0) :: (81, 23, 0, 52, 0) :: k197_84
def k197_50 : List mj_O := (50, 0, 0, 0, 0) :: (51, 6, 1, 0, 0) :: k197_52
def k197_40 : List mj_O := (40, 5, 0, 0, 0) :: (41, 18, 0, 0, 0) :: (42, 31, 12, 40, 280) :: (45, 0, 1, 0, 0) :: (46, 11, 1, 0, 0) :: (47, 34, 12, 40, 280) :: k197_50
def k197_12 : List mj_O := (12, 3, 1, 0, 0) :: (13, 0, 1320, 0, 0) :: (16, 22, 3, 40, 0) :: (19, 5, 0, 0, 0) :: (20, 33, 12, 39, 69) :: (23, 3, 1, 0, 0) :: (24, 0, 33, 0, 0) :: (26, 11, 1, 0, 0) :: (27, 5, 0, 0, 0) :: (28, 33, 12, 39, 69) :: (31, 3, 1, 0, 0) :: (32, 38, 0, 0, 0) :: (33, 42, 0, 0, 0) :: (34, 9, 1, 1, 0) :: (37, 23, 0, 12, 0) :: k197_40
def k197_0 : List mj_O := (0, 5, 0, 0, 0) :: (1, 31, 12, 40, 280) :: (4, 0, 40, 0, 0) :: (6, 22, 1, 50, 0) :: (9, 0, 33, 0, 0) :: (11, 6, 1, 0, 0) :: k197_12
def k197 : Nat → List mj_O := fun t => match t with
  | 0 => k197_0
  | 12 => k197_12
  | 40 => k197_40
  | 50 => k197_50
  | 52 => k197_52
  | 84 => k197_84
  | _ => []
-- 198: SockFairModel.refuses (I)I
def k198_0 : List mj_O := (0, 5, 0, 0, 0) :: (1, 33, 12, 13, 38) :: (4, 3, 1, 0, 0) :: (5, 20, 0, 0, 0) :: (6, 38, 0, 0, 0) :: (7, 0, 1, 0, 0) :: (8, 11, 0, 0, 0) :: (9, 42, 0, 0, 0) :: (10, 1, 1, 0, 0) :: (11, 26, 0, 0, 0) :: []
def k198 : Nat → List mj_O := fun t => match t with
  | 0 => k198_0
  | _ => []
-- 199: SockFairModel.undo ()I
def k199_58 : List mj_O := (58, 5, 0, 0, 0) :: (59, 31, 12, 40, 280) :: (62, 26, 0, 0, 0) :: []
def k199_26 : List mj_O := (26, 3, 1, 0, 0) :: (27, 0, 33, 0, 0) :: (29, 22, 3, 58, 0) :: (32, 5, 0, 0, 0) :: (33, 33, 12, 38, 66) :: (36, 3, 1, 0, 0) :: (37, 5, 0, 0, 0) :: (38, 33, 12, 39, 69) :: (41, 0, 33, 0, 0) :: (43, 5, 0, 0, 0) :: (44, 31, 12, 40, 280) :: (47, 11, 2, 0, 0) :: (48, 3, 1, 0, 0) :: (49, 11, 0, 0, 0) :: (50, 38, 0, 0, 0) :: (51, 42, 0, 0, 0) :: (52, 9, 1, 1, 0) :: (55, 23, 0, 26, 0) :: k199_58
def k199_14 : List mj_O := (14, 5, 0, 0, 0) :: (15, 18, 0, 0, 0) :: (16, 31, 12, 40, 280) :: (19, 0, 1, 0, 0) :: (20, 11, 1, 0, 0) :: (21, 34, 12, 40, 280) :: (24, 0, 0, 0, 0) :: (25, 6, 1, 0, 0) :: k199_26
def k199_0 : List mj_O := (0, 5, 0, 0, 0) :: (1, 0, 0, 0, 0) :: (2, 34, 12, 0, 118) :: (5, 5, 0, 0, 0) :: (6, 31, 12, 40, 280) :: (9, 21, 1, 14, 0) :: (12, 1, 1, 0, 0) :: (13, 26, 0, 0, 0) :: k199_14
def k199 : Nat → List mj_O := fun t => match t with
  | 0 => k199_0
  | 14 => k199_14
  | 26 => k199_26
  | 58 => k199_58
  | _ => []
-- 200: SockFairModel.tries ()V
def k200_29 : List mj_O := (29, 25, 0, 0, 0) :: []
def k200_2 : List mj_O := (2, 3, 1, 0, 0) :: (3, 0, 33, 0, 0) :: (5, 22, 3, 29, 0) :: (8, 5, 0, 0, 0) :: (9, 33, 12, 38, 66) :: (12, 0, 33, 0, 0) :: (14, 3, 1, 0, 0) :: (15, 11, 0, 0, 0) :: (16, 5, 0, 0, 0) :: (17, 33, 12, 38, 66) :: (20, 3, 1, 0, 0) :: (21, 38, 0, 0, 0) :: (22, 42, 0, 0, 0) :: (23, 9, 1, 1, 0) :: (26, 23, 0, 2, 0) :: k200_29
def k200_0 : List mj_O := (0, 0, 0, 0, 0) :: (1, 6, 1, 0, 0) :: k200_2
def k200 : Nat → List mj_O := fun t => match t with
  | 0 => k200_0
  | 2 => k200_2
  | 29 => k200_29
  | _ => []
-- 201: SockFairModel.works (III)I
def k201_117 : List mj_O := (117, 26, 0, 0, 0) :: []
def k201_114 : List mj_O := (114, 3, 1, 0, 0) :: (115, 3, 2, 0, 0) :: (116, 11, 3, 0, 0) :: k201_117
def k201_106 : List mj_O := (106, 3, 2, 0, 0) :: (107, 21, 1, 114, 0) :: (110, 0, 0, 0, 0) :: (111, 23, 0, 117, 0) :: k201_114
def k201_102 : List mj_O := (102, 3, 1, 0, 0) :: (103, 3, 2, 0, 0) :: (104, 11, 2, 0, 0) :: (105, 26, 0, 0, 0) :: k201_106
def k201_98 : List mj_O := (98, 3, 1, 0, 0) :: (99, 3, 2, 0, 0) :: (100, 11, 1, 0, 0) :: (101, 26, 0, 0, 0) :: k201_102
def k201_94 : List mj_O := (94, 3, 1, 0, 0) :: (95, 3, 2, 0, 0) :: (96, 11, 0, 0, 0) :: (97, 26, 0, 0, 0) :: k201_98
def k201_93 : List mj_O := (93, 26, 0, 0, 0) :: k201_94
def k201_92 : List mj_O := (92, 0, 0, 0, 0) :: k201_93
def k201_83 : List mj_O := (83, 3, 1, 0, 0) :: (84, 3, 2, 0, 0) :: (85, 22, 1, 92, 0) :: (88, 0, 1, 0, 0) :: (89, 23, 0, 93, 0) :: k201_92
def k201_82 : List mj_O := (82, 26, 0, 0, 0) :: k201_83
def k201_81 : List mj_O := (81, 0, 0, 0, 0) :: k201_82
def k201_72 : List mj_O := (72, 3, 1, 0, 0) :: (73, 3, 2, 0, 0) :: (74, 22, 3, 81, 0) :: (77, 0, 1, 0, 0) :: (78, 23, 0, 82, 0) :: k201_81
def k201_71 : List mj_O := (71, 26, 0, 0, 0) :: k201_72
def k201_70 : List mj_O := (70, 0, 0, 0, 0) :: k201_71
def k201_66 : List mj_O := (66, 0, 1, 0, 0) :: (67, 23, 0, 71, 0) :: k201_70
def k201_58 : List mj_O := (58, 3, 1, 0, 0) :: (59, 21, 1, 66, 0) :: (62, 3, 2, 0, 0) :: (63, 21, 0, 70, 0) :: k201_66
def k201_57 : List mj_O := (57, 26, 0, 0, 0) :: k201_58
def k201_56 : List mj_O := (56, 0, 0, 0, 0) :: k201_57
def k201_44 : List mj_O := (44, 3, 1, 0, 0) :: (45, 21, 0, 56, 0) :: (48, 3, 2, 0, 0) :: (49, 21, 0, 56, 0) :: (52, 0, 1, 0, 0) :: (53, 23, 0, 57, 0) :: k201_56
def k201_0 : List mj_O := (0, 3, 0, 0, 0) :: (1, 24, 6, 106, 0) :: k201_44
def k201 : Nat → List mj_O := fun t => match t with
  | 0 => k201_0
  | 44 => k201_44
  | 56 => k201_56
  | 57 => k201_57
  | 58 => k201_58
  | 66 => k201_66
  | 70 => k201_70
  | 71 => k201_71
  | 72 => k201_72
  | 81 => k201_81
  | 82 => k201_82
  | 83 => k201_83
  | 92 => k201_92
  | 93 => k201_93
  | 94 => k201_94
  | 98 => k201_98
  | 102 => k201_102
  | 106 => k201_106
  | 114 => k201_114
  | 117 => k201_117
  | _ => []
-- 202: SockFairModel.reckons (I)I
def k202_143 : List mj_O := (143, 5, 0, 0, 0) :: (144, 33, 12, 42, 75) :: (147, 0, 0, 0, 0) :: (148, 38, 0, 0, 0) :: (149, 26, 0, 0, 0) :: []
def k202_140 : List mj_O := (140, 23, 0, 4, 0) :: k202_143
def k202_110 : List mj_O := (110, 10, 2, 1, 0) :: (113, 5, 0, 0, 0) :: (114, 33, 12, 42, 75) :: (117, 3, 2, 0, 0) :: (118, 0, 1, 0, 0) :: (119, 11, 1, 0, 0) :: (120, 3, 4, 0, 0) :: (122, 5, 0, 0, 0) :: (123, 33, 12, 42, 75) :: (126, 3, 2, 0, 0) :: (127, 0, 1, 0, 0) :: (128, 11, 1, 0, 0) :: (129, 38, 0, 0, 0) :: (130, 5, 0, 0, 0) :: (131, 33, 12, 42, 75) :: (134, 3, 2, 0, 0) :: (135, 38, 0, 0, 0) :: (136, 48, 201, 0, 290) :: (139, 42, 0, 0, 0) :: k202_140
def k202_106 : List mj_O := (106, 42, 0, 0, 0) :: (107, 23, 0, 140, 0) :: k202_110
def k202_105 : List mj_O := (105, 0, 0, 0, 0) :: k202_106
def k202_77 : List mj_O := (77, 3, 4, 0, 0) :: (79, 0, 3, 0, 0) :: (80, 22, 1, 110, 0) :: (83, 5, 0, 0, 0) :: (84, 33, 12, 42, 75) :: (87, 3, 2, 0, 0) :: (88, 0, 1, 0, 0) :: (89, 11, 1, 0, 0) :: (90, 5, 0, 0, 0) :: (91, 33, 12, 42, 75) :: (94, 3, 2, 0, 0) :: (95, 0, 1, 0, 0) :: (96, 11, 1, 0, 0) :: (97, 38, 0, 0, 0) :: (98, 21, 1, 105, 0) :: (101, 0, 1, 0, 0) :: (102, 23, 0, 106, 0) :: k202_105
def k202_67 : List mj_O := (67, 42, 0, 0, 0) :: (68, 9, 3, 1, 0) :: (71, 9, 2, 1, 0) :: (74, 23, 0, 140, 0) :: k202_77
def k202_56 : List mj_O := (56, 5, 0, 0, 0) :: (57, 33, 12, 41, 72) :: (60, 5, 0, 0, 0) :: (61, 33, 12, 8, 29) :: (64, 3, 3, 0, 0) :: (65, 38, 0, 0, 0) :: (66, 38, 0, 0, 0) :: k202_67
def k202_36 : List mj_O := (36, 5, 0, 0, 0) :: (37, 33, 12, 42, 75) :: (40, 3, 2, 0, 0) :: (41, 3, 4, 0, 0) :: (43, 0, 1, 0, 0) :: (44, 22, 1, 56, 0) :: (47, 5, 0, 0, 0) :: (48, 33, 12, 8, 29) :: (51, 3, 3, 0, 0) :: (52, 38, 0, 0, 0) :: (53, 23, 0, 67, 0) :: k202_56
def k202_4 : List mj_O := (4, 5, 0, 0, 0) :: (5, 33, 12, 8, 29) :: (8, 3, 3, 0, 0) :: (9, 38, 0, 0, 0) :: (10, 21, 0, 143, 0) :: (13, 5, 0, 0, 0) :: (14, 33, 12, 8, 29) :: (17, 3, 3, 0, 0) :: (18, 38, 0, 0, 0) :: (19, 6, 4, 0, 0) :: (21, 9, 3, 1, 0) :: (24, 3, 4, 0, 0) :: (26, 0, 1, 0, 0) :: (27, 22, 0, 36, 0) :: (30, 3, 4, 0, 0) :: (32, 0, 2, 0, 0) :: (33, 22, 1, 77, 0) :: k202_36
def k202_0 : List mj_O := (0, 0, 0, 0, 0) :: (1, 6, 2, 0, 0) :: (2, 3, 1, 0, 0) :: (3, 6, 3, 0, 0) :: k202_4
def k202 : Nat → List mj_O := fun t => match t with
  | 0 => k202_0
  | 4 => k202_4
  | 36 => k202_36
  | 56 => k202_56
  | 67 => k202_67
  | 77 => k202_77
  | 105 => k202_105
  | 106 => k202_106
  | 110 => k202_110
  | 140 => k202_140
  | 143 => k202_143
  | _ => []
-- 203: SockFairModel.between (II)I
def k203_14 : List mj_O := (14, 26, 0, 0, 0) :: []
def k203_11 : List mj_O := (11, 3, 0, 0, 0) :: (12, 3, 1, 0, 0) :: (13, 11, 1, 0, 0) :: k203_14
def k203_0 : List mj_O := (0, 3, 0, 0, 0) :: (1, 3, 1, 0, 0) :: (2, 22, 3, 11, 0) :: (5, 3, 1, 0, 0) :: (6, 3, 0, 0, 0) :: (7, 11, 1, 0, 0) :: (8, 23, 0, 14, 0) :: k203_11
def k203 : Nat → List mj_O := fun t => match t with
  | 0 => k203_0
  | 11 => k203_11
  | 14 => k203_14
  | _ => []
-- 204: SockFairModel.alikeWith (IIIII)I
def k204_213 : List mj_O := (213, 11, 0, 0, 0) :: (214, 42, 0, 0, 0) :: (215, 5, 0, 0, 0) :: (216, 5, 0, 0, 0) :: (217, 31, 12, 2, 9) :: (220, 47, 202, 0, 297) :: (223, 26, 0, 0, 0) :: []
def k204_212 : List mj_O := (212, 0, 0, 0, 0) :: k204_213
def k204_199 : List mj_O := (199, 5, 0, 0, 0) :: (200, 33, 12, 4, 16) :: (203, 3, 3, 0, 0) :: (204, 38, 0, 0, 0) :: (205, 21, 1, 212, 0) :: (208, 0, 1, 0, 0) :: (209, 23, 0, 213, 0) :: k204_212
def k204_198 : List mj_O := (198, 0, 0, 0, 0) :: k204_199
def k204_179 : List mj_O := (179, 42, 0, 0, 0) :: (180, 5, 0, 0, 0) :: (181, 33, 12, 41, 72) :: (184, 0, 5, 0, 0) :: (185, 5, 0, 0, 0) :: (186, 33, 12, 4, 16) :: (189, 3, 2, 0, 0) :: (190, 38, 0, 0, 0) :: (191, 21, 1, 198, 0) :: (194, 0, 1, 0, 0) :: (195, 23, 0, 199, 0) :: k204_198
def k204_178 : List mj_O := (178, 0, 0, 0, 0) :: k204_179
def k204_153 : List mj_O := (153, 42, 0, 0, 0) :: (154, 5, 0, 0, 0) :: (155, 33, 12, 41, 72) :: (158, 0, 4, 0, 0) :: (159, 5, 0, 0, 0) :: (160, 33, 12, 5, 20) :: (163, 3, 2, 0, 0) :: (164, 38, 0, 0, 0) :: (165, 5, 0, 0, 0) :: (166, 33, 12, 5, 20) :: (169, 3, 3, 0, 0) :: (170, 38, 0, 0, 0) :: (171, 22, 1, 178, 0) :: (174, 0, 1, 0, 0) :: (175, 23, 0, 179, 0) :: k204_178
def k204_152 : List mj_O := (152, 0, 0, 0, 0) :: k204_153
def k204_92 : List mj_O := (92, 5, 0, 0, 0) :: (93, 33, 12, 41, 72) :: (96, 0, 0, 0, 0) :: (97, 3, 6, 0, 0) :: (99, 42, 0, 0, 0) :: (100, 5, 0, 0, 0) :: (101, 33, 12, 41, 72) :: (104, 0, 1, 0, 0) :: (105, 3, 7, 0, 0) :: (107, 42, 0, 0, 0) :: (108, 5, 0, 0, 0) :: (109, 33, 12, 41, 72) :: (112, 0, 6, 0, 0) :: (114, 3, 8, 0, 0) :: (116, 42, 0, 0, 0) :: (117, 5, 0, 0, 0) :: (118, 33, 12, 41, 72) :: (121, 0, 2, 0, 0) :: (122, 3, 4, 0, 0) :: (124, 3, 5, 0, 0) :: (126, 11, 0, 0, 0) :: (127, 42, 0, 0, 0) :: (128, 5, 0, 0, 0) :: (129, 33, 12, 41, 72) :: (132, 0, 3, 0, 0) :: (133, 5, 0, 0, 0) :: (134, 33, 12, 4, 16) :: (137, 3, 2, 0, 0) :: (138, 38, 0, 0, 0) :: (139, 5, 0, 0, 0) :: (140, 33, 12, 4, 16) :: (143, 3, 3, 0, 0) :: (144, 38, 0, 0, 0) :: (145, 22, 1, 152, 0) :: (148, 0, 1, 0, 0) :: (149, 23, 0, 153, 0) :: k204_152
def k204_90 : List mj_O := (90, 11, 0, 0, 0) :: (91, 26, 0, 0, 0) :: k204_92
def k204_89 : List mj_O := (89, 0, 0, 0, 0) :: k204_90
def k204_0 : List mj_O := (0, 5, 0, 0, 0) :: (1, 33, 12, 38, 66) :: (4, 3, 1, 0, 0) :: (5, 0, 1, 0, 0) :: (6, 11, 0, 0, 0) :: (7, 3, 2, 0, 0) :: (8, 11, 0, 0, 0) :: (9, 38, 0, 0, 0) :: (10, 5, 0, 0, 0) :: (11, 33, 12, 38, 66) :: (14, 3, 1, 0, 0) :: (15, 0, 1, 0, 0) :: (16, 11, 0, 0, 0) :: (17, 3, 3, 0, 0) :: (18, 11, 0, 0, 0) :: (19, 38, 0, 0, 0) :: (20, 48, 203, 0, 294) :: (23, 6, 6, 0, 0) :: (25, 5, 0, 0, 0) :: (26, 33, 12, 6, 23) :: (29, 3, 2, 0, 0) :: (30, 38, 0, 0, 0) :: (31, 5, 0, 0, 0) :: (32, 33, 12, 6, 23) :: (35, 3, 3, 0, 0) :: (36, 38, 0, 0, 0) :: (37, 48, 203, 0, 294) :: (40, 6, 7, 0, 0) :: (42, 3, 4, 0, 0) :: (44, 3, 5, 0, 0) :: (46, 48, 203, 0, 294) :: (49, 6, 8, 0, 0) :: (51, 5, 0, 0, 0) :: (52, 31, 12, 2, 9) :: (55, 1, 1, 0, 0) :: (56, 22, 1, 92, 0) :: (59, 0, 10, 0, 0) :: (61, 3, 6, 0, 0) :: (63, 11, 1, 0, 0) :: (64, 3, 7, 0, 0) :: (66, 11, 1, 0, 0) :: (67, 3, 8, 0, 0) :: (69, 11, 1, 0, 0) :: (70, 5, 0, 0, 0) :: (71, 33, 12, 4, 16) :: (74, 3, 2, 0, 0) :: (75, 38, 0, 0, 0) :: (76, 5, 0, 0, 0) :: (77, 33, 12, 4, 16) :: (80, 3, 3, 0, 0) :: (81, 38, 0, 0, 0) :: (82, 22, 1, 89, 0) :: (85, 0, 5, 0, 0) :: (86, 23, 0, 90, 0) :: k204_89
def k204 : Nat → List mj_O := fun t => match t with
  | 0 => k204_0
  | 89 => k204_89
  | 90 => k204_90
  | 92 => k204_92
  | 152 => k204_152
  | 153 => k204_153
  | 178 => k204_178
  | 179 => k204_179
  | 198 => k204_198
  | 199 => k204_199
  | 212 => k204_212
  | 213 => k204_213
  | _ => []
-- 205: SockFairModel.alikeOf (III)I
def k205_0 : List mj_O := (0, 5, 0, 0, 0) :: (1, 3, 1, 0, 0) :: (2, 3, 2, 0, 0) :: (3, 3, 3, 0, 0) :: (4, 5, 0, 0, 0) :: (5, 33, 12, 38, 66) :: (8, 3, 1, 0, 0) :: (9, 0, 12, 0, 0) :: (11, 11, 0, 0, 0) :: (12, 3, 2, 0, 0) :: (13, 11, 0, 0, 0) :: (14, 38, 0, 0, 0) :: (15, 5, 0, 0, 0) :: (16, 33, 12, 38, 66) :: (19, 3, 1, 0, 0) :: (20, 0, 12, 0, 0) :: (22, 11, 0, 0, 0) :: (23, 3, 3, 0, 0) :: (24, 11, 0, 0, 0) :: (25, 38, 0, 0, 0) :: (26, 47, 204, 0, 300) :: (29, 26, 0, 0, 0) :: []
def k205 : Nat → List mj_O := fun t => match t with
  | 0 => k205_0
  | _ => []
-- 206: SockFairModel.may (III)Z
def k206_20 : List mj_O := (20, 27, 0, 0, 0) :: []
def k206_19 : List mj_O := (19, 0, 0, 0, 0) :: k206_20
def k206_0 : List mj_O := (0, 3, 2, 0, 0) :: (1, 3, 3, 0, 0) :: (2, 22, 0, 19, 0) :: (5, 5, 0, 0, 0) :: (6, 3, 1, 0, 0) :: (7, 3, 2, 0, 0) :: (8, 3, 3, 0, 0) :: (9, 47, 205, 0, 304) :: (12, 21, 5, 19, 0) :: (15, 0, 1, 0, 0) :: (16, 23, 0, 20, 0) :: k206_19
def k206 : Nat → List mj_O := fun t => match t with
  | 0 => k206_0
  | 19 => k206_19
  | 20 => k206_20
  | _ => []
-- 207: SockFairModel.likingOf (II)I
def k207_25 : List mj_O := (25, 5, 0, 0, 0) :: (26, 33, 12, 41, 72) :: (29, 0, 7, 0, 0) :: (31, 3, 3, 0, 0) :: (32, 42, 0, 0, 0) :: (33, 5, 0, 0, 0) :: (34, 33, 12, 41, 72) :: (37, 0, 8, 0, 0) :: (39, 5, 0, 0, 0) :: (40, 33, 12, 7, 26) :: (43, 3, 2, 0, 0) :: (44, 38, 0, 0, 0) :: (45, 42, 0, 0, 0) :: (46, 5, 0, 0, 0) :: (47, 33, 12, 41, 72) :: (50, 0, 9, 0, 0) :: (52, 5, 0, 0, 0) :: (53, 33, 12, 7, 26) :: (56, 3, 1, 0, 0) :: (57, 38, 0, 0, 0) :: (58, 42, 0, 0, 0) :: (59, 5, 0, 0, 0) :: (60, 33, 12, 41, 72) :: (63, 0, 10, 0, 0) :: (65, 5, 0, 0, 0) :: (66, 33, 12, 6, 23) :: (69, 3, 2, 0, 0) :: (70, 38, 0, 0, 0) :: (71, 42, 0, 0, 0) :: (72, 5, 0, 0, 0) :: (73, 33, 12, 41, 72) :: (76, 0, 6, 0, 0) :: (78, 5, 0, 0, 0) :: (79, 33, 12, 38, 66) :: (82, 0, 12, 0, 0) :: (84, 3, 2, 0, 0) :: (85, 11, 0, 0, 0) :: (86, 38, 0, 0, 0) :: (87, 42, 0, 0, 0) :: (88, 5, 0, 0, 0) :: (89, 5, 0, 0, 0) :: (90, 31, 12, 3, 13) :: (93, 47, 202, 0, 297) :: (96, 26, 0, 0, 0) :: []
def k207_0 : List mj_O := (0, 5, 0, 0, 0) :: (1, 0, 0, 0, 0) :: (2, 3, 1, 0, 0) :: (3, 3, 2, 0, 0) :: (4, 47, 205, 0, 304) :: (7, 6, 3, 0, 0) :: (8, 5, 0, 0, 0) :: (9, 31, 12, 3, 13) :: (12, 1, 1, 0, 0) :: (13, 22, 1, 25, 0) :: (16, 3, 3, 0, 0) :: (17, 5, 0, 0, 0) :: (18, 33, 12, 7, 26) :: (21, 3, 2, 0, 0) :: (22, 38, 0, 0, 0) :: (23, 11, 0, 0, 0) :: (24, 26, 0, 0, 0) :: k207_25
def k207 : Nat → List mj_O := fun t => match t with
  | 0 => k207_0
  | 25 => k207_25
  | _ => []
-- 208: SockFairModel.binds (III)V
def k208_0 : List mj_O := (0, 5, 0, 0, 0) :: (1, 33, 12, 38, 66) :: (4, 3, 1, 0, 0) :: (5, 0, 23, 0, 0) :: (7, 11, 0, 0, 0) :: (8, 3, 2, 0, 0) :: (9, 11, 0, 0, 0) :: (10, 3, 3, 0, 0) :: (11, 42, 0, 0, 0) :: (12, 5, 0, 0, 0) :: (13, 33, 12, 38, 66) :: (16, 3, 1, 0, 0) :: (17, 0, 23, 0, 0) :: (19, 11, 0, 0, 0) :: (20, 3, 3, 0, 0) :: (21, 11, 0, 0, 0) :: (22, 3, 2, 0, 0) :: (23, 42, 0, 0, 0) :: (24, 25, 0, 0, 0) :: []
def k208 : Nat → List mj_O := fun t => match t with
  | 0 => k208_0
  | _ => []
-- 209: SockFairModel.unbinds (II)V
def k209_0 : List mj_O := (0, 5, 0, 0, 0) :: (1, 33, 12, 38, 66) :: (4, 3, 1, 0, 0) :: (5, 0, 23, 0, 0) :: (7, 11, 0, 0, 0) :: (8, 3, 2, 0, 0) :: (9, 11, 0, 0, 0) :: (10, 38, 0, 0, 0) :: (11, 6, 3, 0, 0) :: (12, 5, 0, 0, 0) :: (13, 33, 12, 38, 66) :: (16, 3, 1, 0, 0) :: (17, 0, 23, 0, 0) :: (19, 11, 0, 0, 0) :: (20, 3, 2, 0, 0) :: (21, 11, 0, 0, 0) :: (22, 1, 1, 0, 0) :: (23, 42, 0, 0, 0) :: (24, 5, 0, 0, 0) :: (25, 33, 12, 38, 66) :: (28, 3, 1, 0, 0) :: (29, 0, 23, 0, 0) :: (31, 11, 0, 0, 0) :: (32, 3, 3, 0, 0) :: (33, 11, 0, 0, 0) :: (34, 1, 1, 0, 0) :: (35, 42, 0, 0, 0) :: (36, 25, 0, 0, 0) :: []
def k209 : Nat → List mj_O := fun t => match t with
  | 0 => k209_0
  | _ => []
-- 210: SockFairModel.bindsMost (I)Z
def k210_117 : List mj_O := (117, 5, 0, 0, 0) :: (118, 3, 1, 0, 0) :: (119, 3, 2, 0, 0) :: (120, 0, 10, 0, 0) :: (122, 11, 3, 0, 0) :: (123, 3, 2, 0, 0) :: (124, 0, 10, 0, 0) :: (126, 11, 4, 0, 0) :: (127, 47, 208, 0, 307) :: (130, 0, 1, 0, 0) :: (131, 27, 0, 0, 0) :: []
def k210_110 : List mj_O := (110, 3, 2, 0, 0) :: (111, 1, 1, 0, 0) :: (112, 22, 1, 117, 0) :: (115, 0, 0, 0, 0) :: (116, 27, 0, 0, 0) :: k210_117
def k210_104 : List mj_O := (104, 9, 4, 1, 0) :: (107, 23, 0, 7, 0) :: k210_110
def k210_98 : List mj_O := (98, 9, 5, 1, 0) :: (101, 23, 0, 22, 0) :: k210_104
def k210_86 : List mj_O := (86, 0, 10, 0, 0) :: (88, 3, 4, 0, 0) :: (90, 11, 2, 0, 0) :: (91, 3, 5, 0, 0) :: (93, 11, 0, 0, 0) :: (94, 6, 2, 0, 0) :: (95, 3, 6, 0, 0) :: (97, 6, 3, 0, 0) :: k210_98
def k210_66 : List mj_O := (66, 5, 0, 0, 0) :: (67, 3, 1, 0, 0) :: (68, 3, 4, 0, 0) :: (70, 3, 5, 0, 0) :: (72, 47, 205, 0, 304) :: (75, 6, 6, 0, 0) :: (77, 3, 6, 0, 0) :: (79, 3, 3, 0, 0) :: (80, 22, 4, 86, 0) :: (83, 23, 0, 98, 0) :: k210_86
def k210_22 : List mj_O := (22, 3, 5, 0, 0) :: (24, 5, 0, 0, 0) :: (25, 31, 12, 1, 273) :: (28, 22, 3, 104, 0) :: (31, 5, 0, 0, 0) :: (32, 33, 12, 38, 66) :: (35, 3, 1, 0, 0) :: (36, 0, 23, 0, 0) :: (38, 11, 0, 0, 0) :: (39, 3, 4, 0, 0) :: (41, 11, 0, 0, 0) :: (42, 38, 0, 0, 0) :: (43, 1, 1, 0, 0) :: (44, 22, 1, 98, 0) :: (47, 5, 0, 0, 0) :: (48, 33, 12, 38, 66) :: (51, 3, 1, 0, 0) :: (52, 0, 23, 0, 0) :: (54, 11, 0, 0, 0) :: (55, 3, 5, 0, 0) :: (57, 11, 0, 0, 0) :: (58, 38, 0, 0, 0) :: (59, 1, 1, 0, 0) :: (60, 22, 0, 66, 0) :: (63, 23, 0, 98, 0) :: k210_66
def k210_7 : List mj_O := (7, 3, 4, 0, 0) :: (9, 5, 0, 0, 0) :: (10, 31, 12, 1, 273) :: (13, 22, 3, 110, 0) :: (16, 3, 4, 0, 0) :: (18, 0, 1, 0, 0) :: (19, 11, 0, 0, 0) :: (20, 6, 5, 0, 0) :: k210_22
def k210_0 : List mj_O := (0, 1, 1, 0, 0) :: (1, 6, 2, 0, 0) :: (2, 0, 0, 0, 0) :: (3, 6, 3, 0, 0) :: (4, 0, 0, 0, 0) :: (5, 6, 4, 0, 0) :: k210_7
def k210 : Nat → List mj_O := fun t => match t with
  | 0 => k210_0
  | 7 => k210_7
  | 22 => k210_22
  | 66 => k210_66
  | 86 => k210_86
  | 98 => k210_98
  | 104 => k210_104
  | 110 => k210_110
  | 117 => k210_117
  | _ => []
-- 211: SockFairModel.bindsAll (I)V
def k211_15 : List mj_O := (15, 25, 0, 0, 0) :: []
def k211_2 : List mj_O := (2, 3, 2, 0, 0) :: (3, 21, 0, 15, 0) :: (6, 5, 0, 0, 0) :: (7, 3, 1, 0, 0) :: (8, 47, 210, 0, 311) :: (11, 6, 2, 0, 0) :: (12, 23, 0, 2, 0) :: k211_15
def k211_0 : List mj_O := (0, 0, 1, 0, 0) :: (1, 6, 2, 0, 0) :: k211_2
def k211 : Nat → List mj_O := fun t => match t with
  | 0 => k211_0
  | 2 => k211_2
  | 15 => k211_15
  | _ => []
-- 212: SockFairModel.wears (I)I
def k212_112 : List mj_O := (112, 3, 2, 0, 0) :: (113, 26, 0, 0, 0) :: []
def k212_106 : List mj_O := (106, 9, 3, 1, 0) :: (109, 23, 0, 55, 0) :: k212_112
def k212_97 : List mj_O := (97, 5, 0, 0, 0) :: (98, 3, 1, 0, 0) :: (99, 3, 3, 0, 0) :: (100, 47, 209, 0, 314) :: (103, 9, 2, 1, 0) :: k212_106
def k212_55 : List mj_O := (55, 3, 3, 0, 0) :: (56, 5, 0, 0, 0) :: (57, 31, 12, 1, 273) :: (60, 22, 3, 112, 0) :: (63, 5, 0, 0, 0) :: (64, 33, 12, 38, 66) :: (67, 3, 1, 0, 0) :: (68, 0, 12, 0, 0) :: (70, 11, 0, 0, 0) :: (71, 3, 3, 0, 0) :: (72, 11, 0, 0, 0) :: (73, 38, 0, 0, 0) :: (74, 0, 9, 0, 0) :: (76, 22, 2, 106, 0) :: (79, 5, 0, 0, 0) :: (80, 33, 12, 38, 66) :: (83, 3, 1, 0, 0) :: (84, 0, 23, 0, 0) :: (86, 11, 0, 0, 0) :: (87, 3, 3, 0, 0) :: (88, 11, 0, 0, 0) :: (89, 38, 0, 0, 0) :: (90, 1, 1, 0, 0) :: (91, 22, 1, 97, 0) :: (94, 23, 0, 106, 0) :: k212_97
def k212_53 : List mj_O := (53, 0, 0, 0, 0) :: (54, 6, 3, 0, 0) :: k212_55
def k212_45 : List mj_O := (45, 11, 0, 0, 0) :: (46, 42, 0, 0, 0) :: (47, 9, 3, 1, 0) :: (50, 23, 0, 4, 0) :: k212_53
def k212_44 : List mj_O := (44, 0, 0, 0, 0) :: k212_45
def k212_4 : List mj_O := (4, 3, 3, 0, 0) :: (5, 5, 0, 0, 0) :: (6, 31, 12, 1, 273) :: (9, 22, 3, 53, 0) :: (12, 5, 0, 0, 0) :: (13, 33, 12, 38, 66) :: (16, 3, 1, 0, 0) :: (17, 0, 12, 0, 0) :: (19, 11, 0, 0, 0) :: (20, 3, 3, 0, 0) :: (21, 11, 0, 0, 0) :: (22, 20, 0, 0, 0) :: (23, 38, 0, 0, 0) :: (24, 5, 0, 0, 0) :: (25, 33, 12, 38, 66) :: (28, 3, 1, 0, 0) :: (29, 0, 12, 0, 0) :: (31, 11, 0, 0, 0) :: (32, 3, 3, 0, 0) :: (33, 11, 0, 0, 0) :: (34, 38, 0, 0, 0) :: (35, 0, 9, 0, 0) :: (37, 22, 3, 44, 0) :: (40, 0, 1, 0, 0) :: (41, 23, 0, 45, 0) :: k212_44
def k212_0 : List mj_O := (0, 0, 0, 0, 0) :: (1, 6, 2, 0, 0) :: (2, 0, 0, 0, 0) :: (3, 6, 3, 0, 0) :: k212_4
def k212 : Nat → List mj_O := fun t => match t with
  | 0 => k212_0
  | 4 => k212_4
  | 44 => k212_44
  | 45 => k212_45
  | 53 => k212_53
  | 55 => k212_55
  | 97 => k212_97
  | 106 => k212_106
  | 112 => k212_112
  | _ => []
-- 213: SockFairModel.holds (I)I
def k213_0 : List mj_O := (0, 5, 0, 0, 0) :: (1, 3, 1, 0, 0) :: (2, 47, 211, 0, 317) :: (5, 5, 0, 0, 0) :: (6, 33, 12, 38, 66) :: (9, 3, 1, 0, 0) :: (10, 0, 0, 0, 0) :: (11, 11, 0, 0, 0) :: (12, 20, 0, 0, 0) :: (13, 38, 0, 0, 0) :: (14, 0, 1, 0, 0) :: (15, 11, 0, 0, 0) :: (16, 42, 0, 0, 0) :: (17, 5, 0, 0, 0) :: (18, 3, 1, 0, 0) :: (19, 47, 212, 0, 320) :: (22, 26, 0, 0, 0) :: []
def k213 : Nat → List mj_O := fun t => match t with
  | 0 => k213_0
  | _ => []
-- 214: SockFairModel.holdsMany (I)V
def k214_24 : List mj_O := (24, 25, 0, 0, 0) :: []
def k214_6 : List mj_O := (6, 3, 2, 0, 0) :: (7, 3, 1, 0, 0) :: (8, 22, 3, 24, 0) :: (11, 5, 0, 0, 0) :: (12, 0, 33, 0, 0) :: (14, 47, 213, 0, 326) :: (17, 19, 0, 0, 0) :: (18, 9, 2, 1, 0) :: (21, 23, 0, 6, 0) :: k214_24
def k214_0 : List mj_O := (0, 5, 0, 0, 0) :: (1, 47, 200, 0, 323) :: (4, 0, 0, 0, 0) :: (5, 6, 2, 0, 0) :: k214_6
def k214 : Nat → List mj_O := fun t => match t with
  | 0 => k214_0
  | 6 => k214_6
  | 24 => k214_24
  | _ => []
-- 215: SockFairModel.boundIn (I)I
def k215_43 : List mj_O := (43, 3, 2, 0, 0) :: (44, 26, 0, 0, 0) :: []
def k215_35 : List mj_O := (35, 11, 9, 0, 0) :: (36, 6, 2, 0, 0) :: (37, 9, 3, 1, 0) :: (40, 23, 0, 4, 0) :: k215_43
def k215_34 : List mj_O := (34, 0, 0, 0, 0) :: k215_35
def k215_4 : List mj_O := (4, 3, 3, 0, 0) :: (5, 5, 0, 0, 0) :: (6, 31, 12, 1, 273) :: (9, 22, 3, 43, 0) :: (12, 3, 2, 0, 0) :: (13, 5, 0, 0, 0) :: (14, 33, 12, 38, 66) :: (17, 3, 1, 0, 0) :: (18, 0, 23, 0, 0) :: (20, 11, 0, 0, 0) :: (21, 3, 3, 0, 0) :: (22, 11, 0, 0, 0) :: (23, 38, 0, 0, 0) :: (24, 1, 1, 0, 0) :: (25, 22, 0, 34, 0) :: (28, 0, 1, 0, 0) :: (29, 3, 3, 0, 0) :: (30, 11, 5, 0, 0) :: (31, 23, 0, 35, 0) :: k215_34
def k215_0 : List mj_O := (0, 0, 0, 0, 0) :: (1, 6, 2, 0, 0) :: (2, 0, 0, 0, 0) :: (3, 6, 3, 0, 0) :: k215_4
def k215 : Nat → List mj_O := fun t => match t with
  | 0 => k215_0
  | 4 => k215_4
  | 34 => k215_34
  | 35 => k215_35
  | 43 => k215_43
  | _ => []
-- 216: SockFairModel.holesIn (I)I
def k216_32 : List mj_O := (32, 3, 2, 0, 0) :: (33, 26, 0, 0, 0) :: []
def k216_4 : List mj_O := (4, 3, 3, 0, 0) :: (5, 5, 0, 0, 0) :: (6, 31, 12, 1, 273) :: (9, 22, 3, 32, 0) :: (12, 3, 2, 0, 0) :: (13, 5, 0, 0, 0) :: (14, 33, 12, 38, 66) :: (17, 3, 1, 0, 0) :: (18, 0, 12, 0, 0) :: (20, 11, 0, 0, 0) :: (21, 3, 3, 0, 0) :: (22, 11, 0, 0, 0) :: (23, 38, 0, 0, 0) :: (24, 11, 0, 0, 0) :: (25, 6, 2, 0, 0) :: (26, 9, 3, 1, 0) :: (29, 23, 0, 4, 0) :: k216_32
def k216_0 : List mj_O := (0, 0, 0, 0, 0) :: (1, 6, 2, 0, 0) :: (2, 0, 0, 0, 0) :: (3, 6, 3, 0, 0) :: k216_4
def k216 : Nat → List mj_O := fun t => match t with
  | 0 => k216_0
  | 4 => k216_4
  | 32 => k216_32
  | _ => []
-- 217: SockFairModel.maySet (I)I
def k217_38 : List mj_O := (38, 3, 2, 0, 0) :: (39, 26, 0, 0, 0) :: []
def k217_30 : List mj_O := (30, 11, 9, 0, 0) :: (31, 6, 2, 0, 0) :: (32, 9, 3, 1, 0) :: (35, 23, 0, 4, 0) :: k217_38
def k217_29 : List mj_O := (29, 0, 0, 0, 0) :: k217_30
def k217_4 : List mj_O := (4, 3, 3, 0, 0) :: (5, 5, 0, 0, 0) :: (6, 31, 12, 1, 273) :: (9, 22, 3, 38, 0) :: (12, 3, 2, 0, 0) :: (13, 5, 0, 0, 0) :: (14, 0, 0, 0, 0) :: (15, 3, 1, 0, 0) :: (16, 3, 3, 0, 0) :: (17, 47, 206, 0, 329) :: (20, 21, 0, 29, 0) :: (23, 0, 1, 0, 0) :: (24, 3, 3, 0, 0) :: (25, 11, 5, 0, 0) :: (26, 23, 0, 30, 0) :: k217_29
def k217_0 : List mj_O := (0, 0, 0, 0, 0) :: (1, 6, 2, 0, 0) :: (2, 0, 0, 0, 0) :: (3, 6, 3, 0, 0) :: k217_4
def k217 : Nat → List mj_O := fun t => match t with
  | 0 => k217_0
  | 4 => k217_4
  | 29 => k217_29
  | 30 => k217_30
  | 38 => k217_38
  | _ => []
-- 218: SockFairModel.ratherSet (I)I
def k218_80 : List mj_O := (80, 3, 3, 0, 0) :: (81, 26, 0, 0, 0) :: []
def k218_74 : List mj_O := (74, 9, 5, 1, 0) :: (77, 23, 0, 34, 0) :: k218_80
def k218_34 : List mj_O := (34, 3, 5, 0, 0) :: (36, 5, 0, 0, 0) :: (37, 31, 12, 1, 273) :: (40, 22, 3, 80, 0) :: (43, 3, 3, 0, 0) :: (44, 3, 5, 0, 0) :: (46, 11, 6, 0, 0) :: (47, 0, 1, 0, 0) :: (48, 11, 8, 0, 0) :: (49, 0, 1, 0, 0) :: (50, 22, 1, 74, 0) :: (53, 5, 0, 0, 0) :: (54, 3, 1, 0, 0) :: (55, 3, 5, 0, 0) :: (57, 47, 207, 0, 336) :: (60, 3, 4, 0, 0) :: (62, 22, 4, 74, 0) :: (65, 3, 3, 0, 0) :: (66, 0, 1, 0, 0) :: (67, 3, 5, 0, 0) :: (69, 11, 5, 0, 0) :: (70, 1, 1, 0, 0) :: (71, 11, 10, 0, 0) :: (72, 11, 8, 0, 0) :: (73, 6, 3, 0, 0) :: k218_74
def k218_23 : List mj_O := (23, 5, 0, 0, 0) :: (24, 3, 1, 0, 0) :: (25, 3, 2, 0, 0) :: (26, 47, 207, 0, 336) :: (29, 6, 4, 0, 0) :: (31, 0, 0, 0, 0) :: (32, 6, 5, 0, 0) :: k218_34
def k218_0 : List mj_O := (0, 5, 0, 0, 0) :: (1, 33, 12, 38, 66) :: (4, 0, 23, 0, 0) :: (6, 3, 1, 0, 0) :: (7, 11, 0, 0, 0) :: (8, 38, 0, 0, 0) :: (9, 6, 2, 0, 0) :: (10, 5, 0, 0, 0) :: (11, 3, 1, 0, 0) :: (12, 47, 217, 0, 333) :: (15, 6, 3, 0, 0) :: (16, 3, 2, 0, 0) :: (17, 1, 1, 0, 0) :: (18, 22, 1, 23, 0) :: (21, 3, 3, 0, 0) :: (22, 26, 0, 0, 0) :: k218_23
def k218 : Nat → List mj_O := fun t => match t with
  | 0 => k218_0
  | 23 => k218_23
  | 34 => k218_34
  | 74 => k218_74
  | 80 => k218_80
  | _ => []
-- 219: SockFairModel.mayCouples ()I
def k219_29 : List mj_O := (29, 3, 1, 0, 0) :: (30, 0, 2, 0, 0) :: (31, 11, 3, 0, 0) :: (32, 26, 0, 0, 0) :: []
def k219_4 : List mj_O := (4, 3, 2, 0, 0) :: (5, 5, 0, 0, 0) :: (6, 31, 12, 1, 273) :: (9, 22, 3, 29, 0) :: (12, 3, 1, 0, 0) :: (13, 5, 0, 0, 0) :: (14, 3, 2, 0, 0) :: (15, 47, 217, 0, 333) :: (18, 48, 166, 0, 339) :: (21, 11, 0, 0, 0) :: (22, 6, 1, 0, 0) :: (23, 9, 2, 1, 0) :: (26, 23, 0, 4, 0) :: k219_29
def k219_0 : List mj_O := (0, 0, 0, 0, 0) :: (1, 6, 1, 0, 0) :: (2, 0, 0, 0, 0) :: (3, 6, 2, 0, 0) :: k219_4
def k219 : Nat → List mj_O := fun t => match t with
  | 0 => k219_0
  | 4 => k219_4
  | 29 => k219_29
  | _ => []
-- 220: SockFairModel.count (I)I
def k220_112 : List mj_O := (112, 5, 0, 0, 0) :: (113, 33, 12, 13, 38) :: (116, 3, 1, 0, 0) :: (117, 0, 8, 0, 0) :: (119, 11, 1, 0, 0) :: (120, 38, 0, 0, 0) :: (121, 26, 0, 0, 0) :: []
def k220_107 : List mj_O := (107, 5, 0, 0, 0) :: (108, 31, 12, 10, 121) :: (111, 26, 0, 0, 0) :: k220_112
def k220_102 : List mj_O := (102, 5, 0, 0, 0) :: (103, 31, 12, 52, 283) :: (106, 26, 0, 0, 0) :: k220_107
def k220_97 : List mj_O := (97, 5, 0, 0, 0) :: (98, 31, 12, 40, 280) :: (101, 26, 0, 0, 0) :: k220_102
def k220_92 : List mj_O := (92, 5, 0, 0, 0) :: (93, 47, 219, 0, 351) :: (96, 26, 0, 0, 0) :: k220_97
def k220_86 : List mj_O := (86, 5, 0, 0, 0) :: (87, 0, 0, 0, 0) :: (88, 47, 216, 0, 348) :: (91, 26, 0, 0, 0) :: k220_92
def k220_80 : List mj_O := (80, 5, 0, 0, 0) :: (81, 0, 0, 0, 0) :: (82, 47, 215, 0, 345) :: (85, 26, 0, 0, 0) :: k220_86
def k220_73 : List mj_O := (73, 5, 0, 0, 0) :: (74, 33, 12, 38, 66) :: (77, 0, 0, 0, 0) :: (78, 38, 0, 0, 0) :: (79, 26, 0, 0, 0) :: k220_80
def k220_68 : List mj_O := (68, 5, 0, 0, 0) :: (69, 31, 12, 1, 273) :: (72, 26, 0, 0, 0) :: k220_73
def k220_22 : List mj_O := (22, 3, 1, 0, 0) :: (23, 24, 7, 112, 0) :: k220_68
def k220_0 : List mj_O := (0, 5, 0, 0, 0) :: (1, 0, 0, 0, 0) :: (2, 34, 12, 0, 118) :: (5, 5, 0, 0, 0) :: (6, 3, 1, 0, 0) :: (7, 0, 0, 0, 0) :: (8, 0, 10, 0, 0) :: (10, 48, 164, 0, 342) :: (13, 0, 1, 0, 0) :: (14, 47, 163, 0, 266) :: (17, 21, 1, 22, 0) :: (20, 0, 0, 0, 0) :: (21, 26, 0, 0, 0) :: k220_22
def k220 : Nat → List mj_O := fun t => match t with
  | 0 => k220_0
  | 22 => k220_22
  | 68 => k220_68
  | 73 => k220_73
  | 80 => k220_80
  | 86 => k220_86
  | 92 => k220_92
  | 97 => k220_97
  | 102 => k220_102
  | 107 => k220_107
  | 112 => k220_112
  | _ => []
-- 221: SockFairModel.isPerson (I)Z
def k221_18 : List mj_O := (18, 0, 1, 0, 0) :: (19, 47, 163, 0, 266) :: (22, 27, 0, 0, 0) :: []
def k221_17 : List mj_O := (17, 0, 0, 0, 0) :: k221_18
def k221_0 : List mj_O := (0, 5, 0, 0, 0) :: (1, 3, 1, 0, 0) :: (2, 21, 2, 17, 0) :: (5, 3, 1, 0, 0) :: (6, 5, 0, 0, 0) :: (7, 31, 12, 1, 273) :: (10, 22, 3, 17, 0) :: (13, 0, 1, 0, 0) :: (14, 23, 0, 18, 0) :: k221_17
def k221 : Nat → List mj_O := fun t => match t with
  | 0 => k221_0
  | 17 => k221_17
  | 18 => k221_18
  | _ => []
-- 222: SockFairModel.isWhat (II)Z
def k222_0 : List mj_O := (0, 5, 0, 0, 0) :: (1, 3, 1, 0, 0) :: (2, 0, 0, 0, 0) :: (3, 3, 2, 0, 0) :: (4, 48, 164, 0, 342) :: (7, 0, 1, 0, 0) :: (8, 47, 163, 0, 266) :: (11, 27, 0, 0, 0) :: []
def k222 : Nat → List mj_O := fun t => match t with
  | 0 => k222_0
  | _ => []
-- 223: SockFairModel.person (II)I
def k223_135 : List mj_O := (135, 5, 0, 0, 0) :: (136, 3, 1, 0, 0) :: (137, 47, 218, 0, 361) :: (140, 26, 0, 0, 0) :: []
def k223_129 : List mj_O := (129, 5, 0, 0, 0) :: (130, 3, 1, 0, 0) :: (131, 47, 217, 0, 333) :: (134, 26, 0, 0, 0) :: k223_135
def k223_119 : List mj_O := (119, 5, 0, 0, 0) :: (120, 33, 12, 38, 66) :: (123, 0, 23, 0, 0) :: (125, 3, 1, 0, 0) :: (126, 11, 0, 0, 0) :: (127, 38, 0, 0, 0) :: (128, 26, 0, 0, 0) :: k223_129
def k223_112 : List mj_O := (112, 5, 0, 0, 0) :: (113, 33, 12, 7, 26) :: (116, 3, 1, 0, 0) :: (117, 38, 0, 0, 0) :: (118, 26, 0, 0, 0) :: k223_119
def k223_102 : List mj_O := (102, 5, 0, 0, 0) :: (103, 33, 12, 38, 66) :: (106, 0, 12, 0, 0) :: (108, 3, 1, 0, 0) :: (109, 11, 0, 0, 0) :: (110, 38, 0, 0, 0) :: (111, 26, 0, 0, 0) :: k223_112
def k223_95 : List mj_O := (95, 5, 0, 0, 0) :: (96, 33, 12, 6, 23) :: (99, 3, 1, 0, 0) :: (100, 38, 0, 0, 0) :: (101, 26, 0, 0, 0) :: k223_102
def k223_88 : List mj_O := (88, 5, 0, 0, 0) :: (89, 33, 12, 5, 20) :: (92, 3, 1, 0, 0) :: (93, 38, 0, 0, 0) :: (94, 26, 0, 0, 0) :: k223_95
def k223_81 : List mj_O := (81, 5, 0, 0, 0) :: (82, 33, 12, 4, 16) :: (85, 3, 1, 0, 0) :: (86, 38, 0, 0, 0) :: (87, 26, 0, 0, 0) :: k223_88
def k223_72 : List mj_O := (72, 5, 0, 0, 0) :: (73, 33, 12, 38, 66) :: (76, 0, 1, 0, 0) :: (77, 3, 1, 0, 0) :: (78, 11, 0, 0, 0) :: (79, 38, 0, 0, 0) :: (80, 26, 0, 0, 0) :: k223_81
def k223_25 : List mj_O := (25, 3, 2, 0, 0) :: (26, 24, 8, 135, 0) :: k223_72
def k223_23 : List mj_O := (23, 0, 0, 0, 0) :: (24, 26, 0, 0, 0) :: k223_25
def k223_0 : List mj_O := (0, 5, 0, 0, 0) :: (1, 0, 0, 0, 0) :: (2, 34, 12, 0, 118) :: (5, 5, 0, 0, 0) :: (6, 3, 1, 0, 0) :: (7, 47, 221, 0, 354) :: (10, 21, 0, 23, 0) :: (13, 5, 0, 0, 0) :: (14, 3, 2, 0, 0) :: (15, 0, 8, 0, 0) :: (17, 47, 222, 0, 357) :: (20, 21, 1, 25, 0) :: k223_23
def k223 : Nat → List mj_O := fun t => match t with
  | 0 => k223_0
  | 23 => k223_23
  | 25 => k223_25
  | 72 => k223_72
  | 81 => k223_81
  | 88 => k223_88
  | 95 => k223_95
  | 102 => k223_102
  | 112 => k223_112
  | 119 => k223_119
  | 129 => k223_129
  | 135 => k223_135
  | _ => []
-- 224: SockFairModel.alike (II)I
def k224_32 : List mj_O := (32, 26, 0, 0, 0) :: []
def k224_31 : List mj_O := (31, 0, 0, 0, 0) :: k224_32
def k224_0 : List mj_O := (0, 5, 0, 0, 0) :: (1, 0, 0, 0, 0) :: (2, 34, 12, 0, 118) :: (5, 5, 0, 0, 0) :: (6, 3, 1, 0, 0) :: (7, 47, 221, 0, 354) :: (10, 21, 0, 31, 0) :: (13, 5, 0, 0, 0) :: (14, 3, 2, 0, 0) :: (15, 47, 221, 0, 354) :: (18, 21, 0, 31, 0) :: (21, 5, 0, 0, 0) :: (22, 0, 0, 0, 0) :: (23, 3, 1, 0, 0) :: (24, 3, 2, 0, 0) :: (25, 47, 205, 0, 304) :: (28, 23, 0, 32, 0) :: k224_31
def k224 : Nat → List mj_O := fun t => match t with
  | 0 => k224_0
  | 31 => k224_31
  | 32 => k224_32
  | _ => []
-- 225: SockFairModel.liking (II)I
def k225_31 : List mj_O := (31, 26, 0, 0, 0) :: []
def k225_30 : List mj_O := (30, 0, 0, 0, 0) :: k225_31
def k225_0 : List mj_O := (0, 5, 0, 0, 0) :: (1, 0, 0, 0, 0) :: (2, 34, 12, 0, 118) :: (5, 5, 0, 0, 0) :: (6, 3, 1, 0, 0) :: (7, 47, 221, 0, 354) :: (10, 21, 0, 30, 0) :: (13, 5, 0, 0, 0) :: (14, 3, 2, 0, 0) :: (15, 47, 221, 0, 354) :: (18, 21, 0, 30, 0) :: (21, 5, 0, 0, 0) :: (22, 3, 1, 0, 0) :: (23, 3, 2, 0, 0) :: (24, 47, 207, 0, 336) :: (27, 23, 0, 31, 0) :: k225_30
def k225 : Nat → List mj_O := fun t => match t with
  | 0 => k225_0
  | 30 => k225_30
  | 31 => k225_31
  | _ => []
-- 226: SockFairModel.hold (I)I
def k226_58 : List mj_O := (58, 5, 0, 0, 0) :: (59, 33, 12, 38, 66) :: (62, 0, 0, 0, 0) :: (63, 38, 0, 0, 0) :: (64, 26, 0, 0, 0) :: []
def k226_41 : List mj_O := (41, 3, 2, 0, 0) :: (42, 3, 1, 0, 0) :: (43, 22, 3, 58, 0) :: (46, 5, 0, 0, 0) :: (47, 0, 0, 0, 0) :: (48, 47, 213, 0, 326) :: (51, 19, 0, 0, 0) :: (52, 9, 2, 1, 0) :: (55, 23, 0, 41, 0) :: k226_58
def k226_35 : List mj_O := (35, 5, 0, 0, 0) :: (36, 47, 197, 0, 367) :: (39, 0, 0, 0, 0) :: (40, 6, 2, 0, 0) :: k226_41
def k226_29 : List mj_O := (29, 5, 0, 0, 0) :: (30, 0, 1, 0, 0) :: (31, 47, 198, 0, 364) :: (34, 26, 0, 0, 0) :: k226_35
def k226_0 : List mj_O := (0, 5, 0, 0, 0) :: (1, 0, 0, 0, 0) :: (2, 34, 12, 0, 118) :: (5, 3, 1, 0, 0) :: (6, 0, 1, 0, 0) :: (7, 0, 20, 0, 0) :: (9, 48, 164, 0, 342) :: (12, 21, 0, 29, 0) :: (15, 5, 0, 0, 0) :: (16, 33, 12, 38, 66) :: (19, 0, 0, 0, 0) :: (20, 38, 0, 0, 0) :: (21, 3, 1, 0, 0) :: (22, 11, 0, 0, 0) :: (23, 0, 999, 0, 0) :: (26, 22, 5, 35, 0) :: k226_29
def k226 : Nat → List mj_O := fun t => match t with
  | 0 => k226_0
  | 29 => k226_29
  | 35 => k226_35
  | 41 => k226_41
  | 58 => k226_58
  | _ => []
-- 227: SockFairModel.dye (II)I
def k227_31 : List mj_O := (31, 5, 0, 0, 0) :: (32, 47, 197, 0, 367) :: (35, 5, 0, 0, 0) :: (36, 33, 12, 38, 66) :: (39, 0, 1, 0, 0) :: (40, 3, 1, 0, 0) :: (41, 11, 0, 0, 0) :: (42, 38, 0, 0, 0) :: (43, 6, 3, 0, 0) :: (44, 5, 0, 0, 0) :: (45, 33, 12, 38, 66) :: (48, 0, 1, 0, 0) :: (49, 3, 1, 0, 0) :: (50, 11, 0, 0, 0) :: (51, 3, 2, 0, 0) :: (52, 42, 0, 0, 0) :: (53, 3, 3, 0, 0) :: (54, 26, 0, 0, 0) :: []
def k227_15 : List mj_O := (15, 3, 2, 0, 0) :: (16, 0, 0, 0, 0) :: (17, 0, 9, 0, 0) :: (19, 48, 164, 0, 342) :: (22, 21, 1, 31, 0) :: (25, 5, 0, 0, 0) :: (26, 0, 1, 0, 0) :: (27, 47, 198, 0, 364) :: (30, 26, 0, 0, 0) :: k227_31
def k227_0 : List mj_O := (0, 5, 0, 0, 0) :: (1, 0, 0, 0, 0) :: (2, 34, 12, 0, 118) :: (5, 5, 0, 0, 0) :: (6, 3, 1, 0, 0) :: (7, 47, 221, 0, 354) :: (10, 21, 1, 15, 0) :: (13, 0, 0, 0, 0) :: (14, 26, 0, 0, 0) :: k227_15
def k227 : Nat → List mj_O := fun t => match t with
  | 0 => k227_0
  | 15 => k227_15
  | 31 => k227_31
  | _ => []
-- 228: SockFairModel.darn (II)I
def k228_64 : List mj_O := (64, 42, 0, 0, 0) :: (65, 5, 0, 0, 0) :: (66, 33, 12, 38, 66) :: (69, 0, 12, 0, 0) :: (71, 3, 1, 0, 0) :: (72, 11, 0, 0, 0) :: (73, 38, 0, 0, 0) :: (74, 26, 0, 0, 0) :: []
def k228_63 : List mj_O := (63, 3, 3, 0, 0) :: k228_64
def k228_31 : List mj_O := (31, 5, 0, 0, 0) :: (32, 47, 197, 0, 367) :: (35, 5, 0, 0, 0) :: (36, 33, 12, 38, 66) :: (39, 0, 12, 0, 0) :: (41, 3, 1, 0, 0) :: (42, 11, 0, 0, 0) :: (43, 38, 0, 0, 0) :: (44, 3, 2, 0, 0) :: (45, 11, 1, 0, 0) :: (46, 6, 3, 0, 0) :: (47, 5, 0, 0, 0) :: (48, 33, 12, 38, 66) :: (51, 0, 12, 0, 0) :: (53, 3, 1, 0, 0) :: (54, 11, 0, 0, 0) :: (55, 3, 3, 0, 0) :: (56, 21, 3, 63, 0) :: (59, 0, 0, 0, 0) :: (60, 23, 0, 64, 0) :: k228_63
def k228_15 : List mj_O := (15, 3, 2, 0, 0) :: (16, 0, 1, 0, 0) :: (17, 0, 9, 0, 0) :: (19, 48, 164, 0, 342) :: (22, 21, 1, 31, 0) :: (25, 5, 0, 0, 0) :: (26, 0, 1, 0, 0) :: (27, 47, 198, 0, 364) :: (30, 26, 0, 0, 0) :: k228_31
def k228_0 : List mj_O := (0, 5, 0, 0, 0) :: (1, 0, 0, 0, 0) :: (2, 34, 12, 0, 118) :: (5, 5, 0, 0, 0) :: (6, 3, 1, 0, 0) :: (7, 47, 221, 0, 354) :: (10, 21, 1, 15, 0) :: (13, 0, 0, 0, 0) :: (14, 26, 0, 0, 0) :: k228_15
def k228 : Nat → List mj_O := fun t => match t with
  | 0 => k228_0
  | 15 => k228_15
  | 31 => k228_31
  | 63 => k228_63
  | 64 => k228_64
  | _ => []
-- 229: SockFairModel.unravel (I)I
def k229_36 : List mj_O := (36, 5, 0, 0, 0) :: (37, 47, 197, 0, 367) :: (40, 5, 0, 0, 0) :: (41, 0, 0, 0, 0) :: (42, 3, 1, 0, 0) :: (43, 47, 209, 0, 314) :: (46, 3, 2, 0, 0) :: (47, 26, 0, 0, 0) :: []
def k229_15 : List mj_O := (15, 5, 0, 0, 0) :: (16, 33, 12, 38, 66) :: (19, 0, 23, 0, 0) :: (21, 3, 1, 0, 0) :: (22, 11, 0, 0, 0) :: (23, 38, 0, 0, 0) :: (24, 6, 2, 0, 0) :: (25, 3, 2, 0, 0) :: (26, 1, 1, 0, 0) :: (27, 22, 1, 36, 0) :: (30, 5, 0, 0, 0) :: (31, 0, 1, 0, 0) :: (32, 47, 198, 0, 364) :: (35, 26, 0, 0, 0) :: k229_36
def k229_0 : List mj_O := (0, 5, 0, 0, 0) :: (1, 0, 0, 0, 0) :: (2, 34, 12, 0, 118) :: (5, 5, 0, 0, 0) :: (6, 3, 1, 0, 0) :: (7, 47, 221, 0, 354) :: (10, 21, 1, 15, 0) :: (13, 0, 0, 0, 0) :: (14, 26, 0, 0, 0) :: k229_15
def k229 : Nat → List mj_O := fun t => match t with
  | 0 => k229_0
  | 15 => k229_15
  | 36 => k229_36
  | _ => []
-- 230: SockFairModel.bind (II)Z
def k230_68 : List mj_O := (68, 5, 0, 0, 0) :: (69, 47, 197, 0, 367) :: (72, 5, 0, 0, 0) :: (73, 0, 0, 0, 0) :: (74, 3, 1, 0, 0) :: (75, 3, 2, 0, 0) :: (76, 47, 208, 0, 307) :: (79, 0, 1, 0, 0) :: (80, 27, 0, 0, 0) :: []
def k230_67 : List mj_O := (67, 27, 0, 0, 0) :: k230_68
def k230_66 : List mj_O := (66, 0, 0, 0, 0) :: k230_67
def k230_54 : List mj_O := (54, 5, 0, 0, 0) :: (55, 0, 1, 0, 0) :: (56, 47, 198, 0, 364) :: (59, 21, 5, 66, 0) :: (62, 0, 1, 0, 0) :: (63, 23, 0, 67, 0) :: k230_66
def k230_23 : List mj_O := (23, 3, 1, 0, 0) :: (24, 3, 2, 0, 0) :: (25, 22, 0, 54, 0) :: (28, 5, 0, 0, 0) :: (29, 33, 12, 38, 66) :: (32, 0, 23, 0, 0) :: (34, 3, 1, 0, 0) :: (35, 11, 0, 0, 0) :: (36, 38, 0, 0, 0) :: (37, 1, 1, 0, 0) :: (38, 22, 1, 54, 0) :: (41, 5, 0, 0, 0) :: (42, 33, 12, 38, 66) :: (45, 0, 23, 0, 0) :: (47, 3, 2, 0, 0) :: (48, 11, 0, 0, 0) :: (49, 38, 0, 0, 0) :: (50, 1, 1, 0, 0) :: (51, 22, 0, 68, 0) :: k230_54
def k230_21 : List mj_O := (21, 0, 0, 0, 0) :: (22, 27, 0, 0, 0) :: k230_23
def k230_0 : List mj_O := (0, 5, 0, 0, 0) :: (1, 0, 0, 0, 0) :: (2, 34, 12, 0, 118) :: (5, 5, 0, 0, 0) :: (6, 3, 1, 0, 0) :: (7, 47, 221, 0, 354) :: (10, 21, 0, 21, 0) :: (13, 5, 0, 0, 0) :: (14, 3, 2, 0, 0) :: (15, 47, 221, 0, 354) :: (18, 21, 1, 23, 0) :: k230_21
def k230 : Nat → List mj_O := fun t => match t with
  | 0 => k230_0
  | 21 => k230_21
  | 23 => k230_23
  | 54 => k230_54
  | 66 => k230_66
  | 67 => k230_67
  | 68 => k230_68
  | _ => []
-- 231: SockFairModel.isFairs (II)Z
def k231_0 : List mj_O := (0, 5, 0, 0, 0) :: (1, 3, 1, 0, 0) :: (2, 0, 0, 0, 0) :: (3, 0, 30, 0, 0) :: (5, 48, 164, 0, 342) :: (8, 3, 2, 0, 0) :: (9, 47, 163, 0, 266) :: (12, 27, 0, 0, 0) :: []
def k231 : Nat → List mj_O := fun t => match t with
  | 0 => k231_0
  | _ => []
-- 232: SockFairModel.then (II)I
def k232_24 : List mj_O := (24, 5, 0, 0, 0) :: (25, 3, 2, 0, 0) :: (26, 47, 214, 0, 373) :: (29, 5, 0, 0, 0) :: (30, 33, 12, 38, 66) :: (33, 0, 56, 0, 0) :: (35, 3, 1, 0, 0) :: (36, 11, 0, 0, 0) :: (37, 38, 0, 0, 0) :: (38, 26, 0, 0, 0) :: []
def k232_22 : List mj_O := (22, 0, 0, 0, 0) :: (23, 26, 0, 0, 0) :: k232_24
def k232_0 : List mj_O := (0, 5, 0, 0, 0) :: (1, 0, 0, 0, 0) :: (2, 34, 12, 0, 118) :: (5, 5, 0, 0, 0) :: (6, 3, 1, 0, 0) :: (7, 47, 221, 0, 354) :: (10, 21, 0, 22, 0) :: (13, 5, 0, 0, 0) :: (14, 3, 2, 0, 0) :: (15, 0, 2, 0, 0) :: (16, 47, 231, 0, 370) :: (19, 21, 1, 24, 0) :: k232_22
def k232 : Nat → List mj_O := fun t => match t with
  | 0 => k232_0
  | 22 => k232_22
  | 24 => k232_24
  | _ => []
-- 233: SockFairModel.when (I)I
def k233_55 : List mj_O := (55, 1, 1, 0, 0) :: (56, 26, 0, 0, 0) :: []
def k233_42 : List mj_O := (42, 5, 0, 0, 0) :: (43, 0, 33, 0, 0) :: (45, 47, 213, 0, 326) :: (48, 19, 0, 0, 0) :: (49, 9, 2, 1, 0) :: (52, 23, 0, 21, 0) :: k233_55
def k233_21 : List mj_O := (21, 3, 2, 0, 0) :: (22, 0, 30, 0, 0) :: (24, 22, 4, 55, 0) :: (27, 5, 0, 0, 0) :: (28, 33, 12, 38, 66) :: (31, 0, 56, 0, 0) :: (33, 3, 1, 0, 0) :: (34, 11, 0, 0, 0) :: (35, 38, 0, 0, 0) :: (36, 1, 1, 0, 0) :: (37, 22, 0, 42, 0) :: (40, 3, 2, 0, 0) :: (41, 26, 0, 0, 0) :: k233_42
def k233_15 : List mj_O := (15, 5, 0, 0, 0) :: (16, 47, 200, 0, 323) :: (19, 0, 0, 0, 0) :: (20, 6, 2, 0, 0) :: k233_21
def k233_0 : List mj_O := (0, 5, 0, 0, 0) :: (1, 0, 0, 0, 0) :: (2, 34, 12, 0, 118) :: (5, 5, 0, 0, 0) :: (6, 3, 1, 0, 0) :: (7, 47, 221, 0, 354) :: (10, 21, 1, 15, 0) :: (13, 0, 0, 0, 0) :: (14, 26, 0, 0, 0) :: k233_15
def k233 : Nat → List mj_O := fun t => match t with
  | 0 => k233_0
  | 15 => k233_15
  | 21 => k233_21
  | 42 => k233_42
  | 55 => k233_55
  | _ => []
-- 234: SockFairModel.worn (I)I
def k234_29 : List mj_O := (29, 26, 0, 0, 0) :: []
def k234_28 : List mj_O := (28, 0, 0, 0, 0) :: k234_29
def k234_0 : List mj_O := (0, 5, 0, 0, 0) :: (1, 0, 0, 0, 0) :: (2, 34, 12, 0, 118) :: (5, 5, 0, 0, 0) :: (6, 3, 1, 0, 0) :: (7, 47, 221, 0, 354) :: (10, 21, 0, 28, 0) :: (13, 0, 9, 0, 0) :: (15, 5, 0, 0, 0) :: (16, 33, 12, 38, 66) :: (19, 0, 12, 0, 0) :: (21, 3, 1, 0, 0) :: (22, 11, 0, 0, 0) :: (23, 38, 0, 0, 0) :: (24, 11, 1, 0, 0) :: (25, 23, 0, 29, 0) :: k234_28
def k234 : Nat → List mj_O := fun t => match t with
  | 0 => k234_0
  | 28 => k234_28
  | 29 => k234_29
  | _ => []
-- 235: SockFairModel.couples (I)I
def k235_16 : List mj_O := (16, 5, 0, 0, 0) :: (17, 3, 1, 0, 0) :: (18, 47, 214, 0, 373) :: (21, 5, 0, 0, 0) :: (22, 0, 33, 0, 0) :: (24, 47, 215, 0, 345) :: (27, 48, 166, 0, 339) :: (30, 0, 2, 0, 0) :: (31, 11, 3, 0, 0) :: (32, 26, 0, 0, 0) :: []
def k235_0 : List mj_O := (0, 5, 0, 0, 0) :: (1, 0, 0, 0, 0) :: (2, 34, 12, 0, 118) :: (5, 5, 0, 0, 0) :: (6, 3, 1, 0, 0) :: (7, 0, 1, 0, 0) :: (8, 47, 231, 0, 370) :: (11, 21, 1, 16, 0) :: (14, 0, 0, 0, 0) :: (15, 26, 0, 0, 0) :: k235_16
def k235 : Nat → List mj_O := fun t => match t with
  | 0 => k235_0
  | 16 => k235_16
  | _ => []
-- 236: SockFairModel.single (I)I
def k236_16 : List mj_O := (16, 5, 0, 0, 0) :: (17, 3, 1, 0, 0) :: (18, 47, 214, 0, 373) :: (21, 0, 1, 0, 0) :: (22, 5, 0, 0, 0) :: (23, 31, 12, 1, 273) :: (26, 11, 5, 0, 0) :: (27, 0, 1, 0, 0) :: (28, 11, 1, 0, 0) :: (29, 5, 0, 0, 0) :: (30, 0, 33, 0, 0) :: (32, 47, 215, 0, 345) :: (35, 1, 1, 0, 0) :: (36, 11, 10, 0, 0) :: (37, 11, 8, 0, 0) :: (38, 26, 0, 0, 0) :: []
def k236_0 : List mj_O := (0, 5, 0, 0, 0) :: (1, 0, 0, 0, 0) :: (2, 34, 12, 0, 118) :: (5, 5, 0, 0, 0) :: (6, 3, 1, 0, 0) :: (7, 0, 1, 0, 0) :: (8, 47, 231, 0, 370) :: (11, 21, 1, 16, 0) :: (14, 0, 0, 0, 0) :: (15, 26, 0, 0, 0) :: k236_16
def k236 : Nat → List mj_O := fun t => match t with
  | 0 => k236_0
  | 16 => k236_16
  | _ => []
-- 237: SockFairModel.closest ()I
def k237_80 : List mj_O := (80, 3, 1, 0, 0) :: (81, 26, 0, 0, 0) :: []
def k237_74 : List mj_O := (74, 9, 3, 1, 0) :: (77, 23, 0, 11, 0) :: k237_80
def k237_68 : List mj_O := (68, 9, 4, 1, 0) :: (71, 23, 0, 24, 0) :: k237_74
def k237_57 : List mj_O := (57, 0, 10, 0, 0) :: (59, 3, 3, 0, 0) :: (60, 11, 2, 0, 0) :: (61, 3, 4, 0, 0) :: (63, 11, 0, 0, 0) :: (64, 6, 1, 0, 0) :: (65, 3, 5, 0, 0) :: (67, 6, 2, 0, 0) :: k237_68
def k237_24 : List mj_O := (24, 3, 4, 0, 0) :: (26, 5, 0, 0, 0) :: (27, 31, 12, 1, 273) :: (30, 22, 3, 74, 0) :: (33, 5, 0, 0, 0) :: (34, 0, 0, 0, 0) :: (35, 3, 3, 0, 0) :: (36, 3, 4, 0, 0) :: (38, 47, 205, 0, 304) :: (41, 6, 5, 0, 0) :: (43, 3, 1, 0, 0) :: (44, 1, 1, 0, 0) :: (45, 22, 0, 57, 0) :: (48, 3, 5, 0, 0) :: (50, 3, 2, 0, 0) :: (51, 22, 4, 57, 0) :: (54, 23, 0, 68, 0) :: k237_57
def k237_11 : List mj_O := (11, 3, 3, 0, 0) :: (12, 5, 0, 0, 0) :: (13, 31, 12, 1, 273) :: (16, 22, 3, 80, 0) :: (19, 3, 3, 0, 0) :: (20, 0, 1, 0, 0) :: (21, 11, 0, 0, 0) :: (22, 6, 4, 0, 0) :: k237_24
def k237_0 : List mj_O := (0, 5, 0, 0, 0) :: (1, 0, 0, 0, 0) :: (2, 34, 12, 0, 118) :: (5, 1, 1, 0, 0) :: (6, 6, 1, 0, 0) :: (7, 0, 0, 0, 0) :: (8, 6, 2, 0, 0) :: (9, 0, 0, 0, 0) :: (10, 6, 3, 0, 0) :: k237_11
def k237 : Nat → List mj_O := fun t => match t with
  | 0 => k237_0
  | 11 => k237_11
  | 24 => k237_24
  | 57 => k237_57
  | 68 => k237_68
  | 74 => k237_74
  | 80 => k237_80
  | _ => []
-- 238: SockFairModel.lonely ()I
def k238_41 : List mj_O := (41, 3, 1, 0, 0) :: (42, 26, 0, 0, 0) :: []
def k238_33 : List mj_O := (33, 11, 9, 0, 0) :: (34, 6, 1, 0, 0) :: (35, 9, 2, 1, 0) :: (38, 23, 0, 9, 0) :: k238_41
def k238_32 : List mj_O := (32, 0, 0, 0, 0) :: k238_33
def k238_9 : List mj_O := (9, 3, 2, 0, 0) :: (10, 5, 0, 0, 0) :: (11, 31, 12, 1, 273) :: (14, 22, 3, 41, 0) :: (17, 3, 1, 0, 0) :: (18, 5, 0, 0, 0) :: (19, 3, 2, 0, 0) :: (20, 47, 217, 0, 333) :: (23, 21, 1, 32, 0) :: (26, 0, 1, 0, 0) :: (27, 3, 2, 0, 0) :: (28, 11, 5, 0, 0) :: (29, 23, 0, 33, 0) :: k238_32
def k238_0 : List mj_O := (0, 5, 0, 0, 0) :: (1, 0, 0, 0, 0) :: (2, 34, 12, 0, 118) :: (5, 0, 0, 0, 0) :: (6, 6, 1, 0, 0) :: (7, 0, 0, 0, 0) :: (8, 6, 2, 0, 0) :: k238_9
def k238 : Nat → List mj_O := fun t => match t with
  | 0 => k238_0
  | 9 => k238_9
  | 32 => k238_32
  | 33 => k238_33
  | 41 => k238_41
  | _ => []
-- 239: SockFairModel.isTempted (I)Z
def k239_46 : List mj_O := (46, 0, 0, 0, 0) :: (47, 27, 0, 0, 0) :: []
def k239_40 : List mj_O := (40, 9, 3, 1, 0) :: (43, 23, 0, 8, 0) :: k239_46
def k239_8 : List mj_O := (8, 3, 3, 0, 0) :: (9, 5, 0, 0, 0) :: (10, 31, 12, 1, 273) :: (13, 22, 3, 46, 0) :: (16, 3, 2, 0, 0) :: (17, 3, 3, 0, 0) :: (18, 11, 6, 0, 0) :: (19, 0, 1, 0, 0) :: (20, 11, 8, 0, 0) :: (21, 0, 1, 0, 0) :: (22, 22, 1, 40, 0) :: (25, 5, 0, 0, 0) :: (26, 3, 3, 0, 0) :: (27, 47, 218, 0, 361) :: (30, 3, 1, 0, 0) :: (31, 11, 6, 0, 0) :: (32, 0, 1, 0, 0) :: (33, 11, 8, 0, 0) :: (34, 0, 1, 0, 0) :: (35, 22, 1, 40, 0) :: (38, 0, 1, 0, 0) :: (39, 27, 0, 0, 0) :: k239_40
def k239_0 : List mj_O := (0, 5, 0, 0, 0) :: (1, 3, 1, 0, 0) :: (2, 47, 218, 0, 361) :: (5, 6, 2, 0, 0) :: (6, 0, 0, 0, 0) :: (7, 6, 3, 0, 0) :: k239_8
def k239 : Nat → List mj_O := fun t => match t with
  | 0 => k239_0
  | 8 => k239_8
  | 40 => k239_40
  | 46 => k239_46
  | _ => []
-- 240: SockFairModel.faithful ()I
def k240_62 : List mj_O := (62, 3, 1, 0, 0) :: (63, 26, 0, 0, 0) :: []
def k240_54 : List mj_O := (54, 11, 0, 0, 0) :: (55, 6, 1, 0, 0) :: (56, 9, 2, 1, 0) :: (59, 23, 0, 9, 0) :: k240_62
def k240_53 : List mj_O := (53, 0, 0, 0, 0) :: k240_54
def k240_9 : List mj_O := (9, 3, 2, 0, 0) :: (10, 5, 0, 0, 0) :: (11, 31, 12, 1, 273) :: (14, 22, 3, 62, 0) :: (17, 5, 0, 0, 0) :: (18, 33, 12, 38, 66) :: (21, 0, 23, 0, 0) :: (23, 3, 2, 0, 0) :: (24, 11, 0, 0, 0) :: (25, 38, 0, 0, 0) :: (26, 6, 3, 0, 0) :: (27, 3, 1, 0, 0) :: (28, 3, 3, 0, 0) :: (29, 3, 2, 0, 0) :: (30, 22, 5, 53, 0) :: (33, 5, 0, 0, 0) :: (34, 3, 2, 0, 0) :: (35, 47, 239, 0, 376) :: (38, 21, 1, 53, 0) :: (41, 5, 0, 0, 0) :: (42, 3, 3, 0, 0) :: (43, 47, 239, 0, 376) :: (46, 21, 1, 53, 0) :: (49, 0, 1, 0, 0) :: (50, 23, 0, 54, 0) :: k240_53
def k240_0 : List mj_O := (0, 5, 0, 0, 0) :: (1, 0, 0, 0, 0) :: (2, 34, 12, 0, 118) :: (5, 0, 0, 0, 0) :: (6, 6, 1, 0, 0) :: (7, 0, 0, 0, 0) :: (8, 6, 2, 0, 0) :: k240_9
def k240 : Nat → List mj_O := fun t => match t with
  | 0 => k240_0
  | 9 => k240_9
  | 53 => k240_53
  | 54 => k240_54
  | 62 => k240_62
  | _ => []
-- 241: SockFairModel.lasts (I)I
def k241_70 : List mj_O := (70, 1, 1, 0, 0) :: (71, 26, 0, 0, 0) :: []
def k241_64 : List mj_O := (64, 9, 2, 1, 0) :: (67, 23, 0, 36, 0) :: k241_70
def k241_36 : List mj_O := (36, 3, 2, 0, 0) :: (37, 0, 30, 0, 0) :: (39, 22, 4, 70, 0) :: (42, 5, 0, 0, 0) :: (43, 0, 33, 0, 0) :: (45, 47, 213, 0, 326) :: (48, 19, 0, 0, 0) :: (49, 5, 0, 0, 0) :: (50, 33, 12, 38, 66) :: (53, 0, 56, 0, 0) :: (55, 3, 1, 0, 0) :: (56, 11, 0, 0, 0) :: (57, 38, 0, 0, 0) :: (58, 1, 1, 0, 0) :: (59, 22, 1, 64, 0) :: (62, 3, 2, 0, 0) :: (63, 26, 0, 0, 0) :: k241_64
def k241_30 : List mj_O := (30, 5, 0, 0, 0) :: (31, 47, 200, 0, 323) :: (34, 0, 1, 0, 0) :: (35, 6, 2, 0, 0) :: k241_36
def k241_15 : List mj_O := (15, 5, 0, 0, 0) :: (16, 33, 12, 38, 66) :: (19, 0, 23, 0, 0) :: (21, 3, 1, 0, 0) :: (22, 11, 0, 0, 0) :: (23, 38, 0, 0, 0) :: (24, 1, 1, 0, 0) :: (25, 22, 1, 30, 0) :: (28, 1, 1, 0, 0) :: (29, 26, 0, 0, 0) :: k241_30
def k241_0 : List mj_O := (0, 5, 0, 0, 0) :: (1, 0, 0, 0, 0) :: (2, 34, 12, 0, 118) :: (5, 5, 0, 0, 0) :: (6, 3, 1, 0, 0) :: (7, 47, 221, 0, 354) :: (10, 21, 1, 15, 0) :: (13, 0, 0, 0, 0) :: (14, 26, 0, 0, 0) :: k241_15
def k241 : Nat → List mj_O := fun t => match t with
  | 0 => k241_0
  | 15 => k241_15
  | 30 => k241_30
  | 36 => k241_36
  | 64 => k241_64
  | 70 => k241_70
  | _ => []
-- 242: SockFairModel.darner ()I
def k242_99 : List mj_O := (99, 3, 2, 0, 0) :: (100, 26, 0, 0, 0) :: []
def k242_93 : List mj_O := (93, 9, 3, 1, 0) :: (96, 23, 0, 24, 0) :: k242_99
def k242_88 : List mj_O := (88, 3, 3, 0, 0) :: (89, 6, 2, 0, 0) :: (90, 3, 4, 0, 0) :: (92, 6, 1, 0, 0) :: k242_93
def k242_68 : List mj_O := (68, 5, 0, 0, 0) :: (69, 0, 33, 0, 0) :: (71, 47, 215, 0, 345) :: (74, 48, 166, 0, 339) :: (77, 6, 4, 0, 0) :: (79, 3, 4, 0, 0) :: (81, 3, 1, 0, 0) :: (82, 22, 4, 88, 0) :: (85, 23, 0, 93, 0) :: k242_88
def k242_49 : List mj_O := (49, 3, 4, 0, 0) :: (51, 0, 5, 0, 0) :: (52, 22, 3, 68, 0) :: (55, 5, 0, 0, 0) :: (56, 0, 33, 0, 0) :: (58, 47, 213, 0, 326) :: (61, 19, 0, 0, 0) :: (62, 9, 4, 1, 0) :: (65, 23, 0, 49, 0) :: k242_68
def k242_24 : List mj_O := (24, 3, 3, 0, 0) :: (25, 5, 0, 0, 0) :: (26, 31, 12, 1, 273) :: (29, 22, 3, 99, 0) :: (32, 5, 0, 0, 0) :: (33, 47, 200, 0, 323) :: (36, 5, 0, 0, 0) :: (37, 33, 12, 38, 66) :: (40, 0, 45, 0, 0) :: (42, 3, 3, 0, 0) :: (43, 11, 0, 0, 0) :: (44, 0, 0, 0, 0) :: (45, 42, 0, 0, 0) :: (46, 0, 0, 0, 0) :: (47, 6, 4, 0, 0) :: k242_49
def k242_0 : List mj_O := (0, 5, 0, 0, 0) :: (1, 0, 0, 0, 0) :: (2, 34, 12, 0, 118) :: (5, 5, 0, 0, 0) :: (6, 0, 5, 0, 0) :: (7, 47, 214, 0, 373) :: (10, 5, 0, 0, 0) :: (11, 0, 33, 0, 0) :: (13, 47, 215, 0, 345) :: (16, 48, 166, 0, 339) :: (19, 6, 1, 0, 0) :: (20, 1, 1, 0, 0) :: (21, 6, 2, 0, 0) :: (22, 0, 0, 0, 0) :: (23, 6, 3, 0, 0) :: k242_24
def k242 : Nat → List mj_O := fun t => match t with
  | 0 => k242_0
  | 24 => k242_24
  | 49 => k242_49
  | 68 => k242_68
  | 88 => k242_88
  | 93 => k242_93
  | 99 => k242_99
  | _ => []
-- 243: SockFairModel.laysAlike (I)I
def k243_104 : List mj_O := (104, 3, 2, 0, 0) :: (105, 26, 0, 0, 0) :: []
def k243_83 : List mj_O := (83, 3, 3, 0, 0) :: (84, 0, 1, 0, 0) :: (85, 5, 0, 0, 0) :: (86, 31, 12, 1, 273) :: (89, 11, 5, 0, 0) :: (90, 22, 3, 104, 0) :: (93, 5, 0, 0, 0) :: (94, 3, 3, 0, 0) :: (95, 47, 245, 0, 379) :: (98, 9, 3, 1, 0) :: (101, 23, 0, 83, 0) :: k243_104
def k243_81 : List mj_O := (81, 0, 1, 0, 0) :: (82, 6, 3, 0, 0) :: k243_83
def k243_75 : List mj_O := (75, 9, 3, 1, 0) :: (78, 23, 0, 19, 0) :: k243_81
def k243_68 : List mj_O := (68, 42, 0, 0, 0) :: (69, 9, 4, 1, 0) :: (72, 23, 0, 30, 0) :: k243_75
def k243_60 : List mj_O := (60, 5, 0, 0, 0) :: (61, 3, 1, 0, 0) :: (62, 3, 3, 0, 0) :: (63, 3, 4, 0, 0) :: (65, 47, 205, 0, 304) :: k243_68
def k243_30 : List mj_O := (30, 3, 4, 0, 0) :: (32, 5, 0, 0, 0) :: (33, 31, 12, 1, 273) :: (36, 22, 3, 75, 0) :: (39, 5, 0, 0, 0) :: (40, 33, 12, 43, 78) :: (43, 0, 10, 0, 0) :: (45, 3, 3, 0, 0) :: (46, 11, 2, 0, 0) :: (47, 3, 4, 0, 0) :: (49, 11, 0, 0, 0) :: (50, 3, 3, 0, 0) :: (51, 3, 4, 0, 0) :: (53, 22, 1, 60, 0) :: (56, 0, 0, 0, 0) :: (57, 23, 0, 68, 0) :: k243_60
def k243_19 : List mj_O := (19, 3, 3, 0, 0) :: (20, 5, 0, 0, 0) :: (21, 31, 12, 1, 273) :: (24, 22, 3, 81, 0) :: (27, 0, 0, 0, 0) :: (28, 6, 4, 0, 0) :: k243_30
def k243_0 : List mj_O := (0, 0, 1, 0, 0) :: (1, 5, 0, 0, 0) :: (2, 31, 12, 1, 273) :: (5, 11, 5, 0, 0) :: (6, 0, 1, 0, 0) :: (7, 11, 1, 0, 0) :: (8, 5, 0, 0, 0) :: (9, 3, 1, 0, 0) :: (10, 47, 215, 0, 345) :: (13, 1, 1, 0, 0) :: (14, 11, 10, 0, 0) :: (15, 11, 8, 0, 0) :: (16, 6, 2, 0, 0) :: (17, 0, 0, 0, 0) :: (18, 6, 3, 0, 0) :: k243_19
def k243 : Nat → List mj_O := fun t => match t with
  | 0 => k243_0
  | 19 => k243_19
  | 30 => k243_30
  | 60 => k243_60
  | 68 => k243_68
  | 75 => k243_75
  | 81 => k243_81
  | 83 => k243_83
  | 104 => k243_104
  | _ => []
-- 244: SockFairModel.least (I)I
def k244_16 : List mj_O := (16, 3, 1, 0, 0) :: (17, 26, 0, 0, 0) :: []
def k244_2 : List mj_O := (2, 3, 0, 0, 0) :: (3, 3, 1, 0, 0) :: (4, 11, 6, 0, 0) :: (5, 0, 1, 0, 0) :: (6, 11, 8, 0, 0) :: (7, 21, 1, 16, 0) :: (10, 9, 1, 1, 0) :: (13, 23, 0, 2, 0) :: k244_16
def k244_0 : List mj_O := (0, 0, 0, 0, 0) :: (1, 6, 1, 0, 0) :: k244_2
def k244 : Nat → List mj_O := fun t => match t with
  | 0 => k244_0
  | 2 => k244_2
  | 16 => k244_16
  | _ => []
-- 245: SockFairModel.laysSet (I)V
def k245_203 : List mj_O := (203, 25, 0, 0, 0) :: []
def k245_197 : List mj_O := (197, 9, 4, 1, 0) :: (200, 23, 0, 42, 0) :: k245_203
def k245_196 : List mj_O := (196, 43, 0, 0, 0) :: k245_197
def k245_190 : List mj_O := (190, 5, 0, 0, 0) :: (191, 33, 12, 45, 84) :: (194, 3, 1, 0, 0) :: (195, 39, 0, 0, 0) :: k245_196
def k245_129 : List mj_O := (129, 42, 0, 0, 0) :: (130, 5, 0, 0, 0) :: (131, 33, 12, 45, 84) :: (134, 3, 1, 0, 0) :: (135, 5, 0, 0, 0) :: (136, 33, 12, 45, 84) :: (139, 3, 5, 0, 0) :: (141, 39, 0, 0, 0) :: (142, 5, 0, 0, 0) :: (143, 33, 12, 43, 78) :: (146, 0, 10, 0, 0) :: (148, 3, 2, 0, 0) :: (149, 11, 2, 0, 0) :: (150, 3, 4, 0, 0) :: (152, 11, 0, 0, 0) :: (153, 38, 0, 0, 0) :: (154, 15, 0, 0, 0) :: (155, 13, 0, 0, 0) :: (156, 5, 0, 0, 0) :: (157, 33, 12, 45, 84) :: (160, 3, 1, 0, 0) :: (161, 39, 0, 0, 0) :: (162, 17, 0, 0, 0) :: (163, 21, 5, 190, 0) :: (166, 5, 0, 0, 0) :: (167, 33, 12, 45, 84) :: (170, 3, 5, 0, 0) :: (172, 39, 0, 0, 0) :: (173, 5, 0, 0, 0) :: (174, 33, 12, 43, 78) :: (177, 0, 10, 0, 0) :: (179, 3, 2, 0, 0) :: (180, 11, 2, 0, 0) :: (181, 3, 4, 0, 0) :: (183, 11, 0, 0, 0) :: (184, 38, 0, 0, 0) :: (185, 15, 0, 0, 0) :: (186, 13, 0, 0, 0) :: (187, 23, 0, 196, 0) :: k245_190
def k245_123 : List mj_O := (123, 5, 0, 0, 0) :: (124, 33, 12, 44, 81) :: (127, 3, 1, 0, 0) :: (128, 38, 0, 0, 0) :: k245_129
def k245_78 : List mj_O := (78, 3, 3, 0, 0) :: (79, 0, 1, 0, 0) :: (80, 3, 4, 0, 0) :: (82, 11, 5, 0, 0) :: (83, 1, 1, 0, 0) :: (84, 11, 10, 0, 0) :: (85, 11, 8, 0, 0) :: (86, 6, 5, 0, 0) :: (88, 5, 0, 0, 0) :: (89, 33, 12, 44, 81) :: (92, 3, 1, 0, 0) :: (93, 5, 0, 0, 0) :: (94, 33, 12, 44, 81) :: (97, 3, 5, 0, 0) :: (99, 38, 0, 0, 0) :: (100, 0, 1, 0, 0) :: (101, 11, 0, 0, 0) :: (102, 5, 0, 0, 0) :: (103, 33, 12, 44, 81) :: (106, 3, 1, 0, 0) :: (107, 38, 0, 0, 0) :: (108, 22, 5, 123, 0) :: (111, 5, 0, 0, 0) :: (112, 33, 12, 44, 81) :: (115, 3, 5, 0, 0) :: (117, 38, 0, 0, 0) :: (118, 0, 1, 0, 0) :: (119, 11, 0, 0, 0) :: (120, 23, 0, 129, 0) :: k245_123
def k245_42 : List mj_O := (42, 3, 4, 0, 0) :: (44, 5, 0, 0, 0) :: (45, 31, 12, 1, 273) :: (48, 22, 3, 203, 0) :: (51, 3, 3, 0, 0) :: (52, 3, 4, 0, 0) :: (54, 11, 6, 0, 0) :: (55, 0, 1, 0, 0) :: (56, 11, 8, 0, 0) :: (57, 21, 0, 197, 0) :: (60, 5, 0, 0, 0) :: (61, 33, 12, 43, 78) :: (64, 0, 10, 0, 0) :: (66, 3, 2, 0, 0) :: (67, 11, 2, 0, 0) :: (68, 3, 4, 0, 0) :: (70, 11, 0, 0, 0) :: (71, 38, 0, 0, 0) :: (72, 21, 4, 78, 0) :: (75, 23, 0, 197, 0) :: k245_78
def k245_0 : List mj_O := (0, 3, 1, 0, 0) :: (1, 48, 244, 0, 382) :: (4, 6, 2, 0, 0) :: (5, 3, 1, 0, 0) :: (6, 0, 1, 0, 0) :: (7, 3, 2, 0, 0) :: (8, 11, 5, 0, 0) :: (9, 1, 1, 0, 0) :: (10, 11, 10, 0, 0) :: (11, 11, 8, 0, 0) :: (12, 6, 3, 0, 0) :: (13, 5, 0, 0, 0) :: (14, 33, 12, 44, 81) :: (17, 3, 1, 0, 0) :: (18, 5, 0, 0, 0) :: (19, 33, 12, 44, 81) :: (22, 3, 3, 0, 0) :: (23, 38, 0, 0, 0) :: (24, 42, 0, 0, 0) :: (25, 5, 0, 0, 0) :: (26, 33, 12, 45, 84) :: (29, 3, 1, 0, 0) :: (30, 5, 0, 0, 0) :: (31, 33, 12, 45, 84) :: (34, 3, 3, 0, 0) :: (35, 39, 0, 0, 0) :: (36, 43, 0, 0, 0) :: (37, 3, 2, 0, 0) :: (38, 0, 1, 0, 0) :: (39, 11, 0, 0, 0) :: (40, 6, 4, 0, 0) :: k245_42
def k245 : Nat → List mj_O := fun t => match t with
  | 0 => k245_0
  | 42 => k245_42
  | 78 => k245_78
  | 123 => k245_123
  | 129 => k245_129
  | 190 => k245_190
  | 196 => k245_196
  | 197 => k245_197
  | 203 => k245_203
  | _ => []
-- 246: SockFairModel.withWhom (I)I
def k246_85 : List mj_O := (85, 1, 1, 0, 0) :: (86, 26, 0, 0, 0) :: []
def k246_79 : List mj_O := (79, 9, 4, 1, 0) :: (82, 23, 0, 18, 0) :: k246_85
def k246_18 : List mj_O := (18, 3, 4, 0, 0) :: (20, 5, 0, 0, 0) :: (21, 31, 12, 1, 273) :: (24, 22, 3, 85, 0) :: (27, 3, 3, 0, 0) :: (28, 3, 4, 0, 0) :: (30, 11, 6, 0, 0) :: (31, 0, 1, 0, 0) :: (32, 11, 8, 0, 0) :: (33, 0, 1, 0, 0) :: (34, 22, 1, 79, 0) :: (37, 5, 0, 0, 0) :: (38, 33, 12, 43, 78) :: (41, 0, 10, 0, 0) :: (43, 3, 2, 0, 0) :: (44, 11, 2, 0, 0) :: (45, 3, 4, 0, 0) :: (47, 11, 0, 0, 0) :: (48, 38, 0, 0, 0) :: (49, 21, 5, 79, 0) :: (52, 5, 0, 0, 0) :: (53, 33, 12, 44, 81) :: (56, 3, 3, 0, 0) :: (57, 0, 1, 0, 0) :: (58, 3, 4, 0, 0) :: (60, 11, 5, 0, 0) :: (61, 1, 1, 0, 0) :: (62, 11, 10, 0, 0) :: (63, 11, 8, 0, 0) :: (64, 38, 0, 0, 0) :: (65, 0, 1, 0, 0) :: (66, 11, 0, 0, 0) :: (67, 5, 0, 0, 0) :: (68, 33, 12, 44, 81) :: (71, 3, 1, 0, 0) :: (72, 38, 0, 0, 0) :: (73, 22, 1, 79, 0) :: (76, 3, 4, 0, 0) :: (78, 26, 0, 0, 0) :: k246_79
def k246_0 : List mj_O := (0, 3, 1, 0, 0) :: (1, 48, 244, 0, 382) :: (4, 6, 2, 0, 0) :: (5, 3, 1, 0, 0) :: (6, 0, 1, 0, 0) :: (7, 3, 2, 0, 0) :: (8, 11, 5, 0, 0) :: (9, 1, 1, 0, 0) :: (10, 11, 10, 0, 0) :: (11, 11, 8, 0, 0) :: (12, 6, 3, 0, 0) :: (13, 3, 2, 0, 0) :: (14, 0, 1, 0, 0) :: (15, 11, 0, 0, 0) :: (16, 6, 4, 0, 0) :: k246_18
def k246 : Nat → List mj_O := fun t => match t with
  | 0 => k246_0
  | 18 => k246_18
  | 79 => k246_79
  | 85 => k246_85
  | _ => []
-- 247: SockFairModel.most (I)I
def k247_109 : List mj_O := (109, 1, 1, 0, 0) :: (110, 26, 0, 0, 0) :: []
def k247_106 : List mj_O := (106, 23, 0, 51, 0) :: k247_109
def k247_83 : List mj_O := (83, 3, 2, 0, 0) :: (84, 0, 1, 0, 0) :: (85, 3, 3, 0, 0) :: (86, 11, 5, 0, 0) :: (87, 1, 1, 0, 0) :: (88, 11, 10, 0, 0) :: (89, 11, 8, 0, 0) :: (90, 6, 2, 0, 0) :: (91, 3, 4, 0, 0) :: (93, 1, 1, 0, 0) :: (94, 22, 0, 106, 0) :: (97, 3, 2, 0, 0) :: (98, 0, 1, 0, 0) :: (99, 3, 4, 0, 0) :: (101, 11, 5, 0, 0) :: (102, 1, 1, 0, 0) :: (103, 11, 10, 0, 0) :: (104, 11, 8, 0, 0) :: (105, 6, 2, 0, 0) :: k247_106
def k247_75 : List mj_O := (75, 3, 4, 0, 0) :: (77, 3, 1, 0, 0) :: (78, 22, 1, 83, 0) :: (81, 3, 3, 0, 0) :: (82, 26, 0, 0, 0) :: k247_83
def k247_51 : List mj_O := (51, 3, 2, 0, 0) :: (52, 21, 0, 109, 0) :: (55, 3, 2, 0, 0) :: (56, 48, 244, 0, 382) :: (59, 6, 3, 0, 0) :: (60, 5, 0, 0, 0) :: (61, 3, 2, 0, 0) :: (62, 47, 246, 0, 388) :: (65, 6, 4, 0, 0) :: (67, 3, 3, 0, 0) :: (68, 3, 1, 0, 0) :: (69, 22, 1, 75, 0) :: (72, 3, 4, 0, 0) :: (74, 26, 0, 0, 0) :: k247_75
def k247_33 : List mj_O := (33, 5, 0, 0, 0) :: (34, 0, 0, 0, 0) :: (35, 47, 243, 0, 385) :: (38, 6, 2, 0, 0) :: (39, 3, 1, 0, 0) :: (40, 1, 1, 0, 0) :: (41, 22, 1, 51, 0) :: (44, 5, 0, 0, 0) :: (45, 33, 12, 44, 81) :: (48, 3, 2, 0, 0) :: (49, 38, 0, 0, 0) :: (50, 26, 0, 0, 0) :: k247_51
def k247_24 : List mj_O := (24, 0, 1, 0, 0) :: (25, 47, 163, 0, 266) :: (28, 21, 1, 33, 0) :: (31, 0, 0, 0, 0) :: (32, 26, 0, 0, 0) :: k247_33
def k247_23 : List mj_O := (23, 0, 0, 0, 0) :: k247_24
def k247_0 : List mj_O := (0, 5, 0, 0, 0) :: (1, 0, 0, 0, 0) :: (2, 34, 12, 0, 118) :: (5, 5, 0, 0, 0) :: (6, 3, 1, 0, 0) :: (7, 1, 1, 0, 0) :: (8, 22, 2, 23, 0) :: (11, 3, 1, 0, 0) :: (12, 5, 0, 0, 0) :: (13, 31, 12, 1, 273) :: (16, 22, 3, 23, 0) :: (19, 0, 1, 0, 0) :: (20, 23, 0, 24, 0) :: k247_23
def k247 : Nat → List mj_O := fun t => match t with
  | 0 => k247_0
  | 23 => k247_23
  | 24 => k247_24
  | 33 => k247_33
  | 51 => k247_51
  | 75 => k247_75
  | 83 => k247_83
  | 106 => k247_106
  | 109 => k247_109
  | _ => []
-- 248: SockFairModel.best ()J
def k248_0 : List mj_O := (0, 5, 0, 0, 0) :: (1, 0, 0, 0, 0) :: (2, 34, 12, 0, 118) :: (5, 5, 0, 0, 0) :: (6, 33, 12, 45, 84) :: (9, 5, 0, 0, 0) :: (10, 0, 0, 0, 0) :: (11, 47, 243, 0, 385) :: (14, 39, 0, 0, 0) :: (15, 28, 0, 0, 0) :: []
def k248 : Nat → List mj_O := fun t => match t with
  | 0 => k248_0
  | _ => []
-- 249: SockFairModel.colour (I)I
def k249_107 : List mj_O := (107, 26, 0, 0, 0) :: []
def k249_106 : List mj_O := (106, 3, 3, 0, 0) :: k249_107
def k249_98 : List mj_O := (98, 3, 1, 0, 0) :: (99, 21, 1, 106, 0) :: (102, 3, 2, 0, 0) :: (103, 23, 0, 107, 0) :: k249_106
def k249_92 : List mj_O := (92, 9, 4, 1, 0) :: (95, 23, 0, 23, 0) :: k249_98
def k249_86 : List mj_O := (86, 3, 4, 0, 0) :: (88, 6, 2, 0, 0) :: (89, 3, 5, 0, 0) :: (91, 6, 3, 0, 0) :: k249_92
def k249_64 : List mj_O := (64, 5, 0, 0, 0) :: (65, 33, 12, 44, 81) :: (68, 5, 0, 0, 0) :: (69, 0, 33, 0, 0) :: (71, 47, 243, 0, 385) :: (74, 38, 0, 0, 0) :: (75, 6, 5, 0, 0) :: (77, 3, 5, 0, 0) :: (79, 3, 3, 0, 0) :: (80, 22, 4, 86, 0) :: (83, 23, 0, 92, 0) :: k249_86
def k249_37 : List mj_O := (37, 3, 5, 0, 0) :: (39, 5, 0, 0, 0) :: (40, 31, 12, 1, 273) :: (43, 22, 3, 64, 0) :: (46, 5, 0, 0, 0) :: (47, 33, 12, 38, 66) :: (50, 0, 34, 0, 0) :: (52, 3, 5, 0, 0) :: (54, 11, 0, 0, 0) :: (55, 3, 4, 0, 0) :: (57, 42, 0, 0, 0) :: (58, 9, 5, 1, 0) :: (61, 23, 0, 37, 0) :: k249_64
def k249_23 : List mj_O := (23, 3, 4, 0, 0) :: (25, 0, 10, 0, 0) :: (27, 22, 3, 98, 0) :: (30, 5, 0, 0, 0) :: (31, 47, 200, 0, 323) :: (34, 0, 0, 0, 0) :: (35, 6, 5, 0, 0) :: k249_37
def k249_16 : List mj_O := (16, 0, 0, 0, 0) :: (17, 6, 2, 0, 0) :: (18, 1, 1, 0, 0) :: (19, 6, 3, 0, 0) :: (20, 0, 0, 0, 0) :: (21, 6, 4, 0, 0) :: k249_23
def k249_0 : List mj_O := (0, 5, 0, 0, 0) :: (1, 0, 0, 0, 0) :: (2, 34, 12, 0, 118) :: (5, 5, 0, 0, 0) :: (6, 3, 1, 0, 0) :: (7, 0, 1, 0, 0) :: (8, 47, 222, 0, 357) :: (11, 21, 1, 16, 0) :: (14, 0, 0, 0, 0) :: (15, 26, 0, 0, 0) :: k249_16
def k249 : Nat → List mj_O := fun t => match t with
  | 0 => k249_0
  | 16 => k249_16
  | 23 => k249_23
  | 37 => k249_37
  | 64 => k249_64
  | 86 => k249_86
  | 92 => k249_92
  | 98 => k249_98
  | 106 => k249_106
  | 107 => k249_107
  | _ => []
-- 250: SockFairModel.wouldLeave (II)Z
def k250_46 : List mj_O := (46, 27, 0, 0, 0) :: []
def k250_45 : List mj_O := (45, 0, 0, 0, 0) :: k250_46
def k250_41 : List mj_O := (41, 0, 1, 0, 0) :: (42, 23, 0, 46, 0) :: k250_45
def k250_0 : List mj_O := (0, 5, 0, 0, 0) :: (1, 33, 12, 47, 91) :: (4, 3, 1, 0, 0) :: (5, 38, 0, 0, 0) :: (6, 0, 10, 0, 0) :: (8, 22, 0, 41, 0) :: (11, 5, 0, 0, 0) :: (12, 33, 12, 46, 88) :: (15, 0, 10, 0, 0) :: (17, 3, 1, 0, 0) :: (18, 11, 2, 0, 0) :: (19, 3, 2, 0, 0) :: (20, 11, 0, 0, 0) :: (21, 38, 0, 0, 0) :: (22, 5, 0, 0, 0) :: (23, 33, 12, 46, 88) :: (26, 0, 10, 0, 0) :: (28, 3, 1, 0, 0) :: (29, 11, 2, 0, 0) :: (30, 5, 0, 0, 0) :: (31, 33, 12, 47, 91) :: (34, 3, 1, 0, 0) :: (35, 38, 0, 0, 0) :: (36, 11, 0, 0, 0) :: (37, 38, 0, 0, 0) :: (38, 22, 5, 45, 0) :: k250_41
def k250 : Nat → List mj_O := fun t => match t with
  | 0 => k250_0
  | 41 => k250_41
  | 45 => k250_45
  | 46 => k250_46
  | _ => []
-- 251: SockFairModel.isAtRest (I)Z
def k251_97 : List mj_O := (97, 0, 1, 0, 0) :: (98, 27, 0, 0, 0) :: []
def k251_91 : List mj_O := (91, 9, 2, 1, 0) :: (94, 23, 0, 2, 0) :: k251_97
def k251_85 : List mj_O := (85, 9, 3, 1, 0) :: (88, 23, 0, 14, 0) :: k251_91
def k251_65 : List mj_O := (65, 5, 0, 0, 0) :: (66, 3, 2, 0, 0) :: (67, 3, 3, 0, 0) :: (68, 47, 250, 0, 391) :: (71, 21, 0, 85, 0) :: (74, 5, 0, 0, 0) :: (75, 3, 3, 0, 0) :: (76, 3, 2, 0, 0) :: (77, 47, 250, 0, 391) :: (80, 21, 0, 85, 0) :: (83, 0, 0, 0, 0) :: (84, 27, 0, 0, 0) :: k251_85
def k251_14 : List mj_O := (14, 3, 3, 0, 0) :: (15, 5, 0, 0, 0) :: (16, 31, 12, 1, 273) :: (19, 22, 3, 91, 0) :: (22, 3, 1, 0, 0) :: (23, 3, 2, 0, 0) :: (24, 11, 6, 0, 0) :: (25, 0, 1, 0, 0) :: (26, 11, 8, 0, 0) :: (27, 21, 0, 85, 0) :: (30, 3, 1, 0, 0) :: (31, 3, 3, 0, 0) :: (32, 11, 6, 0, 0) :: (33, 0, 1, 0, 0) :: (34, 11, 8, 0, 0) :: (35, 21, 0, 85, 0) :: (38, 5, 0, 0, 0) :: (39, 33, 12, 43, 78) :: (42, 0, 10, 0, 0) :: (44, 3, 2, 0, 0) :: (45, 11, 2, 0, 0) :: (46, 3, 3, 0, 0) :: (47, 11, 0, 0, 0) :: (48, 38, 0, 0, 0) :: (49, 21, 5, 85, 0) :: (52, 5, 0, 0, 0) :: (53, 33, 12, 47, 91) :: (56, 3, 2, 0, 0) :: (57, 38, 0, 0, 0) :: (58, 3, 3, 0, 0) :: (59, 22, 1, 65, 0) :: (62, 23, 0, 85, 0) :: k251_65
def k251_2 : List mj_O := (2, 3, 2, 0, 0) :: (3, 5, 0, 0, 0) :: (4, 31, 12, 1, 273) :: (7, 22, 3, 97, 0) :: (10, 3, 2, 0, 0) :: (11, 0, 1, 0, 0) :: (12, 11, 0, 0, 0) :: (13, 6, 3, 0, 0) :: k251_14
def k251_0 : List mj_O := (0, 0, 0, 0, 0) :: (1, 6, 2, 0, 0) :: k251_2
def k251 : Nat → List mj_O := fun t => match t with
  | 0 => k251_0
  | 2 => k251_2
  | 14 => k251_14
  | 65 => k251_65
  | 85 => k251_85
  | 91 => k251_91
  | 97 => k251_97
  | _ => []
-- 252: SockFairModel.takesRest ()V
def k252_78 : List mj_O := (78, 25, 0, 0, 0) :: []
def k252_70 : List mj_O := (70, 11, 9, 0, 0) :: (71, 42, 0, 0, 0) :: (72, 9, 1, 1, 0) :: (75, 23, 0, 32, 0) :: k252_78
def k252_62 : List mj_O := (62, 0, 1, 0, 0) :: (63, 5, 0, 0, 0) :: (64, 33, 12, 47, 91) :: (67, 3, 1, 0, 0) :: (68, 38, 0, 0, 0) :: (69, 11, 5, 0, 0) :: k252_70
def k252_32 : List mj_O := (32, 3, 1, 0, 0) :: (33, 5, 0, 0, 0) :: (34, 31, 12, 1, 273) :: (37, 22, 3, 78, 0) :: (40, 5, 0, 0, 0) :: (41, 33, 12, 49, 97) :: (44, 3, 1, 0, 0) :: (45, 20, 0, 0, 0) :: (46, 38, 0, 0, 0) :: (47, 5, 0, 0, 0) :: (48, 33, 12, 47, 91) :: (51, 3, 1, 0, 0) :: (52, 38, 0, 0, 0) :: (53, 0, 10, 0, 0) :: (55, 22, 1, 62, 0) :: (58, 0, 0, 0, 0) :: (59, 23, 0, 70, 0) :: k252_62
def k252_30 : List mj_O := (30, 0, 0, 0, 0) :: (31, 6, 1, 0, 0) :: k252_32
def k252_0 : List mj_O := (0, 5, 0, 0, 0) :: (1, 18, 0, 0, 0) :: (2, 31, 12, 50, 394) :: (5, 0, 1, 0, 0) :: (6, 11, 0, 0, 0) :: (7, 34, 12, 50, 394) :: (10, 5, 0, 0, 0) :: (11, 31, 12, 50, 394) :: (14, 0, 1, 0, 0) :: (15, 22, 1, 30, 0) :: (18, 5, 0, 0, 0) :: (19, 5, 0, 0, 0) :: (20, 33, 12, 47, 91) :: (23, 5, 0, 0, 0) :: (24, 33, 12, 48, 94) :: (27, 47, 165, 0, 276) :: k252_30
def k252 : Nat → List mj_O := fun t => match t with
  | 0 => k252_0
  | 30 => k252_30
  | 32 => k252_32
  | 62 => k252_62
  | 70 => k252_70
  | 78 => k252_78
  | _ => []
-- 253: SockFairModel.nextWith (III)I
def k253_76 : List mj_O := (76, 26, 0, 0, 0) :: []
def k253_74 : List mj_O := (74, 0, 10, 0, 0) :: k253_76
def k253_60 : List mj_O := (60, 3, 4, 0, 0) :: (62, 5, 0, 0, 0) :: (63, 31, 12, 1, 273) :: (66, 22, 3, 74, 0) :: (69, 3, 4, 0, 0) :: (71, 23, 0, 76, 0) :: k253_74
def k253_54 : List mj_O := (54, 9, 4, 1, 0) :: (57, 23, 0, 3, 0) :: k253_60
def k253_3 : List mj_O := (3, 3, 4, 0, 0) :: (5, 5, 0, 0, 0) :: (6, 31, 12, 1, 273) :: (9, 22, 3, 60, 0) :: (12, 3, 4, 0, 0) :: (14, 3, 1, 0, 0) :: (15, 22, 5, 54, 0) :: (18, 3, 3, 0, 0) :: (19, 3, 4, 0, 0) :: (21, 11, 6, 0, 0) :: (22, 0, 1, 0, 0) :: (23, 11, 8, 0, 0) :: (24, 0, 1, 0, 0) :: (25, 22, 1, 54, 0) :: (28, 5, 0, 0, 0) :: (29, 33, 12, 47, 91) :: (32, 3, 4, 0, 0) :: (34, 38, 0, 0, 0) :: (35, 1, 1, 0, 0) :: (36, 22, 1, 54, 0) :: (39, 5, 0, 0, 0) :: (40, 33, 12, 43, 78) :: (43, 0, 10, 0, 0) :: (45, 3, 1, 0, 0) :: (46, 11, 2, 0, 0) :: (47, 3, 4, 0, 0) :: (49, 11, 0, 0, 0) :: (50, 38, 0, 0, 0) :: (51, 21, 4, 60, 0) :: k253_54
def k253_0 : List mj_O := (0, 3, 2, 0, 0) :: (1, 6, 4, 0, 0) :: k253_3
def k253 : Nat → List mj_O := fun t => match t with
  | 0 => k253_0
  | 3 => k253_3
  | 54 => k253_54
  | 60 => k253_60
  | 74 => k253_74
  | 76 => k253_76
  | _ => []
-- 254: SockFairModel.goesThrough (I)V
def k254_246 : List mj_O := (246, 25, 0, 0, 0) :: []
def k254_243 : List mj_O := (243, 23, 0, 67, 0) :: k254_246
def k254_238 : List mj_O := (238, 0, 1, 0, 0) :: (239, 6, 3, 0, 0) :: (240, 9, 2, 1, 0) :: k254_243
def k254_209 : List mj_O := (209, 3, 1, 0, 0) :: (210, 47, 253, 0, 403) :: (213, 6, 5, 0, 0) :: (215, 5, 0, 0, 0) :: (216, 33, 12, 47, 91) :: (219, 3, 2, 0, 0) :: (220, 3, 5, 0, 0) :: (222, 42, 0, 0, 0) :: (223, 3, 5, 0, 0) :: (225, 0, 10, 0, 0) :: (227, 22, 0, 238, 0) :: (230, 5, 0, 0, 0) :: (231, 33, 12, 47, 91) :: (234, 3, 5, 0, 0) :: (236, 3, 2, 0, 0) :: (237, 42, 0, 0, 0) :: k254_238
def k254_205 : List mj_O := (205, 3, 4, 0, 0) :: (207, 0, 1, 0, 0) :: (208, 11, 0, 0, 0) :: k254_209
def k254_195 : List mj_O := (195, 5, 0, 0, 0) :: (196, 3, 2, 0, 0) :: (197, 3, 3, 0, 0) :: (198, 21, 0, 205, 0) :: (201, 0, 0, 0, 0) :: (202, 23, 0, 209, 0) :: k254_205
def k254_171 : List mj_O := (171, 5, 0, 0, 0) :: (172, 33, 12, 47, 91) :: (175, 3, 2, 0, 0) :: (176, 1, 1, 0, 0) :: (177, 42, 0, 0, 0) :: (178, 3, 3, 0, 0) :: (179, 21, 1, 195, 0) :: (182, 3, 4, 0, 0) :: (184, 0, 10, 0, 0) :: (186, 22, 1, 195, 0) :: (189, 10, 2, 1, 0) :: (192, 23, 0, 243, 0) :: k254_195
def k254_142 : List mj_O := (142, 5, 0, 0, 0) :: (143, 33, 12, 47, 91) :: (146, 3, 2, 0, 0) :: (147, 38, 0, 0, 0) :: (148, 6, 4, 0, 0) :: (150, 3, 4, 0, 0) :: (152, 1, 1, 0, 0) :: (153, 22, 0, 171, 0) :: (156, 3, 4, 0, 0) :: (158, 0, 10, 0, 0) :: (160, 22, 0, 171, 0) :: (163, 5, 0, 0, 0) :: (164, 33, 12, 47, 91) :: (167, 3, 4, 0, 0) :: (169, 1, 1, 0, 0) :: (170, 42, 0, 0, 0) :: k254_171
def k254_137 : List mj_O := (137, 11, 0, 0, 0) :: (138, 6, 2, 0, 0) :: (139, 23, 0, 67, 0) :: k254_142
def k254_136 : List mj_O := (136, 1, 1, 0, 0) :: k254_137
def k254_127 : List mj_O := (127, 3, 2, 0, 0) :: (128, 3, 3, 0, 0) :: (129, 21, 0, 136, 0) :: (132, 0, 1, 0, 0) :: (133, 23, 0, 137, 0) :: k254_136
def k254_99 : List mj_O := (99, 3, 1, 0, 0) :: (100, 3, 2, 0, 0) :: (101, 11, 6, 0, 0) :: (102, 0, 1, 0, 0) :: (103, 11, 8, 0, 0) :: (104, 21, 0, 127, 0) :: (107, 5, 0, 0, 0) :: (108, 33, 12, 47, 91) :: (111, 3, 2, 0, 0) :: (112, 38, 0, 0, 0) :: (113, 1, 1, 0, 0) :: (114, 22, 0, 142, 0) :: (117, 5, 0, 0, 0) :: (118, 33, 12, 47, 91) :: (121, 3, 2, 0, 0) :: (122, 38, 0, 0, 0) :: (123, 3, 2, 0, 0) :: (124, 22, 3, 142, 0) :: k254_127
def k254_91 : List mj_O := (91, 0, 0, 0, 0) :: (92, 6, 3, 0, 0) :: (93, 10, 2, 1, 0) :: (96, 23, 0, 67, 0) :: k254_99
def k254_67 : List mj_O := (67, 3, 2, 0, 0) :: (68, 21, 2, 246, 0) :: (71, 3, 2, 0, 0) :: (72, 5, 0, 0, 0) :: (73, 31, 12, 1, 273) :: (76, 22, 1, 99, 0) :: (79, 5, 0, 0, 0) :: (80, 3, 1, 0, 0) :: (81, 47, 251, 0, 397) :: (84, 21, 0, 91, 0) :: (87, 5, 0, 0, 0) :: (88, 47, 252, 0, 400) :: k254_91
def k254_63 : List mj_O := (63, 0, 0, 0, 0) :: (64, 6, 2, 0, 0) :: (65, 0, 1, 0, 0) :: (66, 6, 3, 0, 0) :: k254_67
def k254_41 : List mj_O := (41, 42, 0, 0, 0) :: (42, 5, 0, 0, 0) :: (43, 33, 12, 48, 94) :: (46, 3, 2, 0, 0) :: (47, 0, 10, 0, 0) :: (49, 42, 0, 0, 0) :: (50, 5, 0, 0, 0) :: (51, 33, 12, 49, 97) :: (54, 3, 2, 0, 0) :: (55, 0, 0, 0, 0) :: (56, 42, 0, 0, 0) :: (57, 9, 2, 1, 0) :: (60, 23, 0, 7, 0) :: k254_63
def k254_39 : List mj_O := (39, 0, 10, 0, 0) :: k254_41
def k254_7 : List mj_O := (7, 3, 2, 0, 0) :: (8, 0, 10, 0, 0) :: (10, 22, 3, 63, 0) :: (13, 5, 0, 0, 0) :: (14, 33, 12, 47, 91) :: (17, 3, 2, 0, 0) :: (18, 3, 2, 0, 0) :: (19, 5, 0, 0, 0) :: (20, 31, 12, 1, 273) :: (23, 22, 3, 39, 0) :: (26, 3, 1, 0, 0) :: (27, 3, 2, 0, 0) :: (28, 11, 6, 0, 0) :: (29, 0, 1, 0, 0) :: (30, 11, 8, 0, 0) :: (31, 0, 1, 0, 0) :: (32, 22, 1, 39, 0) :: (35, 1, 1, 0, 0) :: (36, 23, 0, 41, 0) :: k254_39
def k254_0 : List mj_O := (0, 5, 0, 0, 0) :: (1, 0, 0, 0, 0) :: (2, 34, 12, 50, 394) :: (5, 0, 0, 0, 0) :: (6, 6, 2, 0, 0) :: k254_7
def k254 : Nat → List mj_O := fun t => match t with
  | 0 => k254_0
  | 7 => k254_7
  | 39 => k254_39
  | 41 => k254_41
  | 63 => k254_63
  | 67 => k254_67
  | 91 => k254_91
  | 99 => k254_99
  | 127 => k254_127
  | 136 => k254_136
  | 137 => k254_137
  | 142 => k254_142
  | 171 => k254_171
  | 195 => k254_195
  | 205 => k254_205
  | 209 => k254_209
  | 238 => k254_238
  | 243 => k254_243
  | 246 => k254_246
  | _ => []
-- 255: SockFairModel.laysRests ()V
def k255_64 : List mj_O := (64, 5, 0, 0, 0) :: (65, 3, 1, 0, 0) :: (66, 47, 254, 0, 406) :: (69, 25, 0, 0, 0) :: []
def k255_58 : List mj_O := (58, 9, 2, 1, 0) :: (61, 23, 0, 8, 0) :: k255_64
def k255_51 : List mj_O := (51, 42, 0, 0, 0) :: (52, 9, 3, 1, 0) :: (55, 23, 0, 18, 0) :: k255_58
def k255_45 : List mj_O := (45, 5, 0, 0, 0) :: (46, 3, 2, 0, 0) :: (47, 3, 3, 0, 0) :: (48, 47, 207, 0, 336) :: k255_51
def k255_18 : List mj_O := (18, 3, 3, 0, 0) :: (19, 5, 0, 0, 0) :: (20, 31, 12, 1, 273) :: (23, 22, 3, 58, 0) :: (26, 5, 0, 0, 0) :: (27, 33, 12, 46, 88) :: (30, 0, 10, 0, 0) :: (32, 3, 2, 0, 0) :: (33, 11, 2, 0, 0) :: (34, 3, 3, 0, 0) :: (35, 11, 0, 0, 0) :: (36, 3, 2, 0, 0) :: (37, 3, 3, 0, 0) :: (38, 22, 1, 45, 0) :: (41, 0, 0, 0, 0) :: (42, 23, 0, 51, 0) :: k255_45
def k255_8 : List mj_O := (8, 3, 2, 0, 0) :: (9, 5, 0, 0, 0) :: (10, 31, 12, 1, 273) :: (13, 22, 3, 64, 0) :: (16, 0, 0, 0, 0) :: (17, 6, 3, 0, 0) :: k255_18
def k255_0 : List mj_O := (0, 5, 0, 0, 0) :: (1, 0, 0, 0, 0) :: (2, 47, 243, 0, 385) :: (5, 6, 1, 0, 0) :: (6, 0, 0, 0, 0) :: (7, 6, 2, 0, 0) :: k255_8
def k255 : Nat → List mj_O := fun t => match t with
  | 0 => k255_0
  | 8 => k255_8
  | 18 => k255_18
  | 45 => k255_45
  | 51 => k255_51
  | 58 => k255_58
  | 64 => k255_64
  | _ => []
-- 256: SockFairModel.rests (I)I
def k256_70 : List mj_O := (70, 26, 0, 0, 0) :: []
def k256_64 : List mj_O := (64, 5, 0, 0, 0) :: (65, 33, 12, 48, 94) :: (68, 3, 1, 0, 0) :: (69, 38, 0, 0, 0) :: k256_70
def k256_49 : List mj_O := (49, 5, 0, 0, 0) :: (50, 33, 12, 48, 94) :: (53, 3, 1, 0, 0) :: (54, 38, 0, 0, 0) :: (55, 0, 10, 0, 0) :: (57, 22, 1, 64, 0) :: (60, 1, 1, 0, 0) :: (61, 23, 0, 70, 0) :: k256_64
def k256_33 : List mj_O := (33, 5, 0, 0, 0) :: (34, 47, 255, 0, 409) :: (37, 3, 1, 0, 0) :: (38, 1, 1, 0, 0) :: (39, 22, 1, 49, 0) :: (42, 5, 0, 0, 0) :: (43, 31, 12, 50, 394) :: (46, 23, 0, 70, 0) :: k256_49
def k256_24 : List mj_O := (24, 0, 1, 0, 0) :: (25, 47, 163, 0, 266) :: (28, 21, 1, 33, 0) :: (31, 0, 0, 0, 0) :: (32, 26, 0, 0, 0) :: k256_33
def k256_23 : List mj_O := (23, 0, 0, 0, 0) :: k256_24
def k256_0 : List mj_O := (0, 5, 0, 0, 0) :: (1, 0, 0, 0, 0) :: (2, 34, 12, 0, 118) :: (5, 5, 0, 0, 0) :: (6, 3, 1, 0, 0) :: (7, 1, 1, 0, 0) :: (8, 22, 2, 23, 0) :: (11, 3, 1, 0, 0) :: (12, 5, 0, 0, 0) :: (13, 31, 12, 1, 273) :: (16, 22, 3, 23, 0) :: (19, 0, 1, 0, 0) :: (20, 23, 0, 24, 0) :: k256_23
def k256 : Nat → List mj_O := fun t => match t with
  | 0 => k256_0
  | 23 => k256_23
  | 24 => k256_24
  | 33 => k256_33
  | 49 => k256_49
  | 64 => k256_64
  | 70 => k256_70
  | _ => []
-- 257: SockFairModel.mates (I)I
def k257_15 : List mj_O := (15, 5, 0, 0, 0) :: (16, 47, 255, 0, 409) :: (19, 5, 0, 0, 0) :: (20, 33, 12, 49, 97) :: (23, 3, 1, 0, 0) :: (24, 38, 0, 0, 0) :: (25, 26, 0, 0, 0) :: []
def k257_0 : List mj_O := (0, 5, 0, 0, 0) :: (1, 0, 0, 0, 0) :: (2, 34, 12, 0, 118) :: (5, 5, 0, 0, 0) :: (6, 3, 1, 0, 0) :: (7, 47, 221, 0, 354) :: (10, 21, 1, 15, 0) :: (13, 0, 0, 0, 0) :: (14, 26, 0, 0, 0) :: k257_15
def k257 : Nat → List mj_O := fun t => match t with
  | 0 => k257_0
  | 15 => k257_15
  | _ => []
-- 258: SockFairModel.costs (II)I
def k258_149 : List mj_O := (149, 3, 3, 0, 0) :: (150, 26, 0, 0, 0) :: []
def k258_143 : List mj_O := (143, 9, 4, 1, 0) :: (146, 23, 0, 10, 0) :: k258_149
def k258_137 : List mj_O := (137, 9, 5, 1, 0) :: (140, 23, 0, 20, 0) :: k258_143
def k258_122 : List mj_O := (122, 3, 6, 0, 0) :: (124, 6, 3, 0, 0) :: (125, 5, 0, 0, 0) :: (126, 0, 10, 0, 0) :: (128, 3, 4, 0, 0) :: (130, 11, 2, 0, 0) :: (131, 3, 5, 0, 0) :: (133, 11, 0, 0, 0) :: (134, 34, 12, 51, 412) :: k258_137
def k258_71 : List mj_O := (71, 5, 0, 0, 0) :: (72, 47, 200, 0, 323) :: (75, 5, 0, 0, 0) :: (76, 33, 12, 38, 66) :: (79, 0, 34, 0, 0) :: (81, 3, 1, 0, 0) :: (82, 11, 0, 0, 0) :: (83, 3, 4, 0, 0) :: (85, 42, 0, 0, 0) :: (86, 5, 0, 0, 0) :: (87, 33, 12, 38, 66) :: (90, 0, 45, 0, 0) :: (92, 3, 1, 0, 0) :: (93, 11, 0, 0, 0) :: (94, 20, 0, 0, 0) :: (95, 38, 0, 0, 0) :: (96, 3, 5, 0, 0) :: (98, 11, 1, 0, 0) :: (99, 42, 0, 0, 0) :: (100, 5, 0, 0, 0) :: (101, 0, 33, 0, 0) :: (103, 47, 211, 0, 317) :: (106, 5, 0, 0, 0) :: (107, 33, 12, 38, 66) :: (110, 0, 56, 0, 0) :: (112, 3, 1, 0, 0) :: (113, 11, 0, 0, 0) :: (114, 38, 0, 0, 0) :: (115, 3, 2, 0, 0) :: (116, 22, 0, 122, 0) :: (119, 23, 0, 137, 0) :: k258_122
def k258_52 : List mj_O := (52, 3, 5, 0, 0) :: (54, 11, 0, 0, 0) :: (55, 6, 6, 0, 0) :: (57, 3, 3, 0, 0) :: (58, 1, 1, 0, 0) :: (59, 22, 0, 71, 0) :: (62, 3, 6, 0, 0) :: (64, 3, 3, 0, 0) :: (65, 22, 2, 71, 0) :: (68, 23, 0, 137, 0) :: k258_71
def k258_51 : List mj_O := (51, 0, 3, 0, 0) :: k258_52
def k258_20 : List mj_O := (20, 3, 5, 0, 0) :: (22, 5, 0, 0, 0) :: (23, 33, 12, 38, 66) :: (26, 0, 12, 0, 0) :: (28, 3, 1, 0, 0) :: (29, 11, 0, 0, 0) :: (30, 38, 0, 0, 0) :: (31, 22, 4, 143, 0) :: (34, 3, 4, 0, 0) :: (36, 5, 0, 0, 0) :: (37, 33, 12, 38, 66) :: (40, 0, 1, 0, 0) :: (41, 3, 1, 0, 0) :: (42, 11, 0, 0, 0) :: (43, 38, 0, 0, 0) :: (44, 22, 1, 51, 0) :: (47, 0, 0, 0, 0) :: (48, 23, 0, 52, 0) :: k258_51
def k258_10 : List mj_O := (10, 3, 4, 0, 0) :: (12, 0, 10, 0, 0) :: (14, 22, 3, 149, 0) :: (17, 0, 0, 0, 0) :: (18, 6, 5, 0, 0) :: k258_20
def k258_0 : List mj_O := (0, 1, 1, 0, 0) :: (1, 6, 3, 0, 0) :: (2, 5, 0, 0, 0) :: (3, 1, 1, 0, 0) :: (4, 34, 12, 51, 412) :: (7, 0, 0, 0, 0) :: (8, 6, 4, 0, 0) :: k258_10
def k258 : Nat → List mj_O := fun t => match t with
  | 0 => k258_0
  | 10 => k258_10
  | 20 => k258_20
  | 51 => k258_51
  | 52 => k258_52
  | 71 => k258_71
  | 122 => k258_122
  | 137 => k258_137
  | 143 => k258_143
  | 149 => k258_149
  | _ => []
-- 259: SockFairModel.way (III)I
def k259_86 : List mj_O := (86, 26, 0, 0, 0) :: []
def k259_82 : List mj_O := (82, 5, 0, 0, 0) :: (83, 31, 12, 51, 412) :: k259_86
def k259_65 : List mj_O := (65, 5, 0, 0, 0) :: (66, 3, 1, 0, 0) :: (67, 3, 2, 0, 0) :: (68, 47, 258, 0, 415) :: (71, 6, 4, 0, 0) :: (73, 3, 3, 0, 0) :: (74, 21, 1, 82, 0) :: (77, 3, 4, 0, 0) :: (79, 23, 0, 86, 0) :: k259_82
def k259_63 : List mj_O := (63, 1, 1, 0, 0) :: (64, 26, 0, 0, 0) :: k259_65
def k259_32 : List mj_O := (32, 3, 1, 0, 0) :: (33, 3, 2, 0, 0) :: (34, 22, 0, 63, 0) :: (37, 5, 0, 0, 0) :: (38, 33, 12, 38, 66) :: (41, 0, 23, 0, 0) :: (43, 3, 1, 0, 0) :: (44, 11, 0, 0, 0) :: (45, 38, 0, 0, 0) :: (46, 1, 1, 0, 0) :: (47, 22, 1, 63, 0) :: (50, 5, 0, 0, 0) :: (51, 33, 12, 38, 66) :: (54, 0, 23, 0, 0) :: (56, 3, 2, 0, 0) :: (57, 11, 0, 0, 0) :: (58, 38, 0, 0, 0) :: (59, 1, 1, 0, 0) :: (60, 22, 0, 65, 0) :: k259_63
def k259_30 : List mj_O := (30, 0, 0, 0, 0) :: (31, 26, 0, 0, 0) :: k259_32
def k259_0 : List mj_O := (0, 5, 0, 0, 0) :: (1, 0, 0, 0, 0) :: (2, 34, 12, 0, 118) :: (5, 5, 0, 0, 0) :: (6, 3, 1, 0, 0) :: (7, 47, 221, 0, 354) :: (10, 21, 0, 30, 0) :: (13, 5, 0, 0, 0) :: (14, 3, 2, 0, 0) :: (15, 47, 221, 0, 354) :: (18, 21, 0, 30, 0) :: (21, 5, 0, 0, 0) :: (22, 3, 3, 0, 0) :: (23, 0, 1, 0, 0) :: (24, 47, 222, 0, 357) :: (27, 21, 1, 32, 0) :: k259_30
def k259 : Nat → List mj_O := fun t => match t with
  | 0 => k259_0
  | 30 => k259_30
  | 32 => k259_32
  | 63 => k259_63
  | 65 => k259_65
  | 82 => k259_82
  | 86 => k259_86
  | _ => []
-- 260: SockFairModel.isKnitFor (I)Z
def k260_49 : List mj_O := (49, 0, 1, 0, 0) :: (50, 27, 0, 0, 0) :: []
def k260_43 : List mj_O := (43, 9, 2, 1, 0) :: (46, 23, 0, 2, 0) :: k260_49
def k260_38 : List mj_O := (38, 22, 0, 43, 0) :: (41, 0, 0, 0, 0) :: (42, 27, 0, 0, 0) :: k260_43
def k260_37 : List mj_O := (37, 0, 0, 0, 0) :: k260_38
def k260_28 : List mj_O := (28, 3, 2, 0, 0) :: (29, 3, 1, 0, 0) :: (30, 22, 1, 37, 0) :: (33, 0, 1, 0, 0) :: (34, 23, 0, 38, 0) :: k260_37
def k260_27 : List mj_O := (27, 0, 0, 0, 0) :: k260_28
def k260_2 : List mj_O := (2, 3, 2, 0, 0) :: (3, 5, 0, 0, 0) :: (4, 31, 12, 1, 273) :: (7, 22, 3, 49, 0) :: (10, 5, 0, 0, 0) :: (11, 0, 0, 0, 0) :: (12, 3, 2, 0, 0) :: (13, 5, 0, 0, 0) :: (14, 31, 12, 1, 273) :: (17, 47, 205, 0, 304) :: (20, 21, 5, 27, 0) :: (23, 0, 1, 0, 0) :: (24, 23, 0, 28, 0) :: k260_27
def k260_0 : List mj_O := (0, 0, 0, 0, 0) :: (1, 6, 2, 0, 0) :: k260_2
def k260 : Nat → List mj_O := fun t => match t with
  | 0 => k260_0
  | 2 => k260_2
  | 27 => k260_27
  | 28 => k260_28
  | 37 => k260_37
  | 38 => k260_38
  | 43 => k260_43
  | 49 => k260_49
  | _ => []
-- 261: SockFairModel.knit (I)I
def k261_143 : List mj_O := (143, 1, 1, 0, 0) :: (144, 26, 0, 0, 0) :: []
def k261_137 : List mj_O := (137, 9, 3, 1, 0) :: (140, 23, 0, 32, 0) :: k261_143
def k261_131 : List mj_O := (131, 9, 4, 1, 0) :: (134, 23, 0, 41, 0) :: k261_137
def k261_41 : List mj_O := (41, 3, 4, 0, 0) :: (43, 0, 160, 0, 0) :: (46, 22, 3, 137, 0) :: (49, 5, 0, 0, 0) :: (50, 33, 12, 6, 23) :: (53, 3, 2, 0, 0) :: (54, 3, 3, 0, 0) :: (55, 42, 0, 0, 0) :: (56, 5, 0, 0, 0) :: (57, 33, 12, 38, 66) :: (60, 0, 1, 0, 0) :: (61, 3, 2, 0, 0) :: (62, 11, 0, 0, 0) :: (63, 3, 4, 0, 0) :: (65, 0, 16, 0, 0) :: (67, 11, 3, 0, 0) :: (68, 42, 0, 0, 0) :: (69, 5, 0, 0, 0) :: (70, 33, 12, 4, 16) :: (73, 3, 2, 0, 0) :: (74, 3, 4, 0, 0) :: (76, 0, 4, 0, 0) :: (77, 11, 3, 0, 0) :: (78, 0, 4, 0, 0) :: (79, 11, 4, 0, 0) :: (80, 42, 0, 0, 0) :: (81, 5, 0, 0, 0) :: (82, 33, 12, 5, 20) :: (85, 3, 2, 0, 0) :: (86, 3, 4, 0, 0) :: (88, 0, 4, 0, 0) :: (89, 11, 4, 0, 0) :: (90, 42, 0, 0, 0) :: (91, 5, 0, 0, 0) :: (92, 3, 1, 0, 0) :: (93, 47, 260, 0, 418) :: (96, 21, 0, 131, 0) :: (99, 0, 10000, 0, 0) :: (102, 3, 3, 0, 0) :: (103, 11, 2, 0, 0) :: (104, 0, 100, 0, 0) :: (106, 3, 4, 0, 0) :: (108, 0, 16, 0, 0) :: (110, 11, 3, 0, 0) :: (111, 11, 2, 0, 0) :: (112, 11, 0, 0, 0) :: (113, 0, 10, 0, 0) :: (115, 5, 0, 0, 0) :: (116, 33, 12, 4, 16) :: (119, 3, 2, 0, 0) :: (120, 38, 0, 0, 0) :: (121, 11, 2, 0, 0) :: (122, 11, 0, 0, 0) :: (123, 5, 0, 0, 0) :: (124, 33, 12, 5, 20) :: (127, 3, 2, 0, 0) :: (128, 38, 0, 0, 0) :: (129, 11, 0, 0, 0) :: (130, 26, 0, 0, 0) :: k261_131
def k261_32 : List mj_O := (32, 3, 3, 0, 0) :: (33, 0, 30, 0, 0) :: (35, 22, 4, 143, 0) :: (38, 0, 0, 0, 0) :: (39, 6, 4, 0, 0) :: k261_41
def k261_15 : List mj_O := (15, 5, 0, 0, 0) :: (16, 31, 12, 1, 273) :: (19, 6, 2, 0, 0) :: (20, 5, 0, 0, 0) :: (21, 33, 12, 38, 66) :: (24, 0, 12, 0, 0) :: (26, 3, 2, 0, 0) :: (27, 11, 0, 0, 0) :: (28, 0, 0, 0, 0) :: (29, 42, 0, 0, 0) :: (30, 0, 1, 0, 0) :: (31, 6, 3, 0, 0) :: k261_32
def k261_0 : List mj_O := (0, 5, 0, 0, 0) :: (1, 0, 0, 0, 0) :: (2, 34, 12, 0, 118) :: (5, 5, 0, 0, 0) :: (6, 3, 1, 0, 0) :: (7, 47, 221, 0, 354) :: (10, 21, 1, 15, 0) :: (13, 0, 0, 0, 0) :: (14, 26, 0, 0, 0) :: k261_15
def k261 : Nat → List mj_O := fun t => match t with
  | 0 => k261_0
  | 15 => k261_15
  | 32 => k261_32
  | 41 => k261_41
  | 131 => k261_131
  | 137 => k261_137
  | 143 => k261_143
  | _ => []
-- 262: SockFairModel.see (III)I
def k262_58 : List mj_O := (58, 5, 0, 0, 0) :: (59, 33, 12, 53, 100) :: (62, 0, 3, 0, 0) :: (63, 5, 0, 0, 0) :: (64, 31, 12, 52, 283) :: (67, 11, 2, 0, 0) :: (68, 3, 1, 0, 0) :: (69, 42, 0, 0, 0) :: (70, 5, 0, 0, 0) :: (71, 33, 12, 53, 100) :: (74, 0, 3, 0, 0) :: (75, 5, 0, 0, 0) :: (76, 31, 12, 52, 283) :: (79, 11, 2, 0, 0) :: (80, 0, 1, 0, 0) :: (81, 11, 0, 0, 0) :: (82, 3, 2, 0, 0) :: (83, 42, 0, 0, 0) :: (84, 5, 0, 0, 0) :: (85, 33, 12, 53, 100) :: (88, 0, 3, 0, 0) :: (89, 5, 0, 0, 0) :: (90, 31, 12, 52, 283) :: (93, 11, 2, 0, 0) :: (94, 0, 2, 0, 0) :: (95, 11, 0, 0, 0) :: (96, 3, 3, 0, 0) :: (97, 42, 0, 0, 0) :: (98, 5, 0, 0, 0) :: (99, 18, 0, 0, 0) :: (100, 31, 12, 52, 283) :: (103, 0, 1, 0, 0) :: (104, 11, 0, 0, 0) :: (105, 34, 12, 52, 283) :: (108, 5, 0, 0, 0) :: (109, 31, 12, 52, 283) :: (112, 26, 0, 0, 0) :: []
def k262_52 : List mj_O := (52, 5, 0, 0, 0) :: (53, 0, 2, 0, 0) :: (54, 47, 198, 0, 364) :: (57, 26, 0, 0, 0) :: k262_58
def k262_28 : List mj_O := (28, 5, 0, 0, 0) :: (29, 31, 12, 52, 283) :: (32, 0, 8, 0, 0) :: (34, 22, 0, 52, 0) :: (37, 3, 2, 0, 0) :: (38, 0, 1, 0, 0) :: (39, 0, 20, 0, 0) :: (41, 48, 164, 0, 342) :: (44, 21, 0, 52, 0) :: (47, 3, 1, 0, 0) :: (48, 3, 3, 0, 0) :: (49, 22, 1, 58, 0) :: k262_52
def k262_26 : List mj_O := (26, 0, 0, 0, 0) :: (27, 26, 0, 0, 0) :: k262_28
def k262_0 : List mj_O := (0, 5, 0, 0, 0) :: (1, 0, 0, 0, 0) :: (2, 34, 12, 0, 118) :: (5, 5, 0, 0, 0) :: (6, 3, 1, 0, 0) :: (7, 47, 221, 0, 354) :: (10, 21, 0, 26, 0) :: (13, 3, 3, 0, 0) :: (14, 1, 1, 0, 0) :: (15, 22, 0, 28, 0) :: (18, 5, 0, 0, 0) :: (19, 3, 3, 0, 0) :: (20, 47, 221, 0, 354) :: (23, 21, 1, 28, 0) :: k262_26
def k262 : Nat → List mj_O := fun t => match t with
  | 0 => k262_0
  | 26 => k262_26
  | 28 => k262_28
  | 52 => k262_52
  | 58 => k262_58
  | _ => []
-- 263: SockFairModel.forget ()V
def k263_0 : List mj_O := (0, 5, 0, 0, 0) :: (1, 0, 0, 0, 0) :: (2, 34, 12, 0, 118) :: (5, 5, 0, 0, 0) :: (6, 0, 0, 0, 0) :: (7, 34, 12, 52, 283) :: (10, 25, 0, 0, 0) :: []
def k263 : Nat → List mj_O := fun t => match t with
  | 0 => k263_0
  | _ => []
-- 264: SockFairModel.isSeen ()Z
def k264_146 : List mj_O := (146, 3, 1, 0, 0) :: (147, 27, 0, 0, 0) :: []
def k264_140 : List mj_O := (140, 9, 2, 1, 0) :: (143, 23, 0, 4, 0) :: k264_146
def k264_133 : List mj_O := (133, 6, 1, 0, 0) :: (134, 9, 5, 1, 0) :: (137, 23, 0, 69, 0) :: k264_140
def k264_132 : List mj_O := (132, 0, 0, 0, 0) :: k264_133
def k264_128 : List mj_O := (128, 0, 1, 0, 0) :: (129, 23, 0, 133, 0) :: k264_132
def k264_69 : List mj_O := (69, 3, 5, 0, 0) :: (71, 5, 0, 0, 0) :: (72, 31, 12, 52, 283) :: (75, 22, 3, 140, 0) :: (78, 3, 1, 0, 0) :: (79, 21, 0, 132, 0) :: (82, 5, 0, 0, 0) :: (83, 33, 12, 53, 100) :: (86, 0, 3, 0, 0) :: (87, 3, 5, 0, 0) :: (89, 11, 2, 0, 0) :: (90, 0, 1, 0, 0) :: (91, 11, 0, 0, 0) :: (92, 38, 0, 0, 0) :: (93, 3, 2, 0, 0) :: (94, 22, 1, 128, 0) :: (97, 5, 0, 0, 0) :: (98, 33, 12, 38, 66) :: (101, 0, 56, 0, 0) :: (103, 5, 0, 0, 0) :: (104, 33, 12, 53, 100) :: (107, 0, 3, 0, 0) :: (108, 3, 5, 0, 0) :: (110, 11, 2, 0, 0) :: (111, 38, 0, 0, 0) :: (112, 11, 0, 0, 0) :: (113, 38, 0, 0, 0) :: (114, 5, 0, 0, 0) :: (115, 33, 12, 53, 100) :: (118, 0, 3, 0, 0) :: (119, 3, 5, 0, 0) :: (121, 11, 2, 0, 0) :: (122, 0, 2, 0, 0) :: (123, 11, 0, 0, 0) :: (124, 38, 0, 0, 0) :: (125, 22, 1, 132, 0) :: k264_128
def k264_57 : List mj_O := (57, 5, 0, 0, 0) :: (58, 33, 12, 54, 103) :: (61, 3, 2, 0, 0) :: (62, 0, 1, 0, 0) :: (63, 11, 1, 0, 0) :: (64, 4, 3, 0, 0) :: (65, 43, 0, 0, 0) :: (66, 0, 0, 0, 0) :: (67, 6, 5, 0, 0) :: k264_69
def k264_22 : List mj_O := (22, 3, 5, 0, 0) :: (24, 5, 0, 0, 0) :: (25, 31, 12, 1, 273) :: (28, 22, 3, 57, 0) :: (31, 2, 11, 0, 421) :: (34, 4, 3, 0, 0) :: (35, 13, 2, 0, 0) :: (36, 5, 0, 0, 0) :: (37, 33, 12, 38, 66) :: (40, 0, 56, 0, 0) :: (42, 3, 5, 0, 0) :: (44, 11, 0, 0, 0) :: (45, 38, 0, 0, 0) :: (46, 0, 1, 0, 0) :: (47, 11, 0, 0, 0) :: (48, 15, 0, 0, 0) :: (49, 13, 0, 0, 0) :: (50, 7, 3, 0, 0) :: (51, 9, 5, 1, 0) :: (54, 23, 0, 22, 0) :: k264_57
def k264_4 : List mj_O := (4, 3, 2, 0, 0) :: (5, 0, 20, 0, 0) :: (7, 22, 4, 146, 0) :: (10, 5, 0, 0, 0) :: (11, 0, 33, 0, 0) :: (13, 47, 213, 0, 326) :: (16, 19, 0, 0, 0) :: (17, 2, 0, 0, 0) :: (18, 7, 3, 0, 0) :: (19, 0, 0, 0, 0) :: (20, 6, 5, 0, 0) :: k264_22
def k264_0 : List mj_O := (0, 0, 1, 0, 0) :: (1, 6, 1, 0, 0) :: (2, 0, 1, 0, 0) :: (3, 6, 2, 0, 0) :: k264_4
def k264 : Nat → List mj_O := fun t => match t with
  | 0 => k264_0
  | 4 => k264_4
  | 22 => k264_22
  | 57 => k264_57
  | 69 => k264_69
  | 128 => k264_128
  | 132 => k264_132
  | 133 => k264_133
  | 140 => k264_140
  | 146 => k264_146
  | _ => []
-- 265: SockFairModel.isGuess (I)Z
def k265_22 : List mj_O := (22, 5, 0, 0, 0) :: (23, 47, 200, 0, 323) :: (26, 5, 0, 0, 0) :: (27, 33, 12, 38, 66) :: (30, 0, 34, 0, 0) :: (32, 3, 2, 0, 0) :: (33, 11, 0, 0, 0) :: (34, 3, 1, 0, 0) :: (35, 0, 10, 0, 0) :: (37, 11, 4, 0, 0) :: (38, 42, 0, 0, 0) :: (39, 5, 0, 0, 0) :: (40, 47, 264, 0, 423) :: (43, 27, 0, 0, 0) :: []
def k265_0 : List mj_O := (0, 3, 1, 0, 0) :: (1, 0, 10, 0, 0) :: (3, 11, 3, 0, 0) :: (4, 6, 2, 0, 0) :: (5, 5, 0, 0, 0) :: (6, 33, 12, 38, 66) :: (9, 0, 1, 0, 0) :: (10, 3, 2, 0, 0) :: (11, 11, 0, 0, 0) :: (12, 38, 0, 0, 0) :: (13, 3, 1, 0, 0) :: (14, 0, 10, 0, 0) :: (16, 11, 4, 0, 0) :: (17, 22, 1, 22, 0) :: (20, 0, 0, 0, 0) :: (21, 27, 0, 0, 0) :: k265_22
def k265 : Nat → List mj_O := fun t => match t with
  | 0 => k265_0
  | 22 => k265_22
  | _ => []
-- 266: SockFairModel.dyed (I)I
def k266_95 : List mj_O := (95, 26, 0, 0, 0) :: []
def k266_94 : List mj_O := (94, 3, 3, 0, 0) :: k266_95
def k266_86 : List mj_O := (86, 3, 1, 0, 0) :: (87, 21, 1, 94, 0) :: (90, 3, 2, 0, 0) :: (91, 23, 0, 95, 0) :: k266_94
def k266_80 : List mj_O := (80, 9, 4, 1, 0) :: (83, 23, 0, 45, 0) :: k266_86
def k266_69 : List mj_O := (69, 9, 2, 1, 0) :: (72, 3, 3, 0, 0) :: (73, 1, 1, 0, 0) :: (74, 22, 1, 80, 0) :: (77, 3, 4, 0, 0) :: (79, 6, 3, 0, 0) :: k266_80
def k266_45 : List mj_O := (45, 3, 4, 0, 0) :: (47, 0, 10, 0, 0) :: (49, 5, 0, 0, 0) :: (50, 31, 12, 1, 273) :: (53, 11, 2, 0, 0) :: (54, 22, 3, 86, 0) :: (57, 5, 0, 0, 0) :: (58, 3, 4, 0, 0) :: (60, 47, 265, 0, 426) :: (63, 21, 1, 69, 0) :: (66, 23, 0, 80, 0) :: k266_69
def k266_38 : List mj_O := (38, 0, 0, 0, 0) :: (39, 6, 2, 0, 0) :: (40, 1, 1, 0, 0) :: (41, 6, 3, 0, 0) :: (42, 0, 0, 0, 0) :: (43, 6, 4, 0, 0) :: k266_45
def k266_37 : List mj_O := (37, 26, 0, 0, 0) :: k266_38
def k266_36 : List mj_O := (36, 0, 0, 0, 0) :: k266_37
def k266_16 : List mj_O := (16, 3, 1, 0, 0) :: (17, 0, 2, 0, 0) :: (18, 22, 1, 38, 0) :: (21, 5, 0, 0, 0) :: (22, 47, 200, 0, 323) :: (25, 5, 0, 0, 0) :: (26, 47, 264, 0, 423) :: (29, 21, 0, 36, 0) :: (32, 0, 1, 0, 0) :: (33, 23, 0, 37, 0) :: k266_36
def k266_0 : List mj_O := (0, 5, 0, 0, 0) :: (1, 0, 0, 0, 0) :: (2, 34, 12, 0, 118) :: (5, 5, 0, 0, 0) :: (6, 3, 1, 0, 0) :: (7, 0, 2, 0, 0) :: (8, 47, 222, 0, 357) :: (11, 21, 1, 16, 0) :: (14, 0, 0, 0, 0) :: (15, 26, 0, 0, 0) :: k266_16
def k266 : Nat → List mj_O := fun t => match t with
  | 0 => k266_0
  | 16 => k266_16
  | 36 => k266_36
  | 37 => k266_37
  | 38 => k266_38
  | 45 => k266_45
  | 69 => k266_69
  | 80 => k266_80
  | 86 => k266_86
  | 94 => k266_94
  | 95 => k266_95
  | _ => []
-- 267: SockFairModel.next (I)I
def k267_230 : List mj_O := (230, 26, 0, 0, 0) :: []
def k267_228 : List mj_O := (228, 3, 4, 0, 0) :: k267_230
def k267_220 : List mj_O := (220, 3, 1, 0, 0) :: (221, 21, 1, 228, 0) :: (224, 3, 3, 0, 0) :: (225, 23, 0, 230, 0) :: k267_228
def k267_214 : List mj_O := (214, 9, 5, 1, 0) :: (217, 23, 0, 94, 0) :: k267_220
def k267_205 : List mj_O := (205, 3, 5, 0, 0) :: (207, 0, 1, 0, 0) :: (208, 11, 0, 0, 0) :: (209, 6, 3, 0, 0) :: (210, 3, 6, 0, 0) :: (212, 6, 4, 0, 0) :: k267_214
def k267_195 : List mj_O := (195, 3, 6, 0, 0) :: (197, 3, 4, 0, 0) :: (199, 22, 4, 205, 0) :: (202, 23, 0, 214, 0) :: k267_205
def k267_186 : List mj_O := (186, 11, 0, 0, 0) :: (187, 6, 6, 0, 0) :: (189, 9, 7, 1, 0) :: (192, 23, 0, 107, 0) :: k267_195
def k267_185 : List mj_O := (185, 0, 0, 0, 0) :: k267_186
def k267_174 : List mj_O := (174, 3, 6, 0, 0) :: (176, 3, 8, 0, 0) :: (178, 21, 0, 185, 0) :: (181, 0, 1, 0, 0) :: (182, 23, 0, 186, 0) :: k267_185
def k267_166 : List mj_O := (166, 6, 8, 0, 0) :: (168, 9, 9, 1, 0) :: (171, 23, 0, 119, 0) :: k267_174
def k267_165 : List mj_O := (165, 0, 0, 0, 0) :: k267_166
def k267_119 : List mj_O := (119, 3, 9, 0, 0) :: (121, 3, 7, 0, 0) :: (123, 22, 3, 174, 0) :: (126, 3, 8, 0, 0) :: (128, 21, 0, 174, 0) :: (131, 5, 0, 0, 0) :: (132, 33, 12, 55, 106) :: (135, 0, 20, 0, 0) :: (137, 3, 7, 0, 0) :: (139, 11, 2, 0, 0) :: (140, 3, 5, 0, 0) :: (142, 11, 0, 0, 0) :: (143, 39, 0, 0, 0) :: (144, 5, 0, 0, 0) :: (145, 33, 12, 55, 106) :: (148, 0, 20, 0, 0) :: (150, 3, 9, 0, 0) :: (152, 11, 2, 0, 0) :: (153, 3, 5, 0, 0) :: (155, 11, 0, 0, 0) :: (156, 39, 0, 0, 0) :: (157, 17, 0, 0, 0) :: (158, 21, 0, 165, 0) :: (161, 0, 1, 0, 0) :: (162, 23, 0, 166, 0) :: k267_165
def k267_107 : List mj_O := (107, 3, 7, 0, 0) :: (109, 3, 2, 0, 0) :: (110, 22, 3, 195, 0) :: (113, 0, 1, 0, 0) :: (114, 6, 8, 0, 0) :: (116, 0, 0, 0, 0) :: (117, 6, 9, 0, 0) :: k267_119
def k267_94 : List mj_O := (94, 3, 5, 0, 0) :: (96, 0, 20, 0, 0) :: (98, 22, 3, 220, 0) :: (101, 0, 0, 0, 0) :: (102, 6, 6, 0, 0) :: (104, 0, 0, 0, 0) :: (105, 6, 7, 0, 0) :: k267_107
def k267_86 : List mj_O := (86, 1, 1, 0, 0) :: (87, 6, 3, 0, 0) :: (88, 0, 0, 0, 0) :: (89, 6, 4, 0, 0) :: (91, 0, 0, 0, 0) :: (92, 6, 5, 0, 0) :: k267_94
def k267_80 : List mj_O := (80, 9, 3, 1, 0) :: (83, 23, 0, 20, 0) :: k267_86
def k267_77 : List mj_O := (77, 9, 2, 1, 0) :: k267_80
def k267_45 : List mj_O := (45, 3, 4, 0, 0) :: (47, 0, 20, 0, 0) :: (49, 22, 3, 77, 0) :: (52, 5, 0, 0, 0) :: (53, 33, 12, 55, 106) :: (56, 0, 20, 0, 0) :: (58, 3, 2, 0, 0) :: (59, 11, 2, 0, 0) :: (60, 3, 4, 0, 0) :: (62, 11, 0, 0, 0) :: (63, 5, 0, 0, 0) :: (64, 33, 12, 54, 103) :: (67, 3, 4, 0, 0) :: (69, 39, 0, 0, 0) :: (70, 43, 0, 0, 0) :: (71, 9, 4, 1, 0) :: (74, 23, 0, 45, 0) :: k267_77
def k267_42 : List mj_O := (42, 0, 0, 0, 0) :: (43, 6, 4, 0, 0) :: k267_45
def k267_20 : List mj_O := (20, 3, 3, 0, 0) :: (21, 0, 10, 0, 0) :: (23, 5, 0, 0, 0) :: (24, 31, 12, 1, 273) :: (27, 11, 2, 0, 0) :: (28, 22, 3, 86, 0) :: (31, 5, 0, 0, 0) :: (32, 3, 3, 0, 0) :: (33, 47, 265, 0, 426) :: (36, 21, 1, 42, 0) :: (39, 23, 0, 80, 0) :: k267_42
def k267_16 : List mj_O := (16, 0, 0, 0, 0) :: (17, 6, 2, 0, 0) :: (18, 0, 0, 0, 0) :: (19, 6, 3, 0, 0) :: k267_20
def k267_0 : List mj_O := (0, 5, 0, 0, 0) :: (1, 0, 0, 0, 0) :: (2, 34, 12, 0, 118) :: (5, 5, 0, 0, 0) :: (6, 3, 1, 0, 0) :: (7, 0, 1, 0, 0) :: (8, 47, 222, 0, 357) :: (11, 21, 1, 16, 0) :: (14, 0, 0, 0, 0) :: (15, 26, 0, 0, 0) :: k267_16
def k267 : Nat → List mj_O := fun t => match t with
  | 0 => k267_0
  | 16 => k267_16
  | 20 => k267_20
  | 42 => k267_42
  | 45 => k267_45
  | 77 => k267_77
  | 80 => k267_80
  | 86 => k267_86
  | 94 => k267_94
  | 107 => k267_107
  | 119 => k267_119
  | 165 => k267_165
  | 166 => k267_166
  | 174 => k267_174
  | 185 => k267_185
  | 186 => k267_186
  | 195 => k267_195
  | 205 => k267_205
  | 214 => k267_214
  | 220 => k267_220
  | 228 => k267_228
  | 230 => k267_230
  | _ => []
-- 268: SockFairModel.divisor (II)I
def k268_21 : List mj_O := (21, 3, 2, 0, 0) :: (22, 26, 0, 0, 0) :: []
def k268_4 : List mj_O := (4, 3, 3, 0, 0) :: (5, 21, 0, 21, 0) :: (8, 3, 2, 0, 0) :: (9, 3, 3, 0, 0) :: (10, 11, 4, 0, 0) :: (11, 6, 4, 0, 0) :: (13, 3, 3, 0, 0) :: (14, 6, 2, 0, 0) :: (15, 3, 4, 0, 0) :: (17, 6, 3, 0, 0) :: (18, 23, 0, 4, 0) :: k268_21
def k268_0 : List mj_O := (0, 3, 0, 0, 0) :: (1, 6, 2, 0, 0) :: (2, 3, 1, 0, 0) :: (3, 6, 3, 0, 0) :: k268_4
def k268 : Nat → List mj_O := fun t => match t with
  | 0 => k268_0
  | 4 => k268_4
  | 21 => k268_21
  | _ => []
-- 269: SockFairModel.likely (II)I
def k269_31 : List mj_O := (31, 3, 1, 0, 0) :: (32, 3, 2, 0, 0) :: (33, 11, 2, 0, 0) :: (34, 26, 0, 0, 0) :: []
def k269_12 : List mj_O := (12, 3, 3, 0, 0) :: (13, 3, 0, 0, 0) :: (14, 22, 3, 31, 0) :: (17, 3, 2, 0, 0) :: (18, 0, 840, 0, 0) :: (21, 3, 3, 0, 0) :: (22, 11, 3, 0, 0) :: (23, 11, 0, 0, 0) :: (24, 6, 2, 0, 0) :: (25, 9, 3, 1, 0) :: (28, 23, 0, 12, 0) :: k269_31
def k269_8 : List mj_O := (8, 0, 0, 0, 0) :: (9, 6, 2, 0, 0) :: (10, 3, 1, 0, 0) :: (11, 6, 3, 0, 0) :: k269_12
def k269_0 : List mj_O := (0, 3, 1, 0, 0) :: (1, 21, 1, 8, 0) :: (4, 0, 840, 0, 0) :: (7, 26, 0, 0, 0) :: k269_8
def k269 : Nat → List mj_O := fun t => match t with
  | 0 => k269_0
  | 8 => k269_8
  | 12 => k269_12
  | 31 => k269_31
  | _ => []
-- 270: SockFairModel.basket (II)I
def k270_118 : List mj_O := (118, 26, 0, 0, 0) :: []
def k270_113 : List mj_O := (113, 3, 5, 0, 0) :: (115, 3, 6, 0, 0) :: (117, 11, 3, 0, 0) :: k270_118
def k270_100 : List mj_O := (100, 3, 2, 0, 0) :: (101, 0, 1, 0, 0) :: (102, 22, 1, 113, 0) :: (105, 3, 4, 0, 0) :: (107, 3, 6, 0, 0) :: (109, 11, 3, 0, 0) :: (110, 23, 0, 118, 0) :: k270_113
def k270_69 : List mj_O := (69, 3, 1, 0, 0) :: (70, 3, 3, 0, 0) :: (71, 48, 269, 0, 429) :: (74, 6, 4, 0, 0) :: (76, 0, 840, 0, 0) :: (79, 3, 1, 0, 0) :: (80, 11, 2, 0, 0) :: (81, 6, 5, 0, 0) :: (83, 3, 4, 0, 0) :: (85, 3, 5, 0, 0) :: (87, 48, 268, 0, 432) :: (90, 6, 6, 0, 0) :: (92, 3, 2, 0, 0) :: (93, 21, 1, 100, 0) :: (96, 3, 3, 0, 0) :: (97, 23, 0, 118, 0) :: k270_100
def k270_62 : List mj_O := (62, 6, 3, 0, 0) :: (63, 9, 4, 1, 0) :: (66, 23, 0, 36, 0) :: k270_69
def k270_61 : List mj_O := (61, 3, 3, 0, 0) :: k270_62
def k270_36 : List mj_O := (36, 3, 4, 0, 0) :: (38, 3, 1, 0, 0) :: (39, 22, 3, 69, 0) :: (42, 3, 1, 0, 0) :: (43, 3, 4, 0, 0) :: (45, 48, 269, 0, 429) :: (48, 3, 1, 0, 0) :: (49, 3, 3, 0, 0) :: (50, 48, 269, 0, 429) :: (53, 22, 5, 61, 0) :: (56, 3, 4, 0, 0) :: (58, 23, 0, 62, 0) :: k270_61
def k270_31 : List mj_O := (31, 0, 0, 0, 0) :: (32, 6, 3, 0, 0) :: (33, 0, 1, 0, 0) :: (34, 6, 4, 0, 0) :: k270_36
def k270_29 : List mj_O := (29, 0, 0, 0, 0) :: (30, 26, 0, 0, 0) :: k270_31
def k270_0 : List mj_O := (0, 5, 0, 0, 0) :: (1, 0, 0, 0, 0) :: (2, 34, 12, 0, 118) :: (5, 5, 0, 0, 0) :: (6, 3, 2, 0, 0) :: (7, 0, 2, 0, 0) :: (8, 47, 222, 0, 357) :: (11, 21, 0, 29, 0) :: (14, 5, 0, 0, 0) :: (15, 3, 1, 0, 0) :: (16, 0, 1, 0, 0) :: (17, 0, 9, 0, 0) :: (19, 48, 164, 0, 342) :: (22, 0, 2, 0, 0) :: (23, 47, 163, 0, 266) :: (26, 21, 1, 31, 0) :: k270_29
def k270 : Nat → List mj_O := fun t => match t with
  | 0 => k270_0
  | 29 => k270_29
  | 31 => k270_31
  | 36 => k270_36
  | 61 => k270_61
  | 62 => k270_62
  | 69 => k270_69
  | 100 => k270_100
  | 113 => k270_113
  | 118 => k270_118
  | _ => []
-- 271: SockFairModel.gains (IIII)I
def k271_78 : List mj_O := (78, 11, 1, 0, 0) :: (79, 3, 3, 0, 0) :: (80, 11, 1, 0, 0) :: (81, 26, 0, 0, 0) :: []
def k271_77 : List mj_O := (77, 0, 0, 0, 0) :: k271_78
def k271_57 : List mj_O := (57, 3, 4, 0, 0) :: (59, 0, 1, 0, 0) :: (60, 22, 1, 77, 0) :: (63, 5, 0, 0, 0) :: (64, 33, 12, 38, 66) :: (67, 0, 12, 0, 0) :: (69, 3, 2, 0, 0) :: (70, 11, 0, 0, 0) :: (71, 38, 0, 0, 0) :: (72, 0, 2, 0, 0) :: (73, 11, 3, 0, 0) :: (74, 23, 0, 78, 0) :: k271_77
def k271_56 : List mj_O := (56, 0, 0, 0, 0) :: k271_57
def k271_41 : List mj_O := (41, 47, 204, 0, 300) :: (44, 6, 5, 0, 0) :: (46, 3, 5, 0, 0) :: (48, 21, 5, 56, 0) :: (51, 3, 5, 0, 0) :: (53, 23, 0, 57, 0) :: k271_56
def k271_32 : List mj_O := (32, 5, 0, 0, 0) :: (33, 33, 12, 38, 66) :: (36, 0, 12, 0, 0) :: (38, 3, 2, 0, 0) :: (39, 11, 0, 0, 0) :: (40, 38, 0, 0, 0) :: k271_41
def k271_22 : List mj_O := (22, 3, 4, 0, 0) :: (24, 0, 1, 0, 0) :: (25, 22, 1, 32, 0) :: (28, 0, 0, 0, 0) :: (29, 23, 0, 41, 0) :: k271_32
def k271_13 : List mj_O := (13, 5, 0, 0, 0) :: (14, 33, 12, 38, 66) :: (17, 0, 12, 0, 0) :: (19, 3, 1, 0, 0) :: (20, 11, 0, 0, 0) :: (21, 38, 0, 0, 0) :: k271_22
def k271_0 : List mj_O := (0, 5, 0, 0, 0) :: (1, 0, 0, 0, 0) :: (2, 3, 1, 0, 0) :: (3, 3, 2, 0, 0) :: (4, 3, 3, 0, 0) :: (5, 0, 1, 0, 0) :: (6, 22, 1, 13, 0) :: (9, 0, 0, 0, 0) :: (10, 23, 0, 22, 0) :: k271_13
def k271 : Nat → List mj_O := fun t => match t with
  | 0 => k271_0
  | 13 => k271_13
  | 22 => k271_22
  | 32 => k271_32
  | 41 => k271_41
  | 56 => k271_56
  | 57 => k271_57
  | 77 => k271_77
  | 78 => k271_78
  | _ => []
-- 272: SockFairModel.game (III)I
def k272_166 : List mj_O := (166, 26, 0, 0, 0) :: []
def k272_164 : List mj_O := (164, 3, 5, 0, 0) :: k272_166
def k272_155 : List mj_O := (155, 3, 3, 0, 0) :: (156, 21, 1, 164, 0) :: (159, 3, 4, 0, 0) :: (161, 23, 0, 166, 0) :: k272_164
def k272_149 : List mj_O := (149, 9, 6, 1, 0) :: (152, 23, 0, 59, 0) :: k272_155
def k272_130 : List mj_O := (130, 9, 4, 1, 0) :: (133, 3, 5, 0, 0) :: (135, 1, 1, 0, 0) :: (136, 22, 1, 149, 0) :: (139, 0, 10, 0, 0) :: (141, 3, 7, 0, 0) :: (143, 11, 2, 0, 0) :: (144, 3, 8, 0, 0) :: (146, 11, 0, 0, 0) :: (147, 6, 5, 0, 0) :: k272_149
def k272_59 : List mj_O := (59, 3, 6, 0, 0) :: (61, 0, 4, 0, 0) :: (62, 22, 3, 155, 0) :: (65, 3, 6, 0, 0) :: (67, 0, 2, 0, 0) :: (68, 11, 3, 0, 0) :: (69, 6, 7, 0, 0) :: (71, 3, 6, 0, 0) :: (73, 0, 2, 0, 0) :: (74, 11, 4, 0, 0) :: (75, 6, 8, 0, 0) :: (77, 5, 0, 0, 0) :: (78, 3, 1, 0, 0) :: (79, 3, 2, 0, 0) :: (80, 0, 1, 0, 0) :: (81, 3, 7, 0, 0) :: (83, 11, 1, 0, 0) :: (84, 3, 8, 0, 0) :: (86, 47, 271, 0, 435) :: (89, 5, 0, 0, 0) :: (90, 3, 1, 0, 0) :: (91, 3, 2, 0, 0) :: (92, 3, 7, 0, 0) :: (94, 3, 8, 0, 0) :: (96, 47, 271, 0, 435) :: (99, 22, 4, 149, 0) :: (102, 5, 0, 0, 0) :: (103, 3, 2, 0, 0) :: (104, 3, 1, 0, 0) :: (105, 0, 1, 0, 0) :: (106, 3, 8, 0, 0) :: (108, 11, 1, 0, 0) :: (109, 3, 7, 0, 0) :: (111, 47, 271, 0, 435) :: (114, 5, 0, 0, 0) :: (115, 3, 2, 0, 0) :: (116, 3, 1, 0, 0) :: (117, 3, 8, 0, 0) :: (119, 3, 7, 0, 0) :: (121, 47, 271, 0, 435) :: (124, 22, 5, 130, 0) :: (127, 23, 0, 149, 0) :: k272_130
def k272_50 : List mj_O := (50, 0, 0, 0, 0) :: (51, 6, 4, 0, 0) :: (53, 1, 1, 0, 0) :: (54, 6, 5, 0, 0) :: (56, 0, 0, 0, 0) :: (57, 6, 6, 0, 0) :: k272_59
def k272_48 : List mj_O := (48, 0, 0, 0, 0) :: (49, 26, 0, 0, 0) :: k272_50
def k272_41 : List mj_O := (41, 0, 2, 0, 0) :: (42, 47, 163, 0, 266) :: (45, 21, 1, 50, 0) :: k272_48
def k272_40 : List mj_O := (40, 0, 0, 0, 0) :: k272_41
def k272_0 : List mj_O := (0, 5, 0, 0, 0) :: (1, 0, 0, 0, 0) :: (2, 34, 12, 0, 118) :: (5, 5, 0, 0, 0) :: (6, 3, 1, 0, 0) :: (7, 47, 221, 0, 354) :: (10, 21, 0, 48, 0) :: (13, 5, 0, 0, 0) :: (14, 3, 2, 0, 0) :: (15, 47, 221, 0, 354) :: (18, 21, 0, 48, 0) :: (21, 5, 0, 0, 0) :: (22, 3, 3, 0, 0) :: (23, 0, 1, 0, 0) :: (24, 47, 222, 0, 357) :: (27, 21, 0, 48, 0) :: (30, 5, 0, 0, 0) :: (31, 3, 1, 0, 0) :: (32, 3, 2, 0, 0) :: (33, 22, 0, 40, 0) :: (36, 0, 1, 0, 0) :: (37, 23, 0, 41, 0) :: k272_40
def k272 : Nat → List mj_O := fun t => match t with
  | 0 => k272_0
  | 40 => k272_40
  | 41 => k272_41
  | 48 => k272_48
  | 50 => k272_50
  | 59 => k272_59
  | 130 => k272_130
  | 149 => k272_149
  | 155 => k272_155
  | 164 => k272_164
  | 166 => k272_166
  | _ => []
-- 273: SockFairModel.ring ()I
def k273_117 : List mj_O := (117, 3, 1, 0, 0) :: (118, 26, 0, 0, 0) :: []
def k273_111 : List mj_O := (111, 9, 2, 1, 0) :: (114, 23, 0, 9, 0) :: k273_117
def k273_105 : List mj_O := (105, 9, 4, 1, 0) :: (108, 23, 0, 24, 0) :: k273_111
def k273_90 : List mj_O := (90, 3, 5, 0, 0) :: (92, 6, 3, 0, 0) :: (93, 3, 3, 0, 0) :: (94, 3, 2, 0, 0) :: (95, 11, 6, 0, 0) :: (96, 0, 1, 0, 0) :: (97, 11, 8, 0, 0) :: (98, 0, 1, 0, 0) :: (99, 22, 1, 105, 0) :: (102, 3, 4, 0, 0) :: (104, 6, 1, 0, 0) :: k273_105
def k273_81 : List mj_O := (81, 11, 9, 0, 0) :: (82, 6, 5, 0, 0) :: (84, 9, 6, 1, 0) :: (87, 23, 0, 50, 0) :: k273_90
def k273_80 : List mj_O := (80, 0, 0, 0, 0) :: k273_81
def k273_50 : List mj_O := (50, 3, 6, 0, 0) :: (52, 5, 0, 0, 0) :: (53, 31, 12, 1, 273) :: (56, 22, 3, 90, 0) :: (59, 3, 5, 0, 0) :: (61, 3, 3, 0, 0) :: (62, 3, 6, 0, 0) :: (64, 11, 6, 0, 0) :: (65, 0, 1, 0, 0) :: (66, 11, 8, 0, 0) :: (67, 0, 1, 0, 0) :: (68, 22, 1, 80, 0) :: (71, 5, 0, 0, 0) :: (72, 3, 6, 0, 0) :: (74, 47, 218, 0, 361) :: (77, 23, 0, 81, 0) :: k273_80
def k273_44 : List mj_O := (44, 0, 0, 0, 0) :: (45, 6, 5, 0, 0) :: (47, 0, 0, 0, 0) :: (48, 6, 6, 0, 0) :: k273_50
def k273_24 : List mj_O := (24, 3, 4, 0, 0) :: (26, 5, 0, 0, 0) :: (27, 31, 12, 1, 273) :: (30, 22, 4, 111, 0) :: (33, 3, 1, 0, 0) :: (34, 1, 1, 0, 0) :: (35, 22, 0, 44, 0) :: (38, 3, 4, 0, 0) :: (40, 3, 1, 0, 0) :: (41, 22, 3, 111, 0) :: k273_44
def k273_9 : List mj_O := (9, 3, 2, 0, 0) :: (10, 5, 0, 0, 0) :: (11, 31, 12, 1, 273) :: (14, 22, 3, 117, 0) :: (17, 0, 1, 0, 0) :: (18, 3, 2, 0, 0) :: (19, 11, 5, 0, 0) :: (20, 6, 3, 0, 0) :: (21, 0, 1, 0, 0) :: (22, 6, 4, 0, 0) :: k273_24
def k273_0 : List mj_O := (0, 5, 0, 0, 0) :: (1, 0, 0, 0, 0) :: (2, 34, 12, 0, 118) :: (5, 1, 1, 0, 0) :: (6, 6, 1, 0, 0) :: (7, 0, 0, 0, 0) :: (8, 6, 2, 0, 0) :: k273_9
def k273 : Nat → List mj_O := fun t => match t with
  | 0 => k273_0
  | 9 => k273_9
  | 24 => k273_24
  | 44 => k273_44
  | 50 => k273_50
  | 80 => k273_80
  | 81 => k273_81
  | 90 => k273_90
  | 105 => k273_105
  | 111 => k273_111
  | 117 => k273_117
  | _ => []
-- 274: SockFairModel.reached (II)I
def k274_68 : List mj_O := (68, 3, 3, 0, 0) :: (69, 26, 0, 0, 0) :: []
def k274_59 : List mj_O := (59, 3, 5, 0, 0) :: (61, 6, 3, 0, 0) :: (62, 9, 4, 1, 0) :: (65, 23, 0, 7, 0) :: k274_68
def k274_50 : List mj_O := (50, 11, 9, 0, 0) :: (51, 6, 5, 0, 0) :: (53, 9, 6, 1, 0) :: (56, 23, 0, 19, 0) :: k274_59
def k274_49 : List mj_O := (49, 0, 0, 0, 0) :: k274_50
def k274_19 : List mj_O := (19, 3, 6, 0, 0) :: (21, 5, 0, 0, 0) :: (22, 31, 12, 1, 273) :: (25, 22, 3, 59, 0) :: (28, 3, 5, 0, 0) :: (30, 3, 3, 0, 0) :: (31, 3, 6, 0, 0) :: (33, 11, 6, 0, 0) :: (34, 0, 1, 0, 0) :: (35, 11, 8, 0, 0) :: (36, 0, 1, 0, 0) :: (37, 22, 1, 49, 0) :: (40, 5, 0, 0, 0) :: (41, 3, 6, 0, 0) :: (43, 47, 217, 0, 333) :: (46, 23, 0, 50, 0) :: k274_49
def k274_7 : List mj_O := (7, 3, 4, 0, 0) :: (9, 3, 2, 0, 0) :: (10, 22, 3, 68, 0) :: (13, 3, 3, 0, 0) :: (14, 6, 5, 0, 0) :: (16, 0, 0, 0, 0) :: (17, 6, 6, 0, 0) :: k274_19
def k274_0 : List mj_O := (0, 0, 1, 0, 0) :: (1, 3, 1, 0, 0) :: (2, 11, 5, 0, 0) :: (3, 6, 3, 0, 0) :: (4, 0, 0, 0, 0) :: (5, 6, 4, 0, 0) :: k274_7
def k274 : Nat → List mj_O := fun t => match t with
  | 0 => k274_0
  | 7 => k274_7
  | 19 => k274_19
  | 49 => k274_49
  | 50 => k274_50
  | 59 => k274_59
  | 68 => k274_68
  | _ => []
-- 275: SockFairModel.far (II)I
def k275_55 : List mj_O := (55, 1, 1, 0, 0) :: (56, 26, 0, 0, 0) :: []
def k275_49 : List mj_O := (49, 9, 3, 1, 0) :: (52, 23, 0, 25, 0) :: k275_55
def k275_25 : List mj_O := (25, 3, 3, 0, 0) :: (26, 5, 0, 0, 0) :: (27, 31, 12, 1, 273) :: (30, 22, 3, 55, 0) :: (33, 5, 0, 0, 0) :: (34, 3, 1, 0, 0) :: (35, 3, 3, 0, 0) :: (36, 47, 274, 0, 439) :: (39, 3, 2, 0, 0) :: (40, 11, 6, 0, 0) :: (41, 0, 1, 0, 0) :: (42, 11, 8, 0, 0) :: (43, 0, 1, 0, 0) :: (44, 22, 1, 49, 0) :: (47, 3, 3, 0, 0) :: (48, 26, 0, 0, 0) :: k275_49
def k275_23 : List mj_O := (23, 0, 0, 0, 0) :: (24, 6, 3, 0, 0) :: k275_25
def k275_21 : List mj_O := (21, 0, 0, 0, 0) :: (22, 26, 0, 0, 0) :: k275_23
def k275_0 : List mj_O := (0, 5, 0, 0, 0) :: (1, 0, 0, 0, 0) :: (2, 34, 12, 0, 118) :: (5, 5, 0, 0, 0) :: (6, 3, 1, 0, 0) :: (7, 47, 221, 0, 354) :: (10, 21, 0, 21, 0) :: (13, 5, 0, 0, 0) :: (14, 3, 2, 0, 0) :: (15, 47, 221, 0, 354) :: (18, 21, 1, 23, 0) :: k275_21
def k275 : Nat → List mj_O := fun t => match t with
  | 0 => k275_0
  | 21 => k275_21
  | 23 => k275_23
  | 25 => k275_25
  | 49 => k275_49
  | 55 => k275_55
  | _ => []
-- 276: SockFairModel.circles ()I
def k276_52 : List mj_O := (52, 3, 1, 0, 0) :: (53, 26, 0, 0, 0) :: []
def k276_46 : List mj_O := (46, 9, 3, 1, 0) :: (49, 23, 0, 11, 0) :: k276_52
def k276_31 : List mj_O := (31, 9, 1, 1, 0) :: (34, 3, 2, 0, 0) :: (35, 5, 0, 0, 0) :: (36, 3, 3, 0, 0) :: (37, 5, 0, 0, 0) :: (38, 31, 12, 1, 273) :: (41, 47, 274, 0, 439) :: (44, 11, 9, 0, 0) :: (45, 6, 2, 0, 0) :: k276_46
def k276_11 : List mj_O := (11, 3, 3, 0, 0) :: (12, 5, 0, 0, 0) :: (13, 31, 12, 1, 273) :: (16, 22, 3, 52, 0) :: (19, 3, 2, 0, 0) :: (20, 3, 3, 0, 0) :: (21, 11, 6, 0, 0) :: (22, 0, 1, 0, 0) :: (23, 11, 8, 0, 0) :: (24, 0, 1, 0, 0) :: (25, 22, 1, 31, 0) :: (28, 23, 0, 46, 0) :: k276_31
def k276_0 : List mj_O := (0, 5, 0, 0, 0) :: (1, 0, 0, 0, 0) :: (2, 34, 12, 0, 118) :: (5, 0, 0, 0, 0) :: (6, 6, 1, 0, 0) :: (7, 0, 0, 0, 0) :: (8, 6, 2, 0, 0) :: (9, 0, 0, 0, 0) :: (10, 6, 3, 0, 0) :: k276_11
def k276 : Nat → List mj_O := fun t => match t with
  | 0 => k276_0
  | 11 => k276_11
  | 31 => k276_31
  | 46 => k276_46
  | 52 => k276_52
  | _ => []
-- 277: SockFairModel.draw (I)I
def k277_0 : List mj_O := (0, 5, 0, 0, 0) :: (1, 5, 0, 0, 0) :: (2, 31, 12, 56, 442) :: (5, 0, 1103515245, 0, 445) :: (8, 11, 2, 0, 0) :: (9, 0, 12345, 0, 0) :: (12, 11, 0, 0, 0) :: (13, 34, 12, 56, 442) :: (16, 5, 0, 0, 0) :: (17, 31, 12, 56, 442) :: (20, 0, 16, 0, 0) :: (22, 11, 6, 0, 0) :: (23, 0, 32767, 0, 0) :: (26, 11, 8, 0, 0) :: (27, 3, 1, 0, 0) :: (28, 11, 4, 0, 0) :: (29, 26, 0, 0, 0) :: []
def k277 : Nat → List mj_O := fun t => match t with
  | 0 => k277_0
  | _ => []
-- 278: SockFairModel.happens ()V
def k278_113 : List mj_O := (113, 25, 0, 0, 0) :: []
def k278_83 : List mj_O := (83, 3, 2, 0, 0) :: (84, 0, 2, 0, 0) :: (85, 22, 1, 113, 0) :: (88, 5, 0, 0, 0) :: (89, 33, 12, 38, 66) :: (92, 0, 34, 0, 0) :: (94, 3, 1, 0, 0) :: (95, 11, 0, 0, 0) :: (96, 5, 0, 0, 0) :: (97, 0, 10, 0, 0) :: (99, 47, 277, 0, 446) :: (102, 42, 0, 0, 0) :: (103, 5, 0, 0, 0) :: (104, 33, 12, 38, 66) :: (107, 0, 45, 0, 0) :: (109, 3, 1, 0, 0) :: (110, 11, 0, 0, 0) :: (111, 0, 0, 0, 0) :: (112, 42, 0, 0, 0) :: k278_113
def k278_55 : List mj_O := (55, 3, 2, 0, 0) :: (56, 0, 1, 0, 0) :: (57, 22, 1, 83, 0) :: (60, 5, 0, 0, 0) :: (61, 33, 12, 38, 66) :: (64, 0, 56, 0, 0) :: (66, 3, 1, 0, 0) :: (67, 11, 0, 0, 0) :: (68, 38, 0, 0, 0) :: (69, 1, 1, 0, 0) :: (70, 22, 0, 113, 0) :: (73, 5, 0, 0, 0) :: (74, 0, 33, 0, 0) :: (76, 3, 1, 0, 0) :: (77, 47, 209, 0, 314) :: (80, 23, 0, 113, 0) :: k278_83
def k278_51 : List mj_O := (51, 42, 0, 0, 0) :: (52, 23, 0, 113, 0) :: k278_55
def k278_50 : List mj_O := (50, 3, 3, 0, 0) :: k278_51
def k278_0 : List mj_O := (0, 5, 0, 0, 0) :: (1, 5, 0, 0, 0) :: (2, 31, 12, 1, 273) :: (5, 47, 277, 0, 446) :: (8, 6, 1, 0, 0) :: (9, 5, 0, 0, 0) :: (10, 0, 4, 0, 0) :: (11, 47, 277, 0, 446) :: (14, 6, 2, 0, 0) :: (15, 3, 2, 0, 0) :: (16, 21, 1, 55, 0) :: (19, 5, 0, 0, 0) :: (20, 33, 12, 38, 66) :: (23, 0, 45, 0, 0) :: (25, 3, 1, 0, 0) :: (26, 11, 0, 0, 0) :: (27, 38, 0, 0, 0) :: (28, 0, 3, 0, 0) :: (29, 11, 0, 0, 0) :: (30, 6, 3, 0, 0) :: (31, 5, 0, 0, 0) :: (32, 33, 12, 38, 66) :: (35, 0, 45, 0, 0) :: (37, 3, 1, 0, 0) :: (38, 11, 0, 0, 0) :: (39, 3, 3, 0, 0) :: (40, 0, 9, 0, 0) :: (42, 22, 5, 50, 0) :: (45, 0, 9, 0, 0) :: (47, 23, 0, 51, 0) :: k278_50
def k278 : Nat → List mj_O := fun t => match t with
  | 0 => k278_0
  | 50 => k278_50
  | 51 => k278_51
  | 55 => k278_55
  | 83 => k278_83
  | 113 => k278_113
  | _ => []
-- 279: SockFairModel.generations (III)I
def k279_112 : List mj_O := (112, 26, 0, 0, 0) :: []
def k279_106 : List mj_O := (106, 5, 0, 0, 0) :: (107, 0, 33, 0, 0) :: (109, 47, 216, 0, 348) :: k279_112
def k279_96 : List mj_O := (96, 3, 3, 0, 0) :: (97, 0, 1, 0, 0) :: (98, 22, 1, 106, 0) :: (101, 3, 4, 0, 0) :: (103, 23, 0, 112, 0) :: k279_106
def k279_80 : List mj_O := (80, 3, 3, 0, 0) :: (81, 21, 1, 96, 0) :: (84, 5, 0, 0, 0) :: (85, 0, 33, 0, 0) :: (87, 47, 215, 0, 345) :: (90, 48, 166, 0, 339) :: (93, 23, 0, 112, 0) :: k279_96
def k279_63 : List mj_O := (63, 3, 4, 0, 0) :: (65, 5, 0, 0, 0) :: (66, 0, 33, 0, 0) :: (68, 47, 213, 0, 326) :: (71, 11, 0, 0, 0) :: (72, 6, 4, 0, 0) :: (74, 9, 5, 1, 0) :: (77, 23, 0, 46, 0) :: k279_80
def k279_46 : List mj_O := (46, 3, 5, 0, 0) :: (48, 3, 2, 0, 0) :: (49, 22, 3, 80, 0) :: (52, 5, 0, 0, 0) :: (53, 31, 12, 1, 273) :: (56, 21, 5, 63, 0) :: (59, 5, 0, 0, 0) :: (60, 47, 278, 0, 449) :: k279_63
def k279_31 : List mj_O := (31, 5, 0, 0, 0) :: (32, 47, 200, 0, 323) :: (35, 5, 0, 0, 0) :: (36, 3, 1, 0, 0) :: (37, 34, 12, 56, 442) :: (40, 0, 0, 0, 0) :: (41, 6, 4, 0, 0) :: (43, 0, 0, 0, 0) :: (44, 6, 5, 0, 0) :: k279_46
def k279_29 : List mj_O := (29, 0, 0, 0, 0) :: (30, 26, 0, 0, 0) :: k279_31
def k279_0 : List mj_O := (0, 5, 0, 0, 0) :: (1, 0, 0, 0, 0) :: (2, 34, 12, 0, 118) :: (5, 5, 0, 0, 0) :: (6, 3, 3, 0, 0) :: (7, 0, 2, 0, 0) :: (8, 47, 222, 0, 357) :: (11, 21, 0, 29, 0) :: (14, 5, 0, 0, 0) :: (15, 3, 2, 0, 0) :: (16, 0, 0, 0, 0) :: (17, 0, 60, 0, 0) :: (19, 48, 164, 0, 342) :: (22, 0, 2, 0, 0) :: (23, 47, 163, 0, 266) :: (26, 21, 1, 31, 0) :: k279_29
def k279 : Nat → List mj_O := fun t => match t with
  | 0 => k279_0
  | 29 => k279_29
  | 31 => k279_31
  | 46 => k279_46
  | 63 => k279_63
  | 80 => k279_80
  | 96 => k279_96
  | 106 => k279_106
  | 112 => k279_112
  | _ => []
-- 280: SockFairModel.image ()V
def k280_52 : List mj_O := (52, 5, 0, 0, 0) :: (53, 5, 0, 0, 0) :: (54, 33, 12, 39, 69) :: (57, 5, 0, 0, 0) :: (58, 33, 12, 61, 112) :: (61, 47, 165, 0, 276) :: (64, 5, 0, 0, 0) :: (65, 5, 0, 0, 0) :: (66, 33, 12, 53, 100) :: (69, 5, 0, 0, 0) :: (70, 33, 12, 62, 115) :: (73, 47, 165, 0, 276) :: (76, 25, 0, 0, 0) :: []
def k280_28 : List mj_O := (28, 3, 1, 0, 0) :: (29, 0, 33, 0, 0) :: (31, 22, 3, 52, 0) :: (34, 5, 0, 0, 0) :: (35, 33, 12, 60, 109) :: (38, 3, 1, 0, 0) :: (39, 5, 0, 0, 0) :: (40, 33, 12, 38, 66) :: (43, 3, 1, 0, 0) :: (44, 38, 0, 0, 0) :: (45, 42, 0, 0, 0) :: (46, 9, 1, 1, 0) :: (49, 23, 0, 28, 0) :: k280_52
def k280_0 : List mj_O := (0, 5, 0, 0, 0) :: (1, 0, 0, 0, 0) :: (2, 34, 12, 0, 118) :: (5, 5, 0, 0, 0) :: (6, 0, 1, 0, 0) :: (7, 35, 12, 57, 286) :: (10, 5, 0, 0, 0) :: (11, 5, 0, 0, 0) :: (12, 31, 12, 40, 280) :: (15, 34, 12, 58, 452) :: (18, 5, 0, 0, 0) :: (19, 5, 0, 0, 0) :: (20, 31, 12, 52, 283) :: (23, 34, 12, 59, 455) :: (26, 0, 0, 0, 0) :: (27, 6, 1, 0, 0) :: k280_28
def k280 : Nat → List mj_O := fun t => match t with
  | 0 => k280_0
  | 28 => k280_28
  | 52 => k280_52
  | _ => []
-- 281: SockFairModel.restore ()Z
def k281_56 : List mj_O := (56, 5, 0, 0, 0) :: (57, 5, 0, 0, 0) :: (58, 33, 12, 61, 112) :: (61, 5, 0, 0, 0) :: (62, 33, 12, 39, 69) :: (65, 47, 165, 0, 276) :: (68, 5, 0, 0, 0) :: (69, 5, 0, 0, 0) :: (70, 33, 12, 62, 115) :: (73, 5, 0, 0, 0) :: (74, 33, 12, 53, 100) :: (77, 47, 165, 0, 276) :: (80, 0, 1, 0, 0) :: (81, 27, 0, 0, 0) :: []
def k281_32 : List mj_O := (32, 3, 1, 0, 0) :: (33, 0, 33, 0, 0) :: (35, 22, 3, 56, 0) :: (38, 5, 0, 0, 0) :: (39, 33, 12, 38, 66) :: (42, 3, 1, 0, 0) :: (43, 5, 0, 0, 0) :: (44, 33, 12, 60, 109) :: (47, 3, 1, 0, 0) :: (48, 38, 0, 0, 0) :: (49, 42, 0, 0, 0) :: (50, 9, 1, 1, 0) :: (53, 23, 0, 32, 0) :: k281_56
def k281_14 : List mj_O := (14, 5, 0, 0, 0) :: (15, 5, 0, 0, 0) :: (16, 31, 12, 58, 452) :: (19, 34, 12, 40, 280) :: (22, 5, 0, 0, 0) :: (23, 5, 0, 0, 0) :: (24, 31, 12, 59, 455) :: (27, 34, 12, 52, 283) :: (30, 0, 0, 0, 0) :: (31, 6, 1, 0, 0) :: k281_32
def k281_0 : List mj_O := (0, 5, 0, 0, 0) :: (1, 0, 0, 0, 0) :: (2, 34, 12, 0, 118) :: (5, 5, 0, 0, 0) :: (6, 31, 12, 57, 286) :: (9, 21, 1, 14, 0) :: (12, 0, 0, 0, 0) :: (13, 27, 0, 0, 0) :: k281_14
def k281 : Nat → List mj_O := fun t => match t with
  | 0 => k281_0
  | 14 => k281_14
  | 32 => k281_32
  | 56 => k281_56
  | _ => []
end
section
-- 283: java/lang/String.charAt (I)C
def k283_16 : List mj_O := (16, 63, 0, 0, 0) :: (17, 56, 0, 0, 9) :: (20, 3, 1, 0, 0) :: (21, 99, 0, 0, 0) :: (24, 64, 0, 0, 0) :: []
def k283_0 : List mj_O := (0, 63, 0, 0, 0) :: (1, 62, 284, 0, 492) :: (4, 21, 0, 16, 0) :: (7, 63, 0, 0, 0) :: (8, 56, 0, 0, 9) :: (11, 3, 1, 0, 0) :: (12, 48, 285, 0, 495) :: (15, 64, 0, 0, 0) :: k283_16
def k283 : Nat → List mj_O := fun t => match t with
  | 0 => k283_0
  | 16 => k283_16
  | _ => []
-- 284: java/lang/String.isLatin1 ()Z
def k284_18 : List mj_O := (18, 27, 0, 0, 0) :: []
def k284_17 : List mj_O := (17, 0, 0, 0, 0) :: k284_18
def k284_0 : List mj_O := (0, 58, 0, 0, 38) :: (3, 21, 0, 17, 0) :: (6, 63, 0, 0, 0) :: (7, 57, 0, 0, 15) :: (10, 21, 1, 17, 0) :: (13, 0, 1, 0, 0) :: (14, 23, 0, 18, 0) :: k284_17
def k284 : Nat → List mj_O := fun t => match t with
  | 0 => k284_0
  | 17 => k284_17
  | 18 => k284_18
  | _ => []
-- 285: java/lang/StringLatin1.charAt ([BI)C
def k285_0 : List mj_O := (0, 3, 1, 0, 0) :: (1, 63, 0, 0, 0) :: (2, 60, 0, 0, 0) :: (3, 48, 286, 0, 9) :: (6, 63, 0, 0, 0) :: (7, 3, 1, 0, 0) :: (8, 61, 0, 0, 0) :: (9, 0, 255, 0, 0) :: (12, 11, 8, 0, 0) :: (13, 12, 2, 0, 0) :: (14, 64, 0, 0, 0) :: []
def k285 : Nat → List mj_O := fun t => match t with
  | 0 => k285_0
  | _ => []
-- 286: java/lang/String.checkIndex (II)V
def k286_0 : List mj_O := (0, 3, 0, 0, 0) :: (1, 3, 1, 0, 0) :: (2, 59, 0, 0, 1053) :: (5, 48, 287, 0, 1059) :: (8, 19, 0, 0, 0) :: (9, 25, 0, 0, 0) :: []
def k286 : Nat → List mj_O := fun t => match t with
  | 0 => k286_0
  | _ => []
-- 287: jdk/internal/util/Preconditions.checkIndex (IILjava/util/function/BiFunction;)I
def k287_16 : List mj_O := (16, 3, 0, 0, 0) :: (17, 26, 0, 0, 0) :: []
def k287_9 : List mj_O := (9, 63, 2, 0, 0) :: (10, 3, 0, 0, 0) :: (11, 3, 1, 0, 0) :: (12, 99, 0, 0, 0) :: (15, 99, 0, 0, 0) :: k287_16
def k287_0 : List mj_O := (0, 3, 0, 0, 0) :: (1, 21, 2, 9, 0) :: (4, 3, 0, 0, 0) :: (5, 3, 1, 0, 0) :: (6, 22, 2, 16, 0) :: k287_9
def k287 : Nat → List mj_O := fun t => match t with
  | 0 => k287_0
  | 9 => k287_9
  | 16 => k287_16
  | _ => []
-- 288: java/lang/String.indexOf (I)I
def k288_0 : List mj_O := (0, 63, 0, 0, 0) :: (1, 3, 1, 0, 0) :: (2, 0, 0, 0, 0) :: (3, 62, 289, 0, 633) :: (6, 26, 0, 0, 0) :: []
def k288 : Nat → List mj_O := fun t => match t with
  | 0 => k288_0
  | _ => []
-- 289: java/lang/String.indexOf (II)I
def k289_36 : List mj_O := (36, 26, 0, 0, 0) :: []
def k289_23 : List mj_O := (23, 63, 0, 0, 0) :: (24, 56, 0, 0, 9) :: (27, 3, 1, 0, 0) :: (28, 3, 2, 0, 0) :: (29, 63, 0, 0, 0) :: (30, 62, 290, 0, 505) :: (33, 99, 0, 0, 0) :: k289_36
def k289_0 : List mj_O := (0, 63, 0, 0, 0) :: (1, 62, 284, 0, 492) :: (4, 21, 0, 23, 0) :: (7, 63, 0, 0, 0) :: (8, 56, 0, 0, 9) :: (11, 3, 1, 0, 0) :: (12, 3, 2, 0, 0) :: (13, 63, 0, 0, 0) :: (14, 62, 290, 0, 505) :: (17, 48, 292, 0, 637) :: (20, 23, 0, 36, 0) :: k289_23
def k289 : Nat → List mj_O := fun t => match t with
  | 0 => k289_0
  | 23 => k289_23
  | 36 => k289_36
  | _ => []
-- 290: java/lang/String.length ()I
def k290_0 : List mj_O := (0, 63, 0, 0, 0) :: (1, 56, 0, 0, 9) :: (4, 60, 0, 0, 0) :: (5, 63, 0, 0, 0) :: (6, 62, 291, 0, 335) :: (9, 11, 6, 0, 0) :: (10, 26, 0, 0, 0) :: []
def k290 : Nat → List mj_O := fun t => match t with
  | 0 => k290_0
  | _ => []
-- 291: java/lang/String.coder ()B
def k291_14 : List mj_O := (14, 65, 0, 0, 0) :: []
def k291_13 : List mj_O := (13, 0, 1, 0, 0) :: k291_14
def k291_0 : List mj_O := (0, 58, 0, 0, 38) :: (3, 21, 0, 13, 0) :: (6, 63, 0, 0, 0) :: (7, 57, 0, 0, 15) :: (10, 23, 0, 14, 0) :: k291_13
def k291 : Nat → List mj_O := fun t => match t with
  | 0 => k291_0
  | 13 => k291_13
  | 14 => k291_14
  | _ => []
-- 292: java/lang/StringLatin1.indexOf ([BIII)I
def k292_29 : List mj_O := (29, 63, 0, 0, 0) :: (30, 3, 1, 0, 0) :: (31, 3, 2, 0, 0) :: (32, 3, 3, 0, 0) :: (33, 48, 293, 0, 95) :: (36, 26, 0, 0, 0) :: []
def k292_9 : List mj_O := (9, 3, 2, 0, 0) :: (10, 0, 0, 0, 0) :: (11, 70, 0, 0, 92) :: (14, 6, 2, 0, 0) :: (15, 3, 3, 0, 0) :: (16, 63, 0, 0, 0) :: (17, 60, 0, 0, 0) :: (18, 71, 0, 0, 38) :: (21, 6, 3, 0, 0) :: (22, 3, 2, 0, 0) :: (23, 3, 3, 0, 0) :: (24, 22, 2, 29, 0) :: (27, 1, 1, 0, 0) :: (28, 26, 0, 0, 0) :: k292_29
def k292_0 : List mj_O := (0, 3, 1, 0, 0) :: (1, 48, 294, 0, 88) :: (4, 21, 1, 9, 0) :: (7, 1, 1, 0, 0) :: (8, 26, 0, 0, 0) :: k292_9
def k292 : Nat → List mj_O := fun t => match t with
  | 0 => k292_0
  | 9 => k292_9
  | 29 => k292_29
  | _ => []
-- 293: java/lang/StringLatin1.indexOfChar ([BIII)I
def k293_31 : List mj_O := (31, 1, 1, 0, 0) :: (32, 26, 0, 0, 0) :: []
def k293_25 : List mj_O := (25, 9, 5, 1, 0) :: (28, 23, 0, 7, 0) :: k293_31
def k293_7 : List mj_O := (7, 3, 5, 0, 0) :: (9, 3, 3, 0, 0) :: (10, 22, 3, 31, 0) :: (13, 63, 0, 0, 0) :: (14, 3, 5, 0, 0) :: (16, 61, 0, 0, 0) :: (17, 3, 4, 0, 0) :: (19, 22, 1, 25, 0) :: (22, 3, 5, 0, 0) :: (24, 26, 0, 0, 0) :: k293_25
def k293_0 : List mj_O := (0, 3, 1, 0, 0) :: (1, 12, 1, 0, 0) :: (2, 6, 4, 0, 0) :: (4, 3, 2, 0, 0) :: (5, 6, 5, 0, 0) :: k293_7
def k293 : Nat → List mj_O := fun t => match t with
  | 0 => k293_0
  | 7 => k293_7
  | 25 => k293_25
  | 31 => k293_31
  | _ => []
-- 294: java/lang/StringLatin1.canEncode (I)Z
def k294_16 : List mj_O := (16, 27, 0, 0, 0) :: []
def k294_15 : List mj_O := (15, 0, 0, 0, 0) :: k294_16
def k294_0 : List mj_O := (0, 3, 0, 0, 0) :: (1, 21, 2, 15, 0) :: (4, 3, 0, 0, 0) :: (5, 0, 255, 0, 0) :: (8, 22, 4, 15, 0) :: (11, 0, 1, 0, 0) :: (12, 23, 0, 16, 0) :: k294_15
def k294 : Nat → List mj_O := fun t => match t with
  | 0 => k294_0
  | 15 => k294_15
  | 16 => k294_16
  | _ => []
-- 295: SockFairLaw.fair (LSockFair;I[J)I
def k295_15 : List mj_O := (15, 0, 0, 0, 0) :: (16, 26, 0, 0, 0) :: []
def k295_13 : List mj_O := (13, 0, 1, 0, 0) :: (14, 26, 0, 0, 0) :: k295_15
def k295_0 : List mj_O := (0, 5, 2, 0, 0) :: (1, 0, 0, 0, 0) :: (2, 5, 0, 0, 0) :: (3, 3, 1, 0, 0) :: (4, 66, 103, 0, 7) :: (7, 15, 0, 0, 0) :: (8, 43, 0, 0, 0) :: (9, 23, 0, 15, 0) :: (12, 8, 3, 0, 0) :: k295_13
def k295 : Nat → List mj_O := fun t => match t with
  | 0 => k295_0
  | 13 => k295_13
  | 15 => k295_15
  | _ => []
-- 296: SockFairLaw.count (LSockFair;I[J)I
def k296_15 : List mj_O := (15, 0, 0, 0, 0) :: (16, 26, 0, 0, 0) :: []
def k296_13 : List mj_O := (13, 0, 1, 0, 0) :: (14, 26, 0, 0, 0) :: k296_15
def k296_0 : List mj_O := (0, 5, 2, 0, 0) :: (1, 0, 0, 0, 0) :: (2, 5, 0, 0, 0) :: (3, 3, 1, 0, 0) :: (4, 66, 105, 1, 15) :: (7, 15, 0, 0, 0) :: (8, 43, 0, 0, 0) :: (9, 23, 0, 15, 0) :: (12, 8, 3, 0, 0) :: k296_13
def k296 : Nat → List mj_O := fun t => match t with
  | 0 => k296_0
  | 13 => k296_13
  | 15 => k296_15
  | _ => []
-- 297: SockFairLaw.person (LSockFair;II[J)I
def k297_17 : List mj_O := (17, 0, 0, 0, 0) :: (18, 26, 0, 0, 0) :: []
def k297_15 : List mj_O := (15, 0, 1, 0, 0) :: (16, 26, 0, 0, 0) :: k297_17
def k297_0 : List mj_O := (0, 5, 3, 0, 0) :: (1, 0, 0, 0, 0) :: (2, 5, 0, 0, 0) :: (3, 3, 1, 0, 0) :: (4, 3, 2, 0, 0) :: (5, 66, 106, 2, 20) :: (8, 15, 0, 0, 0) :: (9, 43, 0, 0, 0) :: (10, 23, 0, 17, 0) :: (13, 8, 4, 0, 0) :: k297_15
def k297 : Nat → List mj_O := fun t => match t with
  | 0 => k297_0
  | 15 => k297_15
  | 17 => k297_17
  | _ => []
-- 298: SockFairLaw.alike (LSockFair;II[J)I
def k298_17 : List mj_O := (17, 0, 0, 0, 0) :: (18, 26, 0, 0, 0) :: []
def k298_15 : List mj_O := (15, 0, 1, 0, 0) :: (16, 26, 0, 0, 0) :: k298_17
def k298_0 : List mj_O := (0, 5, 3, 0, 0) :: (1, 0, 0, 0, 0) :: (2, 5, 0, 0, 0) :: (3, 3, 1, 0, 0) :: (4, 3, 2, 0, 0) :: (5, 66, 107, 3, 24) :: (8, 15, 0, 0, 0) :: (9, 43, 0, 0, 0) :: (10, 23, 0, 17, 0) :: (13, 8, 4, 0, 0) :: k298_15
def k298 : Nat → List mj_O := fun t => match t with
  | 0 => k298_0
  | 15 => k298_15
  | 17 => k298_17
  | _ => []
-- 299: SockFairLaw.liking (LSockFair;II[J)I
def k299_17 : List mj_O := (17, 0, 0, 0, 0) :: (18, 26, 0, 0, 0) :: []
def k299_15 : List mj_O := (15, 0, 1, 0, 0) :: (16, 26, 0, 0, 0) :: k299_17
def k299_0 : List mj_O := (0, 5, 3, 0, 0) :: (1, 0, 0, 0, 0) :: (2, 5, 0, 0, 0) :: (3, 3, 1, 0, 0) :: (4, 3, 2, 0, 0) :: (5, 66, 108, 4, 27) :: (8, 15, 0, 0, 0) :: (9, 43, 0, 0, 0) :: (10, 23, 0, 17, 0) :: (13, 8, 4, 0, 0) :: k299_15
def k299 : Nat → List mj_O := fun t => match t with
  | 0 => k299_0
  | 15 => k299_15
  | 17 => k299_17
  | _ => []
-- 300: SockFairLaw.dye (LSockFair;II[J)I
def k300_17 : List mj_O := (17, 0, 0, 0, 0) :: (18, 26, 0, 0, 0) :: []
def k300_15 : List mj_O := (15, 0, 1, 0, 0) :: (16, 26, 0, 0, 0) :: k300_17
def k300_0 : List mj_O := (0, 5, 3, 0, 0) :: (1, 0, 0, 0, 0) :: (2, 5, 0, 0, 0) :: (3, 3, 1, 0, 0) :: (4, 3, 2, 0, 0) :: (5, 66, 110, 5, 30) :: (8, 15, 0, 0, 0) :: (9, 43, 0, 0, 0) :: (10, 23, 0, 17, 0) :: (13, 8, 4, 0, 0) :: k300_15
def k300 : Nat → List mj_O := fun t => match t with
  | 0 => k300_0
  | 15 => k300_15
  | 17 => k300_17
  | _ => []
-- 301: SockFairLaw.darn (LSockFair;II[J)I
def k301_17 : List mj_O := (17, 0, 0, 0, 0) :: (18, 26, 0, 0, 0) :: []
def k301_15 : List mj_O := (15, 0, 1, 0, 0) :: (16, 26, 0, 0, 0) :: k301_17
def k301_0 : List mj_O := (0, 5, 3, 0, 0) :: (1, 0, 0, 0, 0) :: (2, 5, 0, 0, 0) :: (3, 3, 1, 0, 0) :: (4, 3, 2, 0, 0) :: (5, 66, 111, 6, 33) :: (8, 15, 0, 0, 0) :: (9, 43, 0, 0, 0) :: (10, 23, 0, 17, 0) :: (13, 8, 4, 0, 0) :: k301_15
def k301 : Nat → List mj_O := fun t => match t with
  | 0 => k301_0
  | 15 => k301_15
  | 17 => k301_17
  | _ => []
-- 302: SockFairLaw.unravel (LSockFair;I[J)I
def k302_15 : List mj_O := (15, 0, 0, 0, 0) :: (16, 26, 0, 0, 0) :: []
def k302_13 : List mj_O := (13, 0, 1, 0, 0) :: (14, 26, 0, 0, 0) :: k302_15
def k302_0 : List mj_O := (0, 5, 2, 0, 0) :: (1, 0, 0, 0, 0) :: (2, 5, 0, 0, 0) :: (3, 3, 1, 0, 0) :: (4, 66, 112, 7, 36) :: (7, 15, 0, 0, 0) :: (8, 43, 0, 0, 0) :: (9, 23, 0, 15, 0) :: (12, 8, 3, 0, 0) :: k302_13
def k302 : Nat → List mj_O := fun t => match t with
  | 0 => k302_0
  | 13 => k302_13
  | 15 => k302_15
  | _ => []
-- 303: SockFairLaw.bind (LSockFair;II[J)I
def k303_24 : List mj_O := (24, 0, 0, 0, 0) :: (25, 26, 0, 0, 0) :: []
def k303_22 : List mj_O := (22, 0, 1, 0, 0) :: (23, 26, 0, 0, 0) :: k303_24
def k303_16 : List mj_O := (16, 43, 0, 0, 0) :: (17, 23, 0, 24, 0) :: (20, 8, 4, 0, 0) :: k303_22
def k303_15 : List mj_O := (15, 2, 0, 0, 0) :: k303_16
def k303_0 : List mj_O := (0, 5, 3, 0, 0) :: (1, 0, 0, 0, 0) :: (2, 5, 0, 0, 0) :: (3, 3, 1, 0, 0) :: (4, 3, 2, 0, 0) :: (5, 66, 113, 8, 39) :: (8, 21, 0, 15, 0) :: (11, 2, 1, 0, 0) :: (12, 23, 0, 16, 0) :: k303_15
def k303 : Nat → List mj_O := fun t => match t with
  | 0 => k303_0
  | 15 => k303_15
  | 16 => k303_16
  | 22 => k303_22
  | 24 => k303_24
  | _ => []
-- 304: SockFairLaw.then (LSockFair;II[J)I
def k304_21 : List mj_O := (21, 0, 0, 0, 0) :: (22, 26, 0, 0, 0) :: []
def k304_19 : List mj_O := (19, 0, 2, 0, 0) :: (20, 26, 0, 0, 0) :: k304_21
def k304_15 : List mj_O := (15, 0, 1, 0, 0) :: (16, 26, 0, 0, 0) :: (17, 8, 4, 0, 0) :: k304_19
def k304_0 : List mj_O := (0, 5, 3, 0, 0) :: (1, 0, 0, 0, 0) :: (2, 5, 0, 0, 0) :: (3, 3, 1, 0, 0) :: (4, 3, 2, 0, 0) :: (5, 66, 115, 9, 43) :: (8, 15, 0, 0, 0) :: (9, 43, 0, 0, 0) :: (10, 23, 0, 21, 0) :: (13, 8, 4, 0, 0) :: k304_15
def k304 : Nat → List mj_O := fun t => match t with
  | 0 => k304_0
  | 15 => k304_15
  | 19 => k304_19
  | 21 => k304_21
  | _ => []
-- 305: SockFairLaw.when (LSockFair;I[J)I
def k305_15 : List mj_O := (15, 0, 0, 0, 0) :: (16, 26, 0, 0, 0) :: []
def k305_13 : List mj_O := (13, 0, 1, 0, 0) :: (14, 26, 0, 0, 0) :: k305_15
def k305_0 : List mj_O := (0, 5, 2, 0, 0) :: (1, 0, 0, 0, 0) :: (2, 5, 0, 0, 0) :: (3, 3, 1, 0, 0) :: (4, 66, 116, 10, 46) :: (7, 15, 0, 0, 0) :: (8, 43, 0, 0, 0) :: (9, 23, 0, 15, 0) :: (12, 8, 3, 0, 0) :: k305_13
def k305 : Nat → List mj_O := fun t => match t with
  | 0 => k305_0
  | 13 => k305_13
  | 15 => k305_15
  | _ => []
-- 306: SockFairLaw.worn (LSockFair;I[J)I
def k306_15 : List mj_O := (15, 0, 0, 0, 0) :: (16, 26, 0, 0, 0) :: []
def k306_13 : List mj_O := (13, 0, 1, 0, 0) :: (14, 26, 0, 0, 0) :: k306_15
def k306_0 : List mj_O := (0, 5, 2, 0, 0) :: (1, 0, 0, 0, 0) :: (2, 5, 0, 0, 0) :: (3, 3, 1, 0, 0) :: (4, 66, 117, 11, 49) :: (7, 15, 0, 0, 0) :: (8, 43, 0, 0, 0) :: (9, 23, 0, 15, 0) :: (12, 8, 3, 0, 0) :: k306_13
def k306 : Nat → List mj_O := fun t => match t with
  | 0 => k306_0
  | 13 => k306_13
  | 15 => k306_15
  | _ => []
-- 307: SockFairLaw.couples (LSockFair;I[J)I
def k307_15 : List mj_O := (15, 0, 0, 0, 0) :: (16, 26, 0, 0, 0) :: []
def k307_13 : List mj_O := (13, 0, 1, 0, 0) :: (14, 26, 0, 0, 0) :: k307_15
def k307_0 : List mj_O := (0, 5, 2, 0, 0) :: (1, 0, 0, 0, 0) :: (2, 5, 0, 0, 0) :: (3, 3, 1, 0, 0) :: (4, 66, 118, 12, 52) :: (7, 15, 0, 0, 0) :: (8, 43, 0, 0, 0) :: (9, 23, 0, 15, 0) :: (12, 8, 3, 0, 0) :: k307_13
def k307 : Nat → List mj_O := fun t => match t with
  | 0 => k307_0
  | 13 => k307_13
  | 15 => k307_15
  | _ => []
-- 308: SockFairLaw.single (LSockFair;I[J)I
def k308_15 : List mj_O := (15, 0, 0, 0, 0) :: (16, 26, 0, 0, 0) :: []
def k308_13 : List mj_O := (13, 0, 1, 0, 0) :: (14, 26, 0, 0, 0) :: k308_15
def k308_0 : List mj_O := (0, 5, 2, 0, 0) :: (1, 0, 0, 0, 0) :: (2, 5, 0, 0, 0) :: (3, 3, 1, 0, 0) :: (4, 66, 119, 13, 55) :: (7, 15, 0, 0, 0) :: (8, 43, 0, 0, 0) :: (9, 23, 0, 15, 0) :: (12, 8, 3, 0, 0) :: k308_13
def k308 : Nat → List mj_O := fun t => match t with
  | 0 => k308_0
  | 13 => k308_13
  | 15 => k308_15
  | _ => []
-- 309: SockFairLaw.most (LSockFair;I[J)I
def k309_15 : List mj_O := (15, 0, 0, 0, 0) :: (16, 26, 0, 0, 0) :: []
def k309_13 : List mj_O := (13, 0, 1, 0, 0) :: (14, 26, 0, 0, 0) :: k309_15
def k309_0 : List mj_O := (0, 5, 2, 0, 0) :: (1, 0, 0, 0, 0) :: (2, 5, 0, 0, 0) :: (3, 3, 1, 0, 0) :: (4, 66, 124, 14, 58) :: (7, 15, 0, 0, 0) :: (8, 43, 0, 0, 0) :: (9, 23, 0, 15, 0) :: (12, 8, 3, 0, 0) :: k309_13
def k309 : Nat → List mj_O := fun t => match t with
  | 0 => k309_0
  | 13 => k309_13
  | 15 => k309_15
  | _ => []
-- 310: SockFairLaw.rests (LSockFair;I[J)I
def k310_15 : List mj_O := (15, 0, 0, 0, 0) :: (16, 26, 0, 0, 0) :: []
def k310_13 : List mj_O := (13, 0, 1, 0, 0) :: (14, 26, 0, 0, 0) :: k310_15
def k310_0 : List mj_O := (0, 5, 2, 0, 0) :: (1, 0, 0, 0, 0) :: (2, 5, 0, 0, 0) :: (3, 3, 1, 0, 0) :: (4, 66, 126, 15, 61) :: (7, 15, 0, 0, 0) :: (8, 43, 0, 0, 0) :: (9, 23, 0, 15, 0) :: (12, 8, 3, 0, 0) :: k310_13
def k310 : Nat → List mj_O := fun t => match t with
  | 0 => k310_0
  | 13 => k310_13
  | 15 => k310_15
  | _ => []
-- 311: SockFairLaw.mates (LSockFair;I[J)I
def k311_15 : List mj_O := (15, 0, 0, 0, 0) :: (16, 26, 0, 0, 0) :: []
def k311_13 : List mj_O := (13, 0, 1, 0, 0) :: (14, 26, 0, 0, 0) :: k311_15
def k311_0 : List mj_O := (0, 5, 2, 0, 0) :: (1, 0, 0, 0, 0) :: (2, 5, 0, 0, 0) :: (3, 3, 1, 0, 0) :: (4, 66, 127, 16, 64) :: (7, 15, 0, 0, 0) :: (8, 43, 0, 0, 0) :: (9, 23, 0, 15, 0) :: (12, 8, 3, 0, 0) :: k311_13
def k311 : Nat → List mj_O := fun t => match t with
  | 0 => k311_0
  | 13 => k311_13
  | 15 => k311_15
  | _ => []
-- 312: SockFairLaw.way (LSockFair;III[J)I
def k312_19 : List mj_O := (19, 0, 0, 0, 0) :: (20, 26, 0, 0, 0) :: []
def k312_17 : List mj_O := (17, 0, 1, 0, 0) :: (18, 26, 0, 0, 0) :: k312_19
def k312_0 : List mj_O := (0, 5, 4, 0, 0) :: (2, 0, 0, 0, 0) :: (3, 5, 0, 0, 0) :: (4, 3, 1, 0, 0) :: (5, 3, 2, 0, 0) :: (6, 3, 3, 0, 0) :: (7, 66, 129, 17, 67) :: (10, 15, 0, 0, 0) :: (11, 43, 0, 0, 0) :: (12, 23, 0, 19, 0) :: (15, 8, 5, 0, 0) :: k312_17
def k312 : Nat → List mj_O := fun t => match t with
  | 0 => k312_0
  | 17 => k312_17
  | 19 => k312_19
  | _ => []
-- 313: SockFairLaw.knit (LSockFair;I[J)I
def k313_15 : List mj_O := (15, 0, 0, 0, 0) :: (16, 26, 0, 0, 0) :: []
def k313_13 : List mj_O := (13, 0, 1, 0, 0) :: (14, 26, 0, 0, 0) :: k313_15
def k313_0 : List mj_O := (0, 5, 2, 0, 0) :: (1, 0, 0, 0, 0) :: (2, 5, 0, 0, 0) :: (3, 3, 1, 0, 0) :: (4, 66, 131, 18, 71) :: (7, 15, 0, 0, 0) :: (8, 43, 0, 0, 0) :: (9, 23, 0, 15, 0) :: (12, 8, 3, 0, 0) :: k313_13
def k313 : Nat → List mj_O := fun t => match t with
  | 0 => k313_0
  | 13 => k313_13
  | 15 => k313_15
  | _ => []
-- 314: SockFairLaw.see (LSockFair;III[J)I
def k314_19 : List mj_O := (19, 0, 0, 0, 0) :: (20, 26, 0, 0, 0) :: []
def k314_17 : List mj_O := (17, 0, 1, 0, 0) :: (18, 26, 0, 0, 0) :: k314_19
def k314_0 : List mj_O := (0, 5, 4, 0, 0) :: (2, 0, 0, 0, 0) :: (3, 5, 0, 0, 0) :: (4, 3, 1, 0, 0) :: (5, 3, 2, 0, 0) :: (6, 3, 3, 0, 0) :: (7, 66, 133, 19, 74) :: (10, 15, 0, 0, 0) :: (11, 43, 0, 0, 0) :: (12, 23, 0, 19, 0) :: (15, 8, 5, 0, 0) :: k314_17
def k314 : Nat → List mj_O := fun t => match t with
  | 0 => k314_0
  | 17 => k314_17
  | 19 => k314_19
  | _ => []
-- 315: SockFairLaw.dyed (LSockFair;I[J)I
def k315_15 : List mj_O := (15, 0, 0, 0, 0) :: (16, 26, 0, 0, 0) :: []
def k315_13 : List mj_O := (13, 0, 1, 0, 0) :: (14, 26, 0, 0, 0) :: k315_15
def k315_0 : List mj_O := (0, 5, 2, 0, 0) :: (1, 0, 0, 0, 0) :: (2, 5, 0, 0, 0) :: (3, 3, 1, 0, 0) :: (4, 66, 135, 20, 77) :: (7, 15, 0, 0, 0) :: (8, 43, 0, 0, 0) :: (9, 23, 0, 15, 0) :: (12, 8, 3, 0, 0) :: k315_13
def k315 : Nat → List mj_O := fun t => match t with
  | 0 => k315_0
  | 13 => k315_13
  | 15 => k315_15
  | _ => []
-- 316: SockFairLaw.next (LSockFair;I[J)I
def k316_15 : List mj_O := (15, 0, 0, 0, 0) :: (16, 26, 0, 0, 0) :: []
def k316_13 : List mj_O := (13, 0, 1, 0, 0) :: (14, 26, 0, 0, 0) :: k316_15
def k316_0 : List mj_O := (0, 5, 2, 0, 0) :: (1, 0, 0, 0, 0) :: (2, 5, 0, 0, 0) :: (3, 3, 1, 0, 0) :: (4, 66, 136, 21, 80) :: (7, 15, 0, 0, 0) :: (8, 43, 0, 0, 0) :: (9, 23, 0, 15, 0) :: (12, 8, 3, 0, 0) :: k316_13
def k316 : Nat → List mj_O := fun t => match t with
  | 0 => k316_0
  | 13 => k316_13
  | 15 => k316_15
  | _ => []
-- 317: SockFairLaw.basket (LSockFair;II[J)I
def k317_21 : List mj_O := (21, 0, 0, 0, 0) :: (22, 26, 0, 0, 0) :: []
def k317_19 : List mj_O := (19, 0, 2, 0, 0) :: (20, 26, 0, 0, 0) :: k317_21
def k317_15 : List mj_O := (15, 0, 1, 0, 0) :: (16, 26, 0, 0, 0) :: (17, 8, 4, 0, 0) :: k317_19
def k317_0 : List mj_O := (0, 5, 3, 0, 0) :: (1, 0, 0, 0, 0) :: (2, 5, 0, 0, 0) :: (3, 3, 1, 0, 0) :: (4, 3, 2, 0, 0) :: (5, 66, 137, 22, 83) :: (8, 15, 0, 0, 0) :: (9, 43, 0, 0, 0) :: (10, 23, 0, 21, 0) :: (13, 8, 4, 0, 0) :: k317_15
def k317 : Nat → List mj_O := fun t => match t with
  | 0 => k317_0
  | 15 => k317_15
  | 19 => k317_19
  | 21 => k317_21
  | _ => []
-- 318: SockFairLaw.game (LSockFair;III[J)I
def k318_23 : List mj_O := (23, 0, 0, 0, 0) :: (24, 26, 0, 0, 0) :: []
def k318_21 : List mj_O := (21, 0, 2, 0, 0) :: (22, 26, 0, 0, 0) :: k318_23
def k318_17 : List mj_O := (17, 0, 1, 0, 0) :: (18, 26, 0, 0, 0) :: (19, 8, 5, 0, 0) :: k318_21
def k318_0 : List mj_O := (0, 5, 4, 0, 0) :: (2, 0, 0, 0, 0) :: (3, 5, 0, 0, 0) :: (4, 3, 1, 0, 0) :: (5, 3, 2, 0, 0) :: (6, 3, 3, 0, 0) :: (7, 66, 140, 23, 86) :: (10, 15, 0, 0, 0) :: (11, 43, 0, 0, 0) :: (12, 23, 0, 23, 0) :: (15, 8, 5, 0, 0) :: k318_17
def k318 : Nat → List mj_O := fun t => match t with
  | 0 => k318_0
  | 17 => k318_17
  | 21 => k318_21
  | 23 => k318_23
  | _ => []
-- 319: SockFairLaw.generations (LSockFair;III[J)I
def k319_23 : List mj_O := (23, 0, 0, 0, 0) :: (24, 26, 0, 0, 0) :: []
def k319_21 : List mj_O := (21, 0, 2, 0, 0) :: (22, 26, 0, 0, 0) :: k319_23
def k319_17 : List mj_O := (17, 0, 1, 0, 0) :: (18, 26, 0, 0, 0) :: (19, 8, 5, 0, 0) :: k319_21
def k319_0 : List mj_O := (0, 5, 4, 0, 0) :: (2, 0, 0, 0, 0) :: (3, 5, 0, 0, 0) :: (4, 3, 1, 0, 0) :: (5, 3, 2, 0, 0) :: (6, 3, 3, 0, 0) :: (7, 66, 144, 24, 89) :: (10, 15, 0, 0, 0) :: (11, 43, 0, 0, 0) :: (12, 23, 0, 23, 0) :: (15, 8, 5, 0, 0) :: k319_17
def k319 : Nat → List mj_O := fun t => match t with
  | 0 => k319_0
  | 17 => k319_17
  | 21 => k319_21
  | 23 => k319_23
  | _ => []
-- 320: SockFairLaw.far (LSockFair;II[J)I
def k320_17 : List mj_O := (17, 0, 0, 0, 0) :: (18, 26, 0, 0, 0) :: []
def k320_15 : List mj_O := (15, 0, 1, 0, 0) :: (16, 26, 0, 0, 0) :: k320_17
def k320_0 : List mj_O := (0, 5, 3, 0, 0) :: (1, 0, 0, 0, 0) :: (2, 5, 0, 0, 0) :: (3, 3, 1, 0, 0) :: (4, 3, 2, 0, 0) :: (5, 66, 145, 25, 92) :: (8, 15, 0, 0, 0) :: (9, 43, 0, 0, 0) :: (10, 23, 0, 17, 0) :: (13, 8, 4, 0, 0) :: k320_15
def k320 : Nat → List mj_O := fun t => match t with
  | 0 => k320_0
  | 15 => k320_15
  | 17 => k320_17
  | _ => []
-- 321: SockFairLaw.lasts (LSockFair;I[J)I
def k321_15 : List mj_O := (15, 0, 0, 0, 0) :: (16, 26, 0, 0, 0) :: []
def k321_13 : List mj_O := (13, 0, 1, 0, 0) :: (14, 26, 0, 0, 0) :: k321_15
def k321_0 : List mj_O := (0, 5, 2, 0, 0) :: (1, 0, 0, 0, 0) :: (2, 5, 0, 0, 0) :: (3, 3, 1, 0, 0) :: (4, 66, 120, 26, 95) :: (7, 15, 0, 0, 0) :: (8, 43, 0, 0, 0) :: (9, 23, 0, 15, 0) :: (12, 8, 3, 0, 0) :: k321_13
def k321 : Nat → List mj_O := fun t => match t with
  | 0 => k321_0
  | 13 => k321_13
  | 15 => k321_15
  | _ => []
-- 322: SockFairLaw.colour (LSockFair;I[J)I
def k322_15 : List mj_O := (15, 0, 0, 0, 0) :: (16, 26, 0, 0, 0) :: []
def k322_13 : List mj_O := (13, 0, 1, 0, 0) :: (14, 26, 0, 0, 0) :: k322_15
def k322_0 : List mj_O := (0, 5, 2, 0, 0) :: (1, 0, 0, 0, 0) :: (2, 5, 0, 0, 0) :: (3, 3, 1, 0, 0) :: (4, 66, 128, 27, 98) :: (7, 15, 0, 0, 0) :: (8, 43, 0, 0, 0) :: (9, 23, 0, 15, 0) :: (12, 8, 3, 0, 0) :: k322_13
def k322 : Nat → List mj_O := fun t => match t with
  | 0 => k322_0
  | 13 => k322_13
  | 15 => k322_15
  | _ => []
-- 323: SockFairLaw.law ([I)Z
def k323_2260 : List mj_O := (2260, 0, 1, 0, 0) :: (2261, 27, 0, 0, 0) :: []
def k323_2254 : List mj_O := (2254, 9, 4, 6, 0) :: (2257, 23, 0, 23, 0) :: k323_2260
def k323_2241 : List mj_O := (2241, 5, 1, 0, 0) :: (2242, 47, 148, 0, 252) :: (2245, 5, 2, 0, 0) :: (2246, 47, 281, 0, 256) :: (2249, 22, 0, 2254, 0) :: (2252, 0, 0, 0, 0) :: (2253, 27, 0, 0, 0) :: k323_2254
def k323_2230 : List mj_O := (2230, 5, 1, 0, 0) :: (2231, 47, 147, 0, 248) :: (2234, 5, 2, 0, 0) :: (2235, 47, 280, 0, 251) :: (2238, 23, 0, 2254, 0) :: k323_2241
def k323_2217 : List mj_O := (2217, 5, 1, 0, 0) :: (2218, 47, 132, 0, 244) :: (2221, 5, 2, 0, 0) :: (2222, 47, 242, 0, 247) :: (2225, 22, 0, 2254, 0) :: (2228, 0, 0, 0, 0) :: (2229, 27, 0, 0, 0) :: k323_2230
def k323_2214 : List mj_O := (2214, 23, 0, 2254, 0) :: k323_2217
def k323_2197 : List mj_O := (2197, 3, 5, 0, 0) :: (2199, 21, 1, 2214, 0) :: (2202, 5, 3, 0, 0) :: (2203, 0, 0, 0, 0) :: (2204, 39, 0, 0, 0) :: (2205, 3, 6, 0, 0) :: (2207, 15, 0, 0, 0) :: (2208, 17, 0, 0, 0) :: (2209, 21, 0, 2214, 0) :: (2212, 0, 0, 0, 0) :: (2213, 27, 0, 0, 0) :: k323_2214
def k323_2161 : List mj_O := (2161, 5, 1, 0, 0) :: (2162, 63, 0, 0, 0) :: (2163, 3, 4, 0, 0) :: (2165, 0, 1, 0, 0) :: (2166, 11, 0, 0, 0) :: (2167, 67, 0, 0, 0) :: (2168, 5, 3, 0, 0) :: (2169, 69, 322, 0, 241) :: (2172, 6, 5, 0, 0) :: (2174, 5, 2, 0, 0) :: (2175, 63, 0, 0, 0) :: (2176, 3, 4, 0, 0) :: (2178, 0, 1, 0, 0) :: (2179, 11, 0, 0, 0) :: (2180, 67, 0, 0, 0) :: (2181, 47, 249, 0, 243) :: (2184, 6, 6, 0, 0) :: (2186, 5, 2, 0, 0) :: (2187, 47, 162, 0, 116) :: (2190, 3, 5, 0, 0) :: (2192, 22, 0, 2197, 0) :: (2195, 0, 0, 0, 0) :: (2196, 27, 0, 0, 0) :: k323_2197
def k323_2158 : List mj_O := (2158, 23, 0, 2254, 0) :: k323_2161
def k323_2141 : List mj_O := (2141, 3, 5, 0, 0) :: (2143, 21, 1, 2158, 0) :: (2146, 5, 3, 0, 0) :: (2147, 0, 0, 0, 0) :: (2148, 39, 0, 0, 0) :: (2149, 3, 6, 0, 0) :: (2151, 15, 0, 0, 0) :: (2152, 17, 0, 0, 0) :: (2153, 21, 0, 2158, 0) :: (2156, 0, 0, 0, 0) :: (2157, 27, 0, 0, 0) :: k323_2158
def k323_2105 : List mj_O := (2105, 5, 1, 0, 0) :: (2106, 63, 0, 0, 0) :: (2107, 3, 4, 0, 0) :: (2109, 0, 1, 0, 0) :: (2110, 11, 0, 0, 0) :: (2111, 67, 0, 0, 0) :: (2112, 5, 3, 0, 0) :: (2113, 69, 321, 0, 238) :: (2116, 6, 5, 0, 0) :: (2118, 5, 2, 0, 0) :: (2119, 63, 0, 0, 0) :: (2120, 3, 4, 0, 0) :: (2122, 0, 1, 0, 0) :: (2123, 11, 0, 0, 0) :: (2124, 67, 0, 0, 0) :: (2125, 47, 241, 0, 240) :: (2128, 6, 6, 0, 0) :: (2130, 5, 2, 0, 0) :: (2131, 47, 162, 0, 116) :: (2134, 3, 5, 0, 0) :: (2136, 22, 0, 2141, 0) :: (2139, 0, 0, 0, 0) :: (2140, 27, 0, 0, 0) :: k323_2141
def k323_2092 : List mj_O := (2092, 5, 1, 0, 0) :: (2093, 47, 146, 0, 234) :: (2096, 5, 2, 0, 0) :: (2097, 47, 276, 0, 237) :: (2100, 22, 0, 2254, 0) :: (2103, 0, 0, 0, 0) :: (2104, 27, 0, 0, 0) :: k323_2105
def k323_2089 : List mj_O := (2089, 23, 0, 2254, 0) :: k323_2092
def k323_2072 : List mj_O := (2072, 3, 5, 0, 0) :: (2074, 21, 1, 2089, 0) :: (2077, 5, 3, 0, 0) :: (2078, 0, 0, 0, 0) :: (2079, 39, 0, 0, 0) :: (2080, 3, 6, 0, 0) :: (2082, 15, 0, 0, 0) :: (2083, 17, 0, 0, 0) :: (2084, 21, 0, 2089, 0) :: (2087, 0, 0, 0, 0) :: (2088, 27, 0, 0, 0) :: k323_2089
def k323_2024 : List mj_O := (2024, 5, 1, 0, 0) :: (2025, 63, 0, 0, 0) :: (2026, 3, 4, 0, 0) :: (2028, 0, 1, 0, 0) :: (2029, 11, 0, 0, 0) :: (2030, 67, 0, 0, 0) :: (2031, 63, 0, 0, 0) :: (2032, 3, 4, 0, 0) :: (2034, 0, 2, 0, 0) :: (2035, 11, 0, 0, 0) :: (2036, 67, 0, 0, 0) :: (2037, 5, 3, 0, 0) :: (2038, 69, 320, 0, 231) :: (2041, 6, 5, 0, 0) :: (2043, 5, 2, 0, 0) :: (2044, 63, 0, 0, 0) :: (2045, 3, 4, 0, 0) :: (2047, 0, 1, 0, 0) :: (2048, 11, 0, 0, 0) :: (2049, 67, 0, 0, 0) :: (2050, 63, 0, 0, 0) :: (2051, 3, 4, 0, 0) :: (2053, 0, 2, 0, 0) :: (2054, 11, 0, 0, 0) :: (2055, 67, 0, 0, 0) :: (2056, 47, 275, 0, 233) :: (2059, 6, 6, 0, 0) :: (2061, 5, 2, 0, 0) :: (2062, 47, 162, 0, 116) :: (2065, 3, 5, 0, 0) :: (2067, 22, 0, 2072, 0) :: (2070, 0, 0, 0, 0) :: (2071, 27, 0, 0, 0) :: k323_2072
def k323_2021 : List mj_O := (2021, 23, 0, 2254, 0) :: k323_2024
def k323_2004 : List mj_O := (2004, 3, 5, 0, 0) :: (2006, 21, 1, 2021, 0) :: (2009, 5, 3, 0, 0) :: (2010, 0, 0, 0, 0) :: (2011, 39, 0, 0, 0) :: (2012, 3, 6, 0, 0) :: (2014, 15, 0, 0, 0) :: (2015, 17, 0, 0, 0) :: (2016, 21, 0, 2021, 0) :: (2019, 0, 0, 0, 0) :: (2020, 27, 0, 0, 0) :: k323_2021
def k323_1944 : List mj_O := (1944, 5, 1, 0, 0) :: (1945, 63, 0, 0, 0) :: (1946, 3, 4, 0, 0) :: (1948, 0, 1, 0, 0) :: (1949, 11, 0, 0, 0) :: (1950, 67, 0, 0, 0) :: (1951, 63, 0, 0, 0) :: (1952, 3, 4, 0, 0) :: (1954, 0, 2, 0, 0) :: (1955, 11, 0, 0, 0) :: (1956, 67, 0, 0, 0) :: (1957, 63, 0, 0, 0) :: (1958, 3, 4, 0, 0) :: (1960, 0, 3, 0, 0) :: (1961, 11, 0, 0, 0) :: (1962, 67, 0, 0, 0) :: (1963, 5, 3, 0, 0) :: (1964, 69, 319, 0, 228) :: (1967, 6, 5, 0, 0) :: (1969, 5, 2, 0, 0) :: (1970, 63, 0, 0, 0) :: (1971, 3, 4, 0, 0) :: (1973, 0, 1, 0, 0) :: (1974, 11, 0, 0, 0) :: (1975, 67, 0, 0, 0) :: (1976, 63, 0, 0, 0) :: (1977, 3, 4, 0, 0) :: (1979, 0, 2, 0, 0) :: (1980, 11, 0, 0, 0) :: (1981, 67, 0, 0, 0) :: (1982, 63, 0, 0, 0) :: (1983, 3, 4, 0, 0) :: (1985, 0, 3, 0, 0) :: (1986, 11, 0, 0, 0) :: (1987, 67, 0, 0, 0) :: (1988, 47, 279, 0, 230) :: (1991, 6, 6, 0, 0) :: (1993, 5, 2, 0, 0) :: (1994, 47, 162, 0, 116) :: (1997, 3, 5, 0, 0) :: (1999, 22, 0, 2004, 0) :: (2002, 0, 0, 0, 0) :: (2003, 27, 0, 0, 0) :: k323_2004
def k323_1931 : List mj_O := (1931, 5, 1, 0, 0) :: (1932, 47, 143, 0, 224) :: (1935, 5, 2, 0, 0) :: (1936, 47, 273, 0, 227) :: (1939, 22, 0, 2254, 0) :: (1942, 0, 0, 0, 0) :: (1943, 27, 0, 0, 0) :: k323_1944
def k323_1928 : List mj_O := (1928, 23, 0, 2254, 0) :: k323_1931
def k323_1911 : List mj_O := (1911, 3, 5, 0, 0) :: (1913, 21, 1, 1928, 0) :: (1916, 5, 3, 0, 0) :: (1917, 0, 0, 0, 0) :: (1918, 39, 0, 0, 0) :: (1919, 3, 6, 0, 0) :: (1921, 15, 0, 0, 0) :: (1922, 17, 0, 0, 0) :: (1923, 21, 0, 1928, 0) :: (1926, 0, 0, 0, 0) :: (1927, 27, 0, 0, 0) :: k323_1928
def k323_1851 : List mj_O := (1851, 5, 1, 0, 0) :: (1852, 63, 0, 0, 0) :: (1853, 3, 4, 0, 0) :: (1855, 0, 1, 0, 0) :: (1856, 11, 0, 0, 0) :: (1857, 67, 0, 0, 0) :: (1858, 63, 0, 0, 0) :: (1859, 3, 4, 0, 0) :: (1861, 0, 2, 0, 0) :: (1862, 11, 0, 0, 0) :: (1863, 67, 0, 0, 0) :: (1864, 63, 0, 0, 0) :: (1865, 3, 4, 0, 0) :: (1867, 0, 3, 0, 0) :: (1868, 11, 0, 0, 0) :: (1869, 67, 0, 0, 0) :: (1870, 5, 3, 0, 0) :: (1871, 69, 318, 0, 221) :: (1874, 6, 5, 0, 0) :: (1876, 5, 2, 0, 0) :: (1877, 63, 0, 0, 0) :: (1878, 3, 4, 0, 0) :: (1880, 0, 1, 0, 0) :: (1881, 11, 0, 0, 0) :: (1882, 67, 0, 0, 0) :: (1883, 63, 0, 0, 0) :: (1884, 3, 4, 0, 0) :: (1886, 0, 2, 0, 0) :: (1887, 11, 0, 0, 0) :: (1888, 67, 0, 0, 0) :: (1889, 63, 0, 0, 0) :: (1890, 3, 4, 0, 0) :: (1892, 0, 3, 0, 0) :: (1893, 11, 0, 0, 0) :: (1894, 67, 0, 0, 0) :: (1895, 47, 272, 0, 223) :: (1898, 6, 6, 0, 0) :: (1900, 5, 2, 0, 0) :: (1901, 47, 162, 0, 116) :: (1904, 3, 5, 0, 0) :: (1906, 22, 0, 1911, 0) :: (1909, 0, 0, 0, 0) :: (1910, 27, 0, 0, 0) :: k323_1911
def k323_1848 : List mj_O := (1848, 23, 0, 2254, 0) :: k323_1851
def k323_1831 : List mj_O := (1831, 3, 5, 0, 0) :: (1833, 21, 1, 1848, 0) :: (1836, 5, 3, 0, 0) :: (1837, 0, 0, 0, 0) :: (1838, 39, 0, 0, 0) :: (1839, 3, 6, 0, 0) :: (1841, 15, 0, 0, 0) :: (1842, 17, 0, 0, 0) :: (1843, 21, 0, 1848, 0) :: (1846, 0, 0, 0, 0) :: (1847, 27, 0, 0, 0) :: k323_1848
def k323_1783 : List mj_O := (1783, 5, 1, 0, 0) :: (1784, 63, 0, 0, 0) :: (1785, 3, 4, 0, 0) :: (1787, 0, 1, 0, 0) :: (1788, 11, 0, 0, 0) :: (1789, 67, 0, 0, 0) :: (1790, 63, 0, 0, 0) :: (1791, 3, 4, 0, 0) :: (1793, 0, 2, 0, 0) :: (1794, 11, 0, 0, 0) :: (1795, 67, 0, 0, 0) :: (1796, 5, 3, 0, 0) :: (1797, 69, 317, 0, 218) :: (1800, 6, 5, 0, 0) :: (1802, 5, 2, 0, 0) :: (1803, 63, 0, 0, 0) :: (1804, 3, 4, 0, 0) :: (1806, 0, 1, 0, 0) :: (1807, 11, 0, 0, 0) :: (1808, 67, 0, 0, 0) :: (1809, 63, 0, 0, 0) :: (1810, 3, 4, 0, 0) :: (1812, 0, 2, 0, 0) :: (1813, 11, 0, 0, 0) :: (1814, 67, 0, 0, 0) :: (1815, 47, 270, 0, 220) :: (1818, 6, 6, 0, 0) :: (1820, 5, 2, 0, 0) :: (1821, 47, 162, 0, 116) :: (1824, 3, 5, 0, 0) :: (1826, 22, 0, 1831, 0) :: (1829, 0, 0, 0, 0) :: (1830, 27, 0, 0, 0) :: k323_1831
def k323_1780 : List mj_O := (1780, 23, 0, 2254, 0) :: k323_1783
def k323_1763 : List mj_O := (1763, 3, 5, 0, 0) :: (1765, 21, 1, 1780, 0) :: (1768, 5, 3, 0, 0) :: (1769, 0, 0, 0, 0) :: (1770, 39, 0, 0, 0) :: (1771, 3, 6, 0, 0) :: (1773, 15, 0, 0, 0) :: (1774, 17, 0, 0, 0) :: (1775, 21, 0, 1780, 0) :: (1778, 0, 0, 0, 0) :: (1779, 27, 0, 0, 0) :: k323_1780
def k323_1727 : List mj_O := (1727, 5, 1, 0, 0) :: (1728, 63, 0, 0, 0) :: (1729, 3, 4, 0, 0) :: (1731, 0, 1, 0, 0) :: (1732, 11, 0, 0, 0) :: (1733, 67, 0, 0, 0) :: (1734, 5, 3, 0, 0) :: (1735, 69, 316, 0, 215) :: (1738, 6, 5, 0, 0) :: (1740, 5, 2, 0, 0) :: (1741, 63, 0, 0, 0) :: (1742, 3, 4, 0, 0) :: (1744, 0, 1, 0, 0) :: (1745, 11, 0, 0, 0) :: (1746, 67, 0, 0, 0) :: (1747, 47, 267, 0, 217) :: (1750, 6, 6, 0, 0) :: (1752, 5, 2, 0, 0) :: (1753, 47, 162, 0, 116) :: (1756, 3, 5, 0, 0) :: (1758, 22, 0, 1763, 0) :: (1761, 0, 0, 0, 0) :: (1762, 27, 0, 0, 0) :: k323_1763
def k323_1724 : List mj_O := (1724, 23, 0, 2254, 0) :: k323_1727
def k323_1707 : List mj_O := (1707, 3, 5, 0, 0) :: (1709, 21, 1, 1724, 0) :: (1712, 5, 3, 0, 0) :: (1713, 0, 0, 0, 0) :: (1714, 39, 0, 0, 0) :: (1715, 3, 6, 0, 0) :: (1717, 15, 0, 0, 0) :: (1718, 17, 0, 0, 0) :: (1719, 21, 0, 1724, 0) :: (1722, 0, 0, 0, 0) :: (1723, 27, 0, 0, 0) :: k323_1724
def k323_1671 : List mj_O := (1671, 5, 1, 0, 0) :: (1672, 63, 0, 0, 0) :: (1673, 3, 4, 0, 0) :: (1675, 0, 1, 0, 0) :: (1676, 11, 0, 0, 0) :: (1677, 67, 0, 0, 0) :: (1678, 5, 3, 0, 0) :: (1679, 69, 315, 0, 212) :: (1682, 6, 5, 0, 0) :: (1684, 5, 2, 0, 0) :: (1685, 63, 0, 0, 0) :: (1686, 3, 4, 0, 0) :: (1688, 0, 1, 0, 0) :: (1689, 11, 0, 0, 0) :: (1690, 67, 0, 0, 0) :: (1691, 47, 266, 0, 214) :: (1694, 6, 6, 0, 0) :: (1696, 5, 2, 0, 0) :: (1697, 47, 162, 0, 116) :: (1700, 3, 5, 0, 0) :: (1702, 22, 0, 1707, 0) :: (1705, 0, 0, 0, 0) :: (1706, 27, 0, 0, 0) :: k323_1707
def k323_1660 : List mj_O := (1660, 5, 1, 0, 0) :: (1661, 47, 134, 0, 208) :: (1664, 5, 2, 0, 0) :: (1665, 47, 263, 0, 211) :: (1668, 23, 0, 2254, 0) :: k323_1671
def k323_1657 : List mj_O := (1657, 23, 0, 2254, 0) :: k323_1660
def k323_1640 : List mj_O := (1640, 3, 5, 0, 0) :: (1642, 21, 1, 1657, 0) :: (1645, 5, 3, 0, 0) :: (1646, 0, 0, 0, 0) :: (1647, 39, 0, 0, 0) :: (1648, 3, 6, 0, 0) :: (1650, 15, 0, 0, 0) :: (1651, 17, 0, 0, 0) :: (1652, 21, 0, 1657, 0) :: (1655, 0, 0, 0, 0) :: (1656, 27, 0, 0, 0) :: k323_1657
def k323_1580 : List mj_O := (1580, 5, 1, 0, 0) :: (1581, 63, 0, 0, 0) :: (1582, 3, 4, 0, 0) :: (1584, 0, 1, 0, 0) :: (1585, 11, 0, 0, 0) :: (1586, 67, 0, 0, 0) :: (1587, 63, 0, 0, 0) :: (1588, 3, 4, 0, 0) :: (1590, 0, 2, 0, 0) :: (1591, 11, 0, 0, 0) :: (1592, 67, 0, 0, 0) :: (1593, 63, 0, 0, 0) :: (1594, 3, 4, 0, 0) :: (1596, 0, 3, 0, 0) :: (1597, 11, 0, 0, 0) :: (1598, 67, 0, 0, 0) :: (1599, 5, 3, 0, 0) :: (1600, 69, 314, 0, 205) :: (1603, 6, 5, 0, 0) :: (1605, 5, 2, 0, 0) :: (1606, 63, 0, 0, 0) :: (1607, 3, 4, 0, 0) :: (1609, 0, 1, 0, 0) :: (1610, 11, 0, 0, 0) :: (1611, 67, 0, 0, 0) :: (1612, 63, 0, 0, 0) :: (1613, 3, 4, 0, 0) :: (1615, 0, 2, 0, 0) :: (1616, 11, 0, 0, 0) :: (1617, 67, 0, 0, 0) :: (1618, 63, 0, 0, 0) :: (1619, 3, 4, 0, 0) :: (1621, 0, 3, 0, 0) :: (1622, 11, 0, 0, 0) :: (1623, 67, 0, 0, 0) :: (1624, 47, 262, 0, 207) :: (1627, 6, 6, 0, 0) :: (1629, 5, 2, 0, 0) :: (1630, 47, 162, 0, 116) :: (1633, 3, 5, 0, 0) :: (1635, 22, 0, 1640, 0) :: (1638, 0, 0, 0, 0) :: (1639, 27, 0, 0, 0) :: k323_1640
def k323_1577 : List mj_O := (1577, 23, 0, 2254, 0) :: k323_1580
def k323_1560 : List mj_O := (1560, 3, 5, 0, 0) :: (1562, 21, 1, 1577, 0) :: (1565, 5, 3, 0, 0) :: (1566, 0, 0, 0, 0) :: (1567, 39, 0, 0, 0) :: (1568, 3, 6, 0, 0) :: (1570, 15, 0, 0, 0) :: (1571, 17, 0, 0, 0) :: (1572, 21, 0, 1577, 0) :: (1575, 0, 0, 0, 0) :: (1576, 27, 0, 0, 0) :: k323_1577
def k323_1524 : List mj_O := (1524, 5, 1, 0, 0) :: (1525, 63, 0, 0, 0) :: (1526, 3, 4, 0, 0) :: (1528, 0, 1, 0, 0) :: (1529, 11, 0, 0, 0) :: (1530, 67, 0, 0, 0) :: (1531, 5, 3, 0, 0) :: (1532, 69, 313, 0, 202) :: (1535, 6, 5, 0, 0) :: (1537, 5, 2, 0, 0) :: (1538, 63, 0, 0, 0) :: (1539, 3, 4, 0, 0) :: (1541, 0, 1, 0, 0) :: (1542, 11, 0, 0, 0) :: (1543, 67, 0, 0, 0) :: (1544, 47, 261, 0, 204) :: (1547, 6, 6, 0, 0) :: (1549, 5, 2, 0, 0) :: (1550, 47, 162, 0, 116) :: (1553, 3, 5, 0, 0) :: (1555, 22, 0, 1560, 0) :: (1558, 0, 0, 0, 0) :: (1559, 27, 0, 0, 0) :: k323_1560
def k323_1521 : List mj_O := (1521, 23, 0, 2254, 0) :: k323_1524
def k323_1504 : List mj_O := (1504, 3, 5, 0, 0) :: (1506, 21, 1, 1521, 0) :: (1509, 5, 3, 0, 0) :: (1510, 0, 0, 0, 0) :: (1511, 39, 0, 0, 0) :: (1512, 3, 6, 0, 0) :: (1514, 15, 0, 0, 0) :: (1515, 17, 0, 0, 0) :: (1516, 21, 0, 1521, 0) :: (1519, 0, 0, 0, 0) :: (1520, 27, 0, 0, 0) :: k323_1521
def k323_1444 : List mj_O := (1444, 5, 1, 0, 0) :: (1445, 63, 0, 0, 0) :: (1446, 3, 4, 0, 0) :: (1448, 0, 1, 0, 0) :: (1449, 11, 0, 0, 0) :: (1450, 67, 0, 0, 0) :: (1451, 63, 0, 0, 0) :: (1452, 3, 4, 0, 0) :: (1454, 0, 2, 0, 0) :: (1455, 11, 0, 0, 0) :: (1456, 67, 0, 0, 0) :: (1457, 63, 0, 0, 0) :: (1458, 3, 4, 0, 0) :: (1460, 0, 3, 0, 0) :: (1461, 11, 0, 0, 0) :: (1462, 67, 0, 0, 0) :: (1463, 5, 3, 0, 0) :: (1464, 69, 312, 0, 198) :: (1467, 6, 5, 0, 0) :: (1469, 5, 2, 0, 0) :: (1470, 63, 0, 0, 0) :: (1471, 3, 4, 0, 0) :: (1473, 0, 1, 0, 0) :: (1474, 11, 0, 0, 0) :: (1475, 67, 0, 0, 0) :: (1476, 63, 0, 0, 0) :: (1477, 3, 4, 0, 0) :: (1479, 0, 2, 0, 0) :: (1480, 11, 0, 0, 0) :: (1481, 67, 0, 0, 0) :: (1482, 63, 0, 0, 0) :: (1483, 3, 4, 0, 0) :: (1485, 0, 3, 0, 0) :: (1486, 11, 0, 0, 0) :: (1487, 67, 0, 0, 0) :: (1488, 47, 259, 0, 201) :: (1491, 6, 6, 0, 0) :: (1493, 5, 2, 0, 0) :: (1494, 47, 162, 0, 116) :: (1497, 3, 5, 0, 0) :: (1499, 22, 0, 1504, 0) :: (1502, 0, 0, 0, 0) :: (1503, 27, 0, 0, 0) :: k323_1504
def k323_1441 : List mj_O := (1441, 23, 0, 2254, 0) :: k323_1444
def k323_1424 : List mj_O := (1424, 3, 5, 0, 0) :: (1426, 21, 1, 1441, 0) :: (1429, 5, 3, 0, 0) :: (1430, 0, 0, 0, 0) :: (1431, 39, 0, 0, 0) :: (1432, 3, 6, 0, 0) :: (1434, 15, 0, 0, 0) :: (1435, 17, 0, 0, 0) :: (1436, 21, 0, 1441, 0) :: (1439, 0, 0, 0, 0) :: (1440, 27, 0, 0, 0) :: k323_1441
def k323_1388 : List mj_O := (1388, 5, 1, 0, 0) :: (1389, 63, 0, 0, 0) :: (1390, 3, 4, 0, 0) :: (1392, 0, 1, 0, 0) :: (1393, 11, 0, 0, 0) :: (1394, 67, 0, 0, 0) :: (1395, 5, 3, 0, 0) :: (1396, 69, 311, 0, 195) :: (1399, 6, 5, 0, 0) :: (1401, 5, 2, 0, 0) :: (1402, 63, 0, 0, 0) :: (1403, 3, 4, 0, 0) :: (1405, 0, 1, 0, 0) :: (1406, 11, 0, 0, 0) :: (1407, 67, 0, 0, 0) :: (1408, 47, 257, 0, 197) :: (1411, 6, 6, 0, 0) :: (1413, 5, 2, 0, 0) :: (1414, 47, 162, 0, 116) :: (1417, 3, 5, 0, 0) :: (1419, 22, 0, 1424, 0) :: (1422, 0, 0, 0, 0) :: (1423, 27, 0, 0, 0) :: k323_1424
def k323_1385 : List mj_O := (1385, 23, 0, 2254, 0) :: k323_1388
def k323_1368 : List mj_O := (1368, 3, 5, 0, 0) :: (1370, 21, 1, 1385, 0) :: (1373, 5, 3, 0, 0) :: (1374, 0, 0, 0, 0) :: (1375, 39, 0, 0, 0) :: (1376, 3, 6, 0, 0) :: (1378, 15, 0, 0, 0) :: (1379, 17, 0, 0, 0) :: (1380, 21, 0, 1385, 0) :: (1383, 0, 0, 0, 0) :: (1384, 27, 0, 0, 0) :: k323_1385
def k323_1332 : List mj_O := (1332, 5, 1, 0, 0) :: (1333, 63, 0, 0, 0) :: (1334, 3, 4, 0, 0) :: (1336, 0, 1, 0, 0) :: (1337, 11, 0, 0, 0) :: (1338, 67, 0, 0, 0) :: (1339, 5, 3, 0, 0) :: (1340, 69, 310, 0, 192) :: (1343, 6, 5, 0, 0) :: (1345, 5, 2, 0, 0) :: (1346, 63, 0, 0, 0) :: (1347, 3, 4, 0, 0) :: (1349, 0, 1, 0, 0) :: (1350, 11, 0, 0, 0) :: (1351, 67, 0, 0, 0) :: (1352, 47, 256, 0, 194) :: (1355, 6, 6, 0, 0) :: (1357, 5, 2, 0, 0) :: (1358, 47, 162, 0, 116) :: (1361, 3, 5, 0, 0) :: (1363, 22, 0, 1368, 0) :: (1366, 0, 0, 0, 0) :: (1367, 27, 0, 0, 0) :: k323_1368
def k323_1318 : List mj_O := (1318, 5, 1, 0, 0) :: (1319, 47, 125, 0, 187) :: (1322, 5, 2, 0, 0) :: (1323, 47, 248, 0, 191) :: (1326, 17, 0, 0, 0) :: (1327, 21, 0, 2254, 0) :: (1330, 0, 0, 0, 0) :: (1331, 27, 0, 0, 0) :: k323_1332
def k323_1315 : List mj_O := (1315, 23, 0, 2254, 0) :: k323_1318
def k323_1298 : List mj_O := (1298, 3, 5, 0, 0) :: (1300, 21, 1, 1315, 0) :: (1303, 5, 3, 0, 0) :: (1304, 0, 0, 0, 0) :: (1305, 39, 0, 0, 0) :: (1306, 3, 6, 0, 0) :: (1308, 15, 0, 0, 0) :: (1309, 17, 0, 0, 0) :: (1310, 21, 0, 1315, 0) :: (1313, 0, 0, 0, 0) :: (1314, 27, 0, 0, 0) :: k323_1315
def k323_1262 : List mj_O := (1262, 5, 1, 0, 0) :: (1263, 63, 0, 0, 0) :: (1264, 3, 4, 0, 0) :: (1266, 0, 1, 0, 0) :: (1267, 11, 0, 0, 0) :: (1268, 67, 0, 0, 0) :: (1269, 5, 3, 0, 0) :: (1270, 69, 309, 0, 184) :: (1273, 6, 5, 0, 0) :: (1275, 5, 2, 0, 0) :: (1276, 63, 0, 0, 0) :: (1277, 3, 4, 0, 0) :: (1279, 0, 1, 0, 0) :: (1280, 11, 0, 0, 0) :: (1281, 67, 0, 0, 0) :: (1282, 47, 247, 0, 186) :: (1285, 6, 6, 0, 0) :: (1287, 5, 2, 0, 0) :: (1288, 47, 162, 0, 116) :: (1291, 3, 5, 0, 0) :: (1293, 22, 0, 1298, 0) :: (1296, 0, 0, 0, 0) :: (1297, 27, 0, 0, 0) :: k323_1298
def k323_1249 : List mj_O := (1249, 5, 1, 0, 0) :: (1250, 47, 123, 0, 180) :: (1253, 5, 2, 0, 0) :: (1254, 47, 240, 0, 183) :: (1257, 22, 0, 2254, 0) :: (1260, 0, 0, 0, 0) :: (1261, 27, 0, 0, 0) :: k323_1262
def k323_1236 : List mj_O := (1236, 5, 1, 0, 0) :: (1237, 47, 122, 0, 176) :: (1240, 5, 2, 0, 0) :: (1241, 47, 238, 0, 179) :: (1244, 22, 0, 2254, 0) :: (1247, 0, 0, 0, 0) :: (1248, 27, 0, 0, 0) :: k323_1249
def k323_1223 : List mj_O := (1223, 5, 1, 0, 0) :: (1224, 47, 121, 0, 172) :: (1227, 5, 2, 0, 0) :: (1228, 47, 237, 0, 175) :: (1231, 22, 0, 2254, 0) :: (1234, 0, 0, 0, 0) :: (1235, 27, 0, 0, 0) :: k323_1236
def k323_1220 : List mj_O := (1220, 23, 0, 2254, 0) :: k323_1223
def k323_1203 : List mj_O := (1203, 3, 5, 0, 0) :: (1205, 21, 1, 1220, 0) :: (1208, 5, 3, 0, 0) :: (1209, 0, 0, 0, 0) :: (1210, 39, 0, 0, 0) :: (1211, 3, 6, 0, 0) :: (1213, 15, 0, 0, 0) :: (1214, 17, 0, 0, 0) :: (1215, 21, 0, 1220, 0) :: (1218, 0, 0, 0, 0) :: (1219, 27, 0, 0, 0) :: k323_1220
def k323_1167 : List mj_O := (1167, 5, 1, 0, 0) :: (1168, 63, 0, 0, 0) :: (1169, 3, 4, 0, 0) :: (1171, 0, 1, 0, 0) :: (1172, 11, 0, 0, 0) :: (1173, 67, 0, 0, 0) :: (1174, 5, 3, 0, 0) :: (1175, 69, 308, 0, 169) :: (1178, 6, 5, 0, 0) :: (1180, 5, 2, 0, 0) :: (1181, 63, 0, 0, 0) :: (1182, 3, 4, 0, 0) :: (1184, 0, 1, 0, 0) :: (1185, 11, 0, 0, 0) :: (1186, 67, 0, 0, 0) :: (1187, 47, 236, 0, 171) :: (1190, 6, 6, 0, 0) :: (1192, 5, 2, 0, 0) :: (1193, 47, 162, 0, 116) :: (1196, 3, 5, 0, 0) :: (1198, 22, 0, 1203, 0) :: (1201, 0, 0, 0, 0) :: (1202, 27, 0, 0, 0) :: k323_1203
def k323_1164 : List mj_O := (1164, 23, 0, 2254, 0) :: k323_1167
def k323_1147 : List mj_O := (1147, 3, 5, 0, 0) :: (1149, 21, 1, 1164, 0) :: (1152, 5, 3, 0, 0) :: (1153, 0, 0, 0, 0) :: (1154, 39, 0, 0, 0) :: (1155, 3, 6, 0, 0) :: (1157, 15, 0, 0, 0) :: (1158, 17, 0, 0, 0) :: (1159, 21, 0, 1164, 0) :: (1162, 0, 0, 0, 0) :: (1163, 27, 0, 0, 0) :: k323_1164
def k323_1111 : List mj_O := (1111, 5, 1, 0, 0) :: (1112, 63, 0, 0, 0) :: (1113, 3, 4, 0, 0) :: (1115, 0, 1, 0, 0) :: (1116, 11, 0, 0, 0) :: (1117, 67, 0, 0, 0) :: (1118, 5, 3, 0, 0) :: (1119, 69, 307, 0, 166) :: (1122, 6, 5, 0, 0) :: (1124, 5, 2, 0, 0) :: (1125, 63, 0, 0, 0) :: (1126, 3, 4, 0, 0) :: (1128, 0, 1, 0, 0) :: (1129, 11, 0, 0, 0) :: (1130, 67, 0, 0, 0) :: (1131, 47, 235, 0, 168) :: (1134, 6, 6, 0, 0) :: (1136, 5, 2, 0, 0) :: (1137, 47, 162, 0, 116) :: (1140, 3, 5, 0, 0) :: (1142, 22, 0, 1147, 0) :: (1145, 0, 0, 0, 0) :: (1146, 27, 0, 0, 0) :: k323_1147
def k323_1108 : List mj_O := (1108, 23, 0, 2254, 0) :: k323_1111
def k323_1091 : List mj_O := (1091, 3, 5, 0, 0) :: (1093, 21, 1, 1108, 0) :: (1096, 5, 3, 0, 0) :: (1097, 0, 0, 0, 0) :: (1098, 39, 0, 0, 0) :: (1099, 3, 6, 0, 0) :: (1101, 15, 0, 0, 0) :: (1102, 17, 0, 0, 0) :: (1103, 21, 0, 1108, 0) :: (1106, 0, 0, 0, 0) :: (1107, 27, 0, 0, 0) :: k323_1108
def k323_1055 : List mj_O := (1055, 5, 1, 0, 0) :: (1056, 63, 0, 0, 0) :: (1057, 3, 4, 0, 0) :: (1059, 0, 1, 0, 0) :: (1060, 11, 0, 0, 0) :: (1061, 67, 0, 0, 0) :: (1062, 5, 3, 0, 0) :: (1063, 69, 306, 0, 163) :: (1066, 6, 5, 0, 0) :: (1068, 5, 2, 0, 0) :: (1069, 63, 0, 0, 0) :: (1070, 3, 4, 0, 0) :: (1072, 0, 1, 0, 0) :: (1073, 11, 0, 0, 0) :: (1074, 67, 0, 0, 0) :: (1075, 47, 234, 0, 165) :: (1078, 6, 6, 0, 0) :: (1080, 5, 2, 0, 0) :: (1081, 47, 162, 0, 116) :: (1084, 3, 5, 0, 0) :: (1086, 22, 0, 1091, 0) :: (1089, 0, 0, 0, 0) :: (1090, 27, 0, 0, 0) :: k323_1091
def k323_1052 : List mj_O := (1052, 23, 0, 2254, 0) :: k323_1055
def k323_1035 : List mj_O := (1035, 3, 5, 0, 0) :: (1037, 21, 1, 1052, 0) :: (1040, 5, 3, 0, 0) :: (1041, 0, 0, 0, 0) :: (1042, 39, 0, 0, 0) :: (1043, 3, 6, 0, 0) :: (1045, 15, 0, 0, 0) :: (1046, 17, 0, 0, 0) :: (1047, 21, 0, 1052, 0) :: (1050, 0, 0, 0, 0) :: (1051, 27, 0, 0, 0) :: k323_1052
def k323_999 : List mj_O := (999, 5, 1, 0, 0) :: (1000, 63, 0, 0, 0) :: (1001, 3, 4, 0, 0) :: (1003, 0, 1, 0, 0) :: (1004, 11, 0, 0, 0) :: (1005, 67, 0, 0, 0) :: (1006, 5, 3, 0, 0) :: (1007, 69, 305, 0, 160) :: (1010, 6, 5, 0, 0) :: (1012, 5, 2, 0, 0) :: (1013, 63, 0, 0, 0) :: (1014, 3, 4, 0, 0) :: (1016, 0, 1, 0, 0) :: (1017, 11, 0, 0, 0) :: (1018, 67, 0, 0, 0) :: (1019, 47, 233, 0, 162) :: (1022, 6, 6, 0, 0) :: (1024, 5, 2, 0, 0) :: (1025, 47, 162, 0, 116) :: (1028, 3, 5, 0, 0) :: (1030, 22, 0, 1035, 0) :: (1033, 0, 0, 0, 0) :: (1034, 27, 0, 0, 0) :: k323_1035
def k323_996 : List mj_O := (996, 23, 0, 2254, 0) :: k323_999
def k323_979 : List mj_O := (979, 3, 5, 0, 0) :: (981, 21, 1, 996, 0) :: (984, 5, 3, 0, 0) :: (985, 0, 0, 0, 0) :: (986, 39, 0, 0, 0) :: (987, 3, 6, 0, 0) :: (989, 15, 0, 0, 0) :: (990, 17, 0, 0, 0) :: (991, 21, 0, 996, 0) :: (994, 0, 0, 0, 0) :: (995, 27, 0, 0, 0) :: k323_996
def k323_931 : List mj_O := (931, 5, 1, 0, 0) :: (932, 63, 0, 0, 0) :: (933, 3, 4, 0, 0) :: (935, 0, 1, 0, 0) :: (936, 11, 0, 0, 0) :: (937, 67, 0, 0, 0) :: (938, 63, 0, 0, 0) :: (939, 3, 4, 0, 0) :: (941, 0, 2, 0, 0) :: (942, 11, 0, 0, 0) :: (943, 67, 0, 0, 0) :: (944, 5, 3, 0, 0) :: (945, 69, 304, 0, 157) :: (948, 6, 5, 0, 0) :: (950, 5, 2, 0, 0) :: (951, 63, 0, 0, 0) :: (952, 3, 4, 0, 0) :: (954, 0, 1, 0, 0) :: (955, 11, 0, 0, 0) :: (956, 67, 0, 0, 0) :: (957, 63, 0, 0, 0) :: (958, 3, 4, 0, 0) :: (960, 0, 2, 0, 0) :: (961, 11, 0, 0, 0) :: (962, 67, 0, 0, 0) :: (963, 47, 232, 0, 159) :: (966, 6, 6, 0, 0) :: (968, 5, 2, 0, 0) :: (969, 47, 162, 0, 116) :: (972, 3, 5, 0, 0) :: (974, 22, 0, 979, 0) :: (977, 0, 0, 0, 0) :: (978, 27, 0, 0, 0) :: k323_979
def k323_918 : List mj_O := (918, 5, 1, 0, 0) :: (919, 47, 114, 0, 153) :: (922, 5, 2, 0, 0) :: (923, 47, 199, 0, 156) :: (926, 22, 0, 2254, 0) :: (929, 0, 0, 0, 0) :: (930, 27, 0, 0, 0) :: k323_931
def k323_915 : List mj_O := (915, 23, 0, 2254, 0) :: k323_918
def k323_909 : List mj_O := (909, 17, 0, 0, 0) :: (910, 21, 0, 915, 0) :: (913, 0, 0, 0, 0) :: (914, 27, 0, 0, 0) :: k323_915
def k323_908 : List mj_O := (908, 2, 0, 0, 0) :: k323_909
def k323_891 : List mj_O := (891, 3, 5, 0, 0) :: (893, 21, 1, 915, 0) :: (896, 5, 3, 0, 0) :: (897, 0, 0, 0, 0) :: (898, 39, 0, 0, 0) :: (899, 3, 6, 0, 0) :: (901, 21, 0, 908, 0) :: (904, 2, 1, 0, 0) :: (905, 23, 0, 909, 0) :: k323_908
def k323_843 : List mj_O := (843, 5, 1, 0, 0) :: (844, 63, 0, 0, 0) :: (845, 3, 4, 0, 0) :: (847, 0, 1, 0, 0) :: (848, 11, 0, 0, 0) :: (849, 67, 0, 0, 0) :: (850, 63, 0, 0, 0) :: (851, 3, 4, 0, 0) :: (853, 0, 2, 0, 0) :: (854, 11, 0, 0, 0) :: (855, 67, 0, 0, 0) :: (856, 5, 3, 0, 0) :: (857, 69, 303, 0, 150) :: (860, 6, 5, 0, 0) :: (862, 5, 2, 0, 0) :: (863, 63, 0, 0, 0) :: (864, 3, 4, 0, 0) :: (866, 0, 1, 0, 0) :: (867, 11, 0, 0, 0) :: (868, 67, 0, 0, 0) :: (869, 63, 0, 0, 0) :: (870, 3, 4, 0, 0) :: (872, 0, 2, 0, 0) :: (873, 11, 0, 0, 0) :: (874, 67, 0, 0, 0) :: (875, 47, 230, 0, 152) :: (878, 6, 6, 0, 0) :: (880, 5, 2, 0, 0) :: (881, 47, 162, 0, 116) :: (884, 3, 5, 0, 0) :: (886, 22, 0, 891, 0) :: (889, 0, 0, 0, 0) :: (890, 27, 0, 0, 0) :: k323_891
def k323_840 : List mj_O := (840, 23, 0, 2254, 0) :: k323_843
def k323_823 : List mj_O := (823, 3, 5, 0, 0) :: (825, 21, 1, 840, 0) :: (828, 5, 3, 0, 0) :: (829, 0, 0, 0, 0) :: (830, 39, 0, 0, 0) :: (831, 3, 6, 0, 0) :: (833, 15, 0, 0, 0) :: (834, 17, 0, 0, 0) :: (835, 21, 0, 840, 0) :: (838, 0, 0, 0, 0) :: (839, 27, 0, 0, 0) :: k323_840
def k323_787 : List mj_O := (787, 5, 1, 0, 0) :: (788, 63, 0, 0, 0) :: (789, 3, 4, 0, 0) :: (791, 0, 1, 0, 0) :: (792, 11, 0, 0, 0) :: (793, 67, 0, 0, 0) :: (794, 5, 3, 0, 0) :: (795, 69, 302, 0, 147) :: (798, 6, 5, 0, 0) :: (800, 5, 2, 0, 0) :: (801, 63, 0, 0, 0) :: (802, 3, 4, 0, 0) :: (804, 0, 1, 0, 0) :: (805, 11, 0, 0, 0) :: (806, 67, 0, 0, 0) :: (807, 47, 229, 0, 149) :: (810, 6, 6, 0, 0) :: (812, 5, 2, 0, 0) :: (813, 47, 162, 0, 116) :: (816, 3, 5, 0, 0) :: (818, 22, 0, 823, 0) :: (821, 0, 0, 0, 0) :: (822, 27, 0, 0, 0) :: k323_823
def k323_784 : List mj_O := (784, 23, 0, 2254, 0) :: k323_787
def k323_767 : List mj_O := (767, 3, 5, 0, 0) :: (769, 21, 1, 784, 0) :: (772, 5, 3, 0, 0) :: (773, 0, 0, 0, 0) :: (774, 39, 0, 0, 0) :: (775, 3, 6, 0, 0) :: (777, 15, 0, 0, 0) :: (778, 17, 0, 0, 0) :: (779, 21, 0, 784, 0) :: (782, 0, 0, 0, 0) :: (783, 27, 0, 0, 0) :: k323_784
def k323_719 : List mj_O := (719, 5, 1, 0, 0) :: (720, 63, 0, 0, 0) :: (721, 3, 4, 0, 0) :: (723, 0, 1, 0, 0) :: (724, 11, 0, 0, 0) :: (725, 67, 0, 0, 0) :: (726, 63, 0, 0, 0) :: (727, 3, 4, 0, 0) :: (729, 0, 2, 0, 0) :: (730, 11, 0, 0, 0) :: (731, 67, 0, 0, 0) :: (732, 5, 3, 0, 0) :: (733, 69, 301, 0, 144) :: (736, 6, 5, 0, 0) :: (738, 5, 2, 0, 0) :: (739, 63, 0, 0, 0) :: (740, 3, 4, 0, 0) :: (742, 0, 1, 0, 0) :: (743, 11, 0, 0, 0) :: (744, 67, 0, 0, 0) :: (745, 63, 0, 0, 0) :: (746, 3, 4, 0, 0) :: (748, 0, 2, 0, 0) :: (749, 11, 0, 0, 0) :: (750, 67, 0, 0, 0) :: (751, 47, 228, 0, 146) :: (754, 6, 6, 0, 0) :: (756, 5, 2, 0, 0) :: (757, 47, 162, 0, 116) :: (760, 3, 5, 0, 0) :: (762, 22, 0, 767, 0) :: (765, 0, 0, 0, 0) :: (766, 27, 0, 0, 0) :: k323_767
def k323_716 : List mj_O := (716, 23, 0, 2254, 0) :: k323_719
def k323_699 : List mj_O := (699, 3, 5, 0, 0) :: (701, 21, 1, 716, 0) :: (704, 5, 3, 0, 0) :: (705, 0, 0, 0, 0) :: (706, 39, 0, 0, 0) :: (707, 3, 6, 0, 0) :: (709, 15, 0, 0, 0) :: (710, 17, 0, 0, 0) :: (711, 21, 0, 716, 0) :: (714, 0, 0, 0, 0) :: (715, 27, 0, 0, 0) :: k323_716
def k323_651 : List mj_O := (651, 5, 1, 0, 0) :: (652, 63, 0, 0, 0) :: (653, 3, 4, 0, 0) :: (655, 0, 1, 0, 0) :: (656, 11, 0, 0, 0) :: (657, 67, 0, 0, 0) :: (658, 63, 0, 0, 0) :: (659, 3, 4, 0, 0) :: (661, 0, 2, 0, 0) :: (662, 11, 0, 0, 0) :: (663, 67, 0, 0, 0) :: (664, 5, 3, 0, 0) :: (665, 69, 300, 0, 141) :: (668, 6, 5, 0, 0) :: (670, 5, 2, 0, 0) :: (671, 63, 0, 0, 0) :: (672, 3, 4, 0, 0) :: (674, 0, 1, 0, 0) :: (675, 11, 0, 0, 0) :: (676, 67, 0, 0, 0) :: (677, 63, 0, 0, 0) :: (678, 3, 4, 0, 0) :: (680, 0, 2, 0, 0) :: (681, 11, 0, 0, 0) :: (682, 67, 0, 0, 0) :: (683, 47, 227, 0, 143) :: (686, 6, 6, 0, 0) :: (688, 5, 2, 0, 0) :: (689, 47, 162, 0, 116) :: (692, 3, 5, 0, 0) :: (694, 22, 0, 699, 0) :: (697, 0, 0, 0, 0) :: (698, 27, 0, 0, 0) :: k323_699
def k323_626 : List mj_O := (626, 5, 1, 0, 0) :: (627, 63, 0, 0, 0) :: (628, 3, 4, 0, 0) :: (630, 0, 1, 0, 0) :: (631, 11, 0, 0, 0) :: (632, 67, 0, 0, 0) :: (633, 47, 109, 0, 137) :: (636, 5, 2, 0, 0) :: (637, 63, 0, 0, 0) :: (638, 3, 4, 0, 0) :: (640, 0, 1, 0, 0) :: (641, 11, 0, 0, 0) :: (642, 67, 0, 0, 0) :: (643, 47, 226, 0, 140) :: (646, 22, 0, 2254, 0) :: (649, 0, 0, 0, 0) :: (650, 27, 0, 0, 0) :: k323_651
def k323_623 : List mj_O := (623, 23, 0, 2254, 0) :: k323_626
def k323_606 : List mj_O := (606, 3, 5, 0, 0) :: (608, 21, 1, 623, 0) :: (611, 5, 3, 0, 0) :: (612, 0, 0, 0, 0) :: (613, 39, 0, 0, 0) :: (614, 3, 6, 0, 0) :: (616, 15, 0, 0, 0) :: (617, 17, 0, 0, 0) :: (618, 21, 0, 623, 0) :: (621, 0, 0, 0, 0) :: (622, 27, 0, 0, 0) :: k323_623
def k323_558 : List mj_O := (558, 5, 1, 0, 0) :: (559, 63, 0, 0, 0) :: (560, 3, 4, 0, 0) :: (562, 0, 1, 0, 0) :: (563, 11, 0, 0, 0) :: (564, 67, 0, 0, 0) :: (565, 63, 0, 0, 0) :: (566, 3, 4, 0, 0) :: (568, 0, 2, 0, 0) :: (569, 11, 0, 0, 0) :: (570, 67, 0, 0, 0) :: (571, 5, 3, 0, 0) :: (572, 69, 299, 0, 134) :: (575, 6, 5, 0, 0) :: (577, 5, 2, 0, 0) :: (578, 63, 0, 0, 0) :: (579, 3, 4, 0, 0) :: (581, 0, 1, 0, 0) :: (582, 11, 0, 0, 0) :: (583, 67, 0, 0, 0) :: (584, 63, 0, 0, 0) :: (585, 3, 4, 0, 0) :: (587, 0, 2, 0, 0) :: (588, 11, 0, 0, 0) :: (589, 67, 0, 0, 0) :: (590, 47, 225, 0, 136) :: (593, 6, 6, 0, 0) :: (595, 5, 2, 0, 0) :: (596, 47, 162, 0, 116) :: (599, 3, 5, 0, 0) :: (601, 22, 0, 606, 0) :: (604, 0, 0, 0, 0) :: (605, 27, 0, 0, 0) :: k323_606
def k323_555 : List mj_O := (555, 23, 0, 2254, 0) :: k323_558
def k323_538 : List mj_O := (538, 3, 5, 0, 0) :: (540, 21, 1, 555, 0) :: (543, 5, 3, 0, 0) :: (544, 0, 0, 0, 0) :: (545, 39, 0, 0, 0) :: (546, 3, 6, 0, 0) :: (548, 15, 0, 0, 0) :: (549, 17, 0, 0, 0) :: (550, 21, 0, 555, 0) :: (553, 0, 0, 0, 0) :: (554, 27, 0, 0, 0) :: k323_555
def k323_490 : List mj_O := (490, 5, 1, 0, 0) :: (491, 63, 0, 0, 0) :: (492, 3, 4, 0, 0) :: (494, 0, 1, 0, 0) :: (495, 11, 0, 0, 0) :: (496, 67, 0, 0, 0) :: (497, 63, 0, 0, 0) :: (498, 3, 4, 0, 0) :: (500, 0, 2, 0, 0) :: (501, 11, 0, 0, 0) :: (502, 67, 0, 0, 0) :: (503, 5, 3, 0, 0) :: (504, 69, 298, 0, 131) :: (507, 6, 5, 0, 0) :: (509, 5, 2, 0, 0) :: (510, 63, 0, 0, 0) :: (511, 3, 4, 0, 0) :: (513, 0, 1, 0, 0) :: (514, 11, 0, 0, 0) :: (515, 67, 0, 0, 0) :: (516, 63, 0, 0, 0) :: (517, 3, 4, 0, 0) :: (519, 0, 2, 0, 0) :: (520, 11, 0, 0, 0) :: (521, 67, 0, 0, 0) :: (522, 47, 224, 0, 133) :: (525, 6, 6, 0, 0) :: (527, 5, 2, 0, 0) :: (528, 47, 162, 0, 116) :: (531, 3, 5, 0, 0) :: (533, 22, 0, 538, 0) :: (536, 0, 0, 0, 0) :: (537, 27, 0, 0, 0) :: k323_538
def k323_487 : List mj_O := (487, 23, 0, 2254, 0) :: k323_490
def k323_470 : List mj_O := (470, 3, 5, 0, 0) :: (472, 21, 1, 487, 0) :: (475, 5, 3, 0, 0) :: (476, 0, 0, 0, 0) :: (477, 39, 0, 0, 0) :: (478, 3, 6, 0, 0) :: (480, 15, 0, 0, 0) :: (481, 17, 0, 0, 0) :: (482, 21, 0, 487, 0) :: (485, 0, 0, 0, 0) :: (486, 27, 0, 0, 0) :: k323_487
def k323_422 : List mj_O := (422, 5, 1, 0, 0) :: (423, 63, 0, 0, 0) :: (424, 3, 4, 0, 0) :: (426, 0, 1, 0, 0) :: (427, 11, 0, 0, 0) :: (428, 67, 0, 0, 0) :: (429, 63, 0, 0, 0) :: (430, 3, 4, 0, 0) :: (432, 0, 2, 0, 0) :: (433, 11, 0, 0, 0) :: (434, 67, 0, 0, 0) :: (435, 5, 3, 0, 0) :: (436, 69, 297, 0, 127) :: (439, 6, 5, 0, 0) :: (441, 5, 2, 0, 0) :: (442, 63, 0, 0, 0) :: (443, 3, 4, 0, 0) :: (445, 0, 1, 0, 0) :: (446, 11, 0, 0, 0) :: (447, 67, 0, 0, 0) :: (448, 63, 0, 0, 0) :: (449, 3, 4, 0, 0) :: (451, 0, 2, 0, 0) :: (452, 11, 0, 0, 0) :: (453, 67, 0, 0, 0) :: (454, 47, 223, 0, 130) :: (457, 6, 6, 0, 0) :: (459, 5, 2, 0, 0) :: (460, 47, 162, 0, 116) :: (463, 3, 5, 0, 0) :: (465, 22, 0, 470, 0) :: (468, 0, 0, 0, 0) :: (469, 27, 0, 0, 0) :: k323_470
def k323_419 : List mj_O := (419, 23, 0, 2254, 0) :: k323_422
def k323_402 : List mj_O := (402, 3, 5, 0, 0) :: (404, 21, 1, 419, 0) :: (407, 5, 3, 0, 0) :: (408, 0, 0, 0, 0) :: (409, 39, 0, 0, 0) :: (410, 3, 6, 0, 0) :: (412, 15, 0, 0, 0) :: (413, 17, 0, 0, 0) :: (414, 21, 0, 419, 0) :: (417, 0, 0, 0, 0) :: (418, 27, 0, 0, 0) :: k323_419
def k323_366 : List mj_O := (366, 5, 1, 0, 0) :: (367, 63, 0, 0, 0) :: (368, 3, 4, 0, 0) :: (370, 0, 1, 0, 0) :: (371, 11, 0, 0, 0) :: (372, 67, 0, 0, 0) :: (373, 5, 3, 0, 0) :: (374, 69, 296, 0, 124) :: (377, 6, 5, 0, 0) :: (379, 5, 2, 0, 0) :: (380, 63, 0, 0, 0) :: (381, 3, 4, 0, 0) :: (383, 0, 1, 0, 0) :: (384, 11, 0, 0, 0) :: (385, 67, 0, 0, 0) :: (386, 47, 220, 0, 126) :: (389, 6, 6, 0, 0) :: (391, 5, 2, 0, 0) :: (392, 47, 162, 0, 116) :: (395, 3, 5, 0, 0) :: (397, 22, 0, 402, 0) :: (400, 0, 0, 0, 0) :: (401, 27, 0, 0, 0) :: k323_402
def k323_353 : List mj_O := (353, 5, 1, 0, 0) :: (354, 47, 104, 0, 120) :: (357, 5, 2, 0, 0) :: (358, 47, 196, 0, 123) :: (361, 22, 0, 2254, 0) :: (364, 0, 0, 0, 0) :: (365, 27, 0, 0, 0) :: k323_366
def k323_350 : List mj_O := (350, 23, 0, 2254, 0) :: k323_353
def k323_333 : List mj_O := (333, 3, 5, 0, 0) :: (335, 21, 1, 350, 0) :: (338, 5, 3, 0, 0) :: (339, 0, 0, 0, 0) :: (340, 39, 0, 0, 0) :: (341, 3, 6, 0, 0) :: (343, 15, 0, 0, 0) :: (344, 17, 0, 0, 0) :: (345, 21, 0, 350, 0) :: (348, 0, 0, 0, 0) :: (349, 27, 0, 0, 0) :: k323_350
def k323_297 : List mj_O := (297, 5, 1, 0, 0) :: (298, 63, 0, 0, 0) :: (299, 3, 4, 0, 0) :: (301, 0, 1, 0, 0) :: (302, 11, 0, 0, 0) :: (303, 67, 0, 0, 0) :: (304, 5, 3, 0, 0) :: (305, 69, 295, 0, 110) :: (308, 6, 5, 0, 0) :: (310, 5, 2, 0, 0) :: (311, 63, 0, 0, 0) :: (312, 3, 4, 0, 0) :: (314, 0, 1, 0, 0) :: (315, 11, 0, 0, 0) :: (316, 67, 0, 0, 0) :: (317, 47, 195, 0, 115) :: (320, 6, 6, 0, 0) :: (322, 5, 2, 0, 0) :: (323, 47, 162, 0, 116) :: (326, 3, 5, 0, 0) :: (328, 22, 0, 333, 0) :: (331, 0, 0, 0, 0) :: (332, 27, 0, 0, 0) :: k323_333
def k323_224 : List mj_O := (224, 5, 1, 0, 0) :: (225, 63, 0, 0, 0) :: (226, 3, 4, 0, 0) :: (228, 0, 1, 0, 0) :: (229, 11, 0, 0, 0) :: (230, 67, 0, 0, 0) :: (231, 63, 0, 0, 0) :: (232, 3, 4, 0, 0) :: (234, 0, 2, 0, 0) :: (235, 11, 0, 0, 0) :: (236, 67, 0, 0, 0) :: (237, 63, 0, 0, 0) :: (238, 3, 4, 0, 0) :: (240, 0, 3, 0, 0) :: (241, 11, 0, 0, 0) :: (242, 67, 0, 0, 0) :: (243, 63, 0, 0, 0) :: (244, 3, 4, 0, 0) :: (246, 0, 4, 0, 0) :: (247, 11, 0, 0, 0) :: (248, 67, 0, 0, 0) :: (249, 63, 0, 0, 0) :: (250, 3, 4, 0, 0) :: (252, 0, 5, 0, 0) :: (253, 11, 0, 0, 0) :: (254, 67, 0, 0, 0) :: (255, 47, 101, 0, 105) :: (258, 5, 2, 0, 0) :: (259, 63, 0, 0, 0) :: (260, 3, 4, 0, 0) :: (262, 0, 1, 0, 0) :: (263, 11, 0, 0, 0) :: (264, 67, 0, 0, 0) :: (265, 63, 0, 0, 0) :: (266, 3, 4, 0, 0) :: (268, 0, 2, 0, 0) :: (269, 11, 0, 0, 0) :: (270, 67, 0, 0, 0) :: (271, 63, 0, 0, 0) :: (272, 3, 4, 0, 0) :: (274, 0, 3, 0, 0) :: (275, 11, 0, 0, 0) :: (276, 67, 0, 0, 0) :: (277, 63, 0, 0, 0) :: (278, 3, 4, 0, 0) :: (280, 0, 4, 0, 0) :: (281, 11, 0, 0, 0) :: (282, 67, 0, 0, 0) :: (283, 63, 0, 0, 0) :: (284, 3, 4, 0, 0) :: (286, 0, 5, 0, 0) :: (287, 11, 0, 0, 0) :: (288, 67, 0, 0, 0) :: (289, 47, 167, 0, 109) :: (292, 22, 0, 2254, 0) :: (295, 0, 0, 0, 0) :: (296, 27, 0, 0, 0) :: k323_297
def k323_23 : List mj_O := (23, 3, 4, 0, 0) :: (25, 63, 0, 0, 0) :: (26, 68, 0, 0, 0) :: (27, 0, 6, 0, 0) :: (29, 11, 1, 0, 0) :: (30, 22, 4, 2260, 0) :: (33, 63, 0, 0, 0) :: (34, 3, 4, 0, 0) :: (36, 67, 0, 0, 0) :: (37, 0, 63, 0, 0) :: (39, 11, 8, 0, 0) :: (40, 24, 9, 2254, 0) :: k323_224
def k323_0 : List mj_O := (0, 52, 11, 0, 8) :: (3, 18, 0, 0, 0) :: (4, 49, 100, 0, 101) :: (7, 8, 1, 0, 0) :: (8, 52, 12, 0, 102) :: (11, 18, 0, 0, 0) :: (12, 49, 161, 0, 104) :: (15, 8, 2, 0, 0) :: (16, 0, 1, 0, 0) :: (17, 53, 2, 0, 0) :: (19, 8, 3, 0, 0) :: (20, 0, 0, 0, 0) :: (21, 6, 4, 0, 0) :: k323_23
def k323 : Nat → List mj_O := fun t => match t with
  | 0 => k323_0
  | 23 => k323_23
  | 224 => k323_224
  | 297 => k323_297
  | 333 => k323_333
  | 350 => k323_350
  | 353 => k323_353
  | 366 => k323_366
  | 402 => k323_402
  | 419 => k323_419
  | 422 => k323_422
  | 470 => k323_470
  | 487 => k323_487
  | 490 => k323_490
  | 538 => k323_538
  | 555 => k323_555
  | 558 => k323_558
  | 606 => k323_606
  | 623 => k323_623
  | 626 => k323_626
  | 651 => k323_651
  | 699 => k323_699
  | 716 => k323_716
  | 719 => k323_719
  | 767 => k323_767
  | 784 => k323_784
  | 787 => k323_787
  | 823 => k323_823
  | 840 => k323_840
  | 843 => k323_843
  | 891 => k323_891
  | 908 => k323_908
  | 909 => k323_909
  | 915 => k323_915
  | 918 => k323_918
  | 931 => k323_931
  | 979 => k323_979
  | 996 => k323_996
  | 999 => k323_999
  | 1035 => k323_1035
  | 1052 => k323_1052
  | 1055 => k323_1055
  | 1091 => k323_1091
  | 1108 => k323_1108
  | 1111 => k323_1111
  | 1147 => k323_1147
  | 1164 => k323_1164
  | 1167 => k323_1167
  | 1203 => k323_1203
  | 1220 => k323_1220
  | 1223 => k323_1223
  | 1236 => k323_1236
  | 1249 => k323_1249
  | 1262 => k323_1262
  | 1298 => k323_1298
  | 1315 => k323_1315
  | 1318 => k323_1318
  | 1332 => k323_1332
  | 1368 => k323_1368
  | 1385 => k323_1385
  | 1388 => k323_1388
  | 1424 => k323_1424
  | 1441 => k323_1441
  | 1444 => k323_1444
  | 1504 => k323_1504
  | 1521 => k323_1521
  | 1524 => k323_1524
  | 1560 => k323_1560
  | 1577 => k323_1577
  | 1580 => k323_1580
  | 1640 => k323_1640
  | 1657 => k323_1657
  | 1660 => k323_1660
  | 1671 => k323_1671
  | 1707 => k323_1707
  | 1724 => k323_1724
  | 1727 => k323_1727
  | 1763 => k323_1763
  | 1780 => k323_1780
  | 1783 => k323_1783
  | 1831 => k323_1831
  | 1848 => k323_1848
  | 1851 => k323_1851
  | 1911 => k323_1911
  | 1928 => k323_1928
  | 1931 => k323_1931
  | 1944 => k323_1944
  | 2004 => k323_2004
  | 2021 => k323_2021
  | 2024 => k323_2024
  | 2072 => k323_2072
  | 2089 => k323_2089
  | 2092 => k323_2092
  | 2105 => k323_2105
  | 2141 => k323_2141
  | 2158 => k323_2158
  | 2161 => k323_2161
  | 2197 => k323_2197
  | 2214 => k323_2214
  | 2217 => k323_2217
  | 2230 => k323_2230
  | 2241 => k323_2241
  | 2254 => k323_2254
  | 2260 => k323_2260
  | _ => []
def mj_codel : List (Nat → List mj_O) := ([k0, k1, k2, k3, k4, k5, k6, k7, k8, k9, k10, k11, k12, k13, k14, k15, k16, k17, k18, k19, k20, k21, k22, k23, k24, k25, k26, k27, k28, k29, k30, k31, k32, k33, k34, k35, k36, k37, k38, k39, k40, k41, k42, k43, k44, k45, k46, k47, k48, k49, k50, k51, k52, k53, k54, k55, k56, k57, k58, k59, k60, k61, k62, k63, k64, k65, k66, k67, k68, k69, k70, k71, k72, k73, k74, k75, k76, k77, k78, k79, k80, k81, k82, k83, k84, k85, k86, k87, k88, k89, k90, k91, k92, k93, k94, k95, k96, k97, k98, k99, k100, k101, k102, k103, k104, k105, k106, k107, k108, k109, k110, k111, k112, k113, k114, k115, k116, k117, k118, k119, k120, k121, k122, k123, k124, k125, k126, k127, k128, k129, k130, k131, k132, k133, k134, k135, k136, k137, k138, k139, k140, k141, k142, k143, k144, k145, k146, k147, k148, k149, k150, k151, k152, k153, k154, k155, k156, k157, k158, k159, k160, k161, k162, k163, k164, k165, k166, k167, k168, k169, k170, k171, k172, k173, k174, k175, k176, k177, k178, k179, k180, k181, k182, k183, k184, k185, k186, k187, k188, k189, k190, k191, k192, k193, k194, k195, k196, k197, k198, k199, k200, k201, k202, k203, k204, k205, k206, k207, k208, k209, k210, k211, k212, k213, k214, k215, k216, k217, k218, k219, k220, k221, k222, k223, k224, k225, k226, k227, k228, k229, k230, k231, k232, k233, k234, k235, k236, k237, k238, k239, k240, k241, k242, k243, k244, k245, k246, k247, k248, k249, k250, k251, k252, k253, k254, k255, k256, k257, k258, k259, k260, k261, k262, k263, k264, k265, k266, k267, k268, k269, k270, k271, k272, k273, k274, k275, k276, k277, k278, k279, k280, k281, k282, k283, k284, k285, k286, k287, k288, k289, k290, k291, k292, k293, k294, k295, k296, k297, k298, k299, k300, k301, k302, k303, k304, k305, k306, k307, k308, k309, k310, k311, k312, k313, k314, k315, k316, k317, k318, k319, k320, k321, k322, k323] : List (Nat → List mj_O))
def mj_code (m : Nat) : Nat → List mj_O := mj_codel.getD m (fun _ => [])
end
section
/-! THE SMALL MACHINE: cells by their numbers in the order of their making; a method's code as lists of (pc, op, a, b, x); what a run comes to, by its least fixed point -/
abbrev mj_I : Type := Nat → Nat → Int32
abbrev mj_L : Type := Nat → Nat → Int64
abbrev mj_P : Type := Nat → Nat → Option Nat
abbrev mj_S : Type := Nat × mj_I × mj_L × mj_P
abbrev mj_R : Type := Option Value ⊕ Nat
abbrev mj_Q : Type := mj_R → mj_S → Prop
abbrev mj_Lo : Type := List (Option Value)
/-- where a run stands: the code that is left, locals, stack, cells, how many cells and slots may still be made -/
abbrev mj_G : Type := List mj_O → mj_Lo → List Value → mj_S → Nat → Nat → Prop
abbrev mj_F : Type := Nat → List Value → mj_S → mj_Q → Prop
def mj_upI (I : mj_I) (k j : Nat) (v : Int32) : mj_I := fun c => if c = k then upd (I k) j v else I c
def mj_upL (L : mj_L) (k j : Nat) (v : Int64) : mj_L := fun c => if c = k then vp_updL (L k) j v else L c
def mj_upP (P : mj_P) (k j : Nat) (v : Option Nat) : mj_P := fun c => if c = k then va_up (P k) j v else P c
/-- a whole cell of ints -/
def mj_seI (I : mj_I) (k : Nat) (f : Nat → Int32) : mj_I := fun c => if c = k then f else I c
def mj_seL (L : mj_L) (k : Nat) (f : Nat → Int64) : mj_L := fun c => if c = k then f else L c
def mj_seP (P : mj_P) (k : Nat) (f : Nat → Option Nat) : mj_P := fun c => if c = k then f else P c
def mj_get : mj_Lo → Nat → Option Value
  | [], _ => none
  | o :: _, 0 => o
  | _ :: t, n + 1 => mj_get t n
def mj_set : mj_Lo → Nat → Option Value → mj_Lo
  | [], _, _ => []
  | _ :: t, 0, v => v :: t
  | o :: t, n + 1, v => o :: mj_set t n v
/-- no long begins just ahead of i -/
def mj_nlo : mj_Lo → Nat → Bool
  | _, 0 => true
  | lo, n + 1 => match mj_get lo n with
    | some (.long _) => false
    | some (.double _) => false
    | _ => true
def mj_bin : Nat → Int32 → Int32 → Option Int32
  | 0, x, y => some (x + y)
  | 1, x, y => some (x - y)
  | 2, x, y => some (x * y)
  | 3, x, y => if y = 0 then none else some (x / y)
  | 4, x, y => if y = 0 then none else some (x - x / y * y)
  | 5, x, y => some (x <<< (y &&& 31))
  | 6, x, y => some (x >>> (y &&& 31))
  | 7, x, y => some ((x.toUInt32 >>> (y.toUInt32 &&& Int32.toUInt32 31)).toInt32)
  | 8, x, y => some (x &&& y)
  | 9, x, y => some (x ||| y)
  | 10, x, y => some (x ^^^ y)
  | _, _, _ => none
def mj_un : Nat → Int32 → Option Int32
  | 0, x => some (-x)
  | 1, x => some (x.toInt8.toInt32)
  | 2, x => some ((x.toUInt32 % 65536).toInt32)
  | _, _ => none
def mj_lbin : Nat → Int64 → Int64 → Option Int64
  | 0, x, y => some (x + y)
  | 1, x, y => some (x - y)
  | 2, x, y => some (x * y)
  | 3, x, y => some (x ||| y)
  | _, _, _ => none
def mj_cc : Nat → Int32 → Int32 → Prop
  | 0, x, y => x = y
  | 1, x, y => ¬ x = y
  | 2, x, y => x < y
  | 3, x, y => y ≤ x
  | 4, x, y => y < x
  | 5, x, y => x ≤ y
  | _, _, _ => False
def mj_cs (st : List Value) : Nat := (st.map fun v => v.category).sum
def mj_none : Value → Bool
  | _ => true
/-- where a switch goes: cases and the other case -/
def mj_sw (cs : List (Int32 × Nat)) (d : Nat) (x : Int32) : Nat := match cs with
  | [] => d
  | q :: r => if x = q.1 then q.2 else mj_sw r d x
def mj_ret (G : List Value → mj_S → Prop) (Q : mj_Q) (rest : List Value) : mj_Q := fun r σ => match r with
  | .inl none => G rest σ
  | .inl (some v) => G (v :: rest) σ
  | .inr c => Q (.inr c) σ
def mj_retN (G : List Value → mj_S → Prop) (rest : List Value) : mj_Q := fun r σ => match r with
  | .inl none => G rest σ
  | .inl (some v) => G (v :: rest) σ
  | .inr _ => False
/-- a call whose throws are caught: where each goes on -/
def mj_retH (G : List Value → mj_S → Prop) (X : Nat → mj_S → Prop) (rest : List Value) : mj_Q := fun r σ => match r with
  | .inl none => G rest σ
  | .inl (some v) => G (v :: rest) σ
  | .inr c => X c σ
/-- one instruction -/
def mj_op (Φ : mj_F) (code : Nat → List mj_O) (Q : mj_Q) (G : mj_G) (op a b : Nat) : mj_G := fun is lo st σ bc bs => match op with
    | 0 => G is lo (.int (nI a) :: st) σ bc bs
    | 1 => G is lo (.int (-(nI a)) :: st) σ bc bs
    | 2 => G is lo (.long (lN a) :: st) σ bc bs
    | 3 => ∃ x, mj_get lo a = some (.int x) ∧ G is lo (.int x :: st) σ bc bs
    | 4 => ∃ x, mj_get lo a = some (.long x) ∧ G is lo (.long x :: st) σ bc bs
    | 5 => ∃ x, mj_get lo a = some (.ref x) ∧ G is lo (.ref x :: st) σ bc bs
    | 6 => ∃ x rest, st = .int x :: rest ∧ a < lo.length ∧ mj_nlo lo a = true ∧ G is (mj_set lo a (some (.int x))) rest σ bc bs
    | 7 => ∃ x rest, st = .long x :: rest ∧ a + 1 < lo.length ∧ mj_nlo lo a = true ∧ G is (mj_set (mj_set lo a (some (.long x))) (a + 1) none) rest σ bc bs
    | 8 => ∃ x rest, st = .ref x :: rest ∧ a < lo.length ∧ mj_nlo lo a = true ∧ G is (mj_set lo a (some (.ref x))) rest σ bc bs
    | 9 => ∃ x, mj_get lo a = some (.int x) ∧ mj_nlo lo a = true ∧ G is (mj_set lo a (some (.int (x + nI b)))) st σ bc bs
    | 10 => ∃ x, mj_get lo a = some (.int x) ∧ mj_nlo lo a = true ∧ G is (mj_set lo a (some (.int (x - nI b)))) st σ bc bs
    | 11 => ∃ x y r rest, st = .int y :: .int x :: rest ∧ mj_bin a x y = some r ∧ G is lo (.int r :: rest) σ bc bs
    | 12 => ∃ x r rest, st = .int x :: rest ∧ mj_un a x = some r ∧ G is lo (.int r :: rest) σ bc bs
    | 13 => ∃ x y r rest, st = .long y :: .long x :: rest ∧ mj_lbin a x y = some r ∧ G is lo (.long r :: rest) σ bc bs
    | 14 => ∃ x y rest, st = .int y :: .long x :: rest ∧ G is lo (.long (x <<< (y.toInt64 &&& 63)) :: rest) σ bc bs
    | 15 => ∃ x rest, st = .int x :: rest ∧ G is lo (.long x.toInt64 :: rest) σ bc bs
    | 16 => ∃ x rest, st = .long x :: rest ∧ G is lo (.int x.toInt32 :: rest) σ bc bs
    | 17 => ∃ x y rest, st = .long y :: .long x :: rest ∧ G is lo (.int (lg_cmp x y) :: rest) σ bc bs
    | 18 => ∃ v rest, st = v :: rest ∧ v.category = 1 ∧ G is lo (v :: v :: rest) σ bc bs
    | 19 => ∃ v rest, st = v :: rest ∧ v.category = 1 ∧ G is lo rest σ bc bs
    | 20 => ∃ v w rest, st = v :: w :: rest ∧ v.category = 1 ∧ w.category = 1 ∧ G is lo (v :: w :: v :: w :: rest) σ bc bs
    | 21 => ∃ x rest, st = .int x :: rest ∧ (mj_cc a x 0 → G (code b) lo rest σ bc bs) ∧ (¬ mj_cc a x 0 → G is lo rest σ bc bs)
    | 22 => ∃ x y rest, st = .int y :: .int x :: rest ∧ (mj_cc a x y → G (code b) lo rest σ bc bs) ∧ (¬ mj_cc a x y → G is lo rest σ bc bs)
    | 23 => G (code b) lo st σ bc bs
    | 24 => ∃ x rest, st = .int x :: rest ∧ G (code (mj_sw (mj_swt a) b x)) lo rest σ bc bs
    | 25 => st = [] ∧ Q (.inl none) σ
    | 26 => ∃ x, st = [.int x] ∧ Q (.inl (some (.int x))) σ
    | 27 => ∃ x, st = [.int x] ∧ (x = 0 ∨ x = 1) ∧ Q (.inl (some (.int x))) σ
    | 28 => ∃ x, st = [.long x] ∧ Q (.inl (some (.long x))) σ
    | 29 => ∃ x, st = [.ref x] ∧ Q (.inl (some (.ref x))) σ
    | 30 => 1 ≤ bc ∧ 6 ≤ bs ∧ mj_cs st ≤ 8 ∧ mj_shl.length ≤ σ.1 ∧ Q (.inr a) σ
    | 31 => ∃ k rest, st = .ref k :: rest ∧ mj_sh k = 10 + a ∧ k < σ.1 ∧ G is lo (.int (σ.2.1 k b) :: rest) σ bc bs
    | 32 => ∃ k rest, st = .ref k :: rest ∧ mj_sh k = 10 + a ∧ k < σ.1 ∧ G is lo (.long (σ.2.2.1 k b) :: rest) σ bc bs
    | 33 => ∃ k r rest, st = .ref k :: rest ∧ mj_sh k = 10 + a ∧ k < σ.1 ∧ σ.2.2.2 k b = some r ∧ G is lo (.ref r :: rest) σ bc bs
    | 34 => ∃ v k rest, st = .int v :: .ref k :: rest ∧ mj_sh k = 10 + a ∧ k < σ.1 ∧ G is lo rest (σ.1, mj_upI σ.2.1 k b v, σ.2.2) bc bs
    | 35 => ∃ v k rest, st = .int v :: .ref k :: rest ∧ mj_sh k = 10 + a ∧ k < σ.1 ∧ (v = 0 ∨ v = 1) ∧ G is lo rest (σ.1, mj_upI σ.2.1 k b v, σ.2.2) bc bs
    | 36 => ∃ v k rest, st = .long v :: .ref k :: rest ∧ mj_sh k = 10 + a ∧ k < σ.1 ∧ G is lo rest (σ.1, σ.2.1, mj_upL σ.2.2.1 k b v, σ.2.2.2) bc bs
    | 37 => ∃ v k rest, st = .ref v :: .ref k :: rest ∧ mj_sh k = 10 + a ∧ k < σ.1 ∧ G is lo rest (σ.1, σ.2.1, σ.2.2.1, mj_upP σ.2.2.2 k b (some v)) bc bs
    | 38 => ∃ i k rest, st = .int i :: .ref k :: rest ∧ mj_sh k = 1 ∧ k < σ.1 ∧ vp_in i (mj_ln k) ∧ G is lo (.int (σ.2.1 k i.toNatClampNeg) :: rest) σ bc bs
    | 39 => ∃ i k rest, st = .int i :: .ref k :: rest ∧ mj_sh k = 2 ∧ k < σ.1 ∧ vp_in i (mj_ln k) ∧ G is lo (.long (σ.2.2.1 k i.toNatClampNeg) :: rest) σ bc bs
    | 40 => ∃ i k rest, st = .int i :: .ref k :: rest ∧ mj_sh k = 3 ∧ k < σ.1 ∧ vp_in i (mj_ln k) ∧ G is lo (.int (σ.2.1 k i.toNatClampNeg) :: rest) σ bc bs
    | 41 => ∃ i k rest, st = .int i :: .ref k :: rest ∧ mj_sh k = 4 ∧ k < σ.1 ∧ vp_in i (mj_ln k) ∧ G is lo (.int (σ.2.1 k i.toNatClampNeg) :: rest) σ bc bs
    | 42 => ∃ v i k rest, st = .int v :: .int i :: .ref k :: rest ∧ mj_sh k = 1 ∧ k < σ.1 ∧ vp_in i (mj_ln k) ∧ G is lo rest (σ.1, mj_upI σ.2.1 k i.toNatClampNeg v, σ.2.2) bc bs
    | 43 => ∃ v i k rest, st = .long v :: .int i :: .ref k :: rest ∧ mj_sh k = 2 ∧ k < σ.1 ∧ vp_in i (mj_ln k) ∧ G is lo rest (σ.1, σ.2.1, mj_upL σ.2.2.1 k i.toNatClampNeg v, σ.2.2.2) bc bs
    | 44 => ∃ v i k rest, st = .int v :: .int i :: .ref k :: rest ∧ mj_sh k = 3 ∧ k < σ.1 ∧ vp_in i (mj_ln k) ∧ G is lo rest (σ.1, mj_upI σ.2.1 k i.toNatClampNeg (vp_nar .byte v), σ.2.2) bc bs
    | 45 => ∃ v i k rest, st = .int v :: .int i :: .ref k :: rest ∧ mj_sh k = 4 ∧ k < σ.1 ∧ vp_in i (mj_ln k) ∧ G is lo rest (σ.1, mj_upI σ.2.1 k i.toNatClampNeg (vp_nar .boolean v), σ.2.2) bc bs
    | 46 => ∃ k rest, st = .ref k :: rest ∧ 1 ≤ mj_sh k ∧ mj_sh k ≤ 4 ∧ k < σ.1 ∧ G is lo (.int (nI (mj_ln k)) :: rest) σ bc bs
    | 47 => ∃ k As rest, st = As.reverse ++ .ref k :: rest ∧ As.length = mj_mn a ∧ mj_sh k = 10 + mj_mo a ∧ k < σ.1 ∧ mj_cs rest ≤ 8 ∧ mj_mc a ≤ bc ∧ mj_ms a ≤ bs ∧ Φ a (.ref k :: As) σ (mj_ret (fun s2 σ2 => G is lo s2 σ2 (bc - mj_mc a) (bs - mj_ms a)) Q rest)
    | 48 => ∃ As rest, st = As.reverse ++ rest ∧ As.length = mj_mn a ∧ mj_cs rest ≤ 8 ∧ mj_mc a ≤ bc ∧ mj_ms a ≤ bs ∧ Φ a As σ (mj_ret (fun s2 σ2 => G is lo s2 σ2 (bc - mj_mc a) (bs - mj_ms a)) Q rest)
    | 49 => ∃ k As rest, st = As.reverse ++ .ref k :: rest ∧ As.length = mj_mn a ∧ mj_cs rest ≤ 8 ∧ mj_mc a ≤ bc ∧ mj_ms a ≤ bs ∧ Φ a (.ref k :: As) σ (mj_retN (fun s2 σ2 => G is lo s2 σ2 (bc - mj_mc a) (bs - mj_ms a)) rest)
    | 50 => ∃ As rest, st = As.reverse ++ rest ∧ As.length = mj_mn a ∧ mj_cs rest ≤ 8 ∧ mj_mc a ≤ bc ∧ mj_ms a ≤ bs ∧ Φ a As σ (mj_retN (fun s2 σ2 => G is lo s2 σ2 (bc - mj_mc a) (bs - mj_ms a)) rest)
    | 51 => ∃ k rest, st = .ref k :: rest ∧ mj_cs rest ≤ 8 ∧ G is lo rest σ bc bs
    | 52 => mj_sh σ.1 = 10 + a ∧ 1 ≤ bc ∧ mj_ln σ.1 ≤ bs ∧ G is lo (.ref σ.1 :: st) (σ.1 + 1, mj_seI σ.2.1 σ.1 (fun _ => 0), mj_seL σ.2.2.1 σ.1 (fun _ => 0), mj_seP σ.2.2.2 σ.1 (fun _ => none)) (bc - 1) (bs - mj_ln σ.1)
    | 53 => ∃ rest, st = .int (nI (mj_ln σ.1)) :: rest ∧ mj_sh σ.1 = a ∧ 1 ≤ bc ∧ mj_ln σ.1 ≤ bs ∧ G is lo (.ref σ.1 :: rest) (σ.1 + 1, mj_seI σ.2.1 σ.1 (fun _ => 0), mj_seL σ.2.2.1 σ.1 (fun _ => 0), mj_seP σ.2.2.2 σ.1 (fun _ => none)) (bc - 1) (bs - mj_ln σ.1)
    | 54 => ∃ n dp d sp s0 rest, st = .int n :: .int dp :: .ref d :: .int sp :: .ref s0 :: rest ∧ mj_sh d = 1 ∧ d < σ.1 ∧ mj_sh s0 = 1 ∧ s0 < σ.1 ∧ ¬ sp < 0 ∧ ¬ dp < 0 ∧ ¬ n < 0 ∧ sp.toNatClampNeg + n.toNatClampNeg ≤ mj_ln s0 ∧ dp.toNatClampNeg + n.toNatClampNeg ≤ mj_ln d ∧ mj_cs rest ≤ 8 ∧ G is lo rest (σ.1, mj_seI σ.2.1 d (va_cpy (σ.2.1 s0) (σ.2.1 d) sp.toNatClampNeg dp.toNatClampNeg n.toNatClampNeg), σ.2.2) bc bs
    | 55 => G is lo (.retAddr a :: st) σ bc bs
    | 56 => ∃ k rest, st = .retAddr k :: rest ∧ k < 2 ∧ G is lo (.retAddr (2 + k) :: rest) σ bc bs
    | 57 => ∃ k rest, st = .retAddr k :: rest ∧ k < 2 ∧ G is lo (.int 0 :: rest) σ bc bs
    | 58 => G is lo (.int 1 :: st) σ bc bs
    | 59 => G is lo (.retAddr 4 :: st) σ bc bs
    | 60 => ∃ k rest, st = .retAddr (2 + k) :: rest ∧ k < 2 ∧ G is lo (.int (nI (mj_txt k).length) :: rest) σ bc bs
    | 61 => ∃ i k rest, st = .int i :: .retAddr (2 + k) :: rest ∧ k < 2 ∧ vp_in i (mj_txt k).length ∧ G is lo (.int (nI ((mj_txt k).getD i.toNatClampNeg 0)) :: rest) σ bc bs
    | 62 => ∃ k As rest, st = As.reverse ++ .retAddr k :: rest ∧ k < 2 ∧ As.length = mj_mn a ∧ mj_cs rest ≤ 8 ∧ mj_mc a ≤ bc ∧ mj_ms a ≤ bs ∧ Φ a (.retAddr k :: As) σ (mj_retN (fun s2 σ2 => G is lo s2 σ2 (bc - mj_mc a) (bs - mj_ms a)) rest)
    | 63 => ∃ x, mj_get lo a = some (.retAddr x) ∧ G is lo (.retAddr x :: st) σ bc bs
    | 64 => ∃ x, st = [.int x] ∧ narrow .char (.int x) = .int x ∧ Q (.inl (some (.int x))) σ
    | 65 => ∃ x, st = [.int x] ∧ narrow .byte (.int x) = .int x ∧ Q (.inl (some (.int x))) σ
    | 66 => ∃ k As rest, st = As.reverse ++ .ref k :: rest ∧ As.length = mj_mn a ∧ mj_sh k = 10 + mj_mo a ∧ k < σ.1 ∧ mj_cs rest ≤ 8 ∧ mj_mc a ≤ bc ∧ mj_ms a ≤ bs ∧ Φ a (.ref k :: As) σ (mj_retH (fun s2 σ2 => G is lo s2 σ2 (bc - mj_mc a) (bs - mj_ms a)) (fun e σ2 => ∃ q ∈ mj_ht b, q.1 = e ∧ q.2.2 < lo.length ∧ mj_nlo lo q.2.2 = true ∧ G (code q.2.1) (mj_set lo q.2.2 none) [] σ2 (bc - mj_mc a) (bs - mj_ms a)) rest)
    | 67 => ∃ i rest, st = .int i :: .retAddr 5 :: rest ∧ Φ 1000 [.int i] σ (mj_retN (fun s2 σ2 => G is lo s2 σ2 bc bs) rest)
    | 68 => ∃ rest, st = .retAddr 5 :: rest ∧ Φ 1001 [] σ (mj_retN (fun s2 σ2 => G is lo s2 σ2 bc bs) rest)
    | 69 => ∃ As rest, st = As.reverse ++ rest ∧ As.length = mj_mn a ∧ mj_cs rest ≤ 8 ∧ mj_mc a ≤ bc ∧ mj_ms a ≤ bs ∧ Φ a As σ (mj_retN (fun s2 σ2 => G is lo s2 σ2 (bc - mj_mc a) (bs - mj_ms a)) rest)
    | 70 => ∃ x y rest, st = .int y :: .int x :: rest ∧ mj_cs rest ≤ 8 ∧ G is lo (.int (if x < y then y else x) :: rest) σ bc bs
    | 71 => ∃ x y rest, st = .int y :: .int x :: rest ∧ mj_cs rest ≤ 8 ∧ G is lo (.int (if y < x then y else x) :: rest) σ bc bs
    | 72 => ∃ x rest, st = .int x :: rest ∧ mj_cs rest ≤ 8 ∧ G is lo (.int (if 0 ≤ x then x else 0 - x) :: rest) σ bc bs
    | 73 => ∃ x y rest, st = .long y :: .long x :: rest ∧ mj_cs rest ≤ 8 ∧ G is lo (.long (if y < x then x else y) :: rest) σ bc bs
    | _ => False
def mj_one (Φ : mj_F) (code : Nat → List mj_O) (Q : mj_Q) (G : mj_G) : mj_G := fun cs lo st σ bc bs => match cs with
  | [] => False
  | o :: is => mj_op Φ code Q G o.2.1 o.2.2.1 o.2.2.2.1 is lo st σ bc bs
def mj_cl (Φ : mj_F) (code : Nat → List mj_O) (Q : mj_Q) (G : mj_G) : Prop := ∀ cs lo st σ bc bs, mj_one Φ code Q G cs lo st σ bc bs → G cs lo st σ bc bs
/-- the run from here comes to an end as Q says -/
def mj_run (Φ : mj_F) (code : Nat → List mj_O) (Q : mj_Q) : mj_G := fun cs lo st σ bc bs => ∀ G : mj_G, mj_cl Φ code Q G → G cs lo st σ bc bs
/-- a call: d callees deep at the most -/
def mj_ev : Nat → mj_F
  | 0 => fun _ _ _ _ => False
  | d + 1 => fun m as σ Q => Nat.ble (mj_ar as).length (mj_ml m) = true ∧ mj_run (mj_ev d) (mj_code m) Q (mj_code m 0) (mj_in (mj_ml m) as) [] σ (mj_mc m) (mj_ms m)
end
section
/-! the small machine's rows: a row an instruction, for proofs about runs -/
def mj_mono (Φ : mj_F) : Prop := ∀ m as σ (Q Q' : mj_Q), (∀ r s, Q r s → Q' r s) → Φ m as σ Q → Φ m as σ Q'
section R
variable {Φ : mj_F} {code : Nat → List mj_O} {Q : mj_Q} {is : List mj_O} {lo : mj_Lo} {st rest : List Value} {n : Nat} {I : mj_I} {L : mj_L} {P : mj_P} {bc bs pc a b x : Nat}
theorem q_ld (v : Int32) (h : mj_get lo a = some (.int v)) (k : mj_run Φ code Q is lo (.int v :: st) (n, I, L, P) bc bs) : mj_run Φ code Q ((pc, 3, a, b, x) :: is) lo st (n, I, L, P) bc bs := fun G hG => hG _ _ _ _ _ _ ⟨v, h, k G hG⟩
theorem q_0 (k : mj_run Φ code Q is lo (.int (nI a) :: st) (n, I, L, P) bc bs) : mj_run Φ code Q ((pc, 0, a, b, x) :: is) lo st (n, I, L, P) bc bs := fun G hG => hG _ _ _ _ _ _ (k G hG)
theorem q_1 (k : mj_run Φ code Q is lo (.int (-(nI a)) :: st) (n, I, L, P) bc bs) : mj_run Φ code Q ((pc, 1, a, b, x) :: is) lo st (n, I, L, P) bc bs := fun G hG => hG _ _ _ _ _ _ (k G hG)
theorem q_2 (k : mj_run Φ code Q is lo (.long (lN a) :: st) (n, I, L, P) bc bs) : mj_run Φ code Q ((pc, 2, a, b, x) :: is) lo st (n, I, L, P) bc bs := fun G hG => hG _ _ _ _ _ _ (k G hG)
theorem q_3 {v : Int32} (h : mj_get lo a = some (.int v)) (k : mj_run Φ code Q is lo (.int v :: st) (n, I, L, P) bc bs) : mj_run Φ code Q ((pc, 3, a, b, x) :: is) lo st (n, I, L, P) bc bs := fun G hG => hG _ _ _ _ _ _ ⟨v, h, k G hG⟩
theorem q_4 {v : Int64} (h : mj_get lo a = some (.long v)) (k : mj_run Φ code Q is lo (.long v :: st) (n, I, L, P) bc bs) : mj_run Φ code Q ((pc, 4, a, b, x) :: is) lo st (n, I, L, P) bc bs := fun G hG => hG _ _ _ _ _ _ ⟨v, h, k G hG⟩
theorem q_5 {v : Nat} (h : mj_get lo a = some (.ref v)) (k : mj_run Φ code Q is lo (.ref v :: st) (n, I, L, P) bc bs) : mj_run Φ code Q ((pc, 5, a, b, x) :: is) lo st (n, I, L, P) bc bs := fun G hG => hG _ _ _ _ _ _ ⟨v, h, k G hG⟩
theorem q_6 {v : Int32} {lo' : mj_Lo} (h1 : Nat.blt a lo.length = true) (h2 : mj_nlo lo a = true) (h3 : mj_set lo a (some (.int v)) = lo') (k : mj_run Φ code Q is lo' rest (n, I, L, P) bc bs) : mj_run Φ code Q ((pc, 6, a, b, x) :: is) lo (.int v :: rest) (n, I, L, P) bc bs := fun G hG => hG _ _ _ _ _ _ ⟨v, rest, rfl, Nat.le_of_ble_eq_true h1, h2, by rw [h3]; exact k G hG⟩
theorem q_7 {v : Int64} {lo' : mj_Lo} (h1 : Nat.blt (a + 1) lo.length = true) (h2 : mj_nlo lo a = true) (h3 : mj_set (mj_set lo a (some (.long v))) (a + 1) none = lo') (k : mj_run Φ code Q is lo' rest (n, I, L, P) bc bs) : mj_run Φ code Q ((pc, 7, a, b, x) :: is) lo (.long v :: rest) (n, I, L, P) bc bs := fun G hG => hG _ _ _ _ _ _ ⟨v, rest, rfl, Nat.le_of_ble_eq_true h1, h2, by rw [h3]; exact k G hG⟩
theorem q_8 {v : Nat} {lo' : mj_Lo} (h1 : Nat.blt a lo.length = true) (h2 : mj_nlo lo a = true) (h3 : mj_set lo a (some (.ref v)) = lo') (k : mj_run Φ code Q is lo' rest (n, I, L, P) bc bs) : mj_run Φ code Q ((pc, 8, a, b, x) :: is) lo (.ref v :: rest) (n, I, L, P) bc bs := fun G hG => hG _ _ _ _ _ _ ⟨v, rest, rfl, Nat.le_of_ble_eq_true h1, h2, by rw [h3]; exact k G hG⟩
theorem q_9 {v : Int32} {lo' : mj_Lo} (h : mj_get lo a = some (.int v)) (h2 : mj_nlo lo a = true) (h3 : mj_set lo a (some (.int (v + nI b))) = lo') (k : mj_run Φ code Q is lo' st (n, I, L, P) bc bs) : mj_run Φ code Q ((pc, 9, a, b, x) :: is) lo st (n, I, L, P) bc bs := fun G hG => hG _ _ _ _ _ _ ⟨v, h, h2, by rw [h3]; exact k G hG⟩
theorem q_10 {v : Int32} {lo' : mj_Lo} (h : mj_get lo a = some (.int v)) (h2 : mj_nlo lo a = true) (h3 : mj_set lo a (some (.int (v - nI b))) = lo') (k : mj_run Φ code Q is lo' st (n, I, L, P) bc bs) : mj_run Φ code Q ((pc, 10, a, b, x) :: is) lo st (n, I, L, P) bc bs := fun G hG => hG _ _ _ _ _ _ ⟨v, h, h2, by rw [h3]; exact k G hG⟩
theorem q_11 {u v r : Int32} (h : mj_bin a u v = some r) (k : mj_run Φ code Q is lo (.int r :: rest) (n, I, L, P) bc bs) : mj_run Φ code Q ((pc, 11, a, b, x) :: is) lo (.int v :: .int u :: rest) (n, I, L, P) bc bs := fun G hG => hG _ _ _ _ _ _ ⟨u, v, r, rest, rfl, h, k G hG⟩
theorem q_12 {u r : Int32} (h : mj_un a u = some r) (k : mj_run Φ code Q is lo (.int r :: rest) (n, I, L, P) bc bs) : mj_run Φ code Q ((pc, 12, a, b, x) :: is) lo (.int u :: rest) (n, I, L, P) bc bs := fun G hG => hG _ _ _ _ _ _ ⟨u, r, rest, rfl, h, k G hG⟩
theorem q_13 {u v r : Int64} (h : mj_lbin a u v = some r) (k : mj_run Φ code Q is lo (.long r :: rest) (n, I, L, P) bc bs) : mj_run Φ code Q ((pc, 13, a, b, x) :: is) lo (.long v :: .long u :: rest) (n, I, L, P) bc bs := fun G hG => hG _ _ _ _ _ _ ⟨u, v, r, rest, rfl, h, k G hG⟩
theorem q_14 {u : Int64} {v : Int32} (k : mj_run Φ code Q is lo (.long (u <<< (v.toInt64 &&& 63)) :: rest) (n, I, L, P) bc bs) : mj_run Φ code Q ((pc, 14, a, b, x) :: is) lo (.int v :: .long u :: rest) (n, I, L, P) bc bs := fun G hG => hG _ _ _ _ _ _ ⟨u, v, rest, rfl, k G hG⟩
theorem q_15 {v : Int32} (k : mj_run Φ code Q is lo (.long v.toInt64 :: rest) (n, I, L, P) bc bs) : mj_run Φ code Q ((pc, 15, a, b, x) :: is) lo (.int v :: rest) (n, I, L, P) bc bs := fun G hG => hG _ _ _ _ _ _ ⟨v, rest, rfl, k G hG⟩
theorem q_16 {v : Int64} (k : mj_run Φ code Q is lo (.int v.toInt32 :: rest) (n, I, L, P) bc bs) : mj_run Φ code Q ((pc, 16, a, b, x) :: is) lo (.long v :: rest) (n, I, L, P) bc bs := fun G hG => hG _ _ _ _ _ _ ⟨v, rest, rfl, k G hG⟩
theorem q_17 {u v : Int64} (k : mj_run Φ code Q is lo (.int (lg_cmp u v) :: rest) (n, I, L, P) bc bs) : mj_run Φ code Q ((pc, 17, a, b, x) :: is) lo (.long v :: .long u :: rest) (n, I, L, P) bc bs := fun G hG => hG _ _ _ _ _ _ ⟨u, v, rest, rfl, k G hG⟩
theorem q_18 {v : Value} (h : v.category = 1) (k : mj_run Φ code Q is lo (v :: v :: rest) (n, I, L, P) bc bs) : mj_run Φ code Q ((pc, 18, a, b, x) :: is) lo (v :: rest) (n, I, L, P) bc bs := fun G hG => hG _ _ _ _ _ _ ⟨v, rest, rfl, h, k G hG⟩
theorem q_19 {v : Value} (h : v.category = 1) (k : mj_run Φ code Q is lo rest (n, I, L, P) bc bs) : mj_run Φ code Q ((pc, 19, a, b, x) :: is) lo (v :: rest) (n, I, L, P) bc bs := fun G hG => hG _ _ _ _ _ _ ⟨v, rest, rfl, h, k G hG⟩
theorem q_20 {v w : Value} (h : v.category = 1) (h2 : w.category = 1) (k : mj_run Φ code Q is lo (v :: w :: v :: w :: rest) (n, I, L, P) bc bs) : mj_run Φ code Q ((pc, 20, a, b, x) :: is) lo (v :: w :: rest) (n, I, L, P) bc bs := fun G hG => hG _ _ _ _ _ _ ⟨v, w, rest, rfl, h, h2, k G hG⟩
theorem q_21 {v : Int32} (kt : mj_cc a v 0 → mj_run Φ code Q (code b) lo rest (n, I, L, P) bc bs) (kf : ¬ mj_cc a v 0 → mj_run Φ code Q is lo rest (n, I, L, P) bc bs) : mj_run Φ code Q ((pc, 21, a, b, x) :: is) lo (.int v :: rest) (n, I, L, P) bc bs := fun G hG => hG _ _ _ _ _ _ ⟨v, rest, rfl, fun h => kt h G hG, fun h => kf h G hG⟩
theorem q_22 {u v : Int32} (kt : mj_cc a u v → mj_run Φ code Q (code b) lo rest (n, I, L, P) bc bs) (kf : ¬ mj_cc a u v → mj_run Φ code Q is lo rest (n, I, L, P) bc bs) : mj_run Φ code Q ((pc, 22, a, b, x) :: is) lo (.int v :: .int u :: rest) (n, I, L, P) bc bs := fun G hG => hG _ _ _ _ _ _ ⟨u, v, rest, rfl, fun h => kt h G hG, fun h => kf h G hG⟩
theorem q_23 (k : mj_run Φ code Q (code b) lo st (n, I, L, P) bc bs) : mj_run Φ code Q ((pc, 23, a, b, x) :: is) lo st (n, I, L, P) bc bs := fun G hG => hG _ _ _ _ _ _ (k G hG)
theorem q_24 {v : Int32} (k : mj_run Φ code Q (code (mj_sw (mj_swt a) b v)) lo rest (n, I, L, P) bc bs) : mj_run Φ code Q ((pc, 24, a, b, x) :: is) lo (.int v :: rest) (n, I, L, P) bc bs := fun G hG => hG _ _ _ _ _ _ ⟨v, rest, rfl, k G hG⟩
theorem q_25 (k : Q (.inl none) (n, I, L, P)) : mj_run Φ code Q ((pc, 25, a, b, x) :: is) lo [] (n, I, L, P) bc bs := fun G hG => hG _ _ _ _ _ _ ⟨rfl, k⟩
theorem q_26 {v : Int32} (k : Q (.inl (some (.int v))) (n, I, L, P)) : mj_run Φ code Q ((pc, 26, a, b, x) :: is) lo [.int v] (n, I, L, P) bc bs := fun G hG => hG _ _ _ _ _ _ ⟨v, rfl, k⟩
theorem q_27 {v : Int32} (h : v = 0 ∨ v = 1) (k : Q (.inl (some (.int v))) (n, I, L, P)) : mj_run Φ code Q ((pc, 27, a, b, x) :: is) lo [.int v] (n, I, L, P) bc bs := fun G hG => hG _ _ _ _ _ _ ⟨v, rfl, h, k⟩
theorem q_28 {v : Int64} (k : Q (.inl (some (.long v))) (n, I, L, P)) : mj_run Φ code Q ((pc, 28, a, b, x) :: is) lo [.long v] (n, I, L, P) bc bs := fun G hG => hG _ _ _ _ _ _ ⟨v, rfl, k⟩
theorem q_29 {v : Nat} (k : Q (.inl (some (.ref v))) (n, I, L, P)) : mj_run Φ code Q ((pc, 29, a, b, x) :: is) lo [.ref v] (n, I, L, P) bc bs := fun G hG => hG _ _ _ _ _ _ ⟨v, rfl, k⟩
theorem q_30 (h1 : Nat.ble 1 bc = true) (h2 : Nat.ble 6 bs = true) (h3 : Nat.ble (mj_cs st) 8 = true) (h4 : Nat.ble mj_shl.length n = true) (k : Q (.inr a) (n, I, L, P)) : mj_run Φ code Q ((pc, 30, a, b, x) :: is) lo st (n, I, L, P) bc bs := fun G hG => hG _ _ _ _ _ _ ⟨Nat.le_of_ble_eq_true h1, Nat.le_of_ble_eq_true h2, Nat.le_of_ble_eq_true h3, Nat.le_of_ble_eq_true h4, k⟩
theorem q_31 {c : Nat} (h1 : mj_sh c = 10 + a) (h2 : c < n) (k : mj_run Φ code Q is lo (.int (I c b) :: rest) (n, I, L, P) bc bs) : mj_run Φ code Q ((pc, 31, a, b, x) :: is) lo (.ref c :: rest) (n, I, L, P) bc bs := fun G hG => hG _ _ _ _ _ _ ⟨c, rest, rfl, h1, h2, k G hG⟩
theorem q_32 {c : Nat} (h1 : mj_sh c = 10 + a) (h2 : c < n) (k : mj_run Φ code Q is lo (.long (L c b) :: rest) (n, I, L, P) bc bs) : mj_run Φ code Q ((pc, 32, a, b, x) :: is) lo (.ref c :: rest) (n, I, L, P) bc bs := fun G hG => hG _ _ _ _ _ _ ⟨c, rest, rfl, h1, h2, k G hG⟩
theorem q_33 {c r : Nat} (h1 : mj_sh c = 10 + a) (h2 : c < n) (h3 : P c b = some r) (k : mj_run Φ code Q is lo (.ref r :: rest) (n, I, L, P) bc bs) : mj_run Φ code Q ((pc, 33, a, b, x) :: is) lo (.ref c :: rest) (n, I, L, P) bc bs := fun G hG => hG _ _ _ _ _ _ ⟨c, r, rest, rfl, h1, h2, h3, k G hG⟩
theorem q_34 {v : Int32} {c : Nat} (h1 : mj_sh c = 10 + a) (h2 : c < n) (k : mj_run Φ code Q is lo rest (n, mj_upI I c b v, L, P) bc bs) : mj_run Φ code Q ((pc, 34, a, b, x) :: is) lo (.int v :: .ref c :: rest) (n, I, L, P) bc bs := fun G hG => hG _ _ _ _ _ _ ⟨v, c, rest, rfl, h1, h2, k G hG⟩
theorem q_35 {v : Int32} {c : Nat} (h1 : mj_sh c = 10 + a) (h2 : c < n) (h3 : v = 0 ∨ v = 1) (k : mj_run Φ code Q is lo rest (n, mj_upI I c b v, L, P) bc bs) : mj_run Φ code Q ((pc, 35, a, b, x) :: is) lo (.int v :: .ref c :: rest) (n, I, L, P) bc bs := fun G hG => hG _ _ _ _ _ _ ⟨v, c, rest, rfl, h1, h2, h3, k G hG⟩
theorem q_36 {v : Int64} {c : Nat} (h1 : mj_sh c = 10 + a) (h2 : c < n) (k : mj_run Φ code Q is lo rest (n, I, mj_upL L c b v, P) bc bs) : mj_run Φ code Q ((pc, 36, a, b, x) :: is) lo (.long v :: .ref c :: rest) (n, I, L, P) bc bs := fun G hG => hG _ _ _ _ _ _ ⟨v, c, rest, rfl, h1, h2, k G hG⟩
theorem q_37 {v c : Nat} (h1 : mj_sh c = 10 + a) (h2 : c < n) (k : mj_run Φ code Q is lo rest (n, I, L, mj_upP P c b (some v)) bc bs) : mj_run Φ code Q ((pc, 37, a, b, x) :: is) lo (.ref v :: .ref c :: rest) (n, I, L, P) bc bs := fun G hG => hG _ _ _ _ _ _ ⟨v, c, rest, rfl, h1, h2, k G hG⟩
theorem q_38 {c : Nat} (i : Nat) {w : Int32} (h1 : mj_sh c = 1) (h2 : c < n) (hw : w = nI i) (h3 : i < mj_ln c) (h4 : mj_ln c < 2 ^ 31) (k : mj_run Φ code Q is lo (.int (I c i) :: rest) (n, I, L, P) bc bs) : mj_run Φ code Q ((pc, 38, a, b, x) :: is) lo (.int w :: .ref c :: rest) (n, I, L, P) bc bs := fun G hG => hG _ _ _ _ _ _ ⟨w, c, rest, rfl, h1, h2, by rw [hw]; exact vp_in_nI h3 h4, by rw [hw, nI_clamp (by omega)]; exact k G hG⟩
theorem q_39 {c : Nat} (i : Nat) {w : Int32} (h1 : mj_sh c = 2) (h2 : c < n) (hw : w = nI i) (h3 : i < mj_ln c) (h4 : mj_ln c < 2 ^ 31) (k : mj_run Φ code Q is lo (.long (L c i) :: rest) (n, I, L, P) bc bs) : mj_run Φ code Q ((pc, 39, a, b, x) :: is) lo (.int w :: .ref c :: rest) (n, I, L, P) bc bs := fun G hG => hG _ _ _ _ _ _ ⟨w, c, rest, rfl, h1, h2, by rw [hw]; exact vp_in_nI h3 h4, by rw [hw, nI_clamp (by omega)]; exact k G hG⟩
theorem q_40 {c : Nat} (i : Nat) {w : Int32} (h1 : mj_sh c = 3) (h2 : c < n) (hw : w = nI i) (h3 : i < mj_ln c) (h4 : mj_ln c < 2 ^ 31) (k : mj_run Φ code Q is lo (.int (I c i) :: rest) (n, I, L, P) bc bs) : mj_run Φ code Q ((pc, 40, a, b, x) :: is) lo (.int w :: .ref c :: rest) (n, I, L, P) bc bs := fun G hG => hG _ _ _ _ _ _ ⟨w, c, rest, rfl, h1, h2, by rw [hw]; exact vp_in_nI h3 h4, by rw [hw, nI_clamp (by omega)]; exact k G hG⟩
theorem q_41 {c : Nat} (i : Nat) {w : Int32} (h1 : mj_sh c = 4) (h2 : c < n) (hw : w = nI i) (h3 : i < mj_ln c) (h4 : mj_ln c < 2 ^ 31) (k : mj_run Φ code Q is lo (.int (I c i) :: rest) (n, I, L, P) bc bs) : mj_run Φ code Q ((pc, 41, a, b, x) :: is) lo (.int w :: .ref c :: rest) (n, I, L, P) bc bs := fun G hG => hG _ _ _ _ _ _ ⟨w, c, rest, rfl, h1, h2, by rw [hw]; exact vp_in_nI h3 h4, by rw [hw, nI_clamp (by omega)]; exact k G hG⟩
theorem q_42 {c : Nat} (i : Nat) {v w : Int32} (h1 : mj_sh c = 1) (h2 : c < n) (hw : w = nI i) (h3 : i < mj_ln c) (h4 : mj_ln c < 2 ^ 31) (k : mj_run Φ code Q is lo rest (n, mj_upI I c i v, L, P) bc bs) : mj_run Φ code Q ((pc, 42, a, b, x) :: is) lo (.int v :: .int w :: .ref c :: rest) (n, I, L, P) bc bs := fun G hG => hG _ _ _ _ _ _ ⟨v, w, c, rest, rfl, h1, h2, by rw [hw]; exact vp_in_nI h3 h4, by rw [hw, nI_clamp (by omega)]; exact k G hG⟩
theorem q_43 {c : Nat} (i : Nat) {v : Int64} {w : Int32} (h1 : mj_sh c = 2) (h2 : c < n) (hw : w = nI i) (h3 : i < mj_ln c) (h4 : mj_ln c < 2 ^ 31) (k : mj_run Φ code Q is lo rest (n, I, mj_upL L c i v, P) bc bs) : mj_run Φ code Q ((pc, 43, a, b, x) :: is) lo (.long v :: .int w :: .ref c :: rest) (n, I, L, P) bc bs := fun G hG => hG _ _ _ _ _ _ ⟨v, w, c, rest, rfl, h1, h2, by rw [hw]; exact vp_in_nI h3 h4, by rw [hw, nI_clamp (by omega)]; exact k G hG⟩
theorem q_44 {c : Nat} (i : Nat) {v w : Int32} (h1 : mj_sh c = 3) (h2 : c < n) (hw : w = nI i) (h3 : i < mj_ln c) (h4 : mj_ln c < 2 ^ 31) (k : mj_run Φ code Q is lo rest (n, mj_upI I c i (vp_nar .byte v), L, P) bc bs) : mj_run Φ code Q ((pc, 44, a, b, x) :: is) lo (.int v :: .int w :: .ref c :: rest) (n, I, L, P) bc bs := fun G hG => hG _ _ _ _ _ _ ⟨v, w, c, rest, rfl, h1, h2, by rw [hw]; exact vp_in_nI h3 h4, by rw [hw, nI_clamp (by omega)]; exact k G hG⟩
theorem q_45 {c : Nat} (i : Nat) {v w : Int32} (h1 : mj_sh c = 4) (h2 : c < n) (hw : w = nI i) (h3 : i < mj_ln c) (h4 : mj_ln c < 2 ^ 31) (k : mj_run Φ code Q is lo rest (n, mj_upI I c i (vp_nar .boolean v), L, P) bc bs) : mj_run Φ code Q ((pc, 45, a, b, x) :: is) lo (.int v :: .int w :: .ref c :: rest) (n, I, L, P) bc bs := fun G hG => hG _ _ _ _ _ _ ⟨v, w, c, rest, rfl, h1, h2, by rw [hw]; exact vp_in_nI h3 h4, by rw [hw, nI_clamp (by omega)]; exact k G hG⟩
theorem q_46 {c : Nat} (h1 : 1 ≤ mj_sh c) (h2 : mj_sh c ≤ 4) (h3 : c < n) (k : mj_run Φ code Q is lo (.int (nI (mj_ln c)) :: rest) (n, I, L, P) bc bs) : mj_run Φ code Q ((pc, 46, a, b, x) :: is) lo (.ref c :: rest) (n, I, L, P) bc bs := fun G hG => hG _ _ _ _ _ _ ⟨c, rest, rfl, h1, h2, h3, k G hG⟩
theorem q_51 {c : Nat} (h : Nat.ble (mj_cs rest) 8 = true) (k : mj_run Φ code Q is lo rest (n, I, L, P) bc bs) : mj_run Φ code Q ((pc, 51, a, b, x) :: is) lo (.ref c :: rest) (n, I, L, P) bc bs := fun G hG => hG _ _ _ _ _ _ ⟨c, rest, rfl, Nat.le_of_ble_eq_true h, k G hG⟩
theorem q_52 (h1 : mj_sh n = 10 + a) (h2 : Nat.ble 1 bc = true) (h3 : Nat.ble (mj_ln n) bs = true) (k : mj_run Φ code Q is lo (.ref n :: st) (n + 1, mj_seI I n (fun _ => 0), mj_seL L n (fun _ => 0), mj_seP P n (fun _ => none)) (bc - 1) (bs - mj_ln n)) : mj_run Φ code Q ((pc, 52, a, b, x) :: is) lo st (n, I, L, P) bc bs := fun G hG => hG _ _ _ _ _ _ ⟨h1, Nat.le_of_ble_eq_true h2, Nat.le_of_ble_eq_true h3, k G hG⟩
theorem q_53 {v : Int32} (hv : v = nI (mj_ln n)) (h1 : mj_sh n = a) (h2 : Nat.ble 1 bc = true) (h3 : Nat.ble (mj_ln n) bs = true) (k : mj_run Φ code Q is lo (.ref n :: rest) (n + 1, mj_seI I n (fun _ => 0), mj_seL L n (fun _ => 0), mj_seP P n (fun _ => none)) (bc - 1) (bs - mj_ln n)) : mj_run Φ code Q ((pc, 53, a, b, x) :: is) lo (.int v :: rest) (n, I, L, P) bc bs := fun G hG => hG _ _ _ _ _ _ ⟨rest, by rw [hv], h1, Nat.le_of_ble_eq_true h2, Nat.le_of_ble_eq_true h3, k G hG⟩
theorem q_54 {d s0 : Nat} (sp dp m : Nat) {v1 v2 v3 : Int32} (h1 : mj_sh d = 1) (h2 : d < n) (h3 : mj_sh s0 = 1) (h4 : s0 < n) (e1 : v1 = nI sp) (e2 : v2 = nI dp) (e3 : v3 = nI m) (h5 : sp + m ≤ mj_ln s0) (h6 : dp + m ≤ mj_ln d) (h7 : mj_ln s0 < 2 ^ 31) (h8 : mj_ln d < 2 ^ 31) (h9 : Nat.ble (mj_cs rest) 8 = true) (k : mj_run Φ code Q is lo rest (n, mj_seI I d (va_cpy (I s0) (I d) sp dp m), L, P) bc bs) : mj_run Φ code Q ((pc, 54, a, b, x) :: is) lo (.int v3 :: .int v2 :: .ref d :: .int v1 :: .ref s0 :: rest) (n, I, L, P) bc bs := fun G hG => hG _ _ _ _ _ _ ⟨v3, v2, d, v1, s0, rest, rfl, h1, h2, h3, h4, by rw [e1]; exact nI_pos (by omega), by rw [e2]; exact nI_pos (by omega), by rw [e3]; exact nI_pos (by omega), by rw [e1, e3, nI_clamp (by omega), nI_clamp (by omega)]; exact h5, by rw [e2, e3, nI_clamp (by omega), nI_clamp (by omega)]; exact h6, Nat.le_of_ble_eq_true h9, by rw [e1, e2, e3, nI_clamp (by omega), nI_clamp (by omega), nI_clamp (by omega)]; exact k G hG⟩
/-- a call: what its callee's own row says, then on from there -/
theorem q_47 (hm : mj_mono Φ) {c : Nat} (As : List Value) {rest : List Value} {st0 : List Value} (e : st0 = As.reverse ++ .ref c :: rest) (h1 : As.length = mj_mn a) (h2 : mj_sh c = 10 + mj_mo a) (h3 : c < n) (h4 : Nat.ble (mj_cs rest) 8 = true) (h5 : Nat.ble (mj_mc a) bc = true) (h6 : Nat.ble (mj_ms a) bs = true) (k : Φ a (.ref c :: As) (n, I, L, P) (mj_ret (fun s2 σ2 => mj_run Φ code Q is lo s2 σ2 (bc - mj_mc a) (bs - mj_ms a)) Q rest)) : mj_run Φ code Q ((pc, 47, a, b, x) :: is) lo st0 (n, I, L, P) bc bs := fun G hG => hG _ _ _ _ _ _ ⟨c, As, rest, e, h1, h2, h3, Nat.le_of_ble_eq_true h4, Nat.le_of_ble_eq_true h5, Nat.le_of_ble_eq_true h6, hm _ _ _ _ _ (fun r s h => by
  cases r with
  | inl v => cases v with
    | none => exact h G hG
    | some v => exact h G hG
  | inr c => exact h) k⟩
theorem q_48 (hm : mj_mono Φ) (As : List Value) {rest : List Value} {st0 : List Value} (e : st0 = As.reverse ++ rest) (h1 : As.length = mj_mn a) (h4 : Nat.ble (mj_cs rest) 8 = true) (h5 : Nat.ble (mj_mc a) bc = true) (h6 : Nat.ble (mj_ms a) bs = true) (k : Φ a As (n, I, L, P) (mj_ret (fun s2 σ2 => mj_run Φ code Q is lo s2 σ2 (bc - mj_mc a) (bs - mj_ms a)) Q rest)) : mj_run Φ code Q ((pc, 48, a, b, x) :: is) lo st0 (n, I, L, P) bc bs := fun G hG => hG _ _ _ _ _ _ ⟨As, rest, e, h1, Nat.le_of_ble_eq_true h4, Nat.le_of_ble_eq_true h5, Nat.le_of_ble_eq_true h6, hm _ _ _ _ _ (fun r s h => by
  cases r with
  | inl v => cases v with
    | none => exact h G hG
    | some v => exact h G hG
  | inr c => exact h) k⟩
theorem q_49 (hm : mj_mono Φ) {c : Nat} (As : List Value) {rest : List Value} {st0 : List Value} (e : st0 = As.reverse ++ .ref c :: rest) (h1 : As.length = mj_mn a) (h4 : Nat.ble (mj_cs rest) 8 = true) (h5 : Nat.ble (mj_mc a) bc = true) (h6 : Nat.ble (mj_ms a) bs = true) (k : Φ a (.ref c :: As) (n, I, L, P) (mj_retN (fun s2 σ2 => mj_run Φ code Q is lo s2 σ2 (bc - mj_mc a) (bs - mj_ms a)) rest)) : mj_run Φ code Q ((pc, 49, a, b, x) :: is) lo st0 (n, I, L, P) bc bs := fun G hG => hG _ _ _ _ _ _ ⟨c, As, rest, e, h1, Nat.le_of_ble_eq_true h4, Nat.le_of_ble_eq_true h5, Nat.le_of_ble_eq_true h6, hm _ _ _ _ _ (fun r s h => by
  cases r with
  | inl v => cases v with
    | none => exact h G hG
    | some v => exact h G hG
  | inr c => exact h) k⟩
theorem q_50 (hm : mj_mono Φ) (As : List Value) {rest : List Value} {st0 : List Value} (e : st0 = As.reverse ++ rest) (h1 : As.length = mj_mn a) (h4 : Nat.ble (mj_cs rest) 8 = true) (h5 : Nat.ble (mj_mc a) bc = true) (h6 : Nat.ble (mj_ms a) bs = true) (k : Φ a As (n, I, L, P) (mj_retN (fun s2 σ2 => mj_run Φ code Q is lo s2 σ2 (bc - mj_mc a) (bs - mj_ms a)) rest)) : mj_run Φ code Q ((pc, 50, a, b, x) :: is) lo st0 (n, I, L, P) bc bs := fun G hG => hG _ _ _ _ _ _ ⟨As, rest, e, h1, Nat.le_of_ble_eq_true h4, Nat.le_of_ble_eq_true h5, Nat.le_of_ble_eq_true h6, hm _ _ _ _ _ (fun r s h => by
  cases r with
  | inl v => cases v with
    | none => exact h G hG
    | some v => exact h G hG
  | inr c => exact h) k⟩
theorem q_55 (k : mj_run Φ code Q is lo (.retAddr a :: st) (n, I, L, P) bc bs) : mj_run Φ code Q ((pc, 55, a, b, x) :: is) lo st (n, I, L, P) bc bs := fun G hG => hG _ _ _ _ _ _ (k G hG)
theorem q_56 {c : Nat} (h : c < 2) (k : mj_run Φ code Q is lo (.retAddr (2 + c) :: rest) (n, I, L, P) bc bs) : mj_run Φ code Q ((pc, 56, a, b, x) :: is) lo (.retAddr c :: rest) (n, I, L, P) bc bs := fun G hG => hG _ _ _ _ _ _ ⟨c, rest, rfl, h, k G hG⟩
theorem q_57 {c : Nat} (h : c < 2) (k : mj_run Φ code Q is lo (.int 0 :: rest) (n, I, L, P) bc bs) : mj_run Φ code Q ((pc, 57, a, b, x) :: is) lo (.retAddr c :: rest) (n, I, L, P) bc bs := fun G hG => hG _ _ _ _ _ _ ⟨c, rest, rfl, h, k G hG⟩
theorem q_58 (k : mj_run Φ code Q is lo (.int 1 :: st) (n, I, L, P) bc bs) : mj_run Φ code Q ((pc, 58, a, b, x) :: is) lo st (n, I, L, P) bc bs := fun G hG => hG _ _ _ _ _ _ (k G hG)
theorem q_59 (k : mj_run Φ code Q is lo (.retAddr 4 :: st) (n, I, L, P) bc bs) : mj_run Φ code Q ((pc, 59, a, b, x) :: is) lo st (n, I, L, P) bc bs := fun G hG => hG _ _ _ _ _ _ (k G hG)
theorem q_60 {c : Nat} (h : c < 2) (k : mj_run Φ code Q is lo (.int (nI (mj_txt c).length) :: rest) (n, I, L, P) bc bs) : mj_run Φ code Q ((pc, 60, a, b, x) :: is) lo (.retAddr (2 + c) :: rest) (n, I, L, P) bc bs := fun G hG => hG _ _ _ _ _ _ ⟨c, rest, rfl, h, k G hG⟩
theorem q_61 {c : Nat} {i : Int32} (h : c < 2) (hi : vp_in i (mj_txt c).length) (k : mj_run Φ code Q is lo (.int (nI ((mj_txt c).getD i.toNatClampNeg 0)) :: rest) (n, I, L, P) bc bs) : mj_run Φ code Q ((pc, 61, a, b, x) :: is) lo (.int i :: .retAddr (2 + c) :: rest) (n, I, L, P) bc bs := fun G hG => hG _ _ _ _ _ _ ⟨i, c, rest, rfl, h, hi, k G hG⟩
theorem q_63 {v : Nat} (h : mj_get lo a = some (.retAddr v)) (k : mj_run Φ code Q is lo (.retAddr v :: st) (n, I, L, P) bc bs) : mj_run Φ code Q ((pc, 63, a, b, x) :: is) lo st (n, I, L, P) bc bs := fun G hG => hG _ _ _ _ _ _ ⟨v, h, k G hG⟩
theorem q_64 {v : Int32} (h : narrow .char (.int v) = .int v) (k : Q (.inl (some (.int v))) (n, I, L, P)) : mj_run Φ code Q ((pc, 64, a, b, x) :: is) lo [.int v] (n, I, L, P) bc bs := fun _ hG => hG _ _ _ _ _ _ ⟨v, rfl, h, k⟩
theorem q_65 {v : Int32} (h : narrow .byte (.int v) = .int v) (k : Q (.inl (some (.int v))) (n, I, L, P)) : mj_run Φ code Q ((pc, 65, a, b, x) :: is) lo [.int v] (n, I, L, P) bc bs := fun _ hG => hG _ _ _ _ _ _ ⟨v, rfl, h, k⟩
theorem mj_retN_run {G : mj_G} (hG : mj_cl Φ code Q G) {bc bs : Nat} {rest : List Value} : ∀ r s, mj_retN (fun s2 σ2 => mj_run Φ code Q is lo s2 σ2 bc bs) rest r s → mj_retN (fun s2 σ2 => G is lo s2 σ2 bc bs) rest r s := by
  intro r s h
  cases r with
  | inl v => cases v with
    | none => exact h G hG
    | some v => exact h G hG
  | inr c => exact h
theorem q_62 (hm : mj_mono Φ) {c : Nat} (As : List Value) {rest : List Value} {st0 : List Value} (e : st0 = As.reverse ++ .retAddr c :: rest) (h2 : c < 2) (h1 : As.length = mj_mn a) (h4 : Nat.ble (mj_cs rest) 8 = true) (h5 : Nat.ble (mj_mc a) bc = true) (h6 : Nat.ble (mj_ms a) bs = true) (k : Φ a (.retAddr c :: As) (n, I, L, P) (mj_retN (fun s2 σ2 => mj_run Φ code Q is lo s2 σ2 (bc - mj_mc a) (bs - mj_ms a)) rest)) : mj_run Φ code Q ((pc, 62, a, b, x) :: is) lo st0 (n, I, L, P) bc bs := fun G hG => hG _ _ _ _ _ _ ⟨c, As, rest, e, h2, h1, Nat.le_of_ble_eq_true h4, Nat.le_of_ble_eq_true h5, Nat.le_of_ble_eq_true h6, hm _ _ _ _ _ (mj_retN_run hG) k⟩
theorem q_66 (hm : mj_mono Φ) {c : Nat} (As : List Value) {rest : List Value} {st0 : List Value} (e : st0 = As.reverse ++ .ref c :: rest) (h1 : As.length = mj_mn a) (h2 : mj_sh c = 10 + mj_mo a) (h3 : c < n) (h4 : Nat.ble (mj_cs rest) 8 = true) (h5 : Nat.ble (mj_mc a) bc = true) (h6 : Nat.ble (mj_ms a) bs = true) (k : Φ a (.ref c :: As) (n, I, L, P) (mj_retH (fun s2 σ2 => mj_run Φ code Q is lo s2 σ2 (bc - mj_mc a) (bs - mj_ms a)) (fun e σ2 => ∃ q ∈ mj_ht b, q.1 = e ∧ q.2.2 < lo.length ∧ mj_nlo lo q.2.2 = true ∧ mj_run Φ code Q (code q.2.1) (mj_set lo q.2.2 none) [] σ2 (bc - mj_mc a) (bs - mj_ms a)) rest)) : mj_run Φ code Q ((pc, 66, a, b, x) :: is) lo st0 (n, I, L, P) bc bs := fun G hG => hG _ _ _ _ _ _ ⟨c, As, rest, e, h1, h2, h3, Nat.le_of_ble_eq_true h4, Nat.le_of_ble_eq_true h5, Nat.le_of_ble_eq_true h6, hm _ _ _ _ _ (fun r s h => by
  cases r with
  | inl v => cases v with
    | none => exact h G hG
    | some v => exact h G hG
  | inr c =>
    obtain ⟨q, g1, g2, g3, g4, g5⟩ := h
    exact ⟨q, g1, g2, g3, g4, g5 G hG⟩) k⟩
theorem q_67 (hm : mj_mono Φ) {i : Int32} (k : Φ 1000 [.int i] (n, I, L, P) (mj_retN (fun s2 σ2 => mj_run Φ code Q is lo s2 σ2 bc bs) rest)) : mj_run Φ code Q ((pc, 67, a, b, x) :: is) lo (.int i :: .retAddr 5 :: rest) (n, I, L, P) bc bs := fun G hG => hG _ _ _ _ _ _ ⟨i, rest, rfl, hm _ _ _ _ _ (mj_retN_run hG) k⟩
theorem q_68 (hm : mj_mono Φ) (k : Φ 1001 [] (n, I, L, P) (mj_retN (fun s2 σ2 => mj_run Φ code Q is lo s2 σ2 bc bs) rest)) : mj_run Φ code Q ((pc, 68, a, b, x) :: is) lo (.retAddr 5 :: rest) (n, I, L, P) bc bs := fun G hG => hG _ _ _ _ _ _ ⟨rest, rfl, hm _ _ _ _ _ (mj_retN_run hG) k⟩
theorem q_69 (hm : mj_mono Φ) (As : List Value) {rest : List Value} {st0 : List Value} (e : st0 = As.reverse ++ rest) (h1 : As.length = mj_mn a) (h4 : Nat.ble (mj_cs rest) 8 = true) (h5 : Nat.ble (mj_mc a) bc = true) (h6 : Nat.ble (mj_ms a) bs = true) (k : Φ a As (n, I, L, P) (mj_retN (fun s2 σ2 => mj_run Φ code Q is lo s2 σ2 (bc - mj_mc a) (bs - mj_ms a)) rest)) : mj_run Φ code Q ((pc, 69, a, b, x) :: is) lo st0 (n, I, L, P) bc bs := fun G hG => hG _ _ _ _ _ _ ⟨As, rest, e, h1, Nat.le_of_ble_eq_true h4, Nat.le_of_ble_eq_true h5, Nat.le_of_ble_eq_true h6, hm _ _ _ _ _ (mj_retN_run hG) k⟩
theorem q_70 {u v : Int32} (h : Nat.ble (mj_cs rest) 8 = true) (k : mj_run Φ code Q is lo (.int (if u < v then v else u) :: rest) (n, I, L, P) bc bs) : mj_run Φ code Q ((pc, 70, a, b, x) :: is) lo (.int v :: .int u :: rest) (n, I, L, P) bc bs := fun G hG => hG _ _ _ _ _ _ ⟨u, v, rest, rfl, Nat.le_of_ble_eq_true h, k G hG⟩
theorem q_71 {u v : Int32} (h : Nat.ble (mj_cs rest) 8 = true) (k : mj_run Φ code Q is lo (.int (if v < u then v else u) :: rest) (n, I, L, P) bc bs) : mj_run Φ code Q ((pc, 71, a, b, x) :: is) lo (.int v :: .int u :: rest) (n, I, L, P) bc bs := fun G hG => hG _ _ _ _ _ _ ⟨u, v, rest, rfl, Nat.le_of_ble_eq_true h, k G hG⟩
theorem q_72 {u : Int32} (h : Nat.ble (mj_cs rest) 8 = true) (k : mj_run Φ code Q is lo (.int (if 0 ≤ u then u else 0 - u) :: rest) (n, I, L, P) bc bs) : mj_run Φ code Q ((pc, 72, a, b, x) :: is) lo (.int u :: rest) (n, I, L, P) bc bs := fun G hG => hG _ _ _ _ _ _ ⟨u, rest, rfl, Nat.le_of_ble_eq_true h, k G hG⟩
theorem q_73 {u v : Int64} (h : Nat.ble (mj_cs rest) 8 = true) (k : mj_run Φ code Q is lo (.long (if v < u then u else v) :: rest) (n, I, L, P) bc bs) : mj_run Φ code Q ((pc, 73, a, b, x) :: is) lo (.long v :: .long u :: rest) (n, I, L, P) bc bs := fun G hG => hG _ _ _ _ _ _ ⟨u, v, rest, rfl, Nat.le_of_ble_eq_true h, k G hG⟩
end R
theorem mj_ret_mono {G : List Value → mj_S → Prop} {Q Q' : mj_Q} (h : ∀ r s, Q r s → Q' r s) {rest : List Value} : ∀ r s, mj_ret G Q rest r s → mj_ret G Q' rest r s := by
  intro r s k
  cases r with
  | inl v => cases v with
    | none => exact k
    | some v => exact k
  | inr c => exact h _ _ k
/-- a run to Q is a run to what Q gives -/
theorem mj_run_mono {Φ : mj_F} (hm : mj_mono Φ) {code : Nat → List mj_O} {Q Q' : mj_Q} (h : ∀ r s, Q r s → Q' r s) {cs : List mj_O} {lo : mj_Lo} {st : List Value} {σ : mj_S} {bc bs : Nat} (k : mj_run Φ code Q cs lo st σ bc bs) : mj_run Φ code Q' cs lo st σ bc bs := by
  intro G hG
  refine k G (fun cs lo st σ bc bs h1 => hG cs lo st σ bc bs ?_)
  cases cs with
  | nil => exact h1
  | cons o is =>
    obtain ⟨pc, op, a, b, x⟩ := o
    change mj_op Φ code Q G op a b is lo st σ bc bs at h1
    change mj_op Φ code Q' G op a b is lo st σ bc bs
    unfold mj_op at h1 ⊢
    split at h1 <;> first
      | exact h1
      | exact ⟨h1.1, h _ _ h1.2⟩
      | (obtain ⟨v, e, h2⟩ := h1; exact ⟨v, e, h _ _ h2⟩)
      | (obtain ⟨v, e, e2, h2⟩ := h1; exact ⟨v, e, e2, h _ _ h2⟩)
      | (obtain ⟨e1, e2, e3, e4, h2⟩ := h1; exact ⟨e1, e2, e3, e4, h _ _ h2⟩)
      | (obtain ⟨k, As, rest, e1, e2, e3, e4, e5, e6, e7, h2⟩ := h1; exact ⟨k, As, rest, e1, e2, e3, e4, e5, e6, e7, hm _ _ _ _ _ (mj_ret_mono h) h2⟩)
      | (obtain ⟨As, rest, e1, e2, e5, e6, e7, h2⟩ := h1; exact ⟨As, rest, e1, e2, e5, e6, e7, hm _ _ _ _ _ (mj_ret_mono h) h2⟩)
theorem mj_ev_mono : ∀ d, mj_mono (mj_ev d)
  | 0 => fun _ _ _ _ _ _ k => k
  | d + 1 => fun _ _ _ _ _ h k => ⟨k.1, mj_run_mono (mj_ev_mono d) h k.2⟩
section R2
variable {Φ : mj_F} {code : Nat → List mj_O} {Q : mj_Q} {is : List mj_O} {lo lo' : mj_Lo} {st rest : List Value} {σ : mj_S} {bc bs pc a b x : Nat}
/-- sums of small numbers stay small numbers -/
theorem q_add {u v : Nat} (k : mj_run Φ code Q is lo (.int (nI (u + v)) :: rest) σ bc bs) : mj_run Φ code Q ((pc, 11, 0, b, x) :: is) lo (.int (nI v) :: .int (nI u) :: rest) σ bc bs := fun G hG => hG _ _ _ _ _ _ ⟨nI u, nI v, nI u + nI v, rest, rfl, rfl, by rw [nI_add]; exact k G hG⟩
theorem q_mul {u v : Nat} (k : mj_run Φ code Q is lo (.int (nI (u * v)) :: rest) σ bc bs) : mj_run Φ code Q ((pc, 11, 2, b, x) :: is) lo (.int (nI v) :: .int (nI u) :: rest) σ bc bs := fun G hG => hG _ _ _ _ _ _ ⟨nI u, nI v, nI u * nI v, rest, rfl, rfl, by rw [pk_mul]; exact k G hG⟩
theorem q_sub {u v : Nat} (h : v ≤ u) (k : mj_run Φ code Q is lo (.int (nI (u - v)) :: rest) σ bc bs) : mj_run Φ code Q ((pc, 11, 1, b, x) :: is) lo (.int (nI v) :: .int (nI u) :: rest) σ bc bs := fun G hG => hG _ _ _ _ _ _ ⟨nI u, nI v, nI u - nI v, rest, rfl, rfl, by rw [pk_sub h]; exact k G hG⟩
theorem q_inc {u : Nat} (h : mj_get lo a = some (.int (nI u))) (h2 : mj_nlo lo a = true) (h3 : mj_set lo a (some (.int (nI (u + b)))) = lo') (k : mj_run Φ code Q is lo' st σ bc bs) : mj_run Φ code Q ((pc, 9, a, b, x) :: is) lo st σ bc bs := fun G hG => hG _ _ _ _ _ _ ⟨nI u, h, h2, by rw [nI_add, h3]; exact k G hG⟩
/-- the six comparisons of small numbers -/
theorem q_eqN {u v : Nat} (hu : u < 2 ^ 31) (hv : v < 2 ^ 31) (kt : u = v → mj_run Φ code Q (code b) lo rest σ bc bs) (kf : u ≠ v → mj_run Φ code Q is lo rest σ bc bs) : mj_run Φ code Q ((pc, 22, 0, b, x) :: is) lo (.int (nI v) :: .int (nI u) :: rest) σ bc bs := fun G hG => hG _ _ _ _ _ _ ⟨nI u, nI v, rest, rfl, fun h => kt ((nI_eq hu hv).mp h) G hG, fun h => kf (fun e => h ((nI_eq hu hv).mpr e)) G hG⟩
theorem q_neN {u v : Nat} (hu : u < 2 ^ 31) (hv : v < 2 ^ 31) (kt : u ≠ v → mj_run Φ code Q (code b) lo rest σ bc bs) (kf : u = v → mj_run Φ code Q is lo rest σ bc bs) : mj_run Φ code Q ((pc, 22, 1, b, x) :: is) lo (.int (nI v) :: .int (nI u) :: rest) σ bc bs := fun G hG => hG _ _ _ _ _ _ ⟨nI u, nI v, rest, rfl, fun h => kt (fun e => h ((nI_eq hu hv).mpr e)) G hG, fun h => kf ((nI_eq hu hv).mp (Classical.not_not.mp h)) G hG⟩
theorem q_ltN {u v : Nat} (hu : u < 2 ^ 31) (hv : v < 2 ^ 31) (kt : u < v → mj_run Φ code Q (code b) lo rest σ bc bs) (kf : v ≤ u → mj_run Φ code Q is lo rest σ bc bs) : mj_run Φ code Q ((pc, 22, 2, b, x) :: is) lo (.int (nI v) :: .int (nI u) :: rest) σ bc bs := fun G hG => hG _ _ _ _ _ _ ⟨nI u, nI v, rest, rfl, fun h => kt ((nI_ltI hu hv).mp h) G hG, fun h => kf (Nat.le_of_not_lt (fun e => h ((nI_ltI hu hv).mpr e))) G hG⟩
theorem q_geN {u v : Nat} (hu : u < 2 ^ 31) (hv : v < 2 ^ 31) (kt : v ≤ u → mj_run Φ code Q (code b) lo rest σ bc bs) (kf : u < v → mj_run Φ code Q is lo rest σ bc bs) : mj_run Φ code Q ((pc, 22, 3, b, x) :: is) lo (.int (nI v) :: .int (nI u) :: rest) σ bc bs := fun G hG => hG _ _ _ _ _ _ ⟨nI u, nI v, rest, rfl, fun h => kt ((nI_leI hv hu).mp h) G hG, fun h => kf (Nat.lt_of_not_le (fun e => h ((nI_leI hv hu).mpr e))) G hG⟩
theorem q_gtN {u v : Nat} (hu : u < 2 ^ 31) (hv : v < 2 ^ 31) (kt : v < u → mj_run Φ code Q (code b) lo rest σ bc bs) (kf : u ≤ v → mj_run Φ code Q is lo rest σ bc bs) : mj_run Φ code Q ((pc, 22, 4, b, x) :: is) lo (.int (nI v) :: .int (nI u) :: rest) σ bc bs := fun G hG => hG _ _ _ _ _ _ ⟨nI u, nI v, rest, rfl, fun h => kt ((nI_ltI hv hu).mp h) G hG, fun h => kf (Nat.le_of_not_lt (fun e => h ((nI_ltI hv hu).mpr e))) G hG⟩
theorem q_leN {u v : Nat} (hu : u < 2 ^ 31) (hv : v < 2 ^ 31) (kt : u ≤ v → mj_run Φ code Q (code b) lo rest σ bc bs) (kf : v < u → mj_run Φ code Q is lo rest σ bc bs) : mj_run Φ code Q ((pc, 22, 5, b, x) :: is) lo (.int (nI v) :: .int (nI u) :: rest) σ bc bs := fun G hG => hG _ _ _ _ _ _ ⟨nI u, nI v, rest, rfl, fun h => kt ((nI_leI hu hv).mp h) G hG, fun h => kf (Nat.lt_of_not_le (fun e => h ((nI_leI hu hv).mpr e))) G hG⟩
end R2
end
section
/-! printed by wip/whole/gencode.py: what the lists name in the pools: (class, .., pool entry) -/
def mj_pF : List (Nat × Nat × Nat × Nat) := [(0, 0, 0, 18), (0, 0, 1, 26), (0, 0, 2, 9), (0, 0, 3, 22), (0, 0, 4, 30), (0, 7, 1, 66), (0, 7, 2, 57), (0, 7, 3, 54), (0, 9, 0, 37), (1, 1, 0, 12), (1, 1, 1, 18), (1, 1, 2, 22), (1, 1, 3, 25), (1, 1, 4, 28), (1, 1, 5, 32), (1, 1, 6, 35), (1, 1, 7, 38), (1, 9, 5, 41), (2, 2, 0, 9), (2, 2, 1, 21), (2, 2, 2, 26), (2, 2, 3, 27), (2, 2, 4, 31), (2, 4, 0, 15), (2, 4, 1, 22), (2, 4, 2, 79), (2, 7, 2, 86), (2, 7, 3, 63), (2, 9, 0, 35), (3, 2, 0, 23), (3, 3, 0, 30), (3, 3, 1, 34), (3, 3, 2, 38), (3, 3, 3, 9), (3, 3, 4, 29), (3, 3, 5, 15), (3, 3, 6, 41), (3, 3, 7, 19), (3, 4, 0, 51), (3, 4, 1, 63), (3, 7, 1, 67), (3, 9, 0, 55), (4, 4, 0, 9), (4, 4, 1, 15), (4, 4, 2, 19), (4, 4, 3, 23), (4, 4, 4, 26), (4, 7, 1, 50), (4, 7, 2, 39), (4, 9, 0, 30), (5, 5, 0, 35), (5, 5, 1, 11), (5, 5, 2, 15), (5, 5, 3, 25), (5, 5, 4, 29), (5, 5, 5, 65), (5, 5, 6, 46), (5, 5, 7, 88), (5, 5, 8, 91), (5, 5, 9, 32), (5, 5, 10, 146), (5, 6, 1, 149), (5, 7, 1, 105), (5, 7, 2, 119), (5, 7, 3, 128), (5, 9, 0, 94), (5, 9, 1, 97), (5, 9, 2, 113), (5, 9, 3, 116), (5, 9, 4, 122), (5, 9, 5, 101), (5, 9, 6, 131), (6, 6, 0, 9), (6, 6, 1, 28), (6, 6, 2, 32), (6, 6, 3, 35), (6, 6, 4, 38), (6, 6, 5, 41), (6, 6, 6, 44), (6, 6, 7, 19), (6, 6, 8, 22), (7, 7, 0, 24), (7, 7, 1, 9), (7, 7, 2, 15), (7, 7, 3, 18), (8, 4, 0, 15), (8, 4, 1, 22), (8, 4, 2, 51), (8, 7, 2, 54), (8, 7, 3, 63), (8, 8, 0, 21), (8, 8, 1, 27), (8, 8, 2, 26), (8, 8, 3, 9), (8, 8, 4, 31), (8, 8, 5, 35), (8, 8, 6, 38), (8, 9, 0, 45), (9, 6, 0, 58), (9, 6, 2, 63), (9, 6, 3, 66), (9, 6, 4, 76), (9, 6, 5, 79), (9, 7, 1, 91), (9, 7, 2, 94), (9, 9, 0, 9), (9, 9, 1, 15), (9, 9, 2, 19), (9, 9, 3, 22), (9, 9, 4, 25), (9, 9, 5, 31), (9, 9, 6, 40), (10, 8, 0, 19), (10, 9, 0, 47), (10, 10, 0, 26), (10, 10, 1, 30), (10, 10, 2, 34), (10, 10, 3, 38), (10, 10, 4, 41), (10, 10, 5, 9), (10, 10, 6, 25), (10, 10, 7, 15), (10, 10, 8, 44), (11, 0, 0, 383), (11, 0, 1, 380), (11, 1, 0, 59), (11, 1, 1, 164), (11, 1, 2, 167), (11, 3, 0, 329), (11, 3, 1, 339), (11, 3, 2, 342), (11, 4, 2, 266), (11, 4, 3, 299), (11, 4, 4, 407), (11, 5, 0, 133), (11, 7, 0, 145), (11, 7, 1, 178), (11, 7, 2, 190), (11, 7, 3, 196), (11, 8, 1, 410), (11, 9, 0, 142), (11, 9, 1, 181), (11, 9, 2, 184), (11, 9, 3, 187), (11, 9, 4, 193), (11, 10, 0, 277), (11, 10, 1, 411), (11, 10, 2, 283), (11, 10, 3, 286), (11, 10, 4, 289), (11, 11, 0, 9), (11, 11, 1, 13), (11, 11, 2, 17), (11, 11, 3, 20), (11, 11, 4, 41), (11, 11, 5, 29), (11, 11, 6, 33), (11, 11, 7, 48), (11, 11, 8, 52), (11, 11, 9, 55), (11, 11, 10, 63), (11, 11, 11, 69), (11, 11, 12, 78), (11, 11, 13, 82), (11, 11, 14, 88), (11, 11, 15, 97), (11, 11, 16, 106), (11, 11, 17, 115), (12, 12, 0, 118), (12, 12, 1, 273), (12, 12, 2, 9), (12, 12, 3, 13), (12, 12, 4, 16), (12, 12, 5, 20), (12, 12, 6, 23), (12, 12, 7, 26), (12, 12, 8, 29), (12, 12, 9, 32), (12, 12, 10, 121), (12, 12, 11, 174), (12, 12, 12, 35), (12, 12, 13, 38), (12, 12, 14, 128), (12, 12, 15, 131), (12, 12, 16, 151), (12, 12, 17, 138), (12, 12, 18, 161), (12, 12, 19, 145), (12, 12, 20, 148), (12, 12, 21, 141), (12, 12, 22, 187), (12, 12, 23, 253), (12, 12, 24, 260), (12, 12, 25, 190), (12, 12, 26, 209), (12, 12, 27, 212), (12, 12, 28, 193), (12, 12, 29, 215), (12, 12, 30, 41), (12, 12, 31, 44), (12, 12, 32, 47), (12, 12, 33, 50), (12, 12, 34, 53), (12, 12, 35, 56), (12, 12, 36, 59), (12, 12, 37, 62), (12, 12, 38, 66), (12, 12, 39, 69), (12, 12, 40, 280), (12, 12, 41, 72), (12, 12, 42, 75), (12, 12, 43, 78), (12, 12, 44, 81), (12, 12, 45, 84), (12, 12, 46, 88), (12, 12, 47, 91), (12, 12, 48, 94), (12, 12, 49, 97), (12, 12, 50, 394), (12, 12, 51, 412), (12, 12, 52, 283), (12, 12, 53, 100), (12, 12, 54, 103), (12, 12, 55, 106), (12, 12, 56, 442), (12, 12, 57, 286), (12, 12, 58, 452), (12, 12, 59, 455), (12, 12, 60, 109), (12, 12, 61, 112), (12, 12, 62, 115)]
def mj_pM : List (Nat × Nat × Nat) := [(0, 2, 42), (0, 3, 46), (0, 4, 50), (0, 5, 69), (0, 63, 17), (0, 65, 33), (0, 87, 80), (1, 16, 63), (1, 63, 11), (1, 65, 46), (1, 66, 56), (1, 67, 60), (2, 15, 53), (2, 16, 40), (2, 17, 44), (2, 21, 56), (2, 22, 60), (2, 23, 72), (2, 282, 48), (3, 13, 82), (3, 15, 76), (3, 19, 91), (3, 21, 79), (3, 26, 60), (3, 27, 88), (3, 28, 95), (3, 32, 45), (3, 33, 72), (4, 34, 35), (4, 87, 53), (5, 38, 58), (5, 39, 43), (5, 40, 68), (5, 41, 71), (5, 42, 178), (5, 43, 62), (5, 44, 49), (5, 45, 110), (5, 46, 52), (5, 47, 125), (5, 48, 55), (5, 49, 152), (5, 50, 165), (5, 51, 169), (5, 52, 162), (5, 53, 175), (5, 56, 135), (5, 57, 141), (5, 58, 156), (5, 59, 159), (5, 61, 172), (5, 86, 38), (5, 283, 84), (5, 288, 76), (6, 55, 25), (6, 56, 47), (7, 64, 21), (8, 32, 41), (8, 71, 70), (8, 72, 66), (8, 73, 83), (8, 78, 79), (8, 80, 86), (8, 83, 93), (8, 84, 89), (8, 88, 59), (8, 282, 74), (9, 54, 37), (9, 55, 47), (9, 56, 54), (9, 57, 73), (9, 60, 82), (9, 62, 69), (9, 63, 30), (9, 64, 44), (9, 87, 97), (9, 90, 87), (10, 71, 72), (10, 72, 80), (10, 94, 61), (10, 95, 58), (10, 97, 65), (10, 98, 76), (10, 99, 69), (11, 0, 112), (11, 1, 373), (11, 6, 377), (11, 7, 47), (11, 8, 136), (11, 9, 390), (11, 10, 215), (11, 11, 241), (11, 12, 325), (11, 13, 332), (11, 14, 75), (11, 15, 319), (11, 16, 222), (11, 17, 251), (11, 18, 248), (11, 20, 312), (11, 21, 322), (11, 24, 103), (11, 25, 336), (11, 29, 345), (11, 30, 348), (11, 31, 66), (11, 32, 263), (11, 33, 309), (11, 35, 296), (11, 36, 38), (11, 37, 129), (11, 68, 154), (11, 69, 87), (11, 70, 400), (11, 71, 199), (11, 73, 203), (11, 74, 161), (11, 75, 257), (11, 76, 254), (11, 77, 260), (11, 79, 368), (11, 81, 384), (11, 82, 387), (11, 85, 26), (11, 87, 403), (11, 88, 212), (11, 89, 315), (11, 91, 94), (11, 92, 269), (11, 93, 273), (11, 96, 280), (11, 102, 119), (11, 130, 302), (11, 138, 353), (11, 139, 356), (11, 141, 361), (11, 142, 365), (11, 149, 175), (11, 150, 292), (11, 151, 245), (11, 152, 150), (11, 153, 218), (11, 154, 157), (11, 155, 237), (11, 156, 208), (11, 157, 139), (11, 158, 234), (12, 163, 266), (12, 164, 342), (12, 165, 276), (12, 166, 339), (12, 168, 124), (12, 169, 134), (12, 170, 154), (12, 171, 158), (12, 172, 181), (12, 173, 166), (12, 174, 170), (12, 175, 205), (12, 176, 184), (12, 177, 177), (12, 178, 218), (12, 179, 263), (12, 180, 243), (12, 181, 250), (12, 182, 202), (12, 183, 196), (12, 184, 199), (12, 185, 230), (12, 186, 221), (12, 187, 227), (12, 188, 224), (12, 189, 233), (12, 190, 237), (12, 191, 240), (12, 192, 256), (12, 193, 247), (12, 194, 270), (12, 197, 367), (12, 198, 364), (12, 200, 323), (12, 201, 290), (12, 202, 297), (12, 203, 294), (12, 204, 300), (12, 205, 304), (12, 206, 329), (12, 207, 336), (12, 208, 307), (12, 209, 314), (12, 210, 311), (12, 211, 317), (12, 212, 320), (12, 213, 326), (12, 214, 373), (12, 215, 345), (12, 216, 348), (12, 217, 333), (12, 218, 361), (12, 219, 351), (12, 221, 354), (12, 222, 357), (12, 231, 370), (12, 239, 376), (12, 243, 385), (12, 244, 382), (12, 245, 379), (12, 246, 388), (12, 250, 391), (12, 251, 397), (12, 252, 400), (12, 253, 403), (12, 254, 406), (12, 255, 409), (12, 258, 415), (12, 260, 418), (12, 264, 423), (12, 265, 426), (12, 268, 432), (12, 269, 429), (12, 271, 435), (12, 274, 439), (12, 277, 446), (12, 278, 449), (15, 284, 492), (15, 285, 495), (15, 287, 1059), (15, 289, 633), (15, 290, 505), (15, 291, 335), (15, 292, 637), (16, 286, 9), (16, 293, 95), (16, 294, 88), (18, 100, 101), (18, 101, 105), (18, 103, 7), (18, 104, 120), (18, 105, 15), (18, 106, 20), (18, 107, 24), (18, 108, 27), (18, 109, 137), (18, 110, 30), (18, 111, 33), (18, 112, 36), (18, 113, 39), (18, 114, 153), (18, 115, 43), (18, 116, 46), (18, 117, 49), (18, 118, 52), (18, 119, 55), (18, 120, 95), (18, 121, 172), (18, 122, 176), (18, 123, 180), (18, 124, 58), (18, 125, 187), (18, 126, 61), (18, 127, 64), (18, 128, 98), (18, 129, 67), (18, 131, 71), (18, 132, 244), (18, 133, 74), (18, 134, 208), (18, 135, 77), (18, 136, 80), (18, 137, 83), (18, 140, 86), (18, 143, 224), (18, 144, 89), (18, 145, 92), (18, 146, 234), (18, 147, 248), (18, 148, 252), (18, 161, 104), (18, 162, 116), (18, 167, 109), (18, 195, 115), (18, 196, 123), (18, 199, 156), (18, 220, 126), (18, 223, 130), (18, 224, 133), (18, 225, 136), (18, 226, 140), (18, 227, 143), (18, 228, 146), (18, 229, 149), (18, 230, 152), (18, 232, 159), (18, 233, 162), (18, 234, 165), (18, 235, 168), (18, 236, 171), (18, 237, 175), (18, 238, 179), (18, 240, 183), (18, 241, 240), (18, 242, 247), (18, 247, 186), (18, 248, 191), (18, 249, 243), (18, 256, 194), (18, 257, 197), (18, 259, 201), (18, 261, 204), (18, 262, 207), (18, 263, 211), (18, 266, 214), (18, 267, 217), (18, 270, 220), (18, 272, 223), (18, 273, 227), (18, 275, 233), (18, 276, 237), (18, 279, 230), (18, 280, 251), (18, 281, 256), (18, 295, 110), (18, 296, 124), (18, 297, 127), (18, 298, 131), (18, 299, 134), (18, 300, 141), (18, 301, 144), (18, 302, 147), (18, 303, 150), (18, 304, 157), (18, 305, 160), (18, 306, 163), (18, 307, 166), (18, 308, 169), (18, 309, 184), (18, 310, 192), (18, 311, 195), (18, 312, 198), (18, 313, 202), (18, 314, 205), (18, 315, 212), (18, 316, 215), (18, 317, 218), (18, 318, 221), (18, 319, 228), (18, 320, 231), (18, 321, 238), (18, 322, 241)]
def mj_pN : List (Nat × Nat × Nat) := [(0, 159, 72), (0, 160, 76), (2, 159, 82), (2, 160, 75)]
def mj_pO : List (Nat × Nat) := [(0, 3), (1, 3), (2, 3), (3, 3), (4, 3), (5, 5), (6, 3), (7, 3), (8, 3), (9, 3), (10, 3), (11, 3), (12, 1)]
def mj_pC : List (Nat × Nat × Nat) := [(0, 7, 15), (1, 7, 9), (9, 6, 35), (9, 7, 28), (11, 0, 110), (11, 1, 45), (11, 2, 73), (11, 3, 101), (11, 4, 64), (11, 5, 36), (11, 8, 85), (11, 9, 24), (11, 10, 92), (18, 11, 8), (18, 12, 102)]
def mj_pI : List (Nat × Nat × Nat × Nat) := [(0, 1103515245, 0, 53), (5, 64513, 0, 144), (5, 462880, 0, 145), (6, 32769, 1, 53), (6, 1048575, 0, 54), (9, 32768, 0, 86), (11, 2147483647, 0, 308), (12, 1103515245, 0, 445), (14, 252645135, 0, 267), (14, 858993459, 0, 266), (14, 1431655765, 0, 265)]
def mj_pJ : List (Nat × Nat × Nat) := [(12, 11, 421), (12, 96, 164)]
def mj_pA : List (Nat × Nat) := [(1, 50), (2, 66), (7, 28)]
def mj_pT : List (Nat × Nat × Nat × Nat) := [(11, 0, 172, 170), (11, 0, 206, 170), (11, 0, 394, 170), (11, 0, 396, 170), (11, 1, 124, 122), (11, 1, 351, 122), (11, 1, 359, 122), (11, 1, 371, 122), (11, 1, 398, 122)]
def mj_pS : List (Nat × Nat × Nat) := [(5, 0, 74), (5, 1, 82)]
def mj_pV : List (Nat × Nat × Nat) := [(15, 0, 9), (15, 1, 15), (15, 2, 38), (15, 3, 1053)]
def mj_pX : List (Nat × Nat × Nat) := [(0, 1, 60), (4, 1, 44), (5, 1, 19), (6, 0, 13), (9, 2, 48), (10, 3, 52), (11, 0, 231), (11, 1, 226), (16, 0, 92), (16, 1, 38)]
def mj_pH : List (Nat × Nat × Nat) := [(18, 0, 18), (18, 1, 13)]
def mj_kd : List (Nat × Nat) := [(0, 1), (0, 2), (0, 3), (0, 4), (0, 5), (0, 6), (0, 8), (0, 9), (0, 10), (0, 11), (0, 12), (0, 13), (0, 15), (0, 16), (0, 17), (0, 18), (0, 19), (0, 20), (0, 21), (0, 22), (0, 23), (0, 25), (0, 26), (0, 27), (0, 28), (0, 29), (0, 30), (0, 32), (0, 33), (0, 34), (0, 35), (0, 37), (0, 38), (0, 39), (0, 40), (0, 41), (0, 42), (0, 43), (0, 44), (0, 45), (0, 46), (0, 47), (0, 48), (0, 49), (0, 50), (0, 51), (0, 52), (0, 53), (0, 55), (0, 56), (0, 57), (0, 58), (0, 59), (0, 60), (0, 61), (0, 62), (0, 64), (0, 65), (0, 66), (0, 67), (0, 68), (0, 70), (0, 71), (0, 72), (0, 73), (0, 74), (0, 75), (0, 76), (0, 77), (0, 78), (0, 79), (0, 80), (0, 81), (0, 82), (0, 83), (0, 84), (0, 86), (0, 87), (0, 88), (0, 89), (0, 90), (0, 92), (0, 93), (0, 94), (0, 95), (0, 96), (0, 97), (0, 98), (0, 99), (0, 101), (0, 102), (0, 103), (0, 104), (0, 105), (0, 106), (0, 107), (0, 108), (0, 109), (0, 110), (0, 111), (0, 112), (0, 113), (0, 114), (0, 115), (0, 116), (0, 117), (0, 118), (0, 119), (0, 120), (0, 121), (0, 122), (0, 123), (0, 124), (0, 125), (0, 126), (0, 127), (0, 128), (0, 129), (0, 130), (0, 131), (0, 132), (0, 133), (0, 134), (0, 135), (0, 136), (0, 137), (0, 140), (0, 141), (0, 142), (0, 143), (0, 144), (0, 145), (0, 146), (0, 147), (0, 148), (0, 149), (0, 152), (0, 153), (0, 154), (0, 155), (0, 156), (0, 157), (0, 158), (0, 162), (0, 163), (0, 165), (0, 167), (0, 168), (0, 169), (0, 172), (0, 175), (0, 176), (0, 177), (0, 178), (0, 179), (0, 180), (0, 181), (0, 182), (0, 185), (0, 186), (0, 187), (0, 188), (0, 189), (0, 190), (0, 191), (0, 192), (0, 193), (0, 194), (0, 195), (0, 196), (0, 197), (0, 198), (0, 199), (0, 200), (0, 202), (0, 204), (0, 205), (0, 206), (0, 207), (0, 208), (0, 209), (0, 210), (0, 211), (0, 212), (0, 213), (0, 214), (0, 215), (0, 216), (0, 217), (0, 218), (0, 219), (0, 220), (0, 221), (0, 222), (0, 223), (0, 224), (0, 225), (0, 226), (0, 227), (0, 228), (0, 229), (0, 230), (0, 231), (0, 232), (0, 233), (0, 234), (0, 235), (0, 236), (0, 237), (0, 238), (0, 239), (0, 240), (0, 241), (0, 242), (0, 243), (0, 245), (0, 246), (0, 247), (0, 248), (0, 249), (0, 250), (0, 251), (0, 252), (0, 253), (0, 254), (0, 255), (0, 256), (0, 257), (0, 258), (0, 259), (0, 260), (0, 261), (0, 262), (0, 263), (0, 264), (0, 265), (0, 266), (0, 267), (0, 270), (0, 271), (0, 272), (0, 273), (0, 274), (0, 275), (0, 276), (0, 277), (0, 278), (0, 279), (0, 280), (0, 281), (1, 138), (1, 139), (1, 150), (1, 151), (1, 159), (1, 160), (1, 164), (1, 166), (1, 170), (1, 171), (1, 173), (1, 174), (1, 183), (1, 184), (1, 201), (1, 203), (1, 244), (1, 268), (1, 269), (1, 282), (1, 285), (1, 286), (1, 287), (1, 292), (1, 293), (1, 294), (2, 0), (2, 7), (2, 14), (2, 24), (2, 31), (2, 36), (2, 54), (2, 63), (2, 69), (2, 85), (2, 91), (2, 100), (2, 161), (3, 283), (3, 284), (3, 288), (3, 289), (3, 290), (3, 291), (4, 295), (4, 296), (4, 297), (4, 298), (4, 299), (4, 300), (4, 301), (4, 302), (4, 303), (4, 304), (4, 305), (4, 306), (4, 307), (4, 308), (4, 309), (4, 310), (4, 311), (4, 312), (4, 313), (4, 314), (4, 315), (4, 316), (4, 317), (4, 318), (4, 319), (4, 320), (4, 321), (4, 322)]
def mj_cnl : List String := [RX0, RX1, RX2, RX3, RX4, RX5, RX6, RX7, RX8, RX9, RX10, RX11, RX12, "java/lang/Math", "java/lang/Integer", RJ0, RJ1, RJ3, RL]
def mj_cn (k : Nat) : String := mj_cnl.getD k ""
def mj_mw : List Cond := lw_tbl.filter goodWord
/-- a final field is written by a constructor of its own class alone -/
def mj_fin (mm a b : Nat) : Bool := !((vwCl.getD a ("", (fun _ => ("", "", "", false)), 0)).2.1 b).2.2.2 || (decide ((mj_my mm).name = "<init>") && (mj_mo mm == a))
end
section
/-! the small machine's cells in the heap: cell k lies at base + k; a text's or a script's reference lies at ext -/
/-- what may be null -/
def mj_nv : Nat → Value
  | 0 => .null
  | n + 1 => .ref n
def mj_cv (base : Nat) (ext : Nat → Nat) : Value → Value
  | .ref k => .ref (base + k)
  | .retAddr k => if k = 4 then mj_nv (ext 4) else .ref (ext k)
  | v => v
theorem mj_cv_cat (base : Nat) (ext : Nat → Nat) (v : Value) : (mj_cv base ext v).category = v.category := by
  cases v <;> try rfl
  rename_i k
  show (if k = 4 then mj_nv (ext 4) else .ref (ext k)).category = 1
  split
  · cases ext 4 <;> rfl
  · rfl
theorem mj_cv_x {base : Nat} {ext : Nat → Nat} {k : Nat} (h : k ≠ 4) : mj_cv base ext (.retAddr k) = .ref (ext k) := by
  show (if k = 4 then mj_nv (ext 4) else .ref (ext k)) = _
  rw [if_neg h]
theorem mj_cv_cs (base : Nat) (ext : Nat → Nat) (st : List Value) : ((st.map (mj_cv base ext)).map fun v => v.category).sum = mj_cs st := by
  unfold mj_cs
  rw [List.map_map]
  congr 1
  apply List.map_congr_left
  intro v _
  exact mj_cv_cat base ext v
def mj_fv (base : Nat) (σ : mj_S) (ci k j : Nat) : Value := match mj_ft ci j with
  | 2 => .long (σ.2.2.1 k j)
  | 3 => va_rf ((σ.2.2.2 k j).map (fun r => base + r))
  | _ => .int (σ.2.1 k j)
def mj_ce (ca : Nat → ClassId) (base : Nat) (σ : mj_S) (k : Nat) : va_E := match mj_sh k with
  | 1 => .inl (ca 0, mj_ln k, .inl (σ.2.1 k))
  | 2 => .inl (ca 1, mj_ln k, .inr (.inl (σ.2.2.1 k)))
  | 3 => .inl (ca 2, mj_ln k, .inl (σ.2.1 k))
  | 4 => .inl (ca 3, mj_ln k, .inl (σ.2.1 k))
  | q => .inr (q - 10, (List.range (mj_ln k)).map (mj_fv base σ (q - 10) k))
def mj_wd (ca : Nat → ClassId) (base : Nat) (σ : mj_S) : va_W := (List.range σ.1).map (fun k => (base + k, mj_ce ca base σ k))
def mj_tys (ca : Nat → ClassId) : List (ClassId × FieldType) := [(ca 0, .int), (ca 1, .long), (ca 2, .byte), (ca 3, .boolean)]
def mj_sz (base : Nat) (σ : mj_S) (H : Heap) : Prop := H.size = base + σ.1 ∨ (mj_shl.length ≤ σ.1 ∧ base + σ.1 ≤ H.size)
def mj_H (D : va_G) (ca : Nat → ClassId) (base : Nat) (σ : mj_S) (H : Heap) : Prop := va_P D vwCl (mj_wd ca base σ) H ∧ mj_sz base σ H
def mj_A (base : Nat) : Nat → Prop := fun q => base ≤ q
theorem mj_wd_get {ca : Nat → ClassId} {base : Nat} {σ : mj_S} {k : Nat} (h : k < σ.1) : (mj_wd ca base σ)[k]? = some (base + k, mj_ce ca base σ k) := by
  unfold mj_wd
  rw [List.getElem?_map, List.getElem?_range h]
  rfl
theorem mj_wd_len (ca : Nat → ClassId) (base : Nat) (σ : mj_S) : (mj_wd ca base σ).length = σ.1 := by
  unfold mj_wd
  rw [List.length_map, List.length_range]
theorem mj_wd_inv {ca : Nat → ClassId} {base : Nat} {σ : mj_S} {k : Nat} {q : Nat × va_E} (h : (mj_wd ca base σ)[k]? = some q) : k < σ.1 ∧ q = (base + k, mj_ce ca base σ k) := by
  have hl : k < σ.1 := by rw [← mj_wd_len ca base σ]; exact (List.getElem?_eq_some_iff.mp h).1
  rw [mj_wd_get hl] at h
  exact ⟨hl, (Option.some.inj h).symm⟩
theorem mj_wd_D (ca : Nat → ClassId) (base : Nat) (σ : mj_S) : va_D (mj_A base) (mj_wd ca base σ) := by
  refine ⟨fun i j x y hi hj e => ?_, fun k q h => ?_⟩
  · obtain ⟨-, rfl⟩ := mj_wd_inv hi
    obtain ⟨-, rfl⟩ := mj_wd_inv hj
    have e2 : base + i = base + j := e
    omega
  · obtain ⟨-, rfl⟩ := mj_wd_inv h
    exact Nat.le_add_right base k
theorem mj_ce_congr {ca : Nat → ClassId} {base : Nat} {σ τ : mj_S} {k : Nat} (h1 : τ.2.1 k = σ.2.1 k) (h2 : τ.2.2.1 k = σ.2.2.1 k) (h3 : τ.2.2.2 k = σ.2.2.2 k) : mj_ce ca base τ k = mj_ce ca base σ k := by
  have e : ∀ c, mj_fv base τ c k = mj_fv base σ c k := fun c => by
    funext j
    unfold mj_fv
    rw [h1, h2, h3]
  unfold mj_ce
  simp only [h1, h2, e]
/-- one cell is another one now -/
theorem mj_wd_set {ca : Nat → ClassId} {base : Nat} {σ τ : mj_S} {k : Nat} {E : va_E} (hn : τ.1 = σ.1) (hk : mj_ce ca base τ k = E) (ho : ∀ j, j ≠ k → mj_ce ca base τ j = mj_ce ca base σ j) : (mj_wd ca base σ).set k (base + k, E) = mj_wd ca base τ := by
  apply List.ext_getElem?
  intro j
  by_cases hj : j < σ.1
  · rw [mj_wd_get (σ := τ) (by omega)]
    by_cases e : j = k
    · subst e
      rw [List.getElem?_set_self (by rw [mj_wd_len]; exact hj), hk]
    · rw [List.getElem?_set_ne (Ne.symm e), mj_wd_get hj, ho j e]
  · rw [List.getElem?_eq_none (by rw [List.length_set, mj_wd_len]; omega), List.getElem?_eq_none (by rw [mj_wd_len]; omega)]
theorem mj_ce_1 {ca : Nat → ClassId} {base : Nat} {σ : mj_S} {k : Nat} (h : mj_sh k = 1) : mj_ce ca base σ k = .inl (ca 0, mj_ln k, .inl (σ.2.1 k)) := by unfold mj_ce; rw [h]; rfl
theorem mj_ce_2 {ca : Nat → ClassId} {base : Nat} {σ : mj_S} {k : Nat} (h : mj_sh k = 2) : mj_ce ca base σ k = .inl (ca 1, mj_ln k, .inr (.inl (σ.2.2.1 k))) := by unfold mj_ce; rw [h]; rfl
theorem mj_ce_3 {ca : Nat → ClassId} {base : Nat} {σ : mj_S} {k : Nat} (h : mj_sh k = 3) : mj_ce ca base σ k = .inl (ca 2, mj_ln k, .inl (σ.2.1 k)) := by unfold mj_ce; rw [h]; rfl
theorem mj_ce_4 {ca : Nat → ClassId} {base : Nat} {σ : mj_S} {k : Nat} (h : mj_sh k = 4) : mj_ce ca base σ k = .inl (ca 3, mj_ln k, .inl (σ.2.1 k)) := by unfold mj_ce; rw [h]; rfl
theorem mj_ce_o {ca : Nat → ClassId} {base : Nat} {σ : mj_S} {k c : Nat} (h : mj_sh k = 10 + c) : mj_ce ca base σ k = .inr (c, (List.range (mj_ln k)).map (mj_fv base σ c k)) := by
  unfold mj_ce
  rw [h]
  have e : 10 + c - 10 = c := by omega
  split
  · omega
  · omega
  · omega
  · omega
  · rename_i q _ _ _ _
    rw [e]
theorem mj_fs_get {base : Nat} {σ : mj_S} {c k N j : Nat} (h : j < N) : ((List.range N).map (mj_fv base σ c k))[j]? = some (mj_fv base σ c k j) := by
  rw [List.getElem?_map, List.getElem?_range h]
  rfl
theorem mj_fs_set {base : Nat} {σ τ : mj_S} {c k N j : Nat} {v : Value} (hj : mj_fv base τ c k j = v) (ho : ∀ i, i ≠ j → mj_fv base τ c k i = mj_fv base σ c k i) : ((List.range N).map (mj_fv base σ c k)).set j v = (List.range N).map (mj_fv base τ c k) := by
  apply List.ext_getElem?
  intro i
  by_cases hi : i < N
  · rw [mj_fs_get hi]
    by_cases e : i = j
    · subst e
      rw [List.getElem?_set_self (by rw [List.length_map, List.length_range]; exact hi), hj]
    · rw [List.getElem?_set_ne (Ne.symm e), mj_fs_get hi, ho i e]
  · rw [List.getElem?_eq_none (by rw [List.length_set, List.length_map, List.length_range]; omega), List.getElem?_eq_none (by rw [List.length_map, List.length_range]; omega)]
theorem mj_upI_ne {I : mj_I} {k j c : Nat} {v : Int32} (h : c ≠ k) : mj_upI I k j v c = I c := by unfold mj_upI; rw [if_neg h]
theorem mj_upI_eq {I : mj_I} {k j : Nat} {v : Int32} : mj_upI I k j v k = upd (I k) j v := by unfold mj_upI; rw [if_pos rfl]
theorem mj_upL_ne {L : mj_L} {k j c : Nat} {v : Int64} (h : c ≠ k) : mj_upL L k j v c = L c := by unfold mj_upL; rw [if_neg h]
theorem mj_upL_eq {L : mj_L} {k j : Nat} {v : Int64} : mj_upL L k j v k = vp_updL (L k) j v := by unfold mj_upL; rw [if_pos rfl]
theorem mj_upP_ne {P : mj_P} {k j c : Nat} {v : Option Nat} (h : c ≠ k) : mj_upP P k j v c = P c := by unfold mj_upP; rw [if_neg h]
theorem mj_upP_eq {P : mj_P} {k j : Nat} {v : Option Nat} : mj_upP P k j v k = va_up (P k) j v := by unfold mj_upP; rw [if_pos rfl]
theorem mj_seI_ne {I : mj_I} {k c : Nat} {f : Nat → Int32} (h : c ≠ k) : mj_seI I k f c = I c := by unfold mj_seI; rw [if_neg h]
theorem mj_seI_eq {I : mj_I} {k : Nat} {f : Nat → Int32} : mj_seI I k f k = f := by unfold mj_seI; rw [if_pos rfl]
theorem mj_seL_ne {L : mj_L} {k c : Nat} {f : Nat → Int64} (h : c ≠ k) : mj_seL L k f c = L c := by unfold mj_seL; rw [if_neg h]
theorem mj_seL_eq {L : mj_L} {k : Nat} {f : Nat → Int64} : mj_seL L k f k = f := by unfold mj_seL; rw [if_pos rfl]
theorem mj_seP_ne {P : mj_P} {k c : Nat} {f : Nat → Option Nat} (h : c ≠ k) : mj_seP P k f c = P c := by unfold mj_seP; rw [if_neg h]
theorem mj_seP_eq {P : mj_P} {k : Nat} {f : Nat → Option Nat} : mj_seP P k f k = f := by unfold mj_seP; rw [if_pos rfl]
/-- locals -/
def mj_ll (cv : Value → Value) : mj_Lo → Nat → List (Nat × Value)
  | [], _ => []
  | some v :: t, i => (i, cv v) :: mj_ll cv t (i + 1)
  | none :: t, i => mj_ll cv t (i + 1)
theorem mj_ll_mem {cv : Value → Value} : ∀ {lo : mj_Lo} {i o : Nat} {v : Value}, mj_get lo i = some v → (o + i, cv v) ∈ mj_ll cv lo o
  | [], i, o, v, h => by cases h
  | x :: t, 0, o, v, h => by
    have e : x = some v := h
    subst e
    exact List.mem_cons_self
  | x :: t, i + 1, o, v, h => by
    have h2 : mj_get t i = some v := h
    have h3 := mj_ll_mem (cv := cv) (o := o + 1) h2
    rw [show o + 1 + i = o + (i + 1) by omega] at h3
    cases x with
    | none => exact h3
    | some w => exact List.mem_cons_of_mem _ h3
theorem mj_ll_inv {cv : Value → Value} : ∀ {lo : mj_Lo} {o : Nat} {q : Nat × Value}, q ∈ mj_ll cv lo o → ∃ i v, mj_get lo i = some v ∧ q = (o + i, cv v)
  | [], o, q, h => by cases h
  | none :: t, o, q, h => by
    obtain ⟨i, v, h1, h2⟩ := mj_ll_inv (lo := t) (o := o + 1) h
    exact ⟨i + 1, v, h1, by rw [h2]; congr 1; omega⟩
  | some w :: t, o, q, h => by
    rcases List.mem_cons.mp h with rfl | h
    · exact ⟨0, w, rfl, rfl⟩
    · obtain ⟨i, v, h1, h2⟩ := mj_ll_inv (lo := t) (o := o + 1) h
      exact ⟨i + 1, v, h1, by rw [h2]; congr 1; omega⟩
theorem mj_set_len : ∀ (lo : mj_Lo) (a : Nat) (v : Option Value), (mj_set lo a v).length = lo.length
  | [], _, _ => rfl
  | _ :: _, 0, _ => rfl
  | _ :: t, n + 1, v => by
    show (mj_set t n v).length + 1 = t.length + 1
    rw [mj_set_len t n v]
theorem mj_get_ne : ∀ {lo : mj_Lo} {a i : Nat} {v : Option Value}, i ≠ a → mj_get (mj_set lo a v) i = mj_get lo i
  | [], _, _, _, _ => rfl
  | _ :: _, 0, 0, _, h => absurd rfl h
  | _ :: _, 0, _ + 1, _, _ => rfl
  | _ :: _, _ + 1, 0, _, _ => rfl
  | _ :: t, n + 1, i + 1, v, h => mj_get_ne (lo := t) (a := n) (i := i) (v := v) (by omega)
theorem mj_get_eq : ∀ {lo : mj_Lo} {a : Nat} {v : Option Value} {w : Value}, mj_get (mj_set lo a v) a = some w → v = some w
  | [], _, _, _, h => by cases h
  | _ :: _, 0, _, _, h => h
  | _ :: t, n + 1, v, w, h => mj_get_eq (lo := t) (a := n) h
def mj_LR (cv : Value → Value) (lo : mj_Lo) (ls : Array Slot) (nL : Nat) : Prop := lo.length = nL ∧ lv_has ls nL (mj_ll cv lo 0)
theorem mj_LR.at {cv : Value → Value} {lo : mj_Lo} {ls : Array Slot} {nL i : Nat} {v : Value} (h : mj_LR cv lo ls nL) (hg : mj_get lo i = some v) : ls[i]? = some (.val (cv v)) := by
  have h2 := h.2.2.2 _ (mj_ll_mem (cv := cv) (o := 0) hg)
  rw [Nat.zero_add] at h2
  exact h2
theorem mj_nlo_cat {lo : mj_Lo} {i : Nat} {v : Value} (h : mj_nlo lo (i + 1) = true) (hg : mj_get lo i = some v) : ¬ v.category = 2 := by
  have h' : (match mj_get lo i with
    | some (.long _) => false
    | some (.double _) => false
    | _ => true) = true := h
  rw [hg] at h'
  cases v <;> simp [Value.category] at h' ⊢
theorem mj_LR.st1 {base : Nat} {ext : Nat → Nat} {lo : mj_Lo} {ls ls' : Array Slot} {nL a : Nat} {v : Value} (h : mj_LR (mj_cv base ext) lo ls nL) (hn : mj_nlo lo a = true)
    (h2 : lv_has ls' nL ((a, mj_cv base ext v) :: (mj_ll (mj_cv base ext) lo 0).filter (fun q => !(q.1 == a) && !(q.1 + 1 == a && q.2.category == 2)))) : mj_LR (mj_cv base ext) (mj_set lo a (some v)) ls' nL := by
  refine ⟨by rw [mj_set_len]; exact h.1, h2.1, h2.2.1, fun q hq => ?_⟩
  obtain ⟨i, w, hg, rfl⟩ := mj_ll_inv hq
  rw [Nat.zero_add]
  by_cases e : i = a
  · subst e
    cases mj_get_eq hg
    exact h2.2.2 _ List.mem_cons_self
  · rw [mj_get_ne e] at hg
    refine h2.2.2 _ (List.mem_cons_of_mem _ (List.mem_filter.mpr ⟨?_, ?_⟩))
    · have h3 := mj_ll_mem (cv := mj_cv base ext) (o := 0) hg
      rw [Nat.zero_add] at h3
      exact h3
    · by_cases e2 : i + 1 = a
      · subst e2
        have h4 := mj_nlo_cat hn hg
        have h5 : ¬ (mj_cv base ext w).category = 2 := by rw [mj_cv_cat]; exact h4
        simp [h5]
      · simp [e, e2]
theorem mj_LR.st2 {base : Nat} {ext : Nat → Nat} {lo : mj_Lo} {ls ls' : Array Slot} {nL a : Nat} {v : Value} (h : mj_LR (mj_cv base ext) lo ls nL) (hn : mj_nlo lo a = true)
    (h2 : lv_has ls' nL ((a, mj_cv base ext v) :: (mj_ll (mj_cv base ext) lo 0).filter (fun q => !(q.1 == a) && (!(q.1 == a + 1) && !(q.1 + 1 == a && q.2.category == 2))))) : mj_LR (mj_cv base ext) (mj_set (mj_set lo a (some v)) (a + 1) none) ls' nL := by
  refine ⟨by rw [mj_set_len, mj_set_len]; exact h.1, h2.1, h2.2.1, fun q hq => ?_⟩
  obtain ⟨i, w, hg, rfl⟩ := mj_ll_inv hq
  rw [Nat.zero_add]
  by_cases e1 : i = a + 1
  · subst e1
    cases mj_get_eq hg
  · rw [mj_get_ne e1] at hg
    by_cases e : i = a
    · subst e
      cases mj_get_eq hg
      exact h2.2.2 _ List.mem_cons_self
    · rw [mj_get_ne e] at hg
      refine h2.2.2 _ (List.mem_cons_of_mem _ (List.mem_filter.mpr ⟨?_, ?_⟩))
      · have h3 := mj_ll_mem (cv := mj_cv base ext) (o := 0) hg
        rw [Nat.zero_add] at h3
        exact h3
      · by_cases e2 : i + 1 = a
        · subst e2
          have h4 := mj_nlo_cat hn hg
          have h5 : ¬ (mj_cv base ext w).category = 2 := by rw [mj_cv_cat]; exact h4
          simp [h5]
          omega
        · simp [e, e1, e2]
end
section
/-! stores that say that the heap has not grown: beside the kit's own rows -/
section W2
variable {p : Program} {l : Launch} {e : Env} {R : Room} {s : State} {m : MethodId} {args : Array Value} {below : List Frame} {meth : Method} {c : Code} {H : Heap} {locs : List Loc} {cells slots : Nat} {Q : State → Prop}
variable {cc : ByteArray} {pc : Nat} {ls : Array Slot} {rest : List Value} {D : va_G} {cl : List vw_C} {A : Nat → Prop} {a : Nat} {tys : List (ClassId × FieldType)} {ws : va_W} {H0 : Heap}
theorem mj_rput (hexec : p.tables.exec = Jvm.exec) (hb : c.code = cc) {own C : String} {T : u_T} {N ci index : Nat} {Ts : List Cond} (hts : ∀ w ∈ Ts, w.before args s = true) (hin : ∀ w ∈ u_ws C T N, w ∈ Ts) (ty0 : Nat → FieldType) (hty : ∀ k, k < N → parseFieldDescriptor (T k).2.2.1 = some (ty0 k)) (hnm : ∀ a, a < N → ∀ b, b < N → a ≠ b → (T a).2.1 ≠ (T b).2.1) (hown : s.vm.findClass own = some m.cls) (hK : va_K D cl tys s) (hP : va_P D cl ws H) (hD : va_D A ws) (hS0 : va_S A H0 H locs) (q0 : Nat) {fs : List Value} (he : ws[q0]? = some (a, .inr (ci, fs))) (hc : cl[ci]? = some (C, T, N)) (k : Nat) (hk : k < N) (hlink : (Cond.fieldLink own index (T k).1 (T k).2.1 (T k).2.2.1).before args s = true) (hfin : (T k).2.2.2 = false ∨ (meth.name = "<init>" ∧ (T k).1 = own)) {v : Value} (hn : narrow (ty0 k) v = v) (hfit : fits (ty0 k) v = true) (hl : k < fs.length)
    (hdg : decode cc pc = .ok (.putfield index, 3)) (kk : ∀ (H1 : Heap) (locs1 : List Loc), H1.size = H.size → va_P D cl (ws.set q0 (a, .inr (ci, fs.set k v))) H1 → va_S A H0 H1 locs1 → W p l e R s m args below meth c H1 locs1 cells slots Q (F0 m (pc + 3) ls rest)) : W p l e R s m args below meth c H locs cells slots Q (F0 m pc ls (v :: .ref a :: rest)) := by
  have hap := va_apart (own := own) hts hin ty0 hty hnm hK hc
  obtain ⟨r, h1, cell, q1, q2, q3, q4⟩ := hP q0 _ he
  cases Option.some.inj (h1.symm.trans hc)
  obtain ⟨hS, hfc, kC, hkC, hkind⟩ := hK.1 ci _ hc
  obtain ⟨cf, kf, fi, f, hi, hsl⟩ := hS k hk
  have hlay := hts _ (hin _ (u_in_lay hk))
  have hst := (u_facts hfc hkC (u_lays hts hin hk) hi).1
  have fin : ∀ (H' : Heap), H'[a]? = some (cell.setSlot f.slot v) → H'.size = H.size → (∀ q, q ≠ a → H'[q]? = H[q]?) → W p l e R s m args below meth c H' (locs ++ [⟨a, f.slot⟩]) cells slots Q (F0 m (pc + 3) ls rest) := by
    intro H' e1 e2 e3
    rw [hsl] at e1 ⊢
    exact kk H' _ e2 (hP.set hD he ⟨_, hc, t_OB.to (V := updV (vp_V fs) k v) ⟨_, e1, q2, q3, t_set q4 hap hk v⟩ (fun j _ => vp_updV_set hl v j)⟩ e3) (hS0.put e2 e3 (hD.2 q0 _ he))
  unfold u_lay at hlay
  by_cases hf : (T k).2.2.2 = true
  · rw [if_pos hf] at hlay
    obtain ⟨hin2, hdecl⟩ : meth.name = "<init>" ∧ (T k).1 = own := by
      rcases hfin with h | h
      · rw [hf] at h; cases h
      · exact h
    have hcf : m.cls = cf := by
      obtain ⟨_, _, c', _, _, _, -, -, hf', -, -, -, hown2, -⟩ := Cond.laysFinal_spec hlay
      have e1 : c' = cf := by have := hi.symm.trans hf'; simp at this; exact this.1.symm
      rw [hdecl] at hown2
      rw [← e1]; exact Option.some.inj (hown.symm.trans hown2)
    have h6 := u_fits hfc hkC hkind (Or.inr hlay) hi (hty k hk) hn hfit
    exact W.putFinK hexec hb hown hlink hi hst hcf hin2 (by rw [q2]; exact h6) q1 q3 (by rw [hsl]; exact k2_hasslot (q4 k hk)) rfl rfl hdg fin
  · rw [if_neg hf] at hlay
    have h6 := u_store hfc hkC hkind hlay hi (hty k hk) hn hfit
    exact W.putK hexec hb (f := f) ⟨hown, hlink, ⟨_, _, _, hi⟩, hst⟩ (by rw [q2]; exact h6) q1 q3 (by rw [hsl]; exact k2_hasslot (q4 k hk)) rfl rfl hdg fin
theorem mj_riast (hexec : p.tables.exec = Jvm.exec) (hb : c.code = cc) (hK : va_K D cl tys s) (hP : va_P D cl ws H) (hD : va_D A ws) (hS : va_S A H0 H locs) (q0 t0 : Nat) {cA : ClassId} {n : Nat} {f : Nat → Int32} (ha : ws[q0]? = some (a, .inl (cA, n, .inl f))) (ht : tys[t0]? = some (cA, .int)) {i : Int32} {x : Int32} (hin : vp_in i n) (hdg : decode cc pc = .ok (.iastore, 1))
    (kk : ∀ (H1 : Heap) (locs1 : List Loc), H1.size = H.size → va_P D cl (ws.set q0 (a, .inl (cA, n, .inl (upd f i.toNatClampNeg x)))) H1 → va_S A H0 H1 locs1 → W p l e R s m args below meth c H1 locs1 cells slots Q (F0 m (pc + 1) ls rest)) : W p l e R s m args below meth c H locs cells slots Q (F0 m pc ls (.int x :: .int i :: .ref a :: rest)) := by
  refine W.iast hexec hb (hP q0 _ ha) ((hK.2 t0 _ ht).1 n (fun j => .int (f j))) (fun q => by cases q) (by show ¬ (i < 0 ∨ (arrV _ _ _).slots.size ≤ _); rw [arrV_size]; exact hin) rfl rfl hdg fun H1 e z oq => ?_
  refine kk H1 _ z (hP.set hD ha ?_ oq) (hS.put z oq (hD.2 q0 _ ha))
  show H1[a]? = some (vp_cell _ _)
  rw [e, vp_cell_i, vp_cell_i, arrV_store]
  congr 2
  funext q
  by_cases hq : q = i.toNatClampNeg
  · subst hq; simp [updV, upd]
  · simp [updV, upd, hq]
theorem mj_rbast (hexec : p.tables.exec = Jvm.exec) (hb : c.code = cc) (hK : va_K D cl tys s) (hP : va_P D cl ws H) (hD : va_D A ws) (hS : va_S A H0 H locs) (q0 t0 : Nat) {cA : ClassId} {n : Nat} {f : Nat → Int32} (ha : ws[q0]? = some (a, .inl (cA, n, .inl f))) (ht : tys[t0]? = some (cA, .byte)) {i : Int32} {x : Int32} (hin : vp_in i n) (hdg : decode cc pc = .ok (.bastore, 1))
    (kk : ∀ (H1 : Heap) (locs1 : List Loc), H1.size = H.size → va_P D cl (ws.set q0 (a, .inl (cA, n, .inl (upd f i.toNatClampNeg (vp_nar .byte x))))) H1 → va_S A H0 H1 locs1 → W p l e R s m args below meth c H1 locs1 cells slots Q (F0 m (pc + 1) ls rest)) : W p l e R s m args below meth c H locs cells slots Q (F0 m pc ls (.int x :: .int i :: .ref a :: rest)) := by
  refine W.bast hexec hb (hP q0 _ ha) ((hK.2 t0 _ ht).1 n (fun j => .int (f j))) (fun q => by cases q) (by show ¬ (i < 0 ∨ (arrV _ _ _).slots.size ≤ _); rw [arrV_size]; exact hin) rfl rfl hdg fun H1 e z oq => ?_
  refine kk H1 _ z (hP.set hD ha ?_ oq) (hS.put z oq (hD.2 q0 _ ha))
  show H1[a]? = some (vp_cell _ _)
  rw [e, vp_cell_i, vp_cell_i, arrV_store]
  congr 2
  funext q
  by_cases hq : q = i.toNatClampNeg
  · subst hq; simp [updV, upd, vp_nar]; try rfl
  · simp [updV, upd, hq]
theorem mj_rzast (hexec : p.tables.exec = Jvm.exec) (hb : c.code = cc) (hK : va_K D cl tys s) (hP : va_P D cl ws H) (hD : va_D A ws) (hS : va_S A H0 H locs) (q0 t0 : Nat) {cA : ClassId} {n : Nat} {f : Nat → Int32} (ha : ws[q0]? = some (a, .inl (cA, n, .inl f))) (ht : tys[t0]? = some (cA, .boolean)) {i : Int32} {x : Int32} (hin : vp_in i n) (hdg : decode cc pc = .ok (.bastore, 1))
    (kk : ∀ (H1 : Heap) (locs1 : List Loc), H1.size = H.size → va_P D cl (ws.set q0 (a, .inl (cA, n, .inl (upd f i.toNatClampNeg (vp_nar .boolean x))))) H1 → va_S A H0 H1 locs1 → W p l e R s m args below meth c H1 locs1 cells slots Q (F0 m (pc + 1) ls rest)) : W p l e R s m args below meth c H locs cells slots Q (F0 m pc ls (.int x :: .int i :: .ref a :: rest)) := by
  refine W.zast hexec hb (hP q0 _ ha) ((hK.2 t0 _ ht).1 n (fun j => .int (f j))) (fun q => by cases q) (by show ¬ (i < 0 ∨ (arrV _ _ _).slots.size ≤ _); rw [arrV_size]; exact hin) rfl rfl hdg fun H1 e z oq => ?_
  refine kk H1 _ z (hP.set hD ha ?_ oq) (hS.put z oq (hD.2 q0 _ ha))
  show H1[a]? = some (vp_cell _ _)
  rw [e, vp_cell_i, vp_cell_i, arrV_store]
  congr 2
  funext q
  by_cases hq : q = i.toNatClampNeg
  · subst hq; simp [updV, upd, vp_nar]; try rfl
  · simp [updV, upd, hq]
theorem mj_rlast (hexec : p.tables.exec = Jvm.exec) (hb : c.code = cc) (hK : va_K D cl tys s) (hP : va_P D cl ws H) (hD : va_D A ws) (hS : va_S A H0 H locs) (q0 t0 : Nat) {cA : ClassId} {n : Nat} {f : Nat → Int64} (ha : ws[q0]? = some (a, .inl (cA, n, .inr (.inl f)))) (ht : tys[t0]? = some (cA, .long)) {i : Int32} {x : Int64} (hin : vp_in i n) (hdg : decode cc pc = .ok (.lastore, 1))
    (kk : ∀ (H1 : Heap) (locs1 : List Loc), H1.size = H.size → va_P D cl (ws.set q0 (a, .inl (cA, n, .inr (.inl (vp_updL f i.toNatClampNeg x))))) H1 → va_S A H0 H1 locs1 → W p l e R s m args below meth c H1 locs1 cells slots Q (F0 m (pc + 1) ls rest)) : W p l e R s m args below meth c H locs cells slots Q (F0 m pc ls (.long x :: .int i :: .ref a :: rest)) := by
  refine W.last hexec hb (hP q0 _ ha) ((hK.2 t0 _ ht).1 n (fun j => .long (f j))) (fun q => by cases q) (by show ¬ (i < 0 ∨ (arrV _ _ _).slots.size ≤ _); rw [arrV_size]; exact hin) rfl rfl hdg fun H1 e z oq => ?_
  refine kk H1 _ z (hP.set hD ha ?_ oq) (hS.put z oq (hD.2 q0 _ ha))
  show H1[a]? = some (vp_cell _ _)
  rw [e, vp_cell_l, vp_cell_l, arrV_store]
  congr 2
  funext q
  by_cases hq : q = i.toNatClampNeg
  · subst hq; simp [updV, vp_updL]
  · simp [updV, vp_updL, hq]
/-- a copy does not make the heap grow: the copy's own row over the heap as it is, in a walk whose goal carries the heap's size -/
theorem mj_rcopy (hexec : p.tables.exec = Jvm.exec) (hb : c.code = cc) (hml : c.maxLocals = ls.size) {own : String} {index : Nat} (hown : s.vm.findClass own = some m.cls) (hlink : (Cond.methodLink own index arraycopyName).before args s = true) (hnat : (Cond.native arraycopyName).before args s = true) (hstat : (Cond.static arraycopyName).before args s = true) (hini : (Cond.initialized "java/lang/System").before args s = true)
    (hK : va_K D cl tys s) (hP : va_P D cl ws H) (hD : va_D A ws) (hS : va_S A H0 H locs) (q0 q1 t0 : Nat) {a0 : Nat} {c0 : ClassId} {n0 n1 : Nat} {f g : Nat → Int32} (ha0 : ws[q0]? = some (a0, .inl (c0, n0, .inl f))) (ha1 : ws[q1]? = some (a, .inl (c0, n1, .inl g))) (ht0 : tys[t0]? = some (c0, .int))
    {sp dp n : Int32} (h1 : ¬ sp < 0) (h2 : ¬ dp < 0) (h3 : ¬ n < 0) (h4 : sp.toNatClampNeg + n.toNatClampNeg ≤ n0) (h5 : dp.toNatClampNeg + n.toNatClampNeg ≤ n1)
    (hframes : 1 ≤ R.frames) (hlocals : (rest.map fun v => v.category).sum + (nativeFrameWords "java/lang/System" "arraycopy" 5 + 11) ≤ R.locals) (hdg : decode cc pc = .ok (.invokestatic index, 3))
    (kk : ∀ (H1 : Heap) (locs1 : List Loc), H1.size = H.size → va_P D cl (ws.set q1 (a, .inl (c0, n1, .inl (va_cpy f g sp.toNatClampNeg dp.toNatClampNeg n.toNatClampNeg)))) H1 → va_S A H0 H1 locs1 → W p l e R s m args below meth c H1 locs1 cells slots Q (F0 m (pc + 3) ls rest)) : W p l e R s m args below meth c H locs cells slots Q (F0 m pc ls (.int n :: .int dp :: .ref a :: .int sp :: .ref a0 :: rest)) := by
  have nn : ∀ z : Int32, ¬ z < 0 → z.toInt = (z.toNatClampNeg : Int) := by
    intro z hz
    have hz0 : (0 : Int) ≤ z.toInt := by
      have := Int32.not_lt.mp hz
      simpa using Int32.le_iff_toInt_le.mp this
    show z.toInt = ((z.toInt.toNat : Nat) : Int)
    omega
  intro T hT X
  have hc0 : H[a0]? = some (vp_cell c0 (n0, .inl f)) := hP q0 _ ha0
  have hc1 : H[a]? = some (vp_cell c0 (n1, .inl g)) := hP q1 _ ha1
  obtain ⟨-, k0, hk0, cm0, hkk0⟩ := (hK.2 t0 _ ht0).1 n0 (fun j => .int (f j))
  obtain ⟨vm', X', step⟩ := X.arraycopy hexec hown hlink hnat hstat hini (src := a0) (dst := a) (cs := vp_cell c0 (n0, .inl f)) (cd := vp_cell c0 (n1, .inl g)) (srcPos := sp) (destPos := dp) (n := n) (by rw [hT]; exact hc0) (by rw [hT]; exact hc1)
    (fun _ h => by cases h) (fun _ h => by cases h) (fun h => by cases h) (fun h => by cases h) hk0 hk0 hkk0 hkk0 rfl h1 h2 h3
    (by rw [nn sp h1, nn n h3]; show ¬ _ > ((arrV c0 n0 (fun j => .int (f j))).slots.size : Int); rw [arrV_size]; omega)
    (by rw [nn dp h2, nn n h3]; show ¬ _ > ((arrV c0 n1 (fun j => .int (g j))).slots.size : Int); rw [arrV_size]; omega)
    (fun vm₁ _ i hi => by
      have e : (vp_cell c0 (n0, .inl f)).slots.getD (sp.toNatClampNeg + i) .null = .int (f (sp.toNatClampNeg + i)) := by
        show (arrV c0 n0 (fun j => .int (f j))).slots.getD _ _ = _
        rw [Array.getD_eq_getD_getElem?, arrV_read _ _ (by omega)]
        rfl
      exact ⟨by rw [e]; rfl, by rw [e]; exact trivial⟩)
    (g := F0 m pc ls (.int n :: .int dp :: .ref a :: .int sp :: .ref a0 :: rest)) rfl (by rw [hml]) (rest := rest) rfl (by rw [hb]; exact hdg) hframes (by show 2 * 0 + _ + _ ≤ _; omega)
  have e1 : copied (vp_cell c0 (n0, .inl f)) (vp_cell c0 (n1, .inl g)) sp dp n = vp_cell c0 (n1, .inl (va_cpy f g sp.toNatClampNeg dp.toNatClampNeg n.toNatClampNeg)) := va_copied (fun z => .int z) c0 c0 f g h4
  rw [e1] at X' step
  have hl : a < H.size := (Array.getElem?_eq_some_iff.mp hc1).1
  have hheap : ((T.setVm vm').setCell a (vp_cell c0 (n1, .inl (va_cpy f g sp.toNatClampNeg dp.toNatClampNeg n.toNatClampNeg)))).heap = H.setIfInBounds a (vp_cell c0 (n1, .inl (va_cpy f g sp.toNatClampNeg dp.toNatClampNeg n.toNatClampNeg))) := by rw [← hT]; rfl
  have oq : ∀ q : Nat, q ≠ a → (H.setIfInBounds a (vp_cell c0 (n1, .inl (va_cpy f g sp.toNatClampNeg dp.toNatClampNeg n.toNatClampNeg))))[q]? = H[q]? := fun q hq => by simp [Array.getElem?_setIfInBounds, Ne.symm hq]
  obtain ⟨t, a1, b1⟩ := kk _ _ (by simp) (hP.set hD ha1 (show (H.setIfInBounds a _)[a]? = some _ by simp [Array.getElem?_setIfInBounds, hl]) oq) ⟨by simp; exact hS.1, fun q g1 g2 => by
      rw [oq q (fun e => g2 (by rw [e]; exact hD.2 q1 _ ha1))]
      exact hS.2.1 q g1 g2, fun q hq => by
      rcases List.mem_append.mp hq with h | h
      · exact hS.2.2 q h
      · obtain ⟨z, -, hz⟩ := List.mem_map.mp h
        rw [← hz]
        exact hD.2 q1 _ ha1⟩ _ hheap X'
  exact ⟨t, step t a1, b1⟩
end W2
end
section
/-! a method's list against its bytes: what is looked at once, by the kernel -/
def mj_dk (B : ByteArray) (pc : Nat) (i : Instr) (n : Nat) : Bool := match decode B pc with
  | .ok (j, l) => decide (j = i) && (l == n)
  | _ => false
theorem mj_dk_ok {B : ByteArray} {pc : Nat} {i : Instr} {n : Nat} (h : mj_dk B pc i n = true) : decode B pc = .ok (i, n) := by
  unfold mj_dk at h
  split at h
  · rename_i j l e
    simp only [Bool.and_eq_true, decide_eq_true_eq, beq_iff_eq] at h
    rw [e, h.1, h.2]
  · cases h
def mj_pc : List mj_O → Nat
  | [] => 0
  | q :: _ => q.1
def mj_nx (pc n : Nat) (is : List mj_O) : Bool := (mj_pc is == pc + n) && !is.isEmpty
theorem mj_nx_ok {pc n : Nat} {is : List mj_O} (h : mj_nx pc n is = true) : mj_pc is = pc + n := by
  simp only [mj_nx, Bool.and_eq_true, beq_iff_eq] at h
  exact h.1
/-- the instruction at pc is i of n bytes, and the list goes on behind it -/
def mj_df (B : ByteArray) (pc : Nat) (is : List mj_O) (i : Instr) (n : Nat) : Bool := mj_dk B pc i n && mj_nx pc n is
theorem mj_df_ok {B : ByteArray} {pc : Nat} {is : List mj_O} {i : Instr} {n : Nat} (h : mj_df B pc is i n = true) : decode B pc = .ok (i, n) ∧ mj_pc is = pc + n := by
  simp only [mj_df, Bool.and_eq_true] at h
  exact ⟨mj_dk_ok h.1, mj_nx_ok h.2⟩
def mj_d4 (B : ByteArray) (pc : Nat) (is : List mj_O) (f : Nat → Instr) (g : Fin 4 → Instr) (a : Nat) : Bool := mj_df B pc is (f a) 2 || (a == 0 && mj_df B pc is (g 0) 1) || (a == 1 && mj_df B pc is (g 1) 1) || (a == 2 && mj_df B pc is (g 2) 1) || (a == 3 && mj_df B pc is (g 3) 1)
theorem mj_d4_ok {B : ByteArray} {pc : Nat} {is : List mj_O} {f : Nat → Instr} {g : Fin 4 → Instr} {a : Nat} (h : mj_d4 B pc is f g a = true) : (decode B pc = .ok (f a, 2) ∧ mj_pc is = pc + 2) ∨ ∃ k : Fin 4, (k : Nat) = a ∧ decode B pc = .ok (g k, 1) ∧ mj_pc is = pc + 1 := by
  simp only [mj_d4, Bool.or_eq_true, Bool.and_eq_true, beq_iff_eq] at h
  rcases h with (((h | ⟨e, h⟩) | ⟨e, h⟩) | ⟨e, h⟩) | ⟨e, h⟩
  · exact Or.inl (mj_df_ok h)
  · exact Or.inr ⟨0, e.symm, mj_df_ok h⟩
  · exact Or.inr ⟨1, e.symm, mj_df_ok h⟩
  · exact Or.inr ⟨2, e.symm, mj_df_ok h⟩
  · exact Or.inr ⟨3, e.symm, mj_df_ok h⟩
def mj_binI : Nat → Instr
  | 0 => .iadd
  | 1 => .isub
  | 2 => .imul
  | 3 => .idiv
  | 4 => .irem
  | 5 => .ishl
  | 6 => .ishr
  | 7 => .iushr
  | 8 => .iand
  | 9 => .ior
  | 10 => .ixor
  | _ => .nop
def mj_unI : Nat → Instr
  | 0 => .ineg
  | 1 => .i2b
  | 2 => .i2c
  | _ => .nop
def mj_lbinI : Nat → Instr
  | 0 => .ladd
  | 1 => .lsub
  | 2 => .lmul
  | 3 => .lor
  | _ => .nop
def mj_ccI : Nat → ClassFile.Cond
  | 0 => .eq
  | 1 => .ne
  | 2 => .lt
  | 3 => .ge
  | 4 => .gt
  | _ => .le
/-- the suffix of the list from the label t on -/
def mj_jm (t : Nat) : List mj_O → List mj_O
  | [] => []
  | q :: r => if q.1 = t then q :: r else mj_jm t r
theorem mj_jm_suf {t : Nat} : ∀ (l : List mj_O), ∃ pre, l = pre ++ mj_jm t l
  | [] => ⟨[], rfl⟩
  | q :: r => by
    unfold mj_jm
    split
    · exact ⟨[], rfl⟩
    · obtain ⟨pre, h⟩ := mj_jm_suf (t := t) r
      exact ⟨q :: pre, by rw [List.cons_append, ← h]⟩
def mj_tg (mm t : Nat) : Bool := decide (mj_jm t (mj_code mm 0) = mj_code mm t) && (mj_pc (mj_code mm t) == t) && !(mj_code mm t).isEmpty
theorem mj_tg_ok {mm t : Nat} (h : mj_tg mm t = true) : (∃ pre, mj_code mm 0 = pre ++ mj_code mm t) ∧ mj_pc (mj_code mm t) = t := by
  simp only [mj_tg, Bool.and_eq_true, decide_eq_true_eq, beq_iff_eq] at h
  obtain ⟨pre, h2⟩ := mj_jm_suf (t := t) (mj_code mm 0)
  rw [h.1.1] at h2
  exact ⟨⟨pre, h2⟩, h.1.2⟩
def mj_swk (pc : Nat) (d : Nat) (cs : List (Int32 × Nat)) : Instr := match cs with
  | [] => .nop
  | q :: r => .tableswitch ((d : Int) - pc) q.1.toInt (q.1.toInt + r.length) ((cs.map (fun z => (z.2 : Int) - pc)).toArray)
def mj_swl (pc : Nat) (d : Nat) (cs : List (Int32 × Nat)) : Instr := .lookupswitch ((d : Int) - pc) ((cs.map (fun z => (z.1.toInt, (z.2 : Int) - pc))).toArray)
/-- the cases of a table go up by one; those of a lookup go up -/
def mj_swu : List (Int32 × Nat) → Bool
  | [] => true
  | [_] => true
  | q :: z :: r => decide (z.1.toInt = q.1.toInt + 1) && mj_swu (z :: r)
def mj_atI : Nat → ArrayType
  | 1 => .int
  | 2 => .long
  | 3 => .byte
  | _ => .boolean
def mj_dx (B : ByteArray) (pc : Nat) (i : Instr) : Bool := match decode B pc with
  | .ok (j, _) => decide (j = i)
  | _ => false
theorem mj_dx_ok {B : ByteArray} {pc : Nat} {i : Instr} (h : mj_dx B pc i = true) : ∃ n, decode B pc = .ok (i, n) := by
  unfold mj_dx at h
  split at h
  · rename_i j l e
    exact ⟨l, by rw [e, decide_eq_true_eq.mp h]⟩
  · cases h
def mj_isO : Option FieldType → Bool
  | some (.object _) => true
  | _ => false
/-- the pool entries of both exceptions' constructors -/
def mj_ic : Nat → Nat
  | 0 => 174
  | _ => 126
def mj_sws : List (Int32 × Nat) → Bool
  | [] => true
  | [_] => true
  | q :: z :: r => decide (q.1.toInt < z.1.toInt) && mj_sws (z :: r)
/-- a row of the exception table against what is caught -/
def mj_hz (mm pc : Nat) (q : Nat × Nat × Nat) (z : Nat × Nat × Nat × Nat) : Bool := decide (z.1 ≤ pc) && decide (pc < z.2.1) && decide (z.2.2.2 ≠ 0) && decide (q.1 < 2) && mj_pH.contains (mj_mo mm, q.1, z.2.2.2) && mj_tg mm q.2.1 &&
  ((mj_dk (mj_mb mm) z.2.2.1 (.astore q.2.2) 2 && (q.2.1 == z.2.2.1 + 2)) || (q.2.2 == 3 && mj_dk (mj_mb mm) z.2.2.1 (.astore_n 3) 1 && (q.2.1 == z.2.2.1 + 1)))
def mj_hk (mm pc : Nat) : List (Nat × Nat × Nat) → List (Nat × Nat × Nat × Nat) → Bool
  | [], [] => true
  | q :: r, z :: t => mj_hz mm pc q z && r.all (fun y => decide (y.1 ≠ q.1)) && mj_hk mm pc r t
  | _, _ => false
def mj_ckop (mm pc op a b x : Nat) (is : List mj_O) : Bool :=
  let B := mj_mb mm
  let ow := mj_mo mm
  match op with
  | 0 => (x == 0 && ((decide (Int32.ofInt a = nI a) && mj_df B pc is (.iconst a) 1) || (decide ((Int8.ofInt a).toInt32 = nI a) && mj_df B pc is (.bipush a) 2) || (decide ((Int16.ofInt a).toInt32 = nI a) && mj_df B pc is (.sipush a) 3))) || (mj_pI.contains (ow, a, 0, x) && (mj_df B pc is (.ldc x) 2 || mj_df B pc is (.ldc_w x) 3))
  | 1 => (x == 0 && ((decide (Int32.ofInt (-(a : Int)) = -(nI a)) && mj_df B pc is (.iconst (-(a : Int))) 1) || (decide ((Int8.ofInt (-(a : Int))).toInt32 = -(nI a)) && mj_df B pc is (.bipush (-(a : Int))) 2) || (decide ((Int16.ofInt (-(a : Int))).toInt32 = -(nI a)) && mj_df B pc is (.sipush (-(a : Int))) 3))) || (mj_pI.contains (ow, a, 1, x) && (mj_df B pc is (.ldc x) 2 || mj_df B pc is (.ldc_w x) 3))
  | 2 => (x == 0 && a == 0 && mj_df B pc is (.lconst 0) 1) || (x == 0 && a == 1 && mj_df B pc is (.lconst 1) 1) || (mj_pJ.contains (ow, a, x) && mj_df B pc is (.ldc2_w x) 3)
  | 3 => mj_d4 B pc is .iload .iload_n a
  | 4 => mj_d4 B pc is .lload .lload_n a
  | 5 => mj_d4 B pc is .aload .aload_n a
  | 6 => mj_d4 B pc is .istore .istore_n a
  | 7 => mj_d4 B pc is .lstore .lstore_n a
  | 8 => mj_d4 B pc is .astore .astore_n a
  | 9 => decide (Int32.ofInt b = nI b) && mj_df B pc is (.iinc a b) 3
  | 10 => decide (Int32.ofInt (-(b : Int)) = -(nI b)) && mj_df B pc is (.iinc a (-(b : Int))) 3
  | 11 => decide (a ≤ 10) && mj_df B pc is (mj_binI a) 1
  | 12 => decide (a ≤ 2) && mj_df B pc is (mj_unI a) 1
  | 13 => decide (a ≤ 3) && mj_df B pc is (mj_lbinI a) 1
  | 14 => mj_df B pc is .lshl 1
  | 15 => mj_df B pc is .i2l 1
  | 16 => mj_df B pc is .l2i 1
  | 17 => mj_df B pc is .lcmp 1
  | 18 => mj_df B pc is .dup 1
  | 19 => mj_df B pc is .pop 1
  | 20 => mj_df B pc is .dup2 1
  | 21 => decide (a ≤ 5) && mj_df B pc is (.ifCond (mj_ccI a) ((b : Int) - pc)) 3 && mj_tg mm b
  | 22 => decide (a ≤ 5) && mj_df B pc is (.if_icmp (mj_ccI a) ((b : Int) - pc)) 3 && mj_tg mm b
  | 23 => mj_dk B pc (.goto ((b : Int) - pc)) 3 && mj_tg mm b
  | 24 => mj_tg mm b && (mj_swt a).all (fun q => mj_tg mm q.2) && ((mj_dx B pc (mj_swk pc b (mj_swt a)) && mj_swu (mj_swt a) && !(mj_swt a).isEmpty) || (mj_dx B pc (mj_swl pc b (mj_swt a)) && mj_sws (mj_swt a)))
  | 25 => mj_dk B pc .return_ 1 && decide (mj_mr mm = none)
  | 26 => mj_dk B pc .ireturn 1 && decide (mj_mr mm = some .int)
  | 27 => mj_dk B pc .ireturn 1 && decide (mj_mr mm = some .boolean)
  | 28 => mj_dk B pc .lreturn 1 && decide (mj_mr mm = some .long)
  | 29 => mj_dk B pc .areturn 1 && mj_isO (mj_mr mm)
  | 30 => mj_pT.contains (ow, a, b, x) && mj_dk B pc (.new x) 3 && mj_dk B (pc + 3) .dup 1 && ((mj_dk B (pc + 4) (.ldc b) 2 && mj_dk B (pc + 6) (.invokespecial (mj_ic a)) 3 && mj_dk B (pc + 9) .athrow 1) || (mj_dk B (pc + 4) (.ldc_w b) 3 && mj_dk B (pc + 7) (.invokespecial (mj_ic a)) 3 && mj_dk B (pc + 10) .athrow 1)) && (mj_hh mm).isEmpty
  | 31 => mj_pF.contains (ow, a, b, x) && mj_df B pc is (.getfield x) 3 && decide (mj_ft a b < 2)
  | 32 => mj_pF.contains (ow, a, b, x) && mj_df B pc is (.getfield x) 3 && decide (mj_ft a b = 2)
  | 33 => mj_pF.contains (ow, a, b, x) && mj_df B pc is (.getfield x) 3 && decide (mj_ft a b = 3)
  | 34 => mj_pF.contains (ow, a, b, x) && mj_df B pc is (.putfield x) 3 && decide (mj_ft a b = 0) && mj_fin mm a b
  | 35 => mj_pF.contains (ow, a, b, x) && mj_df B pc is (.putfield x) 3 && decide (mj_ft a b = 1) && mj_fin mm a b
  | 36 => mj_pF.contains (ow, a, b, x) && mj_df B pc is (.putfield x) 3 && decide (mj_ft a b = 2) && mj_fin mm a b
  | 37 => mj_pF.contains (ow, a, b, x) && mj_df B pc is (.putfield x) 3 && decide (mj_ft a b = 3) && mj_fin mm a b
  | 38 => mj_df B pc is .iaload 1
  | 39 => mj_df B pc is .laload 1
  | 40 => mj_df B pc is .baload 1
  | 41 => mj_df B pc is .baload 1
  | 42 => mj_df B pc is .iastore 1
  | 43 => mj_df B pc is .lastore 1
  | 44 => mj_df B pc is .bastore 1
  | 45 => mj_df B pc is .bastore 1
  | 46 => mj_df B pc is .arraylength 1
  | 47 => mj_pM.contains (ow, a, x) && mj_df B pc is (.invokevirtual x) 3 && mj_kd.contains (0, a) && (mj_hh mm).isEmpty
  | 48 => mj_pM.contains (ow, a, x) && mj_df B pc is (.invokestatic x) 3 && mj_kd.contains (1, a) && (mj_hh mm).isEmpty
  | 49 => mj_pM.contains (ow, a, x) && mj_df B pc is (.invokespecial x) 3 && mj_kd.contains (2, a)
  | 50 => mj_pN.contains (ow, a, x) && mj_df B pc is (.invokestatic x) 3 && mj_kd.contains (1, a)
  | 51 => mj_pO.contains (ow, x) && mj_df B pc is (.invokespecial x) 3
  | 52 => mj_pC.contains (ow, a, x) && mj_df B pc is (.new x) 3
  | 53 => decide (1 ≤ a) && decide (a ≤ 4) && mj_df B pc is (.newarray (mj_atI a)) 2
  | 54 => mj_pA.contains (ow, x) && mj_df B pc is (.invokestatic x) 3
  | 55 => mj_pS.contains (ow, a, x) && mj_df B pc is (.ldc x) 2 && decide (a < 2)
  | 56 => mj_pV.contains (ow, 0, x) && mj_df B pc is (.getfield x) 3
  | 57 => mj_pV.contains (ow, 1, x) && mj_df B pc is (.getfield x) 3
  | 58 => mj_pV.contains (ow, 2, x) && mj_df B pc is (.getstatic x) 3
  | 59 => mj_pV.contains (ow, 3, x) && mj_df B pc is (.getstatic x) 3
  | 60 => mj_df B pc is .arraylength 1
  | 61 => mj_df B pc is .baload 1
  | 62 => mj_pM.contains (ow, a, x) && mj_df B pc is (.invokevirtual x) 3 && mj_kd.contains (3, a)
  | 63 => mj_d4 B pc is .aload .aload_n a
  | 64 => mj_dk B pc .ireturn 1 && decide (mj_mr mm = some .char)
  | 65 => mj_dk B pc .ireturn 1 && decide (mj_mr mm = some .byte)
  | 66 => mj_pM.contains (ow, a, x) && mj_df B pc is (.invokevirtual x) 3 && mj_kd.contains (0, a) && mj_hk mm pc (mj_ht b) (mj_hh mm)
  | 67 => mj_df B pc is .iaload 1
  | 68 => mj_df B pc is .arraylength 1
  | 69 => mj_pM.contains (ow, a, x) && mj_df B pc is (.invokestatic x) 3 && mj_kd.contains (4, a)
  | 70 => mj_pX.contains (ow, 0, x) && mj_df B pc is (.invokestatic x) 3
  | 71 => mj_pX.contains (ow, 1, x) && mj_df B pc is (.invokestatic x) 3
  | 72 => mj_pX.contains (ow, 2, x) && mj_df B pc is (.invokestatic x) 3
  | 73 => mj_pX.contains (ow, 3, x) && mj_df B pc is (.invokestatic x) 3
  | 99 => true
  | _ => false
end
section
/-! the small machine's runs are the machine's: a row an instruction -/
def mj_T (a : Nat) : u_T := (vwCl.getD a ("", (fun _ => ("", "", "", false)), 0)).2.1
/-- what the tables say of the names and numbers that the lists use -/
def mj_fcF : Prop := ∀ q ∈ mj_pF, Cond.fieldLink (mj_cn q.1) q.2.2.2 (mj_T q.2.1 q.2.2.1).1 (mj_T q.2.1 q.2.2.1).2.1 (mj_T q.2.1 q.2.2.1).2.2.1 ∈ mj_mw ∧ q.2.2.1 < (vwCl.getD q.2.1 ("", (fun _ => ("", "", "", false)), 0)).2.2
def mj_fcK : Prop := ∀ a C T N, vwCl[a]? = some (C, T, N) → (∀ w ∈ u_ws C T N, w ∈ mj_mw) ∧ mj_cn a = C ∧ Cond.instantiable C N ∈ mj_mw ∧ Cond.initialized C ∈ mj_mw ∧ (∀ x, x < N → ∀ y, y < N → x ≠ y → (T x).2.1 ≠ (T y).2.1) ∧ ∃ ty : Nat → FieldType, ∀ k, k < N → parseFieldDescriptor (T k).2.2.1 = some (ty k) ∧ (mj_ft a k = 0 → ty k = .int) ∧ (mj_ft a k = 1 → ty k = .boolean) ∧ (mj_ft a k = 2 → ty k = .long) ∧ (mj_ft a k = 3 → (∃ n, ty k = .object n) ∨ ∃ t, ty k = .array t) ∧ mj_ft a k ≤ 3 ∧ ((T k).1 = C)
def mj_fcS : Prop := ∀ k a, mj_sh k = 10 + a → ∃ C T, vwCl[a]? = some (C, T, mj_ln k)
def mj_fcI : Prop := ∀ q ∈ mj_pI, Cond.constant (mj_cn q.1) q.2.2.2 (if q.2.2.1 = 0 then nI q.2.1 else -(nI q.2.1)) ∈ mj_mw
def mj_fcJ : Prop := ∀ q ∈ mj_pJ, Cond.constantLong (mj_cn q.1) q.2.2 (lN q.2.1) ∈ mj_mw
def mj_fcO : Prop := (∀ q ∈ mj_pO, Cond.methodLink (mj_cn q.1) q.2 Lib.objectInit ∈ mj_mw) ∧ Cond.instanceMethod Lib.objectInit ∈ mj_mw ∧ Cond.code Lib.objectInit ⟨#[0xb1]⟩ 1 none ∈ mj_mw
def mj_fcA : Prop := (∀ q ∈ mj_pA, Cond.methodLink (mj_cn q.1) q.2 arraycopyName ∈ mj_mw) ∧ Cond.native arraycopyName ∈ mj_mw ∧ Cond.static arraycopyName ∈ mj_mw ∧ Cond.initialized "java/lang/System" ∈ mj_mw
def mj_fcC : Prop := ∀ q ∈ mj_pC, Cond.classLink (mj_cn q.1) q.2.2 (mj_cn q.2.1) ∈ mj_mw
def mj_fcR : Prop := Cond.arrayClass .int ∈ mj_mw ∧ Cond.arrayClass .long ∈ mj_mw ∧ Cond.arrayClass .byte ∈ mj_mw ∧ Cond.arrayClass .boolean ∈ mj_mw
section S
variable {p : Program} {l : Launch} {e : Env} {R : Room} {s : State} {m : MethodId} {args : Array Value} {below : List Frame} {meth : Method} {c : Code} {H : Heap} {locs : List Loc} {cells slots : Nat} {Qf : State → Prop}
variable {D : va_G} {ca : Nat → ClassId} {base : Nat} {ext : Nat → Nat} {mm : Nat}
/-- a walk of the method mm: the machine, the code, the tables -/
def mj_Cx (p : Program) (s : State) (m : MethodId) (args : Array Value) (meth : Method) (c : Code) (D : va_G) (ca : Nat → ClassId) (base mm : Nat) : Prop :=
  p.tables.exec = Jvm.exec ∧ c.code = mj_mb mm ∧ c.maxLocals = mj_ml mm ∧ s.vm.findClass (mj_cn (mj_mo mm)) = some m.cls ∧ (∀ w ∈ mj_mw, w.before args s = true) ∧ va_K D vwCl (mj_tys ca) s ∧ meth.sig.returnType = mj_mr mm ∧ meth.locks = false ∧ meth.name = (mj_my mm).name ∧ base ≤ s.heap.size ∧ c.exceptionTable.toList = tableOf (mj_hh mm)
/-- the walk's goal at a place of the list -/
def mj_WG (p : Program) (l : Launch) (e : Env) (R : Room) (s : State) (m : MethodId) (args : Array Value) (below : List Frame) (meth : Method) (c : Code) (Qf : State → Prop) (D : va_G) (ca : Nat → ClassId) (base : Nat) (ext : Nat → Nat) (mm : Nat) : mj_G := fun cs lo st σ bc bs =>
  (∃ pre, mj_code mm 0 = pre ++ cs) → ∀ (H : Heap) (locs : List Loc) (cells slots : Nat) (ls : Array Slot), mj_LR (mj_cv base ext) lo ls (mj_ml mm) → mj_H D ca base σ H → va_S (mj_A base) s.heap H locs → cells + bc ≤ R.cells → slots + bs ≤ R.slots →
    W p l e R s m args below meth c H locs cells slots Qf (F0 m (mj_pc cs) ls (st.map (mj_cv base ext)))
variable {is : List mj_O} {lo : mj_Lo} {st rest : List Value} {σ : mj_S} {bc bs pc a b x : Nat} {ls : Array Slot}
theorem mj_s0 (C : mj_Cx p s m args meth c D ca base mm) (f : mj_fcI) (k : mj_ckop mm pc 0 a b x is = true) (h : W p l e R s m args below meth c H locs cells slots Qf (F0 m (mj_pc is) ls (.int (nI a) :: rest))) : W p l e R s m args below meth c H locs cells slots Qf (F0 m pc ls rest) := by
  obtain ⟨hx, hb, hml, hown, hts, -⟩ := C
  simp only [mj_ckop, Bool.or_eq_true, Bool.and_eq_true, beq_iff_eq, decide_eq_true_eq, List.contains_iff_mem] at k
  rcases k with ⟨-, (⟨e1, k⟩ | ⟨e1, k⟩) | ⟨e1, k⟩⟩ | ⟨hm, k | k⟩
  all_goals obtain ⟨k1, k2⟩ := mj_df_ok k
  all_goals rw [k2] at h
  · exact lv_iconst hx hb k1 e1 h
  · exact lv_bipush hx hb k1 e1 h
  · exact lv_sipush hx hb k1 e1 h
  · exact lv_ldc hx hb hown (hts _ (f _ hm)) k1 h
  · exact lv_ldcw hx hb hown (hts _ (f _ hm)) k1 h
theorem mj_s1 (C : mj_Cx p s m args meth c D ca base mm) (f : mj_fcI) (k : mj_ckop mm pc 1 a b x is = true) (h : W p l e R s m args below meth c H locs cells slots Qf (F0 m (mj_pc is) ls (.int (-(nI a)) :: rest))) : W p l e R s m args below meth c H locs cells slots Qf (F0 m pc ls rest) := by
  obtain ⟨hx, hb, hml, hown, hts, -⟩ := C
  simp only [mj_ckop, Bool.or_eq_true, Bool.and_eq_true, beq_iff_eq, decide_eq_true_eq, List.contains_iff_mem] at k
  rcases k with ⟨-, (⟨e1, k⟩ | ⟨e1, k⟩) | ⟨e1, k⟩⟩ | ⟨hm, k | k⟩
  all_goals obtain ⟨k1, k2⟩ := mj_df_ok k
  all_goals rw [k2] at h
  · exact lv_iconst hx hb k1 e1 h
  · exact lv_bipush hx hb k1 e1 h
  · exact lv_sipush hx hb k1 e1 h
  · exact lv_ldc hx hb hown (hts _ (f _ hm)) k1 h
  · exact lv_ldcw hx hb hown (hts _ (f _ hm)) k1 h
theorem mj_s2 (C : mj_Cx p s m args meth c D ca base mm) (f : mj_fcJ) (k : mj_ckop mm pc 2 a b x is = true) (h : W p l e R s m args below meth c H locs cells slots Qf (F0 m (mj_pc is) ls (.long (lN a) :: rest))) : W p l e R s m args below meth c H locs cells slots Qf (F0 m pc ls rest) := by
  obtain ⟨hx, hb, hml, hown, hts, -⟩ := C
  simp only [mj_ckop, Bool.or_eq_true, Bool.and_eq_true, beq_iff_eq, decide_eq_true_eq, List.contains_iff_mem] at k
  rcases k with (⟨⟨-, rfl⟩, k⟩ | ⟨⟨-, rfl⟩, k⟩) | ⟨hm, k⟩
  all_goals obtain ⟨k1, k2⟩ := mj_df_ok k
  all_goals rw [k2] at h
  · exact lv_lconst hx hb k1 rfl h
  · exact lv_lconst hx hb k1 rfl h
  · exact lv_ldc2 hx hb hown (hts _ (f _ hm)) k1 h
theorem mj_s3 (C : mj_Cx p s m args meth c D ca base mm) (hl : mj_LR (mj_cv base ext) lo ls (mj_ml mm)) (k : mj_ckop mm pc 3 a b x is = true) {v : Int32} (hg : mj_get lo a = some (.int v)) (h : W p l e R s m args below meth c H locs cells slots Qf (F0 m (mj_pc is) ls (.int v :: rest))) : W p l e R s m args below meth c H locs cells slots Qf (F0 m pc ls rest) := by
  obtain ⟨hx, hb, -⟩ := C
  rcases mj_d4_ok k with ⟨k1, k2⟩ | ⟨i, e1, k1, k2⟩
  all_goals rw [k2] at h
  · exact lv_iload hx hb k1 (hl.at hg) h
  · exact lv_iload_n hx hb k1 e1 (hl.at hg) h
theorem mj_s4 (C : mj_Cx p s m args meth c D ca base mm) (hl : mj_LR (mj_cv base ext) lo ls (mj_ml mm)) (k : mj_ckop mm pc 4 a b x is = true) {v : Int64} (hg : mj_get lo a = some (.long v)) (h : W p l e R s m args below meth c H locs cells slots Qf (F0 m (mj_pc is) ls (.long v :: rest))) : W p l e R s m args below meth c H locs cells slots Qf (F0 m pc ls rest) := by
  obtain ⟨hx, hb, -⟩ := C
  rcases mj_d4_ok k with ⟨k1, k2⟩ | ⟨i, e1, k1, k2⟩
  all_goals rw [k2] at h
  · exact lv_lload hx hb k1 (hl.at hg) h
  · exact lv_lload_n hx hb k1 e1 (hl.at hg) h
theorem mj_s5 (C : mj_Cx p s m args meth c D ca base mm) (hl : mj_LR (mj_cv base ext) lo ls (mj_ml mm)) (k : mj_ckop mm pc 5 a b x is = true) {v : Nat} (hg : mj_get lo a = some (.ref v)) (h : W p l e R s m args below meth c H locs cells slots Qf (F0 m (mj_pc is) ls (.ref (base + v) :: rest))) : W p l e R s m args below meth c H locs cells slots Qf (F0 m pc ls rest) := by
  obtain ⟨hx, hb, -⟩ := C
  rcases mj_d4_ok k with ⟨k1, k2⟩ | ⟨i, e1, k1, k2⟩
  all_goals rw [k2] at h
  · exact lv_aload hx hb k1 (hl.at hg) h
  · exact lv_aload_n hx hb k1 e1 (hl.at hg) h
theorem mj_s6 (C : mj_Cx p s m args meth c D ca base mm) (hl : mj_LR (mj_cv base ext) lo ls (mj_ml mm)) (k : mj_ckop mm pc 6 a b x is = true) {v : Int32} (ha : a < lo.length) (hn : mj_nlo lo a = true) (h : ∀ ls', mj_LR (mj_cv base ext) (mj_set lo a (some (.int v))) ls' (mj_ml mm) → W p l e R s m args below meth c H locs cells slots Qf (F0 m (mj_pc is) ls' rest)) : W p l e R s m args below meth c H locs cells slots Qf (F0 m pc ls (.int v :: rest)) := by
  obtain ⟨hx, hb, -⟩ := C
  rcases mj_d4_ok k with ⟨k1, k2⟩ | ⟨i, e1, k1, k2⟩
  all_goals rw [k2] at h
  · exact lv_istore hx hb k1 hl.2 (by rw [← hl.1]; exact ha) rfl (fun ls' h2 => h ls' (hl.st1 (v := .int v) hn h2))
  · exact lv_istore_n hx hb k1 e1 hl.2 (by rw [← hl.1]; exact ha) rfl (fun ls' h2 => h ls' (hl.st1 (v := .int v) hn h2))
theorem mj_s7 (C : mj_Cx p s m args meth c D ca base mm) (hl : mj_LR (mj_cv base ext) lo ls (mj_ml mm)) (k : mj_ckop mm pc 7 a b x is = true) {v : Int64} (ha : a + 1 < lo.length) (hn : mj_nlo lo a = true) (h : ∀ ls', mj_LR (mj_cv base ext) (mj_set (mj_set lo a (some (.long v))) (a + 1) none) ls' (mj_ml mm) → W p l e R s m args below meth c H locs cells slots Qf (F0 m (mj_pc is) ls' rest)) : W p l e R s m args below meth c H locs cells slots Qf (F0 m pc ls (.long v :: rest)) := by
  obtain ⟨hx, hb, -⟩ := C
  rcases mj_d4_ok k with ⟨k1, k2⟩ | ⟨i, e1, k1, k2⟩
  all_goals rw [k2] at h
  · exact lv_lstore hx hb k1 hl.2 (by rw [← hl.1]; exact ha) rfl (fun ls' h2 => h ls' (hl.st2 (v := .long v) hn h2))
  · exact lv_lstore_n hx hb k1 e1 hl.2 (by rw [← hl.1]; exact ha) rfl (fun ls' h2 => h ls' (hl.st2 (v := .long v) hn h2))
theorem mj_s8 (C : mj_Cx p s m args meth c D ca base mm) (hl : mj_LR (mj_cv base ext) lo ls (mj_ml mm)) (k : mj_ckop mm pc 8 a b x is = true) {v : Nat} (ha : a < lo.length) (hn : mj_nlo lo a = true) (h : ∀ ls', mj_LR (mj_cv base ext) (mj_set lo a (some (.ref v))) ls' (mj_ml mm) → W p l e R s m args below meth c H locs cells slots Qf (F0 m (mj_pc is) ls' rest)) : W p l e R s m args below meth c H locs cells slots Qf (F0 m pc ls (.ref (base + v) :: rest)) := by
  obtain ⟨hx, hb, -⟩ := C
  rcases mj_d4_ok k with ⟨k1, k2⟩ | ⟨i, e1, k1, k2⟩
  all_goals rw [k2] at h
  · exact lv_astore hx hb k1 hl.2 (by rw [← hl.1]; exact ha) rfl (fun ls' h2 => h ls' (hl.st1 (v := .ref v) hn h2))
  · exact lv_astore_n hx hb k1 e1 hl.2 (by rw [← hl.1]; exact ha) rfl (fun ls' h2 => h ls' (hl.st1 (v := .ref v) hn h2))
theorem mj_get_lt : ∀ {lo : mj_Lo} {a : Nat} {v : Value}, mj_get lo a = some v → a < lo.length
  | [], _, _, h => by cases h
  | _ :: _, 0, _, _ => Nat.succ_pos _
  | _ :: t, n + 1, v, h => Nat.succ_lt_succ (mj_get_lt (lo := t) (a := n) (v := v) h)
theorem mj_s9 (C : mj_Cx p s m args meth c D ca base mm) (hl : mj_LR (mj_cv base ext) lo ls (mj_ml mm)) (k : mj_ckop mm pc 9 a b x is = true) {v : Int32} (hg : mj_get lo a = some (.int v)) (hn : mj_nlo lo a = true) (h : ∀ ls', mj_LR (mj_cv base ext) (mj_set lo a (some (.int (v + nI b)))) ls' (mj_ml mm) → W p l e R s m args below meth c H locs cells slots Qf (F0 m (mj_pc is) ls' rest)) : W p l e R s m args below meth c H locs cells slots Qf (F0 m pc ls rest) := by
  obtain ⟨hx, hb, -⟩ := C
  simp only [mj_ckop, Bool.and_eq_true, decide_eq_true_eq] at k
  obtain ⟨e1, k⟩ := k
  obtain ⟨k1, k2⟩ := mj_df_ok k
  rw [k2] at h
  obtain ⟨j, hj⟩ := List.getElem?_of_mem (mj_ll_mem (cv := mj_cv base ext) (o := 0) hg)
  rw [Nat.zero_add] at hj
  exact lv_iinc (v := v + nI b) hx hb k1 hl.2 hj (by rw [e1]) (by rw [← hl.1]; exact mj_get_lt hg) rfl (fun ls' h2 => h ls' (hl.st1 (v := .int (v + nI b)) hn h2))
theorem mj_s10 (C : mj_Cx p s m args meth c D ca base mm) (hl : mj_LR (mj_cv base ext) lo ls (mj_ml mm)) (k : mj_ckop mm pc 10 a b x is = true) {v : Int32} (hg : mj_get lo a = some (.int v)) (hn : mj_nlo lo a = true) (h : ∀ ls', mj_LR (mj_cv base ext) (mj_set lo a (some (.int (v - nI b)))) ls' (mj_ml mm) → W p l e R s m args below meth c H locs cells slots Qf (F0 m (mj_pc is) ls' rest)) : W p l e R s m args below meth c H locs cells slots Qf (F0 m pc ls rest) := by
  obtain ⟨hx, hb, -⟩ := C
  simp only [mj_ckop, Bool.and_eq_true, decide_eq_true_eq] at k
  obtain ⟨e1, k⟩ := k
  obtain ⟨k1, k2⟩ := mj_df_ok k
  rw [k2] at h
  obtain ⟨j, hj⟩ := List.getElem?_of_mem (mj_ll_mem (cv := mj_cv base ext) (o := 0) hg)
  rw [Nat.zero_add] at hj
  exact lv_iinc (v := v - nI b) hx hb k1 hl.2 hj (by rw [e1, Int32.sub_eq_add_neg]) (by rw [← hl.1]; exact mj_get_lt hg) rfl (fun ls' h2 => h ls' (hl.st1 (v := .int (v - nI b)) hn h2))
theorem mj_s11 (C : mj_Cx p s m args meth c D ca base mm) (k : mj_ckop mm pc 11 a b x is = true) {u v r : Int32} (hr : mj_bin a u v = some r) (h : W p l e R s m args below meth c H locs cells slots Qf (F0 m (mj_pc is) ls (.int r :: rest))) : W p l e R s m args below meth c H locs cells slots Qf (F0 m pc ls (.int v :: .int u :: rest)) := by
  obtain ⟨hx, hb, -⟩ := C
  simp only [mj_ckop, Bool.and_eq_true, decide_eq_true_eq] at k
  obtain ⟨e1, k⟩ := k
  obtain ⟨k1, k2⟩ := mj_df_ok k
  rw [k2] at h
  rcases (by omega : a = 0 ∨ a = 1 ∨ a = 2 ∨ a = 3 ∨ a = 4 ∨ a = 5 ∨ a = 6 ∨ a = 7 ∨ a = 8 ∨ a = 9 ∨ a = 10) with rfl | rfl | rfl | rfl | rfl | rfl | rfl | rfl | rfl | rfl | rfl
  · cases hr; exact lv_iadd hx hb k1 h
  · cases hr; exact lv_isub hx hb k1 h
  · cases hr; exact lv_imul hx hb k1 h
  · by_cases hz : v = 0
    · simp [mj_bin, hz] at hr
    · simp only [mj_bin, if_neg hz] at hr
      cases hr; exact lv_idiv hx hb k1 hz h
  · by_cases hz : v = 0
    · simp [mj_bin, hz] at hr
    · simp only [mj_bin, if_neg hz] at hr
      cases hr; exact lv_irem hx hb k1 hz h
  · cases hr; exact lv_ishl hx hb k1 h
  · cases hr; exact lv_ishr hx hb k1 h
  · cases hr; exact lv_iushr hx hb k1 rfl h
  · cases hr; exact lv_iand hx hb k1 h
  · cases hr; exact lv_ior hx hb k1 h
  · cases hr; exact lv_ixor hx hb k1 h
theorem mj_s12 (C : mj_Cx p s m args meth c D ca base mm) (k : mj_ckop mm pc 12 a b x is = true) {u r : Int32} (hr : mj_un a u = some r) (h : W p l e R s m args below meth c H locs cells slots Qf (F0 m (mj_pc is) ls (.int r :: rest))) : W p l e R s m args below meth c H locs cells slots Qf (F0 m pc ls (.int u :: rest)) := by
  obtain ⟨hx, hb, -⟩ := C
  simp only [mj_ckop, Bool.and_eq_true, decide_eq_true_eq] at k
  obtain ⟨e1, k⟩ := k
  obtain ⟨k1, k2⟩ := mj_df_ok k
  rw [k2] at h
  rcases (by omega : a = 0 ∨ a = 1 ∨ a = 2) with rfl | rfl | rfl
  · cases hr; exact lv_ineg hx hb k1 h
  · cases hr; exact lv_i2b hx hb k1 rfl h
  · cases hr; exact lv_i2c hx hb k1 rfl h
theorem mj_s13 (C : mj_Cx p s m args meth c D ca base mm) (k : mj_ckop mm pc 13 a b x is = true) {u v r : Int64} (hr : mj_lbin a u v = some r) (h : W p l e R s m args below meth c H locs cells slots Qf (F0 m (mj_pc is) ls (.long r :: rest))) : W p l e R s m args below meth c H locs cells slots Qf (F0 m pc ls (.long v :: .long u :: rest)) := by
  obtain ⟨hx, hb, -⟩ := C
  simp only [mj_ckop, Bool.and_eq_true, decide_eq_true_eq] at k
  obtain ⟨e1, k⟩ := k
  obtain ⟨k1, k2⟩ := mj_df_ok k
  rw [k2] at h
  rcases (by omega : a = 0 ∨ a = 1 ∨ a = 2 ∨ a = 3) with rfl | rfl | rfl | rfl
  · cases hr; exact lv_ladd hx hb k1 h
  · cases hr; exact lv_lsub hx hb k1 h
  · cases hr; exact lv_lmul hx hb k1 h
  · cases hr; exact lv_lor hx hb k1 h
theorem mj_s14 (C : mj_Cx p s m args meth c D ca base mm) (k : mj_ckop mm pc 14 a b x is = true) {u : Int64} {v : Int32} (h : W p l e R s m args below meth c H locs cells slots Qf (F0 m (mj_pc is) ls (.long (u <<< (v.toInt64 &&& 63)) :: rest))) : W p l e R s m args below meth c H locs cells slots Qf (F0 m pc ls (.int v :: .long u :: rest)) := by
  obtain ⟨hx, hb, -⟩ := C
  obtain ⟨k1, k2⟩ := mj_df_ok k
  rw [k2] at h
  exact lv_lshl hx hb k1 rfl h
theorem mj_s15 (C : mj_Cx p s m args meth c D ca base mm) (k : mj_ckop mm pc 15 a b x is = true) {v : Int32} (h : W p l e R s m args below meth c H locs cells slots Qf (F0 m (mj_pc is) ls (.long v.toInt64 :: rest))) : W p l e R s m args below meth c H locs cells slots Qf (F0 m pc ls (.int v :: rest)) := by
  obtain ⟨hx, hb, -⟩ := C
  obtain ⟨k1, k2⟩ := mj_df_ok k
  rw [k2] at h
  exact lv_i2l hx hb k1 rfl h
theorem mj_s16 (C : mj_Cx p s m args meth c D ca base mm) (k : mj_ckop mm pc 16 a b x is = true) {v : Int64} (h : W p l e R s m args below meth c H locs cells slots Qf (F0 m (mj_pc is) ls (.int v.toInt32 :: rest))) : W p l e R s m args below meth c H locs cells slots Qf (F0 m pc ls (.long v :: rest)) := by
  obtain ⟨hx, hb, -⟩ := C
  obtain ⟨k1, k2⟩ := mj_df_ok k
  rw [k2] at h
  exact lv_l2i hx hb k1 rfl h
theorem mj_s17 (C : mj_Cx p s m args meth c D ca base mm) (k : mj_ckop mm pc 17 a b x is = true) {u v : Int64} (h : W p l e R s m args below meth c H locs cells slots Qf (F0 m (mj_pc is) ls (.int (lg_cmp u v) :: rest))) : W p l e R s m args below meth c H locs cells slots Qf (F0 m pc ls (.long v :: .long u :: rest)) := by
  obtain ⟨hx, hb, -⟩ := C
  obtain ⟨k1, k2⟩ := mj_df_ok k
  rw [k2] at h
  exact W.lcmp hx hb k1 h
theorem mj_s18 (C : mj_Cx p s m args meth c D ca base mm) (k : mj_ckop mm pc 18 a b x is = true) {v : Value} (hv : v.category = 1) (h : W p l e R s m args below meth c H locs cells slots Qf (F0 m (mj_pc is) ls (v :: v :: rest))) : W p l e R s m args below meth c H locs cells slots Qf (F0 m pc ls (v :: rest)) := by
  obtain ⟨hx, hb, -⟩ := C
  obtain ⟨k1, k2⟩ := mj_df_ok k
  rw [k2] at h
  exact lv_dup hx hb k1 hv h
theorem mj_s19 (C : mj_Cx p s m args meth c D ca base mm) (k : mj_ckop mm pc 19 a b x is = true) {v : Value} (hv : v.category = 1) (h : W p l e R s m args below meth c H locs cells slots Qf (F0 m (mj_pc is) ls rest)) : W p l e R s m args below meth c H locs cells slots Qf (F0 m pc ls (v :: rest)) := by
  obtain ⟨hx, hb, -⟩ := C
  obtain ⟨k1, k2⟩ := mj_df_ok k
  rw [k2] at h
  exact lv_pop hx hb k1 hv h
theorem mj_s20 (C : mj_Cx p s m args meth c D ca base mm) (k : mj_ckop mm pc 20 a b x is = true) {v w : Value} (hv : v.category = 1) (hw : w.category = 1) (h : W p l e R s m args below meth c H locs cells slots Qf (F0 m (mj_pc is) ls (v :: w :: v :: w :: rest))) : W p l e R s m args below meth c H locs cells slots Qf (F0 m pc ls (v :: w :: rest)) := by
  obtain ⟨hx, hb, -⟩ := C
  obtain ⟨k1, k2⟩ := mj_df_ok k
  rw [k2] at h
  exact lv_dup2_11 hx hb k1 hv hw h
theorem mj_s21 (C : mj_Cx p s m args meth c D ca base mm) (k : mj_ckop mm pc 21 a b x is = true) {v : Int32} (ht : mj_cc a v 0 → W p l e R s m args below meth c H locs cells slots Qf (F0 m b ls rest)) (hf : ¬ mj_cc a v 0 → W p l e R s m args below meth c H locs cells slots Qf (F0 m (mj_pc is) ls rest)) : W p l e R s m args below meth c H locs cells slots Qf (F0 m pc ls (.int v :: rest)) := by
  obtain ⟨hx, hb, -⟩ := C
  simp only [mj_ckop, Bool.and_eq_true, decide_eq_true_eq] at k
  obtain ⟨⟨e1, k⟩, -⟩ := k
  obtain ⟨k1, k2⟩ := mj_df_ok k
  rw [k2] at hf
  have et : (pc : Int) + ((b : Int) - pc) = (b : Int) := by omega
  rcases (by omega : a = 0 ∨ a = 1 ∨ a = 2 ∨ a = 3 ∨ a = 4 ∨ a = 5) with rfl | rfl | rfl | rfl | rfl | rfl
  · exact lv_if_eq hx hb k1 et ht hf
  · exact lv_if_ne hx hb k1 et ht (fun q => hf (fun z => z q))
  · exact lv_if_lt hx hb k1 et ht hf
  · exact lv_if_ge hx hb k1 et ht hf
  · exact lv_if_gt hx hb k1 et ht hf
  · exact lv_if_le hx hb k1 et ht hf
theorem mj_s22 (C : mj_Cx p s m args meth c D ca base mm) (k : mj_ckop mm pc 22 a b x is = true) {u v : Int32} (ht : mj_cc a u v → W p l e R s m args below meth c H locs cells slots Qf (F0 m b ls rest)) (hf : ¬ mj_cc a u v → W p l e R s m args below meth c H locs cells slots Qf (F0 m (mj_pc is) ls rest)) : W p l e R s m args below meth c H locs cells slots Qf (F0 m pc ls (.int v :: .int u :: rest)) := by
  obtain ⟨hx, hb, -⟩ := C
  simp only [mj_ckop, Bool.and_eq_true, decide_eq_true_eq] at k
  obtain ⟨⟨e1, k⟩, -⟩ := k
  obtain ⟨k1, k2⟩ := mj_df_ok k
  rw [k2] at hf
  have et : (pc : Int) + ((b : Int) - pc) = (b : Int) := by omega
  rcases (by omega : a = 0 ∨ a = 1 ∨ a = 2 ∨ a = 3 ∨ a = 4 ∨ a = 5) with rfl | rfl | rfl | rfl | rfl | rfl
  · exact lv_icmp_eq hx hb k1 et ht hf
  · exact lv_icmp_ne hx hb k1 et ht (fun q => hf (fun z => z q))
  · exact lv_icmp_lt hx hb k1 et ht hf
  · exact lv_icmp_ge hx hb k1 et ht hf
  · exact lv_icmp_gt hx hb k1 et ht hf
  · exact lv_icmp_le hx hb k1 et ht hf
theorem mj_s23 (C : mj_Cx p s m args meth c D ca base mm) (k : mj_ckop mm pc 23 a b x is = true) (h : W p l e R s m args below meth c H locs cells slots Qf (F0 m b ls rest)) : W p l e R s m args below meth c H locs cells slots Qf (F0 m pc ls rest) := by
  obtain ⟨hx, hb, -⟩ := C
  simp only [mj_ckop, Bool.and_eq_true] at k
  exact lv_goto hx hb (mj_dk_ok k.1) (by omega) h
end S
end
section
/-! soundness: cells -/
theorem mj_T_eq {a : Nat} {C : String} {T : u_T} {N : Nat} (h : vwCl[a]? = some (C, T, N)) : mj_T a = T := by
  unfold mj_T
  rw [List.getD_eq_getElem?_getD, h]
  rfl
theorem mj_N_eq {a : Nat} {C : String} {T : u_T} {N : Nat} (h : vwCl[a]? = some (C, T, N)) : (vwCl.getD a ("", (fun _ => ("", "", "", false)), 0)).2.2 = N := by
  rw [List.getD_eq_getElem?_getD, h]
  rfl
theorem mj_fv_i {base : Nat} {σ : mj_S} {a k b : Nat} (h : mj_ft a b < 2) : mj_fv base σ a k b = .int (σ.2.1 k b) := by
  unfold mj_fv
  split
  · omega
  · omega
  · rfl
theorem mj_fv_l {base : Nat} {σ : mj_S} {a k b : Nat} (h : mj_ft a b = 2) : mj_fv base σ a k b = .long (σ.2.2.1 k b) := by
  unfold mj_fv
  rw [h]
  rfl
theorem mj_fv_r {base : Nat} {σ : mj_S} {a k b : Nat} (h : mj_ft a b = 3) : mj_fv base σ a k b = va_rf ((σ.2.2.2 k b).map (fun r => base + r)) := by
  unfold mj_fv
  rw [h]
  rfl
theorem mj_fv_congr {base : Nat} {σ τ : mj_S} {a k i : Nat} (h1 : τ.2.1 k i = σ.2.1 k i) (h2 : τ.2.2.1 k i = σ.2.2.1 k i) (h3 : τ.2.2.2 k i = σ.2.2.2 k i) : mj_fv base τ a k i = mj_fv base σ a k i := by
  unfold mj_fv
  rw [h1, h2, h3]
section S
variable {p : Program} {l : Launch} {e : Env} {R : Room} {s : State} {m : MethodId} {args : Array Value} {below : List Frame} {meth : Method} {c : Code} {H : Heap} {locs : List Loc} {cells slots : Nat} {Qf : State → Prop}
variable {D : va_G} {ca : Nat → ClassId} {base : Nat} {ext : Nat → Nat} {mm : Nat}
variable {is : List mj_O} {lo : mj_Lo} {st rest : List Value} {σ τ : mj_S} {bc bs pc a b x k : Nat} {ls : Array Slot}
theorem mj_gf (C : mj_Cx p s m args meth c D ca base mm) (fF : mj_fcF) (fK : mj_fcK) (fS : mj_fcS) (hH : mj_H D ca base σ H) (hs : mj_sh k = 10 + a) (hk : k < σ.1) (hm : (mj_mo mm, a, b, x) ∈ mj_pF) (k1 : decode (mj_mb mm) pc = .ok (.getfield x, 3))
    (h : W p l e R s m args below meth c H locs cells slots Qf (F0 m (pc + 3) ls (mj_fv base σ a k b :: rest))) : W p l e R s m args below meth c H locs cells slots Qf (F0 m pc ls (.ref (base + k) :: rest)) := by
  obtain ⟨hx, hb, hml, hown, hts, hK, -⟩ := C
  obtain ⟨Cn, T, hc⟩ := fS k a hs
  obtain ⟨hin, hcn, hins, hini, hnm, ty, hty⟩ := fK a Cn T _ hc
  obtain ⟨hlk, hlt⟩ := fF _ hm
  rw [mj_N_eq hc] at hlt
  rw [mj_T_eq hc] at hlk
  exact va_get (D := D) (ci := a) (C := Cn) (T := T) (N := mj_ln k) hx hb hts hin hown hK hH.1 k (by rw [mj_wd_get hk, mj_ce_o hs]) hc b hlt (hts _ hlk) (fun _ h9 => h9) (mj_fs_get hlt) k1 h
theorem mj_pf (C : mj_Cx p s m args meth c D ca base mm) (fF : mj_fcF) (fK : mj_fcK) (fS : mj_fcS) (hH : mj_H D ca base σ H) (hS : va_S (mj_A base) s.heap H locs) (hs : mj_sh k = 10 + a) (hk : k < σ.1) (hm : (mj_mo mm, a, b, x) ∈ mj_pF) (k1 : decode (mj_mb mm) pc = .ok (.putfield x, 3)) (hf : mj_fin mm a b = true)
    {v : Value} (hn1 : τ.1 = σ.1) (hv : mj_fv base τ a k b = v) (ho : ∀ i, i ≠ b → mj_fv base τ a k i = mj_fv base σ a k i) (hoc : ∀ j, j ≠ k → mj_ce ca base τ j = mj_ce ca base σ j)
    (ht : ∀ t : FieldType, (mj_ft a b = 0 → t = .int) → (mj_ft a b = 1 → t = .boolean) → (mj_ft a b = 2 → t = .long) → (mj_ft a b = 3 → (∃ n, t = .object n) ∨ ∃ z, t = .array z) → narrow t v = v ∧ fits t v = true)
    (h : ∀ (H1 : Heap) (locs1 : List Loc), mj_H D ca base τ H1 → va_S (mj_A base) s.heap H1 locs1 → W p l e R s m args below meth c H1 locs1 cells slots Qf (F0 m (pc + 3) ls rest)) : W p l e R s m args below meth c H locs cells slots Qf (F0 m pc ls (v :: .ref (base + k) :: rest)) := by
  obtain ⟨hx, hb, hml, hown, hts, hK, -, -, hnmm, -⟩ := C
  obtain ⟨Cn, T, hc⟩ := fS k a hs
  obtain ⟨hin, hcn, hins, hini, hnm, ty, hty⟩ := fK a Cn T _ hc
  obtain ⟨hlk, hlt⟩ := fF _ hm
  rw [mj_N_eq hc] at hlt
  rw [mj_T_eq hc] at hlk
  obtain ⟨hp, t0, t1, t2, t3, -, hcl⟩ := hty b hlt
  obtain ⟨hn, hfit⟩ := ht (ty b) t0 t1 t2 t3
  have hfin : (T b).2.2.2 = false ∨ (meth.name = "<init>" ∧ (T b).1 = mj_cn (mj_mo mm)) := by
    have e1 : (vwCl.getD a ("", (fun _ => ("", "", "", false)), 0)).2.1 = T := mj_T_eq hc
    unfold mj_fin at hf
    rw [e1] at hf
    simp only [Bool.or_eq_true, Bool.not_eq_true', Bool.and_eq_true, decide_eq_true_eq, beq_iff_eq] at hf
    rcases hf with hf | ⟨h1, h2⟩
    · exact Or.inl hf
    · exact Or.inr ⟨hnmm.trans h1, by rw [h2, hcl, hcn]⟩
  refine mj_rput (D := D) (ci := a) (C := Cn) (T := T) (N := mj_ln k) (H0 := s.heap) hx hb hts hin ty (fun j hj => (hty j hj).1) hnm hown hK hH.1 (mj_wd_D ca base σ) hS k (by rw [mj_wd_get hk, mj_ce_o hs]) hc b hlt (hts _ hlk) hfin hn hfit (by rw [List.length_map, List.length_range]; exact hlt) k1 (fun H1 locs1 hz hP1 hS1 => h H1 locs1 ⟨?_, ?_⟩ hS1)
  · rw [mj_wd_set (τ := τ) hn1 ?_ hoc] at hP1
    · exact hP1
    · rw [mj_ce_o hs, mj_fs_set hv ho]
  · rcases hH.2 with q | q
    · exact Or.inl (by rw [hz, hn1]; exact q)
    · exact Or.inr (by rw [hz, hn1]; exact q)
theorem mj_s31 (C : mj_Cx p s m args meth c D ca base mm) (fF : mj_fcF) (fK : mj_fcK) (fS : mj_fcS) (hH : mj_H D ca base σ H) (hs : mj_sh k = 10 + a) (hk : k < σ.1) (ck : mj_ckop mm pc 31 a b x is = true)
    (h : W p l e R s m args below meth c H locs cells slots Qf (F0 m (mj_pc is) ls (.int (σ.2.1 k b) :: rest))) : W p l e R s m args below meth c H locs cells slots Qf (F0 m pc ls (.ref (base + k) :: rest)) := by
  simp only [mj_ckop, Bool.and_eq_true, decide_eq_true_eq, List.contains_iff_mem] at ck
  obtain ⟨⟨hm, ck⟩, ht⟩ := ck
  obtain ⟨k1, k2⟩ := mj_df_ok ck
  rw [k2] at h
  exact mj_gf C fF fK fS hH hs hk hm k1 (by rw [mj_fv_i ht]; exact h)
theorem mj_s32 (C : mj_Cx p s m args meth c D ca base mm) (fF : mj_fcF) (fK : mj_fcK) (fS : mj_fcS) (hH : mj_H D ca base σ H) (hs : mj_sh k = 10 + a) (hk : k < σ.1) (ck : mj_ckop mm pc 32 a b x is = true)
    (h : W p l e R s m args below meth c H locs cells slots Qf (F0 m (mj_pc is) ls (.long (σ.2.2.1 k b) :: rest))) : W p l e R s m args below meth c H locs cells slots Qf (F0 m pc ls (.ref (base + k) :: rest)) := by
  simp only [mj_ckop, Bool.and_eq_true, decide_eq_true_eq, List.contains_iff_mem] at ck
  obtain ⟨⟨hm, ck⟩, ht⟩ := ck
  obtain ⟨k1, k2⟩ := mj_df_ok ck
  rw [k2] at h
  exact mj_gf C fF fK fS hH hs hk hm k1 (by rw [mj_fv_l ht]; exact h)
theorem mj_s33 (C : mj_Cx p s m args meth c D ca base mm) (fF : mj_fcF) (fK : mj_fcK) (fS : mj_fcS) (hH : mj_H D ca base σ H) (hs : mj_sh k = 10 + a) (hk : k < σ.1) (ck : mj_ckop mm pc 33 a b x is = true) {r : Nat} (hr : σ.2.2.2 k b = some r)
    (h : W p l e R s m args below meth c H locs cells slots Qf (F0 m (mj_pc is) ls (.ref (base + r) :: rest))) : W p l e R s m args below meth c H locs cells slots Qf (F0 m pc ls (.ref (base + k) :: rest)) := by
  simp only [mj_ckop, Bool.and_eq_true, decide_eq_true_eq, List.contains_iff_mem] at ck
  obtain ⟨⟨hm, ck⟩, ht⟩ := ck
  obtain ⟨k1, k2⟩ := mj_df_ok ck
  rw [k2] at h
  exact mj_gf C fF fK fS hH hs hk hm k1 (by rw [mj_fv_r ht, hr]; exact h)
theorem mj_upI_at {I : mj_I} {k b : Nat} {v : Int32} : mj_upI I k b v k b = v := by rw [mj_upI_eq]; exact pk_us
theorem mj_upI_of {I : mj_I} {k b i : Nat} {v : Int32} (h : i ≠ b) : mj_upI I k b v k i = I k i := by rw [mj_upI_eq]; exact pk_un h
theorem mj_upL_at {L : mj_L} {k b : Nat} {v : Int64} : mj_upL L k b v k b = v := by rw [mj_upL_eq]; exact pk_uLs
theorem mj_upL_of {L : mj_L} {k b i : Nat} {v : Int64} (h : i ≠ b) : mj_upL L k b v k i = L k i := by rw [mj_upL_eq]; exact pk_uLn h
theorem mj_upP_at {P : mj_P} {k b : Nat} {v : Option Nat} : mj_upP P k b v k b = v := by rw [mj_upP_eq]; unfold va_up; rw [if_pos rfl]
theorem mj_upP_of {P : mj_P} {k b i : Nat} {v : Option Nat} (h : i ≠ b) : mj_upP P k b v k i = P k i := by rw [mj_upP_eq]; unfold va_up; rw [if_neg h]
theorem mj_s34 (C : mj_Cx p s m args meth c D ca base mm) (fF : mj_fcF) (fK : mj_fcK) (fS : mj_fcS) (hH : mj_H D ca base σ H) (hS : va_S (mj_A base) s.heap H locs) (hs : mj_sh k = 10 + a) (hk : k < σ.1) (ck : mj_ckop mm pc 34 a b x is = true) {v : Int32}
    (h : ∀ (H1 : Heap) (locs1 : List Loc), mj_H D ca base (σ.1, mj_upI σ.2.1 k b v, σ.2.2) H1 → va_S (mj_A base) s.heap H1 locs1 → W p l e R s m args below meth c H1 locs1 cells slots Qf (F0 m (mj_pc is) ls rest)) : W p l e R s m args below meth c H locs cells slots Qf (F0 m pc ls (.int v :: .ref (base + k) :: rest)) := by
  simp only [mj_ckop, Bool.and_eq_true, decide_eq_true_eq, List.contains_iff_mem] at ck
  obtain ⟨⟨⟨hm, ck⟩, ht⟩, hf⟩ := ck
  obtain ⟨k1, k2⟩ := mj_df_ok ck
  rw [k2] at h
  refine mj_pf C fF fK fS hH hS hs hk hm k1 hf (τ := (σ.1, mj_upI σ.2.1 k b v, σ.2.2)) rfl (by rw [mj_fv_i (by omega)]; show Value.int (mj_upI σ.2.1 k b v k b) = _; rw [mj_upI_at]) (fun i hi => mj_fv_congr (mj_upI_of hi) rfl rfl) (fun j hj => mj_ce_congr (mj_upI_ne hj) rfl rfl) (fun t t0 _ _ _ => ?_) h
  rw [t0 ht]
  exact ⟨rfl, rfl⟩
theorem mj_s35 (C : mj_Cx p s m args meth c D ca base mm) (fF : mj_fcF) (fK : mj_fcK) (fS : mj_fcS) (hH : mj_H D ca base σ H) (hS : va_S (mj_A base) s.heap H locs) (hs : mj_sh k = 10 + a) (hk : k < σ.1) (ck : mj_ckop mm pc 35 a b x is = true) {v : Int32} (hv : v = 0 ∨ v = 1)
    (h : ∀ (H1 : Heap) (locs1 : List Loc), mj_H D ca base (σ.1, mj_upI σ.2.1 k b v, σ.2.2) H1 → va_S (mj_A base) s.heap H1 locs1 → W p l e R s m args below meth c H1 locs1 cells slots Qf (F0 m (mj_pc is) ls rest)) : W p l e R s m args below meth c H locs cells slots Qf (F0 m pc ls (.int v :: .ref (base + k) :: rest)) := by
  simp only [mj_ckop, Bool.and_eq_true, decide_eq_true_eq, List.contains_iff_mem] at ck
  obtain ⟨⟨⟨hm, ck⟩, ht⟩, hf⟩ := ck
  obtain ⟨k1, k2⟩ := mj_df_ok ck
  rw [k2] at h
  refine mj_pf C fF fK fS hH hS hs hk hm k1 hf (τ := (σ.1, mj_upI σ.2.1 k b v, σ.2.2)) rfl (by rw [mj_fv_i (by omega)]; show Value.int (mj_upI σ.2.1 k b v k b) = _; rw [mj_upI_at]) (fun i hi => mj_fv_congr (mj_upI_of hi) rfl rfl) (fun j hj => mj_ce_congr (mj_upI_ne hj) rfl rfl) (fun t _ t1 _ _ => ?_) h
  rw [t1 ht]
  rcases hv with rfl | rfl
  · exact ⟨rfl, rfl⟩
  · exact ⟨rfl, rfl⟩
theorem mj_s36 (C : mj_Cx p s m args meth c D ca base mm) (fF : mj_fcF) (fK : mj_fcK) (fS : mj_fcS) (hH : mj_H D ca base σ H) (hS : va_S (mj_A base) s.heap H locs) (hs : mj_sh k = 10 + a) (hk : k < σ.1) (ck : mj_ckop mm pc 36 a b x is = true) {v : Int64}
    (h : ∀ (H1 : Heap) (locs1 : List Loc), mj_H D ca base (σ.1, σ.2.1, mj_upL σ.2.2.1 k b v, σ.2.2.2) H1 → va_S (mj_A base) s.heap H1 locs1 → W p l e R s m args below meth c H1 locs1 cells slots Qf (F0 m (mj_pc is) ls rest)) : W p l e R s m args below meth c H locs cells slots Qf (F0 m pc ls (.long v :: .ref (base + k) :: rest)) := by
  simp only [mj_ckop, Bool.and_eq_true, decide_eq_true_eq, List.contains_iff_mem] at ck
  obtain ⟨⟨⟨hm, ck⟩, ht⟩, hf⟩ := ck
  obtain ⟨k1, k2⟩ := mj_df_ok ck
  rw [k2] at h
  refine mj_pf C fF fK fS hH hS hs hk hm k1 hf (τ := (σ.1, σ.2.1, mj_upL σ.2.2.1 k b v, σ.2.2.2)) rfl (by rw [mj_fv_l ht]; show Value.long (mj_upL σ.2.2.1 k b v k b) = _; rw [mj_upL_at]) (fun i hi => mj_fv_congr rfl (mj_upL_of hi) rfl) (fun j hj => mj_ce_congr rfl (mj_upL_ne hj) rfl) (fun t _ _ t2 _ => ?_) h
  rw [t2 ht]
  exact ⟨rfl, rfl⟩
theorem mj_s37 (C : mj_Cx p s m args meth c D ca base mm) (fF : mj_fcF) (fK : mj_fcK) (fS : mj_fcS) (hH : mj_H D ca base σ H) (hS : va_S (mj_A base) s.heap H locs) (hs : mj_sh k = 10 + a) (hk : k < σ.1) (ck : mj_ckop mm pc 37 a b x is = true) {v : Nat}
    (h : ∀ (H1 : Heap) (locs1 : List Loc), mj_H D ca base (σ.1, σ.2.1, σ.2.2.1, mj_upP σ.2.2.2 k b (some v)) H1 → va_S (mj_A base) s.heap H1 locs1 → W p l e R s m args below meth c H1 locs1 cells slots Qf (F0 m (mj_pc is) ls rest)) : W p l e R s m args below meth c H locs cells slots Qf (F0 m pc ls (.ref (base + v) :: .ref (base + k) :: rest)) := by
  simp only [mj_ckop, Bool.and_eq_true, decide_eq_true_eq, List.contains_iff_mem] at ck
  obtain ⟨⟨⟨hm, ck⟩, ht⟩, hf⟩ := ck
  obtain ⟨k1, k2⟩ := mj_df_ok ck
  rw [k2] at h
  refine mj_pf C fF fK fS hH hS hs hk hm k1 hf (τ := (σ.1, σ.2.1, σ.2.2.1, mj_upP σ.2.2.2 k b (some v))) rfl (by rw [mj_fv_r ht]; show va_rf ((mj_upP σ.2.2.2 k b (some v) k b).map _) = _; rw [mj_upP_at]; rfl) (fun i hi => mj_fv_congr rfl rfl (mj_upP_of hi)) (fun j hj => mj_ce_congr rfl rfl (mj_upP_ne hj)) (fun t _ _ _ t3 => ?_) h
  rcases t3 ht with ⟨n, rfl⟩ | ⟨z, rfl⟩
  · exact ⟨rfl, rfl⟩
  · exact ⟨rfl, rfl⟩
theorem mj_s38 (C : mj_Cx p s m args meth c D ca base mm) (hH : mj_H D ca base σ H) (hs : mj_sh k = 1) (hk : k < σ.1) (ck : mj_ckop mm pc 38 a b x is = true) {i : Int32} (hi : vp_in i (mj_ln k))
    (h : W p l e R s m args below meth c H locs cells slots Qf (F0 m (mj_pc is) ls (.int (σ.2.1 k i.toNatClampNeg) :: rest))) : W p l e R s m args below meth c H locs cells slots Qf (F0 m pc ls (.int i :: .ref (base + k) :: rest)) := by
  obtain ⟨hx, hb, -, -, -, hK, -⟩ := C
  obtain ⟨k1, k2⟩ := mj_df_ok ck
  rw [k2] at h
  exact va_iald hx hb hK hH.1 k 0 (by rw [mj_wd_get hk, mj_ce_1 hs]) rfl hi k1 h
theorem mj_s39 (C : mj_Cx p s m args meth c D ca base mm) (hH : mj_H D ca base σ H) (hs : mj_sh k = 2) (hk : k < σ.1) (ck : mj_ckop mm pc 39 a b x is = true) {i : Int32} (hi : vp_in i (mj_ln k))
    (h : W p l e R s m args below meth c H locs cells slots Qf (F0 m (mj_pc is) ls (.long (σ.2.2.1 k i.toNatClampNeg) :: rest))) : W p l e R s m args below meth c H locs cells slots Qf (F0 m pc ls (.int i :: .ref (base + k) :: rest)) := by
  obtain ⟨hx, hb, -, -, -, hK, -⟩ := C
  obtain ⟨k1, k2⟩ := mj_df_ok ck
  rw [k2] at h
  exact va_lald hx hb hK hH.1 k 1 (by rw [mj_wd_get hk, mj_ce_2 hs]) rfl hi k1 h
theorem mj_s40 (C : mj_Cx p s m args meth c D ca base mm) (hH : mj_H D ca base σ H) (hs : mj_sh k = 3) (hk : k < σ.1) (ck : mj_ckop mm pc 40 a b x is = true) {i : Int32} (hi : vp_in i (mj_ln k))
    (h : W p l e R s m args below meth c H locs cells slots Qf (F0 m (mj_pc is) ls (.int (σ.2.1 k i.toNatClampNeg) :: rest))) : W p l e R s m args below meth c H locs cells slots Qf (F0 m pc ls (.int i :: .ref (base + k) :: rest)) := by
  obtain ⟨hx, hb, -, -, -, hK, -⟩ := C
  obtain ⟨k1, k2⟩ := mj_df_ok ck
  rw [k2] at h
  exact va_bald hx hb hK hH.1 k 2 (by rw [mj_wd_get hk, mj_ce_3 hs]) rfl hi k1 h
theorem mj_s41 (C : mj_Cx p s m args meth c D ca base mm) (hH : mj_H D ca base σ H) (hs : mj_sh k = 4) (hk : k < σ.1) (ck : mj_ckop mm pc 41 a b x is = true) {i : Int32} (hi : vp_in i (mj_ln k))
    (h : W p l e R s m args below meth c H locs cells slots Qf (F0 m (mj_pc is) ls (.int (σ.2.1 k i.toNatClampNeg) :: rest))) : W p l e R s m args below meth c H locs cells slots Qf (F0 m pc ls (.int i :: .ref (base + k) :: rest)) := by
  obtain ⟨hx, hb, -, -, -, hK, -⟩ := C
  obtain ⟨k1, k2⟩ := mj_df_ok ck
  rw [k2] at h
  exact va_zald hx hb hK hH.1 k 3 (by rw [mj_wd_get hk, mj_ce_4 hs]) rfl hi k1 h
/-- a cell that was stored to -/
theorem mj_Hst (hH : mj_H D ca base σ H) {H1 : Heap} (hz : H1.size = H.size) {E : va_E} (hP : va_P D vwCl ((mj_wd ca base σ).set k (base + k, E)) H1) (hn1 : τ.1 = σ.1) (hE : mj_ce ca base τ k = E) (ho : ∀ j, j ≠ k → mj_ce ca base τ j = mj_ce ca base σ j) : mj_H D ca base τ H1 := by
  rw [mj_wd_set (τ := τ) hn1 hE ho] at hP
  refine ⟨hP, ?_⟩
  rcases hH.2 with q | q
  · exact Or.inl (by rw [hz, hn1]; exact q)
  · exact Or.inr (by rw [hz, hn1]; exact q)
theorem mj_s42 (C : mj_Cx p s m args meth c D ca base mm) (hH : mj_H D ca base σ H) (hS : va_S (mj_A base) s.heap H locs) (hs : mj_sh k = 1) (hk : k < σ.1) (ck : mj_ckop mm pc 42 a b x is = true) {i v : Int32} (hi : vp_in i (mj_ln k))
    (h : ∀ (H1 : Heap) (locs1 : List Loc), mj_H D ca base (σ.1, mj_upI σ.2.1 k i.toNatClampNeg v, σ.2.2) H1 → va_S (mj_A base) s.heap H1 locs1 → W p l e R s m args below meth c H1 locs1 cells slots Qf (F0 m (mj_pc is) ls rest)) : W p l e R s m args below meth c H locs cells slots Qf (F0 m pc ls (.int v :: .int i :: .ref (base + k) :: rest)) := by
  obtain ⟨hx, hb, -, -, -, hK, -⟩ := C
  obtain ⟨k1, k2⟩ := mj_df_ok ck
  rw [k2] at h
  exact mj_riast hx hb hK hH.1 (mj_wd_D ca base σ) hS k 0 (by rw [mj_wd_get hk, mj_ce_1 hs]) rfl hi k1 (fun H1 locs1 hz hP hS1 => h H1 locs1 (mj_Hst hH (k := k) hz hP rfl (by rw [mj_ce_1 hs]; show Sum.inl (ca 0, mj_ln k, Sum.inl (mj_upI σ.2.1 k i.toNatClampNeg v k)) = _; rw [mj_upI_eq]) (fun j hj => mj_ce_congr (mj_upI_ne hj) rfl rfl)) hS1)
theorem mj_s43 (C : mj_Cx p s m args meth c D ca base mm) (hH : mj_H D ca base σ H) (hS : va_S (mj_A base) s.heap H locs) (hs : mj_sh k = 2) (hk : k < σ.1) (ck : mj_ckop mm pc 43 a b x is = true) {i : Int32} {v : Int64} (hi : vp_in i (mj_ln k))
    (h : ∀ (H1 : Heap) (locs1 : List Loc), mj_H D ca base (σ.1, σ.2.1, mj_upL σ.2.2.1 k i.toNatClampNeg v, σ.2.2.2) H1 → va_S (mj_A base) s.heap H1 locs1 → W p l e R s m args below meth c H1 locs1 cells slots Qf (F0 m (mj_pc is) ls rest)) : W p l e R s m args below meth c H locs cells slots Qf (F0 m pc ls (.long v :: .int i :: .ref (base + k) :: rest)) := by
  obtain ⟨hx, hb, -, -, -, hK, -⟩ := C
  obtain ⟨k1, k2⟩ := mj_df_ok ck
  rw [k2] at h
  exact mj_rlast hx hb hK hH.1 (mj_wd_D ca base σ) hS k 1 (by rw [mj_wd_get hk, mj_ce_2 hs]) rfl hi k1 (fun H1 locs1 hz hP hS1 => h H1 locs1 (mj_Hst hH (k := k) hz hP rfl (by rw [mj_ce_2 hs]; show Sum.inl (ca 1, mj_ln k, Sum.inr (Sum.inl (mj_upL σ.2.2.1 k i.toNatClampNeg v k))) = _; rw [mj_upL_eq]) (fun j hj => mj_ce_congr rfl (mj_upL_ne hj) rfl)) hS1)
theorem mj_s44 (C : mj_Cx p s m args meth c D ca base mm) (hH : mj_H D ca base σ H) (hS : va_S (mj_A base) s.heap H locs) (hs : mj_sh k = 3) (hk : k < σ.1) (ck : mj_ckop mm pc 44 a b x is = true) {i v : Int32} (hi : vp_in i (mj_ln k))
    (h : ∀ (H1 : Heap) (locs1 : List Loc), mj_H D ca base (σ.1, mj_upI σ.2.1 k i.toNatClampNeg (vp_nar .byte v), σ.2.2) H1 → va_S (mj_A base) s.heap H1 locs1 → W p l e R s m args below meth c H1 locs1 cells slots Qf (F0 m (mj_pc is) ls rest)) : W p l e R s m args below meth c H locs cells slots Qf (F0 m pc ls (.int v :: .int i :: .ref (base + k) :: rest)) := by
  obtain ⟨hx, hb, -, -, -, hK, -⟩ := C
  obtain ⟨k1, k2⟩ := mj_df_ok ck
  rw [k2] at h
  exact mj_rbast hx hb hK hH.1 (mj_wd_D ca base σ) hS k 2 (by rw [mj_wd_get hk, mj_ce_3 hs]) rfl hi k1 (fun H1 locs1 hz hP hS1 => h H1 locs1 (mj_Hst hH (k := k) hz hP rfl (by rw [mj_ce_3 hs]; show Sum.inl (ca 2, mj_ln k, Sum.inl (mj_upI σ.2.1 k i.toNatClampNeg (vp_nar .byte v) k)) = _; rw [mj_upI_eq]) (fun j hj => mj_ce_congr (mj_upI_ne hj) rfl rfl)) hS1)
theorem mj_s45 (C : mj_Cx p s m args meth c D ca base mm) (hH : mj_H D ca base σ H) (hS : va_S (mj_A base) s.heap H locs) (hs : mj_sh k = 4) (hk : k < σ.1) (ck : mj_ckop mm pc 45 a b x is = true) {i v : Int32} (hi : vp_in i (mj_ln k))
    (h : ∀ (H1 : Heap) (locs1 : List Loc), mj_H D ca base (σ.1, mj_upI σ.2.1 k i.toNatClampNeg (vp_nar .boolean v), σ.2.2) H1 → va_S (mj_A base) s.heap H1 locs1 → W p l e R s m args below meth c H1 locs1 cells slots Qf (F0 m (mj_pc is) ls rest)) : W p l e R s m args below meth c H locs cells slots Qf (F0 m pc ls (.int v :: .int i :: .ref (base + k) :: rest)) := by
  obtain ⟨hx, hb, -, -, -, hK, -⟩ := C
  obtain ⟨k1, k2⟩ := mj_df_ok ck
  rw [k2] at h
  exact mj_rzast hx hb hK hH.1 (mj_wd_D ca base σ) hS k 3 (by rw [mj_wd_get hk, mj_ce_4 hs]) rfl hi k1 (fun H1 locs1 hz hP hS1 => h H1 locs1 (mj_Hst hH (k := k) hz hP rfl (by rw [mj_ce_4 hs]; show Sum.inl (ca 3, mj_ln k, Sum.inl (mj_upI σ.2.1 k i.toNatClampNeg (vp_nar .boolean v) k)) = _; rw [mj_upI_eq]) (fun j hj => mj_ce_congr (mj_upI_ne hj) rfl rfl)) hS1)
theorem mj_s46 (C : mj_Cx p s m args meth c D ca base mm) (hH : mj_H D ca base σ H) (h1 : 1 ≤ mj_sh k) (h4 : mj_sh k ≤ 4) (hk : k < σ.1) (ck : mj_ckop mm pc 46 a b x is = true)
    (h : W p l e R s m args below meth c H locs cells slots Qf (F0 m (mj_pc is) ls (.int (nI (mj_ln k)) :: rest))) : W p l e R s m args below meth c H locs cells slots Qf (F0 m pc ls (.ref (base + k) :: rest)) := by
  obtain ⟨hx, hb, -, -, -, hK, -⟩ := C
  obtain ⟨k1, k2⟩ := mj_df_ok ck
  rw [k2] at h
  rcases (by omega : mj_sh k = 1 ∨ mj_sh k = 2 ∨ mj_sh k = 3 ∨ mj_sh k = 4) with q | q | q | q
  · exact va_alen (x := (mj_ln k, .inl (σ.2.1 k))) hx hb hK hH.1 k 0 (by rw [mj_wd_get hk, mj_ce_1 q]) rfl rfl k1 h
  · exact va_alen (x := (mj_ln k, .inr (.inl (σ.2.2.1 k)))) hx hb hK hH.1 k 1 (by rw [mj_wd_get hk, mj_ce_2 q]) rfl rfl k1 h
  · exact va_alen (x := (mj_ln k, .inl (σ.2.1 k))) hx hb hK hH.1 k 2 (by rw [mj_wd_get hk, mj_ce_3 q]) rfl rfl k1 h
  · exact va_alen (x := (mj_ln k, .inl (σ.2.1 k))) hx hb hK hH.1 k 3 (by rw [mj_wd_get hk, mj_ce_4 q]) rfl rfl k1 h
theorem mj_s54 (C : mj_Cx p s m args meth c D ca base mm) (fA : mj_fcA) (hH : mj_H D ca base σ H) (hS : va_S (mj_A base) s.heap H locs) (hlr : mj_LR (mj_cv base ext) lo ls (mj_ml mm)) {d s0 : Nat} (hd : mj_sh d = 1) (hdn : d < σ.1) (hs : mj_sh s0 = 1) (hsn : s0 < σ.1) (ck : mj_ckop mm pc 54 a b x is = true) {n dp sp : Int32} (h1 : ¬ sp < 0) (h2 : ¬ dp < 0) (h3 : ¬ n < 0) (h4 : sp.toNatClampNeg + n.toNatClampNeg ≤ mj_ln s0) (h5 : dp.toNatClampNeg + n.toNatClampNeg ≤ mj_ln d) (hc : (rest.map fun v => v.category).sum ≤ 8) (hR1 : 1 ≤ R.frames) (hR2 : 100 ≤ R.locals)
    (h : ∀ (H1 : Heap) (locs1 : List Loc), mj_H D ca base (σ.1, mj_seI σ.2.1 d (va_cpy (σ.2.1 s0) (σ.2.1 d) sp.toNatClampNeg dp.toNatClampNeg n.toNatClampNeg), σ.2.2) H1 → va_S (mj_A base) s.heap H1 locs1 → W p l e R s m args below meth c H1 locs1 cells slots Qf (F0 m (mj_pc is) ls rest)) : W p l e R s m args below meth c H locs cells slots Qf (F0 m pc ls (.int n :: .int dp :: .ref (base + d) :: .int sp :: .ref (base + s0) :: rest)) := by
  obtain ⟨hx, hb, hml, hown, hts, hK, -⟩ := C
  simp only [mj_ckop, Bool.and_eq_true, List.contains_iff_mem] at ck
  obtain ⟨hm, ck⟩ := ck
  obtain ⟨k1, k2⟩ := mj_df_ok ck
  rw [k2] at h
  have hw : nativeFrameWords "java/lang/System" "arraycopy" 5 + 11 ≤ 92 := by decide +kernel
  exact mj_rcopy hx hb (by rw [hml]; exact hlr.2.1.symm) hown (hts _ (fA.1 _ hm)) (hts _ fA.2.1) (hts _ fA.2.2.1) (hts _ fA.2.2.2) hK hH.1 (mj_wd_D ca base σ) hS s0 d 0 (by rw [mj_wd_get hsn, mj_ce_1 hs]) (by rw [mj_wd_get hdn, mj_ce_1 hd]) rfl h1 h2 h3 h4 h5 hR1 (by omega) k1 (fun H1 locs1 hz hP hS1 => h H1 locs1 (mj_Hst hH (k := d) hz hP rfl (by rw [mj_ce_1 hd]; show Sum.inl (ca 0, mj_ln d, Sum.inl (mj_seI σ.2.1 d (va_cpy (σ.2.1 s0) (σ.2.1 d) sp.toNatClampNeg dp.toNatClampNeg n.toNatClampNeg) d)) = _; rw [mj_seI_eq]) (fun j hj => mj_ce_congr (mj_seI_ne hj) rfl rfl)) hS1)
theorem mj_s51 (C : mj_Cx p s m args meth c D ca base mm) (fO : mj_fcO) (hlr : mj_LR (mj_cv base ext) lo ls (mj_ml mm)) (ck : mj_ckop mm pc 51 a b x is = true) {q : Nat} (hc : (rest.map fun v => v.category).sum ≤ 8) (hR1 : 1 ≤ R.frames) (hR2 : 100 ≤ R.locals)
    (h : W p l e R s m args below meth c H locs cells slots Qf (F0 m (mj_pc is) ls rest)) : W p l e R s m args below meth c H locs cells slots Qf (F0 m pc ls (.ref q :: rest)) := by
  obtain ⟨hx, hb, hml, hown, hts, hK, -⟩ := C
  simp only [mj_ckop, Bool.and_eq_true, List.contains_iff_mem] at ck
  obtain ⟨hm, ck⟩ := ck
  obtain ⟨k1, k2⟩ := mj_df_ok ck
  rw [k2] at h
  exact W.objInit hx hb hown (hts _ (fO.1 _ hm)) (hts _ fO.2.1) (hts _ fO.2.2) rfl (by rw [hml]; exact hlr.2.1) rfl k1 hR1 (by show 2 * 0 + _ + 12 ≤ _; omega) h
end S
end
section
/-! soundness: new cells, returns -/
theorem mj_sh_lt {k : Nat} (h : mj_sh k ≠ 0) : k < mj_shl.length := by
  rcases Nat.lt_or_ge k mj_shl.length with q | q
  · exact q
  · exfalso
    apply h
    unfold mj_sh
    rw [List.getD_eq_getElem?_getD, List.getElem?_eq_none q]
    rfl
def mj_nw (σ : mj_S) : mj_S := (σ.1 + 1, mj_seI σ.2.1 σ.1 (fun _ => 0), mj_seL σ.2.2.1 σ.1 (fun _ => 0), mj_seP σ.2.2.2 σ.1 (fun _ => none))
theorem mj_wd_nw (ca : Nat → ClassId) (base : Nat) (σ : mj_S) : mj_wd ca base (mj_nw σ) = mj_wd ca base σ ++ [(base + σ.1, mj_ce ca base (mj_nw σ) σ.1)] := by
  unfold mj_wd
  show (List.range (σ.1 + 1)).map _ = _
  rw [List.range_succ, List.map_append]
  congr 1
  apply List.map_congr_left
  intro k hk
  have hne : k ≠ σ.1 := by have := List.mem_range.mp hk; omega
  rw [mj_ce_congr (τ := mj_nw σ) (σ := σ) (mj_seI_ne hne) (mj_seL_ne hne) (mj_seP_ne hne)]
theorem mj_Hnw {D : va_G} {ca : Nat → ClassId} {base : Nat} {σ : mj_S} {H H1 : Heap} (hH : mj_H D ca base σ H) (hz : H.size = base + σ.1) (hz1 : H1.size = H.size + 1) (ho : ∀ q, q < H.size → H1[q]? = H[q]?) (hn : va_at D vwCl (base + σ.1, mj_ce ca base (mj_nw σ) σ.1) H1) : mj_H D ca base (mj_nw σ) H1 := by
  refine ⟨?_, Or.inl (by rw [hz1, hz]; show _ = base + (σ.1 + 1); omega)⟩
  rw [mj_wd_nw]
  refine (hH.1.kept (fun k q hq => ho q.1 ((hH.1 k q hq).lt))).app (fun k q hq => ?_)
  have hl : k < 1 := (List.getElem?_eq_some_iff.mp hq).1
  rw [show k = 0 by omega] at hq
  cases hq
  exact hn
section S
variable {p : Program} {l : Launch} {e : Env} {R : Room} {s : State} {m : MethodId} {args : Array Value} {below : List Frame} {meth : Method} {c : Code} {H : Heap} {locs : List Loc} {cells slots : Nat} {Qf : State → Prop}
variable {D : va_G} {ca : Nat → ClassId} {base : Nat} {ext : Nat → Nat} {mm : Nat}
variable {is : List mj_O} {lo : mj_Lo} {st rest : List Value} {σ τ : mj_S} {bc bs pc a b x k : Nat} {ls : Array Slot}
theorem mj_szx (hH : mj_H D ca base σ H) (h : mj_sh σ.1 ≠ 0) : H.size = base + σ.1 := by
  rcases hH.2 with q | ⟨q, -⟩
  · exact q
  · have := mj_sh_lt h
    omega
theorem mj_S_grow (hS : va_S (mj_A base) s.heap H locs) {H1 : Heap} (hz1 : H1.size = H.size + 1) (ho : ∀ q, q < H.size → H1[q]? = H[q]?) : va_S (mj_A base) s.heap H1 locs :=
  ⟨Nat.le_trans hS.1 (by omega), fun q h1 h2 => (ho q (Nat.lt_of_lt_of_le h1 hS.1)).trans (hS.2.1 q h1 h2), hS.2.2⟩
theorem mj_s52 (C : mj_Cx p s m args meth c D ca base mm) (fC : mj_fcC) (fK : mj_fcK) (fS : mj_fcS) (hH : mj_H D ca base σ H) (hS : va_S (mj_A base) s.heap H locs) (hs : mj_sh σ.1 = 10 + a) (ck : mj_ckop mm pc 52 a b x is = true) (hc1 : cells + 1 ≤ R.cells) (hs1 : slots + mj_ln σ.1 ≤ R.slots)
    (h : ∀ (H1 : Heap), mj_H D ca base (mj_nw σ) H1 → va_S (mj_A base) s.heap H1 locs → W p l e R s m args below meth c H1 locs (cells + 1) (slots + mj_ln σ.1) Qf (F0 m (mj_pc is) ls (.ref (base + σ.1) :: rest))) : W p l e R s m args below meth c H locs cells slots Qf (F0 m pc ls rest) := by
  obtain ⟨hx, hb, hml, hown, hts, hK, -⟩ := C
  simp only [mj_ckop, Bool.and_eq_true, List.contains_iff_mem] at ck
  obtain ⟨hm, ck⟩ := ck
  obtain ⟨k1, k2⟩ := mj_df_ok ck
  rw [k2] at h
  obtain ⟨Cn, T, hc⟩ := fS σ.1 a hs
  obtain ⟨hin, hcn, hins, hini, hnm, ty, hty⟩ := fK a Cn T _ hc
  have hlk := fC _ hm
  simp only [hcn] at hlk
  have hKn := hK.1 a _ hc
  have hz := mj_szx hH (by rw [hs]; omega)
  refine W.newcK hx hb hown (hts _ hlk) (hts _ hins) (hts _ hini) rfl k1 hc1 hs1 hKn.2.1 hz fun H1 kC hkC e1 z1 o1 => ?_
  refine h H1 (mj_Hnw hH hz (by omega) (fun q hq => o1 q (by omega)) ?_) (mj_S_grow hS (by omega) (fun q hq => o1 q (by omega)))
  rw [mj_ce_o hs]
  refine ⟨_, hc, (u_born ty hts hin hKn hkC e1 (fun j hj => (hty j hj).1)).to (fun j hj => ?_)⟩
  obtain ⟨-, t0, t1, t2, t3, t4, -⟩ := hty j hj
  show defaultValue (ty j) = ((List.range (mj_ln σ.1)).map (mj_fv base (mj_nw σ) a σ.1)).getD j .null
  rw [List.getD_eq_getElem?_getD, mj_fs_get hj]
  show defaultValue (ty j) = mj_fv base (mj_nw σ) a σ.1 j
  rcases (by omega : mj_ft a j = 0 ∨ mj_ft a j = 1 ∨ mj_ft a j = 2 ∨ mj_ft a j = 3) with q | q | q | q
  · rw [mj_fv_i (by omega), t0 q]
    show _ = Value.int (mj_seI σ.2.1 σ.1 (fun _ => 0) σ.1 j)
    rw [mj_seI_eq]; rfl
  · rw [mj_fv_i (by omega), t1 q]
    show _ = Value.int (mj_seI σ.2.1 σ.1 (fun _ => 0) σ.1 j)
    rw [mj_seI_eq]; rfl
  · rw [mj_fv_l q, t2 q]
    show _ = Value.long (mj_seL σ.2.2.1 σ.1 (fun _ => 0) σ.1 j)
    rw [mj_seL_eq]; rfl
  · rw [mj_fv_r q]
    show _ = va_rf ((mj_seP σ.2.2.2 σ.1 (fun _ => none) σ.1 j).map _)
    rw [mj_seP_eq]
    rcases t3 q with ⟨n, e⟩ | ⟨n, e⟩ <;> rw [e] <;> rfl
theorem mj_s53 (C : mj_Cx p s m args meth c D ca base mm) (fR : mj_fcR) (hca : s.vm.findClass ("[" ++ FieldType.int.toString) = some (ca 0) ∧ s.vm.findClass ("[" ++ FieldType.long.toString) = some (ca 1) ∧ s.vm.findClass ("[" ++ FieldType.byte.toString) = some (ca 2) ∧ s.vm.findClass ("[" ++ FieldType.boolean.toString) = some (ca 3)) (hH : mj_H D ca base σ H) (hS : va_S (mj_A base) s.heap H locs) (hs : mj_sh σ.1 = a) (hln : mj_ln σ.1 < 2 ^ 20) (ck : mj_ckop mm pc 53 a b x is = true) (hc1 : cells + 1 ≤ R.cells) (hs1 : slots + mj_ln σ.1 ≤ R.slots)
    (h : ∀ (H1 : Heap), mj_H D ca base (mj_nw σ) H1 → va_S (mj_A base) s.heap H1 locs → W p l e R s m args below meth c H1 locs (cells + 1) (slots + mj_ln σ.1) Qf (F0 m (mj_pc is) ls (.ref (base + σ.1) :: rest))) : W p l e R s m args below meth c H locs cells slots Qf (F0 m pc ls (.int (nI (mj_ln σ.1)) :: rest)) := by
  obtain ⟨hx, hb, hml, hown, hts, hK, -⟩ := C
  simp only [mj_ckop, Bool.and_eq_true, decide_eq_true_eq] at ck
  obtain ⟨⟨ha1, ha4⟩, ck⟩ := ck
  obtain ⟨k1, k2⟩ := mj_df_ok ck
  rw [k2] at h
  have hz := mj_szx hH (by rw [hs]; omega)
  have hcl := nI_clamp (n := mj_ln σ.1) (by omega)
  rcases (by omega : a = 1 ∨ a = 2 ∨ a = 3 ∨ a = 4) with rfl | rfl | rfl | rfl
  · refine va_newaK (atype := .int) hx hb (hts _ fR.1) rfl k1 rfl (nI_pos (by omega)) hcl (by show _ * 4 ≤ _; omega) hc1 hs1 hz fun H1 cA e1 z1 o1 hA hf => ?_
    cases Option.some.inj (hf.symm.trans hca.1)
    refine h H1 (mj_Hnw hH hz (by omega) (fun q hq => o1 q (by omega)) ?_) (mj_S_grow hS (by omega) (fun q hq => o1 q (by omega)))
    rw [mj_ce_1 hs]
    show H1[base + σ.1]? = some (vp_cell (ca 0) (mj_ln σ.1, .inl (mj_seI σ.2.1 σ.1 (fun _ => 0) σ.1)))
    rw [mj_seI_eq, vp_cell_i]
    exact e1
  · refine va_newaK (atype := .long) hx hb (hts _ fR.2.1) rfl k1 rfl (nI_pos (by omega)) hcl (by show _ * 8 ≤ _; omega) hc1 hs1 hz fun H1 cA e1 z1 o1 hA hf => ?_
    cases Option.some.inj (hf.symm.trans hca.2.1)
    refine h H1 (mj_Hnw hH hz (by omega) (fun q hq => o1 q (by omega)) ?_) (mj_S_grow hS (by omega) (fun q hq => o1 q (by omega)))
    rw [mj_ce_2 hs]
    show H1[base + σ.1]? = some (vp_cell (ca 1) (mj_ln σ.1, .inr (.inl (mj_seL σ.2.2.1 σ.1 (fun _ => 0) σ.1))))
    rw [mj_seL_eq, vp_cell_l]
    exact e1
  · refine va_newaK (atype := .byte) hx hb (hts _ fR.2.2.1) rfl k1 rfl (nI_pos (by omega)) hcl (by show _ * 1 ≤ _; omega) hc1 hs1 hz fun H1 cA e1 z1 o1 hA hf => ?_
    cases Option.some.inj (hf.symm.trans hca.2.2.1)
    refine h H1 (mj_Hnw hH hz (by omega) (fun q hq => o1 q (by omega)) ?_) (mj_S_grow hS (by omega) (fun q hq => o1 q (by omega)))
    rw [mj_ce_3 hs]
    show H1[base + σ.1]? = some (vp_cell (ca 2) (mj_ln σ.1, .inl (mj_seI σ.2.1 σ.1 (fun _ => 0) σ.1)))
    rw [mj_seI_eq, vp_cell_i]
    exact e1
  · refine va_newaK (atype := .boolean) hx hb (hts _ fR.2.2.2) rfl k1 rfl (nI_pos (by omega)) hcl (by show _ * 1 ≤ _; omega) hc1 hs1 hz fun H1 cA e1 z1 o1 hA hf => ?_
    cases Option.some.inj (hf.symm.trans hca.2.2.2)
    refine h H1 (mj_Hnw hH hz (by omega) (fun q hq => o1 q (by omega)) ?_) (mj_S_grow hS (by omega) (fun q hq => o1 q (by omega)))
    rw [mj_ce_4 hs]
    show H1[base + σ.1]? = some (vp_cell (ca 3) (mj_ln σ.1, .inl (mj_seI σ.2.1 σ.1 (fun _ => 0) σ.1)))
    rw [mj_seI_eq, vp_cell_i]
    exact e1
/-- a method's end, as its contract says it -/
def mj_Qc (D : va_G) (ca : Nat → ClassId) (base : Nat) (ext : Nat → Nat) (Q : mj_Q) : Array Value → State → Outcome → State → Prop := fun _ st o t => ∃ v σ, o = .returned (v.map (mj_cv base ext)) ∧ Q (.inl v) σ ∧ mj_H D ca base σ t.heap ∧ va_F (mj_A base) st t
def mj_xn : Nat → String
  | 0 => "java/util/NoSuchElementException"
  | _ => "java/lang/IllegalArgumentException"
def mj_XC (D : va_G) (ca : Nat → ClassId) (base : Nat) (Q : mj_Q) : String → State → State → Prop := fun E st t => ∃ k σ, E = mj_xn k ∧ Q (.inr k) σ ∧ mj_H D ca base σ t.heap ∧ va_F (mj_A base) st t
variable {Q : mj_Q}
theorem mj_rq (hH : mj_H D ca base σ H) (hS : va_S (mj_A base) s.heap H locs) {v : Option Value} (hq : Q (.inl v) σ) : ∀ t : State, t.heap = H → s.WarmedH t.vm → mj_Qc D ca base ext Q args s (.returned (v.map (mj_cv base ext))) t :=
  fun t ht _ => ⟨v, σ, rfl, hq, by rw [ht]; exact hH, hS.F ht⟩
theorem mj_s25 (C : mj_Cx p s m args meth c D ca base mm) (hH : mj_H D ca base σ H) (hS : va_S (mj_A base) s.heap H locs) (ck : mj_ckop mm pc 25 a b x is = true) (hc : cells ≤ mj_mc mm) (hs : slots ≤ mj_ms mm) (hq : Q (.inl none) σ) :
    W p l e R s m args below meth c H locs cells slots (vx_MQ below (mj_Qc D ca base ext Q) (mj_XC D ca base Q) args s (mj_mc mm) (mj_ms mm) (mj_A base)) (F0 m pc ls []) := by
  obtain ⟨hx, hb, hml, hown, hts, hK, hr, hlocks, -⟩ := C
  simp only [mj_ckop, Bool.and_eq_true, decide_eq_true_eq] at ck
  rw [ck.2] at hr
  refine W.widen hc hs (vx_ret ?_)
  exact W.vret hx hb hr (mj_rq (ext := ext) hH hS hq) hS.2.2 (mj_dk_ok ck.1) hlocks
theorem mj_s26 (C : mj_Cx p s m args meth c D ca base mm) (hH : mj_H D ca base σ H) (hS : va_S (mj_A base) s.heap H locs) (ck : mj_ckop mm pc 26 a b x is = true) (hc : cells ≤ mj_mc mm) (hs : slots ≤ mj_ms mm) {v : Int32} (hq : Q (.inl (some (.int v))) σ) :
    W p l e R s m args below meth c H locs cells slots (vx_MQ below (mj_Qc D ca base ext Q) (mj_XC D ca base Q) args s (mj_mc mm) (mj_ms mm) (mj_A base)) (F0 m pc ls [.int v]) := by
  obtain ⟨hx, hb, hml, hown, hts, hK, hr, hlocks, -⟩ := C
  simp only [mj_ckop, Bool.and_eq_true, decide_eq_true_eq] at ck
  rw [ck.2] at hr
  refine W.widen hc hs (vx_ret ?_)
  exact W.iret hx hb hr (mj_rq (ext := ext) hH hS hq) hS.2.2 (mj_dk_ok ck.1) hlocks
theorem mj_s27 (C : mj_Cx p s m args meth c D ca base mm) (hH : mj_H D ca base σ H) (hS : va_S (mj_A base) s.heap H locs) (ck : mj_ckop mm pc 27 a b x is = true) (hc : cells ≤ mj_mc mm) (hs : slots ≤ mj_ms mm) {v : Int32} (hv : v = 0 ∨ v = 1) (hq : Q (.inl (some (.int v))) σ) :
    W p l e R s m args below meth c H locs cells slots (vx_MQ below (mj_Qc D ca base ext Q) (mj_XC D ca base Q) args s (mj_mc mm) (mj_ms mm) (mj_A base)) (F0 m pc ls [.int v]) := by
  obtain ⟨hx, hb, hml, hown, hts, hK, hr, hlocks, -⟩ := C
  simp only [mj_ckop, Bool.and_eq_true, decide_eq_true_eq] at ck
  rw [ck.2] at hr
  refine W.widen hc hs (vx_ret ?_)
  exact W.zret hx hb hr (by rcases hv with rfl | rfl <;> rfl) (mj_rq (ext := ext) hH hS hq) hS.2.2 (mj_dk_ok ck.1) hlocks
theorem mj_s28 (C : mj_Cx p s m args meth c D ca base mm) (hH : mj_H D ca base σ H) (hS : va_S (mj_A base) s.heap H locs) (ck : mj_ckop mm pc 28 a b x is = true) (hc : cells ≤ mj_mc mm) (hs : slots ≤ mj_ms mm) {v : Int64} (hq : Q (.inl (some (.long v))) σ) :
    W p l e R s m args below meth c H locs cells slots (vx_MQ below (mj_Qc D ca base ext Q) (mj_XC D ca base Q) args s (mj_mc mm) (mj_ms mm) (mj_A base)) (F0 m pc ls [.long v]) := by
  obtain ⟨hx, hb, hml, hown, hts, hK, hr, hlocks, -⟩ := C
  simp only [mj_ckop, Bool.and_eq_true, decide_eq_true_eq] at ck
  rw [ck.2] at hr
  refine W.widen hc hs (vx_ret ?_)
  exact W.lret hx hb hr (mj_rq (ext := ext) hH hS hq) hS.2.2 (mj_dk_ok ck.1) hlocks
end S
end
section
/-! soundness: calls -/
/-- the texts that are read: their lengths and bytes; the script's ints; the rows' classes apart -/
def mj_tln : List Nat := [(mj_txt 0).length, (mj_txt 1).length]
def mj_tby : List (List Int32) := [(mj_txt 0).map nI, (mj_txt 1).map nI]
def mj_sci (ext : Nat → Nat) (j : Nat) : Int32 := Int32.ofNat (ext (1000 + j))
/-- the classes above the exceptions -/
def mj_dc : List String := ["java/lang/RuntimeException", "java/lang/Exception", "java/lang/Throwable"]
def mj_Y (base : Nat) (ext : Nat → Nat) (U : State) (H : Heap) : Prop :=
  vk_S 2 mj_tln mj_tby ext (fun i => ext (2 + i)) (mj_A base) U H ∧ (∀ q ∈ mj_pS, ∃ tx, vk_R (mj_cn q.1) q.2.2 tx (ext q.2.1) U) ∧ va_Z "java/lang/String" "COMPACT_STRINGS" "Z" (.int 1) (mj_A base) U H ∧ va_Z "jdk/internal/util/Preconditions" "SIOOBE_FORMATTER" "Ljava/util/function/BiFunction;" (mj_nv (ext 4)) (mj_A base) U H ∧ va_T .int (ext 5) (ext 999) (fun j => .int (mj_sci ext j)) (mj_A base) U H ∧ va_Nc (mj_xn 0) (mj_xn 1) U ∧ va_Nc (mj_xn 1) (mj_xn 0) U ∧ ∀ y ∈ mj_dc, va_Nw (.declares (Bundle.initS y)) U
theorem mj_Y.moved {base : Nat} {ext : Nat → Nat} {u U : State} {H : Heap} (hW : u.WarmedH U.vm) (h : mj_Y base ext u H) : mj_Y base ext U H := by
  obtain ⟨h1, h2, h3, h4, h5, h6, h7, h8⟩ := h
  refine ⟨h1.moved hW.alike, fun q hq => ?_, h3.moved hW.alike, h4.moved hW.alike, h5.moved hW.alike, h6.moved hW.alike, h7.moved hW.alike, fun y hy => va_Nw.warmD hW (h8 y hy)⟩
  obtain ⟨tx, h⟩ := h2 q hq
  exact ⟨tx, h.warm hW⟩
theorem mj_Y.kept {base : Nat} {ext : Nat → Nat} {U : State} {H H1 : Heap} (h : mj_Y base ext U H) (hq : ∀ q : Nat, q < H.size → ¬ mj_A base q → H1[q]? = H[q]?) : mj_Y base ext U H1 := by
  obtain ⟨h1, h2, h3, h4, h5, h6, h7⟩ := h
  exact ⟨h1.kept hq, h2, h3.kept hq, h4.kept hq, h5.kept hq, h6, h7⟩
def mj_fcM : Prop := ∀ q ∈ mj_pM, Cond.methodLink (mj_cn q.1) q.2.2 (mj_my q.2.1) ∈ mj_mw
/-- the word of a method's code -/
def mj_cw (mm : Nat) : Cond := match mj_hh mm with
  | [] => .code (mj_my mm) (mj_mb mm) (mj_ml mm) (mj_mr mm)
  | h => .codeWith (mj_my mm) (mj_mb mm) (mj_ml mm) (mj_mr mm) h
theorem mj_cw_c {mm : Nat} (h : mj_hh mm = []) : mj_cw mm = .code (mj_my mm) (mj_mb mm) (mj_ml mm) (mj_mr mm) := by
  unfold mj_cw
  rw [h]
theorem mj_cw_h {mm : Nat} (h : mj_hh mm ≠ []) : mj_cw mm = .codeWith (mj_my mm) (mj_mb mm) (mj_ml mm) (mj_mr mm) (mj_hh mm) := by
  unfold mj_cw
  cases hh : mj_hh mm with
  | nil => exact absurd hh h
  | cons a b => rfl
def mj_fcQ : Prop := ∀ q ∈ mj_kd, q.2 < 324 ∧ mj_cw q.2 ∈ mj_mw ∧ (mj_my q.2).cls = mj_cn (mj_mo q.2) ∧ (mj_my q.2).cls ≠ "java/lang/invoke/MethodHandle" ∧ (mj_my q.2).cls ≠ "java/lang/invoke/VarHandle" ∧ (parseMethodDescriptor (mj_my q.2).desc).map (fun d => d.parameters.length) = some (mj_mn q.2) ∧ Cond.initialized (mj_my q.2).cls ∈ mj_mw ∧ mj_ml q.2 ≤ 60 ∧
  (q.1 = 0 → Cond.instanceMethod (mj_my q.2) ∈ mj_mw ∧ Cond.selects (mj_my q.2).cls (mj_my q.2) (mj_my q.2) ∈ mj_mw ∧ mj_mo q.2 < 13) ∧ (q.1 = 1 → Cond.static (mj_my q.2) ∈ mj_mw) ∧ (q.1 = 2 → Cond.instanceMethod (mj_my q.2) ∈ mj_mw ∧ (mj_my q.2).name = "<init>" ∧ mj_mr q.2 = none) ∧ (q.1 = 3 → Cond.instanceMethod (mj_my q.2) ∈ mj_mw ∧ Cond.selects (mj_my q.2).cls (mj_my q.2) (mj_my q.2) ∈ mj_mw ∧ mj_mo q.2 = 15) ∧ (q.1 = 4 → Cond.static (mj_my q.2) ∈ mj_mw ∧ mj_hh q.2 ≠ []) ∧ (q.1 ≠ 4 → mj_hh q.2 = [])
def mj_ws (mm : Nat) : List Cond := mj_cw mm :: mj_mw
theorem mj_ws_c {mm : Nat} (h : mj_hh mm = []) : mj_ws mm = .code (mj_my mm) (mj_mb mm) (mj_ml mm) (mj_mr mm) :: mj_mw := by
  unfold mj_ws
  rw [mj_cw_c h]
def mj_rm (d mm : Nat) : Room := { frames := d + 8, cells := mj_mc mm, slots := mj_ms mm, locals := 100 * d + 200 }
/-- the array classes -/
def mj_cas (ca : Nat → ClassId) (U : State) : Prop := U.vm.findClass ("[" ++ FieldType.int.toString) = some (ca 0) ∧ U.vm.findClass ("[" ++ FieldType.long.toString) = some (ca 1) ∧ U.vm.findClass ("[" ++ FieldType.byte.toString) = some (ca 2) ∧ U.vm.findClass ("[" ++ FieldType.boolean.toString) = some (ca 3)
theorem mj_cas.moved {ca : Nat → ClassId} {u U : State} (hW : u.WarmedH U.vm) (h : mj_cas ca u) : mj_cas ca U := by
  unfold mj_cas
  rw [hW.alike.findClass, hW.alike.findClass, hW.alike.findClass, hW.alike.findClass]
  exact h
/-- what stands outside the cells: nest mates' links, what a throw wants of the tables and of Throwable's statics, the messages -/
def mj_X (base : Nat) (ext : Nat → Nat) (U : State) (H : Heap) : Prop :=
  (∀ q ∈ mj_pN, va_Nw (.methodLinkNest (mj_cn q.1) q.2.2 (mj_my q.2.1) "SockFair") U) ∧ (∀ k, va_Nw (.castable (mj_xn k) (mj_xn k)) U) ∧ vx_Zq Bundle.tN "UNASSIGNED_STACK" Bundle.steD (mj_A base) U H ∧ vx_Zq Bundle.tN "SUPPRESSED_SENTINEL" Bundle.listD (mj_A base) U H ∧ (∀ q ∈ mj_pT, ∃ text sa, vk_R (mj_cn q.1) q.2.2.1 text sa U) ∧ mj_Y base ext U H
theorem mj_X.moved {base : Nat} {ext : Nat → Nat} {u U : State} {H : Heap} (hW : u.WarmedH U.vm) (h : mj_X base ext u H) : mj_X base ext U H := by
  obtain ⟨h1, h2, h3, h4, h5, h6⟩ := h
  refine ⟨fun q hq => va_Nw.warmM hW (h1 q hq), fun k => va_Nw.warmC hW (h2 k), h3.moved hW.alike, h4.moved hW.alike, fun q hq => ?_, h6.moved hW⟩
  obtain ⟨tx, sa, h⟩ := h5 q hq
  exact ⟨tx, sa, h.warm hW⟩
theorem mj_X.kept {base : Nat} {ext : Nat → Nat} {U : State} {H H1 : Heap} (h : mj_X base ext U H) (hq : ∀ q : Nat, q < H.size → ¬ mj_A base q → H1[q]? = H[q]?) : mj_X base ext U H1 := by
  obtain ⟨h1, h2, h3, h4, h5, h6⟩ := h
  exact ⟨h1, h2, h3.kept hq, h4.kept hq, h5, h6.kept hq⟩
def mj_Pc (D : va_G) (ca : Nat → ClassId) (base : Nat) (ext : Nat → Nat) (as : List Value) (σ : mj_S) : Array Value → State → Prop := va_Pc (as.map (mj_cv base ext)) (fun U => mj_H D ca base σ U.heap ∧ va_K D vwCl (mj_tys ca) U ∧ mj_cas ca U ∧ mj_X base ext U U.heap)
/-- a method's contract -/
def mj_Ct (l : Launch) (D : va_G) (ca : Nat → ClassId) (base : Nat) (ext : Nat → Nat) (d mm : Nat) (as : List Value) (σ : mj_S) (Q : mj_Q) : Prop :=
  vx_Met l (mj_my mm) (mj_ws mm) (mj_rm d mm) (mj_Pc D ca base ext as σ) (mj_Qc D ca base ext Q) (mj_XC D ca base Q) (mj_mc mm) (mj_ms mm) (mj_A base)
theorem mj_Met {l : Launch} {D : va_G} {ca : Nat → ClassId} {base : Nat} {ext : Nat → Nat} {d mm : Nat} {as : List Value} {σ : mj_S} {Q : mj_Q} (h : mj_Ct l D ca base ext d mm as σ Q) (hn : ∀ k τ, ¬ Q (.inr k) τ) : Met l (mj_my mm) (mj_ws mm) (mj_rm d mm) (mj_Pc D ca base ext as σ) (mj_Qc D ca base ext Q) (mj_mc mm) (mj_ms mm) (mj_A base) := by
  intro p e ha hc hk s m args below hf happ hP hK
  obtain ⟨n, o, h1, h2, h3, h4⟩ := h p e ha hc hk s m args below hf happ hP hK
  refine ⟨n, o, h1, h2, h3, ?_⟩
  rcases h4 with h4 | ⟨q, -, E, ce, L, ⟨k, τ, -, hq, -⟩, -⟩
  · exact h4
  · exact absurd hq (hn k τ)
theorem mj_good_in {mm z : Nat} (h : mj_cw z ∈ mj_mw) : GoodIn (mj_ws mm) (mj_ws z) := by
  have g : ∀ w ∈ mj_mw, goodWord w = true := fun w hw => (List.mem_filter.mp hw).2
  intro w hw
  rcases List.mem_cons.mp hw with rfl | hw
  · exact ⟨List.mem_cons_of_mem _ h, good_of_word (g _ h)⟩
  · exact ⟨List.mem_cons_of_mem _ hw, good_of_word (g _ hw)⟩
theorem mj_cn_eq {a : Nat} {C : String} {T : u_T} {N : Nat} (fK : mj_fcK) (h : vwCl[a]? = some (C, T, N)) : mj_cn a = C := (fK a C T N h).2.1
section S
variable {p : Program} {l : Launch} {e : Env} {R : Room} {s : State} {m : MethodId} {args : Array Value} {below : List Frame} {meth : Method} {c : Code} {H : Heap} {locs : List Loc} {cells slots : Nat} {Qf : State → Prop}
variable {D : va_G} {ca : Nat → ClassId} {base : Nat} {ext : Nat → Nat} {mm : Nat}
variable {is : List mj_O} {lo : mj_Lo} {st rest : List Value} {σ τ : mj_S} {bc bs pc a b x k d : Nat} {ls : Array Slot} {Q : mj_Q}
theorem mj_blind {as : List Value} : FrameBlind (mj_Pc D ca base ext as σ) := by
  intro v U g mk q
  obtain ⟨q0, q1, q2, q3, q4⟩ := q
  exact ⟨q0, q1, va_K.moved (u := U) (U := U.calling g mk v) (Vm.Alike.refl U.vm) q2, mj_cas.moved (u := U) (U := U.calling g mk v) (State.WarmedH.refl U) q3, mj_X.moved (u := U) (U := U.calling g mk v) (State.WarmedH.refl U) q4⟩
theorem mj_pre {as : List Value} (C : mj_Cx p s m args meth c D ca base mm) (hH : mj_H D ca base σ H) (hca : mj_cas ca s) (hE : mj_X base ext s s.heap) (hS : va_S (mj_A base) s.heap H locs) : ∀ U : State, U.heap = H → s.WarmedH U.vm → mj_Pc D ca base ext as σ (as.map (mj_cv base ext)).toArray U := by
  intro U hU hW
  obtain ⟨-, -, -, -, -, hK, -⟩ := C
  refine ⟨rfl, by rw [hU]; exact hH, va_K.moved hW.alike hK, ?_, ?_⟩
  · exact mj_cas.moved hW hca
  · rw [hU]
    exact mj_X.moved hW (mj_X.kept hE hS.2.1)
/-- what comes behind a call -/
theorem mj_after {mc ms : Nat} {Q2 : mj_Q} {v0 : Array Value} {st0 : List Value} (hS : va_S (mj_A base) s.heap H locs)
    (hr : vx_Run p l e R s m args below meth c H locs cells slots mc ms (F0 m pc ls st0) rest (mj_Qc D ca base ext Q2 v0) (mj_XC D ca base Q2) (mj_A base))
    (kk : ∀ (v : Option Value) (τ : mj_S) (H1 : Heap) (locs1 : List Loc), Q2 (.inl v) τ → mj_H D ca base τ H1 → va_S (mj_A base) s.heap H1 locs1 → W p l e R s m args below meth c H1 locs1 (cells + mc) (slots + ms) Qf (F0 m (pc + 3) ls ((v.map (mj_cv base ext)).toList ++ rest)))
    (kx : ∀ (k : Nat) (τ : mj_S) (H1 : Heap) (locs1 : List Loc) (q : Addr) (ce : Cell), Q2 (.inr k) τ → mj_H D ca base τ H1 → va_S (mj_A base) s.heap H1 locs1 → H1[q]? = some ce → ce.vm = .none → s.vm.findClass (mj_xn k) = some ce.cls → vx_W p l e R s m args below meth c H1 locs1 (cells + mc) (slots + ms) Qf (F0 m pc ls rest) q) :
    W p l e R s m args below meth c H locs cells slots Qf (F0 m pc ls st0) := by
  intro T hT X
  have keep : ∀ (st₀ t : State) (L : List Loc), st₀.heap = H → va_F (mj_A base) st₀ t → (∀ q ∈ L, mj_A base q.base) → va_S (mj_A base) s.heap t.heap (locs ++ L) := by
    intro st₀ t L h0 hF hL
    obtain ⟨hz, hk⟩ := hF
    rw [h0] at hz hk
    refine ⟨Nat.le_trans hS.1 hz, fun q h1 h2 => ?_, fun q hq => ?_⟩
    · rw [hk q (Nat.lt_of_lt_of_le h1 hS.1) h2]
      exact hS.2.1 q h1 h2
    · rcases List.mem_append.mp hq with h | h
      · exact hS.2.2 q h
      · exact hL q h
  rcases hr T hT X with ⟨v, st₀, t, T', L, h0, X', hL, e1, e2, ⟨v', τ, hv, hq, hH, hF⟩, go⟩ | ⟨q, st₀, t, T', L, E, ce, h0, X', hL, e1, e2, ⟨k, τ, hE, hq, hH, hF⟩, hcell, hvm, hcl, go⟩
  · cases hv
    obtain ⟨t2, a1, b1⟩ := kk v' τ T'.heap (locs ++ L) hq (by rw [e1]; exact hH) (by rw [e1]; exact keep st₀ t L h0 hF hL) T' rfl X'
    exact ⟨t2, go t2 a1, b1⟩
  · subst hE
    obtain ⟨t2, a1, b1⟩ := kx k τ T'.heap (locs ++ L) q ce hq (by rw [e1]; exact hH) (by rw [e1]; exact keep st₀ t L h0 hF hL) (by rw [e1]; exact hcell) hvm hcl T' rfl X'
    exact ⟨t2, go.trans a1, b1⟩
theorem mj_afterM {mc ms : Nat} {Q2 : mj_Q} {v0 : Array Value} {st0 : List Value} (hS : va_S (mj_A base) s.heap H locs)
    (hr : va_Run p l e R s m args below meth c H locs cells slots mc ms (F0 m pc ls st0) rest (mj_Qc D ca base ext Q2 v0) (mj_A base))
    (kk : ∀ (v : Option Value) (τ : mj_S) (H1 : Heap) (locs1 : List Loc), Q2 (.inl v) τ → mj_H D ca base τ H1 → va_S (mj_A base) s.heap H1 locs1 → W p l e R s m args below meth c H1 locs1 (cells + mc) (slots + ms) Qf (F0 m (pc + 3) ls ((v.map (mj_cv base ext)).toList ++ rest))) :
    W p l e R s m args below meth c H locs cells slots Qf (F0 m pc ls st0) := by
  intro T hT X
  obtain ⟨v, st₀, t, T', L, h0, X', hL, e1, e2, ⟨v', τ, hv, hq, hH, hz, hk⟩, go⟩ := hr T hT X
  cases hv
  rw [h0] at hz hk
  obtain ⟨t2, a1, b1⟩ := kk v' τ T'.heap (locs ++ L) hq (by rw [e1]; exact hH) (by
    rw [e1]
    refine ⟨Nat.le_trans hS.1 hz, fun q h1 h2 => ?_, fun q hq => ?_⟩
    · rw [hk q (Nat.lt_of_lt_of_le h1 hS.1) h2]
      exact hS.2.1 q h1 h2
    · rcases List.mem_append.mp hq with h | h
      · exact hS.2.2 q h
      · exact hL q h) T' rfl X'
  exact ⟨t2, go t2 a1, b1⟩
theorem mj_map_rev (f : Value → Value) (As rest : List Value) : (As.reverse ++ rest).map f = (As.map f).reverse ++ rest.map f := by
  rw [List.map_append, List.map_reverse]
theorem mj_s47 (C : mj_Cx p s m args meth c D ca base mm) (hw : ∀ w ∈ mj_ws mm, w.before args s = true) (fM : mj_fcM) (fQ : mj_fcQ) (fS : mj_fcS) (fK : mj_fcK) (hca : mj_cas ca s) (hE : mj_X base ext s s.heap) (hH : mj_H D ca base σ H) (hS : va_S (mj_A base) s.heap H locs) (hlr : mj_LR (mj_cv base ext) lo ls (mj_ml mm)) (ck : mj_ckop mm pc 47 a b x is = true) {As : List Value} {Q2 : mj_Q}
    (hct : mj_Ct l D ca base ext d a (.ref k :: As) σ Q2) (hAs : As.length = mj_mn a) (hs : mj_sh k = 10 + mj_mo a) (hk : k < σ.1) (hcs : mj_cs rest ≤ 8) (hc1 : cells + mj_mc a ≤ R.cells) (hs1 : slots + mj_ms a ≤ R.slots) (hR1 : d + 9 ≤ R.frames) (hR2 : 100 * d + 300 ≤ R.locals)
    (kk : ∀ (v : Option Value) (τ : mj_S) (H1 : Heap) (locs1 : List Loc), Q2 (.inl v) τ → mj_H D ca base τ H1 → va_S (mj_A base) s.heap H1 locs1 → W p l e R s m args below meth c H1 locs1 (cells + mj_mc a) (slots + mj_ms a) Qf (F0 m (mj_pc is) ls ((v.toList ++ rest).map (mj_cv base ext))))
    (kx : ∀ (k : Nat) (τ : mj_S) (H1 : Heap) (locs1 : List Loc) (q : Addr) (ce : Cell), Q2 (.inr k) τ → mj_H D ca base τ H1 → va_S (mj_A base) s.heap H1 locs1 → H1[q]? = some ce → ce.vm = .none → s.vm.findClass (mj_xn k) = some ce.cls → vx_W p l e R s m args below meth c H1 locs1 (cells + mj_mc a) (slots + mj_ms a) Qf (F0 m pc ls (rest.map (mj_cv base ext))) q) :
    W p l e R s m args below meth c H locs cells slots Qf (F0 m pc ls ((As.reverse ++ .ref k :: rest).map (mj_cv base ext))) := by
  have C0 := C
  obtain ⟨hx, hb, hml, hown, hts, hK, -⟩ := C
  simp only [mj_ckop, Bool.and_eq_true, List.contains_iff_mem] at ck
  obtain ⟨⟨⟨hm, ck⟩, hkd⟩, -⟩ := ck
  obtain ⟨k1, k2⟩ := mj_df_ok ck
  rw [k2] at kk
  obtain ⟨-, hcode, hcl, hmh, hvh, hdesc, hini, hml9, h0, -, -, -, -, hhe⟩ := fQ _ hkd
  have hhe : mj_hh a = [] := hhe (fun z => by cases z)
  obtain ⟨hinst, hsel, ho13⟩ := h0 rfl
  have hml8 : mj_ml a ≤ 60 := hml9
  obtain ⟨Cn, T, hc⟩ := fS k _ hs
  have hG := mj_good_in (mm := mm) hcode
  rw [mj_map_rev]
  refine mj_after (rest := rest.map (mj_cv base ext)) (v0 := (.ref (base + k) :: As.map (mj_cv base ext)).toArray) (mc := mj_mc a) (ms := mj_ms a) hS (vx_runV (own := mj_cn (mj_mo mm)) (C := (mj_my a).cls) (Ts := mj_ws mm) (nL := mj_ml mm) (As := As.map (mj_cv base ext)) (b := base + k) (n := mj_mn a) ⟨hx, hb, hml, hown, hw⟩ hct ⟨callB_of (ws' := mj_mw) (mj_mn a) hw hG (mj_ws_c hhe) rfl rfl (hts _ hini) (hts _ (fM _ hm)) ⟨hmh, hvh, hdesc⟩ ⟨by show d + 8 + 1 ≤ _; omega, by show 8 + (mj_ml a + 11) + (100 * d + 200) ≤ _; omega⟩, hts _ hinst, hts _ hsel⟩ ⟨mj_blind, ?_, mj_pre C0 hH hca hE hS⟩ rfl (by rw [List.length_map]; exact hAs) hlr.2.1 rfl (by show 2 * 0 + _ ≤ 8; rw [mj_cv_cs]; omega) k1 ⟨hc1, hs1⟩) (fun v τ H1 locs1 g1 g2 g3 => ?_) kx
  · obtain ⟨cell, c1, c2, c3⟩ := va_recv (q0 := k) hK hH.1 hc (by rw [mj_wd_get hk, mj_ce_o hs])
    refine ⟨cell, c1, c2, ?_⟩
    rw [hcl]
    rw [mj_cn_eq fK hc]
    exact c3
  · have h9 := kk v τ H1 locs1 g1 g2 g3
    rw [List.map_append] at h9
    cases v <;> exact h9
theorem mj_s48 (C : mj_Cx p s m args meth c D ca base mm) (hw : ∀ w ∈ mj_ws mm, w.before args s = true) (fM : mj_fcM) (fQ : mj_fcQ) (hca : mj_cas ca s) (hE : mj_X base ext s s.heap) (hH : mj_H D ca base σ H) (hS : va_S (mj_A base) s.heap H locs) (hlr : mj_LR (mj_cv base ext) lo ls (mj_ml mm)) (ck : mj_ckop mm pc 48 a b x is = true) {As : List Value} {Q2 : mj_Q}
    (hct : mj_Ct l D ca base ext d a As σ Q2) (hAs : As.length = mj_mn a) (hcs : mj_cs rest ≤ 8) (hc1 : cells + mj_mc a ≤ R.cells) (hs1 : slots + mj_ms a ≤ R.slots) (hR1 : d + 9 ≤ R.frames) (hR2 : 100 * d + 300 ≤ R.locals)
    (kk : ∀ (v : Option Value) (τ : mj_S) (H1 : Heap) (locs1 : List Loc), Q2 (.inl v) τ → mj_H D ca base τ H1 → va_S (mj_A base) s.heap H1 locs1 → W p l e R s m args below meth c H1 locs1 (cells + mj_mc a) (slots + mj_ms a) Qf (F0 m (mj_pc is) ls ((v.toList ++ rest).map (mj_cv base ext))))
    (kx : ∀ (k : Nat) (τ : mj_S) (H1 : Heap) (locs1 : List Loc) (q : Addr) (ce : Cell), Q2 (.inr k) τ → mj_H D ca base τ H1 → va_S (mj_A base) s.heap H1 locs1 → H1[q]? = some ce → ce.vm = .none → s.vm.findClass (mj_xn k) = some ce.cls → vx_W p l e R s m args below meth c H1 locs1 (cells + mj_mc a) (slots + mj_ms a) Qf (F0 m pc ls (rest.map (mj_cv base ext))) q) :
    W p l e R s m args below meth c H locs cells slots Qf (F0 m pc ls ((As.reverse ++ rest).map (mj_cv base ext))) := by
  have C0 := C
  obtain ⟨hx, hb, hml, hown, hts, hK, -⟩ := C
  simp only [mj_ckop, Bool.and_eq_true, List.contains_iff_mem] at ck
  obtain ⟨⟨⟨hm, ck⟩, hkd⟩, -⟩ := ck
  obtain ⟨k1, k2⟩ := mj_df_ok ck
  rw [k2] at kk
  obtain ⟨-, hcode, hcl, hmh, hvh, hdesc, hini, hml9, -, h0, -, -, -, hhe⟩ := fQ _ hkd
  have hhe : mj_hh a = [] := hhe (fun z => by cases z)
  have hsta := h0 rfl
  have hml8 : mj_ml a ≤ 60 := hml9
  have hG := mj_good_in (mm := mm) hcode
  rw [mj_map_rev]
  refine mj_after (rest := rest.map (mj_cv base ext)) (v0 := (As.map (mj_cv base ext)).toArray) (mc := mj_mc a) (ms := mj_ms a) hS (vx_runS (own := mj_cn (mj_mo mm)) (Ts := mj_ws mm) (nL := mj_ml mm) (As := As.map (mj_cv base ext)) (n := mj_mn a) ⟨hx, hb, hml, hown, hw⟩ hct ⟨callB_of (ws' := mj_mw) (mj_mn a) hw hG (mj_ws_c hhe) rfl rfl (hts _ hini) (hts _ (fM _ hm)) ⟨hmh, hvh, hdesc⟩ ⟨by show d + 8 + 1 ≤ _; omega, by show 8 + (mj_ml a + 11) + (100 * d + 200) ≤ _; omega⟩, hts _ hsta⟩ ⟨mj_blind, mj_pre C0 hH hca hE hS⟩ rfl (by rw [List.length_map]; exact hAs) hlr.2.1 rfl (by show 2 * 0 + _ ≤ 8; rw [mj_cv_cs]; omega) k1 ⟨hc1, hs1⟩) (fun v τ H1 locs1 g1 g2 g3 => ?_) kx
  have h9 := kk v τ H1 locs1 g1 g2 g3
  rw [List.map_append] at h9
  cases v <;> exact h9
theorem mj_s49 (C : mj_Cx p s m args meth c D ca base mm) (hw : ∀ w ∈ mj_ws mm, w.before args s = true) (fM : mj_fcM) (fQ : mj_fcQ) (hca : mj_cas ca s) (hE : mj_X base ext s s.heap) (hH : mj_H D ca base σ H) (hS : va_S (mj_A base) s.heap H locs) (hlr : mj_LR (mj_cv base ext) lo ls (mj_ml mm)) (ck : mj_ckop mm pc 49 a b x is = true) {As : List Value} {Q2 : mj_Q}
    (hct : mj_Ct l D ca base ext d a (.ref k :: As) σ Q2) (hno : ∀ k τ, ¬ Q2 (.inr k) τ) (hAs : As.length = mj_mn a) (hcs : mj_cs rest ≤ 8) (hc1 : cells + mj_mc a ≤ R.cells) (hs1 : slots + mj_ms a ≤ R.slots) (hR1 : d + 9 ≤ R.frames) (hR2 : 100 * d + 300 ≤ R.locals)
    (kk : ∀ (v : Option Value) (τ : mj_S) (H1 : Heap) (locs1 : List Loc), Q2 (.inl v) τ → mj_H D ca base τ H1 → va_S (mj_A base) s.heap H1 locs1 → W p l e R s m args below meth c H1 locs1 (cells + mj_mc a) (slots + mj_ms a) Qf (F0 m (mj_pc is) ls ((v.toList ++ rest).map (mj_cv base ext)))) :
    W p l e R s m args below meth c H locs cells slots Qf (F0 m pc ls ((As.reverse ++ .ref k :: rest).map (mj_cv base ext))) := by
  have C0 := C
  obtain ⟨hx, hb, hml, hown, hts, hK, -⟩ := C
  simp only [mj_ckop, Bool.and_eq_true, List.contains_iff_mem] at ck
  obtain ⟨⟨hm, ck⟩, hkd⟩ := ck
  obtain ⟨k1, k2⟩ := mj_df_ok ck
  rw [k2] at kk
  obtain ⟨-, hcode, hcl, hmh, hvh, hdesc, hini, hml9, -, -, h0, -, -, hhe⟩ := fQ _ hkd
  have hhe : mj_hh a = [] := hhe (fun z => by cases z)
  obtain ⟨hinst, hname, hret⟩ := h0 rfl
  have hml8 : mj_ml a ≤ 60 := hml9
  have hG := mj_good_in (mm := mm) hcode
  have hret : mj_mr a = none := hret
  rw [mj_map_rev]
  refine mj_afterM (rest := rest.map (mj_cv base ext)) (v0 := (.ref (base + k) :: As.map (mj_cv base ext)).toArray) (mc := mj_mc a) (ms := mj_ms a) hS (va_runI (bytes := mj_mb a) (maxL := mj_ml a) (own := mj_cn (mj_mo mm)) (Ts := mj_ws mm) (nL := mj_ml mm) (As := As.map (mj_cv base ext)) (b := base + k) (n := mj_mn a) ⟨hx, hb, hml, hown, hw⟩ (mj_Met hct hno) ⟨callB_of (ws' := mj_mw) (mj_mn a) hw hG (by rw [mj_ws_c hhe, hret]) rfl rfl (hts _ hini) (hts _ (fM _ hm)) ⟨hmh, hvh, hdesc⟩ ⟨by show d + 8 + 1 ≤ _; omega, by show 8 + (mj_ml a + 11) + (100 * d + 200) ≤ _; omega⟩, hname, hts _ hinst⟩ ⟨mj_blind, mj_pre (as := .ref k :: As) C0 hH hca hE hS⟩ rfl (by rw [List.length_map]; exact hAs) hlr.2.1 rfl (by show 2 * 0 + _ ≤ 8; rw [mj_cv_cs]; omega) k1 ⟨hc1, hs1⟩) (fun v τ H1 locs1 g1 g2 g3 => ?_)
  have h9 := kk v τ H1 locs1 g1 g2 g3
  rw [List.map_append] at h9
  cases v <;> exact h9
theorem mj_s50 (C : mj_Cx p s m args meth c D ca base mm) (hw : ∀ w ∈ mj_ws mm, w.before args s = true) (fQ : mj_fcQ) (hca : mj_cas ca s) (hE : mj_X base ext s s.heap) (hH : mj_H D ca base σ H) (hS : va_S (mj_A base) s.heap H locs) (hlr : mj_LR (mj_cv base ext) lo ls (mj_ml mm)) (ck : mj_ckop mm pc 50 a b x is = true) {As : List Value} {Q2 : mj_Q}
    (hct : mj_Ct l D ca base ext d a As σ Q2) (hno : ∀ k τ, ¬ Q2 (.inr k) τ) (hAs : As.length = mj_mn a) (hcs : mj_cs rest ≤ 8) (hc1 : cells + mj_mc a ≤ R.cells) (hs1 : slots + mj_ms a ≤ R.slots) (hR1 : d + 9 ≤ R.frames) (hR2 : 100 * d + 300 ≤ R.locals)
    (kk : ∀ (v : Option Value) (τ : mj_S) (H1 : Heap) (locs1 : List Loc), Q2 (.inl v) τ → mj_H D ca base τ H1 → va_S (mj_A base) s.heap H1 locs1 → W p l e R s m args below meth c H1 locs1 (cells + mj_mc a) (slots + mj_ms a) Qf (F0 m (mj_pc is) ls ((v.toList ++ rest).map (mj_cv base ext)))) :
    W p l e R s m args below meth c H locs cells slots Qf (F0 m pc ls ((As.reverse ++ rest).map (mj_cv base ext))) := by
  have C0 := C
  obtain ⟨hx, hb, hml, hown, hts, hK, -⟩ := C
  simp only [mj_ckop, Bool.and_eq_true, List.contains_iff_mem] at ck
  obtain ⟨⟨hm, ck⟩, hkd⟩ := ck
  obtain ⟨k1, k2⟩ := mj_df_ok ck
  rw [k2] at kk
  obtain ⟨-, hcode, hcl, hmh, hvh, hdesc, hini, hml9, -, h0, -, -, -, hhe⟩ := fQ _ hkd
  have hhe : mj_hh a = [] := hhe (fun z => by cases z)
  have hsta := h0 rfl
  have hml8 : mj_ml a ≤ 60 := hml9
  have hG := mj_good_in (mm := mm) hcode
  have hN : va_Nw (.methodLinkNest (mj_cn (mj_mo mm)) x (mj_my a) "SockFair") s := hE.1 (mj_mo mm, a, x) hm
  have hcn : va_CN R s args (mj_cn (mj_mo mm)) x (mj_my a) "SockFair" (mj_mb a) (mj_ml a) (mj_mr a) (mj_ws a) (mj_rm d a) (mj_mc a) (mj_ms a) (mj_mn a) := va_cnB (ws' := mj_mw) (mj_mn a) hw hG (mj_ws_c hhe) rfl rfl hN (hts _ hini) ⟨hmh, hvh, hdesc⟩ ⟨by show d + 8 + 1 ≤ _; omega, by show 8 + (mj_ml a + 11) + (100 * d + 200) ≤ _; omega⟩
  have hMt := mj_Met hct hno
  have hsz : ls.size = mj_ml mm := hlr.2.1
  have hstk : (As.map (mj_cv base ext)).length = mj_mn a := by rw [List.length_map]; exact hAs
  have hroom : 2 * (F0 m pc ls ((As.map (mj_cv base ext)).reverse ++ rest.map (mj_cv base ext))).monitorRoom + ((rest.map (mj_cv base ext)).map fun v => v.category).sum ≤ 8 := by show 2 * 0 + _ ≤ 8; rw [mj_cv_cs]; omega
  have hrun := va_runSN (p := p) (l := l) (e := e) (below := below) (meth := meth) (H := H) (locs := locs) (cells := cells) (slots := slots) (g := F0 m pc ls ((As.map (mj_cv base ext)).reverse ++ rest.map (mj_cv base ext))) (rest := rest.map (mj_cv base ext)) (As := As.map (mj_cv base ext)) (Ts := mj_ws mm) (nL := mj_ml mm) (cc := mj_mb mm) ⟨hx, hb, hml, hown, hw⟩ hMt ⟨hcn, hts _ hsta, trivial⟩ ⟨mj_blind, mj_pre C0 hH hca hE hS⟩ rfl hstk hsz rfl hroom k1 ⟨hc1, hs1⟩
  rw [mj_map_rev]
  refine mj_afterM (rest := rest.map (mj_cv base ext)) (v0 := (As.map (mj_cv base ext)).toArray) (mc := mj_mc a) (ms := mj_ms a) hS hrun (fun v τ H1 locs1 g1 g2 g3 => ?_)
  have h9 := kk v τ H1 locs1 g1 g2 g3
  rw [List.map_append] at h9
  cases v <;> exact h9
end S
end
section
/-! a throw whose class's first constructor calls its super class by a pool entry that isn't 7 (the JDK's NoSuchElementException: 13); by the library's ctorMessageOffV -/
/-- the words behind the chain in the library's list -/
def mj_tl (own : String) (ic : Nat) (X : String) : List Cond := (Bundle.ownAtoms own ic X []).drop (Bundle.throwableAtoms.length + Bundle.throwableSAtoms.length + 5)
def mj_oA (own : String) (ic : Nat) (X : String) (ix : Nat) (rx : ByteArray) (Y : String) (r : List String) : List Cond := Bundle.throwableAtoms ++ (Bundle.throwableSAtoms ++ (Bundle.passSAtoms X Y ix rx ++ (Bundle.chainSAtoms Y r ++ mj_tl own ic X)))
def mj_xS (own : String) (ic : Nat) (X : String) (ix : Nat) (rx : ByteArray) (Y : String) (r : List String) : List Cond := (mj_oA own ic X ix rx Y r).filter vx_no
section T
variable {p : Program} {l : Launch} {e : Env} {R : Room} {s : State} {m : MethodId} {args : Array Value} {below : List Frame} {meth : Method} {c : Code} {locs : List Loc} {cells slots : Nat}
set_option maxHeartbeats 1000000 in
theorem mj_ctorX {V : State} (X : Stand p l e R s m args below meth c V locs cells slots) (hexec : p.tables.exec = Jvm.exec) (htr : e.platform.stackTraces = false) {own cls Y : String} {r : List String} {ic ix : Nat} {rx : ByteArray}
    (hown : s.vm.findClass own = some m.cls) (hcls : Bundle.fit cls = true) (hY : Bundle.fit Y = true) (hr : ∀ n ∈ r, Bundle.fit n = true)
    (r0 : decode rx 0 = .ok (.aload_n 0, 1)) (r1 : decode rx 1 = .ok (.aload_n 1, 1)) (r2 : decode rx 2 = .ok (.invokespecial ix, 3)) (r5 : decode rx 5 = .ok (.return_, 1))
    (h : ∀ a ∈ mj_oA own ic cls ix rx Y r, a.before args s = true)
    (hlocs : ∀ x ∈ locs, ∀ cell, s.heap[x.base]? = some cell → cell.vm.isStatics = false)
    {a : Addr} {cX : ClassId} {kX : Class} (hfoundX : s.vm.findClass cls = some cX) (hkX : s.vm.classes[cX]? = some kX) (hcell : V.heap[a]? = some (freshCell cX kX)) (hnew : s.heap.size ≤ a)
    {msg : Value} (hmsg : msg.isRef = true)
    {g : JFrame} (hg : g.method = m) (hsize : g.locals.size = c.maxLocals) (hlocked : g.locked = none) (hentered : g.entered = []) {rest : List Value} (hstack : g.stack = msg :: .ref a :: .ref a :: rest)
    (hd6 : decode c.code g.pc = .ok (.invokespecial ic, 3)) (hd9 : decode c.code (g.pc + 3) = .ok (.athrow, 1)) (hout : ∀ x ∈ c.exceptionTable.toList, covers x (g.pc + 3) = false)
    (hRframes : r.length + 4 < R.frames) (hRlocals : 2 * g.monitorRoom + ((Value.ref a :: rest).map fun v => v.category).sum + (13 * (r.length + 2) + 42) ≤ R.locals) (hlocks : meth.locks = false) :
    ∃ U : State, Steps p.tables e below (V.setTop g) U ∧ U.status = .running ∧ Ended U below (.threw a) ∧ s.WarmedH U.vm ∧ s.sameButNew ({ U with vm := s.vm } : State) locs cells slots ∧
      ∃ ce, U.heap[a]? = some ce ∧ ce.vm = .none ∧ s.vm.findClass cls = some ce.cls := by
  have howns : e.platform.frameOwnsMonitors = true := by rw [X.admits.platform]
  have hfin : e.platform.finalization = false := by rw [X.admits.platform]
  have hpl : e.platform.magicAccessors = ({} : Platform).magicAccessors := by rw [X.admits.platform]
  have hA : ∀ w ∈ Bundle.throwableAtoms, w.before args s = true := fun w hw => h w (List.mem_append_left _ hw)
  have hB : ∀ w ∈ Bundle.throwableSAtoms, w.before args s = true := fun w hw => h w (List.mem_append_right _ (List.mem_append_left _ hw))
  have hC : ∀ w ∈ Bundle.passSAtoms cls Y ix rx, w.before args s = true := fun w hw => h w (List.mem_append_right _ (List.mem_append_right _ (List.mem_append_left _ hw)))
  have hD : ∀ w ∈ Bundle.chainSAtoms Y r, w.before args s = true := fun w hw => h w (List.mem_append_right _ (List.mem_append_right _ (List.mem_append_right _ (List.mem_append_left _ hw))))
  have hE : ∀ w ∈ mj_tl own ic cls, w.before args s = true := fun w hw => h w (List.mem_append_right _ (List.mem_append_right _ (List.mem_append_right _ (List.mem_append_right _ hw))))
  have hE' : ∀ (k : Nat) (w : Cond), (mj_tl own ic cls)[k]? = some w → w.holds args s none s [] = true := fun k w hk => hE w (List.mem_of_getElem? hk)
  obtain ⟨T, Z0, L, -, TY⟩ := ThrowableC.of_atoms (args := args) howns hfin hpl hA
  obtain ⟨Z, M, LZ, LM, hnZ⟩ := Init0T.ofS_atoms (args := args) hpl L TY hB
  obtain ⟨P, LP, hPm, hPs⟩ := PassC.ofS_atoms (args := args) hpl (X := cls) (Y := Y) (Bundle.fit_spec hcls).1 (Bundle.fit_spec hY).2 r0 r1 r2 r5 hC
  obtain ⟨P1, Ps, hlen, L1, hL, hP1m, hlink1, hlink⟩ := Bundle.chainS (args := args) hpl hnZ r Y hY hr hD
  have hsup : P.sup = P1.m := Option.some.inj (hPs.symm.trans hP1m)
  have hfound : s.vm.findClass cls = some P.m.cls := findClass_of_methodNamed hPm
  cases Option.some.inj (hfoundX.symm.trans hfound)
  obtain ⟨c1, kX', hc1, hk, hord, -, -, hn6⟩ := Cond.instantiable_spec (hE' 1 (.instantiable cls 6) rfl)
  cases Option.some.inj (hc1.symm.trans hfound)
  cases Option.some.inj (hkX.symm.trans hk)
  have hsel0 : selectMethod e.platform s.vm P.m.cls T.fill0 = .method T.fill0 := by
    obtain ⟨c2, r2, m2, q1, q2, q3, q4, -⟩ := Cond.selects_spec (hE' 3 (.selects cls Bundle.tFill0 Bundle.tFill0) rfl)
    cases Option.some.inj (q1.symm.trans hfound)
    cases Option.some.inj (q2.symm.trans (State.methodFound?_of_named TY.fill0 (by decide)))
    cases Option.some.inj (q3.symm.trans TY.fill0)
    rw [Launch.admits_selectMethod X.admits]; exact q4
  have hselF : selectMethod e.platform s.vm P.m.cls T.fill = .method T.fill := by
    obtain ⟨c2, r2, m2, q1, q2, q3, q4, -⟩ := Cond.selects_spec (hE' 4 (.selects cls Bundle.tFill Bundle.tFill) rfl)
    cases Option.some.inj (q1.symm.trans hfound)
    cases Option.some.inj (q2.symm.trans (State.methodFound?_of_named TY.fill (by decide)))
    cases Option.some.inj (q3.symm.trans TY.fill)
    rw [Launch.admits_selectMethod X.admits]; exact q4
  obtain ⟨cellS0, hcS0, hiss⟩ := TY.statics
  obtain ⟨u0, hu0⟩ := Cond.staticRefV TY.unassigned L.unassignedStatic L.statics hcS0 hiss (hE' 9 (.isRef (.static Bundle.tN "UNASSIGNED_STACK" Bundle.steD)) rfl)
  obtain ⟨sen, hsen⟩ := Cond.staticRefV TY.sentinel L.sentinelStatic L.statics hcS0 hiss (hE' 10 (.isRef (.static Bundle.tN "SUPPRESSED_SENTINEL" Bundle.listD)) rfl)
  obtain ⟨ci198, i198, fB, hk198, hg198, ha198, hsB, -, hnB, htB, hffB⟩ := Cond.ownField (t := .object "java/lang/Object") TY.found L.cls (by decide +kernel) (hE' 11 (.fieldLink Bundle.tN 198 Bundle.tN "backtrace" "Ljava/lang/Object;") rfl) (hE' 12 (.lays Bundle.tN Bundle.tN "backtrace" "Ljava/lang/Object;") rfl) e.platform hpl
  obtain ⟨cellS, hcS', heS, -, hkeep⟩ := X.same.2.2.2.2.2 T.aS cellS0 hcS0
  have hcellS : V.heap[T.aS]? = some cellS := hcS'
  have hout' : ∀ i, (⟨T.aS, i⟩ : Loc) ∉ locs := fun i hmem => by
    have := hlocs _ hmem cellS0 hcS0
    rw [hiss] at this; cases this
  have hknownS : cellS.vm ≠ .unknown := by
    rw [heS]; intro hu
    rw [show cellS0.vm = .unknown from hu] at hiss
    cases hiss
  have hneS : T.aS ≠ a := Nat.ne_of_lt (Nat.lt_of_lt_of_le (Array.getElem?_eq_some_iff.mp hcS0).1 hnew)
  obtain ⟨iM, hffM⟩ := TY.msg
  obtain ⟨tyC, dC, hdC, hdnC⟩ := Cond.laysAt hfound hk TY.cause (hE' 5 (.lays cls Bundle.tN "cause" "Ljava/lang/Throwable;") rfl)
  obtain ⟨tyS, dS, hdS, hdnS⟩ := Cond.laysAt hfound hk TY.stack (hE' 6 (.lays cls Bundle.tN "stackTrace" Bundle.steD) rfl)
  obtain ⟨tyP, dP, hdP, hdnP⟩ := Cond.laysAt hfound hk TY.supp (hE' 7 (.lays cls Bundle.tN "suppressedExceptions" Bundle.listD) rfl)
  obtain ⟨tyM, dM, hdM, hdnM⟩ := Cond.laysAt hfound hk hffM (hE' 8 (.lays cls Bundle.tN "detailMessage" "Ljava/lang/String;") rfl)
  obtain ⟨tyB, dB, hdB, hdnB⟩ := Cond.laysAt hfound hk hffB (hE' 13 (.lays cls Bundle.tN "backtrace" "Ljava/lang/Object;") rfl)
  have bC := Cond.laysApart hdB hdC hdnB hdnC (by rw [hnB, TY.causeName]; decide)
  have bS := Cond.laysApart hdB hdS hdnB hdnS (by rw [hnB, TY.stackName]; decide)
  have bP := Cond.laysApart hdB hdP hdnB hdnP (by rw [hnB, TY.suppName]; decide)
  have hskip : SkipFacts T e.platform s (fun u => u) u0 ((preparedCellV T.toThrowableT (freshCell P.m.cls kX) a u0 sen).withEntry V.cur) :=
    ⟨{ ci198 := ci198, i198 := i198, fBack := fB }, ⟨hk198, hg198, ha198, hsB⟩, by
      have := fresh_default (c := P.m.cls) tyB
      rw [htB] at this
      simpa [preparedCellV, Cell.setSlot, Cell.withEntry, Array.getElem?_setIfInBounds, bC, bS, bP, bC.symm, bS.symm, bP.symm, defaultValue] using this, fun _ _ => rfl⟩
  obtain ⟨tm, methC, cdC, kC, vm₁, hnC, -, -, -, -, -, -, -, hW₁, st1⟩ := Steps.initColdS (tb := p.tables) (e := e) (below := below) (s := s) (U := V) X.here hexec X.warmed hpl hown (t := Bundle.initS cls) rfl rfl (Bundle.fit_spec hcls).2
    (hE' 0 (.methodLink own ic (Bundle.initS cls)) rfl) (hC (.instanceMethod (Bundle.initS cls)) (by simp [Bundle.passSAtoms])) (bytes := rx) (maxL := 2) (hC (.code (Bundle.initS cls) rx 2 none) (by simp [Bundle.passSAtoms]))
    (f := g) hg (a := a) (msg := msg) (rest := .ref a :: rest) hstack hd6
  cases Option.some.inj (hnC.symm.trans hPm)
  have X₁ := X.noted hW₁
  obtain ⟨vm₂, X₂, st2⟩ := X₁.ctorMessageOffV hexec (g := { g with stack := .ref a :: rest }) hg hsize T L Z LZ M LM (P :: P1 :: Ps)
    (fun P' hP => by
      rcases List.mem_cons.mp hP with rfl | hP
      · exact LP
      · rcases List.mem_cons.mp hP with rfl | hP
        · exact L1
        · exact hL P' hP) ⟨hsup, hlink1, hlink⟩ (u0 := u0) (sen := sen) (self := a) hmsg (cell := freshCell P.m.cls kX) (cellS := cellS)
    hcell (fun _ => by simp) (by simp) rfl rfl hsel0 hselF hcellS hneS hknownS (by rw [hkeep _ (hout' _)]; exact hu0) (by rw [hkeep _ (hout' _)]; exact hsen)
    (Takes.of_laid hk hord tyC (by rw [TY.causeType]; rfl)) (Takes.of_laid hk hord tyS (by rw [TY.stackType]; exact fits_refV_array _ u0)) (Takes.of_laid hk hord tyP (by rw [TY.suppType]; exact fits_refV_object _ sen))
    (Takes.of_laid hk hord tyM (by rw [TY.msgType]; exact fits_refV_object _ ⟨msg, hmsg⟩)) TY.objLocals hskip htr [] hd6
    (by simp only [List.length_cons, hlen]; omega) (by simp only [List.length_cons, hlen]; exact hRlocals)
  obtain ⟨hwalk, hrun, hended, hWU, hsame⟩ := X₂.athrowLeaves hexec (g := { g with stack := .ref a :: rest, pc := g.pc + 3 }) hg hlocked hentered hout (a := a) (rest := rest) rfl hd9
  have hlt : a < ((V.setVm vm₁).setVm vm₂).heap.size := (Array.getElem?_eq_some_iff.mp hcell).1
  have hU := heapAt_setCell_self (s := (V.setVm vm₁).setVm vm₂) (plainBareV T.toThrowableT (freshCell P.m.cls kX) a u0 sen msg) hlt
  refine ⟨_, st1 _ (fun acts => ?_), hrun, hended, hWU, hsame.weaken (fun y hy hlt' => ?_) (Nat.le_refl _) (Nat.le_refl _), _, hU, rfl, hfound⟩
  · rw [doInvoke_state]
    exact st2 _ hwalk
  · rcases List.mem_append.mp hy with h1 | h1
    · exact h1
    · exfalso
      have hb : y.base = a := by
        simp only [List.mem_cons, List.not_mem_nil, or_false] at h1
        rcases h1 with rfl | rfl | rfl | rfl | rfl <;> rfl
      rw [hb] at hlt'
      exact Nat.not_lt.mpr hnew hlt'
variable {H : Heap} {ls : Array Slot} {rest : List Value} {Qc : Array Value → State → Outcome → State → Prop} {XC : String → State → State → Prop} {free : Addr → Prop}
theorem mj_throwX {cc : ByteArray} {pc : Nat} (hexec : p.tables.exec = Jvm.exec) (hb : c.code = cc) (hl : l.stackTraces = false) {own cls text Y : String} {r : List String} {ik is ic ix mc ms sa k6 : Nat} {rx : ByteArray} {A : Nat → Prop}
    (hown : s.vm.findClass own = some m.cls) (hcls : Bundle.fit cls = true) (hY : Bundle.fit Y = true) (hr : ∀ n ∈ r, Bundle.fit n = true)
    (r0 : decode rx 0 = .ok (.aload_n 0, 1)) (r1 : decode rx 1 = .ok (.aload_n 1, 1)) (r2 : decode rx 2 = .ok (.invokespecial ix, 3)) (r5 : decode rx 5 = .ok (.return_, 1))
    (hk : (Cond.classLink own ik cls).before args s = true) (hini : (Cond.initialized cls).before args s = true) (hstr : vk_R own is text sa s) (hat : ∀ w ∈ mj_xS own ic cls ix rx Y r, w.before args s = true)
    (hgood : ∀ w ∈ Cond.classLink own ik cls :: Cond.initialized cls :: mj_xS own ic cls ix rx Y r, vx_ot w = true)
    (hU : vx_Zq Bundle.tN "UNASSIGNED_STACK" Bundle.steD A s s.heap) (hN : vx_Zq Bundle.tN "SUPPRESSED_SENTINEL" Bundle.listD A s s.heap) (hS : va_S A s.heap H locs) (hsize : ls.size = c.maxLocals)
    (d0 : decode cc pc = .ok (.new ik, 3)) (d3 : decode cc (pc + 3) = .ok (.dup, 1)) (d4 : (decode cc (pc + 4) = .ok (.ldc is, 2) ∧ k6 = pc + 6) ∨ (decode cc (pc + 4) = .ok (.ldc_w is, 3) ∧ k6 = pc + 7)) (d6 : decode cc k6 = .ok (.invokespecial ic, 3)) (d9 : decode cc (k6 + 3) = .ok (.athrow, 1))
    (hout : ∀ x ∈ c.exceptionTable.toList, covers x (k6 + 3) = false)
    (hRframes : r.length + 4 < R.frames) (hRlocals : (rest.map fun v => v.category).sum + (13 * (r.length + 2) + 43) ≤ R.locals) (hRcells : cells + 1 ≤ R.cells) (hRslots : slots + 6 ≤ R.slots) (hlocks : meth.locks = false)
    (hx : ∀ t : State, s.vm.Alike t.vm → H.size ≤ t.heap.size → (∀ q : Nat, q < H.size → t.heap[q]? = H[q]?) → XC cls s t)
    (hf : ∀ z ∈ locs, free z.base) (hc : cells + 1 ≤ mc) (hs : slots + 6 ≤ ms) :
    W p l e R s m args below meth c H locs cells slots (vx_MQ below Qc XC args s mc ms free) (F0 m pc ls rest) := by
  intro T hT X
  have htr : e.platform.stackTraces = false := (show e.platform.stackTraces = l.stackTraces by rw [X.admits.platform]).trans hl
  have Y0 := vx_rebase X (R' := { frames := R.frames, locals := R.locals, cells := 1, slots := 6 }) (Nat.le_refl _) (Nat.le_refl _) hRcells hRslots
  obtain ⟨s', hA⟩ : ∃ z, z = (T.setVm s.vm).setFrames (.invoking m args :: below) := ⟨_, rfl⟩
  rw [← hA] at Y0
  have hvm : s'.vm = s.vm := by rw [hA]; rfl
  have hhp : s'.heap = H := by rw [hA]; exact hT
  have hW0 : s.WarmedH s'.vm := by rw [hvm]; exact State.WarmedH.refl s
  have hat' : ∀ w ∈ mj_xS own ic cls ix rx Y r, w.before args s' = true := fun w hw => vx_ot_at hW0 hvm.symm (hgood w (List.mem_cons_of_mem _ (List.mem_cons_of_mem _ hw))) (hat w hw)
  have hk' : (Cond.classLink own ik cls).before args s' = true := vx_ot_at hW0 hvm.symm (hgood _ List.mem_cons_self) hk
  have hini' : (Cond.initialized cls).before args s' = true := vx_ot_at hW0 hvm.symm (hgood _ (List.mem_cons_of_mem _ List.mem_cons_self)) hini
  have hU' : vx_Zq Bundle.tN "UNASSIGNED_STACK" Bundle.steD A s' s'.heap := by rw [hhp]; exact vx_Zq.moved hW0.alike (hU.kept hS.2.1)
  have hN' : vx_Zq Bundle.tN "SUPPRESSED_SENTINEL" Bundle.listD A s' s'.heap := by rw [hhp]; exact vx_Zq.moved hW0.alike (hN.kept hS.2.1)
  have h : ∀ w ∈ mj_oA own ic cls ix rx Y r, w.before args s' = true := vx_own hat' (vx_isRefq hU'.1) (vx_isRefq hN'.1) hU'.2.word hN'.2.word
  have hown' : s'.vm.findClass own = some m.cls := by rw [hvm]; exact hown
  have hins : (Cond.instantiable cls 6).before args s' = true := h _ (List.mem_append_right _ (List.mem_append_right _ (List.mem_append_right _ (List.mem_append_right _ (List.mem_of_getElem? (i := 1) rfl)))))
  obtain ⟨vm₁, cX, kX, hfX, hkX, -, -, X₁, st1⟩ := Y0.newCold hexec (own := own) (C := cls) (index := ik) (n := 6) hown' hk' hins hini'
    (g := F0 m pc ls rest) rfl (by rw [hb]; exact d0) (Nat.le_refl _) (Nat.le_refl _)
  generalize hT1 : (T.setVm vm₁).pushCell { cls := cX, slots := kX.instanceTypes.map defaultValue, vm := .none } = T1 at X₁ st1
  have hcat : (Value.ref T.heap.size).category = 1 := rfl
  have hcellA : T1.heap[T.heap.size]? = some (freshCell cX kX) := by rw [← hT1]; exact State.heap_pushCell_size _ _
  have d3' : decode c.code (pc + 3) = .ok (.dup, 1) := by rw [hb]; exact d3
  have hstr' : vk_R own is text sa s' := vk_R.warm hW0 hstr
  obtain ⟨U, hsteps, hrun, hend, hW, hsame, ce, hce, hO, hcl⟩ := mj_ctorX X₁ hexec htr (own := own) (cls := cls) (ic := ic) hown' hcls hY hr r0 r1 r2 r5 h (fun x hx => nomatch hx) hfX hkX hcellA (by rw [hhp, hT]; exact Nat.le_refl _) (msg := .ref sa) rfl
    (g := { method := m, pc := k6, locals := ls, stack := .ref sa :: .ref T.heap.size :: .ref T.heap.size :: rest, locked := none }) rfl hsize rfl rfl (rest := rest) rfl
    (by rw [hb]; exact d6) (by rw [hb]; exact d9) hout hRframes (by simp only [List.map_cons, List.sum_cons, hcat]; omega) hlocks
  obtain ⟨f1, f2⟩ := vx_frame hsame
  rw [hhp] at f1 f2
  have hWs : s.WarmedH U.vm := State.WarmedH.trans hW0 hW
  rw [hvm] at hcl
  have hall : s.sameButNew ({ U with vm := s.vm } : State) locs mc ms := by
    subst hA
    obtain ⟨e1, e2⟩ := hsame
    rw [State.setFrames_setFrames] at e1
    have h2 : (T.setVm s.vm).sameButNew ({ U with vm := s.vm } : State) [] (0 + 1) (0 + 6) := ⟨e1, e2⟩
    have h3 := X.same.trans h2
    rw [List.append_nil] at h3
    exact h3.mono hc hs
  refine ⟨U, ?_, .threw T.heap.size, hrun, hend, Or.inr ⟨T.heap.size, rfl, cls, ce, locs, hx U hWs.alike f1 (fun q hq => f2 q hq (fun z hz => nomatch hz)), hce, hO, hcl, hWs, hall, hf⟩⟩
  refine st1 _ ?_
  show Steps p.tables e below (T1.setTop { method := m, pc := pc + 3, locals := ls, stack := .ref T.heap.size :: rest, locked := none }) _
  jvm_step X₁.here [X₁.here.top, hexec, d3', Value.category]
  rcases d4 with ⟨d4, rfl⟩ | ⟨d4, rfl⟩
  · exact X₁.ldcString hexec (own := own) (text := text) (index := is) (a := sa) hown' hstr'.1 hstr'.2
      (g := { method := m, pc := pc + 4, locals := ls, stack := .ref T.heap.size :: .ref T.heap.size :: rest, locked := none }) rfl (by rw [hb]; exact d4) _ hsteps
  · exact X₁.ldcStringW hexec (own := own) (text := text) (index := is) (a := sa) hown' hstr'.1 hstr'.2
      (g := { method := m, pc := pc + 4, locals := ls, stack := .ref T.heap.size :: .ref T.heap.size :: rest, locked := none }) rfl (by rw [hb]; exact d4) _ hsteps
end T
end
section
/-! soundness: switches, references given back, throws -/
theorem mj_sw_tab (x : Int32) (d : Nat) : ∀ (cs : List (Int32 × Nat)) (lo : Int), (∀ (i : Nat) (q : Int32 × Nat), cs[i]? = some q → q.1.toInt = lo + i) → ((x.toInt < lo ∨ lo + cs.length ≤ x.toInt) ∧ mj_sw cs d x = d) ∨ (lo ≤ x.toInt ∧ x.toInt < lo + cs.length ∧ ∃ q, cs[(x.toInt - lo).toNat]? = some q ∧ mj_sw cs d x = q.2)
  | [], lo, _ => Or.inl ⟨by simp only [List.length_nil]; omega, rfl⟩
  | q :: r, lo, h => by
    have h0 : q.1.toInt = lo := by have := h 0 q rfl; simpa using this
    have ih := mj_sw_tab x d r (lo + 1) (fun i z hz => by
      have := h (i + 1) z hz
      rw [this]; omega)
    have hl : ((q :: r).length : Int) = r.length + 1 := by simp
    rw [hl]
    unfold mj_sw
    by_cases e : x = q.1
    · subst e
      rw [if_pos rfl, h0]
      exact Or.inr ⟨by omega, by omega, q, by rw [Int.sub_self]; rfl, rfl⟩
    · rw [if_neg e]
      have hne : ¬ x.toInt = lo := fun z => e (Int32.toInt_inj.mp (by rw [h0]; exact z))
      rcases ih with ⟨h1, h2⟩ | ⟨h1, h2, z, h3, h4⟩
      · exact Or.inl ⟨by omega, h2⟩
      · refine Or.inr ⟨by omega, by omega, z, ?_, h4⟩
        rw [show (x.toInt - lo).toNat = (x.toInt - (lo + 1)).toNat + 1 by omega]
        exact h3
theorem mj_swu_at : ∀ (cs : List (Int32 × Nat)) (q0 : Int32 × Nat), mj_swu (q0 :: cs) = true → ∀ (i : Nat) (q : Int32 × Nat), (q0 :: cs)[i]? = some q → q.1.toInt = q0.1.toInt + i
  | [], q0, _, i, q, hq => by
    cases i with
    | zero => cases hq; simp
    | succ i => simp at hq
  | z :: r, q0, h, i, q, hq => by
    cases i with
    | zero => cases hq; simp
    | succ i =>
      simp only [mj_swu, Bool.and_eq_true, decide_eq_true_eq] at h
      have h2 := mj_swu_at r z h.2 i q hq
      rw [h2, h.1]
      omega
theorem mj_swl_off (pc d : Nat) (x : Int32) : ∀ (cs : List (Int32 × Nat)), Op.lookupswitch.offset (cs.map (fun z => (z.1.toInt, (z.2 : Int) - pc))) ((d : Int) - pc) x.toInt = (mj_sw cs d x : Int) - pc
  | [] => by rw [List.map_nil, Op.lookupswitch.offset_nil]; rfl
  | q :: r => by
    rw [List.map_cons, Op.lookupswitch.offset_cons]
    unfold mj_sw
    by_cases e : x = q.1
    · subst e
      rw [if_pos rfl, if_pos rfl]
    · rw [if_neg e, if_neg (fun z => e (Int32.toInt_inj.mp z.symm)), mj_swl_off pc d x r]
theorem mj_sws_ok : ∀ (cs : List (Int32 × Nat)) (pc : Nat), mj_sws cs = true → ((cs.map (fun z => (z.1.toInt, (z.2 : Int) - pc))).zip ((cs.map (fun z => (z.1.toInt, (z.2 : Int) - pc))).drop 1)).all (fun (a, next) => a.1 < next.1) = true
  | [], _, _ => rfl
  | [_], _, _ => rfl
  | q :: z :: r, pc, h => by
    simp only [mj_sws, Bool.and_eq_true, decide_eq_true_eq] at h
    have ih := mj_sws_ok (z :: r) pc h.2
    simp only [List.map_cons, List.drop_succ_cons, List.drop_zero, List.zip_cons_cons, List.all_cons, Bool.and_eq_true, decide_eq_true_eq] at ih ⊢
    exact ⟨h.1, ih⟩
theorem mj_sw_in : ∀ (cs : List (Int32 × Nat)) (d : Nat) (x : Int32), mj_sw cs d x = d ∨ ∃ q ∈ cs, mj_sw cs d x = q.2
  | [], _, _ => Or.inl rfl
  | q :: r, d, x => by
    unfold mj_sw
    split
    · exact Or.inr ⟨q, List.mem_cons_self, rfl⟩
    · rcases mj_sw_in r d x with h | ⟨z, hz, h⟩
      · exact Or.inl h
      · exact Or.inr ⟨z, List.mem_cons_of_mem _ hz, h⟩
/-- how the exceptions' constructors call their super class's -/
def mj_xi : Nat → Nat
  | 0 => 13
  | _ => 7
def mj_xb : Nat → ByteArray
  | 0 => ⟨#[0x2a, 0x2b, 0xb7, 0x00, 0x0d, 0xb1]⟩
  | _ => Bundle.six
def mj_xw (own : String) (a : Nat) : List Cond := mj_xS own (mj_ic a) (mj_xn a) (mj_xi a) (mj_xb a) "java/lang/RuntimeException" ["java/lang/Exception"]
def mj_fcT : Prop := ∀ q ∈ mj_pT, q.2.1 < 2 ∧ Cond.classLink (mj_cn q.1) q.2.2.2 (mj_xn q.2.1) ∈ mj_mw ∧ Cond.initialized (mj_xn q.2.1) ∈ mj_mw ∧ (∀ w ∈ mj_xw (mj_cn q.1) q.2.1, w ∈ mj_mw ∨ w = .castable (mj_xn q.2.1) (mj_xn q.2.1) ∨ ∃ y ∈ mj_dc, w = .declares (Bundle.initS y)) ∧ ∀ w ∈ Cond.classLink (mj_cn q.1) q.2.2.2 (mj_xn q.2.1) :: Cond.initialized (mj_xn q.2.1) :: mj_xw (mj_cn q.1) q.2.1, vx_ot w = true
/-- what the texts' ways take of the tables -/
def mj_vt : Nat → String × String × String
  | 0 => ("java/lang/String", "value", "[B")
  | 1 => ("java/lang/String", "coder", "B")
  | 2 => ("java/lang/String", "COMPACT_STRINGS", "Z")
  | _ => ("jdk/internal/util/Preconditions", "SIOOBE_FORMATTER", "Ljava/util/function/BiFunction;")
def mj_fcV : Prop := ∀ q ∈ mj_pV, Cond.fieldLink (mj_cn q.1) q.2.2 (mj_vt q.2.1).1 (mj_vt q.2.1).2.1 (mj_vt q.2.1).2.2 ∈ mj_mw
def mj_xm : Nat → MethodName
  | 0 => Lib.Math.max.name
  | 1 => Lib.Math.min.name
  | 2 => Lib.Math.abs.name
  | _ => Lib.MathLoose.max_long.x
def mj_fcX : Prop := (∀ q ∈ mj_pX, Cond.methodLink (mj_cn q.1) q.2.2 (mj_xm q.2.1) ∈ mj_mw) ∧ Cond.initialized "java/lang/Math" ∈ mj_mw ∧ (Cond.static Lib.Math.max.name ∈ mj_mw ∧ Cond.static Lib.Math.min.name ∈ mj_mw ∧ Cond.static Lib.Math.abs.name ∈ mj_mw ∧ Cond.static Lib.MathLoose.max_long.x ∈ mj_mw) ∧ Cond.code Lib.Math.max.name Lib.Math.max.code 2 (some .int) ∈ mj_mw ∧ Cond.code Lib.Math.min.name Lib.Math.min.code 2 (some .int) ∈ mj_mw ∧ Cond.code Lib.Math.abs.name Lib.Math.abs.code 1 (some .int) ∈ mj_mw ∧ Cond.code Lib.MathLoose.max_long.x Lib.MathLoose.max_long.code 4 (some .long) ∈ mj_mw
def mj_fcH : Prop := ∀ q ∈ mj_pH, Cond.classLink (mj_cn q.1) q.2.2 (mj_xn q.2.1) ∈ mj_mw
section S
variable {p : Program} {l : Launch} {e : Env} {R : Room} {s : State} {m : MethodId} {args : Array Value} {below : List Frame} {meth : Method} {c : Code} {H : Heap} {locs : List Loc} {cells slots : Nat} {Qf : State → Prop}
variable {D : va_G} {ca : Nat → ClassId} {base : Nat} {ext : Nat → Nat} {mm : Nat}
variable {is : List mj_O} {lo : mj_Lo} {st rest : List Value} {σ τ : mj_S} {bc bs pc a b x k d : Nat} {ls : Array Slot} {Q : mj_Q}
theorem mj_s24 (C : mj_Cx p s m args meth c D ca base mm) (ck : mj_ckop mm pc 24 a b x is = true) {v : Int32} (h : W p l e R s m args below meth c H locs cells slots Qf (F0 m (mj_sw (mj_swt a) b v) ls rest)) : W p l e R s m args below meth c H locs cells slots Qf (F0 m pc ls (.int v :: rest)) := by
  obtain ⟨hx, hb, -⟩ := C
  simp only [mj_ckop, Bool.and_eq_true, Bool.or_eq_true] at ck
  generalize mj_swt a = cs at ck h
  rcases ck.2 with ⟨⟨k1, k2⟩, k3⟩ | ⟨k1, k2⟩
  · obtain ⟨n, k1⟩ := mj_dx_ok k1
    cases cs with
    | nil => simp at k3
    | cons q r =>
      have hat := mj_swu_at r q k2
      have hle : ((q :: r).length : Int) = r.length + 1 := by simp
      rcases mj_sw_tab v b (q :: r) q.1.toInt hat with ⟨h1, h2⟩ | ⟨h1, h2, z, h3, h4⟩
      · rw [h2] at h
        exact lv_tableOut hx hb k1 (by rw [hle] at h1; omega) (by omega) h
      · rw [h4] at h
        refine lv_tableIn (off := (z.2 : Int) - pc) hx hb k1 (by omega) (by rw [hle] at h2; omega) ?_ (by omega) h
        rw [List.getElem?_toArray, List.getElem?_map, h3]
        rfl
  · obtain ⟨n, k1⟩ := mj_dx_ok k1
    exact lv_lookup hx hb k1 (mj_sws_ok cs pc k2) (mj_swl_off pc b v cs) (by omega) h
theorem mj_s29 (C : mj_Cx p s m args meth c D ca base mm) (hH : mj_H D ca base σ H) (hS : va_S (mj_A base) s.heap H locs) (ck : mj_ckop mm pc 29 a b x is = true) (hc : cells ≤ mj_mc mm) (hs : slots ≤ mj_ms mm) {v : Nat} (hq : Q (.inl (some (.ref v))) σ) :
    W p l e R s m args below meth c H locs cells slots (vx_MQ below (mj_Qc D ca base ext Q) (mj_XC D ca base Q) args s (mj_mc mm) (mj_ms mm) (mj_A base)) (F0 m pc ls [.ref (base + v)]) := by
  obtain ⟨hx, hb, hml, hown, hts, hK, hr, hlocks, -⟩ := C
  simp only [mj_ckop, Bool.and_eq_true] at ck
  have hn : ∃ n, mj_mr mm = some (.object n) := by
    have h := ck.2
    unfold mj_isO at h
    split at h
    · exact ⟨_, by assumption⟩
    · cases h
  obtain ⟨n, hn⟩ := hn
  rw [hn] at hr
  refine W.widen hc hs (vx_ret ?_)
  exact W.aret hx hb hr (Or.inl ⟨n, rfl⟩) (Or.inr ⟨_, rfl⟩) (mj_rq (ext := ext) hH hS hq) hS.2.2 (mj_dk_ok ck.1) hlocks
theorem mj_H.old (hH : mj_H D ca base σ H) {H1 : Heap} (hn : mj_shl.length ≤ σ.1) (hz : H.size ≤ H1.size) (ho : ∀ q : Nat, q < H.size → H1[q]? = H[q]?) : mj_H D ca base σ H1 := by
  refine ⟨hH.1.kept (fun k q hq => ho q.1 ((hH.1 k q hq).lt)), Or.inr ⟨hn, ?_⟩⟩
  rcases hH.2 with q | ⟨-, q⟩ <;> omega
theorem mj_s30 (C : mj_Cx p s m args meth c D ca base mm) (hl : l.stackTraces = false) (fT : mj_fcT) (hE : mj_X base ext s s.heap) (hH : mj_H D ca base σ H) (hS : va_S (mj_A base) s.heap H locs) (hlr : mj_LR (mj_cv base ext) lo ls (mj_ml mm)) (ck : mj_ckop mm pc 30 a b x is = true) (hcs : (rest.map fun v => v.category).sum ≤ 8) (hn : mj_shl.length ≤ σ.1) (hc1 : cells + 1 ≤ R.cells) (hs1 : slots + 6 ≤ R.slots) (hc : cells + 1 ≤ mj_mc mm) (hs : slots + 6 ≤ mj_ms mm) (hR1 : 8 ≤ R.frames) (hR2 : 100 ≤ R.locals) (hq : Q (.inr a) σ) :
    W p l e R s m args below meth c H locs cells slots (vx_MQ below (mj_Qc D ca base ext Q) (mj_XC D ca base Q) args s (mj_mc mm) (mj_ms mm) (mj_A base)) (F0 m pc ls rest) := by
  obtain ⟨hx, hb, hml, hown, hts, hK, hr, hlocks, -, -, hout⟩ := C
  simp only [mj_ckop, Bool.and_eq_true, Bool.or_eq_true, List.contains_iff_mem] at ck
  obtain ⟨⟨⟨⟨hm, k0⟩, k3⟩, k4⟩, hem⟩ := ck
  have hem : mj_hh mm = [] := List.isEmpty_iff.mp hem
  rw [hem] at hout
  have hout : ∀ z ∈ c.exceptionTable.toList, False := by
    intro z hz
    rw [hout] at hz
    cases hz
  obtain ⟨hlt, hcl, hin, hat, hot⟩ := fT _ hm
  obtain ⟨tx, sa, hstr⟩ := hE.2.2.2.2.1 _ hm
  have hat' : ∀ w ∈ mj_xw (mj_cn (mj_mo mm)) a, w.before args s = true := by
    intro w hw
    rcases hat w hw with h | h | ⟨y, hy, h⟩
    · exact hts w h
    · rw [h]
      exact va_Nw.use rfl (hE.2.1 a)
    · rw [h]
      exact va_Nw.use rfl (hE.2.2.2.2.2.2.2.2.2.2.2.2 y hy)
  have hlt : a < 2 := hlt
  have hfit : Bundle.fit (mj_xn a) = true := by
    rcases (by omega : a = 0 ∨ a = 1) with rfl | rfl <;> decide +kernel
  have hY : Bundle.fit "java/lang/RuntimeException" = true := by decide +kernel
  have hnm : ∀ n ∈ ["java/lang/Exception"], Bundle.fit n = true := by decide +kernel
  have hXC : ∀ t : State, s.vm.Alike t.vm → H.size ≤ t.heap.size → (∀ q : Nat, q < H.size → t.heap[q]? = H[q]?) → mj_XC D ca base Q (mj_xn a) s t := fun t _ hz ho => ⟨a, σ, rfl, hq, hH.old hn hz ho, Nat.le_trans hS.1 hz, fun q h1 h2 => (ho q (Nat.lt_of_lt_of_le h1 hS.1)).trans (hS.2.1 q h1 h2)⟩
  have r0 : decode (mj_xb a) 0 = .ok (.aload_n 0, 1) := by
    rcases (by omega : a = 0 ∨ a = 1) with rfl | rfl <;> decide +kernel
  have r1 : decode (mj_xb a) 1 = .ok (.aload_n 1, 1) := by
    rcases (by omega : a = 0 ∨ a = 1) with rfl | rfl <;> decide +kernel
  have r2 : decode (mj_xb a) 2 = .ok (.invokespecial (mj_xi a), 3) := by
    rcases (by omega : a = 0 ∨ a = 1) with rfl | rfl <;> decide +kernel
  have r5 : decode (mj_xb a) 5 = .ok (.return_, 1) := by
    rcases (by omega : a = 0 ∨ a = 1) with rfl | rfl <;> decide +kernel
  rcases k4 with ⟨⟨k4, k6⟩, k9⟩ | ⟨⟨k4, k6⟩, k9⟩
  · exact mj_throwX (k6 := pc + 6) hx hb hl hown hfit hY hnm r0 r1 r2 r5 (hts _ hcl) (hts _ hin) hstr hat' hot hE.2.2.1 hE.2.2.2.1 hS (by rw [hml]; exact hlr.2.1) (mj_dk_ok k0) (mj_dk_ok k3) (Or.inl ⟨mj_dk_ok k4, rfl⟩) (mj_dk_ok k6) (mj_dk_ok k9) (fun z hz => (hout z hz).elim) (by show 1 + 4 < _; omega) (by show _ + (13 * (1 + 2) + 43) ≤ _; omega) hc1 hs1 hlocks hXC hS.2.2 hc hs
  · exact mj_throwX (k6 := pc + 7) hx hb hl hown hfit hY hnm r0 r1 r2 r5 (hts _ hcl) (hts _ hin) hstr hat' hot hE.2.2.1 hE.2.2.2.1 hS (by rw [hml]; exact hlr.2.1) (mj_dk_ok k0) (mj_dk_ok k3) (Or.inr ⟨mj_dk_ok k4, rfl⟩) (mj_dk_ok k6) (mj_dk_ok k9) (fun z hz => (hout z hz).elim) (by show 1 + 4 < _; omega) (by show _ + (13 * (1 + 2) + 43) ≤ _; omega) hc1 hs1 hlocks hXC hS.2.2 hc hs
/-! texts -/
theorem mj_s55 (C : mj_Cx p s m args meth c D ca base mm) (hE : mj_X base ext s s.heap) (ck : mj_ckop mm pc 55 a b x is = true) (h : W p l e R s m args below meth c H locs cells slots Qf (F0 m (mj_pc is) ls (mj_cv base ext (.retAddr a) :: rest))) : W p l e R s m args below meth c H locs cells slots Qf (F0 m pc ls rest) := by
  obtain ⟨hx, hb, hml, hown, -⟩ := C
  simp only [mj_ckop, Bool.and_eq_true, List.contains_iff_mem, decide_eq_true_eq] at ck
  obtain ⟨⟨hm, ck⟩, ha⟩ := ck
  obtain ⟨k1, k2⟩ := mj_df_ok ck
  rw [k2, mj_cv_x (by omega)] at h
  obtain ⟨tx, hR⟩ := hE.2.2.2.2.2.2.1 _ hm
  exact va_ldcS hx hb hown hR k1 h
theorem mj_s56 (C : mj_Cx p s m args meth c D ca base mm) (fV : mj_fcV) (hE : mj_X base ext s s.heap) (hS : va_S (mj_A base) s.heap H locs) (ck : mj_ckop mm pc 56 a b x is = true) (hk : k < 2) (h : W p l e R s m args below meth c H locs cells slots Qf (F0 m (mj_pc is) ls (mj_cv base ext (.retAddr (2 + k)) :: rest))) : W p l e R s m args below meth c H locs cells slots Qf (F0 m pc ls (mj_cv base ext (.retAddr k) :: rest)) := by
  obtain ⟨hx, hb, hml, hown, hts, -⟩ := C
  simp only [mj_ckop, Bool.and_eq_true, List.contains_iff_mem] at ck
  obtain ⟨k1, k2⟩ := mj_df_ok ck.2
  rw [k2, mj_cv_x (by omega)] at h
  rw [mj_cv_x (by omega)]
  exact vk_getf hx hb ((hE.2.2.2.2.2.1.1 k hk).2.2.1) hS hown (hts _ (fV _ ck.1)) (fun _ h => h) k1 h
theorem mj_s57 (C : mj_Cx p s m args meth c D ca base mm) (fV : mj_fcV) (hE : mj_X base ext s s.heap) (hS : va_S (mj_A base) s.heap H locs) (ck : mj_ckop mm pc 57 a b x is = true) (hk : k < 2) (h : W p l e R s m args below meth c H locs cells slots Qf (F0 m (mj_pc is) ls (.int 0 :: rest))) : W p l e R s m args below meth c H locs cells slots Qf (F0 m pc ls (mj_cv base ext (.retAddr k) :: rest)) := by
  obtain ⟨hx, hb, hml, hown, hts, -⟩ := C
  simp only [mj_ckop, Bool.and_eq_true, List.contains_iff_mem] at ck
  obtain ⟨k1, k2⟩ := mj_df_ok ck.2
  rw [k2] at h
  rw [mj_cv_x (by omega)]
  exact vk_getf hx hb ((hE.2.2.2.2.2.1.1 k hk).2.1) hS hown (hts _ (fV _ ck.1)) (fun _ h => h) k1 h
theorem mj_s58 (C : mj_Cx p s m args meth c D ca base mm) (fV : mj_fcV) (hE : mj_X base ext s s.heap) (hS : va_S (mj_A base) s.heap H locs) (ck : mj_ckop mm pc 58 a b x is = true) (h : W p l e R s m args below meth c H locs cells slots Qf (F0 m (mj_pc is) ls (.int 1 :: rest))) : W p l e R s m args below meth c H locs cells slots Qf (F0 m pc ls rest) := by
  obtain ⟨hx, hb, hml, hown, hts, -⟩ := C
  simp only [mj_ckop, Bool.and_eq_true, List.contains_iff_mem] at ck
  obtain ⟨k1, k2⟩ := mj_df_ok ck.2
  rw [k2] at h
  exact va_gets hx hb hE.2.2.2.2.2.2.2.1 hS hown (hts _ (fV _ ck.1)) (fun _ h => h) k1 h
theorem mj_s59 (C : mj_Cx p s m args meth c D ca base mm) (fV : mj_fcV) (hE : mj_X base ext s s.heap) (hS : va_S (mj_A base) s.heap H locs) (ck : mj_ckop mm pc 59 a b x is = true) (h : W p l e R s m args below meth c H locs cells slots Qf (F0 m (mj_pc is) ls (mj_cv base ext (.retAddr 4) :: rest))) : W p l e R s m args below meth c H locs cells slots Qf (F0 m pc ls rest) := by
  obtain ⟨hx, hb, hml, hown, hts, -⟩ := C
  simp only [mj_ckop, Bool.and_eq_true, List.contains_iff_mem] at ck
  obtain ⟨k1, k2⟩ := mj_df_ok ck.2
  rw [k2] at h
  exact va_gets hx hb hE.2.2.2.2.2.2.2.2.1 hS hown (hts _ (fV _ ck.1)) (fun _ h => h) k1 h
theorem mj_s60 (C : mj_Cx p s m args meth c D ca base mm) (hE : mj_X base ext s s.heap) (hS : va_S (mj_A base) s.heap H locs) (ck : mj_ckop mm pc 60 a b x is = true) (hk : k < 2) (h : W p l e R s m args below meth c H locs cells slots Qf (F0 m (mj_pc is) ls (.int (nI (mj_txt k).length) :: rest))) : W p l e R s m args below meth c H locs cells slots Qf (F0 m pc ls (mj_cv base ext (.retAddr (2 + k)) :: rest)) := by
  obtain ⟨hx, hb, hml, hown, hts, -⟩ := C
  simp only [mj_ckop] at ck
  obtain ⟨k1, k2⟩ := mj_df_ok ck
  rw [k2] at h
  rw [mj_cv_x (by omega)]
  refine va_tlen hx hb ((hE.2.2.2.2.2.1.1 k hk).2.2.2) hS ?_ k1 h
  rcases (by omega : k = 0 ∨ k = 1) with rfl | rfl <;> rfl
theorem mj_getD_map (l : List Nat) (j : Nat) : (l.map nI).getD j 0 = nI (l.getD j 0) := by
  rw [List.getD_eq_getElem?_getD, List.getD_eq_getElem?_getD, List.getElem?_map]
  cases l[j]? <;> rfl
theorem mj_s61 (C : mj_Cx p s m args meth c D ca base mm) (hE : mj_X base ext s s.heap) (hS : va_S (mj_A base) s.heap H locs) (ck : mj_ckop mm pc 61 a b x is = true) (hk : k < 2) {i : Int32} (hi : vp_in i (mj_txt k).length) (h : W p l e R s m args below meth c H locs cells slots Qf (F0 m (mj_pc is) ls (.int (nI ((mj_txt k).getD i.toNatClampNeg 0)) :: rest))) : W p l e R s m args below meth c H locs cells slots Qf (F0 m pc ls (.int i :: mj_cv base ext (.retAddr (2 + k)) :: rest)) := by
  obtain ⟨hx, hb, hml, hown, hts, -⟩ := C
  simp only [mj_ckop] at ck
  obtain ⟨k1, k2⟩ := mj_df_ok ck
  rw [k2] at h
  rw [mj_cv_x (by omega)]
  refine va_tb hx hb ((hE.2.2.2.2.2.1.1 k hk).2.2.2) hS ?_ ?_ k1 h
  · rcases (by omega : k = 0 ∨ k = 1) with rfl | rfl <;> exact hi
  · rcases (by omega : k = 0 ∨ k = 1) with rfl | rfl
    · exact congrArg Value.int (mj_getD_map _ _)
    · exact congrArg Value.int (mj_getD_map _ _)
theorem mj_s63 (C : mj_Cx p s m args meth c D ca base mm) (hl : mj_LR (mj_cv base ext) lo ls (mj_ml mm)) (ck : mj_ckop mm pc 63 a b x is = true) {v : Nat} (hg : mj_get lo a = some (.retAddr v)) (h : W p l e R s m args below meth c H locs cells slots Qf (F0 m (mj_pc is) ls (mj_cv base ext (.retAddr v) :: rest))) : W p l e R s m args below meth c H locs cells slots Qf (F0 m pc ls rest) := by
  obtain ⟨hx, hb, -⟩ := C
  have hcat : (mj_cv base ext (.retAddr v)).category = 1 := by rw [mj_cv_cat]; rfl
  have hat := hl.at hg
  by_cases h4 : v = 4
  · subst h4
    cases he : ext 4 with
    | zero =>
      have e0 : mj_cv base ext (.retAddr 4) = .null := by
        show mj_nv (ext 4) = .null
        rw [he]; rfl
      rw [e0] at h hat
      rcases mj_d4_ok ck with ⟨k1, k2⟩ | ⟨i, e1, k1, k2⟩
      all_goals rw [k2] at h
      · exact lv_aloadN hx hb k1 hat h
      · exact lv_aload_nN hx hb k1 e1 hat h
    | succ n =>
      have e0 : mj_cv base ext (.retAddr 4) = .ref n := by
        show mj_nv (ext 4) = .ref n
        rw [he]; rfl
      rw [e0] at h hat
      rcases mj_d4_ok ck with ⟨k1, k2⟩ | ⟨i, e1, k1, k2⟩
      all_goals rw [k2] at h
      · exact lv_aload hx hb k1 hat h
      · exact lv_aload_n hx hb k1 e1 hat h
  · rw [mj_cv_x h4] at h hat
    rcases mj_d4_ok ck with ⟨k1, k2⟩ | ⟨i, e1, k1, k2⟩
    all_goals rw [k2] at h
    · exact lv_aload hx hb k1 hat h
    · exact lv_aload_n hx hb k1 e1 hat h
theorem mj_s64 (C : mj_Cx p s m args meth c D ca base mm) (hH : mj_H D ca base σ H) (hS : va_S (mj_A base) s.heap H locs) (ck : mj_ckop mm pc 64 a b x is = true) (hc : cells ≤ mj_mc mm) (hs : slots ≤ mj_ms mm) {v : Int32} (hv : narrow .char (.int v) = .int v) (hq : Q (.inl (some (.int v))) σ) :
    W p l e R s m args below meth c H locs cells slots (vx_MQ below (mj_Qc D ca base ext Q) (mj_XC D ca base Q) args s (mj_mc mm) (mj_ms mm) (mj_A base)) (F0 m pc ls [.int v]) := by
  obtain ⟨hx, hb, hml, hown, hts, hK, hr, hlocks, -⟩ := C
  simp only [mj_ckop, Bool.and_eq_true, decide_eq_true_eq] at ck
  rw [ck.2] at hr
  refine W.widen hc hs (vx_ret ?_)
  exact W.zret hx hb hr hv (mj_rq (ext := ext) hH hS hq) hS.2.2 (mj_dk_ok ck.1) hlocks
theorem mj_s65 (C : mj_Cx p s m args meth c D ca base mm) (hH : mj_H D ca base σ H) (hS : va_S (mj_A base) s.heap H locs) (ck : mj_ckop mm pc 65 a b x is = true) (hc : cells ≤ mj_mc mm) (hs : slots ≤ mj_ms mm) {v : Int32} (hv : narrow .byte (.int v) = .int v) (hq : Q (.inl (some (.int v))) σ) :
    W p l e R s m args below meth c H locs cells slots (vx_MQ below (mj_Qc D ca base ext Q) (mj_XC D ca base Q) args s (mj_mc mm) (mj_ms mm) (mj_A base)) (F0 m pc ls [.int v]) := by
  obtain ⟨hx, hb, hml, hown, hts, hK, hr, hlocks, -⟩ := C
  simp only [mj_ckop, Bool.and_eq_true, decide_eq_true_eq] at ck
  rw [ck.2] at hr
  refine W.widen hc hs (vx_ret ?_)
  exact W.zret hx hb hr hv (mj_rq (ext := ext) hH hS hq) hS.2.2 (mj_dk_ok ck.1) hlocks
theorem mj_s62 (C : mj_Cx p s m args meth c D ca base mm) (hw : ∀ w ∈ mj_ws mm, w.before args s = true) (fM : mj_fcM) (fQ : mj_fcQ) (hca : mj_cas ca s) (hE : mj_X base ext s s.heap) (hH : mj_H D ca base σ H) (hS : va_S (mj_A base) s.heap H locs) (hlr : mj_LR (mj_cv base ext) lo ls (mj_ml mm)) (ck : mj_ckop mm pc 62 a b x is = true) {As : List Value} {Q2 : mj_Q}
    (hct : mj_Ct l D ca base ext d a (.retAddr k :: As) σ Q2) (hno : ∀ k τ, ¬ Q2 (.inr k) τ) (hk : k < 2) (hAs : As.length = mj_mn a) (hcs : mj_cs rest ≤ 8) (hc1 : cells + mj_mc a ≤ R.cells) (hs1 : slots + mj_ms a ≤ R.slots) (hR1 : d + 9 ≤ R.frames) (hR2 : 100 * d + 300 ≤ R.locals)
    (kk : ∀ (v : Option Value) (τ : mj_S) (H1 : Heap) (locs1 : List Loc), Q2 (.inl v) τ → mj_H D ca base τ H1 → va_S (mj_A base) s.heap H1 locs1 → W p l e R s m args below meth c H1 locs1 (cells + mj_mc a) (slots + mj_ms a) Qf (F0 m (mj_pc is) ls ((v.toList ++ rest).map (mj_cv base ext)))) :
    W p l e R s m args below meth c H locs cells slots Qf (F0 m pc ls ((As.reverse ++ .retAddr k :: rest).map (mj_cv base ext))) := by
  have C0 := C
  obtain ⟨hx, hb, hml, hown, hts, hK, -⟩ := C
  simp only [mj_ckop, Bool.and_eq_true, List.contains_iff_mem] at ck
  obtain ⟨⟨hm, ck⟩, hkd⟩ := ck
  obtain ⟨k1, k2⟩ := mj_df_ok ck
  rw [k2] at kk
  obtain ⟨-, hcode, hcl, hmh, hvh, hdesc, hini, hml9, -, -, -, h0, -, hhe⟩ := fQ _ hkd
  have hhe : mj_hh a = [] := hhe (fun z => by cases z)
  obtain ⟨hinst, hsel, ho⟩ := h0 rfl
  have hml8 : mj_ml a ≤ 60 := hml9
  have ho : mj_mo a = 15 := ho
  have hG := mj_good_in (mm := mm) hcode
  have hct' : vx_Met l (mj_my a) (mj_ws a) (mj_rm d a) (va_Pc ((.ref (ext k)) :: As.map (mj_cv base ext)) (fun U => mj_H D ca base σ U.heap ∧ va_K D vwCl (mj_tys ca) U ∧ mj_cas ca U ∧ mj_X base ext U U.heap)) (mj_Qc D ca base ext Q2) (mj_XC D ca base Q2) (mj_mc a) (mj_ms a) (mj_A base) := by
    have h9 := hct
    unfold mj_Ct mj_Pc at h9
    rw [List.map_cons, mj_cv_x (by omega)] at h9
    exact h9
  rw [mj_map_rev, List.map_cons, mj_cv_x (by omega)]
  refine mj_after (rest := rest.map (mj_cv base ext)) (v0 := (.ref (ext k) :: As.map (mj_cv base ext)).toArray) (mc := mj_mc a) (ms := mj_ms a) hS (vx_runV (own := mj_cn (mj_mo mm)) (C := (mj_my a).cls) (Ts := mj_ws mm) (nL := mj_ml mm) (As := As.map (mj_cv base ext)) (b := ext k) (n := mj_mn a) ⟨hx, hb, hml, hown, hw⟩ hct' ⟨callB_of (ws' := mj_mw) (mj_mn a) hw hG (mj_ws_c hhe) rfl rfl (hts _ hini) (hts _ (fM _ hm)) ⟨hmh, hvh, hdesc⟩ ⟨by show d + 8 + 1 ≤ _; omega, by show 8 + (mj_ml a + 11) + (100 * d + 200) ≤ _; omega⟩, hts _ hinst, hts _ hsel⟩ ⟨?_, ?_, ?_⟩ rfl (by rw [List.length_map]; exact hAs) hlr.2.1 rfl (by show 2 * 0 + _ ≤ 8; rw [mj_cv_cs]; omega) k1 ⟨hc1, hs1⟩) (fun v τ H1 locs1 g1 g2 g3 => ?_) (fun k τ H1 locs1 q ce g1 g2 g3 g4 g5 g6 => absurd g1 (hno k τ))
  · have h9 := mj_blind (D := D) (ca := ca) (base := base) (ext := ext) (σ := σ) (as := .retAddr k :: As)
    unfold mj_Pc at h9
    rw [List.map_cons, mj_cv_x (by omega)] at h9
    exact h9
  · obtain ⟨cell, c1, c2, c3⟩ := vk_recv hE.2.2.2.2.2.1 hk hS
    refine ⟨cell, c1, c2, ?_⟩
    rw [hcl, ho]
    exact c3
  · have h9 := mj_pre (as := .retAddr k :: As) C0 hH hca hE hS
    unfold mj_Pc at h9
    rw [List.map_cons, mj_cv_x (by omega)] at h9
    exact h9
  · have h9 := kk v τ H1 locs1 g1 g2 g3
    rw [List.map_append] at h9
    cases v <;> exact h9
/-! Math -/
theorem mj_s70 (C : mj_Cx p s m args meth c D ca base mm) (fX : mj_fcX) (hlr : mj_LR (mj_cv base ext) lo ls (mj_ml mm)) (ck : mj_ckop mm pc 70 a b x is = true) (h1 : 1 ≤ R.frames) (h2 : (rest.map fun v => v.category).sum + 15 ≤ R.locals) (hc : cells ≤ R.cells) (hs : slots ≤ R.slots) {u v : Int32} (h : W p l e R s m args below meth c H locs cells slots Qf (F0 m (mj_pc is) ls (.int (if u < v then v else u) :: rest))) : W p l e R s m args below meth c H locs cells slots Qf (F0 m pc ls (.int v :: .int u :: rest)) := by
  obtain ⟨hx, hb, hml, hown, hts, -⟩ := C
  simp only [mj_ckop, Bool.and_eq_true, List.contains_iff_mem] at ck
  obtain ⟨k1, k2⟩ := mj_df_ok ck.2
  rw [k2] at h
  exact va_mmax hx hb (by rw [hml]; exact hlr.2.1.symm) hown (hts _ (fX.1 _ ck.1)) (hts _ fX.2.2.1.1) (hts _ fX.2.1) (hts _ fX.2.2.2.1) h1 (by omega) hc hs k1 h
theorem mj_s71 (C : mj_Cx p s m args meth c D ca base mm) (fX : mj_fcX) (hlr : mj_LR (mj_cv base ext) lo ls (mj_ml mm)) (ck : mj_ckop mm pc 71 a b x is = true) (h1 : 1 ≤ R.frames) (h2 : (rest.map fun v => v.category).sum + 15 ≤ R.locals) (hc : cells ≤ R.cells) (hs : slots ≤ R.slots) {u v : Int32} (h : W p l e R s m args below meth c H locs cells slots Qf (F0 m (mj_pc is) ls (.int (if v < u then v else u) :: rest))) : W p l e R s m args below meth c H locs cells slots Qf (F0 m pc ls (.int v :: .int u :: rest)) := by
  obtain ⟨hx, hb, hml, hown, hts, -⟩ := C
  simp only [mj_ckop, Bool.and_eq_true, List.contains_iff_mem] at ck
  obtain ⟨k1, k2⟩ := mj_df_ok ck.2
  rw [k2] at h
  exact va_mmin hx hb (by rw [hml]; exact hlr.2.1.symm) hown (hts _ (fX.1 _ ck.1)) (hts _ fX.2.2.1.2.1) (hts _ fX.2.1) (hts _ fX.2.2.2.2.1) h1 (by omega) hc hs k1 h
theorem mj_s72 (C : mj_Cx p s m args meth c D ca base mm) (fX : mj_fcX) (hlr : mj_LR (mj_cv base ext) lo ls (mj_ml mm)) (ck : mj_ckop mm pc 72 a b x is = true) (h1 : 1 ≤ R.frames) (h2 : (rest.map fun v => v.category).sum + 15 ≤ R.locals) (hc : cells ≤ R.cells) (hs : slots ≤ R.slots) {u : Int32} (h : W p l e R s m args below meth c H locs cells slots Qf (F0 m (mj_pc is) ls (.int (if 0 ≤ u then u else 0 - u) :: rest))) : W p l e R s m args below meth c H locs cells slots Qf (F0 m pc ls (.int u :: rest)) := by
  obtain ⟨hx, hb, hml, hown, hts, -⟩ := C
  simp only [mj_ckop, Bool.and_eq_true, List.contains_iff_mem] at ck
  obtain ⟨k1, k2⟩ := mj_df_ok ck.2
  rw [k2] at h
  exact va_mabs hx hb (by rw [hml]; exact hlr.2.1.symm) hown (hts _ (fX.1 _ ck.1)) (hts _ fX.2.2.1.2.2.1) (hts _ fX.2.1) (hts _ fX.2.2.2.2.2.1) h1 (by omega) hc hs k1 h
theorem mj_s73 (C : mj_Cx p s m args meth c D ca base mm) (fX : mj_fcX) (hlr : mj_LR (mj_cv base ext) lo ls (mj_ml mm)) (ck : mj_ckop mm pc 73 a b x is = true) (h1 : 1 ≤ R.frames) (h2 : (rest.map fun v => v.category).sum + 15 ≤ R.locals) (hc : cells ≤ R.cells) (hs : slots ≤ R.slots) {u v : Int64} (h : W p l e R s m args below meth c H locs cells slots Qf (F0 m (mj_pc is) ls (.long (if v < u then u else v) :: rest))) : W p l e R s m args below meth c H locs cells slots Qf (F0 m pc ls (.long v :: .long u :: rest)) := by
  obtain ⟨hx, hb, hml, hown, hts, -⟩ := C
  simp only [mj_ckop, Bool.and_eq_true, List.contains_iff_mem] at ck
  obtain ⟨k1, k2⟩ := mj_df_ok ck.2
  rw [k2] at h
  exact va_mmax_long hx hb (by rw [hml]; exact hlr.2.1.symm) hown (hts _ (fX.1 _ ck.1)) (hts _ fX.2.2.1.2.2.2) (hts _ fX.2.1) (hts _ fX.2.2.2.2.2.2) h1 (by omega) hc hs k1 h
/-! the script -/
theorem mj_s67 (C : mj_Cx p s m args meth c D ca base mm) (hE : mj_X base ext s s.heap) (hS : va_S (mj_A base) s.heap H locs) (ck : mj_ckop mm pc 67 a b x is = true) {i : Int32} (hi : vp_in i (ext 999)) (h : W p l e R s m args below meth c H locs cells slots Qf (F0 m (mj_pc is) ls (.int (mj_sci ext i.toNatClampNeg) :: rest))) : W p l e R s m args below meth c H locs cells slots Qf (F0 m pc ls (.int i :: mj_cv base ext (.retAddr 5) :: rest)) := by
  obtain ⟨hx, hb, hml, hown, hts, -⟩ := C
  simp only [mj_ckop] at ck
  obtain ⟨k1, k2⟩ := mj_df_ok ck
  rw [k2] at h
  rw [mj_cv_x (by omega)]
  exact va_ti hx hb hE.2.2.2.2.2.2.2.2.2.1 hS hi rfl k1 h
theorem mj_s68 (C : mj_Cx p s m args meth c D ca base mm) (hE : mj_X base ext s s.heap) (hS : va_S (mj_A base) s.heap H locs) (ck : mj_ckop mm pc 68 a b x is = true) (h : W p l e R s m args below meth c H locs cells slots Qf (F0 m (mj_pc is) ls (.int (nI (ext 999)) :: rest))) : W p l e R s m args below meth c H locs cells slots Qf (F0 m pc ls (mj_cv base ext (.retAddr 5) :: rest)) := by
  obtain ⟨hx, hb, hml, hown, hts, -⟩ := C
  simp only [mj_ckop] at ck
  obtain ⟨k1, k2⟩ := mj_df_ok ck
  rw [k2] at h
  rw [mj_cv_x (by omega)]
  exact va_tlen hx hb hE.2.2.2.2.2.2.2.2.2.1 hS rfl k1 h
end S
end
section
/-! soundness: calls whose throws are caught (vx_catch is the printed names' own row) -/
section K
variable {p : Program} {l : Launch} {e : Env} {R : Room} {s : State} {m : MethodId} {args : Array Value} {below : List Frame} {meth : Method} {c : Code} {H : Heap} {locs : List Loc} {cells slots : Nat} {Q : State → Prop} {ls : Array Slot} {rest : List Value} {pc : Nat}
/-- caught by the row x of this method's table; the rows ahead don't take it -/
theorem vx_catch {own name : String} {E : String} {ce : Cell} {q : Addr} (hown : s.vm.findClass own = some m.cls) (pre : List ExceptionTableEntry) (x : ExceptionTableEntry) (suf : List ExceptionTableEntry) (hsplit : c.exceptionTable.toList = pre ++ x :: suf)
    (hpass : ∀ z ∈ pre, covers z pc = false ∨ (z.catchType ≠ 0 ∧ ∃ nm : String, (Cond.classLink own z.catchType nm).before args s = true ∧ va_Nc E nm s)) (hx : covers x pc = true) (h0 : x.catchType ≠ 0)
    (hlink : (Cond.classLink own x.catchType name).before args s = true) (hcast : (Cond.castable E name).before args s = true) (hcell : H[q]? = some ce) (hv : ce.vm = .none) (hcl : s.vm.findClass E = some ce.cls)
    (kk : W p l e R s m args below meth c H locs cells slots Q (F0 m x.handlerPc ls [.ref q])) : vx_W p l e R s m args below meth c H locs cells slots Q (F0 m pc ls rest) q := by
  intro T hT X
  have hpl : e.platform.magicAccessors = ({} : Platform).magicAccessors := by rw [X.admits.platform]
  obtain ⟨c3, c4, hc3, hc4, hasg⟩ := Cond.castable_spec hcast
  cases Option.some.inj (hc3.symm.trans hcl)
  obtain ⟨c5, hc5, hcl5⟩ := Cond.classLink_spec hown hlink e.platform hpl
  cases Option.some.inj (hc4.symm.trans hc5)
  obtain ⟨vm', X', st⟩ := Stand.thenCaughtThrough X q (g := F0 m pc ls rest) rfl (Steps.refl _) (by rw [hT]; exact hcell) (by rw [hv]; rfl) (by obtain ⟨k9, h9, -⟩ := Vm.findClass_spec hcl; exact ⟨k9, h9⟩) pre x suf hsplit
    (fun z hz => by
      rcases hpass z hz with h | ⟨hz0, nm, hl1, hn1⟩
      · exact Or.inl h
      · obtain ⟨c6, hc6, hcl6⟩ := Cond.classLink_spec hown hl1 e.platform hpl
        obtain ⟨a8, b8, h1, h2, h3⟩ := hn1
        cases Option.some.inj (h1.symm.trans hcl)
        cases Option.some.inj (h2.symm.trans hc6)
        exact Or.inr ⟨hz0, _, hcl6, h3⟩) hx (Or.inr ⟨h0, c4, hcl5, hasg⟩)
  obtain ⟨t, a1, b1⟩ := kk (T.setVm vm') hT X'
  exact ⟨t, st.trans a1, b1⟩
end K
theorem mj_hk_at {mm pc : Nat} {q : Nat × Nat × Nat} : ∀ {L : List (Nat × Nat × Nat)} {M : List (Nat × Nat × Nat × Nat)}, mj_hk mm pc L M = true → q ∈ L → ∃ pre z suf, M = pre ++ z :: suf ∧ mj_hz mm pc q z = true ∧ ∀ y ∈ pre, ∃ q', q'.1 ≠ q.1 ∧ mj_hz mm pc q' y = true
  | [], _, _, hq => by cases hq
  | q0 :: r, [], h, _ => by simp [mj_hk] at h
  | q0 :: r, z :: t, h, hq => by
    simp only [mj_hk, Bool.and_eq_true, List.all_eq_true, decide_eq_true_eq] at h
    obtain ⟨⟨h1, h2⟩, h3⟩ := h
    rcases List.mem_cons.mp hq with rfl | hq
    · exact ⟨[], z, t, rfl, h1, fun y hy => by cases hy⟩
    · obtain ⟨pre, z', suf, e, g1, g2⟩ := mj_hk_at h3 hq
      refine ⟨z :: pre, z', suf, by rw [e]; rfl, g1, fun y hy => ?_⟩
      rcases List.mem_cons.mp hy with rfl | hy
      · exact ⟨q0, fun e => h2 q hq e.symm, h1⟩
      · exact g2 y hy
theorem mj_hz_ok {mm pc : Nat} {q : Nat × Nat × Nat} {z : Nat × Nat × Nat × Nat} (h : mj_hz mm pc q z = true) : z.1 ≤ pc ∧ pc < z.2.1 ∧ z.2.2.2 ≠ 0 ∧ q.1 < 2 ∧ (mj_mo mm, q.1, z.2.2.2) ∈ mj_pH ∧ mj_tg mm q.2.1 = true ∧ ((decode (mj_mb mm) z.2.2.1 = .ok (.astore q.2.2, 2) ∧ q.2.1 = z.2.2.1 + 2) ∨ (q.2.2 = 3 ∧ decode (mj_mb mm) z.2.2.1 = .ok (.astore_n 3, 1) ∧ q.2.1 = z.2.2.1 + 1)) := by
  simp only [mj_hz, Bool.and_eq_true, Bool.or_eq_true, decide_eq_true_eq, List.contains_iff_mem, beq_iff_eq] at h
  obtain ⟨⟨⟨⟨⟨⟨a1, a2⟩, a3⟩, a4⟩, a5⟩, a6⟩, a7⟩ := h
  refine ⟨a1, a2, a3, a4, a5, a6, ?_⟩
  rcases a7 with ⟨b1, b2⟩ | ⟨⟨b0, b1⟩, b2⟩
  · exact Or.inl ⟨mj_dk_ok b1, b2⟩
  · exact Or.inr ⟨b0, mj_dk_ok b1, b2⟩
section S
variable {p : Program} {l : Launch} {e : Env} {R : Room} {s : State} {m : MethodId} {args : Array Value} {below : List Frame} {meth : Method} {c : Code} {H : Heap} {locs : List Loc} {cells slots : Nat} {Qf : State → Prop}
variable {D : va_G} {ca : Nat → ClassId} {base : Nat} {ext : Nat → Nat} {mm : Nat}
variable {is : List mj_O} {lo : mj_Lo} {st rest : List Value} {σ τ : mj_S} {bc bs pc a b x k d : Nat} {ls : Array Slot} {Q : mj_Q}
/-- the store of what was caught: nothing is said of that local from there on -/
theorem mj_LR.no {base : Nat} {ext : Nat → Nat} {lo : mj_Lo} {ls ls' : Array Slot} {nL a : Nat} {w : Value} (h : mj_LR (mj_cv base ext) lo ls nL) (hn : mj_nlo lo a = true)
    (h2 : lv_has ls' nL ((a, w) :: (mj_ll (mj_cv base ext) lo 0).filter (fun q => !(q.1 == a) && !(q.1 + 1 == a && q.2.category == 2)))) : mj_LR (mj_cv base ext) (mj_set lo a none) ls' nL := by
  refine ⟨by rw [mj_set_len]; exact h.1, h2.1, h2.2.1, fun q hq => ?_⟩
  obtain ⟨i, w, hg, rfl⟩ := mj_ll_inv hq
  rw [Nat.zero_add]
  by_cases e : i = a
  · subst e
    cases mj_get_eq hg
  · rw [mj_get_ne e] at hg
    refine h2.2.2 _ (List.mem_cons_of_mem _ (List.mem_filter.mpr ⟨?_, ?_⟩))
    · have h3 := mj_ll_mem (cv := mj_cv base ext) (o := 0) hg
      rw [Nat.zero_add] at h3
      exact h3
    · by_cases e2 : i + 1 = a
      · subst e2
        have h4 := mj_nlo_cat hn hg
        have h5 : ¬ (mj_cv base ext w).category = 2 := by rw [mj_cv_cat]; exact h4
        simp [h5]
      · simp [e, e2]
theorem mj_caught (C : mj_Cx p s m args meth c D ca base mm) (fH : mj_fcH) (hE : mj_X base ext s s.heap) (hlr : mj_LR (mj_cv base ext) lo ls (mj_ml mm)) (hk : mj_hk mm pc (mj_ht b) (mj_hh mm) = true) {q : Nat × Nat × Nat} (hq : q ∈ mj_ht b) (hlt : q.2.2 < lo.length) (hnl : mj_nlo lo q.2.2 = true) {ad : Addr} {ce : Cell} (hcell : H[ad]? = some ce) (hv : ce.vm = .none) (hcl : s.vm.findClass (mj_xn q.1) = some ce.cls)
    (kk : ∀ ls', mj_LR (mj_cv base ext) (mj_set lo q.2.2 none) ls' (mj_ml mm) → W p l e R s m args below meth c H locs cells slots Qf (F0 m q.2.1 ls' [])) : vx_W p l e R s m args below meth c H locs cells slots Qf (F0 m pc ls rest) ad := by
  obtain ⟨hx, hb, hml, hown, hts, -, -, -, -, -, htab⟩ := C
  obtain ⟨pre, z, suf, e1, hz, hpre⟩ := mj_hk_at hk hq
  obtain ⟨z1, z2, z3, z4, z5, z6, z7⟩ := mj_hz_ok hz
  have hnc : ∀ q' : Nat × Nat × Nat, q'.1 < 2 → q'.1 ≠ q.1 → va_Nc (mj_xn q.1) (mj_xn q'.1) s := by
    intro q' h1 h2
    rcases (by omega : (q.1 = 0 ∧ q'.1 = 1) ∨ (q.1 = 1 ∧ q'.1 = 0)) with ⟨h3, h4⟩ | ⟨h3, h4⟩
    · rw [h3, h4]; exact hE.2.2.2.2.2.2.2.2.2.2.1
    · rw [h3, h4]; exact hE.2.2.2.2.2.2.2.2.2.2.2.1
  refine vx_catch (own := mj_cn (mj_mo mm)) (name := mj_xn q.1) (E := mj_xn q.1) (ce := ce) hown (tableOf pre) { startPc := z.1, endPc := z.2.1, handlerPc := z.2.2.1, catchType := z.2.2.2 } (tableOf suf) (by rw [htab, e1]; simp [tableOf]) ?_ ?_ z3 (hts _ (fH _ z5)) (va_Nw.use rfl (hE.2.1 q.1)) hcell hv hcl ?_
  · intro y hy
    simp only [tableOf, List.mem_map] at hy
    obtain ⟨y0, hy0, rfl⟩ := hy
    obtain ⟨q', g1, g2⟩ := hpre y0 hy0
    obtain ⟨w1, w2, w3, w4, w5, -⟩ := mj_hz_ok g2
    exact Or.inr ⟨w3, mj_xn q'.1, hts _ (fH _ w5), hnc q' w4 g1⟩
  · simp [covers, z1, z2]
  · rcases z7 with ⟨k1, k2⟩ | ⟨k0, k1, k2⟩
    · exact lv_astore hx hb k1 hlr.2 (by rw [← hlr.1]; exact hlt) rfl (fun ls' h2 => by
        have h3 := kk ls' (hlr.no hnl h2)
        rw [k2] at h3
        exact h3)
    · exact lv_astore_n hx hb k1 k0.symm hlr.2 (by rw [← hlr.1]; exact hlt) rfl (fun ls' h2 => by
        have h3 := kk ls' (hlr.no hnl h2)
        rw [k2] at h3
        exact h3)
theorem mj_s66 (C : mj_Cx p s m args meth c D ca base mm) (hw : ∀ w ∈ mj_ws mm, w.before args s = true) (fM : mj_fcM) (fQ : mj_fcQ) (fS : mj_fcS) (fK : mj_fcK) (fH : mj_fcH) (hca : mj_cas ca s) (hE : mj_X base ext s s.heap) (hH : mj_H D ca base σ H) (hS : va_S (mj_A base) s.heap H locs) (hlr : mj_LR (mj_cv base ext) lo ls (mj_ml mm)) (ck : mj_ckop mm pc 66 a b x is = true) {As : List Value} {Q2 : mj_Q}
    (hct : mj_Ct l D ca base ext d a (.ref k :: As) σ Q2) (hAs : As.length = mj_mn a) (hs : mj_sh k = 10 + mj_mo a) (hk : k < σ.1) (hcs : mj_cs rest ≤ 8) (hc1 : cells + mj_mc a ≤ R.cells) (hs1 : slots + mj_ms a ≤ R.slots) (hR1 : d + 9 ≤ R.frames) (hR2 : 100 * d + 300 ≤ R.locals)
    (kk : ∀ (v : Option Value) (τ : mj_S) (H1 : Heap) (locs1 : List Loc), Q2 (.inl v) τ → mj_H D ca base τ H1 → va_S (mj_A base) s.heap H1 locs1 → W p l e R s m args below meth c H1 locs1 (cells + mj_mc a) (slots + mj_ms a) Qf (F0 m (mj_pc is) ls ((v.toList ++ rest).map (mj_cv base ext))))
    (kx : ∀ (k : Nat) (τ : mj_S) (H1 : Heap) (locs1 : List Loc) (q : Addr) (ce : Cell), Q2 (.inr k) τ → mj_H D ca base τ H1 → va_S (mj_A base) s.heap H1 locs1 → H1[q]? = some ce → ce.vm = .none → s.vm.findClass (mj_xn k) = some ce.cls → vx_W p l e R s m args below meth c H1 locs1 (cells + mj_mc a) (slots + mj_ms a) Qf (F0 m pc ls (rest.map (mj_cv base ext))) q) :
    W p l e R s m args below meth c H locs cells slots Qf (F0 m pc ls ((As.reverse ++ .ref k :: rest).map (mj_cv base ext))) := by
  have C0 := C
  obtain ⟨hx, hb, hml, hown, hts, hK, -⟩ := C
  simp only [mj_ckop, Bool.and_eq_true, List.contains_iff_mem] at ck
  obtain ⟨⟨⟨hm, ck⟩, hkd⟩, -⟩ := ck
  obtain ⟨k1, k2⟩ := mj_df_ok ck
  rw [k2] at kk
  obtain ⟨-, hcode, hcl, hmh, hvh, hdesc, hini, hml9, h0, -, -, -, -, hhe⟩ := fQ _ hkd
  have hhe : mj_hh a = [] := hhe (fun z => by cases z)
  obtain ⟨hinst, hsel, ho13⟩ := h0 rfl
  have hml8 : mj_ml a ≤ 60 := hml9
  obtain ⟨Cn, T, hc⟩ := fS k _ hs
  have hG := mj_good_in (mm := mm) hcode
  rw [mj_map_rev]
  refine mj_after (rest := rest.map (mj_cv base ext)) (v0 := (.ref (base + k) :: As.map (mj_cv base ext)).toArray) (mc := mj_mc a) (ms := mj_ms a) hS (vx_runV (own := mj_cn (mj_mo mm)) (C := (mj_my a).cls) (Ts := mj_ws mm) (nL := mj_ml mm) (As := As.map (mj_cv base ext)) (b := base + k) (n := mj_mn a) ⟨hx, hb, hml, hown, hw⟩ hct ⟨callB_of (ws' := mj_mw) (mj_mn a) hw hG (mj_ws_c hhe) rfl rfl (hts _ hini) (hts _ (fM _ hm)) ⟨hmh, hvh, hdesc⟩ ⟨by show d + 8 + 1 ≤ _; omega, by show 8 + (mj_ml a + 11) + (100 * d + 200) ≤ _; omega⟩, hts _ hinst, hts _ hsel⟩ ⟨mj_blind, ?_, mj_pre C0 hH hca hE hS⟩ rfl (by rw [List.length_map]; exact hAs) hlr.2.1 rfl (by show 2 * 0 + _ ≤ 8; rw [mj_cv_cs]; omega) k1 ⟨hc1, hs1⟩) (fun v τ H1 locs1 g1 g2 g3 => ?_) kx
  · obtain ⟨cell, c1, c2, c3⟩ := va_recv (q0 := k) hK hH.1 hc (by rw [mj_wd_get hk, mj_ce_o hs])
    refine ⟨cell, c1, c2, ?_⟩
    rw [hcl]
    rw [mj_cn_eq fK hc]
    exact c3
  · have h9 := kk v τ H1 locs1 g1 g2 g3
    rw [List.map_append] at h9
    cases v <;> exact h9
theorem mj_s69 (C : mj_Cx p s m args meth c D ca base mm) (hw : ∀ w ∈ mj_ws mm, w.before args s = true) (fM : mj_fcM) (fQ : mj_fcQ) (hca : mj_cas ca s) (hE : mj_X base ext s s.heap) (hH : mj_H D ca base σ H) (hS : va_S (mj_A base) s.heap H locs) (hlr : mj_LR (mj_cv base ext) lo ls (mj_ml mm)) (ck : mj_ckop mm pc 69 a b x is = true) {As : List Value} {Q2 : mj_Q}
    (hct : mj_Ct l D ca base ext d a As σ Q2) (hno : ∀ k τ, ¬ Q2 (.inr k) τ) (hAs : As.length = mj_mn a) (hcs : mj_cs rest ≤ 8) (hc1 : cells + mj_mc a ≤ R.cells) (hs1 : slots + mj_ms a ≤ R.slots) (hR1 : d + 9 ≤ R.frames) (hR2 : 100 * d + 300 ≤ R.locals)
    (kk : ∀ (v : Option Value) (τ : mj_S) (H1 : Heap) (locs1 : List Loc), Q2 (.inl v) τ → mj_H D ca base τ H1 → va_S (mj_A base) s.heap H1 locs1 → W p l e R s m args below meth c H1 locs1 (cells + mj_mc a) (slots + mj_ms a) Qf (F0 m (mj_pc is) ls ((v.toList ++ rest).map (mj_cv base ext)))) :
    W p l e R s m args below meth c H locs cells slots Qf (F0 m pc ls ((As.reverse ++ rest).map (mj_cv base ext))) := by
  have C0 := C
  obtain ⟨hx, hb, hml, hown, hts, hK, -⟩ := C
  simp only [mj_ckop, Bool.and_eq_true, List.contains_iff_mem] at ck
  obtain ⟨⟨hm, ck⟩, hkd⟩ := ck
  obtain ⟨k1, k2⟩ := mj_df_ok ck
  rw [k2] at kk
  obtain ⟨-, hcode, hcl, hmh, hvh, hdesc, hini, hml9, -, -, -, -, h0, -⟩ := fQ _ hkd
  obtain ⟨hsta, hhe⟩ := h0 rfl
  have hml8 : mj_ml a ≤ 60 := hml9
  have hhe : mj_hh a ≠ [] := hhe
  have gw : ∀ w ∈ mj_mw, GoodIn (mj_ws mm) [w] := fun w hw w' h => by
    rw [List.mem_singleton.mp h]
    exact ⟨List.mem_cons_of_mem _ hw, good_of_word (List.mem_filter.mp hw).2⟩
  have hG : GoodIn (mj_ws mm) (va_wsS (mj_cn (mj_mo mm)) x (mj_my a) (mj_ws a)) := by
    intro w hw9
    unfold va_wsS at hw9
    rcases List.mem_append.mp hw9 with h | h
    · simp only [List.mem_cons, List.not_mem_nil, or_false] at h
      rcases h with rfl | rfl | rfl
      · exact gw _ (fM _ hm) _ List.mem_cons_self
      · exact gw _ hsta _ List.mem_cons_self
      · exact gw _ hini _ List.mem_cons_self
    · exact mj_good_in (mm := mm) hcode w h
  have hcn : vx_CSW R s args (mj_cn (mj_mo mm)) x (mj_my a) (mj_mb a) (mj_ml a) (mj_mr a) (mj_hh a) (mj_ws a) (mj_rm d a) (mj_mc a) (mj_ms a) (mj_mn a) := vx_cwSW (ws' := mj_mw) (mj_mn a) hw hG (by unfold mj_ws; rw [mj_cw_h hhe]) rfl rfl ⟨hmh, hvh, hdesc⟩ ⟨by show d + 8 + 1 ≤ _; omega, by show 8 + (mj_ml a + 11) + (100 * d + 200) ≤ _; omega⟩
  have hMt := mj_Met hct hno
  have hroom : 2 * (F0 m pc ls ((As.map (mj_cv base ext)).reverse ++ rest.map (mj_cv base ext))).monitorRoom + ((rest.map (mj_cv base ext)).map fun v => v.category).sum ≤ 8 := by show 2 * 0 + _ ≤ 8; rw [mj_cv_cs]; omega
  have hrun := vx_runSW (p := p) (l := l) (e := e) (below := below) (meth := meth) (H := H) (locs := locs) (cells := cells) (slots := slots) (g := F0 m pc ls ((As.map (mj_cv base ext)).reverse ++ rest.map (mj_cv base ext))) (rest := rest.map (mj_cv base ext)) (As := As.map (mj_cv base ext)) (Ts := mj_ws mm) (nL := mj_ml mm) (cc := mj_mb mm) ⟨hx, hb, hml, hown, hw⟩ hMt hcn ⟨mj_blind, mj_pre C0 hH hca hE hS⟩ rfl (by rw [List.length_map]; exact hAs) hlr.2.1 rfl hroom k1 ⟨hc1, hs1⟩
  rw [mj_map_rev]
  refine mj_afterM (rest := rest.map (mj_cv base ext)) (v0 := (As.map (mj_cv base ext)).toArray) (mc := mj_mc a) (ms := mj_ms a) hS hrun (fun v τ H1 locs1 g1 g2 g3 => ?_)
  have h9 := kk v τ H1 locs1 g1 g2 g3
  rw [List.map_append] at h9
  cases v <;> exact h9
end S
end
section
/-! soundness: the whole -/
def mj_ckL (mm : Nat) : List mj_O → Bool
  | [] => true
  | o :: is => mj_ckop mm o.1 o.2.1 o.2.2.1 o.2.2.2.1 o.2.2.2.2 is && mj_ckL mm is
theorem mj_ckL_at {mm : Nat} {o : mj_O} {is : List mj_O} : ∀ {pre : List mj_O}, mj_ckL mm (pre ++ o :: is) = true → mj_ckop mm o.1 o.2.1 o.2.2.1 o.2.2.2.1 o.2.2.2.2 is = true
  | [], h => by
    simp only [List.nil_append, mj_ckL, Bool.and_eq_true] at h
    exact h.1
  | _ :: r, h => by
    simp only [List.cons_append, mj_ckL, Bool.and_eq_true] at h
    exact mj_ckL_at (pre := r) h.2
def mj_FC : Prop := mj_fcF ∧ mj_fcK ∧ mj_fcS ∧ mj_fcI ∧ mj_fcJ ∧ mj_fcO ∧ mj_fcA ∧ mj_fcC ∧ mj_fcR ∧ mj_fcM ∧ mj_fcQ ∧ mj_fcT ∧ mj_fcV ∧ mj_fcH ∧ mj_fcX
def mj_lnb : Prop := ∀ k, mj_ln k < 2 ^ 20
section S
variable {p : Program} {l : Launch} {e : Env} {R : Room} {s : State} {m : MethodId} {args : Array Value} {below : List Frame} {meth : Method} {c : Code}
variable {D : va_G} {ca : Nat → ClassId} {base : Nat} {ext : Nat → Nat} {mm d : Nat} {Q : mj_Q} {Φ : mj_F}
set_option maxHeartbeats 4000000 in
theorem mj_closed (FC : mj_FC) (hlb : mj_lnb) (ok : mj_ckL mm (mj_code mm 0) = true) (C : mj_Cx p s m args meth c D ca base mm) (hw : ∀ w ∈ mj_ws mm, w.before args s = true) (hca : mj_cas ca s) (hE : mj_X base ext s s.heap) (hl : l.stackTraces = false)
    (hΦ : ∀ a as σ Q2, Φ a as σ Q2 → mj_Ct l D ca base ext d a as σ Q2) (hΦ0 : ∀ i σ Q2, Φ 1000 [.int i] σ Q2 → vp_in i (ext 999) ∧ Q2 (.inl (some (.int (mj_sci ext i.toNatClampNeg)))) σ) (hΦ1 : ∀ σ Q2, Φ 1001 [] σ Q2 → Q2 (.inl (some (.int (nI (ext 999))))) σ) (hR1 : d + 9 ≤ R.frames) (hR2 : 100 * d + 300 ≤ R.locals) (hRc : R.cells = mj_mc mm) (hRs : R.slots = mj_ms mm) :
    mj_cl Φ (mj_code mm) Q (mj_WG p l e R s m args below meth c (vx_MQ below (mj_Qc D ca base ext Q) (mj_XC D ca base Q) args s (mj_mc mm) (mj_ms mm) (mj_A base)) D ca base ext mm) := by
  obtain ⟨fF, fK, fS, fI, fJ, fO, fA, fC, fR, fM, fQ, fT, fV, fH, fX⟩ := FC
  intro cs lo st σ bc bs h
  cases cs with
  | nil => exact h.elim
  | cons o is =>
    obtain ⟨pc, op, a, b, x⟩ := o
    intro hsuf H locs cells slots ls hlr hH hS hc hs
    have ck : mj_ckop mm pc op a b x is = true := by
      obtain ⟨pre, hp⟩ := hsuf
      rw [hp] at ok
      exact mj_ckL_at ok
    have hn : ∃ pre, mj_code mm 0 = pre ++ is := by
      obtain ⟨pre, hp⟩ := hsuf
      exact ⟨pre ++ [(pc, op, a, b, x)], by rw [hp, List.append_assoc]; rfl⟩
    have hcc : cells ≤ mj_mc mm := by omega
    have hss : slots ≤ mj_ms mm := by omega
    show W p l e R s m args below meth c H locs cells slots _ (F0 m pc ls (st.map (mj_cv base ext)))
    have go : ∀ {lo2 : mj_Lo} {st2 : List Value} {ls2 : Array Slot}, mj_WG p l e R s m args below meth c (vx_MQ below (mj_Qc D ca base ext Q) (mj_XC D ca base Q) args s (mj_mc mm) (mj_ms mm) (mj_A base)) D ca base ext mm is lo2 st2 σ bc bs → mj_LR (mj_cv base ext) lo2 ls2 (mj_ml mm) → W p l e R s m args below meth c H locs cells slots (vx_MQ below (mj_Qc D ca base ext Q) (mj_XC D ca base Q) args s (mj_mc mm) (mj_ms mm) (mj_A base)) (F0 m (mj_pc is) ls2 (st2.map (mj_cv base ext))) := fun hg hl2 => hg hn H locs cells slots _ hl2 hH hS hc hs
    have goS : ∀ {st2 : List Value} {τ : mj_S}, mj_WG p l e R s m args below meth c (vx_MQ below (mj_Qc D ca base ext Q) (mj_XC D ca base Q) args s (mj_mc mm) (mj_ms mm) (mj_A base)) D ca base ext mm is lo st2 τ bc bs → ∀ (H1 : Heap) (locs1 : List Loc), mj_H D ca base τ H1 → va_S (mj_A base) s.heap H1 locs1 → W p l e R s m args below meth c H1 locs1 cells slots (vx_MQ below (mj_Qc D ca base ext Q) (mj_XC D ca base Q) args s (mj_mc mm) (mj_ms mm) (mj_A base)) (F0 m (mj_pc is) ls (st2.map (mj_cv base ext))) := fun hg H1 locs1 h1 h2 => hg hn H1 locs1 cells slots _ hlr h1 h2 hc hs
    have jmp : ∀ {t : Nat} {st2 : List Value}, mj_tg mm t = true → mj_WG p l e R s m args below meth c (vx_MQ below (mj_Qc D ca base ext Q) (mj_XC D ca base Q) args s (mj_mc mm) (mj_ms mm) (mj_A base)) D ca base ext mm (mj_code mm t) lo st2 σ bc bs → W p l e R s m args below meth c H locs cells slots (vx_MQ below (mj_Qc D ca base ext Q) (mj_XC D ca base Q) args s (mj_mc mm) (mj_ms mm) (mj_A base)) (F0 m t ls (st2.map (mj_cv base ext))) := by
      intro t st2 ht hg
      obtain ⟨h1, h2⟩ := mj_tg_ok ht
      have h3 := hg h1 H locs cells slots ls hlr hH hS hc hs
      rw [h2] at h3
      exact h3
    have out : ∀ {k : Nat} {τ : mj_S} {H1 : Heap} {locs1 : List Loc} {q : Addr} {ce : Cell} {cl sl : Nat} {r2 : List Value}, mj_hh mm = [] → Q (.inr k) τ → mj_H D ca base τ H1 → va_S (mj_A base) s.heap H1 locs1 → H1[q]? = some ce → ce.vm = .none → s.vm.findClass (mj_xn k) = some ce.cls → cl ≤ mj_mc mm → sl ≤ mj_ms mm → vx_W p l e R s m args below meth c H1 locs1 cl sl (vx_MQ below (mj_Qc D ca base ext Q) (mj_XC D ca base Q) args s (mj_mc mm) (mj_ms mm) (mj_A base)) (F0 m pc ls r2) q := by
      intro k τ H1 locs1 q ce cl sl r2 hem g1 g2 g3 g4 g5 g6 g7 g8
      exact vx_out (fun z hz => by
        rw [C.2.2.2.2.2.2.2.2.2.2, hem] at hz
        cases hz) C.2.2.2.2.2.2.2.1 g4 g5 g6 (fun t ht _ => ⟨k, τ, rfl, g1, by rw [ht]; exact g2, g3.F ht⟩) g3.2.2 g7 g8
    change mj_op Φ (mj_code mm) Q _ op a b is lo st σ bc bs at h
    unfold mj_op at h
    split at h
    · exact mj_s0 C fI ck (go h hlr)
    · exact mj_s1 C fI ck (go h hlr)
    · exact mj_s2 C fJ ck (go h hlr)
    · obtain ⟨v, hg, h⟩ := h; exact mj_s3 C hlr ck hg (go h hlr)
    · obtain ⟨v, hg, h⟩ := h; exact mj_s4 C hlr ck hg (go h hlr)
    · obtain ⟨v, hg, h⟩ := h; exact mj_s5 C hlr ck hg (go h hlr)
    · obtain ⟨v, rest, rfl, h1, h2, h⟩ := h; exact mj_s6 C hlr ck h1 h2 (fun ls' hl' => go h hl')
    · obtain ⟨v, rest, rfl, h1, h2, h⟩ := h; exact mj_s7 C hlr ck h1 h2 (fun ls' hl' => go h hl')
    · obtain ⟨v, rest, rfl, h1, h2, h⟩ := h; exact mj_s8 C hlr ck h1 h2 (fun ls' hl' => go h hl')
    · obtain ⟨v, hg, h2, h⟩ := h; exact mj_s9 C hlr ck hg h2 (fun ls' hl' => go h hl')
    · obtain ⟨v, hg, h2, h⟩ := h; exact mj_s10 C hlr ck hg h2 (fun ls' hl' => go h hl')
    · obtain ⟨u, v, r, rest, rfl, h1, h⟩ := h; exact mj_s11 C ck h1 (go h hlr)
    · obtain ⟨u, r, rest, rfl, h1, h⟩ := h; exact mj_s12 C ck h1 (go h hlr)
    · obtain ⟨u, v, r, rest, rfl, h1, h⟩ := h; exact mj_s13 C ck h1 (go h hlr)
    · obtain ⟨u, v, rest, rfl, h⟩ := h; exact mj_s14 C ck (go h hlr)
    · obtain ⟨v, rest, rfl, h⟩ := h; exact mj_s15 C ck (go h hlr)
    · obtain ⟨v, rest, rfl, h⟩ := h; exact mj_s16 C ck (go h hlr)
    · obtain ⟨u, v, rest, rfl, h⟩ := h; exact mj_s17 C ck (go h hlr)
    · obtain ⟨v, rest, rfl, h1, h⟩ := h; exact mj_s18 C ck (by rw [mj_cv_cat]; exact h1) (go h hlr)
    · obtain ⟨v, rest, rfl, h1, h⟩ := h; exact mj_s19 C ck (by rw [mj_cv_cat]; exact h1) (go h hlr)
    · obtain ⟨v, w, rest, rfl, h1, h2, h⟩ := h; exact mj_s20 C ck (by rw [mj_cv_cat]; exact h1) (by rw [mj_cv_cat]; exact h2) (go h hlr)
    · obtain ⟨v, rest, rfl, h1, h2⟩ := h
      have ht : mj_tg mm b = true := by simp only [mj_ckop, Bool.and_eq_true] at ck; exact ck.2
      exact mj_s21 C ck (fun q => jmp ht (h1 q)) (fun q => go (h2 q) hlr)
    · obtain ⟨u, v, rest, rfl, h1, h2⟩ := h
      have ht : mj_tg mm b = true := by simp only [mj_ckop, Bool.and_eq_true] at ck; exact ck.2
      exact mj_s22 C ck (fun q => jmp ht (h1 q)) (fun q => go (h2 q) hlr)
    · have ht : mj_tg mm b = true := by simp only [mj_ckop, Bool.and_eq_true] at ck; exact ck.2
      exact mj_s23 C ck (jmp ht h)
    · obtain ⟨v, rest, rfl, h⟩ := h
      have ht : mj_tg mm (mj_sw (mj_swt a) b v) = true := by
        simp only [mj_ckop, Bool.and_eq_true, List.all_eq_true] at ck
        rcases mj_sw_in (mj_swt a) b v with q | ⟨z, hz, q⟩
        · rw [q]; exact ck.1.1
        · rw [q]; exact ck.1.2 z hz
      exact mj_s24 C ck (jmp ht h)
    · obtain ⟨rfl, h⟩ := h; exact mj_s25 C hH hS ck hcc hss h
    · obtain ⟨v, rfl, h⟩ := h; exact mj_s26 C hH hS ck hcc hss h
    · obtain ⟨v, rfl, h1, h⟩ := h; exact mj_s27 C hH hS ck hcc hss h1 h
    · obtain ⟨v, rfl, h⟩ := h; exact mj_s28 C hH hS ck hcc hss h
    · obtain ⟨v, rfl, h⟩ := h; exact mj_s29 C hH hS ck hcc hss h
    · obtain ⟨h1, h2, h3, h4, h⟩ := h; exact mj_s30 C hl fT hE hH hS hlr ck (by rw [mj_cv_cs]; exact h3) h4 (by omega) (by omega) (by omega) (by omega) (by omega) (by omega) h
    · obtain ⟨k, rest, rfl, h1, h2, h⟩ := h; exact mj_s31 C fF fK fS hH h1 h2 ck (go h hlr)
    · obtain ⟨k, rest, rfl, h1, h2, h⟩ := h; exact mj_s32 C fF fK fS hH h1 h2 ck (go h hlr)
    · obtain ⟨k, r, rest, rfl, h1, h2, h3, h⟩ := h; exact mj_s33 C fF fK fS hH h1 h2 ck h3 (go h hlr)
    · obtain ⟨v, k, rest, rfl, h1, h2, h⟩ := h; exact mj_s34 C fF fK fS hH hS h1 h2 ck (goS h)
    · obtain ⟨v, k, rest, rfl, h1, h2, h3, h⟩ := h; exact mj_s35 C fF fK fS hH hS h1 h2 ck h3 (goS h)
    · obtain ⟨v, k, rest, rfl, h1, h2, h⟩ := h; exact mj_s36 C fF fK fS hH hS h1 h2 ck (goS h)
    · obtain ⟨v, k, rest, rfl, h1, h2, h⟩ := h; exact mj_s37 C fF fK fS hH hS h1 h2 ck (goS h)
    · obtain ⟨i, k, rest, rfl, h1, h2, h3, h⟩ := h; exact mj_s38 C hH h1 h2 ck h3 (go h hlr)
    · obtain ⟨i, k, rest, rfl, h1, h2, h3, h⟩ := h; exact mj_s39 C hH h1 h2 ck h3 (go h hlr)
    · obtain ⟨i, k, rest, rfl, h1, h2, h3, h⟩ := h; exact mj_s40 C hH h1 h2 ck h3 (go h hlr)
    · obtain ⟨i, k, rest, rfl, h1, h2, h3, h⟩ := h; exact mj_s41 C hH h1 h2 ck h3 (go h hlr)
    · obtain ⟨v, i, k, rest, rfl, h1, h2, h3, h⟩ := h; exact mj_s42 C hH hS h1 h2 ck h3 (goS h)
    · obtain ⟨v, i, k, rest, rfl, h1, h2, h3, h⟩ := h; exact mj_s43 C hH hS h1 h2 ck h3 (goS h)
    · obtain ⟨v, i, k, rest, rfl, h1, h2, h3, h⟩ := h; exact mj_s44 C hH hS h1 h2 ck h3 (goS h)
    · obtain ⟨v, i, k, rest, rfl, h1, h2, h3, h⟩ := h; exact mj_s45 C hH hS h1 h2 ck h3 (goS h)
    · obtain ⟨k, rest, rfl, h1, h2, h3, h⟩ := h; exact mj_s46 C hH h1 h2 h3 ck (go h hlr)
    · obtain ⟨k, As, rest, rfl, h1, h2, h3, h4, h5, h6, h⟩ := h
      have hem : mj_hh mm = [] := by
        simp only [mj_ckop, Bool.and_eq_true] at ck
        exact List.isEmpty_iff.mp ck.2
      refine mj_s47 C hw fM fQ fS fK hca hE hH hS hlr ck (hΦ _ _ _ _ h) h1 h2 h3 h4 (by omega) (by omega) hR1 hR2 (fun v τ H1 locs1 g1 g2 g3 => ?_) (fun k τ H1 locs1 q ce g1 g2 g3 g4 g5 g6 => out hem g1 g2 g3 g4 g5 g6 (by omega) (by omega))
      cases v with
      | none => exact g1 hn H1 locs1 _ _ ls hlr g2 g3 (by omega) (by omega)
      | some v => exact g1 hn H1 locs1 _ _ ls hlr g2 g3 (by omega) (by omega)
    · obtain ⟨As, rest, rfl, h1, h4, h5, h6, h⟩ := h
      have hem : mj_hh mm = [] := by
        simp only [mj_ckop, Bool.and_eq_true] at ck
        exact List.isEmpty_iff.mp ck.2
      refine mj_s48 C hw fM fQ hca hE hH hS hlr ck (hΦ _ _ _ _ h) h1 h4 (by omega) (by omega) hR1 hR2 (fun v τ H1 locs1 g1 g2 g3 => ?_) (fun k τ H1 locs1 q ce g1 g2 g3 g4 g5 g6 => out hem g1 g2 g3 g4 g5 g6 (by omega) (by omega))
      cases v with
      | none => exact g1 hn H1 locs1 _ _ ls hlr g2 g3 (by omega) (by omega)
      | some v => exact g1 hn H1 locs1 _ _ ls hlr g2 g3 (by omega) (by omega)
    · obtain ⟨k, As, rest, rfl, h1, h4, h5, h6, h⟩ := h
      refine mj_s49 C hw fM fQ hca hE hH hS hlr ck (hΦ _ _ _ _ h) (fun k τ z => z) h1 h4 (by omega) (by omega) hR1 hR2 (fun v τ H1 locs1 g1 g2 g3 => ?_)
      cases v with
      | none => exact g1 hn H1 locs1 _ _ ls hlr g2 g3 (by omega) (by omega)
      | some v => exact g1 hn H1 locs1 _ _ ls hlr g2 g3 (by omega) (by omega)
    · obtain ⟨As, rest, rfl, h1, h4, h5, h6, h⟩ := h
      refine mj_s50 C hw fQ hca hE hH hS hlr ck (hΦ _ _ _ _ h) (fun k τ z => z) h1 h4 (by omega) (by omega) hR1 hR2 (fun v τ H1 locs1 g1 g2 g3 => ?_)
      cases v with
      | none => exact g1 hn H1 locs1 _ _ ls hlr g2 g3 (by omega) (by omega)
      | some v => exact g1 hn H1 locs1 _ _ ls hlr g2 g3 (by omega) (by omega)
    · obtain ⟨k, rest, rfl, h1, h⟩ := h; exact mj_s51 C fO hlr ck (by rw [mj_cv_cs]; exact h1) (by omega) (by omega) (go h hlr)
    · obtain ⟨h1, h2, h3, h⟩ := h
      exact mj_s52 C fC fK fS hH hS h1 ck (by omega) (by omega) (fun H1 g2 g3 => h hn H1 locs _ _ ls hlr g2 g3 (by omega) (by omega))
    · obtain ⟨rest, rfl, h1, h2, h3, h⟩ := h
      exact mj_s53 C fR hca hH hS h1 (hlb _) ck (by omega) (by omega) (fun H1 g2 g3 => h hn H1 locs _ _ ls hlr g2 g3 (by omega) (by omega))
    · obtain ⟨n, dp, d0, sp, s0, rest, rfl, h1, h2, h3, h4, h5, h6, h7, h8, h9, h10, h⟩ := h
      exact mj_s54 C fA hH hS hlr h1 h2 h3 h4 ck h5 h6 h7 h8 h9 (by rw [mj_cv_cs]; exact h10) (by omega) (by omega) (goS h)
    · exact mj_s55 C hE ck (go h hlr)
    · obtain ⟨k, rest, rfl, h1, h⟩ := h; exact mj_s56 C fV hE hS ck h1 (go h hlr)
    · obtain ⟨k, rest, rfl, h1, h⟩ := h; exact mj_s57 C fV hE hS ck h1 (go h hlr)
    · exact mj_s58 C fV hE hS ck (go h hlr)
    · exact mj_s59 C fV hE hS ck (go h hlr)
    · obtain ⟨k, rest, rfl, h1, h⟩ := h; exact mj_s60 C hE hS ck h1 (go h hlr)
    · obtain ⟨i, k, rest, rfl, h1, h2, h⟩ := h; exact mj_s61 C hE hS ck h1 h2 (go h hlr)
    · obtain ⟨k, As, rest, rfl, h0, h1, h4, h5, h6, h⟩ := h
      refine mj_s62 C hw fM fQ hca hE hH hS hlr ck (hΦ _ _ _ _ h) (fun k τ z => z) h0 h1 h4 (by omega) (by omega) hR1 hR2 (fun v τ H1 locs1 g1 g2 g3 => ?_)
      cases v with
      | none => exact g1 hn H1 locs1 _ _ ls hlr g2 g3 (by omega) (by omega)
      | some v => exact g1 hn H1 locs1 _ _ ls hlr g2 g3 (by omega) (by omega)
    · obtain ⟨v, hg, h⟩ := h; exact mj_s63 C hlr ck hg (go h hlr)
    · obtain ⟨v, rfl, h1, h⟩ := h; exact mj_s64 C hH hS ck hcc hss h1 h
    · obtain ⟨v, rfl, h1, h⟩ := h; exact mj_s65 C hH hS ck hcc hss h1 h
    · obtain ⟨k, As, rest, rfl, h1, h2, h3, h4, h5, h6, h⟩ := h
      have hk : mj_hk mm pc (mj_ht b) (mj_hh mm) = true := by
        simp only [mj_ckop, Bool.and_eq_true] at ck
        exact ck.2
      refine mj_s66 C hw fM fQ fS fK fH hca hE hH hS hlr ck (hΦ _ _ _ _ h) h1 h2 h3 h4 (by omega) (by omega) hR1 hR2 (fun v τ H1 locs1 g1 g2 g3 => ?_) (fun k τ H1 locs1 q ce g1 g2 g3 g4 g5 g6 => ?_)
      · cases v with
        | none => exact g1 hn H1 locs1 _ _ ls hlr g2 g3 (by omega) (by omega)
        | some v => exact g1 hn H1 locs1 _ _ ls hlr g2 g3 (by omega) (by omega)
      · obtain ⟨q0, hq, rfl, hl1, hl2, hg⟩ := g1
        refine mj_caught C fH hE hlr hk hq hl1 hl2 g4 g5 g6 (fun ls' hl' => ?_)
        obtain ⟨-, z, -, -, hz, -⟩ := mj_hk_at hk hq
        obtain ⟨-, -, -, -, -, htg, -⟩ := mj_hz_ok hz
        obtain ⟨t1, t2⟩ := mj_tg_ok htg
        have h9 := hg t1 H1 locs1 (cells + mj_mc a) (slots + mj_ms a) ls' hl' g2 g3 (by omega) (by omega)
        rw [t2] at h9
        exact h9
    · obtain ⟨i, rest, rfl, h⟩ := h
      obtain ⟨h1, h2⟩ := hΦ0 _ _ _ h
      exact mj_s67 C hE hS ck h1 (go h2 hlr)
    · obtain ⟨rest, rfl, h⟩ := h
      exact mj_s68 C hE hS ck (go (hΦ1 _ _ h) hlr)
    · obtain ⟨As, rest, rfl, h1, h4, h5, h6, h⟩ := h
      refine mj_s69 C hw fM fQ hca hE hH hS hlr ck (hΦ _ _ _ _ h) (fun k τ z => z) h1 h4 (by omega) (by omega) hR1 hR2 (fun v τ H1 locs1 g1 g2 g3 => ?_)
      cases v with
      | none => exact g1 hn H1 locs1 _ _ ls hlr g2 g3 (by omega) (by omega)
      | some v => exact g1 hn H1 locs1 _ _ ls hlr g2 g3 (by omega) (by omega)
    · obtain ⟨u, v, rest, rfl, h1, h⟩ := h; exact mj_s70 C fX hlr ck (by omega) (by rw [mj_cv_cs]; omega) (by omega) (by omega) (go h hlr)
    · obtain ⟨u, v, rest, rfl, h1, h⟩ := h; exact mj_s71 C fX hlr ck (by omega) (by rw [mj_cv_cs]; omega) (by omega) (by omega) (go h hlr)
    · obtain ⟨u, rest, rfl, h1, h⟩ := h; exact mj_s72 C fX hlr ck (by omega) (by rw [mj_cv_cs]; omega) (by omega) (by omega) (go h hlr)
    · obtain ⟨u, v, rest, rfl, h1, h⟩ := h; exact mj_s73 C fX hlr ck (by omega) (by rw [mj_cv_cs]; omega) (by omega) (by omega) (go h hlr)
    · exact h.elim
end S
end
section
/-! soundness: a method's contract out of its run -/
theorem mj_ll_none (cv : Value → Value) : ∀ (n o : Nat), mj_ll cv (List.replicate n none) o = []
  | 0, _ => rfl
  | n + 1, o => by rw [List.replicate_succ]; exact mj_ll_none cv n (o + 1)
theorem mj_la1 {w : Value} {r : List Value} {o : Nat} (h : w.category = 1) : lv_args o (w :: r) = (o, w) :: lv_args (o + 1) r := by
  simp only [lv_args]
  rw [if_neg (by omega)]
theorem mj_la2 {w : Value} {r : List Value} {o : Nat} (h : w.category = 2) : lv_args o (w :: r) = (o, w) :: lv_args (o + 2) r := by
  simp only [lv_args]
  rw [if_pos h]
theorem mj_ll_args (base : Nat) (ext : Nat → Nat) (n : Nat) : ∀ (as : List Value) (o : Nat), mj_ll (mj_cv base ext) (mj_ar as ++ List.replicate n none) o = lv_args o (as.map (mj_cv base ext))
  | [], o => mj_ll_none _ n o
  | v :: t, o => by
    have ih1 := mj_ll_args base ext n t (o + 1)
    have ih2 := mj_ll_args base ext n t (o + 2)
    rw [List.map_cons]
    cases v
    case long x =>
      rw [mj_la2 rfl, ← ih2]
      rfl
    case double x =>
      rw [mj_la2 rfl, ← ih2]
      rfl
    all_goals
      rw [mj_la1 (by rw [mj_cv_cat]; rfl), ← ih1]
      rfl
theorem mj_sl_len (base : Nat) (ext : Nat → Nat) : ∀ (as : List Value), (lg_sl (as.map (mj_cv base ext))).length = (mj_ar as).length
  | [] => rfl
  | v :: t => by
    have ih := mj_sl_len base ext t
    have e : ∀ (w : Value) (r : List Value), lg_sl (w :: r) = (if w.category = 2 then [Slot.val w, .second] else [.val w]) ++ lg_sl r := fun w r => by simp [lg_sl]
    rw [List.map_cons, e, List.length_append, ih]
    rw [mj_cv_cat]
    cases v <;> simp [mj_ar, Value.category] <;> omega
theorem mj_entry (base : Nat) (ext : Nat → Nat) {as : List Value} {n : Nat} (h : (mj_ar as).length ≤ n) : mj_LR (mj_cv base ext) (mj_in n as) ((lg_sl (as.map (mj_cv base ext)) ++ List.replicate (n - (lg_sl (as.map (mj_cv base ext))).length) Slot.unset).toArray) n := by
  have h1 := lv_entry (as.map (mj_cv base ext)) (n := n) (by rw [mj_sl_len]; exact h)
  refine ⟨?_, ?_⟩
  · unfold mj_in
    rw [List.length_append, List.length_replicate]
    omega
  · rw [show mj_ll (mj_cv base ext) (mj_in n as) 0 = lv_args 0 (as.map (mj_cv base ext)) from mj_ll_args base ext _ as 0]
    exact h1
def mj_okm : Prop := ∀ mm, mm < 324 → mj_ckL mm (mj_code mm 0) = true ∧ mj_pc (mj_code mm 0) = 0 ∧ plainName (mj_my mm).cls = true ∧ (mj_my mm).cls = mj_cn (mj_mo mm)
theorem mj_run_nil {Φ : mj_F} {code : Nat → List mj_O} {Q : mj_Q} {lo : mj_Lo} {st : List Value} {σ : mj_S} {bc bs : Nat} (h : mj_run Φ code Q [] lo st σ bc bs) : False := by
  refine h (fun cs _ _ _ _ _ => cs ≠ []) (fun cs lo st σ bc bs h1 => ?_) rfl
  cases cs with
  | nil => exact h1.elim
  | cons o is => exact List.cons_ne_nil o is
theorem mj_code_out {mm : Nat} (h : mj_codel.length ≤ mm) : mj_code mm 0 = [] := by
  unfold mj_code
  rw [List.getD_eq_getElem?_getD, List.getElem?_eq_none h]
  rfl
theorem mj_ev_out {d mm : Nat} {as : List Value} {σ : mj_S} {Q : mj_Q} (hcl : mj_codel.length = 324) (h : mj_ev d mm as σ Q) : mm < 324 := by
  cases d with
  | zero => exact h.elim
  | succ d =>
    rcases Nat.lt_or_ge mm 324 with q | q
    · exact q
    · have h2 := h.2
      rw [mj_code_out (by omega)] at h2
      exact (mj_run_nil h2).elim
/-- what the small machine comes to, the machine comes to -/
theorem mj_sound (FC : mj_FC) (hlb : mj_lnb) (okm : mj_okm) (hcl : mj_codel.length = 324) {l : Launch} (hl : l.stackTraces = false) {D : va_G} {ca : Nat → ClassId} {base : Nat} {ext : Nat → Nat} : ∀ (d mm : Nat) (as : List Value) (σ : mj_S) (Q : mj_Q), mj_ev d mm as σ Q → mj_Ct l D ca base ext d mm as σ Q
  | 0, _, _, _, _, h => h.elim
  | d + 1, mm, as, σ, Q, h => by
    have hmm : mm < 324 := mj_ev_out hcl h
    obtain ⟨har, hrun⟩ := h
    obtain ⟨ok1, ok2, ok3, ok4⟩ := okm mm hmm
    unfold mj_Ct
    have body : ∀ p e s m args below meth c s₁, BodyLoose p l (mj_my mm) (headSpec (mj_ws mm) (mj_rm (d + 1) mm)) (mj_mb mm) (mj_ml mm) (mj_mr mm) e s m args below meth c s₁ → c.maxLocals = mj_ml mm → c.exceptionTable.toList = tableOf (mj_hh mm) → mj_Pc D ca base ext as σ args s →
        W p l e (headSpec (mj_ws mm) (mj_rm (d + 1) mm)).room s m args below meth c s.heap [] 0 0 (vx_MQ below (mj_Qc D ca base ext Q) (mj_XC D ca base Q) args s (mj_mc mm) (mj_ms mm) (mj_A base)) (entryFrame m args (mj_ml mm)) := by
      intro p e s m args below meth c s₁ B hml hout hv
      obtain ⟨rfl, hH, hK, hca, hE⟩ := hv
      have hw := atoms_spec (ws := mj_ws mm) B.pre
      have hbs : base ≤ s.heap.size := by
        rcases hH.2 with q | ⟨-, q⟩ <;> omega
      have C : mj_Cx p s m (as.map (mj_cv base ext)).toArray meth c D ca base mm := ⟨B.exec, B.bytes, hml, by rw [← ok4]; exact findClass_of_methodNamed B.named, fun w h => hw w (List.mem_cons_of_mem _ h), hK, B.returns, B.notSynchronized, (name_of_methodNamed B.named B.method).1, hbs, hout⟩
      have hcl2 := mj_closed (p := p) (e := e) (below := below) (R := (headSpec (mj_ws mm) (mj_rm (d + 1) mm)).room) (Q := Q) (Φ := mj_ev d) (d := d) FC hlb ok1 C hw hca hE hl (fun a as σ Q2 h => mj_sound FC hlb okm hcl hl d a as σ Q2 h) (fun i σ Q2 h => absurd (mj_ev_out hcl h) (by decide)) (fun σ Q2 h => absurd (mj_ev_out hcl h) (by decide)) (by show d + 9 ≤ d + 1 + 8; omega) (by show 100 * d + 300 ≤ 100 * (d + 1) + 200; omega) rfl rfl
      have h9 := hrun _ hcl2 ⟨[], rfl⟩ s.heap [] 0 0 _ (mj_entry base ext (Nat.le_of_ble_eq_true har)) hH va_S.rf (by show 0 + mj_mc mm ≤ mj_mc mm; omega) (by show 0 + mj_ms mm ≤ mj_ms mm; omega)
      rw [ok2] at h9
      rw [lg_entry_eq]
      exact h9
    by_cases hem : mj_hh mm = []
    · refine vx_ofW (cc := mj_mb mm) (maxL := mj_ml mm) (ret := mj_mr mm) ok3 (mj_ws_c hem) ?_
      intro p e s m args below meth c s₁ B hml hout hv
      exact body p e s m args below meth c s₁ B hml (by rw [hem]; exact List.eq_nil_iff_forall_not_mem.mpr hout) hv
    · have hws : mj_ws mm = Cond.codeWith (mj_my mm) (mj_mb mm) (mj_ml mm) (mj_mr mm) (mj_hh mm) :: mj_mw := by
        unfold mj_ws
        rw [mj_cw_h hem]
      refine vx_ofWH (cc := mj_mb mm) (maxL := mj_ml mm) (ret := mj_mr mm) ok3 hws ?_
      intro p e s m args below meth c s₁ B hml hv
      have hw := atoms_spec (ws := mj_ws mm) B.pre
      exact body p e s m args below meth c s₁ B hml (vx_table (x := mj_my mm) B (hw _ (by rw [hws]; exact List.mem_cons_self))) hv
end
section
/-! printed by wip/whole/genfacts.py: the tables have what the lists name -/
theorem mj_at {w : Cond} (i : Nat) (h : (lw_tbl[i]? == some w && goodWord w) = true) : w ∈ mj_mw := by
  simp only [Bool.and_eq_true, beq_iff_eq] at h
  exact List.mem_filter.mpr ⟨List.mem_of_getElem? h.1, h.2⟩
theorem mj_atr {w : Cond} (i : Nat) (h : lw_tbl[i]? = some w) (g : goodWord w = true) : w ∈ mj_mw := List.mem_filter.mpr ⟨List.mem_of_getElem? h, g⟩
/-- places beside what is looked for -/
def mj_zz {α : Type} (f : α → Cond) (l : List α) (ix : List Nat) : Bool := (l.length == ix.length) && (l.zip ix).all (fun q => lw_tbl[q.2]? == some (f q.1) && goodWord (f q.1))
theorem mj_yy_ok {α : Type} {f : α → Cond} {l : List α} {ix : List Nat} (h : l.map f = ix.filterMap (fun i => lw_tbl[i]?)) (g : l.all (fun q => goodWord (f q)) = true) : ∀ q ∈ l, f q ∈ mj_mw := by
  intro q hq
  have h1 : f q ∈ l.map f := List.mem_map.mpr ⟨q, hq, rfl⟩
  rw [h] at h1
  obtain ⟨i, -, hi⟩ := List.mem_filterMap.mp h1
  exact List.mem_filter.mpr ⟨List.mem_of_getElem? hi, List.all_eq_true.mp g q hq⟩
theorem mj_zz_ok {α : Type} {f : α → Cond} {l : List α} {ix : List Nat} (h : mj_zz f l ix = true) : ∀ q ∈ l, f q ∈ mj_mw := by
  simp only [mj_zz, Bool.and_eq_true, beq_iff_eq, List.all_eq_true] at h
  intro q hq
  obtain ⟨i, hi, e⟩ := List.mem_iff_getElem.mp hq
  have h2 : (q, ix[i]'(by omega)) ∈ l.zip ix := by
    rw [← e]
    exact List.mem_iff_getElem.mpr ⟨i, by rw [List.length_zip]; omega, by rw [List.getElem_zip]⟩
  have h3 := h.2 _ h2
  exact List.mem_filter.mpr ⟨List.mem_of_getElem? h3.1, h3.2⟩
set_option maxRecDepth 1000000 in
theorem gF_0 : ∀ q ∈ ([(0, 0, 0, 18), (0, 0, 1, 26), (0, 0, 2, 9), (0, 0, 3, 22), (0, 0, 4, 30), (0, 7, 1, 66), (0, 7, 2, 57), (0, 7, 3, 54), (0, 9, 0, 37), (1, 1, 0, 12), (1, 1, 1, 18), (1, 1, 2, 22), (1, 1, 3, 25), (1, 1, 4, 28), (1, 1, 5, 32), (1, 1, 6, 35), (1, 1, 7, 38), (1, 9, 5, 41), (2, 2, 0, 9), (2, 2, 1, 21), (2, 2, 2, 26), (2, 2, 3, 27), (2, 2, 4, 31), (2, 4, 0, 15), (2, 4, 1, 22), (2, 4, 2, 79), (2, 7, 2, 86), (2, 7, 3, 63), (2, 9, 0, 35), (3, 2, 0, 23), (3, 3, 0, 30), (3, 3, 1, 34), (3, 3, 2, 38), (3, 3, 3, 9), (3, 3, 4, 29), (3, 3, 5, 15), (3, 3, 6, 41), (3, 3, 7, 19), (3, 4, 0, 51), (3, 4, 1, 63)] : List (Nat × Nat × Nat × Nat)), (fun q => Cond.fieldLink (mj_cn q.1) q.2.2.2 (mj_T q.2.1 q.2.2.1).1 (mj_T q.2.1 q.2.2.1).2.1 (mj_T q.2.1 q.2.2.1).2.2.1) q ∈ mj_mw := mj_yy_ok (ix := [531, 533, 535, 536, 537, 169, 176, 182, 249, 335, 337, 339, 341, 342, 343, 344, 345, 267, 402, 404, 405, 406, 407, 370, 374, 379, 180, 185, 251, 403, 495, 497, 499, 501, 502, 503, 504, 505, 372, 376]) rfl (by decide +kernel)
set_option maxRecDepth 1000000 in
theorem gF_1 : ∀ q ∈ ([(3, 7, 1, 67), (3, 9, 0, 55), (4, 4, 0, 9), (4, 4, 1, 15), (4, 4, 2, 19), (4, 4, 3, 23), (4, 4, 4, 26), (4, 7, 1, 50), (4, 7, 2, 39), (4, 9, 0, 30), (5, 5, 0, 35), (5, 5, 1, 11), (5, 5, 2, 15), (5, 5, 3, 25), (5, 5, 4, 29), (5, 5, 5, 65), (5, 5, 6, 46), (5, 5, 7, 88), (5, 5, 8, 91), (5, 5, 9, 32), (5, 5, 10, 146), (5, 6, 1, 149), (5, 7, 1, 105), (5, 7, 2, 119), (5, 7, 3, 128), (5, 9, 0, 94), (5, 9, 1, 97), (5, 9, 2, 113), (5, 9, 3, 116), (5, 9, 4, 122), (5, 9, 5, 101), (5, 9, 6, 131), (6, 6, 0, 9), (6, 6, 1, 28), (6, 6, 2, 32), (6, 6, 3, 35), (6, 6, 4, 38), (6, 6, 5, 41), (6, 6, 6, 44), (6, 6, 7, 19)] : List (Nat × Nat × Nat × Nat)), (fun q => Cond.fieldLink (mj_cn q.1) q.2.2.2 (mj_T q.2.1 q.2.2.1).1 (mj_T q.2.1 q.2.2.1).2.1 (mj_T q.2.1 q.2.2.1).2.2.1) q ∈ mj_mw := mj_yy_ok (ix := [167, 250, 369, 373, 377, 381, 383, 168, 175, 247, 292, 294, 295, 296, 297, 298, 299, 300, 301, 302, 303, 214, 172, 179, 186, 253, 256, 259, 262, 265, 268, 270, 211, 213, 215, 217, 219, 221, 223, 224]) rfl (by decide +kernel)
set_option maxRecDepth 1000000 in
theorem gF_2 : ∀ q ∈ ([(6, 6, 8, 22), (7, 7, 0, 24), (7, 7, 1, 9), (7, 7, 2, 15), (7, 7, 3, 18), (8, 4, 0, 15), (8, 4, 1, 22), (8, 4, 2, 51), (8, 7, 2, 54), (8, 7, 3, 63), (8, 8, 0, 21), (8, 8, 1, 27), (8, 8, 2, 26), (8, 8, 3, 9), (8, 8, 4, 31), (8, 8, 5, 35), (8, 8, 6, 38), (8, 9, 0, 45), (9, 6, 0, 58), (9, 6, 2, 63), (9, 6, 3, 66), (9, 6, 4, 76), (9, 6, 5, 79), (9, 7, 1, 91), (9, 7, 2, 94), (9, 9, 0, 9), (9, 9, 1, 15), (9, 9, 2, 19), (9, 9, 3, 22), (9, 9, 4, 25), (9, 9, 5, 31), (9, 9, 6, 40), (10, 8, 0, 19), (10, 9, 0, 47), (10, 10, 0, 26), (10, 10, 1, 30), (10, 10, 2, 34), (10, 10, 3, 38), (10, 10, 4, 41), (10, 10, 5, 9)] : List (Nat × Nat × Nat × Nat)), (fun q => Cond.fieldLink (mj_cn q.1) q.2.2.2 (mj_T q.2.1 q.2.2.1).1 (mj_T q.2.1 q.2.2.1).2.1 (mj_T q.2.1 q.2.2.1).2.2.1) q ∈ mj_mw := mj_yy_ok (ix := [225, 164, 166, 173, 181, 371, 375, 378, 174, 183, 425, 427, 429, 430, 431, 432, 433, 248, 212, 216, 218, 220, 222, 170, 177, 245, 254, 257, 260, 263, 266, 269, 426, 246, 455, 457, 459, 461, 463, 465]) rfl (by decide +kernel)
set_option maxRecDepth 1000000 in
theorem gF_3 : ∀ q ∈ ([(10, 10, 6, 25), (10, 10, 7, 15), (10, 10, 8, 44), (11, 0, 0, 383), (11, 0, 1, 380), (11, 1, 0, 59), (11, 1, 1, 164), (11, 1, 2, 167), (11, 3, 0, 329), (11, 3, 1, 339), (11, 3, 2, 342), (11, 4, 2, 266), (11, 4, 3, 299), (11, 4, 4, 407), (11, 5, 0, 133), (11, 7, 0, 145), (11, 7, 1, 178), (11, 7, 2, 190), (11, 7, 3, 196), (11, 8, 1, 410), (11, 9, 0, 142), (11, 9, 1, 181), (11, 9, 2, 184), (11, 9, 3, 187), (11, 9, 4, 193), (11, 10, 0, 277), (11, 10, 1, 411), (11, 10, 2, 283), (11, 10, 3, 286), (11, 10, 4, 289), (11, 11, 0, 9), (11, 11, 1, 13), (11, 11, 2, 17), (11, 11, 3, 20), (11, 11, 4, 41), (11, 11, 5, 29), (11, 11, 6, 33), (11, 11, 7, 48), (11, 11, 8, 52), (11, 11, 9, 55)] : List (Nat × Nat × Nat × Nat)), (fun q => Cond.fieldLink (mj_cn q.1) q.2.2.2 (mj_T q.2.1 q.2.2.1).1 (mj_T q.2.1 q.2.2.1).2.1 (mj_T q.2.1 q.2.2.1).2.2.1) q ∈ mj_mw := mj_yy_ok (ix := [466, 467, 468, 532, 534, 336, 338, 340, 496, 498, 500, 380, 382, 384, 293, 165, 171, 178, 184, 428, 252, 255, 258, 261, 264, 456, 458, 460, 462, 464, 549, 550, 551, 552, 553, 554, 555, 556, 557, 558]) rfl (by decide +kernel)
set_option maxRecDepth 1000000 in
theorem gF_4 : ∀ q ∈ ([(11, 11, 10, 63), (11, 11, 11, 69), (11, 11, 12, 78), (11, 11, 13, 82), (11, 11, 14, 88), (11, 11, 15, 97), (11, 11, 16, 106), (11, 11, 17, 115), (12, 12, 0, 118), (12, 12, 1, 273), (12, 12, 2, 9), (12, 12, 3, 13), (12, 12, 4, 16), (12, 12, 5, 20), (12, 12, 6, 23), (12, 12, 7, 26), (12, 12, 8, 29), (12, 12, 9, 32), (12, 12, 10, 121), (12, 12, 11, 174), (12, 12, 12, 35), (12, 12, 13, 38), (12, 12, 14, 128), (12, 12, 15, 131), (12, 12, 16, 151), (12, 12, 17, 138), (12, 12, 18, 161), (12, 12, 19, 145), (12, 12, 20, 148), (12, 12, 21, 141), (12, 12, 22, 187), (12, 12, 23, 253), (12, 12, 24, 260), (12, 12, 25, 190), (12, 12, 26, 209), (12, 12, 27, 212), (12, 12, 28, 193), (12, 12, 29, 215), (12, 12, 30, 41), (12, 12, 31, 44)] : List (Nat × Nat × Nat × Nat)), (fun q => Cond.fieldLink (mj_cn q.1) q.2.2.2 (mj_T q.2.1 q.2.2.1).1 (mj_T q.2.1 q.2.2.1).2.1 (mj_T q.2.1 q.2.2.1).2.2.1) q ∈ mj_mw := mj_yy_ok (ix := [559, 560, 561, 562, 563, 564, 565, 566, 1530, 1531, 1532, 1533, 1534, 1535, 1536, 1537, 1538, 1539, 1540, 1541, 1542, 1543, 1544, 1545, 1546, 1547, 1548, 1549, 1550, 1551, 1552, 1553, 1554, 1555, 1556, 1557, 1558, 1559, 1560, 1561]) rfl (by decide +kernel)
set_option maxRecDepth 1000000 in
theorem gF_5 : ∀ q ∈ ([(12, 12, 32, 47), (12, 12, 33, 50), (12, 12, 34, 53), (12, 12, 35, 56), (12, 12, 36, 59), (12, 12, 37, 62), (12, 12, 38, 66), (12, 12, 39, 69), (12, 12, 40, 280), (12, 12, 41, 72), (12, 12, 42, 75), (12, 12, 43, 78), (12, 12, 44, 81), (12, 12, 45, 84), (12, 12, 46, 88), (12, 12, 47, 91), (12, 12, 48, 94), (12, 12, 49, 97), (12, 12, 50, 394), (12, 12, 51, 412), (12, 12, 52, 283), (12, 12, 53, 100), (12, 12, 54, 103), (12, 12, 55, 106), (12, 12, 56, 442), (12, 12, 57, 286), (12, 12, 58, 452), (12, 12, 59, 455), (12, 12, 60, 109), (12, 12, 61, 112), (12, 12, 62, 115)] : List (Nat × Nat × Nat × Nat)), (fun q => Cond.fieldLink (mj_cn q.1) q.2.2.2 (mj_T q.2.1 q.2.2.1).1 (mj_T q.2.1 q.2.2.1).2.1 (mj_T q.2.1 q.2.2.1).2.2.1) q ∈ mj_mw := mj_yy_ok (ix := [1562, 1563, 1564, 1565, 1566, 1567, 1568, 1569, 1570, 1571, 1572, 1573, 1574, 1575, 1576, 1577, 1578, 1579, 1580, 1581, 1582, 1583, 1584, 1585, 1586, 1587, 1588, 1589, 1590, 1591, 1592]) rfl (by decide +kernel)
set_option maxRecDepth 1000000 in
theorem gF : ∀ q ∈ mj_pF, ((fun q => Cond.fieldLink (mj_cn q.1) q.2.2.2 (mj_T q.2.1 q.2.2.1).1 (mj_T q.2.1 q.2.2.1).2.1 (mj_T q.2.1 q.2.2.1).2.2.1)) q ∈ mj_mw := by
  intro q hq
  have h : mj_pF = [(0, 0, 0, 18), (0, 0, 1, 26), (0, 0, 2, 9), (0, 0, 3, 22), (0, 0, 4, 30), (0, 7, 1, 66), (0, 7, 2, 57), (0, 7, 3, 54), (0, 9, 0, 37), (1, 1, 0, 12), (1, 1, 1, 18), (1, 1, 2, 22), (1, 1, 3, 25), (1, 1, 4, 28), (1, 1, 5, 32), (1, 1, 6, 35), (1, 1, 7, 38), (1, 9, 5, 41), (2, 2, 0, 9), (2, 2, 1, 21), (2, 2, 2, 26), (2, 2, 3, 27), (2, 2, 4, 31), (2, 4, 0, 15), (2, 4, 1, 22), (2, 4, 2, 79), (2, 7, 2, 86), (2, 7, 3, 63), (2, 9, 0, 35), (3, 2, 0, 23), (3, 3, 0, 30), (3, 3, 1, 34), (3, 3, 2, 38), (3, 3, 3, 9), (3, 3, 4, 29), (3, 3, 5, 15), (3, 3, 6, 41), (3, 3, 7, 19), (3, 4, 0, 51), (3, 4, 1, 63)] ++ [(3, 7, 1, 67), (3, 9, 0, 55), (4, 4, 0, 9), (4, 4, 1, 15), (4, 4, 2, 19), (4, 4, 3, 23), (4, 4, 4, 26), (4, 7, 1, 50), (4, 7, 2, 39), (4, 9, 0, 30), (5, 5, 0, 35), (5, 5, 1, 11), (5, 5, 2, 15), (5, 5, 3, 25), (5, 5, 4, 29), (5, 5, 5, 65), (5, 5, 6, 46), (5, 5, 7, 88), (5, 5, 8, 91), (5, 5, 9, 32), (5, 5, 10, 146), (5, 6, 1, 149), (5, 7, 1, 105), (5, 7, 2, 119), (5, 7, 3, 128), (5, 9, 0, 94), (5, 9, 1, 97), (5, 9, 2, 113), (5, 9, 3, 116), (5, 9, 4, 122), (5, 9, 5, 101), (5, 9, 6, 131), (6, 6, 0, 9), (6, 6, 1, 28), (6, 6, 2, 32), (6, 6, 3, 35), (6, 6, 4, 38), (6, 6, 5, 41), (6, 6, 6, 44), (6, 6, 7, 19)] ++ [(6, 6, 8, 22), (7, 7, 0, 24), (7, 7, 1, 9), (7, 7, 2, 15), (7, 7, 3, 18), (8, 4, 0, 15), (8, 4, 1, 22), (8, 4, 2, 51), (8, 7, 2, 54), (8, 7, 3, 63), (8, 8, 0, 21), (8, 8, 1, 27), (8, 8, 2, 26), (8, 8, 3, 9), (8, 8, 4, 31), (8, 8, 5, 35), (8, 8, 6, 38), (8, 9, 0, 45), (9, 6, 0, 58), (9, 6, 2, 63), (9, 6, 3, 66), (9, 6, 4, 76), (9, 6, 5, 79), (9, 7, 1, 91), (9, 7, 2, 94), (9, 9, 0, 9), (9, 9, 1, 15), (9, 9, 2, 19), (9, 9, 3, 22), (9, 9, 4, 25), (9, 9, 5, 31), (9, 9, 6, 40), (10, 8, 0, 19), (10, 9, 0, 47), (10, 10, 0, 26), (10, 10, 1, 30), (10, 10, 2, 34), (10, 10, 3, 38), (10, 10, 4, 41), (10, 10, 5, 9)] ++ [(10, 10, 6, 25), (10, 10, 7, 15), (10, 10, 8, 44), (11, 0, 0, 383), (11, 0, 1, 380), (11, 1, 0, 59), (11, 1, 1, 164), (11, 1, 2, 167), (11, 3, 0, 329), (11, 3, 1, 339), (11, 3, 2, 342), (11, 4, 2, 266), (11, 4, 3, 299), (11, 4, 4, 407), (11, 5, 0, 133), (11, 7, 0, 145), (11, 7, 1, 178), (11, 7, 2, 190), (11, 7, 3, 196), (11, 8, 1, 410), (11, 9, 0, 142), (11, 9, 1, 181), (11, 9, 2, 184), (11, 9, 3, 187), (11, 9, 4, 193), (11, 10, 0, 277), (11, 10, 1, 411), (11, 10, 2, 283), (11, 10, 3, 286), (11, 10, 4, 289), (11, 11, 0, 9), (11, 11, 1, 13), (11, 11, 2, 17), (11, 11, 3, 20), (11, 11, 4, 41), (11, 11, 5, 29), (11, 11, 6, 33), (11, 11, 7, 48), (11, 11, 8, 52), (11, 11, 9, 55)] ++ [(11, 11, 10, 63), (11, 11, 11, 69), (11, 11, 12, 78), (11, 11, 13, 82), (11, 11, 14, 88), (11, 11, 15, 97), (11, 11, 16, 106), (11, 11, 17, 115), (12, 12, 0, 118), (12, 12, 1, 273), (12, 12, 2, 9), (12, 12, 3, 13), (12, 12, 4, 16), (12, 12, 5, 20), (12, 12, 6, 23), (12, 12, 7, 26), (12, 12, 8, 29), (12, 12, 9, 32), (12, 12, 10, 121), (12, 12, 11, 174), (12, 12, 12, 35), (12, 12, 13, 38), (12, 12, 14, 128), (12, 12, 15, 131), (12, 12, 16, 151), (12, 12, 17, 138), (12, 12, 18, 161), (12, 12, 19, 145), (12, 12, 20, 148), (12, 12, 21, 141), (12, 12, 22, 187), (12, 12, 23, 253), (12, 12, 24, 260), (12, 12, 25, 190), (12, 12, 26, 209), (12, 12, 27, 212), (12, 12, 28, 193), (12, 12, 29, 215), (12, 12, 30, 41), (12, 12, 31, 44)] ++ [(12, 12, 32, 47), (12, 12, 33, 50), (12, 12, 34, 53), (12, 12, 35, 56), (12, 12, 36, 59), (12, 12, 37, 62), (12, 12, 38, 66), (12, 12, 39, 69), (12, 12, 40, 280), (12, 12, 41, 72), (12, 12, 42, 75), (12, 12, 43, 78), (12, 12, 44, 81), (12, 12, 45, 84), (12, 12, 46, 88), (12, 12, 47, 91), (12, 12, 48, 94), (12, 12, 49, 97), (12, 12, 50, 394), (12, 12, 51, 412), (12, 12, 52, 283), (12, 12, 53, 100), (12, 12, 54, 103), (12, 12, 55, 106), (12, 12, 56, 442), (12, 12, 57, 286), (12, 12, 58, 452), (12, 12, 59, 455), (12, 12, 60, 109), (12, 12, 61, 112), (12, 12, 62, 115)] := rfl
  rw [h] at hq
  simp only [List.mem_append] at hq
  rcases hq with ((((hq | hq) | hq) | hq) | hq) | hq
  · exact gF_0 q hq
  · exact gF_1 q hq
  · exact gF_2 q hq
  · exact gF_3 q hq
  · exact gF_4 q hq
  · exact gF_5 q hq
set_option maxRecDepth 1000000 in
theorem gM_0 : ∀ q ∈ ([(0, 2, 42), (0, 3, 46), (0, 4, 50), (0, 5, 69), (0, 63, 17), (0, 65, 33), (0, 87, 80), (1, 16, 63), (1, 63, 11), (1, 65, 46), (1, 66, 56), (1, 67, 60), (2, 15, 53), (2, 16, 40), (2, 17, 44), (2, 21, 56), (2, 22, 60), (2, 23, 72), (2, 282, 48), (3, 13, 82), (3, 15, 76), (3, 19, 91), (3, 21, 79), (3, 26, 60), (3, 27, 88), (3, 28, 95), (3, 32, 45), (3, 33, 72), (4, 34, 35), (4, 87, 53), (5, 38, 58), (5, 39, 43), (5, 40, 68), (5, 41, 71), (5, 42, 178), (5, 43, 62), (5, 44, 49), (5, 45, 110), (5, 46, 52), (5, 47, 125)] : List (Nat × Nat × Nat)), (fun q => Cond.methodLink (mj_cn q.1) q.2.2 (mj_my q.2.1)) q ∈ mj_mw := mj_yy_ok (ix := [1470, 1475, 1480, 1484, 530, 1469, 1488, 1386, 334, 844, 624, 705, 1339, 793, 789, 1340, 666, 673, 794, 1399, 1397, 1404, 1398, 1392, 1400, 1408, 1391, 1396, 636, 643, 1059, 939, 943, 988, 1099, 1103, 1055, 1063, 1067, 1071]) rfl (by decide +kernel)
set_option maxRecDepth 1000000 in
theorem gM_1 : ∀ q ∈ ([(5, 48, 55), (5, 49, 152), (5, 50, 165), (5, 51, 169), (5, 52, 162), (5, 53, 175), (5, 56, 135), (5, 57, 141), (5, 58, 156), (5, 59, 159), (5, 61, 172), (5, 86, 38), (5, 283, 84), (5, 288, 76), (6, 55, 25), (6, 56, 47), (7, 64, 21), (8, 32, 41), (8, 71, 70), (8, 72, 66), (8, 73, 83), (8, 78, 79), (8, 80, 86), (8, 83, 93), (8, 84, 89), (8, 88, 59), (8, 282, 74), (9, 54, 37), (9, 55, 47), (9, 56, 54), (9, 57, 73), (9, 60, 82), (9, 62, 69), (9, 63, 30), (9, 64, 44), (9, 87, 97), (9, 90, 87), (10, 71, 72), (10, 72, 80), (10, 94, 61)] : List (Nat × Nat × Nat)), (fun q => Cond.methodLink (mj_cn q.1) q.2.2 (mj_my q.2.1)) q ∈ mj_mw := mj_yy_ok (ix := [1075, 1083, 1107, 1111, 1087, 1095, 1079, 1080, 1115, 1119, 1091, 933, 948, 993, 207, 1356, 160, 721, 742, 762, 758, 754, 816, 832, 820, 722, 1143, 200, 938, 650, 726, 1352, 654, 156, 937, 1363, 1359, 1306, 1311, 1283]) rfl (by decide +kernel)
set_option maxRecDepth 1000000 in
theorem gM_2 : ∀ q ∈ ([(10, 95, 58), (10, 97, 65), (10, 98, 76), (10, 99, 69), (11, 0, 112), (11, 1, 373), (11, 6, 377), (11, 7, 47), (11, 8, 136), (11, 9, 390), (11, 10, 215), (11, 11, 241), (11, 12, 325), (11, 13, 332), (11, 14, 75), (11, 15, 319), (11, 16, 222), (11, 17, 251), (11, 18, 248), (11, 20, 312), (11, 21, 322), (11, 24, 103), (11, 25, 336), (11, 29, 345), (11, 30, 348), (11, 31, 66), (11, 32, 263), (11, 33, 309), (11, 35, 296), (11, 36, 38), (11, 37, 129), (11, 68, 154), (11, 69, 87), (11, 70, 400), (11, 71, 199), (11, 73, 203), (11, 74, 161), (11, 75, 257), (11, 76, 254), (11, 77, 260)] : List (Nat × Nat × Nat)), (fun q => Cond.methodLink (mj_cn q.1) q.2.2 (mj_my q.2.1)) q ∈ mj_mw := mj_yy_ok (ix := [1279, 1298, 1307, 1302, 525, 1465, 1491, 329, 1123, 840, 620, 701, 1371, 1382, 398, 693, 680, 1267, 785, 1335, 659, 491, 1387, 1419, 1423, 365, 632, 800, 1520, 288, 928, 1135, 421, 717, 1172, 1173, 1139, 738, 730, 750]) rfl (by decide +kernel)
set_option maxRecDepth 1000000 in
theorem gM_3 : ∀ q ∈ ([(11, 79, 368), (11, 81, 384), (11, 82, 387), (11, 85, 26), (11, 87, 403), (11, 88, 212), (11, 89, 315), (11, 91, 94), (11, 92, 269), (11, 93, 273), (11, 96, 280), (11, 102, 119), (11, 130, 302), (11, 138, 353), (11, 139, 356), (11, 141, 361), (11, 142, 365), (11, 149, 175), (11, 150, 292), (11, 151, 245), (11, 152, 150), (11, 153, 218), (11, 154, 157), (11, 155, 237), (11, 156, 208), (11, 157, 139), (11, 158, 234), (12, 163, 266), (12, 164, 342), (12, 165, 276), (12, 166, 339), (12, 168, 124), (12, 169, 134), (12, 170, 154), (12, 171, 158), (12, 172, 181), (12, 173, 166), (12, 174, 170), (12, 175, 205), (12, 176, 184)] : List (Nat × Nat × Nat)), (fun q => Cond.methodLink (mj_cn q.1) q.2.2 (mj_my q.2.1)) q ∈ mj_mw := mj_yy_ok (ix := [812, 1502, 828, 150, 1186, 1194, 1348, 451, 774, 1275, 1294, 608, 1330, 1435, 1438, 1449, 1453, 1167, 1326, 1235, 770, 628, 713, 1224, 1182, 685, 689, 1737, 1856, 1840, 1897, 1729, 1745, 1749, 1752, 1741, 1770, 1767, 1763, 1778]) rfl (by decide +kernel)
set_option maxRecDepth 1000000 in
theorem gM_4 : ∀ q ∈ ([(12, 177, 177), (12, 178, 218), (12, 179, 263), (12, 180, 243), (12, 181, 250), (12, 182, 202), (12, 183, 196), (12, 184, 199), (12, 185, 230), (12, 186, 221), (12, 187, 227), (12, 188, 224), (12, 189, 233), (12, 190, 237), (12, 191, 240), (12, 192, 256), (12, 193, 247), (12, 194, 270), (12, 197, 367), (12, 198, 364), (12, 200, 323), (12, 201, 290), (12, 202, 297), (12, 203, 294), (12, 204, 300), (12, 205, 304), (12, 206, 329), (12, 207, 336), (12, 208, 307), (12, 209, 314), (12, 210, 311), (12, 211, 317), (12, 212, 320), (12, 213, 326), (12, 214, 373), (12, 215, 345), (12, 216, 348), (12, 217, 333), (12, 218, 361), (12, 219, 351)] : List (Nat × Nat × Nat)), (fun q => Cond.methodLink (mj_cn q.1) q.2.2 (mj_my q.2.1)) q ∈ mj_mw := mj_yy_ok (ix := [1755, 1798, 1836, 1782, 1786, 1814, 1822, 1825, 1818, 1806, 1810, 1794, 1802, 1828, 1832, 1790, 1774, 1759, 1936, 1932, 1992, 1894, 1890, 1887, 1883, 1879, 1875, 1916, 1952, 1960, 1948, 1944, 1956, 1940, 1988, 1859, 1863, 1871, 1912, 1867]) rfl (by decide +kernel)
set_option maxRecDepth 1000000 in
theorem gM_5 : ∀ q ∈ ([(12, 221, 354), (12, 222, 357), (12, 231, 370), (12, 239, 376), (12, 243, 385), (12, 244, 382), (12, 245, 379), (12, 246, 388), (12, 250, 391), (12, 251, 397), (12, 252, 400), (12, 253, 403), (12, 254, 406), (12, 255, 409), (12, 258, 415), (12, 260, 418), (12, 264, 423), (12, 265, 426), (12, 268, 432), (12, 269, 429), (12, 271, 435), (12, 274, 439), (12, 277, 446), (12, 278, 449), (15, 284, 492), (15, 285, 495), (15, 287, 1059), (15, 289, 633), (15, 290, 505), (15, 291, 335), (15, 292, 637), (16, 286, 9), (16, 293, 95), (16, 294, 88), (18, 100, 101), (18, 101, 105), (18, 103, 7), (18, 104, 120), (18, 105, 15), (18, 106, 20)] : List (Nat × Nat × Nat)), (fun q => Cond.methodLink (mj_cn q.1) q.2.2 (mj_my q.2.1)) q ∈ mj_mw := mj_yy_ok (ix := [1904, 1908, 1984, 2024, 2040, 2048, 2044, 2051, 2079, 2075, 2083, 2087, 2071, 2067, 2099, 2107, 2123, 2128, 2143, 2140, 2150, 2162, 2178, 2174, 952, 958, 966, 997, 1001, 1005, 1009, 961, 1017, 1012, 142, 604, 858, 612, 1131, 1163]) rfl (by decide +kernel)
set_option maxRecDepth 1000000 in
theorem gM_6 : ∀ q ∈ ([(18, 107, 24), (18, 108, 27), (18, 109, 137), (18, 110, 30), (18, 111, 33), (18, 112, 36), (18, 113, 39), (18, 114, 153), (18, 115, 43), (18, 116, 46), (18, 117, 49), (18, 118, 52), (18, 119, 55), (18, 120, 95), (18, 121, 172), (18, 122, 176), (18, 123, 180), (18, 124, 58), (18, 125, 187), (18, 126, 61), (18, 127, 64), (18, 128, 98), (18, 129, 67), (18, 131, 71), (18, 132, 244), (18, 133, 74), (18, 134, 208), (18, 135, 77), (18, 136, 80), (18, 137, 83), (18, 140, 86), (18, 143, 224), (18, 144, 89), (18, 145, 92), (18, 146, 234), (18, 147, 248), (18, 148, 252), (18, 161, 104), (18, 162, 116), (18, 167, 109)] : List (Nat × Nat × Nat)), (fun q => Cond.methodLink (mj_cn q.1) q.2.2 (mj_my q.2.1)) q ∈ mj_mw := mj_yy_ok (ix := [1178, 1190, 616, 1198, 1205, 1213, 1220, 697, 1231, 1242, 1249, 1256, 1263, 1509, 709, 734, 746, 1271, 766, 1290, 1315, 1516, 1322, 1344, 781, 1367, 804, 1378, 1415, 1430, 1444, 808, 1460, 1498, 824, 836, 850, 1526, 1721, 1725]) rfl (by decide +kernel)
set_option maxRecDepth 1000000 in
theorem gM_7 : ∀ q ∈ ([(18, 195, 115), (18, 196, 123), (18, 199, 156), (18, 220, 126), (18, 223, 130), (18, 224, 133), (18, 225, 136), (18, 226, 140), (18, 227, 143), (18, 228, 146), (18, 229, 149), (18, 230, 152), (18, 232, 159), (18, 233, 162), (18, 234, 165), (18, 235, 168), (18, 236, 171), (18, 237, 175), (18, 238, 179), (18, 240, 183), (18, 241, 240), (18, 242, 247), (18, 247, 186), (18, 248, 191), (18, 249, 243), (18, 256, 194), (18, 257, 197), (18, 259, 201), (18, 261, 204), (18, 262, 207), (18, 263, 211), (18, 266, 214), (18, 267, 217), (18, 270, 220), (18, 272, 223), (18, 273, 227), (18, 275, 233), (18, 276, 237), (18, 279, 230), (18, 280, 251)] : List (Nat × Nat × Nat)), (fun q => Cond.methodLink (mj_cn q.1) q.2.2 (mj_my q.2.1)) q ∈ mj_mw := mj_yy_ok (ix := [1733, 1844, 1848, 1852, 1900, 1920, 1924, 1928, 1964, 1968, 1972, 1976, 1980, 1996, 2000, 2004, 2008, 2012, 2016, 2020, 2028, 2032, 2036, 2055, 2059, 2063, 2091, 2095, 2103, 2111, 2115, 2119, 2132, 2136, 2146, 2154, 2158, 2166, 2170, 2183]) rfl (by decide +kernel)
set_option maxRecDepth 1000000 in
theorem gM_8 : ∀ q ∈ ([(18, 281, 256), (18, 295, 110), (18, 296, 124), (18, 297, 127), (18, 298, 131), (18, 299, 134), (18, 300, 141), (18, 301, 144), (18, 302, 147), (18, 303, 150), (18, 304, 157), (18, 305, 160), (18, 306, 163), (18, 307, 166), (18, 308, 169), (18, 309, 184), (18, 310, 192), (18, 311, 195), (18, 312, 198), (18, 313, 202), (18, 314, 205), (18, 315, 212), (18, 316, 215), (18, 317, 218), (18, 318, 221), (18, 319, 228), (18, 320, 231), (18, 321, 238), (18, 322, 241)] : List (Nat × Nat × Nat)), (fun q => Cond.methodLink (mj_cn q.1) q.2.2 (mj_my q.2.1)) q ∈ mj_mw := mj_yy_ok (ix := [2187, 854, 1127, 1160, 1175, 1187, 1195, 1202, 1210, 1217, 1228, 1239, 1246, 1253, 1260, 1268, 1287, 1312, 1319, 1341, 1364, 1375, 1412, 1427, 1441, 1457, 1495, 1506, 1513]) rfl (by decide +kernel)
set_option maxRecDepth 1000000 in
theorem gM : ∀ q ∈ mj_pM, ((fun q => Cond.methodLink (mj_cn q.1) q.2.2 (mj_my q.2.1))) q ∈ mj_mw := by
  intro q hq
  have h : mj_pM = [(0, 2, 42), (0, 3, 46), (0, 4, 50), (0, 5, 69), (0, 63, 17), (0, 65, 33), (0, 87, 80), (1, 16, 63), (1, 63, 11), (1, 65, 46), (1, 66, 56), (1, 67, 60), (2, 15, 53), (2, 16, 40), (2, 17, 44), (2, 21, 56), (2, 22, 60), (2, 23, 72), (2, 282, 48), (3, 13, 82), (3, 15, 76), (3, 19, 91), (3, 21, 79), (3, 26, 60), (3, 27, 88), (3, 28, 95), (3, 32, 45), (3, 33, 72), (4, 34, 35), (4, 87, 53), (5, 38, 58), (5, 39, 43), (5, 40, 68), (5, 41, 71), (5, 42, 178), (5, 43, 62), (5, 44, 49), (5, 45, 110), (5, 46, 52), (5, 47, 125)] ++ [(5, 48, 55), (5, 49, 152), (5, 50, 165), (5, 51, 169), (5, 52, 162), (5, 53, 175), (5, 56, 135), (5, 57, 141), (5, 58, 156), (5, 59, 159), (5, 61, 172), (5, 86, 38), (5, 283, 84), (5, 288, 76), (6, 55, 25), (6, 56, 47), (7, 64, 21), (8, 32, 41), (8, 71, 70), (8, 72, 66), (8, 73, 83), (8, 78, 79), (8, 80, 86), (8, 83, 93), (8, 84, 89), (8, 88, 59), (8, 282, 74), (9, 54, 37), (9, 55, 47), (9, 56, 54), (9, 57, 73), (9, 60, 82), (9, 62, 69), (9, 63, 30), (9, 64, 44), (9, 87, 97), (9, 90, 87), (10, 71, 72), (10, 72, 80), (10, 94, 61)] ++ [(10, 95, 58), (10, 97, 65), (10, 98, 76), (10, 99, 69), (11, 0, 112), (11, 1, 373), (11, 6, 377), (11, 7, 47), (11, 8, 136), (11, 9, 390), (11, 10, 215), (11, 11, 241), (11, 12, 325), (11, 13, 332), (11, 14, 75), (11, 15, 319), (11, 16, 222), (11, 17, 251), (11, 18, 248), (11, 20, 312), (11, 21, 322), (11, 24, 103), (11, 25, 336), (11, 29, 345), (11, 30, 348), (11, 31, 66), (11, 32, 263), (11, 33, 309), (11, 35, 296), (11, 36, 38), (11, 37, 129), (11, 68, 154), (11, 69, 87), (11, 70, 400), (11, 71, 199), (11, 73, 203), (11, 74, 161), (11, 75, 257), (11, 76, 254), (11, 77, 260)] ++ [(11, 79, 368), (11, 81, 384), (11, 82, 387), (11, 85, 26), (11, 87, 403), (11, 88, 212), (11, 89, 315), (11, 91, 94), (11, 92, 269), (11, 93, 273), (11, 96, 280), (11, 102, 119), (11, 130, 302), (11, 138, 353), (11, 139, 356), (11, 141, 361), (11, 142, 365), (11, 149, 175), (11, 150, 292), (11, 151, 245), (11, 152, 150), (11, 153, 218), (11, 154, 157), (11, 155, 237), (11, 156, 208), (11, 157, 139), (11, 158, 234), (12, 163, 266), (12, 164, 342), (12, 165, 276), (12, 166, 339), (12, 168, 124), (12, 169, 134), (12, 170, 154), (12, 171, 158), (12, 172, 181), (12, 173, 166), (12, 174, 170), (12, 175, 205), (12, 176, 184)] ++ [(12, 177, 177), (12, 178, 218), (12, 179, 263), (12, 180, 243), (12, 181, 250), (12, 182, 202), (12, 183, 196), (12, 184, 199), (12, 185, 230), (12, 186, 221), (12, 187, 227), (12, 188, 224), (12, 189, 233), (12, 190, 237), (12, 191, 240), (12, 192, 256), (12, 193, 247), (12, 194, 270), (12, 197, 367), (12, 198, 364), (12, 200, 323), (12, 201, 290), (12, 202, 297), (12, 203, 294), (12, 204, 300), (12, 205, 304), (12, 206, 329), (12, 207, 336), (12, 208, 307), (12, 209, 314), (12, 210, 311), (12, 211, 317), (12, 212, 320), (12, 213, 326), (12, 214, 373), (12, 215, 345), (12, 216, 348), (12, 217, 333), (12, 218, 361), (12, 219, 351)] ++ [(12, 221, 354), (12, 222, 357), (12, 231, 370), (12, 239, 376), (12, 243, 385), (12, 244, 382), (12, 245, 379), (12, 246, 388), (12, 250, 391), (12, 251, 397), (12, 252, 400), (12, 253, 403), (12, 254, 406), (12, 255, 409), (12, 258, 415), (12, 260, 418), (12, 264, 423), (12, 265, 426), (12, 268, 432), (12, 269, 429), (12, 271, 435), (12, 274, 439), (12, 277, 446), (12, 278, 449), (15, 284, 492), (15, 285, 495), (15, 287, 1059), (15, 289, 633), (15, 290, 505), (15, 291, 335), (15, 292, 637), (16, 286, 9), (16, 293, 95), (16, 294, 88), (18, 100, 101), (18, 101, 105), (18, 103, 7), (18, 104, 120), (18, 105, 15), (18, 106, 20)] ++ [(18, 107, 24), (18, 108, 27), (18, 109, 137), (18, 110, 30), (18, 111, 33), (18, 112, 36), (18, 113, 39), (18, 114, 153), (18, 115, 43), (18, 116, 46), (18, 117, 49), (18, 118, 52), (18, 119, 55), (18, 120, 95), (18, 121, 172), (18, 122, 176), (18, 123, 180), (18, 124, 58), (18, 125, 187), (18, 126, 61), (18, 127, 64), (18, 128, 98), (18, 129, 67), (18, 131, 71), (18, 132, 244), (18, 133, 74), (18, 134, 208), (18, 135, 77), (18, 136, 80), (18, 137, 83), (18, 140, 86), (18, 143, 224), (18, 144, 89), (18, 145, 92), (18, 146, 234), (18, 147, 248), (18, 148, 252), (18, 161, 104), (18, 162, 116), (18, 167, 109)] ++ [(18, 195, 115), (18, 196, 123), (18, 199, 156), (18, 220, 126), (18, 223, 130), (18, 224, 133), (18, 225, 136), (18, 226, 140), (18, 227, 143), (18, 228, 146), (18, 229, 149), (18, 230, 152), (18, 232, 159), (18, 233, 162), (18, 234, 165), (18, 235, 168), (18, 236, 171), (18, 237, 175), (18, 238, 179), (18, 240, 183), (18, 241, 240), (18, 242, 247), (18, 247, 186), (18, 248, 191), (18, 249, 243), (18, 256, 194), (18, 257, 197), (18, 259, 201), (18, 261, 204), (18, 262, 207), (18, 263, 211), (18, 266, 214), (18, 267, 217), (18, 270, 220), (18, 272, 223), (18, 273, 227), (18, 275, 233), (18, 276, 237), (18, 279, 230), (18, 280, 251)] ++ [(18, 281, 256), (18, 295, 110), (18, 296, 124), (18, 297, 127), (18, 298, 131), (18, 299, 134), (18, 300, 141), (18, 301, 144), (18, 302, 147), (18, 303, 150), (18, 304, 157), (18, 305, 160), (18, 306, 163), (18, 307, 166), (18, 308, 169), (18, 309, 184), (18, 310, 192), (18, 311, 195), (18, 312, 198), (18, 313, 202), (18, 314, 205), (18, 315, 212), (18, 316, 215), (18, 317, 218), (18, 318, 221), (18, 319, 228), (18, 320, 231), (18, 321, 238), (18, 322, 241)] := rfl
  rw [h] at hq
  simp only [List.mem_append] at hq
  rcases hq with (((((((hq | hq) | hq) | hq) | hq) | hq) | hq) | hq) | hq
  · exact gM_0 q hq
  · exact gM_1 q hq
  · exact gM_2 q hq
  · exact gM_3 q hq
  · exact gM_4 q hq
  · exact gM_5 q hq
  · exact gM_6 q hq
  · exact gM_7 q hq
  · exact gM_8 q hq
set_option maxRecDepth 1000000 in
theorem gC_0 : ∀ q ∈ ([(0, 7, 15), (1, 7, 9), (9, 6, 35), (9, 7, 28), (11, 0, 110), (11, 1, 45), (11, 2, 73), (11, 3, 101), (11, 4, 64), (11, 5, 36), (11, 8, 85), (11, 9, 24), (11, 10, 92), (18, 11, 8), (18, 12, 102)] : List (Nat × Nat × Nat)), (fun q => Cond.classLink (mj_cn q.1) q.2.2 (mj_cn q.2.1)) q ∈ mj_mw := mj_yy_ok (ix := [529, 333, 198, 154, 523, 327, 396, 489, 363, 286, 419, 148, 449, 140, 1524]) rfl (by decide +kernel)
set_option maxRecDepth 1000000 in
theorem gC : ∀ q ∈ mj_pC, ((fun q => Cond.classLink (mj_cn q.1) q.2.2 (mj_cn q.2.1))) q ∈ mj_mw := by
  intro q hq
  have h : mj_pC = mj_pC := rfl
  exact gC_0 q hq
set_option maxRecDepth 1000000 in
theorem gI_0 : ∀ q ∈ ([(0, 1103515245, 0, 53), (5, 64513, 0, 144), (5, 462880, 0, 145), (6, 32769, 1, 53), (6, 1048575, 0, 54), (9, 32768, 0, 86), (11, 2147483647, 0, 308), (12, 1103515245, 0, 445), (14, 252645135, 0, 267), (14, 858993459, 0, 266), (14, 1431655765, 0, 265)] : List (Nat × Nat × Nat × Nat)), (fun q => Cond.constant (mj_cn q.1) q.2.2.2 (if q.2.2.1 = 0 then nI q.2.1 else -(nI q.2.1))) q ∈ mj_mw := mj_yy_ok (ix := [1474, 1081, 1082, 1357, 658, 1358, 1334, 2182, 799, 798, 797]) rfl (by decide +kernel)
set_option maxRecDepth 1000000 in
theorem gI : ∀ q ∈ mj_pI, ((fun q => Cond.constant (mj_cn q.1) q.2.2.2 (if q.2.2.1 = 0 then nI q.2.1 else -(nI q.2.1)))) q ∈ mj_mw := by
  intro q hq
  have h : mj_pI = mj_pI := rfl
  exact gI_0 q hq
set_option maxRecDepth 1000000 in
theorem gJ_0 : ∀ q ∈ ([(12, 11, 421), (12, 96, 164)] : List (Nat × Nat × Nat)), (fun q => Cond.constantLong (mj_cn q.1) q.2.2 (lN q.2.1)) q ∈ mj_mw := mj_yy_ok (ix := [2127, 1773]) rfl (by decide +kernel)
set_option maxRecDepth 1000000 in
theorem gJ : ∀ q ∈ mj_pJ, ((fun q => Cond.constantLong (mj_cn q.1) q.2.2 (lN q.2.1))) q ∈ mj_mw := by
  intro q hq
  have h : mj_pJ = mj_pJ := rfl
  exact gJ_0 q hq
set_option maxRecDepth 1000000 in
theorem gO_0 : ∀ q ∈ ([(0, 3), (1, 3), (2, 3), (3, 3), (4, 3), (5, 5), (6, 3), (7, 3), (8, 3), (9, 3), (10, 3), (11, 3), (12, 1)] : List (Nat × Nat)), (fun q => Cond.methodLink (mj_cn q.1) q.2 Lib.objectInit) q ∈ mj_mw := mj_yy_ok (ix := [528, 332, 401, 494, 368, 291, 203, 159, 424, 153, 454, 145, 1529]) rfl (by decide +kernel)
set_option maxRecDepth 1000000 in
theorem gO : ∀ q ∈ mj_pO, ((fun q => Cond.methodLink (mj_cn q.1) q.2 Lib.objectInit)) q ∈ mj_mw := by
  intro q hq
  have h : mj_pO = mj_pO := rfl
  exact gO_0 q hq
set_option maxRecDepth 1000000 in
theorem gA_0 : ∀ q ∈ ([(1, 50), (2, 66), (7, 28)] : List (Nat × Nat)), (fun q => Cond.methodLink (mj_cn q.1) q.2 arraycopyName) q ∈ mj_mw := mj_yy_ok (ix := [849, 663, 848]) rfl (by decide +kernel)
set_option maxRecDepth 1000000 in
theorem gA : ∀ q ∈ mj_pA, ((fun q => Cond.methodLink (mj_cn q.1) q.2 arraycopyName)) q ∈ mj_mw := by
  intro q hq
  have h : mj_pA = mj_pA := rfl
  exact gA_0 q hq
set_option maxRecDepth 1000000 in
theorem gV_0 : ∀ q ∈ ([(15, 0, 9), (15, 1, 15), (15, 2, 38), (15, 3, 1053)] : List (Nat × Nat × Nat)), (fun q => Cond.fieldLink (mj_cn q.1) q.2.2 (mj_vt q.2.1).1 (mj_vt q.2.1).2.1 (mj_vt q.2.1).2.2) q ∈ mj_mw := mj_yy_ok (ix := [2210, 2209, 956, 964]) rfl (by decide +kernel)
set_option maxRecDepth 1000000 in
theorem gV : ∀ q ∈ mj_pV, ((fun q => Cond.fieldLink (mj_cn q.1) q.2.2 (mj_vt q.2.1).1 (mj_vt q.2.1).2.1 (mj_vt q.2.1).2.2)) q ∈ mj_mw := by
  intro q hq
  have h : mj_pV = mj_pV := rfl
  exact gV_0 q hq
set_option maxRecDepth 1000000 in
theorem gH_0 : ∀ q ∈ ([(18, 0, 18), (18, 1, 13)] : List (Nat × Nat × Nat)), (fun q => Cond.classLink (mj_cn q.1) q.2.2 (mj_xn q.2.1)) q ∈ mj_mw := mj_yy_ok (ix := [1130, 857]) rfl (by decide +kernel)
set_option maxRecDepth 1000000 in
theorem gH : ∀ q ∈ mj_pH, ((fun q => Cond.classLink (mj_cn q.1) q.2.2 (mj_xn q.2.1))) q ∈ mj_mw := by
  intro q hq
  have h : mj_pH = mj_pH := rfl
  exact gH_0 q hq
set_option maxRecDepth 1000000 in
theorem gX_0 : ∀ q ∈ ([(0, 1, 60), (4, 1, 44), (5, 1, 19), (6, 0, 13), (9, 2, 48), (10, 3, 52), (11, 0, 231), (11, 1, 226), (16, 0, 92), (16, 1, 38)] : List (Nat × Nat × Nat)), (fun q => Cond.methodLink (mj_cn q.1) q.2.2 (mj_xm q.2.1)) q ∈ mj_mw := mj_yy_ok (ix := [1479, 640, 932, 204, 647, 778, 1209, 684, 1015, 1016]) rfl (by decide +kernel)
set_option maxRecDepth 1000000 in
theorem gX : ∀ q ∈ mj_pX, ((fun q => Cond.methodLink (mj_cn q.1) q.2.2 (mj_xm q.2.1))) q ∈ mj_mw := by
  intro q hq
  have h : mj_pX = mj_pX := rfl
  exact gX_0 q hq
set_option maxRecDepth 1000000 in
theorem mj_fcX_ok : mj_fcX := ⟨gX, mj_atr 118 rfl rfl, ⟨mj_atr 205 rfl rfl, mj_atr 641 rfl rfl, mj_atr 648 rfl rfl, mj_atr 779 rfl rfl⟩, ⟨mj_atr 206 rfl rfl, mj_atr 642 rfl rfl, mj_atr 649 rfl rfl, mj_atr 780 rfl rfl⟩⟩
theorem mj_fcV_ok : mj_fcV := gV
theorem mj_fcH_ok : mj_fcH := gH
theorem mj_fcF_ok : mj_fcF := fun q hq => ⟨gF q hq, by
  have h : mj_pF.all (fun q => decide (q.2.2.1 < (vwCl.getD q.2.1 ("", (fun _ => ("", "", "", false)), 0)).2.2)) = true := by decide +kernel
  exact of_decide_eq_true (List.all_eq_true.mp h q hq)⟩
theorem mj_fcM_ok : mj_fcM := gM
theorem mj_fcC_ok : mj_fcC := gC
theorem mj_fcI_ok : mj_fcI := gI
theorem mj_fcJ_ok : mj_fcJ := gJ
set_option maxRecDepth 1000000 in
theorem mj_fcO_ok : mj_fcO := ⟨gO, mj_atr 146 rfl rfl, mj_atr 147 rfl rfl⟩
set_option maxRecDepth 1000000 in
theorem mj_fcA_ok : mj_fcA := ⟨gA, mj_atr 665 rfl rfl, mj_atr 664 rfl rfl, mj_atr 137 rfl rfl⟩
set_option maxRecDepth 1000000 in
theorem mj_fcR_ok : mj_fcR := ⟨mj_atr 197 rfl rfl, mj_atr 488 rfl rfl, mj_atr 196 rfl rfl, mj_atr 1720 rfl rfl⟩
end
section
set_option maxRecDepth 1000000 in
theorem gK0 : ∀ k ∈ List.range 5, u_lay RX0 TX0 k ∈ mj_mw := mj_yy_ok (ix := [538, 540, 542, 544, 546]) rfl (by decide +kernel)
set_option maxRecDepth 1000000 in
theorem gK1 : ∀ k ∈ List.range 8, u_lay RX1 TX1 k ∈ mj_mw := mj_yy_ok (ix := [346, 348, 350, 352, 354, 356, 358, 360]) rfl (by decide +kernel)
set_option maxRecDepth 1000000 in
theorem gK2 : ∀ k ∈ List.range 5, u_lay RX2 TX2 k ∈ mj_mw := mj_yy_ok (ix := [408, 410, 412, 414, 416]) rfl (by decide +kernel)
set_option maxRecDepth 1000000 in
theorem gK3 : ∀ k ∈ List.range 8, u_lay RX3 TX3 k ∈ mj_mw := mj_yy_ok (ix := [506, 508, 510, 512, 514, 516, 518, 520]) rfl (by decide +kernel)
set_option maxRecDepth 1000000 in
theorem gK4 : ∀ k ∈ List.range 5, u_lay RX4 TX4 k ∈ mj_mw := mj_yy_ok (ix := [385, 387, 389, 391, 393]) rfl (by decide +kernel)
set_option maxRecDepth 1000000 in
theorem gK5 : ∀ k ∈ List.range 11, u_lay RX5 TX5 k ∈ mj_mw := mj_yy_ok (ix := [304, 306, 308, 310, 312, 314, 316, 318, 320, 322, 324]) rfl (by decide +kernel)
set_option maxRecDepth 1000000 in
theorem gK6 : ∀ k ∈ List.range 9, u_lay RX6 TX6 k ∈ mj_mw := mj_yy_ok (ix := [226, 228, 230, 232, 234, 236, 238, 240, 242]) rfl (by decide +kernel)
set_option maxRecDepth 1000000 in
theorem gK7 : ∀ k ∈ List.range 4, u_lay RX7 TX7 k ∈ mj_mw := mj_yy_ok (ix := [187, 189, 191, 193]) rfl (by decide +kernel)
set_option maxRecDepth 1000000 in
theorem gK8 : ∀ k ∈ List.range 7, u_lay RX8 TX8 k ∈ mj_mw := mj_yy_ok (ix := [434, 436, 438, 440, 442, 444, 446]) rfl (by decide +kernel)
set_option maxRecDepth 1000000 in
theorem gK9 : ∀ k ∈ List.range 7, u_lay RX9 TX9 k ∈ mj_mw := mj_yy_ok (ix := [271, 273, 275, 277, 279, 281, 283]) rfl (by decide +kernel)
set_option maxRecDepth 1000000 in
theorem gK10 : ∀ k ∈ List.range 9, u_lay RX10 TX10 k ∈ mj_mw := mj_yy_ok (ix := [469, 471, 473, 475, 477, 479, 481, 483, 485]) rfl (by decide +kernel)
set_option maxRecDepth 1000000 in
theorem gK11 : ∀ k ∈ List.range 18, u_lay RX11 TX11 k ∈ mj_mw := mj_yy_ok (ix := [567, 569, 571, 573, 575, 577, 579, 581, 583, 585, 587, 589, 591, 593, 595, 597, 599, 601]) rfl (by decide +kernel)
set_option maxRecDepth 1000000 in
theorem gK12 : ∀ k ∈ List.range 63, u_lay RX12 TX12 k ∈ mj_mw := mj_yy_ok (ix := [1593, 1595, 1597, 1599, 1601, 1603, 1605, 1607, 1609, 1611, 1613, 1615, 1617, 1619, 1621, 1623, 1625, 1627, 1629, 1631, 1633, 1635, 1637, 1639, 1641, 1643, 1645, 1647, 1649, 1651, 1653, 1655, 1657, 1659, 1661, 1663, 1665, 1667, 1669, 1671, 1673, 1675, 1677, 1679, 1681, 1683, 1685, 1687, 1689, 1691, 1693, 1695, 1697, 1699, 1701, 1703, 1705, 1707, 1709, 1711, 1713, 1715, 1717]) rfl (by decide +kernel)
theorem mj_lay {C : String} {T : u_T} {N : Nat} (h : ∀ k ∈ List.range N, u_lay C T k ∈ mj_mw) : ∀ w ∈ u_ws C T N, w ∈ mj_mw := by
  intro w hw
  obtain ⟨k, hk, rfl⟩ := List.mem_map.mp hw
  exact h k hk
def mj_isR : FieldType → Bool
  | .object _ => true
  | .array _ => true
  | _ => false
theorem mj_isR_ok : ∀ {t : FieldType}, mj_isR t = true → (∃ n, t = .object n) ∨ ∃ z, t = .array z
  | .object n, _ => Or.inl ⟨n, rfl⟩
  | .array z, _ => Or.inr ⟨z, rfl⟩
theorem mj_k3 {f : Nat} {t : FieldType} {c C : String} (h : (decide ((f = 0 → t = .int) ∧ (f = 1 → t = .boolean) ∧ (f = 2 → t = .long) ∧ f ≤ 3 ∧ c = C) && (decide (f ≠ 3) || mj_isR t)) = true) : (f = 0 → t = .int) ∧ (f = 1 → t = .boolean) ∧ (f = 2 → t = .long) ∧ (f = 3 → (∃ n, t = .object n) ∨ ∃ z, t = .array z) ∧ f ≤ 3 ∧ c = C := by
  simp only [Bool.and_eq_true, decide_eq_true_eq, Bool.or_eq_true] at h
  obtain ⟨⟨h1, h2, h3, h4, h5⟩, h6⟩ := h
  exact ⟨h1, h2, h3, fun e => (h6.elim (fun q => absurd e q) mj_isR_ok), h4, h5⟩
set_option maxRecDepth 1000000 in
theorem mj_fcK_ok : mj_fcK := by
  intro a C T N h
  match a, h with
  | 0, h =>
    cases h
    refine ⟨mj_lay gK0, rfl, mj_atr 524 rfl rfl, mj_atr 126 rfl rfl, nmX0, tyX0, fun k hk => ⟨tyX0_ok k hk, ?_⟩⟩
    have h2 : (List.range 5).all (fun k => decide ((mj_ft 0 k = 0 → tyX0 k = .int) ∧ (mj_ft 0 k = 1 → tyX0 k = .boolean) ∧ (mj_ft 0 k = 2 → tyX0 k = .long) ∧ mj_ft 0 k ≤ 3 ∧ (TX0 k).1 = RX0) && (decide (mj_ft 0 k ≠ 3) || mj_isR (tyX0 k))) = true := by decide +kernel
    exact mj_k3 (List.all_eq_true.mp h2 k (List.mem_range.mpr hk))
  | 1, h =>
    cases h
    refine ⟨mj_lay gK1, rfl, mj_atr 328 rfl rfl, mj_atr 120 rfl rfl, nmX1, tyX1, fun k hk => ⟨tyX1_ok k hk, ?_⟩⟩
    have h2 : (List.range 8).all (fun k => decide ((mj_ft 1 k = 0 → tyX1 k = .int) ∧ (mj_ft 1 k = 1 → tyX1 k = .boolean) ∧ (mj_ft 1 k = 2 → tyX1 k = .long) ∧ mj_ft 1 k ≤ 3 ∧ (TX1 k).1 = RX1) && (decide (mj_ft 1 k ≠ 3) || mj_isR (tyX1 k))) = true := by decide +kernel
    exact mj_k3 (List.all_eq_true.mp h2 k (List.mem_range.mpr hk))
  | 2, h =>
    cases h
    refine ⟨mj_lay gK2, rfl, mj_atr 397 rfl rfl, mj_atr 122 rfl rfl, nmX2, tyX2, fun k hk => ⟨tyX2_ok k hk, ?_⟩⟩
    have h2 : (List.range 5).all (fun k => decide ((mj_ft 2 k = 0 → tyX2 k = .int) ∧ (mj_ft 2 k = 1 → tyX2 k = .boolean) ∧ (mj_ft 2 k = 2 → tyX2 k = .long) ∧ mj_ft 2 k ≤ 3 ∧ (TX2 k).1 = RX2) && (decide (mj_ft 2 k ≠ 3) || mj_isR (tyX2 k))) = true := by decide +kernel
    exact mj_k3 (List.all_eq_true.mp h2 k (List.mem_range.mpr hk))
  | 3, h =>
    cases h
    refine ⟨mj_lay gK3, rfl, mj_atr 490 rfl rfl, mj_atr 125 rfl rfl, nmX3, tyX3, fun k hk => ⟨tyX3_ok k hk, ?_⟩⟩
    have h2 : (List.range 8).all (fun k => decide ((mj_ft 3 k = 0 → tyX3 k = .int) ∧ (mj_ft 3 k = 1 → tyX3 k = .boolean) ∧ (mj_ft 3 k = 2 → tyX3 k = .long) ∧ mj_ft 3 k ≤ 3 ∧ (TX3 k).1 = RX3) && (decide (mj_ft 3 k ≠ 3) || mj_isR (tyX3 k))) = true := by decide +kernel
    exact mj_k3 (List.all_eq_true.mp h2 k (List.mem_range.mpr hk))
  | 4, h =>
    cases h
    refine ⟨mj_lay gK4, rfl, mj_atr 364 rfl rfl, mj_atr 121 rfl rfl, nmX4, tyX4, fun k hk => ⟨tyX4_ok k hk, ?_⟩⟩
    have h2 : (List.range 5).all (fun k => decide ((mj_ft 4 k = 0 → tyX4 k = .int) ∧ (mj_ft 4 k = 1 → tyX4 k = .boolean) ∧ (mj_ft 4 k = 2 → tyX4 k = .long) ∧ mj_ft 4 k ≤ 3 ∧ (TX4 k).1 = RX4) && (decide (mj_ft 4 k ≠ 3) || mj_isR (tyX4 k))) = true := by decide +kernel
    exact mj_k3 (List.all_eq_true.mp h2 k (List.mem_range.mpr hk))
  | 5, h =>
    cases h
    refine ⟨mj_lay gK5, rfl, mj_atr 287 rfl rfl, mj_atr 119 rfl rfl, nmX5, tyX5, fun k hk => ⟨tyX5_ok k hk, ?_⟩⟩
    have h2 : (List.range 11).all (fun k => decide ((mj_ft 5 k = 0 → tyX5 k = .int) ∧ (mj_ft 5 k = 1 → tyX5 k = .boolean) ∧ (mj_ft 5 k = 2 → tyX5 k = .long) ∧ mj_ft 5 k ≤ 3 ∧ (TX5 k).1 = RX5) && (decide (mj_ft 5 k ≠ 3) || mj_isR (tyX5 k))) = true := by decide +kernel
    exact mj_k3 (List.all_eq_true.mp h2 k (List.mem_range.mpr hk))
  | 6, h =>
    cases h
    refine ⟨mj_lay gK6, rfl, mj_atr 199 rfl rfl, mj_atr 117 rfl rfl, nmX6, tyX6, fun k hk => ⟨tyX6_ok k hk, ?_⟩⟩
    have h2 : (List.range 9).all (fun k => decide ((mj_ft 6 k = 0 → tyX6 k = .int) ∧ (mj_ft 6 k = 1 → tyX6 k = .boolean) ∧ (mj_ft 6 k = 2 → tyX6 k = .long) ∧ mj_ft 6 k ≤ 3 ∧ (TX6 k).1 = RX6) && (decide (mj_ft 6 k ≠ 3) || mj_isR (tyX6 k))) = true := by decide +kernel
    exact mj_k3 (List.all_eq_true.mp h2 k (List.mem_range.mpr hk))
  | 7, h =>
    cases h
    refine ⟨mj_lay gK7, rfl, mj_atr 155 rfl rfl, mj_atr 116 rfl rfl, nmX7, tyX7, fun k hk => ⟨tyX7_ok k hk, ?_⟩⟩
    have h2 : (List.range 4).all (fun k => decide ((mj_ft 7 k = 0 → tyX7 k = .int) ∧ (mj_ft 7 k = 1 → tyX7 k = .boolean) ∧ (mj_ft 7 k = 2 → tyX7 k = .long) ∧ mj_ft 7 k ≤ 3 ∧ (TX7 k).1 = RX7) && (decide (mj_ft 7 k ≠ 3) || mj_isR (tyX7 k))) = true := by decide +kernel
    exact mj_k3 (List.all_eq_true.mp h2 k (List.mem_range.mpr hk))
  | 8, h =>
    cases h
    refine ⟨mj_lay gK8, rfl, mj_atr 420 rfl rfl, mj_atr 123 rfl rfl, nmX8, tyX8, fun k hk => ⟨tyX8_ok k hk, ?_⟩⟩
    have h2 : (List.range 7).all (fun k => decide ((mj_ft 8 k = 0 → tyX8 k = .int) ∧ (mj_ft 8 k = 1 → tyX8 k = .boolean) ∧ (mj_ft 8 k = 2 → tyX8 k = .long) ∧ mj_ft 8 k ≤ 3 ∧ (TX8 k).1 = RX8) && (decide (mj_ft 8 k ≠ 3) || mj_isR (tyX8 k))) = true := by decide +kernel
    exact mj_k3 (List.all_eq_true.mp h2 k (List.mem_range.mpr hk))
  | 9, h =>
    cases h
    refine ⟨mj_lay gK9, rfl, mj_atr 149 rfl rfl, mj_atr 115 rfl rfl, nmX9, tyX9, fun k hk => ⟨tyX9_ok k hk, ?_⟩⟩
    have h2 : (List.range 7).all (fun k => decide ((mj_ft 9 k = 0 → tyX9 k = .int) ∧ (mj_ft 9 k = 1 → tyX9 k = .boolean) ∧ (mj_ft 9 k = 2 → tyX9 k = .long) ∧ mj_ft 9 k ≤ 3 ∧ (TX9 k).1 = RX9) && (decide (mj_ft 9 k ≠ 3) || mj_isR (tyX9 k))) = true := by decide +kernel
    exact mj_k3 (List.all_eq_true.mp h2 k (List.mem_range.mpr hk))
  | 10, h =>
    cases h
    refine ⟨mj_lay gK10, rfl, mj_atr 450 rfl rfl, mj_atr 124 rfl rfl, nmX10, tyX10, fun k hk => ⟨tyX10_ok k hk, ?_⟩⟩
    have h2 : (List.range 9).all (fun k => decide ((mj_ft 10 k = 0 → tyX10 k = .int) ∧ (mj_ft 10 k = 1 → tyX10 k = .boolean) ∧ (mj_ft 10 k = 2 → tyX10 k = .long) ∧ mj_ft 10 k ≤ 3 ∧ (TX10 k).1 = RX10) && (decide (mj_ft 10 k ≠ 3) || mj_isR (tyX10 k))) = true := by decide +kernel
    exact mj_k3 (List.all_eq_true.mp h2 k (List.mem_range.mpr hk))
  | 11, h =>
    cases h
    refine ⟨mj_lay gK11, rfl, mj_atr 141 rfl rfl, mj_atr 114 rfl rfl, nmX11, tyX11, fun k hk => ⟨tyX11_ok k hk, ?_⟩⟩
    have h2 : (List.range 18).all (fun k => decide ((mj_ft 11 k = 0 → tyX11 k = .int) ∧ (mj_ft 11 k = 1 → tyX11 k = .boolean) ∧ (mj_ft 11 k = 2 → tyX11 k = .long) ∧ mj_ft 11 k ≤ 3 ∧ (TX11 k).1 = RX11) && (decide (mj_ft 11 k ≠ 3) || mj_isR (tyX11 k))) = true := by decide +kernel
    exact mj_k3 (List.all_eq_true.mp h2 k (List.mem_range.mpr hk))
  | 12, h =>
    cases h
    refine ⟨mj_lay gK12, rfl, mj_atr 1525 rfl rfl, mj_atr 127 rfl rfl, nmX12, tyX12, fun k hk => ⟨tyX12_ok k hk, ?_⟩⟩
    have h2 : (List.range 63).all (fun k => decide ((mj_ft 12 k = 0 → tyX12 k = .int) ∧ (mj_ft 12 k = 1 → tyX12 k = .boolean) ∧ (mj_ft 12 k = 2 → tyX12 k = .long) ∧ mj_ft 12 k ≤ 3 ∧ (TX12 k).1 = RX12) && (decide (mj_ft 12 k ≠ 3) || mj_isR (tyX12 k))) = true := by decide +kernel
    exact mj_k3 (List.all_eq_true.mp h2 k (List.mem_range.mpr hk))
  | k + 13, h => simp [vwCl] at h
theorem mj_fcS_ok : mj_fcS := by
  intro k a h
  have hk : k < mj_shl.length := mj_sh_lt (by rw [h]; omega)
  have h2 : (List.range mj_shl.length).all (fun k => decide (mj_sh k < 10) || ((vwCl[mj_sh k - 10]?).map (fun q => q.2.2) == some (mj_ln k))) = true := by decide +kernel
  have h3 := List.all_eq_true.mp h2 k (List.mem_range.mpr hk)
  simp only [Bool.or_eq_true, decide_eq_true_eq, beq_iff_eq] at h3
  rcases h3 with h3 | h3
  · omega
  · rw [h, show 10 + a - 10 = a by omega] at h3
    cases hc : vwCl[a]? with
    | none => rw [hc] at h3; cases h3
    | some q =>
      obtain ⟨C, T, N⟩ := q
      rw [hc] at h3
      have e : N = mj_ln k := Option.some.inj h3
      subst e
      exact ⟨C, T, rfl⟩
theorem mj_lnb_ok : mj_lnb := by
  intro k
  rcases Nat.lt_or_ge k mj_lnl.length with q | q
  · have h2 : (List.range mj_lnl.length).all (fun k => decide (mj_ln k < 2 ^ 20)) = true := by decide +kernel
    exact of_decide_eq_true (List.all_eq_true.mp h2 k (List.mem_range.mpr q))
  · unfold mj_ln
    rw [List.getD_eq_getElem?_getD, List.getElem?_eq_none q]
    decide
end
section
set_option maxRecDepth 1000000 in
theorem gQc_0 : ∀ q ∈ ([0, 1, 2, 3, 4, 5, 6, 7, 8, 9, 10, 11, 12, 13, 14, 15, 16, 17, 18, 19, 20, 21, 22, 23, 24, 25, 26, 27, 28, 29, 30, 31, 32, 33, 34, 35, 36, 37, 38, 39] : List Nat), (fun q => mj_cw q) q ∈ mj_mw := mj_yy_ok (ix := [527, 1468, 1473, 1478, 1483, 1487, 1494, 331, 1126, 843, 623, 704, 1374, 1385, 400, 696, 683, 792, 788, 1407, 1338, 662, 669, 676, 493, 1390, 1395, 1403, 1411, 1422, 1426, 367, 635, 803, 639, 1523, 290, 931, 1062, 942]) rfl (by decide +kernel)
set_option maxRecDepth 1000000 in
theorem gQc_1 : ∀ q ∈ ([40, 41, 42, 43, 44, 45, 46, 47, 48, 49, 50, 51, 52, 53, 54, 55, 56, 57, 58, 59, 60, 61, 62, 63, 64, 65, 66, 67, 68, 69, 70, 71, 72, 73, 74, 75, 76, 77, 78, 79] : List Nat), (fun q => mj_cw q) q ∈ mj_mw := mj_yy_ok (ix := [946, 991, 1102, 1106, 1058, 1066, 1070, 1074, 1078, 1086, 1110, 1114, 1090, 1098, 202, 210, 653, 729, 1118, 1122, 1355, 1094, 657, 158, 163, 847, 627, 708, 1138, 423, 720, 745, 765, 761, 1142, 741, 733, 753, 757, 815]) rfl (by decide +kernel)
set_option maxRecDepth 1000000 in
theorem gQc_2 : ∀ q ∈ ([80, 81, 82, 83, 84, 85, 86, 87, 88, 89, 90, 91, 92, 93, 94, 95, 96, 97, 98, 99, 100, 101, 102, 103, 104, 105, 106, 107, 108, 109, 110, 111, 112, 113, 114, 115, 116, 117, 118, 119] : List Nat), (fun q => mj_cw q) q ∈ mj_mw := mj_yy_ok (ix := [819, 1505, 831, 835, 823, 152, 936, 646, 725, 1351, 1362, 453, 777, 1278, 1286, 1282, 1297, 1301, 1310, 1305, 144, 607, 611, 861, 615, 1134, 1166, 1181, 1193, 619, 1201, 1208, 1216, 1223, 700, 1234, 1245, 1252, 1259, 1266]) rfl (by decide +kernel)
set_option maxRecDepth 1000000 in
theorem gQc_3 : ∀ q ∈ ([120, 121, 122, 123, 124, 125, 126, 127, 128, 129, 130, 131, 132, 133, 134, 135, 136, 137, 138, 139, 140, 141, 142, 143, 144, 145, 146, 147, 148, 149, 150, 151, 152, 153, 154, 155, 156, 157, 158, 159] : List Nat), (fun q => mj_cw q) q ∈ mj_mw := mj_yy_ok (ix := [1512, 712, 737, 749, 1274, 769, 1293, 1318, 1519, 1325, 1333, 1347, 784, 1370, 807, 1381, 1418, 1433, 1437, 1440, 1447, 1452, 1456, 811, 1463, 1501, 827, 839, 853, 1170, 1328, 1237, 773, 631, 716, 1227, 1185, 688, 692, 672]) rfl (by decide +kernel)
set_option maxRecDepth 1000000 in
theorem gQc_4 : ∀ q ∈ ([160, 161, 162, 163, 164, 165, 166, 167, 168, 169, 170, 171, 172, 173, 174, 175, 176, 177, 178, 179, 180, 181, 182, 183, 184, 185, 186, 187, 188, 189, 190, 191, 192, 193, 194, 195, 196, 197, 198, 199] : List Nat), (fun q => mj_cw q) q ∈ mj_mw := mj_yy_ok (ix := [679, 1528, 1724, 1740, 1858, 1843, 1899, 1728, 1732, 1748, 1751, 1754, 1744, 1772, 1769, 1766, 1781, 1758, 1801, 1839, 1785, 1789, 1817, 1824, 1827, 1821, 1809, 1813, 1797, 1805, 1831, 1835, 1793, 1777, 1762, 1736, 1847, 1939, 1935, 1851]) rfl (by decide +kernel)
set_option maxRecDepth 1000000 in
theorem gQc_5 : ∀ q ∈ ([200, 201, 202, 203, 204, 205, 206, 207, 208, 209, 210, 211, 212, 213, 214, 215, 216, 217, 218, 219, 220, 221, 222, 223, 224, 225, 226, 227, 228, 229, 230, 231, 232, 233, 234, 235, 236, 237, 238, 239] : List Nat), (fun q => mj_cw q) q ∈ mj_mw := mj_yy_ok (ix := [1995, 1896, 1893, 1889, 1886, 1882, 1878, 1919, 1955, 1963, 1951, 1947, 1959, 1943, 1991, 1862, 1866, 1874, 1915, 1870, 1855, 1907, 1911, 1903, 1923, 1927, 1931, 1967, 1971, 1975, 1979, 1987, 1983, 1999, 2003, 2007, 2011, 2015, 2019, 2027]) rfl (by decide +kernel)
set_option maxRecDepth 1000000 in
theorem gQc_6 : ∀ q ∈ ([240, 241, 242, 243, 244, 245, 246, 247, 248, 249, 250, 251, 252, 253, 254, 255, 256, 257, 258, 259, 260, 261, 262, 263, 264, 265, 266, 267, 268, 269, 270, 271, 272, 273, 274, 275, 276, 277, 278, 279] : List Nat), (fun q => mj_cw q) q ∈ mj_mw := mj_yy_ok (ix := [2023, 2031, 2035, 2043, 2050, 2047, 2054, 2039, 2058, 2062, 2082, 2078, 2086, 2090, 2074, 2070, 2066, 2094, 2102, 2098, 2110, 2106, 2114, 2118, 2126, 2131, 2122, 2135, 2145, 2142, 2139, 2153, 2149, 2157, 2165, 2161, 2169, 2181, 2177, 2173]) rfl (by decide +kernel)
set_option maxRecDepth 1000000 in
theorem gQc_7 : ∀ q ∈ ([280, 281, 282, 283, 284, 285, 286, 287, 288, 289, 290, 291, 292, 293, 294, 295, 296, 297, 298, 299, 300, 301, 302, 303, 304, 305, 306, 307, 308, 309, 310, 311, 312, 313, 314, 315, 316, 317, 318, 319] : List Nat), (fun q => mj_cw q) q ∈ mj_mw := mj_yy_ok (ix := [2186, 2190, 796, 951, 955, 960, 963, 968, 996, 1000, 1004, 1008, 1011, 1019, 1014, 856, 1129, 1162, 1177, 1189, 1197, 1204, 1212, 1219, 1230, 1241, 1248, 1255, 1262, 1270, 1289, 1314, 1321, 1343, 1366, 1377, 1414, 1429, 1443, 1459]) rfl (by decide +kernel)
set_option maxRecDepth 1000000 in
theorem gQc_8 : ∀ q ∈ ([320, 321, 322] : List Nat), (fun q => mj_cw q) q ∈ mj_mw := mj_yy_ok (ix := [1497, 1508, 1515]) rfl (by decide +kernel)
set_option maxRecDepth 1000000 in
theorem gQc : ∀ q ∈ ([0, 1, 2, 3, 4, 5, 6, 7, 8, 9, 10, 11, 12, 13, 14, 15, 16, 17, 18, 19, 20, 21, 22, 23, 24, 25, 26, 27, 28, 29, 30, 31, 32, 33, 34, 35, 36, 37, 38, 39] ++ [40, 41, 42, 43, 44, 45, 46, 47, 48, 49, 50, 51, 52, 53, 54, 55, 56, 57, 58, 59, 60, 61, 62, 63, 64, 65, 66, 67, 68, 69, 70, 71, 72, 73, 74, 75, 76, 77, 78, 79] ++ [80, 81, 82, 83, 84, 85, 86, 87, 88, 89, 90, 91, 92, 93, 94, 95, 96, 97, 98, 99, 100, 101, 102, 103, 104, 105, 106, 107, 108, 109, 110, 111, 112, 113, 114, 115, 116, 117, 118, 119] ++ [120, 121, 122, 123, 124, 125, 126, 127, 128, 129, 130, 131, 132, 133, 134, 135, 136, 137, 138, 139, 140, 141, 142, 143, 144, 145, 146, 147, 148, 149, 150, 151, 152, 153, 154, 155, 156, 157, 158, 159] ++ [160, 161, 162, 163, 164, 165, 166, 167, 168, 169, 170, 171, 172, 173, 174, 175, 176, 177, 178, 179, 180, 181, 182, 183, 184, 185, 186, 187, 188, 189, 190, 191, 192, 193, 194, 195, 196, 197, 198, 199] ++ [200, 201, 202, 203, 204, 205, 206, 207, 208, 209, 210, 211, 212, 213, 214, 215, 216, 217, 218, 219, 220, 221, 222, 223, 224, 225, 226, 227, 228, 229, 230, 231, 232, 233, 234, 235, 236, 237, 238, 239] ++ [240, 241, 242, 243, 244, 245, 246, 247, 248, 249, 250, 251, 252, 253, 254, 255, 256, 257, 258, 259, 260, 261, 262, 263, 264, 265, 266, 267, 268, 269, 270, 271, 272, 273, 274, 275, 276, 277, 278, 279] ++ [280, 281, 282, 283, 284, 285, 286, 287, 288, 289, 290, 291, 292, 293, 294, 295, 296, 297, 298, 299, 300, 301, 302, 303, 304, 305, 306, 307, 308, 309, 310, 311, 312, 313, 314, 315, 316, 317, 318, 319] ++ [320, 321, 322] : List Nat), ((fun q => mj_cw q) q) ∈ mj_mw := by
  intro q hq
  simp only [List.mem_append] at hq
  rcases hq with (((((((hq | hq) | hq) | hq) | hq) | hq) | hq) | hq) | hq
  · exact gQc_0 q hq
  · exact gQc_1 q hq
  · exact gQc_2 q hq
  · exact gQc_3 q hq
  · exact gQc_4 q hq
  · exact gQc_5 q hq
  · exact gQc_6 q hq
  · exact gQc_7 q hq
  · exact gQc_8 q hq
def gQcl : List Nat := [0, 1, 2, 3, 4, 5, 6, 7, 8, 9, 10, 11, 12, 13, 14, 15, 16, 17, 18, 19, 20, 21, 22, 23, 24, 25, 26, 27, 28, 29, 30, 31, 32, 33, 34, 35, 36, 37, 38, 39] ++ [40, 41, 42, 43, 44, 45, 46, 47, 48, 49, 50, 51, 52, 53, 54, 55, 56, 57, 58, 59, 60, 61, 62, 63, 64, 65, 66, 67, 68, 69, 70, 71, 72, 73, 74, 75, 76, 77, 78, 79] ++ [80, 81, 82, 83, 84, 85, 86, 87, 88, 89, 90, 91, 92, 93, 94, 95, 96, 97, 98, 99, 100, 101, 102, 103, 104, 105, 106, 107, 108, 109, 110, 111, 112, 113, 114, 115, 116, 117, 118, 119] ++ [120, 121, 122, 123, 124, 125, 126, 127, 128, 129, 130, 131, 132, 133, 134, 135, 136, 137, 138, 139, 140, 141, 142, 143, 144, 145, 146, 147, 148, 149, 150, 151, 152, 153, 154, 155, 156, 157, 158, 159] ++ [160, 161, 162, 163, 164, 165, 166, 167, 168, 169, 170, 171, 172, 173, 174, 175, 176, 177, 178, 179, 180, 181, 182, 183, 184, 185, 186, 187, 188, 189, 190, 191, 192, 193, 194, 195, 196, 197, 198, 199] ++ [200, 201, 202, 203, 204, 205, 206, 207, 208, 209, 210, 211, 212, 213, 214, 215, 216, 217, 218, 219, 220, 221, 222, 223, 224, 225, 226, 227, 228, 229, 230, 231, 232, 233, 234, 235, 236, 237, 238, 239] ++ [240, 241, 242, 243, 244, 245, 246, 247, 248, 249, 250, 251, 252, 253, 254, 255, 256, 257, 258, 259, 260, 261, 262, 263, 264, 265, 266, 267, 268, 269, 270, 271, 272, 273, 274, 275, 276, 277, 278, 279] ++ [280, 281, 282, 283, 284, 285, 286, 287, 288, 289, 290, 291, 292, 293, 294, 295, 296, 297, 298, 299, 300, 301, 302, 303, 304, 305, 306, 307, 308, 309, 310, 311, 312, 313, 314, 315, 316, 317, 318, 319] ++ [320, 321, 322]
set_option maxRecDepth 1000000 in
theorem gQi_0 : ∀ q ∈ ([0, 1, 2, 3, 4, 5, 6, 7, 8, 9, 10, 11, 12, 13, 14, 15, 16, 17, 18, 19, 20, 21, 22, 23, 24, 25, 26, 27, 28, 29, 30, 31, 32, 33, 34, 35, 36, 37, 38, 39] : List Nat), (fun q => Cond.initialized (mj_my q).cls) q ∈ mj_mw := mj_yy_ok (ix := [126, 126, 126, 126, 126, 126, 126, 120, 120, 120, 120, 120, 120, 120, 122, 122, 122, 122, 122, 122, 122, 122, 122, 122, 125, 125, 125, 125, 125, 125, 125, 121, 121, 121, 121, 121, 119, 119, 119, 119]) rfl (by decide +kernel)
set_option maxRecDepth 1000000 in
theorem gQi_1 : ∀ q ∈ ([40, 41, 42, 43, 44, 45, 46, 47, 48, 49, 50, 51, 52, 53, 54, 55, 56, 57, 58, 59, 60, 61, 62, 63, 64, 65, 66, 67, 68, 69, 70, 71, 72, 73, 74, 75, 76, 77, 78, 79] : List Nat), (fun q => Cond.initialized (mj_my q).cls) q ∈ mj_mw := mj_yy_ok (ix := [119, 119, 119, 119, 119, 119, 119, 119, 119, 119, 119, 119, 119, 119, 117, 117, 117, 117, 117, 117, 117, 117, 117, 116, 116, 116, 116, 116, 116, 123, 123, 123, 123, 123, 123, 123, 123, 123, 123, 123]) rfl (by decide +kernel)
set_option maxRecDepth 1000000 in
theorem gQi_2 : ∀ q ∈ ([80, 81, 82, 83, 84, 85, 86, 87, 88, 89, 90, 91, 92, 93, 94, 95, 96, 97, 98, 99, 100, 101, 102, 103, 104, 105, 106, 107, 108, 109, 110, 111, 112, 113, 114, 115, 116, 117, 118, 119] : List Nat), (fun q => Cond.initialized (mj_my q).cls) q ∈ mj_mw := mj_yy_ok (ix := [123, 123, 123, 123, 123, 115, 115, 115, 115, 115, 115, 124, 124, 124, 124, 124, 124, 124, 124, 124, 114, 114, 114, 114, 114, 114, 114, 114, 114, 114, 114, 114, 114, 114, 114, 114, 114, 114, 114, 114]) rfl (by decide +kernel)
set_option maxRecDepth 1000000 in
theorem gQi_3 : ∀ q ∈ ([120, 121, 122, 123, 124, 125, 126, 127, 128, 129, 130, 131, 132, 133, 134, 135, 136, 137, 138, 139, 140, 141, 142, 143, 144, 145, 146, 147, 148, 149, 150, 151, 152, 153, 154, 155, 156, 157, 158, 159] : List Nat), (fun q => Cond.initialized (mj_my q).cls) q ∈ mj_mw := mj_yy_ok (ix := [114, 114, 114, 114, 114, 114, 114, 114, 114, 114, 114, 114, 114, 114, 114, 114, 114, 114, 114, 114, 114, 114, 114, 114, 114, 114, 114, 114, 114, 114, 114, 114, 114, 114, 114, 114, 114, 114, 114, 114]) rfl (by decide +kernel)
set_option maxRecDepth 1000000 in
theorem gQi_4 : ∀ q ∈ ([160, 161, 162, 163, 164, 165, 166, 167, 168, 169, 170, 171, 172, 173, 174, 175, 176, 177, 178, 179, 180, 181, 182, 183, 184, 185, 186, 187, 188, 189, 190, 191, 192, 193, 194, 195, 196, 197, 198, 199] : List Nat), (fun q => Cond.initialized (mj_my q).cls) q ∈ mj_mw := mj_yy_ok (ix := [114, 127, 127, 127, 127, 127, 127, 127, 127, 127, 127, 127, 127, 127, 127, 127, 127, 127, 127, 127, 127, 127, 127, 127, 127, 127, 127, 127, 127, 127, 127, 127, 127, 127, 127, 127, 127, 127, 127, 127]) rfl (by decide +kernel)
set_option maxRecDepth 1000000 in
theorem gQi_5 : ∀ q ∈ ([200, 201, 202, 203, 204, 205, 206, 207, 208, 209, 210, 211, 212, 213, 214, 215, 216, 217, 218, 219, 220, 221, 222, 223, 224, 225, 226, 227, 228, 229, 230, 231, 232, 233, 234, 235, 236, 237, 238, 239] : List Nat), (fun q => Cond.initialized (mj_my q).cls) q ∈ mj_mw := mj_yy_ok (ix := [127, 127, 127, 127, 127, 127, 127, 127, 127, 127, 127, 127, 127, 127, 127, 127, 127, 127, 127, 127, 127, 127, 127, 127, 127, 127, 127, 127, 127, 127, 127, 127, 127, 127, 127, 127, 127, 127, 127, 127]) rfl (by decide +kernel)
set_option maxRecDepth 1000000 in
theorem gQi_6 : ∀ q ∈ ([240, 241, 242, 243, 244, 245, 246, 247, 248, 249, 250, 251, 252, 253, 254, 255, 256, 257, 258, 259, 260, 261, 262, 263, 264, 265, 266, 267, 268, 269, 270, 271, 272, 273, 274, 275, 276, 277, 278, 279] : List Nat), (fun q => Cond.initialized (mj_my q).cls) q ∈ mj_mw := mj_yy_ok (ix := [127, 127, 127, 127, 127, 127, 127, 127, 127, 127, 127, 127, 127, 127, 127, 127, 127, 127, 127, 127, 127, 127, 127, 127, 127, 127, 127, 127, 127, 127, 127, 127, 127, 127, 127, 127, 127, 127, 127, 127]) rfl (by decide +kernel)
set_option maxRecDepth 1000000 in
theorem gQi_7 : ∀ q ∈ ([280, 281, 282, 283, 284, 285, 286, 287, 288, 289, 290, 291, 292, 293, 294, 295, 296, 297, 298, 299, 300, 301, 302, 303, 304, 305, 306, 307, 308, 309, 310, 311, 312, 313, 314, 315, 316, 317, 318, 319] : List Nat), (fun q => Cond.initialized (mj_my q).cls) q ∈ mj_mw := mj_yy_ok (ix := [127, 127, 138, 132, 132, 133, 132, 134, 132, 132, 132, 132, 133, 133, 133, 113, 113, 113, 113, 113, 113, 113, 113, 113, 113, 113, 113, 113, 113, 113, 113, 113, 113, 113, 113, 113, 113, 113, 113, 113]) rfl (by decide +kernel)
set_option maxRecDepth 1000000 in
theorem gQi_8 : ∀ q ∈ ([320, 321, 322] : List Nat), (fun q => Cond.initialized (mj_my q).cls) q ∈ mj_mw := mj_yy_ok (ix := [113, 113, 113]) rfl (by decide +kernel)
set_option maxRecDepth 1000000 in
theorem gQi : ∀ q ∈ ([0, 1, 2, 3, 4, 5, 6, 7, 8, 9, 10, 11, 12, 13, 14, 15, 16, 17, 18, 19, 20, 21, 22, 23, 24, 25, 26, 27, 28, 29, 30, 31, 32, 33, 34, 35, 36, 37, 38, 39] ++ [40, 41, 42, 43, 44, 45, 46, 47, 48, 49, 50, 51, 52, 53, 54, 55, 56, 57, 58, 59, 60, 61, 62, 63, 64, 65, 66, 67, 68, 69, 70, 71, 72, 73, 74, 75, 76, 77, 78, 79] ++ [80, 81, 82, 83, 84, 85, 86, 87, 88, 89, 90, 91, 92, 93, 94, 95, 96, 97, 98, 99, 100, 101, 102, 103, 104, 105, 106, 107, 108, 109, 110, 111, 112, 113, 114, 115, 116, 117, 118, 119] ++ [120, 121, 122, 123, 124, 125, 126, 127, 128, 129, 130, 131, 132, 133, 134, 135, 136, 137, 138, 139, 140, 141, 142, 143, 144, 145, 146, 147, 148, 149, 150, 151, 152, 153, 154, 155, 156, 157, 158, 159] ++ [160, 161, 162, 163, 164, 165, 166, 167, 168, 169, 170, 171, 172, 173, 174, 175, 176, 177, 178, 179, 180, 181, 182, 183, 184, 185, 186, 187, 188, 189, 190, 191, 192, 193, 194, 195, 196, 197, 198, 199] ++ [200, 201, 202, 203, 204, 205, 206, 207, 208, 209, 210, 211, 212, 213, 214, 215, 216, 217, 218, 219, 220, 221, 222, 223, 224, 225, 226, 227, 228, 229, 230, 231, 232, 233, 234, 235, 236, 237, 238, 239] ++ [240, 241, 242, 243, 244, 245, 246, 247, 248, 249, 250, 251, 252, 253, 254, 255, 256, 257, 258, 259, 260, 261, 262, 263, 264, 265, 266, 267, 268, 269, 270, 271, 272, 273, 274, 275, 276, 277, 278, 279] ++ [280, 281, 282, 283, 284, 285, 286, 287, 288, 289, 290, 291, 292, 293, 294, 295, 296, 297, 298, 299, 300, 301, 302, 303, 304, 305, 306, 307, 308, 309, 310, 311, 312, 313, 314, 315, 316, 317, 318, 319] ++ [320, 321, 322] : List Nat), ((fun q => Cond.initialized (mj_my q).cls) q) ∈ mj_mw := by
  intro q hq
  simp only [List.mem_append] at hq
  rcases hq with (((((((hq | hq) | hq) | hq) | hq) | hq) | hq) | hq) | hq
  · exact gQi_0 q hq
  · exact gQi_1 q hq
  · exact gQi_2 q hq
  · exact gQi_3 q hq
  · exact gQi_4 q hq
  · exact gQi_5 q hq
  · exact gQi_6 q hq
  · exact gQi_7 q hq
  · exact gQi_8 q hq
def gQil : List Nat := [0, 1, 2, 3, 4, 5, 6, 7, 8, 9, 10, 11, 12, 13, 14, 15, 16, 17, 18, 19, 20, 21, 22, 23, 24, 25, 26, 27, 28, 29, 30, 31, 32, 33, 34, 35, 36, 37, 38, 39] ++ [40, 41, 42, 43, 44, 45, 46, 47, 48, 49, 50, 51, 52, 53, 54, 55, 56, 57, 58, 59, 60, 61, 62, 63, 64, 65, 66, 67, 68, 69, 70, 71, 72, 73, 74, 75, 76, 77, 78, 79] ++ [80, 81, 82, 83, 84, 85, 86, 87, 88, 89, 90, 91, 92, 93, 94, 95, 96, 97, 98, 99, 100, 101, 102, 103, 104, 105, 106, 107, 108, 109, 110, 111, 112, 113, 114, 115, 116, 117, 118, 119] ++ [120, 121, 122, 123, 124, 125, 126, 127, 128, 129, 130, 131, 132, 133, 134, 135, 136, 137, 138, 139, 140, 141, 142, 143, 144, 145, 146, 147, 148, 149, 150, 151, 152, 153, 154, 155, 156, 157, 158, 159] ++ [160, 161, 162, 163, 164, 165, 166, 167, 168, 169, 170, 171, 172, 173, 174, 175, 176, 177, 178, 179, 180, 181, 182, 183, 184, 185, 186, 187, 188, 189, 190, 191, 192, 193, 194, 195, 196, 197, 198, 199] ++ [200, 201, 202, 203, 204, 205, 206, 207, 208, 209, 210, 211, 212, 213, 214, 215, 216, 217, 218, 219, 220, 221, 222, 223, 224, 225, 226, 227, 228, 229, 230, 231, 232, 233, 234, 235, 236, 237, 238, 239] ++ [240, 241, 242, 243, 244, 245, 246, 247, 248, 249, 250, 251, 252, 253, 254, 255, 256, 257, 258, 259, 260, 261, 262, 263, 264, 265, 266, 267, 268, 269, 270, 271, 272, 273, 274, 275, 276, 277, 278, 279] ++ [280, 281, 282, 283, 284, 285, 286, 287, 288, 289, 290, 291, 292, 293, 294, 295, 296, 297, 298, 299, 300, 301, 302, 303, 304, 305, 306, 307, 308, 309, 310, 311, 312, 313, 314, 315, 316, 317, 318, 319] ++ [320, 321, 322]
set_option maxRecDepth 1000000 in
theorem gQv_0 : ∀ q ∈ ([1, 2, 3, 4, 5, 6, 8, 9, 10, 11, 12, 13, 15, 16, 17, 18, 19, 20, 21, 22, 23, 25, 26, 27, 28, 29, 30, 32, 33, 34, 35, 37, 38, 39, 40, 41, 42, 43, 44, 45] : List Nat), (fun q => Cond.instanceMethod (mj_my q)) q ∈ mj_mw := mj_yy_ok (ix := [1466, 1472, 1477, 1482, 1486, 1492, 1124, 841, 621, 702, 1372, 1383, 694, 681, 790, 786, 1405, 1336, 660, 668, 675, 1388, 1394, 1402, 1410, 1420, 1424, 633, 801, 638, 1521, 929, 1061, 941, 945, 990, 1101, 1105, 1057, 1065]) rfl (by decide +kernel)
set_option maxRecDepth 1000000 in
theorem gQv_1 : ∀ q ∈ ([46, 47, 48, 49, 50, 51, 52, 53, 55, 56, 57, 58, 59, 60, 61, 62, 64, 65, 66, 67, 68, 70, 71, 72, 73, 74, 75, 76, 77, 78, 79, 80, 81, 82, 83, 84, 86, 87, 88, 89] : List Nat), (fun q => Cond.instanceMethod (mj_my q)) q ∈ mj_mw := mj_yy_ok (ix := [1069, 1073, 1077, 1085, 1109, 1113, 1089, 1097, 208, 651, 727, 1116, 1120, 1353, 1092, 655, 161, 845, 625, 706, 1136, 718, 743, 763, 759, 1140, 739, 731, 751, 756, 813, 818, 1503, 829, 834, 822, 934, 644, 723, 1349]) rfl (by decide +kernel)
set_option maxRecDepth 1000000 in
theorem gQv_2 : ∀ q ∈ ([90, 92, 93, 94, 95, 96, 97, 98, 99, 101, 102, 103, 104, 105, 106, 107, 108, 109, 110, 111, 112, 113, 114, 115, 116, 117, 118, 119, 120, 121, 122, 123, 124, 125, 126, 127, 128, 129, 130, 131] : List Nat), (fun q => Cond.instanceMethod (mj_my q)) q ∈ mj_mw := mj_yy_ok (ix := [1361, 775, 1276, 1285, 1281, 1295, 1300, 1309, 1304, 605, 610, 859, 613, 1132, 1164, 1179, 1191, 617, 1199, 1206, 1214, 1221, 698, 1232, 1243, 1250, 1257, 1264, 1510, 710, 735, 747, 1272, 767, 1291, 1316, 1517, 1323, 1332, 1345]) rfl (by decide +kernel)
set_option maxRecDepth 1000000 in
theorem gQv_3 : ∀ q ∈ ([132, 133, 134, 135, 136, 137, 140, 141, 142, 143, 144, 145, 146, 147, 148, 149, 152, 153, 154, 155, 156, 157, 158, 162, 163, 165, 167, 168, 169, 172, 175, 176, 177, 178, 179, 180, 181, 182, 185, 186] : List Nat), (fun q => Cond.instanceMethod (mj_my q)) q ∈ mj_mw := mj_yy_ok (ix := [782, 1368, 805, 1379, 1416, 1431, 1445, 1451, 1455, 809, 1461, 1499, 825, 837, 851, 1169, 772, 630, 715, 1226, 1184, 687, 691, 1722, 1739, 1842, 1726, 1731, 1747, 1743, 1765, 1780, 1757, 1800, 1838, 1784, 1788, 1816, 1820, 1808]) rfl (by decide +kernel)
set_option maxRecDepth 1000000 in
theorem gQv_4 : ∀ q ∈ ([187, 188, 189, 190, 191, 192, 193, 194, 195, 196, 197, 198, 199, 200, 202, 204, 205, 206, 207, 208, 209, 210, 211, 212, 213, 214, 215, 216, 217, 218, 219, 220, 221, 222, 223, 224, 225, 226, 227, 228] : List Nat), (fun q => Cond.instanceMethod (mj_my q)) q ∈ mj_mw := mj_yy_ok (ix := [1812, 1796, 1804, 1830, 1834, 1792, 1776, 1761, 1734, 1845, 1938, 1934, 1849, 1994, 1892, 1885, 1881, 1877, 1918, 1954, 1962, 1950, 1946, 1958, 1942, 1990, 1861, 1865, 1873, 1914, 1869, 1853, 1906, 1910, 1901, 1921, 1925, 1929, 1965, 1969]) rfl (by decide +kernel)
set_option maxRecDepth 1000000 in
theorem gQv_5 : ∀ q ∈ ([229, 230, 231, 232, 233, 234, 235, 236, 237, 238, 239, 240, 241, 242, 243, 245, 246, 247, 248, 249, 250, 251, 252, 253, 254, 255, 256, 257, 258, 259, 260, 261, 262, 263, 264, 265, 266, 267, 270, 271] : List Nat), (fun q => Cond.instanceMethod (mj_my q)) q ∈ mj_mw := mj_yy_ok (ix := [1973, 1977, 1986, 1981, 1997, 2001, 2005, 2009, 2013, 2017, 2026, 2021, 2029, 2033, 2042, 2046, 2053, 2037, 2056, 2060, 2081, 2077, 2085, 2089, 2073, 2069, 2064, 2092, 2101, 2096, 2109, 2104, 2112, 2116, 2125, 2130, 2120, 2133, 2137, 2152]) rfl (by decide +kernel)
set_option maxRecDepth 1000000 in
theorem gQv_6 : ∀ q ∈ ([272, 273, 274, 275, 276, 277, 278, 279, 280, 281, 0, 7, 14, 24, 31, 36, 54, 63, 69, 85, 91, 100, 161, 283, 284, 288, 289, 290, 291] : List Nat), (fun q => Cond.instanceMethod (mj_my q)) q ∈ mj_mw := mj_yy_ok (ix := [2147, 2155, 2164, 2159, 2167, 2180, 2176, 2171, 2184, 2188, 526, 330, 399, 492, 366, 289, 201, 157, 422, 151, 452, 143, 1527, 949, 953, 994, 998, 1002, 1006]) rfl (by decide +kernel)
set_option maxRecDepth 1000000 in
theorem gQv : ∀ q ∈ ([1, 2, 3, 4, 5, 6, 8, 9, 10, 11, 12, 13, 15, 16, 17, 18, 19, 20, 21, 22, 23, 25, 26, 27, 28, 29, 30, 32, 33, 34, 35, 37, 38, 39, 40, 41, 42, 43, 44, 45] ++ [46, 47, 48, 49, 50, 51, 52, 53, 55, 56, 57, 58, 59, 60, 61, 62, 64, 65, 66, 67, 68, 70, 71, 72, 73, 74, 75, 76, 77, 78, 79, 80, 81, 82, 83, 84, 86, 87, 88, 89] ++ [90, 92, 93, 94, 95, 96, 97, 98, 99, 101, 102, 103, 104, 105, 106, 107, 108, 109, 110, 111, 112, 113, 114, 115, 116, 117, 118, 119, 120, 121, 122, 123, 124, 125, 126, 127, 128, 129, 130, 131] ++ [132, 133, 134, 135, 136, 137, 140, 141, 142, 143, 144, 145, 146, 147, 148, 149, 152, 153, 154, 155, 156, 157, 158, 162, 163, 165, 167, 168, 169, 172, 175, 176, 177, 178, 179, 180, 181, 182, 185, 186] ++ [187, 188, 189, 190, 191, 192, 193, 194, 195, 196, 197, 198, 199, 200, 202, 204, 205, 206, 207, 208, 209, 210, 211, 212, 213, 214, 215, 216, 217, 218, 219, 220, 221, 222, 223, 224, 225, 226, 227, 228] ++ [229, 230, 231, 232, 233, 234, 235, 236, 237, 238, 239, 240, 241, 242, 243, 245, 246, 247, 248, 249, 250, 251, 252, 253, 254, 255, 256, 257, 258, 259, 260, 261, 262, 263, 264, 265, 266, 267, 270, 271] ++ [272, 273, 274, 275, 276, 277, 278, 279, 280, 281, 0, 7, 14, 24, 31, 36, 54, 63, 69, 85, 91, 100, 161, 283, 284, 288, 289, 290, 291] : List Nat), ((fun q => Cond.instanceMethod (mj_my q)) q) ∈ mj_mw := by
  intro q hq
  simp only [List.mem_append] at hq
  rcases hq with (((((hq | hq) | hq) | hq) | hq) | hq) | hq
  · exact gQv_0 q hq
  · exact gQv_1 q hq
  · exact gQv_2 q hq
  · exact gQv_3 q hq
  · exact gQv_4 q hq
  · exact gQv_5 q hq
  · exact gQv_6 q hq
def gQvl : List Nat := [1, 2, 3, 4, 5, 6, 8, 9, 10, 11, 12, 13, 15, 16, 17, 18, 19, 20, 21, 22, 23, 25, 26, 27, 28, 29, 30, 32, 33, 34, 35, 37, 38, 39, 40, 41, 42, 43, 44, 45] ++ [46, 47, 48, 49, 50, 51, 52, 53, 55, 56, 57, 58, 59, 60, 61, 62, 64, 65, 66, 67, 68, 70, 71, 72, 73, 74, 75, 76, 77, 78, 79, 80, 81, 82, 83, 84, 86, 87, 88, 89] ++ [90, 92, 93, 94, 95, 96, 97, 98, 99, 101, 102, 103, 104, 105, 106, 107, 108, 109, 110, 111, 112, 113, 114, 115, 116, 117, 118, 119, 120, 121, 122, 123, 124, 125, 126, 127, 128, 129, 130, 131] ++ [132, 133, 134, 135, 136, 137, 140, 141, 142, 143, 144, 145, 146, 147, 148, 149, 152, 153, 154, 155, 156, 157, 158, 162, 163, 165, 167, 168, 169, 172, 175, 176, 177, 178, 179, 180, 181, 182, 185, 186] ++ [187, 188, 189, 190, 191, 192, 193, 194, 195, 196, 197, 198, 199, 200, 202, 204, 205, 206, 207, 208, 209, 210, 211, 212, 213, 214, 215, 216, 217, 218, 219, 220, 221, 222, 223, 224, 225, 226, 227, 228] ++ [229, 230, 231, 232, 233, 234, 235, 236, 237, 238, 239, 240, 241, 242, 243, 245, 246, 247, 248, 249, 250, 251, 252, 253, 254, 255, 256, 257, 258, 259, 260, 261, 262, 263, 264, 265, 266, 267, 270, 271] ++ [272, 273, 274, 275, 276, 277, 278, 279, 280, 281, 0, 7, 14, 24, 31, 36, 54, 63, 69, 85, 91, 100, 161, 283, 284, 288, 289, 290, 291]
set_option maxRecDepth 1000000 in
theorem gQs_0 : ∀ q ∈ ([1, 2, 3, 4, 5, 6, 8, 9, 10, 11, 12, 13, 15, 16, 17, 18, 19, 20, 21, 22, 23, 25, 26, 27, 28, 29, 30, 32, 33, 34, 35, 37, 38, 39, 40, 41, 42, 43, 44, 45] : List Nat), (fun q => Cond.selects (mj_my q).cls (mj_my q) (mj_my q)) q ∈ mj_mw := mj_yy_ok (ix := [1467, 45, 46, 47, 48, 1493, 1125, 842, 622, 703, 1373, 1384, 695, 682, 791, 787, 1406, 1337, 661, 3, 4, 1389, 40, 41, 42, 1421, 1425, 634, 802, 2, 1522, 930, 18, 14, 15, 16, 26, 27, 17, 19]) rfl (by decide +kernel)
set_option maxRecDepth 1000000 in
theorem gQs_1 : ∀ q ∈ ([46, 47, 48, 49, 50, 51, 52, 53, 55, 56, 57, 58, 59, 60, 61, 62, 64, 65, 66, 67, 68, 70, 71, 72, 73, 74, 75, 76, 77, 78, 79, 80, 81, 82, 83, 84, 86, 87, 88, 89] : List Nat), (fun q => Cond.selects (mj_my q).cls (mj_my q) (mj_my q)) q ∈ mj_mw := mj_yy_ok (ix := [20, 21, 22, 23, 28, 29, 24, 25, 209, 652, 728, 1117, 1121, 1354, 1093, 656, 162, 846, 626, 707, 1137, 719, 744, 764, 760, 1141, 740, 732, 752, 8, 814, 10, 1504, 830, 12, 11, 935, 645, 724, 1350]) rfl (by decide +kernel)
set_option maxRecDepth 1000000 in
theorem gQs_2 : ∀ q ∈ ([90, 92, 93, 94, 95, 96, 97, 98, 99, 101, 102, 103, 104, 105, 106, 107, 108, 109, 110, 111, 112, 113, 114, 115, 116, 117, 118, 119, 120, 121, 122, 123, 124, 125, 126, 127, 128, 129, 130, 131] : List Nat), (fun q => Cond.selects (mj_my q).cls (mj_my q) (mj_my q)) q ∈ mj_mw := mj_yy_ok (ix := [39, 776, 1277, 34, 33, 1296, 35, 37, 36, 606, 0, 860, 614, 1133, 1165, 1180, 1192, 618, 1200, 1207, 1215, 1222, 699, 1233, 1244, 1251, 1258, 1265, 1511, 711, 736, 748, 1273, 768, 1292, 1317, 1518, 1324, 38, 1346]) rfl (by decide +kernel)
set_option maxRecDepth 1000000 in
theorem gQs_3 : ∀ q ∈ ([132, 133, 134, 135, 136, 137, 140, 141, 142, 143, 144, 145, 146, 147, 148, 149, 152, 153, 154, 155, 156, 157, 158, 162, 163, 165, 167, 168, 169, 172, 175, 176, 177, 178, 179, 180, 181, 182, 185, 186] : List Nat), (fun q => Cond.selects (mj_my q).cls (mj_my q) (mj_my q)) q ∈ mj_mw := mj_yy_ok (ix := [783, 1369, 806, 1380, 1417, 1432, 1446, 43, 44, 810, 1462, 1500, 826, 838, 852, 30, 9, 1, 7, 32, 31, 5, 6, 1723, 50, 71, 1727, 49, 52, 51, 55, 57, 53, 62, 70, 58, 59, 66, 67, 64]) rfl (by decide +kernel)
set_option maxRecDepth 1000000 in
theorem gQs_4 : ∀ q ∈ ([187, 188, 189, 190, 191, 192, 193, 194, 195, 196, 197, 198, 199, 200, 202, 204, 205, 206, 207, 208, 209, 210, 211, 212, 213, 214, 215, 216, 217, 218, 219, 220, 221, 222, 223, 224, 225, 226, 227, 228] : List Nat), (fun q => Cond.selects (mj_my q).cls (mj_my q) (mj_my q)) q ∈ mj_mw := mj_yy_ok (ix := [65, 61, 63, 68, 69, 60, 56, 54, 1735, 1846, 85, 84, 1850, 94, 79, 78, 77, 76, 83, 89, 91, 88, 87, 90, 86, 93, 72, 73, 75, 82, 74, 1854, 80, 81, 1902, 1922, 1926, 1930, 1966, 1970]) rfl (by decide +kernel)
set_option maxRecDepth 1000000 in
theorem gQs_5 : ∀ q ∈ ([229, 230, 231, 232, 233, 234, 235, 236, 237, 238, 239, 240, 241, 242, 243, 245, 246, 247, 248, 249, 250, 251, 252, 253, 254, 255, 256, 257, 258, 259, 260, 261, 262, 263, 264, 265, 266, 267, 270, 271] : List Nat), (fun q => Cond.selects (mj_my q).cls (mj_my q) (mj_my q)) q ∈ mj_mw := mj_yy_ok (ix := [1974, 1978, 92, 1982, 1998, 2002, 2006, 2010, 2014, 2018, 95, 2022, 2030, 2034, 96, 97, 98, 2038, 2057, 2061, 102, 101, 103, 104, 100, 99, 2065, 2093, 105, 2097, 106, 2105, 2113, 2117, 107, 108, 2121, 2134, 2138, 109]) rfl (by decide +kernel)
set_option maxRecDepth 1000000 in
theorem gQs_6 : ∀ q ∈ ([272, 273, 274, 275, 276, 277, 278, 279, 280, 281, 283, 284, 288, 289, 290, 291] : List Nat), (fun q => Cond.selects (mj_my q).cls (mj_my q) (mj_my q)) q ∈ mj_mw := mj_yy_ok (ix := [2148, 2156, 110, 2160, 2168, 112, 111, 2172, 2185, 2189, 950, 954, 995, 999, 1003, 1007]) rfl (by decide +kernel)
set_option maxRecDepth 1000000 in
theorem gQs : ∀ q ∈ ([1, 2, 3, 4, 5, 6, 8, 9, 10, 11, 12, 13, 15, 16, 17, 18, 19, 20, 21, 22, 23, 25, 26, 27, 28, 29, 30, 32, 33, 34, 35, 37, 38, 39, 40, 41, 42, 43, 44, 45] ++ [46, 47, 48, 49, 50, 51, 52, 53, 55, 56, 57, 58, 59, 60, 61, 62, 64, 65, 66, 67, 68, 70, 71, 72, 73, 74, 75, 76, 77, 78, 79, 80, 81, 82, 83, 84, 86, 87, 88, 89] ++ [90, 92, 93, 94, 95, 96, 97, 98, 99, 101, 102, 103, 104, 105, 106, 107, 108, 109, 110, 111, 112, 113, 114, 115, 116, 117, 118, 119, 120, 121, 122, 123, 124, 125, 126, 127, 128, 129, 130, 131] ++ [132, 133, 134, 135, 136, 137, 140, 141, 142, 143, 144, 145, 146, 147, 148, 149, 152, 153, 154, 155, 156, 157, 158, 162, 163, 165, 167, 168, 169, 172, 175, 176, 177, 178, 179, 180, 181, 182, 185, 186] ++ [187, 188, 189, 190, 191, 192, 193, 194, 195, 196, 197, 198, 199, 200, 202, 204, 205, 206, 207, 208, 209, 210, 211, 212, 213, 214, 215, 216, 217, 218, 219, 220, 221, 222, 223, 224, 225, 226, 227, 228] ++ [229, 230, 231, 232, 233, 234, 235, 236, 237, 238, 239, 240, 241, 242, 243, 245, 246, 247, 248, 249, 250, 251, 252, 253, 254, 255, 256, 257, 258, 259, 260, 261, 262, 263, 264, 265, 266, 267, 270, 271] ++ [272, 273, 274, 275, 276, 277, 278, 279, 280, 281, 283, 284, 288, 289, 290, 291] : List Nat), ((fun q => Cond.selects (mj_my q).cls (mj_my q) (mj_my q)) q) ∈ mj_mw := by
  intro q hq
  simp only [List.mem_append] at hq
  rcases hq with (((((hq | hq) | hq) | hq) | hq) | hq) | hq
  · exact gQs_0 q hq
  · exact gQs_1 q hq
  · exact gQs_2 q hq
  · exact gQs_3 q hq
  · exact gQs_4 q hq
  · exact gQs_5 q hq
  · exact gQs_6 q hq
def gQsl : List Nat := [1, 2, 3, 4, 5, 6, 8, 9, 10, 11, 12, 13, 15, 16, 17, 18, 19, 20, 21, 22, 23, 25, 26, 27, 28, 29, 30, 32, 33, 34, 35, 37, 38, 39, 40, 41, 42, 43, 44, 45] ++ [46, 47, 48, 49, 50, 51, 52, 53, 55, 56, 57, 58, 59, 60, 61, 62, 64, 65, 66, 67, 68, 70, 71, 72, 73, 74, 75, 76, 77, 78, 79, 80, 81, 82, 83, 84, 86, 87, 88, 89] ++ [90, 92, 93, 94, 95, 96, 97, 98, 99, 101, 102, 103, 104, 105, 106, 107, 108, 109, 110, 111, 112, 113, 114, 115, 116, 117, 118, 119, 120, 121, 122, 123, 124, 125, 126, 127, 128, 129, 130, 131] ++ [132, 133, 134, 135, 136, 137, 140, 141, 142, 143, 144, 145, 146, 147, 148, 149, 152, 153, 154, 155, 156, 157, 158, 162, 163, 165, 167, 168, 169, 172, 175, 176, 177, 178, 179, 180, 181, 182, 185, 186] ++ [187, 188, 189, 190, 191, 192, 193, 194, 195, 196, 197, 198, 199, 200, 202, 204, 205, 206, 207, 208, 209, 210, 211, 212, 213, 214, 215, 216, 217, 218, 219, 220, 221, 222, 223, 224, 225, 226, 227, 228] ++ [229, 230, 231, 232, 233, 234, 235, 236, 237, 238, 239, 240, 241, 242, 243, 245, 246, 247, 248, 249, 250, 251, 252, 253, 254, 255, 256, 257, 258, 259, 260, 261, 262, 263, 264, 265, 266, 267, 270, 271] ++ [272, 273, 274, 275, 276, 277, 278, 279, 280, 281, 283, 284, 288, 289, 290, 291]
set_option maxRecDepth 1000000 in
theorem gQt_0 : ∀ q ∈ ([138, 139, 150, 151, 159, 160, 164, 166, 170, 171, 173, 174, 183, 184, 201, 203, 244, 268, 269, 282, 285, 286, 287, 292, 293, 294, 295, 296, 297, 298, 299, 300, 301, 302, 303, 304, 305, 306, 307, 308] : List Nat), (fun q => Cond.static (mj_my q)) q ∈ mj_mw := mj_yy_ok (ix := [1436, 1439, 1327, 1236, 671, 678, 1857, 1898, 1750, 1753, 1771, 1768, 1823, 1826, 1895, 1888, 2049, 2144, 2141, 795, 959, 962, 967, 1010, 1018, 1013, 855, 1128, 1161, 1176, 1188, 1196, 1203, 1211, 1218, 1229, 1240, 1247, 1254, 1261]) rfl (by decide +kernel)
set_option maxRecDepth 1000000 in
theorem gQt_1 : ∀ q ∈ ([309, 310, 311, 312, 313, 314, 315, 316, 317, 318, 319, 320, 321, 322] : List Nat), (fun q => Cond.static (mj_my q)) q ∈ mj_mw := mj_yy_ok (ix := [1269, 1288, 1313, 1320, 1342, 1365, 1376, 1413, 1428, 1442, 1458, 1496, 1507, 1514]) rfl (by decide +kernel)
set_option maxRecDepth 1000000 in
theorem gQt : ∀ q ∈ ([138, 139, 150, 151, 159, 160, 164, 166, 170, 171, 173, 174, 183, 184, 201, 203, 244, 268, 269, 282, 285, 286, 287, 292, 293, 294, 295, 296, 297, 298, 299, 300, 301, 302, 303, 304, 305, 306, 307, 308] ++ [309, 310, 311, 312, 313, 314, 315, 316, 317, 318, 319, 320, 321, 322] : List Nat), ((fun q => Cond.static (mj_my q)) q) ∈ mj_mw := by
  intro q hq
  simp only [List.mem_append] at hq
  rcases hq with hq | hq
  · exact gQt_0 q hq
  · exact gQt_1 q hq
def gQtl : List Nat := [138, 139, 150, 151, 159, 160, 164, 166, 170, 171, 173, 174, 183, 184, 201, 203, 244, 268, 269, 282, 285, 286, 287, 292, 293, 294, 295, 296, 297, 298, 299, 300, 301, 302, 303, 304, 305, 306, 307, 308] ++ [309, 310, 311, 312, 313, 314, 315, 316, 317, 318, 319, 320, 321, 322]
theorem mj_fcQ_ok : mj_fcQ := by
  intro q hq
  have h1 : mj_kd.all (fun q => decide (q.2 ∈ gQcl) && decide (q.2 ∈ gQil) && (decide (q.1 ≠ 0) || (decide (q.2 ∈ gQvl) && decide (q.2 ∈ gQsl) && decide (mj_mo q.2 < 13))) && (decide (q.1 ≠ 1) || decide (q.2 ∈ gQtl)) && (decide (q.1 ≠ 2) || (decide (q.2 ∈ gQvl) && decide (mj_mr q.2 = none) && decide ((mj_my q.2).name = "<init>"))) && decide (q.2 < 324) && decide (mj_ml q.2 ≤ 60)) = true := by decide +kernel
  have h2 := List.all_eq_true.mp h1 q hq
  simp only [Bool.and_eq_true, Bool.or_eq_true, decide_eq_true_eq] at h2
  obtain ⟨⟨⟨⟨⟨⟨a1, a2⟩, a3⟩, a4⟩, a5⟩, a6⟩, a7⟩ := h2
  have h3 : mj_kd.all (fun q => decide ((mj_my q.2).cls = mj_cn (mj_mo q.2)) && decide ((mj_my q.2).cls ≠ "java/lang/invoke/MethodHandle") && decide ((mj_my q.2).cls ≠ "java/lang/invoke/VarHandle") && ((parseMethodDescriptor (mj_my q.2).desc).map (fun d => d.parameters.length) == some (mj_mn q.2))) = true := by decide +kernel
  have h4 := List.all_eq_true.mp h3 q hq
  simp only [Bool.and_eq_true, decide_eq_true_eq, beq_iff_eq] at h4
  obtain ⟨⟨⟨b1, b2⟩, b3⟩, b4⟩ := h4
  have h5 : mj_kd.all (fun q => (decide (q.1 ≠ 3) || (decide (q.2 ∈ gQvl) && decide (q.2 ∈ gQsl) && decide (mj_mo q.2 = 15))) && (decide (q.1 ≠ 4) || (decide (q.2 ∈ gQtl) && decide (mj_hh q.2 ≠ []))) && (decide (q.1 = 4) || decide (mj_hh q.2 = []))) = true := by decide +kernel
  have h6 := List.all_eq_true.mp h5 q hq
  simp only [Bool.and_eq_true, Bool.or_eq_true, decide_eq_true_eq] at h6
  obtain ⟨⟨c1, c2⟩, c3⟩ := h6
  refine ⟨a6, gQc _ a1, b1, b2, b3, b4, gQi _ a2, a7, fun e => ?_, fun e => ?_, fun e => ?_, fun e => ?_, fun e => ?_, fun e => ?_⟩
  · rcases a3 with a3 | a3
    · exact absurd e a3
    · exact ⟨gQv _ a3.1.1, gQs _ a3.1.2, a3.2⟩
  · rcases a4 with a4 | a4
    · exact absurd e a4
    · exact gQt _ a4
  · rcases a5 with a5 | a5
    · exact absurd e a5
    · exact ⟨gQv _ a5.1.1, a5.2, a5.1.2⟩
  · rcases c1 with c1 | c1
    · exact absurd e c1
    · exact ⟨gQv _ c1.1.1, gQs _ c1.1.2, c1.2⟩
  · rcases c2 with c2 | c2
    · exact absurd e c2
    · exact ⟨gQt _ c2.1, c2.2⟩
  · rcases c3 with c3 | c3
    · exact absurd c3 e
    · exact c3
end
section
/-! the words that a throw takes -/
set_option maxRecDepth 100000 in
theorem gT0 : ∀ w ∈ (mj_xw RX11 0).filter goodWord, w ∈ lw_tbl := by decide +kernel
set_option maxRecDepth 100000 in
theorem gU0 : (mj_xw RX11 0).all (fun w => goodWord w || decide (w = .castable "java/util/NoSuchElementException" "java/util/NoSuchElementException") || decide (w ∈ mj_dc.map (fun y => Cond.declares (Bundle.initS y)))) = true := by decide +kernel
set_option maxRecDepth 100000 in
theorem gV0 : (mj_xw RX11 0).all vx_ot = true := by decide +kernel
theorem gW0 : ∀ w ∈ (mj_xw RX11 0), w ∈ mj_mw ∨ w = .castable "java/util/NoSuchElementException" "java/util/NoSuchElementException" ∨ ∃ y ∈ mj_dc, w = .declares (Bundle.initS y) := by
  intro w hw
  have h := List.all_eq_true.mp gU0 w hw
  simp only [Bool.or_eq_true, decide_eq_true_eq] at h
  rcases h with (h | h) | h
  · exact Or.inl (List.mem_filter.mpr ⟨gT0 w (List.mem_filter.mpr ⟨hw, h⟩), h⟩)
  · exact Or.inr (Or.inl h)
  · obtain ⟨y, hy, e⟩ := List.mem_map.mp h
    exact Or.inr (Or.inr ⟨y, hy, e.symm⟩)
set_option maxRecDepth 100000 in
theorem gT1 : ∀ w ∈ (mj_xw RX11 1).filter goodWord, w ∈ lw_tbl := by decide +kernel
set_option maxRecDepth 100000 in
theorem gU1 : (mj_xw RX11 1).all (fun w => goodWord w || decide (w = .castable "java/lang/IllegalArgumentException" "java/lang/IllegalArgumentException") || decide (w ∈ mj_dc.map (fun y => Cond.declares (Bundle.initS y)))) = true := by decide +kernel
set_option maxRecDepth 100000 in
theorem gV1 : (mj_xw RX11 1).all vx_ot = true := by decide +kernel
theorem gW1 : ∀ w ∈ (mj_xw RX11 1), w ∈ mj_mw ∨ w = .castable "java/lang/IllegalArgumentException" "java/lang/IllegalArgumentException" ∨ ∃ y ∈ mj_dc, w = .declares (Bundle.initS y) := by
  intro w hw
  have h := List.all_eq_true.mp gU1 w hw
  simp only [Bool.or_eq_true, decide_eq_true_eq] at h
  rcases h with (h | h) | h
  · exact Or.inl (List.mem_filter.mpr ⟨gT1 w (List.mem_filter.mpr ⟨hw, h⟩), h⟩)
  · exact Or.inr (Or.inl h)
  · obtain ⟨y, hy, e⟩ := List.mem_map.mp h
    exact Or.inr (Or.inr ⟨y, hy, e.symm⟩)
set_option maxRecDepth 100000 in
theorem gX0 : Cond.classLink RX11 170 "java/util/NoSuchElementException" ∈ lw_tbl ∧ Cond.initialized "java/util/NoSuchElementException" ∈ lw_tbl ∧ Cond.classLink RX11 122 "java/lang/IllegalArgumentException" ∈ lw_tbl ∧ Cond.initialized "java/lang/IllegalArgumentException" ∈ lw_tbl := by decide +kernel
theorem mj_mwg {w : Cond} (h : w ∈ lw_tbl) (g : goodWord w = true) : w ∈ mj_mw := List.mem_filter.mpr ⟨h, g⟩
theorem mj_fcT_ok : mj_fcT := by
  intro q hq
  have h : mj_pT.all (fun q => decide (q.1 = 11) && (decide (q.2.1 = 0 ∧ q.2.2.2 = 170) || decide (q.2.1 = 1 ∧ q.2.2.2 = 122))) = true := by decide +kernel
  have h2 := List.all_eq_true.mp h q hq
  obtain ⟨q1, q2, q3, q4⟩ := q
  simp only [Bool.and_eq_true, Bool.or_eq_true, decide_eq_true_eq] at h2
  obtain ⟨rfl, ⟨rfl, rfl⟩ | ⟨rfl, rfl⟩⟩ := h2
  · refine ⟨by show 0 < 2; omega, mj_mwg gX0.1 rfl, mj_mwg gX0.2.1 rfl, gW0, ?_⟩
    intro w hw
    rcases List.mem_cons.mp hw with rfl | hw
    · rfl
    · rcases List.mem_cons.mp hw with rfl | hw
      · rfl
      · exact List.all_eq_true.mp gV0 w hw
  · refine ⟨by show 1 < 2; omega, mj_mwg gX0.2.2.1 rfl, mj_mwg gX0.2.2.2 rfl, gW1, ?_⟩
    intro w hw
    rcases List.mem_cons.mp hw with rfl | hw
    · rfl
    · rcases List.mem_cons.mp hw with rfl | hw
      · rfl
      · exact List.all_eq_true.mp gV1 w hw
theorem mj_FC_ok : mj_FC := ⟨mj_fcF_ok, mj_fcK_ok, mj_fcS_ok, mj_fcI_ok, mj_fcJ_ok, mj_fcO_ok, mj_fcA_ok, mj_fcC_ok, mj_fcR_ok, mj_fcM_ok, mj_fcQ_ok, mj_fcT_ok, mj_fcV_ok, mj_fcH_ok, mj_fcX_ok⟩
theorem mj_cll : mj_codel.length = 324 := by decide +kernel
end
section
/-! each method's list against its bytes -/
def mj_okb (mm : Nat) : Bool := mj_ckL mm (mj_code mm 0) && (mj_pc (mj_code mm 0) == 0) && plainName (mj_my mm).cls && decide ((mj_my mm).cls = mj_cn (mj_mo mm))
theorem ok_0 : (List.range' 0 10).all mj_okb = true := by decide +kernel
theorem ok_10 : (List.range' 10 10).all mj_okb = true := by decide +kernel
theorem ok_20 : (List.range' 20 10).all mj_okb = true := by decide +kernel
theorem ok_30 : (List.range' 30 10).all mj_okb = true := by decide +kernel
theorem ok_40 : (List.range' 40 10).all mj_okb = true := by decide +kernel
theorem ok_50 : (List.range' 50 10).all mj_okb = true := by decide +kernel
theorem ok_60 : (List.range' 60 10).all mj_okb = true := by decide +kernel
end
section
/-! each method's list against its bytes -/
theorem ok_70 : (List.range' 70 10).all mj_okb = true := by decide +kernel
theorem ok_80 : (List.range' 80 10).all mj_okb = true := by decide +kernel
theorem ok_90 : (List.range' 90 10).all mj_okb = true := by decide +kernel
theorem ok_100 : (List.range' 100 10).all mj_okb = true := by decide +kernel
theorem ok_110 : (List.range' 110 10).all mj_okb = true := by decide +kernel
theorem ok_120 : (List.range' 120 10).all mj_okb = true := by decide +kernel
theorem ok_130 : (List.range' 130 10).all mj_okb = true := by decide +kernel
end
section
/-! each method's list against its bytes -/
theorem ok_140 : (List.range' 140 10).all mj_okb = true := by decide +kernel
theorem ok_150 : (List.range' 150 10).all mj_okb = true := by decide +kernel
theorem ok_160 : (List.range' 160 10).all mj_okb = true := by decide +kernel
theorem ok_170 : (List.range' 170 10).all mj_okb = true := by decide +kernel
theorem ok_180 : (List.range' 180 10).all mj_okb = true := by decide +kernel
theorem ok_190 : (List.range' 190 10).all mj_okb = true := by decide +kernel
theorem ok_200 : (List.range' 200 10).all mj_okb = true := by decide +kernel
end
section
/-! each method's list against its bytes -/
theorem ok_210 : (List.range' 210 10).all mj_okb = true := by decide +kernel
theorem ok_220 : (List.range' 220 10).all mj_okb = true := by decide +kernel
theorem ok_230 : (List.range' 230 10).all mj_okb = true := by decide +kernel
theorem ok_240 : (List.range' 240 10).all mj_okb = true := by decide +kernel
theorem ok_250 : (List.range' 250 10).all mj_okb = true := by decide +kernel
theorem ok_260 : (List.range' 260 10).all mj_okb = true := by decide +kernel
theorem ok_270 : (List.range' 270 10).all mj_okb = true := by decide +kernel
end
section
/-! each method's list against its bytes -/
theorem ok_280 : (List.range' 280 10).all mj_okb = true := by decide +kernel
theorem ok_290 : (List.range' 290 10).all mj_okb = true := by decide +kernel
theorem ok_300 : (List.range' 300 10).all mj_okb = true := by decide +kernel
theorem ok_310 : (List.range' 310 10).all mj_okb = true := by decide +kernel
theorem ok_320 : (List.range' 320 3).all mj_okb = true := by decide +kernel
end
section
theorem mj_okb_ok {mm : Nat} (h : mj_okb mm = true) : mj_ckL mm (mj_code mm 0) = true ∧ mj_pc (mj_code mm 0) = 0 ∧ plainName (mj_my mm).cls = true ∧ (mj_my mm).cls = mj_cn (mj_mo mm) := by
  simp only [mj_okb, Bool.and_eq_true, beq_iff_eq, decide_eq_true_eq] at h
  exact ⟨h.1.1.1, h.1.1.2, h.1.2, h.2⟩
theorem mj_okr {a n mm : Nat} (h : (List.range' a n).all mj_okb = true) (h1 : a ≤ mm) (h2 : mm < a + n) : mj_okb mm = true := List.all_eq_true.mp h mm (List.mem_range'_1.mpr ⟨h1, h2⟩)
theorem mj_okall : ∀ mm, mm < 323 → mj_okb mm = true := by
  intro mm h
  rcases Nat.lt_or_ge mm 10 with g0 | g0
  · exact mj_okr ok_0 (by omega) (by omega)
  rcases Nat.lt_or_ge mm 20 with g1 | g1
  · exact mj_okr ok_10 (by omega) (by omega)
  rcases Nat.lt_or_ge mm 30 with g2 | g2
  · exact mj_okr ok_20 (by omega) (by omega)
  rcases Nat.lt_or_ge mm 40 with g3 | g3
  · exact mj_okr ok_30 (by omega) (by omega)
  rcases Nat.lt_or_ge mm 50 with g4 | g4
  · exact mj_okr ok_40 (by omega) (by omega)
  rcases Nat.lt_or_ge mm 60 with g5 | g5
  · exact mj_okr ok_50 (by omega) (by omega)
  rcases Nat.lt_or_ge mm 70 with g6 | g6
  · exact mj_okr ok_60 (by omega) (by omega)
  rcases Nat.lt_or_ge mm 80 with g7 | g7
  · exact mj_okr ok_70 (by omega) (by omega)
  rcases Nat.lt_or_ge mm 90 with g8 | g8
  · exact mj_okr ok_80 (by omega) (by omega)
  rcases Nat.lt_or_ge mm 100 with g9 | g9
  · exact mj_okr ok_90 (by omega) (by omega)
  rcases Nat.lt_or_ge mm 110 with g10 | g10
  · exact mj_okr ok_100 (by omega) (by omega)
  rcases Nat.lt_or_ge mm 120 with g11 | g11
  · exact mj_okr ok_110 (by omega) (by omega)
  rcases Nat.lt_or_ge mm 130 with g12 | g12
  · exact mj_okr ok_120 (by omega) (by omega)
  rcases Nat.lt_or_ge mm 140 with g13 | g13
  · exact mj_okr ok_130 (by omega) (by omega)
  rcases Nat.lt_or_ge mm 150 with g14 | g14
  · exact mj_okr ok_140 (by omega) (by omega)
  rcases Nat.lt_or_ge mm 160 with g15 | g15
  · exact mj_okr ok_150 (by omega) (by omega)
  rcases Nat.lt_or_ge mm 170 with g16 | g16
  · exact mj_okr ok_160 (by omega) (by omega)
  rcases Nat.lt_or_ge mm 180 with g17 | g17
  · exact mj_okr ok_170 (by omega) (by omega)
  rcases Nat.lt_or_ge mm 190 with g18 | g18
  · exact mj_okr ok_180 (by omega) (by omega)
  rcases Nat.lt_or_ge mm 200 with g19 | g19
  · exact mj_okr ok_190 (by omega) (by omega)
  rcases Nat.lt_or_ge mm 210 with g20 | g20
  · exact mj_okr ok_200 (by omega) (by omega)
  rcases Nat.lt_or_ge mm 220 with g21 | g21
  · exact mj_okr ok_210 (by omega) (by omega)
  rcases Nat.lt_or_ge mm 230 with g22 | g22
  · exact mj_okr ok_220 (by omega) (by omega)
  rcases Nat.lt_or_ge mm 240 with g23 | g23
  · exact mj_okr ok_230 (by omega) (by omega)
  rcases Nat.lt_or_ge mm 250 with g24 | g24
  · exact mj_okr ok_240 (by omega) (by omega)
  rcases Nat.lt_or_ge mm 260 with g25 | g25
  · exact mj_okr ok_250 (by omega) (by omega)
  rcases Nat.lt_or_ge mm 270 with g26 | g26
  · exact mj_okr ok_260 (by omega) (by omega)
  rcases Nat.lt_or_ge mm 280 with g27 | g27
  · exact mj_okr ok_270 (by omega) (by omega)
  rcases Nat.lt_or_ge mm 290 with g28 | g28
  · exact mj_okr ok_280 (by omega) (by omega)
  rcases Nat.lt_or_ge mm 300 with g29 | g29
  · exact mj_okr ok_290 (by omega) (by omega)
  rcases Nat.lt_or_ge mm 310 with g30 | g30
  · exact mj_okr ok_300 (by omega) (by omega)
  rcases Nat.lt_or_ge mm 320 with g31 | g31
  · exact mj_okr ok_310 (by omega) (by omega)
  exact mj_okr ok_320 (by omega) (by omega)
end
